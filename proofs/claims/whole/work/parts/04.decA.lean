theorem dX9_init_0 : decode cX9_init 0 = .ok (.aload_n 0, 1) := by decide +kernel
theorem dX9_init_1 : decode cX9_init 1 = .ok (.invokespecial 3, 3) := by decide +kernel
theorem dX9_init_4 : decode cX9_init 4 = .ok (.aload_n 0, 1) := by decide +kernel
theorem dX9_init_5 : decode cX9_init 5 = .ok (.bipush 80, 2) := by decide +kernel
theorem dX9_init_7 : decode cX9_init 7 = .ok (.newarray .int, 2) := by decide +kernel
theorem dX9_init_9 : decode cX9_init 9 = .ok (.putfield 9, 3) := by decide +kernel
theorem dX9_init_12 : decode cX9_init 12 = .ok (.aload_n 0, 1) := by decide +kernel
theorem dX9_init_13 : decode cX9_init 13 = .ok (.bipush 80, 2) := by decide +kernel
theorem dX9_init_15 : decode cX9_init 15 = .ok (.newarray .int, 2) := by decide +kernel
theorem dX9_init_17 : decode cX9_init 17 = .ok (.putfield 13, 3) := by decide +kernel
theorem dX9_init_20 : decode cX9_init 20 = .ok (.aload_n 0, 1) := by decide +kernel
theorem dX9_init_21 : decode cX9_init 21 = .ok (.sipush 480, 3) := by decide +kernel
theorem dX9_init_24 : decode cX9_init 24 = .ok (.newarray .int, 2) := by decide +kernel
theorem dX9_init_26 : decode cX9_init 26 = .ok (.putfield 16, 3) := by decide +kernel
theorem dX9_init_29 : decode cX9_init 29 = .ok (.aload_n 0, 1) := by decide +kernel
theorem dX9_init_30 : decode cX9_init 30 = .ok (.sipush 180, 3) := by decide +kernel
theorem dX9_init_33 : decode cX9_init 33 = .ok (.newarray .int, 2) := by decide +kernel
theorem dX9_init_35 : decode cX9_init 35 = .ok (.putfield 19, 3) := by decide +kernel
theorem dX9_init_38 : decode cX9_init 38 = .ok (.aload_n 0, 1) := by decide +kernel
theorem dX9_init_39 : decode cX9_init 39 = .ok (.iconst (-1), 1) := by decide +kernel
theorem dX9_init_40 : decode cX9_init 40 = .ok (.putfield 22, 3) := by decide +kernel
theorem dX9_init_43 : decode cX9_init 43 = .ok (.aload_n 0, 1) := by decide +kernel
theorem dX9_init_44 : decode cX9_init 44 = .ok (.bipush 45, 2) := by decide +kernel
theorem dX9_init_46 : decode cX9_init 46 = .ok (.newarray .int, 2) := by decide +kernel
theorem dX9_init_48 : decode cX9_init 48 = .ok (.putfield 26, 3) := by decide +kernel
theorem dX9_init_51 : decode cX9_init 51 = .ok (.aload_n 0, 1) := by decide +kernel
theorem dX9_init_52 : decode cX9_init 52 = .ok (.bipush 12, 2) := by decide +kernel
theorem dX9_init_54 : decode cX9_init 54 = .ok (.newarray .int, 2) := by decide +kernel
theorem dX9_init_56 : decode cX9_init 56 = .ok (.putfield 29, 3) := by decide +kernel
theorem dX9_init_59 : decode cX9_init 59 = .ok (.aload_n 0, 1) := by decide +kernel
theorem dX9_init_60 : decode cX9_init 60 = .ok (.bipush 12, 2) := by decide +kernel
theorem dX9_init_62 : decode cX9_init 62 = .ok (.newarray .int, 2) := by decide +kernel
theorem dX9_init_64 : decode cX9_init 64 = .ok (.putfield 32, 3) := by decide +kernel
theorem dX9_init_67 : decode cX9_init 67 = .ok (.aload_n 0, 1) := by decide +kernel
theorem dX9_init_68 : decode cX9_init 68 = .ok (.sipush 2880, 3) := by decide +kernel
theorem dX9_init_71 : decode cX9_init 71 = .ok (.newarray .int, 2) := by decide +kernel
theorem dX9_init_73 : decode cX9_init 73 = .ok (.putfield 35, 3) := by decide +kernel
theorem dX9_init_76 : decode cX9_init 76 = .ok (.aload_n 0, 1) := by decide +kernel
theorem dX9_init_77 : decode cX9_init 77 = .ok (.sipush 200, 3) := by decide +kernel
theorem dX9_init_80 : decode cX9_init 80 = .ok (.newarray .int, 2) := by decide +kernel
theorem dX9_init_82 : decode cX9_init 82 = .ok (.putfield 38, 3) := by decide +kernel
theorem dX9_init_85 : decode cX9_init 85 = .ok (.aload_n 0, 1) := by decide +kernel
theorem dX9_init_86 : decode cX9_init 86 = .ok (.getfield 9, 3) := by decide +kernel
theorem dX9_init_89 : decode cX9_init 89 = .ok (.iconst 2, 1) := by decide +kernel
theorem dX9_init_90 : decode cX9_init 90 = .ok (.iconst 1, 1) := by decide +kernel
theorem dX9_init_91 : decode cX9_init 91 = .ok (.iastore, 1) := by decide +kernel
theorem dX9_init_92 : decode cX9_init 92 = .ok (.aload_n 0, 1) := by decide +kernel
theorem dX9_init_93 : decode cX9_init 93 = .ok (.getfield 9, 3) := by decide +kernel
theorem dX9_init_96 : decode cX9_init 96 = .ok (.iconst 4, 1) := by decide +kernel
theorem dX9_init_97 : decode cX9_init 97 = .ok (.bipush 36, 2) := by decide +kernel
theorem dX9_init_99 : decode cX9_init 99 = .ok (.iastore, 1) := by decide +kernel
theorem dX9_init_100 : decode cX9_init 100 = .ok (.aload_n 0, 1) := by decide +kernel
theorem dX9_init_101 : decode cX9_init 101 = .ok (.getfield 9, 3) := by decide +kernel
theorem dX9_init_104 : decode cX9_init 104 = .ok (.iconst 5, 1) := by decide +kernel
theorem dX9_init_105 : decode cX9_init 105 = .ok (.bipush 72, 2) := by decide +kernel
theorem dX9_init_107 : decode cX9_init 107 = .ok (.iastore, 1) := by decide +kernel
theorem dX9_init_108 : decode cX9_init 108 = .ok (.aload_n 0, 1) := by decide +kernel
theorem dX9_init_109 : decode cX9_init 109 = .ok (.getfield 9, 3) := by decide +kernel
theorem dX9_init_112 : decode cX9_init 112 = .ok (.bipush 6, 2) := by decide +kernel
theorem dX9_init_114 : decode cX9_init 114 = .ok (.bipush 16, 2) := by decide +kernel
theorem dX9_init_116 : decode cX9_init 116 = .ok (.iastore, 1) := by decide +kernel
theorem dX9_init_117 : decode cX9_init 117 = .ok (.iconst 1, 1) := by decide +kernel
theorem dX9_init_118 : decode cX9_init 118 = .ok (.istore_n 1, 1) := by decide +kernel
theorem dX9_init_119 : decode cX9_init 119 = .ok (.iload_n 1, 1) := by decide +kernel
theorem dX9_init_120 : decode cX9_init 120 = .ok (.bipush 16, 2) := by decide +kernel
theorem dX9_init_122 : decode cX9_init 122 = .ok (.if_icmp .gt 19, 3) := by decide +kernel
theorem dX9_init_125 : decode cX9_init 125 = .ok (.aload_n 0, 1) := by decide +kernel
theorem dX9_init_126 : decode cX9_init 126 = .ok (.getfield 9, 3) := by decide +kernel
theorem dX9_init_129 : decode cX9_init 129 = .ok (.bipush 6, 2) := by decide +kernel
theorem dX9_init_131 : decode cX9_init 131 = .ok (.iload_n 1, 1) := by decide +kernel
theorem dX9_init_132 : decode cX9_init 132 = .ok (.iadd, 1) := by decide +kernel
theorem dX9_init_133 : decode cX9_init 133 = .ok (.iconst 1, 1) := by decide +kernel
theorem dX9_init_134 : decode cX9_init 134 = .ok (.iastore, 1) := by decide +kernel
theorem dX9_init_135 : decode cX9_init 135 = .ok (.iinc 1 1, 3) := by decide +kernel
theorem dX9_init_138 : decode cX9_init 138 = .ok (.goto (-19), 3) := by decide +kernel
theorem dX9_init_141 : decode cX9_init 141 = .ok (.return_, 1) := by decide +kernel
theorem dX9_thrown_0 : decode cX9_thrown 0 = .ok (.aload_n 0, 1) := by decide +kernel
theorem dX9_thrown_1 : decode cX9_thrown 1 = .ok (.getfield 41, 3) := by decide +kernel
theorem dX9_thrown_4 : decode cX9_thrown 4 = .ok (.ireturn, 1) := by decide +kernel
theorem dX9_in_0 : decode cX9_in 0 = .ok (.iload_n 0, 1) := by decide +kernel
theorem dX9_in_1 : decode cX9_in 1 = .ok (.iload_n 1, 1) := by decide +kernel
theorem dX9_in_2 : decode cX9_in 2 = .ok (.if_icmp .lt 12, 3) := by decide +kernel
theorem dX9_in_5 : decode cX9_in 5 = .ok (.iload_n 0, 1) := by decide +kernel
theorem dX9_in_6 : decode cX9_in 6 = .ok (.iload_n 2, 1) := by decide +kernel
theorem dX9_in_7 : decode cX9_in 7 = .ok (.if_icmp .gt 7, 3) := by decide +kernel
theorem dX9_in_10 : decode cX9_in 10 = .ok (.iconst 1, 1) := by decide +kernel
theorem dX9_in_11 : decode cX9_in 11 = .ok (.goto 4, 3) := by decide +kernel
theorem dX9_in_14 : decode cX9_in 14 = .ok (.iconst 0, 1) := by decide +kernel
theorem dX9_in_15 : decode cX9_in 15 = .ok (.ireturn, 1) := by decide +kernel
theorem dX9_raises_0 : decode cX9_raises 0 = .ok (.aload_n 0, 1) := by decide +kernel
theorem dX9_raises_1 : decode cX9_raises 1 = .ok (.iload_n 1, 1) := by decide +kernel
theorem dX9_raises_2 : decode cX9_raises 2 = .ok (.putfield 41, 3) := by decide +kernel
theorem dX9_raises_5 : decode cX9_raises 5 = .ok (.iconst 0, 1) := by decide +kernel
theorem dX9_raises_6 : decode cX9_raises 6 = .ok (.ireturn, 1) := by decide +kernel
theorem dX9_changes_0 : decode cX9_changes 0 = .ok (.aload_n 0, 1) := by decide +kernel
theorem dX9_changes_1 : decode cX9_changes 1 = .ok (.getfield 44, 3) := by decide +kernel
theorem dX9_changes_4 : decode cX9_changes 4 = .ok (.bipush 6, 2) := by decide +kernel
theorem dX9_changes_6 : decode cX9_changes 6 = .ok (.if_icmp .ne 43, 3) := by decide +kernel
theorem dX9_changes_9 : decode cX9_changes 9 = .ok (.iconst 0, 1) := by decide +kernel
theorem dX9_changes_10 : decode cX9_changes 10 = .ok (.istore_n 1, 1) := by decide +kernel
theorem dX9_changes_11 : decode cX9_changes 11 = .ok (.iload_n 1, 1) := by decide +kernel
theorem dX9_changes_12 : decode cX9_changes 12 = .ok (.sipush 400, 3) := by decide +kernel
theorem dX9_changes_15 : decode cX9_changes 15 = .ok (.if_icmp .ge 24, 3) := by decide +kernel
theorem dX9_changes_18 : decode cX9_changes 18 = .ok (.aload_n 0, 1) := by decide +kernel
theorem dX9_changes_19 : decode cX9_changes 19 = .ok (.getfield 16, 3) := by decide +kernel
theorem dX9_changes_22 : decode cX9_changes 22 = .ok (.iload_n 1, 1) := by decide +kernel
theorem dX9_changes_23 : decode cX9_changes 23 = .ok (.aload_n 0, 1) := by decide +kernel
theorem dX9_changes_24 : decode cX9_changes 24 = .ok (.getfield 16, 3) := by decide +kernel
theorem dX9_changes_27 : decode cX9_changes 27 = .ok (.iload_n 1, 1) := by decide +kernel
theorem dX9_changes_28 : decode cX9_changes 28 = .ok (.bipush 80, 2) := by decide +kernel
theorem dX9_changes_30 : decode cX9_changes 30 = .ok (.iadd, 1) := by decide +kernel
theorem dX9_changes_31 : decode cX9_changes 31 = .ok (.iaload, 1) := by decide +kernel
theorem dX9_changes_32 : decode cX9_changes 32 = .ok (.iastore, 1) := by decide +kernel
theorem dX9_changes_33 : decode cX9_changes 33 = .ok (.iinc 1 1, 3) := by decide +kernel
theorem dX9_changes_36 : decode cX9_changes 36 = .ok (.goto (-25), 3) := by decide +kernel
theorem dX9_changes_39 : decode cX9_changes 39 = .ok (.aload_n 0, 1) := by decide +kernel
theorem dX9_changes_40 : decode cX9_changes 40 = .ok (.dup, 1) := by decide +kernel
theorem dX9_changes_41 : decode cX9_changes 41 = .ok (.getfield 44, 3) := by decide +kernel
theorem dX9_changes_44 : decode cX9_changes 44 = .ok (.iconst 1, 1) := by decide +kernel
theorem dX9_changes_45 : decode cX9_changes 45 = .ok (.isub, 1) := by decide +kernel
theorem dX9_changes_46 : decode cX9_changes 46 = .ok (.putfield 44, 3) := by decide +kernel
theorem dX9_changes_49 : decode cX9_changes 49 = .ok (.iconst 0, 1) := by decide +kernel
theorem dX9_changes_50 : decode cX9_changes 50 = .ok (.istore_n 1, 1) := by decide +kernel
theorem dX9_changes_51 : decode cX9_changes 51 = .ok (.iload_n 1, 1) := by decide +kernel
theorem dX9_changes_52 : decode cX9_changes 52 = .ok (.bipush 80, 2) := by decide +kernel
theorem dX9_changes_54 : decode cX9_changes 54 = .ok (.if_icmp .ge 29, 3) := by decide +kernel
theorem dX9_changes_57 : decode cX9_changes 57 = .ok (.aload_n 0, 1) := by decide +kernel
theorem dX9_changes_58 : decode cX9_changes 58 = .ok (.getfield 16, 3) := by decide +kernel
theorem dX9_changes_61 : decode cX9_changes 61 = .ok (.bipush 80, 2) := by decide +kernel
theorem dX9_changes_63 : decode cX9_changes 63 = .ok (.aload_n 0, 1) := by decide +kernel
theorem dX9_changes_64 : decode cX9_changes 64 = .ok (.getfield 44, 3) := by decide +kernel
theorem dX9_changes_67 : decode cX9_changes 67 = .ok (.imul, 1) := by decide +kernel
theorem dX9_changes_68 : decode cX9_changes 68 = .ok (.iload_n 1, 1) := by decide +kernel
theorem dX9_changes_69 : decode cX9_changes 69 = .ok (.iadd, 1) := by decide +kernel
theorem dX9_changes_70 : decode cX9_changes 70 = .ok (.aload_n 0, 1) := by decide +kernel
theorem dX9_changes_71 : decode cX9_changes 71 = .ok (.getfield 9, 3) := by decide +kernel
theorem dX9_changes_74 : decode cX9_changes 74 = .ok (.iload_n 1, 1) := by decide +kernel
theorem dX9_changes_75 : decode cX9_changes 75 = .ok (.iaload, 1) := by decide +kernel
theorem dX9_changes_76 : decode cX9_changes 76 = .ok (.iastore, 1) := by decide +kernel
theorem dX9_changes_77 : decode cX9_changes 77 = .ok (.iinc 1 1, 3) := by decide +kernel
theorem dX9_changes_80 : decode cX9_changes 80 = .ok (.goto (-29), 3) := by decide +kernel
theorem dX9_changes_83 : decode cX9_changes 83 = .ok (.aload_n 0, 1) := by decide +kernel
theorem dX9_changes_84 : decode cX9_changes 84 = .ok (.dup, 1) := by decide +kernel
theorem dX9_changes_85 : decode cX9_changes 85 = .ok (.getfield 44, 3) := by decide +kernel
theorem dX9_changes_88 : decode cX9_changes 88 = .ok (.iconst 1, 1) := by decide +kernel
theorem dX9_changes_89 : decode cX9_changes 89 = .ok (.iadd, 1) := by decide +kernel
theorem dX9_changes_90 : decode cX9_changes 90 = .ok (.putfield 44, 3) := by decide +kernel
theorem dX9_changes_93 : decode cX9_changes 93 = .ok (.return_, 1) := by decide +kernel
theorem dX9_sets_0 : decode cX9_sets 0 = .ok (.aload_n 0, 1) := by decide +kernel
theorem dX9_sets_1 : decode cX9_sets 1 = .ok (.invokevirtual 47, 3) := by decide +kernel
theorem dX9_sets_4 : decode cX9_sets 4 = .ok (.aload_n 0, 1) := by decide +kernel
theorem dX9_sets_5 : decode cX9_sets 5 = .ok (.getfield 9, 3) := by decide +kernel
theorem dX9_sets_8 : decode cX9_sets 8 = .ok (.iload_n 1, 1) := by decide +kernel
theorem dX9_sets_9 : decode cX9_sets 9 = .ok (.iaload, 1) := by decide +kernel
theorem dX9_sets_10 : decode cX9_sets 10 = .ok (.istore_n 3, 1) := by decide +kernel
theorem dX9_sets_11 : decode cX9_sets 11 = .ok (.aload_n 0, 1) := by decide +kernel
theorem dX9_sets_12 : decode cX9_sets 12 = .ok (.getfield 9, 3) := by decide +kernel
theorem dX9_sets_15 : decode cX9_sets 15 = .ok (.iload_n 1, 1) := by decide +kernel
theorem dX9_sets_16 : decode cX9_sets 16 = .ok (.iload_n 2, 1) := by decide +kernel
theorem dX9_sets_17 : decode cX9_sets 17 = .ok (.iastore, 1) := by decide +kernel
theorem dX9_sets_18 : decode cX9_sets 18 = .ok (.iload_n 3, 1) := by decide +kernel
theorem dX9_sets_19 : decode cX9_sets 19 = .ok (.ireturn, 1) := by decide +kernel
theorem dX9_stepOf_0 : decode cX9_stepOf 0 = .ok (.iload_n 0, 1) := by decide +kernel
theorem dX9_stepOf_1 : decode cX9_stepOf 1 = .ok (.iconst 3, 1) := by decide +kernel
theorem dX9_stepOf_2 : decode cX9_stepOf 2 = .ok (.idiv, 1) := by decide +kernel
theorem dX9_stepOf_3 : decode cX9_stepOf 3 = .ok (.ireturn, 1) := by decide +kernel
theorem dX9_alterationOf_0 : decode cX9_alterationOf 0 = .ok (.iload_n 0, 1) := by decide +kernel
theorem dX9_alterationOf_1 : decode cX9_alterationOf 1 = .ok (.iconst 3, 1) := by decide +kernel
theorem dX9_alterationOf_2 : decode cX9_alterationOf 2 = .ok (.irem, 1) := by decide +kernel
theorem dX9_alterationOf_3 : decode cX9_alterationOf 3 = .ok (.iconst 1, 1) := by decide +kernel
theorem dX9_alterationOf_4 : decode cX9_alterationOf 4 = .ok (.isub, 1) := by decide +kernel
theorem dX9_alterationOf_5 : decode cX9_alterationOf 5 = .ok (.ireturn, 1) := by decide +kernel
theorem dX9_pitchOf_0 : decode cX9_pitchOf 0 = .ok (.iload_n 0, 1) := by decide +kernel
theorem dX9_pitchOf_1 : decode cX9_pitchOf 1 = .ok (.invokestatic 49, 3) := by decide +kernel
theorem dX9_pitchOf_4 : decode cX9_pitchOf 4 = .ok (.bipush 7, 2) := by decide +kernel
theorem dX9_pitchOf_6 : decode cX9_pitchOf 6 = .ok (.irem, 1) := by decide +kernel
theorem dX9_pitchOf_7 : decode cX9_pitchOf 7 = .ok (.istore_n 1, 1) := by decide +kernel
theorem dX9_pitchOf_8 : decode cX9_pitchOf 8 = .ok (.bipush 12, 2) := by decide +kernel
theorem dX9_pitchOf_10 : decode cX9_pitchOf 10 = .ok (.iload_n 0, 1) := by decide +kernel
theorem dX9_pitchOf_11 : decode cX9_pitchOf 11 = .ok (.invokestatic 49, 3) := by decide +kernel
theorem dX9_pitchOf_14 : decode cX9_pitchOf 14 = .ok (.bipush 7, 2) := by decide +kernel
theorem dX9_pitchOf_16 : decode cX9_pitchOf 16 = .ok (.idiv, 1) := by decide +kernel
theorem dX9_pitchOf_17 : decode cX9_pitchOf 17 = .ok (.imul, 1) := by decide +kernel
theorem dX9_pitchOf_18 : decode cX9_pitchOf 18 = .ok (.iconst 2, 1) := by decide +kernel
theorem dX9_pitchOf_19 : decode cX9_pitchOf 19 = .ok (.iload_n 1, 1) := by decide +kernel
theorem dX9_pitchOf_20 : decode cX9_pitchOf 20 = .ok (.imul, 1) := by decide +kernel
theorem dX9_pitchOf_21 : decode cX9_pitchOf 21 = .ok (.iadd, 1) := by decide +kernel
theorem dX9_pitchOf_22 : decode cX9_pitchOf 22 = .ok (.iload_n 1, 1) := by decide +kernel
theorem dX9_pitchOf_23 : decode cX9_pitchOf 23 = .ok (.iconst 2, 1) := by decide +kernel
theorem dX9_pitchOf_24 : decode cX9_pitchOf 24 = .ok (.if_icmp .le 7, 3) := by decide +kernel
theorem dX9_pitchOf_27 : decode cX9_pitchOf 27 = .ok (.iconst 1, 1) := by decide +kernel
theorem dX9_pitchOf_28 : decode cX9_pitchOf 28 = .ok (.goto 4, 3) := by decide +kernel
theorem dX9_pitchOf_31 : decode cX9_pitchOf 31 = .ok (.iconst 0, 1) := by decide +kernel
theorem dX9_pitchOf_32 : decode cX9_pitchOf 32 = .ok (.isub, 1) := by decide +kernel
theorem dX9_pitchOf_33 : decode cX9_pitchOf 33 = .ok (.iload_n 0, 1) := by decide +kernel
theorem dX9_pitchOf_34 : decode cX9_pitchOf 34 = .ok (.invokestatic 53, 3) := by decide +kernel
theorem dX9_pitchOf_37 : decode cX9_pitchOf 37 = .ok (.iadd, 1) := by decide +kernel
theorem dX9_pitchOf_38 : decode cX9_pitchOf 38 = .ok (.ireturn, 1) := by decide +kernel
theorem dX9_steps_0 : decode cX9_steps 0 = .ok (.iload_n 0, 1) := by decide +kernel
theorem dX9_steps_1 : decode cX9_steps 1 = .ok (.invokestatic 49, 3) := by decide +kernel
theorem dX9_steps_4 : decode cX9_steps 4 = .ok (.iload_n 1, 1) := by decide +kernel
theorem dX9_steps_5 : decode cX9_steps 5 = .ok (.invokestatic 49, 3) := by decide +kernel
theorem dX9_steps_8 : decode cX9_steps 8 = .ok (.isub, 1) := by decide +kernel
theorem dX9_steps_9 : decode cX9_steps 9 = .ok (.invokestatic 56, 3) := by decide +kernel
theorem dX9_steps_12 : decode cX9_steps 12 = .ok (.ireturn, 1) := by decide +kernel
theorem dX9_width_0 : decode cX9_width 0 = .ok (.iload_n 0, 1) := by decide +kernel
theorem dX9_width_1 : decode cX9_width 1 = .ok (.invokestatic 61, 3) := by decide +kernel
theorem dX9_width_4 : decode cX9_width 4 = .ok (.iload_n 1, 1) := by decide +kernel
theorem dX9_width_5 : decode cX9_width 5 = .ok (.invokestatic 61, 3) := by decide +kernel
theorem dX9_width_8 : decode cX9_width 8 = .ok (.isub, 1) := by decide +kernel
theorem dX9_width_9 : decode cX9_width 9 = .ok (.invokestatic 56, 3) := by decide +kernel
theorem dX9_width_12 : decode cX9_width 12 = .ok (.ireturn, 1) := by decide +kernel
theorem dX9_perfect_0 : decode cX9_perfect 0 = .ok (.iload_n 0, 1) := by decide +kernel
theorem dX9_perfect_1 : decode cX9_perfect 1 = .ok (.iload_n 1, 1) := by decide +kernel
theorem dX9_perfect_2 : decode cX9_perfect 2 = .ok (.invokestatic 64, 3) := by decide +kernel
theorem dX9_perfect_5 : decode cX9_perfect 5 = .ok (.bipush 7, 2) := by decide +kernel
theorem dX9_perfect_7 : decode cX9_perfect 7 = .ok (.irem, 1) := by decide +kernel
theorem dX9_perfect_8 : decode cX9_perfect 8 = .ok (.istore_n 2, 1) := by decide +kernel
theorem dX9_perfect_9 : decode cX9_perfect 9 = .ok (.iload_n 0, 1) := by decide +kernel
theorem dX9_perfect_10 : decode cX9_perfect 10 = .ok (.iload_n 1, 1) := by decide +kernel
theorem dX9_perfect_11 : decode cX9_perfect 11 = .ok (.invokestatic 68, 3) := by decide +kernel
theorem dX9_perfect_14 : decode cX9_perfect 14 = .ok (.bipush 12, 2) := by decide +kernel
theorem dX9_perfect_16 : decode cX9_perfect 16 = .ok (.irem, 1) := by decide +kernel
theorem dX9_perfect_17 : decode cX9_perfect 17 = .ok (.istore_n 3, 1) := by decide +kernel
theorem dX9_perfect_18 : decode cX9_perfect 18 = .ok (.iload_n 2, 1) := by decide +kernel
theorem dX9_perfect_19 : decode cX9_perfect 19 = .ok (.ifCond .ne 12, 3) := by decide +kernel
theorem dX9_perfect_22 : decode cX9_perfect 22 = .ok (.iload_n 3, 1) := by decide +kernel
theorem dX9_perfect_23 : decode cX9_perfect 23 = .ok (.ifCond .ne 8, 3) := by decide +kernel
theorem dX9_perfect_26 : decode cX9_perfect 26 = .ok (.bipush 8, 2) := by decide +kernel
theorem dX9_perfect_28 : decode cX9_perfect 28 = .ok (.goto 19, 3) := by decide +kernel
theorem dX9_perfect_31 : decode cX9_perfect 31 = .ok (.iload_n 2, 1) := by decide +kernel
theorem dX9_perfect_32 : decode cX9_perfect 32 = .ok (.iconst 4, 1) := by decide +kernel
theorem dX9_perfect_33 : decode cX9_perfect 33 = .ok (.if_icmp .ne 13, 3) := by decide +kernel
theorem dX9_perfect_36 : decode cX9_perfect 36 = .ok (.iload_n 3, 1) := by decide +kernel
theorem dX9_perfect_37 : decode cX9_perfect 37 = .ok (.bipush 7, 2) := by decide +kernel
theorem dX9_perfect_39 : decode cX9_perfect 39 = .ok (.if_icmp .ne 7, 3) := by decide +kernel
theorem dX9_perfect_42 : decode cX9_perfect 42 = .ok (.iconst 5, 1) := by decide +kernel
theorem dX9_perfect_43 : decode cX9_perfect 43 = .ok (.goto 4, 3) := by decide +kernel
theorem dX9_perfect_46 : decode cX9_perfect 46 = .ok (.iconst 0, 1) := by decide +kernel
theorem dX9_perfect_47 : decode cX9_perfect 47 = .ok (.ireturn, 1) := by decide +kernel
theorem dX9_isConsonant_0 : decode cX9_isConsonant 0 = .ok (.iload_n 0, 1) := by decide +kernel
theorem dX9_isConsonant_1 : decode cX9_isConsonant 1 = .ok (.iload_n 1, 1) := by decide +kernel
theorem dX9_isConsonant_2 : decode cX9_isConsonant 2 = .ok (.invokestatic 64, 3) := by decide +kernel
theorem dX9_isConsonant_5 : decode cX9_isConsonant 5 = .ok (.bipush 7, 2) := by decide +kernel
theorem dX9_isConsonant_7 : decode cX9_isConsonant 7 = .ok (.irem, 1) := by decide +kernel
theorem dX9_isConsonant_8 : decode cX9_isConsonant 8 = .ok (.istore_n 2, 1) := by decide +kernel
theorem dX9_isConsonant_9 : decode cX9_isConsonant 9 = .ok (.iload_n 0, 1) := by decide +kernel
theorem dX9_isConsonant_10 : decode cX9_isConsonant 10 = .ok (.iload_n 1, 1) := by decide +kernel
theorem dX9_isConsonant_11 : decode cX9_isConsonant 11 = .ok (.invokestatic 68, 3) := by decide +kernel
theorem dX9_isConsonant_14 : decode cX9_isConsonant 14 = .ok (.bipush 12, 2) := by decide +kernel
theorem dX9_isConsonant_16 : decode cX9_isConsonant 16 = .ok (.irem, 1) := by decide +kernel
theorem dX9_isConsonant_17 : decode cX9_isConsonant 17 = .ok (.istore_n 3, 1) := by decide +kernel
theorem dX9_isConsonant_18 : decode cX9_isConsonant 18 = .ok (.iload_n 0, 1) := by decide +kernel
theorem dX9_isConsonant_19 : decode cX9_isConsonant 19 = .ok (.iload_n 1, 1) := by decide +kernel
theorem dX9_isConsonant_20 : decode cX9_isConsonant 20 = .ok (.invokestatic 71, 3) := by decide +kernel
theorem dX9_isConsonant_23 : decode cX9_isConsonant 23 = .ok (.ifCond .gt 33, 3) := by decide +kernel
theorem dX9_isConsonant_26 : decode cX9_isConsonant 26 = .ok (.iload_n 2, 1) := by decide +kernel
theorem dX9_isConsonant_27 : decode cX9_isConsonant 27 = .ok (.iconst 2, 1) := by decide +kernel
theorem dX9_isConsonant_28 : decode cX9_isConsonant 28 = .ok (.if_icmp .ne 12, 3) := by decide +kernel
theorem dX9_isConsonant_31 : decode cX9_isConsonant 31 = .ok (.iload_n 3, 1) := by decide +kernel
theorem dX9_isConsonant_32 : decode cX9_isConsonant 32 = .ok (.iconst 3, 1) := by decide +kernel
theorem dX9_isConsonant_33 : decode cX9_isConsonant 33 = .ok (.iconst 4, 1) := by decide +kernel
theorem dX9_isConsonant_34 : decode cX9_isConsonant 34 = .ok (.invokestatic 74, 3) := by decide +kernel
theorem dX9_isConsonant_37 : decode cX9_isConsonant 37 = .ok (.ifCond .ne 19, 3) := by decide +kernel
theorem dX9_isConsonant_40 : decode cX9_isConsonant 40 = .ok (.iload_n 2, 1) := by decide +kernel
theorem dX9_isConsonant_41 : decode cX9_isConsonant 41 = .ok (.iconst 5, 1) := by decide +kernel
theorem dX9_isConsonant_42 : decode cX9_isConsonant 42 = .ok (.if_icmp .ne 18, 3) := by decide +kernel
theorem dX9_isConsonant_45 : decode cX9_isConsonant 45 = .ok (.iload_n 3, 1) := by decide +kernel
theorem dX9_isConsonant_46 : decode cX9_isConsonant 46 = .ok (.bipush 8, 2) := by decide +kernel
theorem dX9_isConsonant_48 : decode cX9_isConsonant 48 = .ok (.bipush 9, 2) := by decide +kernel
theorem dX9_isConsonant_50 : decode cX9_isConsonant 50 = .ok (.invokestatic 74, 3) := by decide +kernel
theorem dX9_isConsonant_53 : decode cX9_isConsonant 53 = .ok (.ifCond .eq 7, 3) := by decide +kernel
theorem dX9_isConsonant_56 : decode cX9_isConsonant 56 = .ok (.iconst 1, 1) := by decide +kernel
theorem dX9_isConsonant_57 : decode cX9_isConsonant 57 = .ok (.goto 4, 3) := by decide +kernel
theorem dX9_isConsonant_60 : decode cX9_isConsonant 60 = .ok (.iconst 0, 1) := by decide +kernel
theorem dX9_isConsonant_61 : decode cX9_isConsonant 61 = .ok (.ireturn, 1) := by decide +kernel
theorem dX9_direction_0 : decode cX9_direction 0 = .ok (.iload_n 1, 1) := by decide +kernel
theorem dX9_direction_1 : decode cX9_direction 1 = .ok (.invokestatic 61, 3) := by decide +kernel
theorem dX9_direction_4 : decode cX9_direction 4 = .ok (.iload_n 0, 1) := by decide +kernel
theorem dX9_direction_5 : decode cX9_direction 5 = .ok (.invokestatic 61, 3) := by decide +kernel
theorem dX9_direction_8 : decode cX9_direction 8 = .ok (.invokestatic 78, 3) := by decide +kernel
theorem dX9_direction_11 : decode cX9_direction 11 = .ok (.ireturn, 1) := by decide +kernel
theorem dX9_per_0 : decode cX9_per 0 = .ok (.aload_n 0, 1) := by decide +kernel
theorem dX9_per_1 : decode cX9_per 1 = .ok (.getfield 9, 3) := by decide +kernel
theorem dX9_per_4 : decode cX9_per 4 = .ok (.iconst 2, 1) := by decide +kernel
theorem dX9_per_5 : decode cX9_per 5 = .ok (.iaload, 1) := by decide +kernel
theorem dX9_per_6 : decode cX9_per 6 = .ok (.iconst 3, 1) := by decide +kernel
theorem dX9_per_7 : decode cX9_per 7 = .ok (.if_icmp .ne 7, 3) := by decide +kernel
theorem dX9_per_10 : decode cX9_per 10 = .ok (.iconst 4, 1) := by decide +kernel
theorem dX9_per_11 : decode cX9_per 11 = .ok (.goto 18, 3) := by decide +kernel
theorem dX9_per_14 : decode cX9_per 14 = .ok (.aload_n 0, 1) := by decide +kernel
theorem dX9_per_15 : decode cX9_per 15 = .ok (.getfield 9, 3) := by decide +kernel
theorem dX9_per_18 : decode cX9_per 18 = .ok (.iconst 2, 1) := by decide +kernel
theorem dX9_per_19 : decode cX9_per 19 = .ok (.iaload, 1) := by decide +kernel
theorem dX9_per_20 : decode cX9_per 20 = .ok (.iconst 1, 1) := by decide +kernel
theorem dX9_per_21 : decode cX9_per 21 = .ok (.if_icmp .ne 7, 3) := by decide +kernel
theorem dX9_per_24 : decode cX9_per 24 = .ok (.iconst 1, 1) := by decide +kernel
theorem dX9_per_25 : decode cX9_per 25 = .ok (.goto 4, 3) := by decide +kernel
theorem dX9_per_28 : decode cX9_per 28 = .ok (.iconst 2, 1) := by decide +kernel
theorem dX9_per_29 : decode cX9_per 29 = .ok (.ireturn, 1) := by decide +kernel
theorem dX9_barOf_0 : decode cX9_barOf 0 = .ok (.iload_n 1, 1) := by decide +kernel
theorem dX9_barOf_1 : decode cX9_barOf 1 = .ok (.aload_n 0, 1) := by decide +kernel
theorem dX9_barOf_2 : decode cX9_barOf 2 = .ok (.invokevirtual 83, 3) := by decide +kernel
theorem dX9_barOf_5 : decode cX9_barOf 5 = .ok (.idiv, 1) := by decide +kernel
theorem dX9_barOf_6 : decode cX9_barOf 6 = .ok (.ireturn, 1) := by decide +kernel
theorem dX9_beatOf_0 : decode cX9_beatOf 0 = .ok (.iload_n 1, 1) := by decide +kernel
theorem dX9_beatOf_1 : decode cX9_beatOf 1 = .ok (.aload_n 0, 1) := by decide +kernel
theorem dX9_beatOf_2 : decode cX9_beatOf 2 = .ok (.invokevirtual 83, 3) := by decide +kernel
theorem dX9_beatOf_5 : decode cX9_beatOf 5 = .ok (.irem, 1) := by decide +kernel
theorem dX9_beatOf_6 : decode cX9_beatOf 6 = .ok (.ireturn, 1) := by decide +kernel
theorem dX9_line_0 : decode cX9_line 0 = .ok (.aload_n 0, 1) := by decide +kernel
theorem dX9_line_1 : decode cX9_line 1 = .ok (.getfield 9, 3) := by decide +kernel
theorem dX9_line_4 : decode cX9_line 4 = .ok (.bipush 35, 2) := by decide +kernel
theorem dX9_line_6 : decode cX9_line 6 = .ok (.iload_n 1, 1) := by decide +kernel
theorem dX9_line_7 : decode cX9_line 7 = .ok (.iadd, 1) := by decide +kernel
theorem dX9_line_8 : decode cX9_line 8 = .ok (.iaload, 1) := by decide +kernel
theorem dX9_line_9 : decode cX9_line 9 = .ok (.ireturn, 1) := by decide +kernel
theorem dX9_cantusAt_0 : decode cX9_cantusAt 0 = .ok (.aload_n 0, 1) := by decide +kernel
theorem dX9_cantusAt_1 : decode cX9_cantusAt 1 = .ok (.getfield 9, 3) := by decide +kernel
theorem dX9_cantusAt_4 : decode cX9_cantusAt 4 = .ok (.bipush 23, 2) := by decide +kernel
theorem dX9_cantusAt_6 : decode cX9_cantusAt 6 = .ok (.iload_n 1, 1) := by decide +kernel
theorem dX9_cantusAt_7 : decode cX9_cantusAt 7 = .ok (.iadd, 1) := by decide +kernel
theorem dX9_cantusAt_8 : decode cX9_cantusAt 8 = .ok (.iaload, 1) := by decide +kernel
theorem dX9_cantusAt_9 : decode cX9_cantusAt 9 = .ok (.ireturn, 1) := by decide +kernel
theorem dX9_hasLine_0 : decode cX9_hasLine 0 = .ok (.aload_n 0, 1) := by decide +kernel
theorem dX9_hasLine_1 : decode cX9_hasLine 1 = .ok (.getfield 9, 3) := by decide +kernel
theorem dX9_hasLine_4 : decode cX9_hasLine 4 = .ok (.iconst 1, 1) := by decide +kernel
theorem dX9_hasLine_5 : decode cX9_hasLine 5 = .ok (.iaload, 1) := by decide +kernel
theorem dX9_hasLine_6 : decode cX9_hasLine 6 = .ok (.ifCond .le 7, 3) := by decide +kernel
theorem dX9_hasLine_9 : decode cX9_hasLine 9 = .ok (.iconst 1, 1) := by decide +kernel
theorem dX9_hasLine_10 : decode cX9_hasLine 10 = .ok (.goto 4, 3) := by decide +kernel
theorem dX9_hasLine_13 : decode cX9_hasLine 13 = .ok (.iconst 0, 1) := by decide +kernel
theorem dX9_hasLine_14 : decode cX9_hasLine 14 = .ok (.ireturn, 1) := by decide +kernel
theorem dX9_place_0 : decode cX9_place 0 = .ok (.iload_n 1, 1) := by decide +kernel
theorem dX9_place_1 : decode cX9_place 1 = .ok (.iconst 0, 1) := by decide +kernel
theorem dX9_place_2 : decode cX9_place 2 = .ok (.aload_n 0, 1) := by decide +kernel
theorem dX9_place_3 : decode cX9_place 3 = .ok (.getfield 9, 3) := by decide +kernel
theorem dX9_place_6 : decode cX9_place 6 = .ok (.iconst 0, 1) := by decide +kernel
theorem dX9_place_7 : decode cX9_place 7 = .ok (.iaload, 1) := by decide +kernel
theorem dX9_place_8 : decode cX9_place 8 = .ok (.iconst 1, 1) := by decide +kernel
theorem dX9_place_9 : decode cX9_place 9 = .ok (.isub, 1) := by decide +kernel
theorem dX9_place_10 : decode cX9_place 10 = .ok (.invokestatic 74, 3) := by decide +kernel
theorem dX9_place_13 : decode cX9_place 13 = .ok (.ifCond .ne 5, 3) := by decide +kernel
theorem dX9_place_16 : decode cX9_place 16 = .ok (.iconst (-1), 1) := by decide +kernel
theorem dX9_place_17 : decode cX9_place 17 = .ok (.ireturn, 1) := by decide +kernel
theorem dX9_place_18 : decode cX9_place 18 = .ok (.iload_n 2, 1) := by decide +kernel
theorem dX9_place_19 : decode cX9_place 19 = .ok (.iconst 0, 1) := by decide +kernel
theorem dX9_place_20 : decode cX9_place 20 = .ok (.iload_n 1, 1) := by decide +kernel
theorem dX9_place_21 : decode cX9_place 21 = .ok (.aload_n 0, 1) := by decide +kernel
theorem dX9_place_22 : decode cX9_place 22 = .ok (.getfield 9, 3) := by decide +kernel
theorem dX9_place_25 : decode cX9_place 25 = .ok (.iconst 0, 1) := by decide +kernel
theorem dX9_place_26 : decode cX9_place 26 = .ok (.iaload, 1) := by decide +kernel
theorem dX9_place_27 : decode cX9_place 27 = .ok (.iconst 1, 1) := by decide +kernel
theorem dX9_place_28 : decode cX9_place 28 = .ok (.isub, 1) := by decide +kernel
theorem dX9_place_29 : decode cX9_place 29 = .ok (.if_icmp .ne 7, 3) := by decide +kernel
theorem dX9_place_32 : decode cX9_place 32 = .ok (.iconst 0, 1) := by decide +kernel
theorem dX9_place_33 : decode cX9_place 33 = .ok (.goto 9, 3) := by decide +kernel
theorem dX9_place_36 : decode cX9_place 36 = .ok (.aload_n 0, 1) := by decide +kernel
theorem dX9_place_37 : decode cX9_place 37 = .ok (.invokevirtual 83, 3) := by decide +kernel
theorem dX9_place_40 : decode cX9_place 40 = .ok (.iconst 1, 1) := by decide +kernel
theorem dX9_place_41 : decode cX9_place 41 = .ok (.isub, 1) := by decide +kernel
theorem dX9_place_42 : decode cX9_place 42 = .ok (.invokestatic 74, 3) := by decide +kernel
theorem dX9_place_45 : decode cX9_place 45 = .ok (.ifCond .eq 14, 3) := by decide +kernel
theorem dX9_place_48 : decode cX9_place 48 = .ok (.iload_n 1, 1) := by decide +kernel
theorem dX9_place_49 : decode cX9_place 49 = .ok (.aload_n 0, 1) := by decide +kernel
theorem dX9_place_50 : decode cX9_place 50 = .ok (.invokevirtual 83, 3) := by decide +kernel
theorem dX9_place_53 : decode cX9_place 53 = .ok (.imul, 1) := by decide +kernel
theorem dX9_place_54 : decode cX9_place 54 = .ok (.iload_n 2, 1) := by decide +kernel
theorem dX9_place_55 : decode cX9_place 55 = .ok (.iadd, 1) := by decide +kernel
theorem dX9_place_56 : decode cX9_place 56 = .ok (.goto 4, 3) := by decide +kernel
theorem dX9_place_59 : decode cX9_place 59 = .ok (.iconst (-1), 1) := by decide +kernel
theorem dX9_place_60 : decode cX9_place 60 = .ok (.ireturn, 1) := by decide +kernel
theorem dX9_isNote_0 : decode cX9_isNote 0 = .ok (.iload_n 1, 1) := by decide +kernel
theorem dX9_isNote_1 : decode cX9_isNote 1 = .ok (.iconst 0, 1) := by decide +kernel
theorem dX9_isNote_2 : decode cX9_isNote 2 = .ok (.iload_n 2, 1) := by decide +kernel
theorem dX9_isNote_3 : decode cX9_isNote 3 = .ok (.iconst 1, 1) := by decide +kernel
theorem dX9_isNote_4 : decode cX9_isNote 4 = .ok (.isub, 1) := by decide +kernel
theorem dX9_isNote_5 : decode cX9_isNote 5 = .ok (.invokestatic 74, 3) := by decide +kernel
theorem dX9_isNote_8 : decode cX9_isNote 8 = .ok (.ifCond .eq 16, 3) := by decide +kernel
theorem dX9_isNote_11 : decode cX9_isNote 11 = .ok (.aload_n 0, 1) := by decide +kernel
theorem dX9_isNote_12 : decode cX9_isNote 12 = .ok (.iload_n 1, 1) := by decide +kernel
theorem dX9_isNote_13 : decode cX9_isNote 13 = .ok (.invokevirtual 87, 3) := by decide +kernel
theorem dX9_isNote_16 : decode cX9_isNote 16 = .ok (.iconst (-1), 1) := by decide +kernel
theorem dX9_isNote_17 : decode cX9_isNote 17 = .ok (.if_icmp .eq 7, 3) := by decide +kernel
theorem dX9_isNote_20 : decode cX9_isNote 20 = .ok (.iconst 1, 1) := by decide +kernel
theorem dX9_isNote_21 : decode cX9_isNote 21 = .ok (.goto 4, 3) := by decide +kernel
theorem dX9_isNote_24 : decode cX9_isNote 24 = .ok (.iconst 0, 1) := by decide +kernel
theorem dX9_isNote_25 : decode cX9_isNote 25 = .ok (.ireturn, 1) := by decide +kernel
theorem dX9_isTied_0 : decode cX9_isTied 0 = .ok (.aload_n 0, 1) := by decide +kernel
theorem dX9_isTied_1 : decode cX9_isTied 1 = .ok (.getfield 9, 3) := by decide +kernel
theorem dX9_isTied_4 : decode cX9_isTied 4 = .ok (.iconst 2, 1) := by decide +kernel
theorem dX9_isTied_5 : decode cX9_isTied 5 = .ok (.iaload, 1) := by decide +kernel
theorem dX9_isTied_6 : decode cX9_isTied 6 = .ok (.iconst 4, 1) := by decide +kernel
theorem dX9_isTied_7 : decode cX9_isTied 7 = .ok (.if_icmp .ne 34, 3) := by decide +kernel
theorem dX9_isTied_10 : decode cX9_isTied 10 = .ok (.iload_n 1, 1) := by decide +kernel
theorem dX9_isTied_11 : decode cX9_isTied 11 = .ok (.ifCond .le 30, 3) := by decide +kernel
theorem dX9_isTied_14 : decode cX9_isTied 14 = .ok (.aload_n 0, 1) := by decide +kernel
theorem dX9_isTied_15 : decode cX9_isTied 15 = .ok (.iload_n 1, 1) := by decide +kernel
theorem dX9_isTied_16 : decode cX9_isTied 16 = .ok (.invokevirtual 90, 3) := by decide +kernel
theorem dX9_isTied_19 : decode cX9_isTied 19 = .ok (.ifCond .ne 22, 3) := by decide +kernel
theorem dX9_isTied_22 : decode cX9_isTied 22 = .ok (.aload_n 0, 1) := by decide +kernel
theorem dX9_isTied_23 : decode cX9_isTied 23 = .ok (.iload_n 1, 1) := by decide +kernel
theorem dX9_isTied_24 : decode cX9_isTied 24 = .ok (.invokevirtual 87, 3) := by decide +kernel
theorem dX9_isTied_27 : decode cX9_isTied 27 = .ok (.aload_n 0, 1) := by decide +kernel
theorem dX9_isTied_28 : decode cX9_isTied 28 = .ok (.iload_n 1, 1) := by decide +kernel
theorem dX9_isTied_29 : decode cX9_isTied 29 = .ok (.iconst 1, 1) := by decide +kernel
theorem dX9_isTied_30 : decode cX9_isTied 30 = .ok (.isub, 1) := by decide +kernel
theorem dX9_isTied_31 : decode cX9_isTied 31 = .ok (.invokevirtual 87, 3) := by decide +kernel
theorem dX9_isTied_34 : decode cX9_isTied 34 = .ok (.if_icmp .ne 7, 3) := by decide +kernel
theorem dX9_isTied_37 : decode cX9_isTied 37 = .ok (.iconst 1, 1) := by decide +kernel
theorem dX9_isTied_38 : decode cX9_isTied 38 = .ok (.goto 4, 3) := by decide +kernel
theorem dX9_isTied_41 : decode cX9_isTied 41 = .ok (.iconst 0, 1) := by decide +kernel
theorem dX9_isTied_42 : decode cX9_isTied 42 = .ok (.ireturn, 1) := by decide +kernel
theorem dX9_isGoodMove_0 : decode cX9_isGoodMove 0 = .ok (.iload_n 1, 1) := by decide +kernel
theorem dX9_isGoodMove_1 : decode cX9_isGoodMove 1 = .ok (.iload_n 2, 1) := by decide +kernel
theorem dX9_isGoodMove_2 : decode cX9_isGoodMove 2 = .ok (.invokestatic 64, 3) := by decide +kernel
theorem dX9_isGoodMove_5 : decode cX9_isGoodMove 5 = .ok (.istore_n 3, 1) := by decide +kernel
theorem dX9_isGoodMove_6 : decode cX9_isGoodMove 6 = .ok (.iload_n 1, 1) := by decide +kernel
theorem dX9_isGoodMove_7 : decode cX9_isGoodMove 7 = .ok (.iload_n 2, 1) := by decide +kernel
theorem dX9_isGoodMove_8 : decode cX9_isGoodMove 8 = .ok (.invokestatic 68, 3) := by decide +kernel
theorem dX9_isGoodMove_11 : decode cX9_isGoodMove 11 = .ok (.istore 4, 2) := by decide +kernel
theorem dX9_isGoodMove_13 : decode cX9_isGoodMove 13 = .ok (.iload_n 3, 1) := by decide +kernel
theorem dX9_isGoodMove_14 : decode cX9_isGoodMove 14 = .ok (.tableswitch 132 0 7 #[46, 57, 65, 73, 85, 98, 132, 119], 46) := by decide +kernel
theorem dX9_isGoodMove_60 : decode cX9_isGoodMove 60 = .ok (.iload 4, 2) := by decide +kernel
theorem dX9_isGoodMove_62 : decode cX9_isGoodMove 62 = .ok (.ifCond .ne 7, 3) := by decide +kernel
theorem dX9_isGoodMove_65 : decode cX9_isGoodMove 65 = .ok (.iconst 1, 1) := by decide +kernel
theorem dX9_isGoodMove_66 : decode cX9_isGoodMove 66 = .ok (.goto 4, 3) := by decide +kernel
theorem dX9_isGoodMove_69 : decode cX9_isGoodMove 69 = .ok (.iconst 0, 1) := by decide +kernel
theorem dX9_isGoodMove_70 : decode cX9_isGoodMove 70 = .ok (.ireturn, 1) := by decide +kernel
theorem dX9_isGoodMove_71 : decode cX9_isGoodMove 71 = .ok (.iload 4, 2) := by decide +kernel
theorem dX9_isGoodMove_73 : decode cX9_isGoodMove 73 = .ok (.iconst 1, 1) := by decide +kernel
theorem dX9_isGoodMove_74 : decode cX9_isGoodMove 74 = .ok (.iconst 2, 1) := by decide +kernel
theorem dX9_isGoodMove_75 : decode cX9_isGoodMove 75 = .ok (.invokestatic 74, 3) := by decide +kernel
theorem dX9_isGoodMove_78 : decode cX9_isGoodMove 78 = .ok (.ireturn, 1) := by decide +kernel
theorem dX9_isGoodMove_79 : decode cX9_isGoodMove 79 = .ok (.iload 4, 2) := by decide +kernel
theorem dX9_isGoodMove_81 : decode cX9_isGoodMove 81 = .ok (.iconst 3, 1) := by decide +kernel
theorem dX9_isGoodMove_82 : decode cX9_isGoodMove 82 = .ok (.iconst 4, 1) := by decide +kernel
theorem dX9_isGoodMove_83 : decode cX9_isGoodMove 83 = .ok (.invokestatic 74, 3) := by decide +kernel
theorem dX9_isGoodMove_86 : decode cX9_isGoodMove 86 = .ok (.ireturn, 1) := by decide +kernel
theorem dX9_isGoodMove_87 : decode cX9_isGoodMove 87 = .ok (.iload 4, 2) := by decide +kernel
theorem dX9_isGoodMove_89 : decode cX9_isGoodMove 89 = .ok (.iconst 5, 1) := by decide +kernel
theorem dX9_isGoodMove_90 : decode cX9_isGoodMove 90 = .ok (.if_icmp .ne 7, 3) := by decide +kernel
theorem dX9_isGoodMove_93 : decode cX9_isGoodMove 93 = .ok (.iconst 1, 1) := by decide +kernel
theorem dX9_isGoodMove_94 : decode cX9_isGoodMove 94 = .ok (.goto 4, 3) := by decide +kernel
theorem dX9_isGoodMove_97 : decode cX9_isGoodMove 97 = .ok (.iconst 0, 1) := by decide +kernel
theorem dX9_isGoodMove_98 : decode cX9_isGoodMove 98 = .ok (.ireturn, 1) := by decide +kernel
theorem dX9_isGoodMove_99 : decode cX9_isGoodMove 99 = .ok (.iload 4, 2) := by decide +kernel
theorem dX9_isGoodMove_101 : decode cX9_isGoodMove 101 = .ok (.bipush 7, 2) := by decide +kernel
theorem dX9_isGoodMove_103 : decode cX9_isGoodMove 103 = .ok (.if_icmp .ne 7, 3) := by decide +kernel
theorem dX9_isGoodMove_106 : decode cX9_isGoodMove 106 = .ok (.iconst 1, 1) := by decide +kernel
theorem dX9_isGoodMove_107 : decode cX9_isGoodMove 107 = .ok (.goto 4, 3) := by decide +kernel
theorem dX9_isGoodMove_110 : decode cX9_isGoodMove 110 = .ok (.iconst 0, 1) := by decide +kernel
theorem dX9_isGoodMove_111 : decode cX9_isGoodMove 111 = .ok (.ireturn, 1) := by decide +kernel
theorem dX9_isGoodMove_112 : decode cX9_isGoodMove 112 = .ok (.iload 4, 2) := by decide +kernel
theorem dX9_isGoodMove_114 : decode cX9_isGoodMove 114 = .ok (.bipush 8, 2) := by decide +kernel
theorem dX9_isGoodMove_116 : decode cX9_isGoodMove 116 = .ok (.if_icmp .ne 15, 3) := by decide +kernel
theorem dX9_isGoodMove_119 : decode cX9_isGoodMove 119 = .ok (.iload_n 1, 1) := by decide +kernel
theorem dX9_isGoodMove_120 : decode cX9_isGoodMove 120 = .ok (.iload_n 2, 1) := by decide +kernel
theorem dX9_isGoodMove_121 : decode cX9_isGoodMove 121 = .ok (.invokestatic 93, 3) := by decide +kernel
theorem dX9_isGoodMove_124 : decode cX9_isGoodMove 124 = .ok (.ifCond .le 7, 3) := by decide +kernel
theorem dX9_isGoodMove_127 : decode cX9_isGoodMove 127 = .ok (.iconst 1, 1) := by decide +kernel
theorem dX9_isGoodMove_128 : decode cX9_isGoodMove 128 = .ok (.goto 4, 3) := by decide +kernel
theorem dX9_isGoodMove_131 : decode cX9_isGoodMove 131 = .ok (.iconst 0, 1) := by decide +kernel
theorem dX9_isGoodMove_132 : decode cX9_isGoodMove 132 = .ok (.ireturn, 1) := by decide +kernel
theorem dX9_isGoodMove_133 : decode cX9_isGoodMove 133 = .ok (.iload 4, 2) := by decide +kernel
theorem dX9_isGoodMove_135 : decode cX9_isGoodMove 135 = .ok (.bipush 12, 2) := by decide +kernel
theorem dX9_isGoodMove_137 : decode cX9_isGoodMove 137 = .ok (.if_icmp .ne 7, 3) := by decide +kernel
theorem dX9_isGoodMove_140 : decode cX9_isGoodMove 140 = .ok (.iconst 1, 1) := by decide +kernel
theorem dX9_isGoodMove_141 : decode cX9_isGoodMove 141 = .ok (.goto 4, 3) := by decide +kernel
theorem dX9_isGoodMove_144 : decode cX9_isGoodMove 144 = .ok (.iconst 0, 1) := by decide +kernel
theorem dX9_isGoodMove_145 : decode cX9_isGoodMove 145 = .ok (.ireturn, 1) := by decide +kernel
theorem dX9_isGoodMove_146 : decode cX9_isGoodMove 146 = .ok (.iconst 0, 1) := by decide +kernel
theorem dX9_isGoodMove_147 : decode cX9_isGoodMove 147 = .ok (.ireturn, 1) := by decide +kernel
theorem dX9_recover_0 : decode cX9_recover 0 = .ok (.aload_n 0, 1) := by decide +kernel
theorem dX9_recover_1 : decode cX9_recover 1 = .ok (.iload_n 1, 1) := by decide +kernel
theorem dX9_recover_2 : decode cX9_recover 2 = .ok (.iconst 2, 1) := by decide +kernel
theorem dX9_recover_3 : decode cX9_recover 3 = .ok (.isub, 1) := by decide +kernel
theorem dX9_recover_4 : decode cX9_recover 4 = .ok (.invokevirtual 87, 3) := by decide +kernel
theorem dX9_recover_7 : decode cX9_recover 7 = .ok (.aload_n 0, 1) := by decide +kernel
theorem dX9_recover_8 : decode cX9_recover 8 = .ok (.iload_n 1, 1) := by decide +kernel
theorem dX9_recover_9 : decode cX9_recover 9 = .ok (.iconst 1, 1) := by decide +kernel
theorem dX9_recover_10 : decode cX9_recover 10 = .ok (.isub, 1) := by decide +kernel
theorem dX9_recover_11 : decode cX9_recover 11 = .ok (.invokevirtual 87, 3) := by decide +kernel
theorem dX9_recover_14 : decode cX9_recover 14 = .ok (.invokestatic 64, 3) := by decide +kernel
theorem dX9_recover_17 : decode cX9_recover 17 = .ok (.istore_n 2, 1) := by decide +kernel
theorem dX9_recover_18 : decode cX9_recover 18 = .ok (.iload_n 2, 1) := by decide +kernel
theorem dX9_recover_19 : decode cX9_recover 19 = .ok (.iconst 4, 1) := by decide +kernel
theorem dX9_recover_20 : decode cX9_recover 20 = .ok (.if_icmp .ge 5, 3) := by decide +kernel
theorem dX9_recover_23 : decode cX9_recover 23 = .ok (.iconst (-1), 1) := by decide +kernel
theorem dX9_recover_24 : decode cX9_recover 24 = .ok (.ireturn, 1) := by decide +kernel
theorem dX9_recover_25 : decode cX9_recover 25 = .ok (.aload_n 0, 1) := by decide +kernel
theorem dX9_recover_26 : decode cX9_recover 26 = .ok (.iload_n 1, 1) := by decide +kernel
theorem dX9_recover_27 : decode cX9_recover 27 = .ok (.iconst 1, 1) := by decide +kernel
theorem dX9_recover_28 : decode cX9_recover 28 = .ok (.isub, 1) := by decide +kernel
theorem dX9_recover_29 : decode cX9_recover 29 = .ok (.invokevirtual 87, 3) := by decide +kernel
theorem dX9_recover_32 : decode cX9_recover 32 = .ok (.aload_n 0, 1) := by decide +kernel
theorem dX9_recover_33 : decode cX9_recover 33 = .ok (.iload_n 1, 1) := by decide +kernel
theorem dX9_recover_34 : decode cX9_recover 34 = .ok (.invokevirtual 87, 3) := by decide +kernel
theorem dX9_recover_37 : decode cX9_recover 37 = .ok (.invokestatic 64, 3) := by decide +kernel
theorem dX9_recover_40 : decode cX9_recover 40 = .ok (.iconst 1, 1) := by decide +kernel
theorem dX9_recover_41 : decode cX9_recover 41 = .ok (.if_icmp .ne 43, 3) := by decide +kernel
theorem dX9_recover_44 : decode cX9_recover 44 = .ok (.aload_n 0, 1) := by decide +kernel
theorem dX9_recover_45 : decode cX9_recover 45 = .ok (.iload_n 1, 1) := by decide +kernel
theorem dX9_recover_46 : decode cX9_recover 46 = .ok (.iconst 1, 1) := by decide +kernel
theorem dX9_recover_47 : decode cX9_recover 47 = .ok (.isub, 1) := by decide +kernel
theorem dX9_recover_48 : decode cX9_recover 48 = .ok (.invokevirtual 87, 3) := by decide +kernel
theorem dX9_recover_51 : decode cX9_recover 51 = .ok (.aload_n 0, 1) := by decide +kernel
theorem dX9_recover_52 : decode cX9_recover 52 = .ok (.iload_n 1, 1) := by decide +kernel
theorem dX9_recover_53 : decode cX9_recover 53 = .ok (.invokevirtual 87, 3) := by decide +kernel
theorem dX9_recover_56 : decode cX9_recover 56 = .ok (.invokestatic 93, 3) := by decide +kernel
theorem dX9_recover_59 : decode cX9_recover 59 = .ok (.aload_n 0, 1) := by decide +kernel
theorem dX9_recover_60 : decode cX9_recover 60 = .ok (.iload_n 1, 1) := by decide +kernel
theorem dX9_recover_61 : decode cX9_recover 61 = .ok (.iconst 2, 1) := by decide +kernel
theorem dX9_recover_62 : decode cX9_recover 62 = .ok (.isub, 1) := by decide +kernel
theorem dX9_recover_63 : decode cX9_recover 63 = .ok (.invokevirtual 87, 3) := by decide +kernel
theorem dX9_recover_66 : decode cX9_recover 66 = .ok (.aload_n 0, 1) := by decide +kernel
theorem dX9_recover_67 : decode cX9_recover 67 = .ok (.iload_n 1, 1) := by decide +kernel
theorem dX9_recover_68 : decode cX9_recover 68 = .ok (.iconst 1, 1) := by decide +kernel
theorem dX9_recover_69 : decode cX9_recover 69 = .ok (.isub, 1) := by decide +kernel
theorem dX9_recover_70 : decode cX9_recover 70 = .ok (.invokevirtual 87, 3) := by decide +kernel
theorem dX9_recover_73 : decode cX9_recover 73 = .ok (.invokestatic 93, 3) := by decide +kernel
theorem dX9_recover_76 : decode cX9_recover 76 = .ok (.imul, 1) := by decide +kernel
theorem dX9_recover_77 : decode cX9_recover 77 = .ok (.ifCond .ge 7, 3) := by decide +kernel
theorem dX9_recover_80 : decode cX9_recover 80 = .ok (.iconst 1, 1) := by decide +kernel
theorem dX9_recover_81 : decode cX9_recover 81 = .ok (.goto 4, 3) := by decide +kernel
theorem dX9_recover_84 : decode cX9_recover 84 = .ok (.iconst 0, 1) := by decide +kernel
theorem dX9_recover_85 : decode cX9_recover 85 = .ok (.istore_n 3, 1) := by decide +kernel
theorem dX9_recover_86 : decode cX9_recover 86 = .ok (.iload_n 3, 1) := by decide +kernel
theorem dX9_recover_87 : decode cX9_recover 87 = .ok (.ifCond .eq 7, 3) := by decide +kernel
theorem dX9_recover_90 : decode cX9_recover 90 = .ok (.iconst (-1), 1) := by decide +kernel
theorem dX9_recover_91 : decode cX9_recover 91 = .ok (.goto 4, 3) := by decide +kernel
theorem dX9_recover_94 : decode cX9_recover 94 = .ok (.iload_n 2, 1) := by decide +kernel
theorem dX9_recover_95 : decode cX9_recover 95 = .ok (.ireturn, 1) := by decide +kernel
theorem dX9_outline_0 : decode cX9_outline 0 = .ok (.aload_n 0, 1) := by decide +kernel
theorem dX9_outline_1 : decode cX9_outline 1 = .ok (.iload_n 1, 1) := by decide +kernel
theorem dX9_outline_2 : decode cX9_outline 2 = .ok (.iconst 2, 1) := by decide +kernel
theorem dX9_outline_3 : decode cX9_outline 3 = .ok (.isub, 1) := by decide +kernel
theorem dX9_outline_4 : decode cX9_outline 4 = .ok (.invokevirtual 87, 3) := by decide +kernel
theorem dX9_outline_7 : decode cX9_outline 7 = .ok (.aload_n 0, 1) := by decide +kernel
theorem dX9_outline_8 : decode cX9_outline 8 = .ok (.iload_n 1, 1) := by decide +kernel
theorem dX9_outline_9 : decode cX9_outline 9 = .ok (.iconst 1, 1) := by decide +kernel
theorem dX9_outline_10 : decode cX9_outline 10 = .ok (.isub, 1) := by decide +kernel
theorem dX9_outline_11 : decode cX9_outline 11 = .ok (.invokevirtual 87, 3) := by decide +kernel
theorem dX9_outline_14 : decode cX9_outline 14 = .ok (.invokestatic 64, 3) := by decide +kernel
theorem dX9_outline_17 : decode cX9_outline 17 = .ok (.istore_n 2, 1) := by decide +kernel
theorem dX9_outline_18 : decode cX9_outline 18 = .ok (.aload_n 0, 1) := by decide +kernel
theorem dX9_outline_19 : decode cX9_outline 19 = .ok (.iload_n 1, 1) := by decide +kernel
theorem dX9_outline_20 : decode cX9_outline 20 = .ok (.iconst 1, 1) := by decide +kernel
theorem dX9_outline_21 : decode cX9_outline 21 = .ok (.isub, 1) := by decide +kernel
theorem dX9_outline_22 : decode cX9_outline 22 = .ok (.invokevirtual 87, 3) := by decide +kernel
theorem dX9_outline_25 : decode cX9_outline 25 = .ok (.aload_n 0, 1) := by decide +kernel
theorem dX9_outline_26 : decode cX9_outline 26 = .ok (.iload_n 1, 1) := by decide +kernel
theorem dX9_outline_27 : decode cX9_outline 27 = .ok (.invokevirtual 87, 3) := by decide +kernel
theorem dX9_outline_30 : decode cX9_outline 30 = .ok (.invokestatic 64, 3) := by decide +kernel
theorem dX9_outline_33 : decode cX9_outline 33 = .ok (.istore_n 3, 1) := by decide +kernel
theorem dX9_outline_34 : decode cX9_outline 34 = .ok (.iload_n 2, 1) := by decide +kernel
theorem dX9_outline_35 : decode cX9_outline 35 = .ok (.iconst 1, 1) := by decide +kernel
theorem dX9_outline_36 : decode cX9_outline 36 = .ok (.if_icmp .le 48, 3) := by decide +kernel
theorem dX9_outline_39 : decode cX9_outline 39 = .ok (.iload_n 3, 1) := by decide +kernel
theorem dX9_outline_40 : decode cX9_outline 40 = .ok (.iconst 1, 1) := by decide +kernel
theorem dX9_outline_41 : decode cX9_outline 41 = .ok (.if_icmp .le 43, 3) := by decide +kernel
theorem dX9_outline_44 : decode cX9_outline 44 = .ok (.aload_n 0, 1) := by decide +kernel
theorem dX9_outline_45 : decode cX9_outline 45 = .ok (.iload_n 1, 1) := by decide +kernel
theorem dX9_outline_46 : decode cX9_outline 46 = .ok (.iconst 2, 1) := by decide +kernel
theorem dX9_outline_47 : decode cX9_outline 47 = .ok (.isub, 1) := by decide +kernel
theorem dX9_outline_48 : decode cX9_outline 48 = .ok (.invokevirtual 87, 3) := by decide +kernel
theorem dX9_outline_51 : decode cX9_outline 51 = .ok (.aload_n 0, 1) := by decide +kernel
theorem dX9_outline_52 : decode cX9_outline 52 = .ok (.iload_n 1, 1) := by decide +kernel
theorem dX9_outline_53 : decode cX9_outline 53 = .ok (.iconst 1, 1) := by decide +kernel
theorem dX9_outline_54 : decode cX9_outline 54 = .ok (.isub, 1) := by decide +kernel
theorem dX9_outline_55 : decode cX9_outline 55 = .ok (.invokevirtual 87, 3) := by decide +kernel
theorem dX9_outline_58 : decode cX9_outline 58 = .ok (.invokestatic 93, 3) := by decide +kernel
theorem dX9_outline_61 : decode cX9_outline 61 = .ok (.aload_n 0, 1) := by decide +kernel
theorem dX9_outline_62 : decode cX9_outline 62 = .ok (.iload_n 1, 1) := by decide +kernel
theorem dX9_outline_63 : decode cX9_outline 63 = .ok (.iconst 1, 1) := by decide +kernel
theorem dX9_outline_64 : decode cX9_outline 64 = .ok (.isub, 1) := by decide +kernel
theorem dX9_outline_65 : decode cX9_outline 65 = .ok (.invokevirtual 87, 3) := by decide +kernel
theorem dX9_outline_68 : decode cX9_outline 68 = .ok (.aload_n 0, 1) := by decide +kernel
theorem dX9_outline_69 : decode cX9_outline 69 = .ok (.iload_n 1, 1) := by decide +kernel
theorem dX9_outline_70 : decode cX9_outline 70 = .ok (.invokevirtual 87, 3) := by decide +kernel
theorem dX9_outline_73 : decode cX9_outline 73 = .ok (.invokestatic 93, 3) := by decide +kernel
theorem dX9_outline_76 : decode cX9_outline 76 = .ok (.imul, 1) := by decide +kernel
theorem dX9_outline_77 : decode cX9_outline 77 = .ok (.ifCond .le 7, 3) := by decide +kernel
theorem dX9_outline_80 : decode cX9_outline 80 = .ok (.iconst 1, 1) := by decide +kernel
theorem dX9_outline_81 : decode cX9_outline 81 = .ok (.goto 4, 3) := by decide +kernel
theorem dX9_outline_84 : decode cX9_outline 84 = .ok (.iconst 0, 1) := by decide +kernel
theorem dX9_outline_85 : decode cX9_outline 85 = .ok (.istore 4, 2) := by decide +kernel
theorem dX9_outline_87 : decode cX9_outline 87 = .ok (.iload 4, 2) := by decide +kernel
theorem dX9_outline_89 : decode cX9_outline 89 = .ok (.ifCond .eq 25, 3) := by decide +kernel
theorem dX9_outline_92 : decode cX9_outline 92 = .ok (.iload_n 2, 1) := by decide +kernel
theorem dX9_outline_93 : decode cX9_outline 93 = .ok (.iload_n 3, 1) := by decide +kernel
theorem dX9_outline_94 : decode cX9_outline 94 = .ok (.iadd, 1) := by decide +kernel
theorem dX9_outline_95 : decode cX9_outline 95 = .ok (.bipush 6, 2) := by decide +kernel
theorem dX9_outline_97 : decode cX9_outline 97 = .ok (.if_icmp .eq 11, 3) := by decide +kernel
theorem dX9_outline_100 : decode cX9_outline 100 = .ok (.iload_n 2, 1) := by decide +kernel
theorem dX9_outline_101 : decode cX9_outline 101 = .ok (.iload_n 3, 1) := by decide +kernel
theorem dX9_outline_102 : decode cX9_outline 102 = .ok (.iadd, 1) := by decide +kernel
theorem dX9_outline_103 : decode cX9_outline 103 = .ok (.bipush 7, 2) := by decide +kernel
theorem dX9_outline_105 : decode cX9_outline 105 = .ok (.if_icmp .le 9, 3) := by decide +kernel
theorem dX9_outline_108 : decode cX9_outline 108 = .ok (.iload_n 2, 1) := by decide +kernel
theorem dX9_outline_109 : decode cX9_outline 109 = .ok (.iload_n 3, 1) := by decide +kernel
theorem dX9_outline_110 : decode cX9_outline 110 = .ok (.iadd, 1) := by decide +kernel
theorem dX9_outline_111 : decode cX9_outline 111 = .ok (.goto 4, 3) := by decide +kernel
theorem dX9_outline_114 : decode cX9_outline 114 = .ok (.iconst (-1), 1) := by decide +kernel
theorem dX9_outline_115 : decode cX9_outline 115 = .ok (.ireturn, 1) := by decide +kernel
theorem dX9_climax_0 : decode cX9_climax 0 = .ok (.aload_n 0, 1) := by decide +kernel
theorem dX9_climax_1 : decode cX9_climax 1 = .ok (.iload_n 1, 1) := by decide +kernel
theorem dX9_climax_2 : decode cX9_climax 2 = .ok (.invokevirtual 87, 3) := by decide +kernel
theorem dX9_climax_5 : decode cX9_climax 5 = .ok (.invokestatic 61, 3) := by decide +kernel
theorem dX9_climax_8 : decode cX9_climax 8 = .ok (.istore_n 3, 1) := by decide +kernel
theorem dX9_climax_9 : decode cX9_climax 9 = .ok (.iconst 0, 1) := by decide +kernel
theorem dX9_climax_10 : decode cX9_climax 10 = .ok (.istore 4, 2) := by decide +kernel
theorem dX9_climax_12 : decode cX9_climax 12 = .ok (.iconst 0, 1) := by decide +kernel
theorem dX9_climax_13 : decode cX9_climax 13 = .ok (.istore 5, 2) := by decide +kernel
theorem dX9_climax_15 : decode cX9_climax 15 = .ok (.iconst 0, 1) := by decide +kernel
theorem dX9_climax_16 : decode cX9_climax 16 = .ok (.istore 6, 2) := by decide +kernel
theorem dX9_climax_18 : decode cX9_climax 18 = .ok (.iload 6, 2) := by decide +kernel
theorem dX9_climax_20 : decode cX9_climax 20 = .ok (.iload_n 2, 1) := by decide +kernel
theorem dX9_climax_21 : decode cX9_climax 21 = .ok (.if_icmp .ge 93, 3) := by decide +kernel
theorem dX9_climax_24 : decode cX9_climax 24 = .ok (.aload_n 0, 1) := by decide +kernel
theorem dX9_climax_25 : decode cX9_climax 25 = .ok (.iload 6, 2) := by decide +kernel
theorem dX9_climax_27 : decode cX9_climax 27 = .ok (.iload_n 2, 1) := by decide +kernel
theorem dX9_climax_28 : decode cX9_climax 28 = .ok (.invokevirtual 96, 3) := by decide +kernel
theorem dX9_climax_31 : decode cX9_climax 31 = .ok (.ifCond .ne 6, 3) := by decide +kernel
theorem dX9_climax_34 : decode cX9_climax 34 = .ok (.goto 74, 3) := by decide +kernel
theorem dX9_climax_37 : decode cX9_climax 37 = .ok (.aload_n 0, 1) := by decide +kernel
theorem dX9_climax_38 : decode cX9_climax 38 = .ok (.iload 6, 2) := by decide +kernel
theorem dX9_climax_40 : decode cX9_climax 40 = .ok (.invokevirtual 87, 3) := by decide +kernel
theorem dX9_climax_43 : decode cX9_climax 43 = .ok (.invokestatic 61, 3) := by decide +kernel
theorem dX9_climax_46 : decode cX9_climax 46 = .ok (.istore 7, 2) := by decide +kernel
theorem dX9_climax_48 : decode cX9_climax 48 = .ok (.iload 7, 2) := by decide +kernel
theorem dX9_climax_50 : decode cX9_climax 50 = .ok (.iload_n 3, 1) := by decide +kernel
theorem dX9_climax_51 : decode cX9_climax 51 = .ok (.if_icmp .le 5, 3) := by decide +kernel
theorem dX9_climax_54 : decode cX9_climax 54 = .ok (.iconst (-1), 1) := by decide +kernel
theorem dX9_climax_55 : decode cX9_climax 55 = .ok (.ireturn, 1) := by decide +kernel
theorem dX9_climax_56 : decode cX9_climax 56 = .ok (.iload 7, 2) := by decide +kernel
theorem dX9_climax_58 : decode cX9_climax 58 = .ok (.iload_n 3, 1) := by decide +kernel
theorem dX9_climax_59 : decode cX9_climax 59 = .ok (.if_icmp .eq 6, 3) := by decide +kernel
theorem dX9_climax_62 : decode cX9_climax 62 = .ok (.goto 46, 3) := by decide +kernel
theorem dX9_climax_65 : decode cX9_climax 65 = .ok (.iload 6, 2) := by decide +kernel
theorem dX9_climax_67 : decode cX9_climax 67 = .ok (.iload_n 1, 1) := by decide +kernel
theorem dX9_climax_68 : decode cX9_climax 68 = .ok (.if_icmp .ge 19, 3) := by decide +kernel
theorem dX9_climax_71 : decode cX9_climax 71 = .ok (.iload 5, 2) := by decide +kernel
theorem dX9_climax_73 : decode cX9_climax 73 = .ok (.ifCond .eq 14, 3) := by decide +kernel
theorem dX9_climax_76 : decode cX9_climax 76 = .ok (.aload_n 0, 1) := by decide +kernel
theorem dX9_climax_77 : decode cX9_climax 77 = .ok (.iload 6, 2) := by decide +kernel
theorem dX9_climax_79 : decode cX9_climax 79 = .ok (.invokevirtual 100, 3) := by decide +kernel
theorem dX9_climax_82 : decode cX9_climax 82 = .ok (.ifCond .ne 5, 3) := by decide +kernel
theorem dX9_climax_85 : decode cX9_climax 85 = .ok (.iconst (-1), 1) := by decide +kernel
theorem dX9_climax_86 : decode cX9_climax 86 = .ok (.ireturn, 1) := by decide +kernel
theorem dX9_climax_87 : decode cX9_climax 87 = .ok (.iload 6, 2) := by decide +kernel
theorem dX9_climax_89 : decode cX9_climax 89 = .ok (.iload_n 1, 1) := by decide +kernel
theorem dX9_climax_90 : decode cX9_climax 90 = .ok (.if_icmp .ge 6, 3) := by decide +kernel
theorem dX9_climax_93 : decode cX9_climax 93 = .ok (.iconst 1, 1) := by decide +kernel
theorem dX9_climax_94 : decode cX9_climax 94 = .ok (.istore 5, 2) := by decide +kernel
theorem dX9_climax_96 : decode cX9_climax 96 = .ok (.aload_n 0, 1) := by decide +kernel
theorem dX9_climax_97 : decode cX9_climax 97 = .ok (.iload 6, 2) := by decide +kernel
theorem dX9_climax_99 : decode cX9_climax 99 = .ok (.invokevirtual 100, 3) := by decide +kernel
theorem dX9_climax_102 : decode cX9_climax 102 = .ok (.ifCond .ne 6, 3) := by decide +kernel
theorem dX9_climax_105 : decode cX9_climax 105 = .ok (.iinc 4 1, 3) := by decide +kernel
theorem dX9_climax_108 : decode cX9_climax 108 = .ok (.iinc 6 1, 3) := by decide +kernel
theorem dX9_climax_111 : decode cX9_climax 111 = .ok (.goto (-93), 3) := by decide +kernel
theorem dX9_climax_114 : decode cX9_climax 114 = .ok (.iload 5, 2) := by decide +kernel
theorem dX9_climax_116 : decode cX9_climax 116 = .ok (.ifCond .eq 16, 3) := by decide +kernel
theorem dX9_climax_119 : decode cX9_climax 119 = .ok (.aload_n 0, 1) := by decide +kernel
theorem dX9_climax_120 : decode cX9_climax 120 = .ok (.iload_n 1, 1) := by decide +kernel
theorem dX9_climax_121 : decode cX9_climax 121 = .ok (.invokevirtual 100, 3) := by decide +kernel
theorem dX9_climax_124 : decode cX9_climax 124 = .ok (.ifCond .ne 8, 3) := by decide +kernel
theorem dX9_climax_127 : decode cX9_climax 127 = .ok (.iload 4, 2) := by decide +kernel
theorem dX9_climax_129 : decode cX9_climax 129 = .ok (.goto 4, 3) := by decide +kernel
theorem dX9_climax_132 : decode cX9_climax 132 = .ok (.iconst (-1), 1) := by decide +kernel
theorem dX9_climax_133 : decode cX9_climax 133 = .ok (.ireturn, 1) := by decide +kernel
theorem dX9_weak_0 : decode cX9_weak 0 = .ok (.aload_n 0, 1) := by decide +kernel
theorem dX9_weak_1 : decode cX9_weak 1 = .ok (.aload_n 0, 1) := by decide +kernel
theorem dX9_weak_2 : decode cX9_weak 2 = .ok (.iload_n 1, 1) := by decide +kernel
theorem dX9_weak_3 : decode cX9_weak 3 = .ok (.invokevirtual 104, 3) := by decide +kernel
theorem dX9_weak_6 : decode cX9_weak 6 = .ok (.invokevirtual 107, 3) := by decide +kernel
theorem dX9_weak_9 : decode cX9_weak 9 = .ok (.istore_n 3, 1) := by decide +kernel
theorem dX9_weak_10 : decode cX9_weak 10 = .ok (.aload_n 0, 1) := by decide +kernel
theorem dX9_weak_11 : decode cX9_weak 11 = .ok (.iload_n 1, 1) := by decide +kernel
theorem dX9_weak_12 : decode cX9_weak 12 = .ok (.invokevirtual 90, 3) := by decide +kernel
theorem dX9_weak_15 : decode cX9_weak 15 = .ok (.ifCond .eq 15, 3) := by decide +kernel
theorem dX9_weak_18 : decode cX9_weak 18 = .ok (.aload_n 0, 1) := by decide +kernel
theorem dX9_weak_19 : decode cX9_weak 19 = .ok (.iload_n 1, 1) := by decide +kernel
theorem dX9_weak_20 : decode cX9_weak 20 = .ok (.invokevirtual 87, 3) := by decide +kernel
theorem dX9_weak_23 : decode cX9_weak 23 = .ok (.iload_n 3, 1) := by decide +kernel
theorem dX9_weak_24 : decode cX9_weak 24 = .ok (.invokestatic 110, 3) := by decide +kernel
theorem dX9_weak_27 : decode cX9_weak 27 = .ok (.ifCond .eq 5, 3) := by decide +kernel
theorem dX9_weak_30 : decode cX9_weak 30 = .ok (.iconst (-1), 1) := by decide +kernel
theorem dX9_weak_31 : decode cX9_weak 31 = .ok (.ireturn, 1) := by decide +kernel
theorem dX9_weak_32 : decode cX9_weak 32 = .ok (.aload_n 0, 1) := by decide +kernel
theorem dX9_weak_33 : decode cX9_weak 33 = .ok (.iload_n 1, 1) := by decide +kernel
theorem dX9_weak_34 : decode cX9_weak 34 = .ok (.iconst 1, 1) := by decide +kernel
theorem dX9_weak_35 : decode cX9_weak 35 = .ok (.isub, 1) := by decide +kernel
theorem dX9_weak_36 : decode cX9_weak 36 = .ok (.iload_n 2, 1) := by decide +kernel
theorem dX9_weak_37 : decode cX9_weak 37 = .ok (.invokevirtual 96, 3) := by decide +kernel
theorem dX9_weak_40 : decode cX9_weak 40 = .ok (.ifCond .eq 56, 3) := by decide +kernel
theorem dX9_weak_43 : decode cX9_weak 43 = .ok (.aload_n 0, 1) := by decide +kernel
theorem dX9_weak_44 : decode cX9_weak 44 = .ok (.iload_n 1, 1) := by decide +kernel
theorem dX9_weak_45 : decode cX9_weak 45 = .ok (.iconst 1, 1) := by decide +kernel
theorem dX9_weak_46 : decode cX9_weak 46 = .ok (.iadd, 1) := by decide +kernel
theorem dX9_weak_47 : decode cX9_weak 47 = .ok (.iload_n 2, 1) := by decide +kernel
theorem dX9_weak_48 : decode cX9_weak 48 = .ok (.invokevirtual 96, 3) := by decide +kernel
theorem dX9_weak_51 : decode cX9_weak 51 = .ok (.ifCond .eq 45, 3) := by decide +kernel
theorem dX9_weak_54 : decode cX9_weak 54 = .ok (.aload_n 0, 1) := by decide +kernel
theorem dX9_weak_55 : decode cX9_weak 55 = .ok (.iload_n 1, 1) := by decide +kernel
theorem dX9_weak_56 : decode cX9_weak 56 = .ok (.iconst 1, 1) := by decide +kernel
theorem dX9_weak_57 : decode cX9_weak 57 = .ok (.isub, 1) := by decide +kernel
theorem dX9_weak_58 : decode cX9_weak 58 = .ok (.invokevirtual 87, 3) := by decide +kernel
theorem dX9_weak_61 : decode cX9_weak 61 = .ok (.aload_n 0, 1) := by decide +kernel
theorem dX9_weak_62 : decode cX9_weak 62 = .ok (.iload_n 1, 1) := by decide +kernel
theorem dX9_weak_63 : decode cX9_weak 63 = .ok (.invokevirtual 87, 3) := by decide +kernel
theorem dX9_weak_66 : decode cX9_weak 66 = .ok (.invokestatic 64, 3) := by decide +kernel
theorem dX9_weak_69 : decode cX9_weak 69 = .ok (.iconst 1, 1) := by decide +kernel
theorem dX9_weak_70 : decode cX9_weak 70 = .ok (.if_icmp .ne 26, 3) := by decide +kernel
theorem dX9_weak_73 : decode cX9_weak 73 = .ok (.aload_n 0, 1) := by decide +kernel
theorem dX9_weak_74 : decode cX9_weak 74 = .ok (.iload_n 1, 1) := by decide +kernel
theorem dX9_weak_75 : decode cX9_weak 75 = .ok (.invokevirtual 87, 3) := by decide +kernel
theorem dX9_weak_78 : decode cX9_weak 78 = .ok (.aload_n 0, 1) := by decide +kernel
theorem dX9_weak_79 : decode cX9_weak 79 = .ok (.iload_n 1, 1) := by decide +kernel
theorem dX9_weak_80 : decode cX9_weak 80 = .ok (.iconst 1, 1) := by decide +kernel
theorem dX9_weak_81 : decode cX9_weak 81 = .ok (.iadd, 1) := by decide +kernel
theorem dX9_weak_82 : decode cX9_weak 82 = .ok (.invokevirtual 87, 3) := by decide +kernel
theorem dX9_weak_85 : decode cX9_weak 85 = .ok (.invokestatic 64, 3) := by decide +kernel
theorem dX9_weak_88 : decode cX9_weak 88 = .ok (.iconst 1, 1) := by decide +kernel
theorem dX9_weak_89 : decode cX9_weak 89 = .ok (.if_icmp .ne 7, 3) := by decide +kernel
theorem dX9_weak_92 : decode cX9_weak 92 = .ok (.iconst 1, 1) := by decide +kernel
theorem dX9_weak_93 : decode cX9_weak 93 = .ok (.goto 4, 3) := by decide +kernel
theorem dX9_weak_96 : decode cX9_weak 96 = .ok (.iconst 0, 1) := by decide +kernel
theorem dX9_weak_97 : decode cX9_weak 97 = .ok (.istore 4, 2) := by decide +kernel
theorem dX9_weak_99 : decode cX9_weak 99 = .ok (.aload_n 0, 1) := by decide +kernel
theorem dX9_weak_100 : decode cX9_weak 100 = .ok (.getfield 9, 3) := by decide +kernel
theorem dX9_weak_103 : decode cX9_weak 103 = .ok (.iconst 2, 1) := by decide +kernel
theorem dX9_weak_104 : decode cX9_weak 104 = .ok (.iaload, 1) := by decide +kernel
theorem dX9_weak_105 : decode cX9_weak 105 = .ok (.istore 5, 2) := by decide +kernel
theorem dX9_weak_107 : decode cX9_weak 107 = .ok (.iload 4, 2) := by decide +kernel
theorem dX9_weak_109 : decode cX9_weak 109 = .ok (.ifCond .eq 51, 3) := by decide +kernel
theorem dX9_weak_112 : decode cX9_weak 112 = .ok (.iload 5, 2) := by decide +kernel
theorem dX9_weak_114 : decode cX9_weak 114 = .ok (.iconst 2, 1) := by decide +kernel
theorem dX9_weak_115 : decode cX9_weak 115 = .ok (.if_icmp .eq 9, 3) := by decide +kernel
theorem dX9_weak_118 : decode cX9_weak 118 = .ok (.iload 5, 2) := by decide +kernel
theorem dX9_weak_120 : decode cX9_weak 120 = .ok (.iconst 3, 1) := by decide +kernel
theorem dX9_weak_121 : decode cX9_weak 121 = .ok (.if_icmp .ne 39, 3) := by decide +kernel
theorem dX9_weak_124 : decode cX9_weak 124 = .ok (.aload_n 0, 1) := by decide +kernel
theorem dX9_weak_125 : decode cX9_weak 125 = .ok (.iload_n 1, 1) := by decide +kernel
theorem dX9_weak_126 : decode cX9_weak 126 = .ok (.iconst 1, 1) := by decide +kernel
theorem dX9_weak_127 : decode cX9_weak 127 = .ok (.isub, 1) := by decide +kernel
theorem dX9_weak_128 : decode cX9_weak 128 = .ok (.invokevirtual 87, 3) := by decide +kernel
theorem dX9_weak_131 : decode cX9_weak 131 = .ok (.aload_n 0, 1) := by decide +kernel
theorem dX9_weak_132 : decode cX9_weak 132 = .ok (.iload_n 1, 1) := by decide +kernel
theorem dX9_weak_133 : decode cX9_weak 133 = .ok (.invokevirtual 87, 3) := by decide +kernel
theorem dX9_weak_136 : decode cX9_weak 136 = .ok (.invokestatic 93, 3) := by decide +kernel
theorem dX9_weak_139 : decode cX9_weak 139 = .ok (.aload_n 0, 1) := by decide +kernel
theorem dX9_weak_140 : decode cX9_weak 140 = .ok (.iload_n 1, 1) := by decide +kernel
theorem dX9_weak_141 : decode cX9_weak 141 = .ok (.invokevirtual 87, 3) := by decide +kernel
theorem dX9_weak_144 : decode cX9_weak 144 = .ok (.aload_n 0, 1) := by decide +kernel
theorem dX9_weak_145 : decode cX9_weak 145 = .ok (.iload_n 1, 1) := by decide +kernel
theorem dX9_weak_146 : decode cX9_weak 146 = .ok (.iconst 1, 1) := by decide +kernel
theorem dX9_weak_147 : decode cX9_weak 147 = .ok (.iadd, 1) := by decide +kernel
theorem dX9_weak_148 : decode cX9_weak 148 = .ok (.invokevirtual 87, 3) := by decide +kernel
theorem dX9_weak_151 : decode cX9_weak 151 = .ok (.invokestatic 93, 3) := by decide +kernel
theorem dX9_weak_154 : decode cX9_weak 154 = .ok (.imul, 1) := by decide +kernel
theorem dX9_weak_155 : decode cX9_weak 155 = .ok (.ifCond .le 5, 3) := by decide +kernel
theorem dX9_weak_158 : decode cX9_weak 158 = .ok (.iconst (-1), 1) := by decide +kernel
theorem dX9_weak_159 : decode cX9_weak 159 = .ok (.ireturn, 1) := by decide +kernel
theorem dX9_weak_160 : decode cX9_weak 160 = .ok (.iload 4, 2) := by decide +kernel
theorem dX9_weak_162 : decode cX9_weak 162 = .ok (.ifCond .eq 28, 3) := by decide +kernel
theorem dX9_weak_165 : decode cX9_weak 165 = .ok (.iload 5, 2) := by decide +kernel
theorem dX9_weak_167 : decode cX9_weak 167 = .ok (.iconst 3, 1) := by decide +kernel
theorem dX9_weak_168 : decode cX9_weak 168 = .ok (.if_icmp .ne 22, 3) := by decide +kernel
theorem dX9_weak_171 : decode cX9_weak 171 = .ok (.aload_n 0, 1) := by decide +kernel
theorem dX9_weak_172 : decode cX9_weak 172 = .ok (.iload_n 1, 1) := by decide +kernel
theorem dX9_weak_173 : decode cX9_weak 173 = .ok (.iconst 1, 1) := by decide +kernel
theorem dX9_weak_174 : decode cX9_weak 174 = .ok (.isub, 1) := by decide +kernel
theorem dX9_weak_175 : decode cX9_weak 175 = .ok (.invokevirtual 87, 3) := by decide +kernel
theorem dX9_weak_178 : decode cX9_weak 178 = .ok (.aload_n 0, 1) := by decide +kernel
theorem dX9_weak_179 : decode cX9_weak 179 = .ok (.iload_n 1, 1) := by decide +kernel
theorem dX9_weak_180 : decode cX9_weak 180 = .ok (.iconst 1, 1) := by decide +kernel
theorem dX9_weak_181 : decode cX9_weak 181 = .ok (.iadd, 1) := by decide +kernel
theorem dX9_weak_182 : decode cX9_weak 182 = .ok (.invokevirtual 87, 3) := by decide +kernel
theorem dX9_weak_185 : decode cX9_weak 185 = .ok (.if_icmp .ne 5, 3) := by decide +kernel
theorem dX9_weak_188 : decode cX9_weak 188 = .ok (.iconst (-1), 1) := by decide +kernel
theorem dX9_weak_189 : decode cX9_weak 189 = .ok (.ireturn, 1) := by decide +kernel
theorem dX9_weak_190 : decode cX9_weak 190 = .ok (.aload_n 0, 1) := by decide +kernel
theorem dX9_weak_191 : decode cX9_weak 191 = .ok (.iload_n 1, 1) := by decide +kernel
theorem dX9_weak_192 : decode cX9_weak 192 = .ok (.invokevirtual 87, 3) := by decide +kernel
theorem dX9_weak_195 : decode cX9_weak 195 = .ok (.iload_n 3, 1) := by decide +kernel
theorem dX9_weak_196 : decode cX9_weak 196 = .ok (.invokestatic 68, 3) := by decide +kernel
theorem dX9_weak_199 : decode cX9_weak 199 = .ok (.ireturn, 1) := by decide +kernel
theorem dX9_isParallel_0 : decode cX9_isParallel 0 = .ok (.aload_n 0, 1) := by decide +kernel
theorem dX9_isParallel_1 : decode cX9_isParallel 1 = .ok (.iload_n 1, 1) := by decide +kernel
theorem dX9_isParallel_2 : decode cX9_isParallel 2 = .ok (.invokevirtual 104, 3) := by decide +kernel
theorem dX9_isParallel_5 : decode cX9_isParallel 5 = .ok (.istore_n 3, 1) := by decide +kernel
theorem dX9_isParallel_6 : decode cX9_isParallel 6 = .ok (.aload_n 0, 1) := by decide +kernel
theorem dX9_isParallel_7 : decode cX9_isParallel 7 = .ok (.iload_n 1, 1) := by decide +kernel
theorem dX9_isParallel_8 : decode cX9_isParallel 8 = .ok (.invokevirtual 87, 3) := by decide +kernel
theorem dX9_isParallel_11 : decode cX9_isParallel 11 = .ok (.aload_n 0, 1) := by decide +kernel
theorem dX9_isParallel_12 : decode cX9_isParallel 12 = .ok (.iload_n 3, 1) := by decide +kernel
theorem dX9_isParallel_13 : decode cX9_isParallel 13 = .ok (.invokevirtual 107, 3) := by decide +kernel
theorem dX9_isParallel_16 : decode cX9_isParallel 16 = .ok (.invokestatic 71, 3) := by decide +kernel
theorem dX9_isParallel_19 : decode cX9_isParallel 19 = .ok (.istore 4, 2) := by decide +kernel
theorem dX9_isParallel_21 : decode cX9_isParallel 21 = .ok (.iload 4, 2) := by decide +kernel
theorem dX9_isParallel_23 : decode cX9_isParallel 23 = .ok (.ifCond .eq 12, 3) := by decide +kernel
theorem dX9_isParallel_26 : decode cX9_isParallel 26 = .ok (.aload_n 0, 1) := by decide +kernel
theorem dX9_isParallel_27 : decode cX9_isParallel 27 = .ok (.iload_n 2, 1) := by decide +kernel
theorem dX9_isParallel_28 : decode cX9_isParallel 28 = .ok (.invokevirtual 87, 3) := by decide +kernel
theorem dX9_isParallel_31 : decode cX9_isParallel 31 = .ok (.iconst (-1), 1) := by decide +kernel
theorem dX9_isParallel_32 : decode cX9_isParallel 32 = .ok (.if_icmp .ne 5, 3) := by decide +kernel
theorem dX9_isParallel_35 : decode cX9_isParallel 35 = .ok (.iconst 0, 1) := by decide +kernel
theorem dX9_isParallel_36 : decode cX9_isParallel 36 = .ok (.ireturn, 1) := by decide +kernel
theorem dX9_isParallel_37 : decode cX9_isParallel 37 = .ok (.aload_n 0, 1) := by decide +kernel
theorem dX9_isParallel_38 : decode cX9_isParallel 38 = .ok (.iload_n 2, 1) := by decide +kernel
theorem dX9_isParallel_39 : decode cX9_isParallel 39 = .ok (.invokevirtual 87, 3) := by decide +kernel
theorem dX9_isParallel_42 : decode cX9_isParallel 42 = .ok (.aload_n 0, 1) := by decide +kernel
theorem dX9_isParallel_43 : decode cX9_isParallel 43 = .ok (.iload_n 3, 1) := by decide +kernel
theorem dX9_isParallel_44 : decode cX9_isParallel 44 = .ok (.iconst 1, 1) := by decide +kernel
theorem dX9_isParallel_45 : decode cX9_isParallel 45 = .ok (.isub, 1) := by decide +kernel
theorem dX9_isParallel_46 : decode cX9_isParallel 46 = .ok (.invokevirtual 107, 3) := by decide +kernel
theorem dX9_isParallel_49 : decode cX9_isParallel 49 = .ok (.invokestatic 71, 3) := by decide +kernel
theorem dX9_isParallel_52 : decode cX9_isParallel 52 = .ok (.iload 4, 2) := by decide +kernel
theorem dX9_isParallel_54 : decode cX9_isParallel 54 = .ok (.if_icmp .ne 47, 3) := by decide +kernel
theorem dX9_isParallel_57 : decode cX9_isParallel 57 = .ok (.aload_n 0, 1) := by decide +kernel
theorem dX9_isParallel_58 : decode cX9_isParallel 58 = .ok (.iload_n 2, 1) := by decide +kernel
theorem dX9_isParallel_59 : decode cX9_isParallel 59 = .ok (.invokevirtual 87, 3) := by decide +kernel
theorem dX9_isParallel_62 : decode cX9_isParallel 62 = .ok (.invokestatic 61, 3) := by decide +kernel
theorem dX9_isParallel_65 : decode cX9_isParallel 65 = .ok (.aload_n 0, 1) := by decide +kernel
theorem dX9_isParallel_66 : decode cX9_isParallel 66 = .ok (.iload_n 1, 1) := by decide +kernel
theorem dX9_isParallel_67 : decode cX9_isParallel 67 = .ok (.invokevirtual 87, 3) := by decide +kernel
theorem dX9_isParallel_70 : decode cX9_isParallel 70 = .ok (.invokestatic 61, 3) := by decide +kernel
theorem dX9_isParallel_73 : decode cX9_isParallel 73 = .ok (.if_icmp .eq 28, 3) := by decide +kernel
theorem dX9_isParallel_76 : decode cX9_isParallel 76 = .ok (.aload_n 0, 1) := by decide +kernel
theorem dX9_isParallel_77 : decode cX9_isParallel 77 = .ok (.iload_n 3, 1) := by decide +kernel
theorem dX9_isParallel_78 : decode cX9_isParallel 78 = .ok (.iconst 1, 1) := by decide +kernel
theorem dX9_isParallel_79 : decode cX9_isParallel 79 = .ok (.isub, 1) := by decide +kernel
theorem dX9_isParallel_80 : decode cX9_isParallel 80 = .ok (.invokevirtual 107, 3) := by decide +kernel
theorem dX9_isParallel_83 : decode cX9_isParallel 83 = .ok (.invokestatic 61, 3) := by decide +kernel
theorem dX9_isParallel_86 : decode cX9_isParallel 86 = .ok (.aload_n 0, 1) := by decide +kernel
theorem dX9_isParallel_87 : decode cX9_isParallel 87 = .ok (.iload_n 3, 1) := by decide +kernel
theorem dX9_isParallel_88 : decode cX9_isParallel 88 = .ok (.invokevirtual 107, 3) := by decide +kernel
theorem dX9_isParallel_91 : decode cX9_isParallel 91 = .ok (.invokestatic 61, 3) := by decide +kernel
theorem dX9_isParallel_94 : decode cX9_isParallel 94 = .ok (.if_icmp .eq 7, 3) := by decide +kernel
theorem dX9_isParallel_97 : decode cX9_isParallel 97 = .ok (.iconst 1, 1) := by decide +kernel
theorem dX9_isParallel_98 : decode cX9_isParallel 98 = .ok (.goto 4, 3) := by decide +kernel
theorem dX9_isParallel_101 : decode cX9_isParallel 101 = .ok (.iconst 0, 1) := by decide +kernel
theorem dX9_isParallel_102 : decode cX9_isParallel 102 = .ok (.ireturn, 1) := by decide +kernel
theorem dX9_direct_0 : decode cX9_direct 0 = .ok (.aload_n 0, 1) := by decide +kernel
theorem dX9_direct_1 : decode cX9_direct 1 = .ok (.iload_n 1, 1) := by decide +kernel
theorem dX9_direct_2 : decode cX9_direct 2 = .ok (.invokevirtual 104, 3) := by decide +kernel
theorem dX9_direct_5 : decode cX9_direct 5 = .ok (.istore_n 2, 1) := by decide +kernel
theorem dX9_direct_6 : decode cX9_direct 6 = .ok (.aload_n 0, 1) := by decide +kernel
theorem dX9_direct_7 : decode cX9_direct 7 = .ok (.iload_n 2, 1) := by decide +kernel
theorem dX9_direct_8 : decode cX9_direct 8 = .ok (.invokevirtual 107, 3) := by decide +kernel
theorem dX9_direct_11 : decode cX9_direct 11 = .ok (.istore_n 3, 1) := by decide +kernel
theorem dX9_direct_12 : decode cX9_direct 12 = .ok (.aload_n 0, 1) := by decide +kernel
theorem dX9_direct_13 : decode cX9_direct 13 = .ok (.iload_n 2, 1) := by decide +kernel
theorem dX9_direct_14 : decode cX9_direct 14 = .ok (.iconst 1, 1) := by decide +kernel
theorem dX9_direct_15 : decode cX9_direct 15 = .ok (.isub, 1) := by decide +kernel
theorem dX9_direct_16 : decode cX9_direct 16 = .ok (.invokevirtual 107, 3) := by decide +kernel
theorem dX9_direct_19 : decode cX9_direct 19 = .ok (.istore 4, 2) := by decide +kernel
theorem dX9_direct_21 : decode cX9_direct 21 = .ok (.aload_n 0, 1) := by decide +kernel
theorem dX9_direct_22 : decode cX9_direct 22 = .ok (.iload_n 1, 1) := by decide +kernel
theorem dX9_direct_23 : decode cX9_direct 23 = .ok (.invokevirtual 87, 3) := by decide +kernel
theorem dX9_direct_26 : decode cX9_direct 26 = .ok (.iload_n 3, 1) := by decide +kernel
theorem dX9_direct_27 : decode cX9_direct 27 = .ok (.invokestatic 71, 3) := by decide +kernel
theorem dX9_direct_30 : decode cX9_direct 30 = .ok (.ifCond .eq 25, 3) := by decide +kernel
theorem dX9_direct_33 : decode cX9_direct 33 = .ok (.aload_n 0, 1) := by decide +kernel
theorem dX9_direct_34 : decode cX9_direct 34 = .ok (.iload_n 1, 1) := by decide +kernel
theorem dX9_direct_35 : decode cX9_direct 35 = .ok (.iconst 1, 1) := by decide +kernel
theorem dX9_direct_36 : decode cX9_direct 36 = .ok (.isub, 1) := by decide +kernel
theorem dX9_direct_37 : decode cX9_direct 37 = .ok (.invokevirtual 87, 3) := by decide +kernel
theorem dX9_direct_40 : decode cX9_direct 40 = .ok (.iconst (-1), 1) := by decide +kernel
theorem dX9_direct_41 : decode cX9_direct 41 = .ok (.if_icmp .eq 14, 3) := by decide +kernel
theorem dX9_direct_44 : decode cX9_direct 44 = .ok (.aload_n 0, 1) := by decide +kernel
theorem dX9_direct_45 : decode cX9_direct 45 = .ok (.iload_n 1, 1) := by decide +kernel
theorem dX9_direct_46 : decode cX9_direct 46 = .ok (.iload_n 1, 1) := by decide +kernel
theorem dX9_direct_47 : decode cX9_direct 47 = .ok (.iconst 1, 1) := by decide +kernel
theorem dX9_direct_48 : decode cX9_direct 48 = .ok (.isub, 1) := by decide +kernel
theorem dX9_direct_49 : decode cX9_direct 49 = .ok (.invokevirtual 113, 3) := by decide +kernel
theorem dX9_direct_52 : decode cX9_direct 52 = .ok (.ifCond .eq 5, 3) := by decide +kernel
theorem dX9_direct_55 : decode cX9_direct 55 = .ok (.iconst (-1), 1) := by decide +kernel
theorem dX9_direct_56 : decode cX9_direct 56 = .ok (.ireturn, 1) := by decide +kernel
theorem dX9_direct_57 : decode cX9_direct 57 = .ok (.aload_n 0, 1) := by decide +kernel
theorem dX9_direct_58 : decode cX9_direct 58 = .ok (.iload_n 1, 1) := by decide +kernel
theorem dX9_direct_59 : decode cX9_direct 59 = .ok (.iconst 1, 1) := by decide +kernel
theorem dX9_direct_60 : decode cX9_direct 60 = .ok (.isub, 1) := by decide +kernel
theorem dX9_direct_61 : decode cX9_direct 61 = .ok (.invokevirtual 87, 3) := by decide +kernel
theorem dX9_direct_64 : decode cX9_direct 64 = .ok (.aload_n 0, 1) := by decide +kernel
theorem dX9_direct_65 : decode cX9_direct 65 = .ok (.iload_n 1, 1) := by decide +kernel
theorem dX9_direct_66 : decode cX9_direct 66 = .ok (.invokevirtual 87, 3) := by decide +kernel
theorem dX9_direct_69 : decode cX9_direct 69 = .ok (.invokestatic 93, 3) := by decide +kernel
theorem dX9_direct_72 : decode cX9_direct 72 = .ok (.iload 4, 2) := by decide +kernel
theorem dX9_direct_74 : decode cX9_direct 74 = .ok (.iload_n 3, 1) := by decide +kernel
theorem dX9_direct_75 : decode cX9_direct 75 = .ok (.invokestatic 93, 3) := by decide +kernel
theorem dX9_direct_78 : decode cX9_direct 78 = .ok (.imul, 1) := by decide +kernel
theorem dX9_direct_79 : decode cX9_direct 79 = .ok (.ifCond .gt 5, 3) := by decide +kernel
theorem dX9_direct_82 : decode cX9_direct 82 = .ok (.iconst (-1), 1) := by decide +kernel
theorem dX9_direct_83 : decode cX9_direct 83 = .ok (.ireturn, 1) := by decide +kernel
theorem dX9_direct_84 : decode cX9_direct 84 = .ok (.aload_n 0, 1) := by decide +kernel
theorem dX9_direct_85 : decode cX9_direct 85 = .ok (.iload_n 1, 1) := by decide +kernel
theorem dX9_direct_86 : decode cX9_direct 86 = .ok (.invokevirtual 87, 3) := by decide +kernel
theorem dX9_direct_89 : decode cX9_direct 89 = .ok (.invokestatic 61, 3) := by decide +kernel
theorem dX9_direct_92 : decode cX9_direct 92 = .ok (.iload_n 3, 1) := by decide +kernel
theorem dX9_direct_93 : decode cX9_direct 93 = .ok (.invokestatic 61, 3) := by decide +kernel
theorem dX9_direct_96 : decode cX9_direct 96 = .ok (.if_icmp .lt 7, 3) := by decide +kernel
theorem dX9_direct_99 : decode cX9_direct 99 = .ok (.iconst 1, 1) := by decide +kernel
theorem dX9_direct_100 : decode cX9_direct 100 = .ok (.goto 4, 3) := by decide +kernel
theorem dX9_direct_103 : decode cX9_direct 103 = .ok (.iconst 0, 1) := by decide +kernel
theorem dX9_direct_104 : decode cX9_direct 104 = .ok (.istore 5, 2) := by decide +kernel
theorem dX9_direct_106 : decode cX9_direct 106 = .ok (.iload 5, 2) := by decide +kernel
theorem dX9_direct_108 : decode cX9_direct 108 = .ok (.ifCond .eq 21, 3) := by decide +kernel
theorem dX9_direct_111 : decode cX9_direct 111 = .ok (.aload_n 0, 1) := by decide +kernel
theorem dX9_direct_112 : decode cX9_direct 112 = .ok (.iload_n 1, 1) := by decide +kernel
theorem dX9_direct_113 : decode cX9_direct 113 = .ok (.iconst 1, 1) := by decide +kernel
theorem dX9_direct_114 : decode cX9_direct 114 = .ok (.isub, 1) := by decide +kernel
theorem dX9_direct_115 : decode cX9_direct 115 = .ok (.invokevirtual 87, 3) := by decide +kernel
theorem dX9_direct_118 : decode cX9_direct 118 = .ok (.aload_n 0, 1) := by decide +kernel
theorem dX9_direct_119 : decode cX9_direct 119 = .ok (.iload_n 1, 1) := by decide +kernel
theorem dX9_direct_120 : decode cX9_direct 120 = .ok (.invokevirtual 87, 3) := by decide +kernel
theorem dX9_direct_123 : decode cX9_direct 123 = .ok (.invokestatic 64, 3) := by decide +kernel
theorem dX9_direct_126 : decode cX9_direct 126 = .ok (.goto 9, 3) := by decide +kernel
theorem dX9_direct_129 : decode cX9_direct 129 = .ok (.iload 4, 2) := by decide +kernel
theorem dX9_direct_131 : decode cX9_direct 131 = .ok (.iload_n 3, 1) := by decide +kernel
theorem dX9_direct_132 : decode cX9_direct 132 = .ok (.invokestatic 64, 3) := by decide +kernel
theorem dX9_direct_135 : decode cX9_direct 135 = .ok (.iconst 1, 1) := by decide +kernel
theorem dX9_direct_136 : decode cX9_direct 136 = .ok (.if_icmp .le 15, 3) := by decide +kernel
theorem dX9_direct_139 : decode cX9_direct 139 = .ok (.aload_n 0, 1) := by decide +kernel
theorem dX9_direct_140 : decode cX9_direct 140 = .ok (.iload_n 1, 1) := by decide +kernel
theorem dX9_direct_141 : decode cX9_direct 141 = .ok (.invokevirtual 87, 3) := by decide +kernel
theorem dX9_direct_144 : decode cX9_direct 144 = .ok (.iload_n 3, 1) := by decide +kernel
theorem dX9_direct_145 : decode cX9_direct 145 = .ok (.invokestatic 71, 3) := by decide +kernel
theorem dX9_direct_148 : decode cX9_direct 148 = .ok (.goto 4, 3) := by decide +kernel
theorem dX9_direct_151 : decode cX9_direct 151 = .ok (.iconst (-1), 1) := by decide +kernel
theorem dX9_direct_152 : decode cX9_direct 152 = .ok (.ireturn, 1) := by decide +kernel
theorem dX9_cadence_0 : decode cX9_cadence 0 = .ok (.aload_n 0, 1) := by decide +kernel
theorem dX9_cadence_1 : decode cX9_cadence 1 = .ok (.getfield 9, 3) := by decide +kernel
theorem dX9_cadence_4 : decode cX9_cadence 4 = .ok (.iconst 0, 1) := by decide +kernel
theorem dX9_cadence_5 : decode cX9_cadence 5 = .ok (.iaload, 1) := by decide +kernel
theorem dX9_cadence_6 : decode cX9_cadence 6 = .ok (.iconst 1, 1) := by decide +kernel
theorem dX9_cadence_7 : decode cX9_cadence 7 = .ok (.isub, 1) := by decide +kernel
theorem dX9_cadence_8 : decode cX9_cadence 8 = .ok (.istore_n 3, 1) := by decide +kernel
theorem dX9_cadence_9 : decode cX9_cadence 9 = .ok (.aload_n 0, 1) := by decide +kernel
theorem dX9_cadence_10 : decode cX9_cadence 10 = .ok (.iload_n 3, 1) := by decide +kernel
theorem dX9_cadence_11 : decode cX9_cadence 11 = .ok (.invokevirtual 107, 3) := by decide +kernel
theorem dX9_cadence_14 : decode cX9_cadence 14 = .ok (.istore 4, 2) := by decide +kernel
theorem dX9_cadence_16 : decode cX9_cadence 16 = .ok (.aload_n 0, 1) := by decide +kernel
theorem dX9_cadence_17 : decode cX9_cadence 17 = .ok (.iload_n 1, 1) := by decide +kernel
theorem dX9_cadence_18 : decode cX9_cadence 18 = .ok (.invokevirtual 87, 3) := by decide +kernel
theorem dX9_cadence_21 : decode cX9_cadence 21 = .ok (.iload 4, 2) := by decide +kernel
theorem dX9_cadence_23 : decode cX9_cadence 23 = .ok (.invokestatic 71, 3) := by decide +kernel
theorem dX9_cadence_26 : decode cX9_cadence 26 = .ok (.bipush 8, 2) := by decide +kernel
theorem dX9_cadence_28 : decode cX9_cadence 28 = .ok (.if_icmp .eq 5, 3) := by decide +kernel
theorem dX9_cadence_31 : decode cX9_cadence 31 = .ok (.iconst 1, 1) := by decide +kernel
theorem dX9_cadence_32 : decode cX9_cadence 32 = .ok (.ireturn, 1) := by decide +kernel
theorem dX9_cadence_33 : decode cX9_cadence 33 = .ok (.aload_n 0, 1) := by decide +kernel
theorem dX9_cadence_34 : decode cX9_cadence 34 = .ok (.iload_n 1, 1) := by decide +kernel
theorem dX9_cadence_35 : decode cX9_cadence 35 = .ok (.iconst 1, 1) := by decide +kernel
theorem dX9_cadence_36 : decode cX9_cadence 36 = .ok (.isub, 1) := by decide +kernel
theorem dX9_cadence_37 : decode cX9_cadence 37 = .ok (.iload_n 2, 1) := by decide +kernel
theorem dX9_cadence_38 : decode cX9_cadence 38 = .ok (.invokevirtual 96, 3) := by decide +kernel
theorem dX9_cadence_41 : decode cX9_cadence 41 = .ok (.ifCond .eq 22, 3) := by decide +kernel
theorem dX9_cadence_44 : decode cX9_cadence 44 = .ok (.aload_n 0, 1) := by decide +kernel
theorem dX9_cadence_45 : decode cX9_cadence 45 = .ok (.iload_n 1, 1) := by decide +kernel
theorem dX9_cadence_46 : decode cX9_cadence 46 = .ok (.iconst 1, 1) := by decide +kernel
theorem dX9_cadence_47 : decode cX9_cadence 47 = .ok (.isub, 1) := by decide +kernel
theorem dX9_cadence_48 : decode cX9_cadence 48 = .ok (.invokevirtual 87, 3) := by decide +kernel
theorem dX9_cadence_51 : decode cX9_cadence 51 = .ok (.aload_n 0, 1) := by decide +kernel
theorem dX9_cadence_52 : decode cX9_cadence 52 = .ok (.iload_n 1, 1) := by decide +kernel
theorem dX9_cadence_53 : decode cX9_cadence 53 = .ok (.invokevirtual 87, 3) := by decide +kernel
theorem dX9_cadence_56 : decode cX9_cadence 56 = .ok (.invokestatic 64, 3) := by decide +kernel
theorem dX9_cadence_59 : decode cX9_cadence 59 = .ok (.iconst 1, 1) := by decide +kernel
theorem dX9_cadence_60 : decode cX9_cadence 60 = .ok (.if_icmp .eq 5, 3) := by decide +kernel
theorem dX9_cadence_63 : decode cX9_cadence 63 = .ok (.iconst 2, 1) := by decide +kernel
theorem dX9_cadence_64 : decode cX9_cadence 64 = .ok (.ireturn, 1) := by decide +kernel
theorem dX9_cadence_65 : decode cX9_cadence 65 = .ok (.aload_n 0, 1) := by decide +kernel
theorem dX9_cadence_66 : decode cX9_cadence 66 = .ok (.iload_n 1, 1) := by decide +kernel
theorem dX9_cadence_67 : decode cX9_cadence 67 = .ok (.iconst 1, 1) := by decide +kernel
theorem dX9_cadence_68 : decode cX9_cadence 68 = .ok (.isub, 1) := by decide +kernel
theorem dX9_cadence_69 : decode cX9_cadence 69 = .ok (.invokevirtual 87, 3) := by decide +kernel
theorem dX9_cadence_72 : decode cX9_cadence 72 = .ok (.aload_n 0, 1) := by decide +kernel
theorem dX9_cadence_73 : decode cX9_cadence 73 = .ok (.iload_n 1, 1) := by decide +kernel
theorem dX9_cadence_74 : decode cX9_cadence 74 = .ok (.invokevirtual 87, 3) := by decide +kernel
theorem dX9_cadence_77 : decode cX9_cadence 77 = .ok (.invokestatic 93, 3) := by decide +kernel
theorem dX9_cadence_80 : decode cX9_cadence 80 = .ok (.istore 5, 2) := by decide +kernel
theorem dX9_cadence_82 : decode cX9_cadence 82 = .ok (.aload_n 0, 1) := by decide +kernel
theorem dX9_cadence_83 : decode cX9_cadence 83 = .ok (.iload_n 3, 1) := by decide +kernel
theorem dX9_cadence_84 : decode cX9_cadence 84 = .ok (.iconst 1, 1) := by decide +kernel
theorem dX9_cadence_85 : decode cX9_cadence 85 = .ok (.isub, 1) := by decide +kernel
theorem dX9_cadence_86 : decode cX9_cadence 86 = .ok (.invokevirtual 107, 3) := by decide +kernel
theorem dX9_cadence_89 : decode cX9_cadence 89 = .ok (.iload 4, 2) := by decide +kernel
theorem dX9_cadence_91 : decode cX9_cadence 91 = .ok (.invokestatic 64, 3) := by decide +kernel
theorem dX9_cadence_94 : decode cX9_cadence 94 = .ok (.iconst 1, 1) := by decide +kernel
theorem dX9_cadence_95 : decode cX9_cadence 95 = .ok (.if_icmp .ne 21, 3) := by decide +kernel
theorem dX9_cadence_98 : decode cX9_cadence 98 = .ok (.aload_n 0, 1) := by decide +kernel
theorem dX9_cadence_99 : decode cX9_cadence 99 = .ok (.iload_n 3, 1) := by decide +kernel
theorem dX9_cadence_100 : decode cX9_cadence 100 = .ok (.iconst 1, 1) := by decide +kernel
theorem dX9_cadence_101 : decode cX9_cadence 101 = .ok (.isub, 1) := by decide +kernel
theorem dX9_cadence_102 : decode cX9_cadence 102 = .ok (.invokevirtual 107, 3) := by decide +kernel
theorem dX9_cadence_105 : decode cX9_cadence 105 = .ok (.iload 4, 2) := by decide +kernel
theorem dX9_cadence_107 : decode cX9_cadence 107 = .ok (.invokestatic 93, 3) := by decide +kernel
theorem dX9_cadence_110 : decode cX9_cadence 110 = .ok (.iload 5, 2) := by decide +kernel
theorem dX9_cadence_112 : decode cX9_cadence 112 = .ok (.imul, 1) := by decide +kernel
theorem dX9_cadence_113 : decode cX9_cadence 113 = .ok (.ifCond .lt 5, 3) := by decide +kernel
theorem dX9_cadence_116 : decode cX9_cadence 116 = .ok (.iconst 3, 1) := by decide +kernel
theorem dX9_cadence_117 : decode cX9_cadence 117 = .ok (.ireturn, 1) := by decide +kernel
theorem dX9_cadence_118 : decode cX9_cadence 118 = .ok (.iload 5, 2) := by decide +kernel
theorem dX9_cadence_120 : decode cX9_cadence 120 = .ok (.ifCond .le 21, 3) := by decide +kernel
theorem dX9_cadence_123 : decode cX9_cadence 123 = .ok (.aload_n 0, 1) := by decide +kernel
theorem dX9_cadence_124 : decode cX9_cadence 124 = .ok (.iload_n 1, 1) := by decide +kernel
theorem dX9_cadence_125 : decode cX9_cadence 125 = .ok (.iconst 1, 1) := by decide +kernel
theorem dX9_cadence_126 : decode cX9_cadence 126 = .ok (.isub, 1) := by decide +kernel
theorem dX9_cadence_127 : decode cX9_cadence 127 = .ok (.invokevirtual 87, 3) := by decide +kernel
theorem dX9_cadence_130 : decode cX9_cadence 130 = .ok (.aload_n 0, 1) := by decide +kernel
theorem dX9_cadence_131 : decode cX9_cadence 131 = .ok (.iload_n 1, 1) := by decide +kernel
theorem dX9_cadence_132 : decode cX9_cadence 132 = .ok (.invokevirtual 87, 3) := by decide +kernel
theorem dX9_cadence_135 : decode cX9_cadence 135 = .ok (.invokestatic 68, 3) := by decide +kernel
theorem dX9_cadence_138 : decode cX9_cadence 138 = .ok (.goto 15, 3) := by decide +kernel
theorem dX9_cadence_141 : decode cX9_cadence 141 = .ok (.aload_n 0, 1) := by decide +kernel
theorem dX9_cadence_142 : decode cX9_cadence 142 = .ok (.iload_n 3, 1) := by decide +kernel
theorem dX9_cadence_143 : decode cX9_cadence 143 = .ok (.iconst 1, 1) := by decide +kernel
theorem dX9_cadence_144 : decode cX9_cadence 144 = .ok (.isub, 1) := by decide +kernel
theorem dX9_cadence_145 : decode cX9_cadence 145 = .ok (.invokevirtual 107, 3) := by decide +kernel
theorem dX9_cadence_148 : decode cX9_cadence 148 = .ok (.iload 4, 2) := by decide +kernel
theorem dX9_cadence_150 : decode cX9_cadence 150 = .ok (.invokestatic 68, 3) := by decide +kernel
theorem dX9_cadence_153 : decode cX9_cadence 153 = .ok (.istore 6, 2) := by decide +kernel
theorem dX9_cadence_155 : decode cX9_cadence 155 = .ok (.iload 6, 2) := by decide +kernel
theorem dX9_cadence_157 : decode cX9_cadence 157 = .ok (.iconst 1, 1) := by decide +kernel
theorem dX9_cadence_158 : decode cX9_cadence 158 = .ok (.if_icmp .ne 7, 3) := by decide +kernel
theorem dX9_cadence_161 : decode cX9_cadence 161 = .ok (.iconst (-1), 1) := by decide +kernel
theorem dX9_cadence_162 : decode cX9_cadence 162 = .ok (.goto 4, 3) := by decide +kernel
theorem dX9_cadence_165 : decode cX9_cadence 165 = .ok (.iconst 4, 1) := by decide +kernel
theorem dX9_cadence_166 : decode cX9_cadence 166 = .ok (.ireturn, 1) := by decide +kernel
theorem dX9_suspend_0 : decode cX9_suspend 0 = .ok (.aload_n 0, 1) := by decide +kernel
theorem dX9_suspend_1 : decode cX9_suspend 1 = .ok (.aload_n 0, 1) := by decide +kernel
theorem dX9_suspend_2 : decode cX9_suspend 2 = .ok (.iload_n 1, 1) := by decide +kernel
theorem dX9_suspend_3 : decode cX9_suspend 3 = .ok (.invokevirtual 104, 3) := by decide +kernel
theorem dX9_suspend_6 : decode cX9_suspend 6 = .ok (.invokevirtual 107, 3) := by decide +kernel
theorem dX9_suspend_9 : decode cX9_suspend 9 = .ok (.istore_n 3, 1) := by decide +kernel
theorem dX9_suspend_10 : decode cX9_suspend 10 = .ok (.aload_n 0, 1) := by decide +kernel
theorem dX9_suspend_11 : decode cX9_suspend 11 = .ok (.iload_n 1, 1) := by decide +kernel
theorem dX9_suspend_12 : decode cX9_suspend 12 = .ok (.invokevirtual 100, 3) := by decide +kernel
theorem dX9_suspend_15 : decode cX9_suspend 15 = .ok (.ifCond .eq 15, 3) := by decide +kernel
theorem dX9_suspend_18 : decode cX9_suspend 18 = .ok (.aload_n 0, 1) := by decide +kernel
theorem dX9_suspend_19 : decode cX9_suspend 19 = .ok (.iload_n 1, 1) := by decide +kernel
theorem dX9_suspend_20 : decode cX9_suspend 20 = .ok (.invokevirtual 87, 3) := by decide +kernel
theorem dX9_suspend_23 : decode cX9_suspend 23 = .ok (.iload_n 3, 1) := by decide +kernel
theorem dX9_suspend_24 : decode cX9_suspend 24 = .ok (.invokestatic 110, 3) := by decide +kernel
theorem dX9_suspend_27 : decode cX9_suspend 27 = .ok (.ifCond .eq 5, 3) := by decide +kernel
theorem dX9_suspend_30 : decode cX9_suspend 30 = .ok (.iconst (-1), 1) := by decide +kernel
theorem dX9_suspend_31 : decode cX9_suspend 31 = .ok (.ireturn, 1) := by decide +kernel
theorem dX9_suspend_32 : decode cX9_suspend 32 = .ok (.aload_n 0, 1) := by decide +kernel
theorem dX9_suspend_33 : decode cX9_suspend 33 = .ok (.iload_n 1, 1) := by decide +kernel
theorem dX9_suspend_34 : decode cX9_suspend 34 = .ok (.iconst 1, 1) := by decide +kernel
theorem dX9_suspend_35 : decode cX9_suspend 35 = .ok (.iadd, 1) := by decide +kernel
theorem dX9_suspend_36 : decode cX9_suspend 36 = .ok (.iload_n 2, 1) := by decide +kernel
theorem dX9_suspend_37 : decode cX9_suspend 37 = .ok (.invokevirtual 96, 3) := by decide +kernel
theorem dX9_suspend_40 : decode cX9_suspend 40 = .ok (.ifCond .eq 54, 3) := by decide +kernel
theorem dX9_suspend_43 : decode cX9_suspend 43 = .ok (.aload_n 0, 1) := by decide +kernel
theorem dX9_suspend_44 : decode cX9_suspend 44 = .ok (.iload_n 1, 1) := by decide +kernel
theorem dX9_suspend_45 : decode cX9_suspend 45 = .ok (.iconst 1, 1) := by decide +kernel
theorem dX9_suspend_46 : decode cX9_suspend 46 = .ok (.iadd, 1) := by decide +kernel
theorem dX9_suspend_47 : decode cX9_suspend 47 = .ok (.invokevirtual 87, 3) := by decide +kernel
theorem dX9_suspend_50 : decode cX9_suspend 50 = .ok (.invokestatic 49, 3) := by decide +kernel
theorem dX9_suspend_53 : decode cX9_suspend 53 = .ok (.aload_n 0, 1) := by decide +kernel
theorem dX9_suspend_54 : decode cX9_suspend 54 = .ok (.iload_n 1, 1) := by decide +kernel
theorem dX9_suspend_55 : decode cX9_suspend 55 = .ok (.invokevirtual 87, 3) := by decide +kernel
theorem dX9_suspend_58 : decode cX9_suspend 58 = .ok (.invokestatic 49, 3) := by decide +kernel
theorem dX9_suspend_61 : decode cX9_suspend 61 = .ok (.iconst 1, 1) := by decide +kernel
theorem dX9_suspend_62 : decode cX9_suspend 62 = .ok (.isub, 1) := by decide +kernel
theorem dX9_suspend_63 : decode cX9_suspend 63 = .ok (.if_icmp .ne 31, 3) := by decide +kernel
theorem dX9_suspend_66 : decode cX9_suspend 66 = .ok (.aload_n 0, 1) := by decide +kernel
theorem dX9_suspend_67 : decode cX9_suspend 67 = .ok (.iload_n 1, 1) := by decide +kernel
theorem dX9_suspend_68 : decode cX9_suspend 68 = .ok (.iconst 1, 1) := by decide +kernel
theorem dX9_suspend_69 : decode cX9_suspend 69 = .ok (.iadd, 1) := by decide +kernel
theorem dX9_suspend_70 : decode cX9_suspend 70 = .ok (.invokevirtual 87, 3) := by decide +kernel
theorem dX9_suspend_73 : decode cX9_suspend 73 = .ok (.aload_n 0, 1) := by decide +kernel
theorem dX9_suspend_74 : decode cX9_suspend 74 = .ok (.aload_n 0, 1) := by decide +kernel
theorem dX9_suspend_75 : decode cX9_suspend 75 = .ok (.iload_n 1, 1) := by decide +kernel
theorem dX9_suspend_76 : decode cX9_suspend 76 = .ok (.iconst 1, 1) := by decide +kernel
theorem dX9_suspend_77 : decode cX9_suspend 77 = .ok (.iadd, 1) := by decide +kernel
theorem dX9_suspend_78 : decode cX9_suspend 78 = .ok (.invokevirtual 104, 3) := by decide +kernel
theorem dX9_suspend_81 : decode cX9_suspend 81 = .ok (.invokevirtual 107, 3) := by decide +kernel
theorem dX9_suspend_84 : decode cX9_suspend 84 = .ok (.invokestatic 110, 3) := by decide +kernel
theorem dX9_suspend_87 : decode cX9_suspend 87 = .ok (.ifCond .eq 7, 3) := by decide +kernel
theorem dX9_suspend_90 : decode cX9_suspend 90 = .ok (.iconst 1, 1) := by decide +kernel
theorem dX9_suspend_91 : decode cX9_suspend 91 = .ok (.goto 4, 3) := by decide +kernel
theorem dX9_suspend_94 : decode cX9_suspend 94 = .ok (.iconst 0, 1) := by decide +kernel
theorem dX9_suspend_95 : decode cX9_suspend 95 = .ok (.istore 4, 2) := by decide +kernel
theorem dX9_suspend_97 : decode cX9_suspend 97 = .ok (.iload 4, 2) := by decide +kernel
theorem dX9_suspend_99 : decode cX9_suspend 99 = .ok (.ifCond .eq 7, 3) := by decide +kernel
theorem dX9_suspend_102 : decode cX9_suspend 102 = .ok (.iconst (-1), 1) := by decide +kernel
theorem dX9_suspend_103 : decode cX9_suspend 103 = .ok (.goto 12, 3) := by decide +kernel
theorem dX9_suspend_106 : decode cX9_suspend 106 = .ok (.aload_n 0, 1) := by decide +kernel
theorem dX9_suspend_107 : decode cX9_suspend 107 = .ok (.iload_n 1, 1) := by decide +kernel
theorem dX9_suspend_108 : decode cX9_suspend 108 = .ok (.invokevirtual 87, 3) := by decide +kernel
theorem dX9_suspend_111 : decode cX9_suspend 111 = .ok (.iload_n 3, 1) := by decide +kernel
theorem dX9_suspend_112 : decode cX9_suspend 112 = .ok (.invokestatic 68, 3) := by decide +kernel
theorem dX9_suspend_115 : decode cX9_suspend 115 = .ok (.ireturn, 1) := by decide +kernel
theorem dX9_detail_0 : decode cX9_detail 0 = .ok (.aload_n 0, 1) := by decide +kernel
theorem dX9_detail_1 : decode cX9_detail 1 = .ok (.iload_n 2, 1) := by decide +kernel
theorem dX9_detail_2 : decode cX9_detail 2 = .ok (.invokevirtual 87, 3) := by decide +kernel
theorem dX9_detail_5 : decode cX9_detail 5 = .ok (.istore 4, 2) := by decide +kernel
theorem dX9_detail_7 : decode cX9_detail 7 = .ok (.aload_n 0, 1) := by decide +kernel
theorem dX9_detail_8 : decode cX9_detail 8 = .ok (.iload_n 2, 1) := by decide +kernel
theorem dX9_detail_9 : decode cX9_detail 9 = .ok (.invokevirtual 104, 3) := by decide +kernel
theorem dX9_detail_12 : decode cX9_detail 12 = .ok (.istore 5, 2) := by decide +kernel
theorem dX9_detail_14 : decode cX9_detail 14 = .ok (.aload_n 0, 1) := by decide +kernel
theorem dX9_detail_15 : decode cX9_detail 15 = .ok (.iload 5, 2) := by decide +kernel
theorem dX9_detail_17 : decode cX9_detail 17 = .ok (.invokevirtual 107, 3) := by decide +kernel
theorem dX9_detail_20 : decode cX9_detail 20 = .ok (.istore 6, 2) := by decide +kernel
theorem dX9_detail_22 : decode cX9_detail 22 = .ok (.iload 4, 2) := by decide +kernel
theorem dX9_detail_24 : decode cX9_detail 24 = .ok (.iload 6, 2) := by decide +kernel
theorem dX9_detail_26 : decode cX9_detail 26 = .ok (.invokestatic 68, 3) := by decide +kernel
theorem dX9_detail_29 : decode cX9_detail 29 = .ok (.istore 7, 2) := by decide +kernel
theorem dX9_detail_31 : decode cX9_detail 31 = .ok (.aload_n 0, 1) := by decide +kernel
theorem dX9_detail_32 : decode cX9_detail 32 = .ok (.iload_n 2, 1) := by decide +kernel
theorem dX9_detail_33 : decode cX9_detail 33 = .ok (.iconst 1, 1) := by decide +kernel
theorem dX9_detail_34 : decode cX9_detail 34 = .ok (.isub, 1) := by decide +kernel
theorem dX9_detail_35 : decode cX9_detail 35 = .ok (.iload_n 3, 1) := by decide +kernel
theorem dX9_detail_36 : decode cX9_detail 36 = .ok (.invokevirtual 96, 3) := by decide +kernel
theorem dX9_detail_39 : decode cX9_detail 39 = .ok (.istore 8, 2) := by decide +kernel
theorem dX9_detail_41 : decode cX9_detail 41 = .ok (.iload 8, 2) := by decide +kernel
theorem dX9_detail_43 : decode cX9_detail 43 = .ok (.ifCond .eq 18, 3) := by decide +kernel
theorem dX9_detail_46 : decode cX9_detail 46 = .ok (.aload_n 0, 1) := by decide +kernel
theorem dX9_detail_47 : decode cX9_detail 47 = .ok (.iload_n 2, 1) := by decide +kernel
theorem dX9_detail_48 : decode cX9_detail 48 = .ok (.iconst 2, 1) := by decide +kernel
theorem dX9_detail_49 : decode cX9_detail 49 = .ok (.isub, 1) := by decide +kernel
theorem dX9_detail_50 : decode cX9_detail 50 = .ok (.iload_n 3, 1) := by decide +kernel
theorem dX9_detail_51 : decode cX9_detail 51 = .ok (.invokevirtual 96, 3) := by decide +kernel
theorem dX9_detail_54 : decode cX9_detail 54 = .ok (.ifCond .eq 7, 3) := by decide +kernel
theorem dX9_detail_57 : decode cX9_detail 57 = .ok (.iconst 1, 1) := by decide +kernel
theorem dX9_detail_58 : decode cX9_detail 58 = .ok (.goto 4, 3) := by decide +kernel
theorem dX9_detail_61 : decode cX9_detail 61 = .ok (.iconst 0, 1) := by decide +kernel
theorem dX9_detail_62 : decode cX9_detail 62 = .ok (.istore 9, 2) := by decide +kernel
theorem dX9_detail_64 : decode cX9_detail 64 = .ok (.aload_n 0, 1) := by decide +kernel
theorem dX9_detail_65 : decode cX9_detail 65 = .ok (.iload_n 2, 1) := by decide +kernel
theorem dX9_detail_66 : decode cX9_detail 66 = .ok (.invokevirtual 90, 3) := by decide +kernel
theorem dX9_detail_69 : decode cX9_detail 69 = .ok (.ifCond .ne 7, 3) := by decide +kernel
theorem dX9_detail_72 : decode cX9_detail 72 = .ok (.iconst 1, 1) := by decide +kernel
theorem dX9_detail_73 : decode cX9_detail 73 = .ok (.goto 4, 3) := by decide +kernel
theorem dX9_detail_76 : decode cX9_detail 76 = .ok (.iconst 0, 1) := by decide +kernel
theorem dX9_detail_77 : decode cX9_detail 77 = .ok (.istore 10, 2) := by decide +kernel
theorem dX9_detail_79 : decode cX9_detail 79 = .ok (.iload_n 1, 1) := by decide +kernel
theorem dX9_detail_80 : decode cX9_detail 80 = .ok (.tableswitch 486 1 15 #[76, 109, 147, 162, 193, 208, 215, 245, 252, 299, 319, 352, 397, 416, 462], 76) := by decide +kernel
theorem dX9_detail_156 : decode cX9_detail 156 = .ok (.iload 4, 2) := by decide +kernel
theorem dX9_detail_158 : decode cX9_detail 158 = .ok (.invokestatic 61, 3) := by decide +kernel
theorem dX9_detail_161 : decode cX9_detail 161 = .ok (.aload_n 0, 1) := by decide +kernel
theorem dX9_detail_162 : decode cX9_detail 162 = .ok (.getfield 9, 3) := by decide +kernel
theorem dX9_detail_165 : decode cX9_detail 165 = .ok (.iconst 4, 1) := by decide +kernel
theorem dX9_detail_166 : decode cX9_detail 166 = .ok (.iaload, 1) := by decide +kernel
theorem dX9_detail_167 : decode cX9_detail 167 = .ok (.aload_n 0, 1) := by decide +kernel
theorem dX9_detail_168 : decode cX9_detail 168 = .ok (.getfield 9, 3) := by decide +kernel
theorem dX9_detail_171 : decode cX9_detail 171 = .ok (.iconst 5, 1) := by decide +kernel
theorem dX9_detail_172 : decode cX9_detail 172 = .ok (.iaload, 1) := by decide +kernel
theorem dX9_detail_173 : decode cX9_detail 173 = .ok (.invokestatic 74, 3) := by decide +kernel
theorem dX9_detail_176 : decode cX9_detail 176 = .ok (.ifCond .eq 7, 3) := by decide +kernel
theorem dX9_detail_179 : decode cX9_detail 179 = .ok (.iconst (-1), 1) := by decide +kernel
theorem dX9_detail_180 : decode cX9_detail 180 = .ok (.goto 8, 3) := by decide +kernel
theorem dX9_detail_183 : decode cX9_detail 183 = .ok (.iload 4, 2) := by decide +kernel
theorem dX9_detail_185 : decode cX9_detail 185 = .ok (.invokestatic 61, 3) := by decide +kernel
theorem dX9_detail_188 : decode cX9_detail 188 = .ok (.ireturn, 1) := by decide +kernel
theorem dX9_detail_189 : decode cX9_detail 189 = .ok (.iload 8, 2) := by decide +kernel
theorem dX9_detail_191 : decode cX9_detail 191 = .ok (.ifCond .eq 34, 3) := by decide +kernel
theorem dX9_detail_194 : decode cX9_detail 194 = .ok (.aload_n 0, 1) := by decide +kernel
theorem dX9_detail_195 : decode cX9_detail 195 = .ok (.aload_n 0, 1) := by decide +kernel
theorem dX9_detail_196 : decode cX9_detail 196 = .ok (.iload_n 2, 1) := by decide +kernel
theorem dX9_detail_197 : decode cX9_detail 197 = .ok (.iconst 1, 1) := by decide +kernel
theorem dX9_detail_198 : decode cX9_detail 198 = .ok (.isub, 1) := by decide +kernel
theorem dX9_detail_199 : decode cX9_detail 199 = .ok (.invokevirtual 87, 3) := by decide +kernel
theorem dX9_detail_202 : decode cX9_detail 202 = .ok (.iload 4, 2) := by decide +kernel
theorem dX9_detail_204 : decode cX9_detail 204 = .ok (.invokevirtual 116, 3) := by decide +kernel
theorem dX9_detail_207 : decode cX9_detail 207 = .ok (.ifCond .ne 18, 3) := by decide +kernel
theorem dX9_detail_210 : decode cX9_detail 210 = .ok (.aload_n 0, 1) := by decide +kernel
theorem dX9_detail_211 : decode cX9_detail 211 = .ok (.iload_n 2, 1) := by decide +kernel
theorem dX9_detail_212 : decode cX9_detail 212 = .ok (.iconst 1, 1) := by decide +kernel
theorem dX9_detail_213 : decode cX9_detail 213 = .ok (.isub, 1) := by decide +kernel
theorem dX9_detail_214 : decode cX9_detail 214 = .ok (.invokevirtual 87, 3) := by decide +kernel
theorem dX9_detail_217 : decode cX9_detail 217 = .ok (.iload 4, 2) := by decide +kernel
theorem dX9_detail_219 : decode cX9_detail 219 = .ok (.invokestatic 68, 3) := by decide +kernel
theorem dX9_detail_222 : decode cX9_detail 222 = .ok (.goto 4, 3) := by decide +kernel
theorem dX9_detail_225 : decode cX9_detail 225 = .ok (.iconst (-1), 1) := by decide +kernel
theorem dX9_detail_226 : decode cX9_detail 226 = .ok (.ireturn, 1) := by decide +kernel
theorem dX9_detail_227 : decode cX9_detail 227 = .ok (.iload 9, 2) := by decide +kernel
theorem dX9_detail_229 : decode cX9_detail 229 = .ok (.ifCond .eq 11, 3) := by decide +kernel
theorem dX9_detail_232 : decode cX9_detail 232 = .ok (.aload_n 0, 1) := by decide +kernel
theorem dX9_detail_233 : decode cX9_detail 233 = .ok (.iload_n 2, 1) := by decide +kernel
theorem dX9_detail_234 : decode cX9_detail 234 = .ok (.invokevirtual 119, 3) := by decide +kernel
theorem dX9_detail_237 : decode cX9_detail 237 = .ok (.goto 4, 3) := by decide +kernel
theorem dX9_detail_240 : decode cX9_detail 240 = .ok (.iconst (-1), 1) := by decide +kernel
theorem dX9_detail_241 : decode cX9_detail 241 = .ok (.ireturn, 1) := by decide +kernel
theorem dX9_detail_242 : decode cX9_detail 242 = .ok (.iload 8, 2) := by decide +kernel
theorem dX9_detail_244 : decode cX9_detail 244 = .ok (.ifCond .eq 27, 3) := by decide +kernel
theorem dX9_detail_247 : decode cX9_detail 247 = .ok (.aload_n 0, 1) := by decide +kernel
theorem dX9_detail_248 : decode cX9_detail 248 = .ok (.iload_n 2, 1) := by decide +kernel
theorem dX9_detail_249 : decode cX9_detail 249 = .ok (.iconst 1, 1) := by decide +kernel
theorem dX9_detail_250 : decode cX9_detail 250 = .ok (.isub, 1) := by decide +kernel
theorem dX9_detail_251 : decode cX9_detail 251 = .ok (.invokevirtual 87, 3) := by decide +kernel
theorem dX9_detail_254 : decode cX9_detail 254 = .ok (.iload 4, 2) := by decide +kernel
theorem dX9_detail_256 : decode cX9_detail 256 = .ok (.if_icmp .ne 15, 3) := by decide +kernel
theorem dX9_detail_259 : decode cX9_detail 259 = .ok (.aload_n 0, 1) := by decide +kernel
theorem dX9_detail_260 : decode cX9_detail 260 = .ok (.iload_n 2, 1) := by decide +kernel
theorem dX9_detail_261 : decode cX9_detail 261 = .ok (.invokevirtual 100, 3) := by decide +kernel
theorem dX9_detail_264 : decode cX9_detail 264 = .ok (.ifCond .ne 7, 3) := by decide +kernel
theorem dX9_detail_267 : decode cX9_detail 267 = .ok (.iconst 0, 1) := by decide +kernel
theorem dX9_detail_268 : decode cX9_detail 268 = .ok (.goto 4, 3) := by decide +kernel
theorem dX9_detail_271 : decode cX9_detail 271 = .ok (.iconst (-1), 1) := by decide +kernel
theorem dX9_detail_272 : decode cX9_detail 272 = .ok (.ireturn, 1) := by decide +kernel
theorem dX9_detail_273 : decode cX9_detail 273 = .ok (.iload 9, 2) := by decide +kernel
theorem dX9_detail_275 : decode cX9_detail 275 = .ok (.ifCond .eq 11, 3) := by decide +kernel
theorem dX9_detail_278 : decode cX9_detail 278 = .ok (.aload_n 0, 1) := by decide +kernel
theorem dX9_detail_279 : decode cX9_detail 279 = .ok (.iload_n 2, 1) := by decide +kernel
theorem dX9_detail_280 : decode cX9_detail 280 = .ok (.invokevirtual 122, 3) := by decide +kernel
theorem dX9_detail_283 : decode cX9_detail 283 = .ok (.goto 4, 3) := by decide +kernel
theorem dX9_detail_286 : decode cX9_detail 286 = .ok (.iconst (-1), 1) := by decide +kernel
theorem dX9_detail_287 : decode cX9_detail 287 = .ok (.ireturn, 1) := by decide +kernel
theorem dX9_detail_288 : decode cX9_detail 288 = .ok (.aload_n 0, 1) := by decide +kernel
theorem dX9_detail_289 : decode cX9_detail 289 = .ok (.iload_n 2, 1) := by decide +kernel
theorem dX9_detail_290 : decode cX9_detail 290 = .ok (.iload_n 3, 1) := by decide +kernel
theorem dX9_detail_291 : decode cX9_detail 291 = .ok (.invokevirtual 125, 3) := by decide +kernel
theorem dX9_detail_294 : decode cX9_detail 294 = .ok (.ireturn, 1) := by decide +kernel
theorem dX9_detail_295 : decode cX9_detail 295 = .ok (.iload 10, 2) := by decide +kernel
theorem dX9_detail_297 : decode cX9_detail 297 = .ok (.ifCond .eq 26, 3) := by decide +kernel
theorem dX9_detail_300 : decode cX9_detail 300 = .ok (.iload 4, 2) := by decide +kernel
theorem dX9_detail_302 : decode cX9_detail 302 = .ok (.iload 6, 2) := by decide +kernel
theorem dX9_detail_304 : decode cX9_detail 304 = .ok (.invokestatic 110, 3) := by decide +kernel
theorem dX9_detail_307 : decode cX9_detail 307 = .ok (.ifCond .ne 16, 3) := by decide +kernel
theorem dX9_detail_310 : decode cX9_detail 310 = .ok (.aload_n 0, 1) := by decide +kernel
theorem dX9_detail_311 : decode cX9_detail 311 = .ok (.iload_n 2, 1) := by decide +kernel
theorem dX9_detail_312 : decode cX9_detail 312 = .ok (.invokevirtual 100, 3) := by decide +kernel
theorem dX9_detail_315 : decode cX9_detail 315 = .ok (.ifCond .ne 8, 3) := by decide +kernel
theorem dX9_detail_318 : decode cX9_detail 318 = .ok (.iload 7, 2) := by decide +kernel
theorem dX9_detail_320 : decode cX9_detail 320 = .ok (.goto 4, 3) := by decide +kernel
theorem dX9_detail_323 : decode cX9_detail 323 = .ok (.iconst (-1), 1) := by decide +kernel
theorem dX9_detail_324 : decode cX9_detail 324 = .ok (.ireturn, 1) := by decide +kernel
theorem dX9_detail_325 : decode cX9_detail 325 = .ok (.aload_n 0, 1) := by decide +kernel
theorem dX9_detail_326 : decode cX9_detail 326 = .ok (.iload_n 2, 1) := by decide +kernel
theorem dX9_detail_327 : decode cX9_detail 327 = .ok (.iload_n 3, 1) := by decide +kernel
theorem dX9_detail_328 : decode cX9_detail 328 = .ok (.invokevirtual 128, 3) := by decide +kernel
theorem dX9_detail_331 : decode cX9_detail 331 = .ok (.ireturn, 1) := by decide +kernel
theorem dX9_detail_332 : decode cX9_detail 332 = .ok (.iload 10, 2) := by decide +kernel
theorem dX9_detail_334 : decode cX9_detail 334 = .ok (.ifCond .eq 43, 3) := by decide +kernel
theorem dX9_detail_337 : decode cX9_detail 337 = .ok (.iload 5, 2) := by decide +kernel
theorem dX9_detail_339 : decode cX9_detail 339 = .ok (.ifCond .le 38, 3) := by decide +kernel
theorem dX9_detail_342 : decode cX9_detail 342 = .ok (.aload_n 0, 1) := by decide +kernel
theorem dX9_detail_343 : decode cX9_detail 343 = .ok (.iload_n 2, 1) := by decide +kernel
theorem dX9_detail_344 : decode cX9_detail 344 = .ok (.iload_n 2, 1) := by decide +kernel
theorem dX9_detail_345 : decode cX9_detail 345 = .ok (.aload_n 0, 1) := by decide +kernel
theorem dX9_detail_346 : decode cX9_detail 346 = .ok (.invokevirtual 83, 3) := by decide +kernel
theorem dX9_detail_349 : decode cX9_detail 349 = .ok (.isub, 1) := by decide +kernel
theorem dX9_detail_350 : decode cX9_detail 350 = .ok (.invokevirtual 113, 3) := by decide +kernel
theorem dX9_detail_353 : decode cX9_detail 353 = .ok (.ifCond .ne 14, 3) := by decide +kernel
theorem dX9_detail_356 : decode cX9_detail 356 = .ok (.aload_n 0, 1) := by decide +kernel
theorem dX9_detail_357 : decode cX9_detail 357 = .ok (.iload_n 2, 1) := by decide +kernel
theorem dX9_detail_358 : decode cX9_detail 358 = .ok (.iload_n 2, 1) := by decide +kernel
theorem dX9_detail_359 : decode cX9_detail 359 = .ok (.iconst 1, 1) := by decide +kernel
theorem dX9_detail_360 : decode cX9_detail 360 = .ok (.isub, 1) := by decide +kernel
theorem dX9_detail_361 : decode cX9_detail 361 = .ok (.invokevirtual 113, 3) := by decide +kernel
theorem dX9_detail_364 : decode cX9_detail 364 = .ok (.ifCond .eq 13, 3) := by decide +kernel
theorem dX9_detail_367 : decode cX9_detail 367 = .ok (.iload 4, 2) := by decide +kernel
theorem dX9_detail_369 : decode cX9_detail 369 = .ok (.iload 6, 2) := by decide +kernel
theorem dX9_detail_371 : decode cX9_detail 371 = .ok (.invokestatic 71, 3) := by decide +kernel
theorem dX9_detail_374 : decode cX9_detail 374 = .ok (.goto 4, 3) := by decide +kernel
theorem dX9_detail_377 : decode cX9_detail 377 = .ok (.iconst (-1), 1) := by decide +kernel
theorem dX9_detail_378 : decode cX9_detail 378 = .ok (.ireturn, 1) := by decide +kernel
theorem dX9_detail_379 : decode cX9_detail 379 = .ok (.iload 10, 2) := by decide +kernel
theorem dX9_detail_381 : decode cX9_detail 381 = .ok (.ifCond .eq 16, 3) := by decide +kernel
theorem dX9_detail_384 : decode cX9_detail 384 = .ok (.iload 5, 2) := by decide +kernel
theorem dX9_detail_386 : decode cX9_detail 386 = .ok (.ifCond .le 11, 3) := by decide +kernel
theorem dX9_detail_389 : decode cX9_detail 389 = .ok (.aload_n 0, 1) := by decide +kernel
theorem dX9_detail_390 : decode cX9_detail 390 = .ok (.iload_n 2, 1) := by decide +kernel
theorem dX9_detail_391 : decode cX9_detail 391 = .ok (.invokevirtual 131, 3) := by decide +kernel
theorem dX9_detail_394 : decode cX9_detail 394 = .ok (.goto 4, 3) := by decide +kernel
theorem dX9_detail_397 : decode cX9_detail 397 = .ok (.iconst (-1), 1) := by decide +kernel
theorem dX9_detail_398 : decode cX9_detail 398 = .ok (.ireturn, 1) := by decide +kernel
theorem dX9_detail_399 : decode cX9_detail 399 = .ok (.iload 10, 2) := by decide +kernel
theorem dX9_detail_401 : decode cX9_detail 401 = .ok (.ifCond .eq 29, 3) := by decide +kernel
theorem dX9_detail_404 : decode cX9_detail 404 = .ok (.iload 7, 2) := by decide +kernel
theorem dX9_detail_406 : decode cX9_detail 406 = .ok (.ifCond .ne 24, 3) := by decide +kernel
theorem dX9_detail_409 : decode cX9_detail 409 = .ok (.iload 5, 2) := by decide +kernel
theorem dX9_detail_411 : decode cX9_detail 411 = .ok (.iconst 1, 1) := by decide +kernel
theorem dX9_detail_412 : decode cX9_detail 412 = .ok (.aload_n 0, 1) := by decide +kernel
theorem dX9_detail_413 : decode cX9_detail 413 = .ok (.getfield 9, 3) := by decide +kernel
theorem dX9_detail_416 : decode cX9_detail 416 = .ok (.iconst 0, 1) := by decide +kernel
theorem dX9_detail_417 : decode cX9_detail 417 = .ok (.iaload, 1) := by decide +kernel
theorem dX9_detail_418 : decode cX9_detail 418 = .ok (.iconst 2, 1) := by decide +kernel
theorem dX9_detail_419 : decode cX9_detail 419 = .ok (.isub, 1) := by decide +kernel
theorem dX9_detail_420 : decode cX9_detail 420 = .ok (.invokestatic 74, 3) := by decide +kernel
theorem dX9_detail_423 : decode cX9_detail 423 = .ok (.ifCond .eq 7, 3) := by decide +kernel
theorem dX9_detail_426 : decode cX9_detail 426 = .ok (.iconst 0, 1) := by decide +kernel
theorem dX9_detail_427 : decode cX9_detail 427 = .ok (.goto 4, 3) := by decide +kernel
theorem dX9_detail_430 : decode cX9_detail 430 = .ok (.iconst (-1), 1) := by decide +kernel
theorem dX9_detail_431 : decode cX9_detail 431 = .ok (.ireturn, 1) := by decide +kernel
theorem dX9_detail_432 : decode cX9_detail 432 = .ok (.aload_n 0, 1) := by decide +kernel
theorem dX9_detail_433 : decode cX9_detail 433 = .ok (.getfield 9, 3) := by decide +kernel
theorem dX9_detail_436 : decode cX9_detail 436 = .ok (.iconst 3, 1) := by decide +kernel
theorem dX9_detail_437 : decode cX9_detail 437 = .ok (.iaload, 1) := by decide +kernel
theorem dX9_detail_438 : decode cX9_detail 438 = .ok (.ifCond .ne 19, 3) := by decide +kernel
theorem dX9_detail_441 : decode cX9_detail 441 = .ok (.iload 4, 2) := by decide +kernel
theorem dX9_detail_443 : decode cX9_detail 443 = .ok (.invokestatic 61, 3) := by decide +kernel
theorem dX9_detail_446 : decode cX9_detail 446 = .ok (.iload 6, 2) := by decide +kernel
theorem dX9_detail_448 : decode cX9_detail 448 = .ok (.invokestatic 61, 3) := by decide +kernel
theorem dX9_detail_451 : decode cX9_detail 451 = .ok (.if_icmp .ge 24, 3) := by decide +kernel
theorem dX9_detail_454 : decode cX9_detail 454 = .ok (.goto 16, 3) := by decide +kernel
theorem dX9_detail_457 : decode cX9_detail 457 = .ok (.iload 4, 2) := by decide +kernel
theorem dX9_detail_459 : decode cX9_detail 459 = .ok (.invokestatic 61, 3) := by decide +kernel
theorem dX9_detail_462 : decode cX9_detail 462 = .ok (.iload 6, 2) := by decide +kernel
theorem dX9_detail_464 : decode cX9_detail 464 = .ok (.invokestatic 61, 3) := by decide +kernel
theorem dX9_detail_467 : decode cX9_detail 467 = .ok (.if_icmp .le 8, 3) := by decide +kernel
theorem dX9_detail_470 : decode cX9_detail 470 = .ok (.iload 7, 2) := by decide +kernel
theorem dX9_detail_472 : decode cX9_detail 472 = .ok (.goto 4, 3) := by decide +kernel
theorem dX9_detail_475 : decode cX9_detail 475 = .ok (.iconst (-1), 1) := by decide +kernel
theorem dX9_detail_476 : decode cX9_detail 476 = .ok (.ireturn, 1) := by decide +kernel
theorem dX9_detail_477 : decode cX9_detail 477 = .ok (.iload 7, 2) := by decide +kernel
theorem dX9_detail_479 : decode cX9_detail 479 = .ok (.aload_n 0, 1) := by decide +kernel
theorem dX9_detail_480 : decode cX9_detail 480 = .ok (.getfield 9, 3) := by decide +kernel
theorem dX9_detail_483 : decode cX9_detail 483 = .ok (.bipush 6, 2) := by decide +kernel
theorem dX9_detail_485 : decode cX9_detail 485 = .ok (.iaload, 1) := by decide +kernel
theorem dX9_detail_486 : decode cX9_detail 486 = .ok (.if_icmp .le 8, 3) := by decide +kernel
theorem dX9_detail_489 : decode cX9_detail 489 = .ok (.iload 7, 2) := by decide +kernel
theorem dX9_detail_491 : decode cX9_detail 491 = .ok (.goto 4, 3) := by decide +kernel
theorem dX9_detail_494 : decode cX9_detail 494 = .ok (.iconst (-1), 1) := by decide +kernel
theorem dX9_detail_495 : decode cX9_detail 495 = .ok (.ireturn, 1) := by decide +kernel
theorem dX9_detail_496 : decode cX9_detail 496 = .ok (.iload 8, 2) := by decide +kernel
theorem dX9_detail_498 : decode cX9_detail 498 = .ok (.ifCond .ne 42, 3) := by decide +kernel
theorem dX9_detail_501 : decode cX9_detail 501 = .ok (.aload_n 0, 1) := by decide +kernel
theorem dX9_detail_502 : decode cX9_detail 502 = .ok (.getfield 9, 3) := by decide +kernel
theorem dX9_detail_505 : decode cX9_detail 505 = .ok (.iconst 3, 1) := by decide +kernel
theorem dX9_detail_506 : decode cX9_detail 506 = .ok (.iaload, 1) := by decide +kernel
theorem dX9_detail_507 : decode cX9_detail 507 = .ok (.ifCond .ne 16, 3) := by decide +kernel
theorem dX9_detail_510 : decode cX9_detail 510 = .ok (.iload 4, 2) := by decide +kernel
theorem dX9_detail_512 : decode cX9_detail 512 = .ok (.iload 6, 2) := by decide +kernel
theorem dX9_detail_514 : decode cX9_detail 514 = .ok (.invokestatic 71, 3) := by decide +kernel
theorem dX9_detail_517 : decode cX9_detail 517 = .ok (.ifCond .ne 23, 3) := by decide +kernel
theorem dX9_detail_520 : decode cX9_detail 520 = .ok (.goto 15, 3) := by decide +kernel
theorem dX9_detail_523 : decode cX9_detail 523 = .ok (.iload 4, 2) := by decide +kernel
theorem dX9_detail_525 : decode cX9_detail 525 = .ok (.iload 6, 2) := by decide +kernel
theorem dX9_detail_527 : decode cX9_detail 527 = .ok (.invokestatic 71, 3) := by decide +kernel
theorem dX9_detail_530 : decode cX9_detail 530 = .ok (.bipush 8, 2) := by decide +kernel
theorem dX9_detail_532 : decode cX9_detail 532 = .ok (.if_icmp .eq 8, 3) := by decide +kernel
theorem dX9_detail_535 : decode cX9_detail 535 = .ok (.iload 7, 2) := by decide +kernel
theorem dX9_detail_537 : decode cX9_detail 537 = .ok (.goto 4, 3) := by decide +kernel
theorem dX9_detail_540 : decode cX9_detail 540 = .ok (.iconst (-1), 1) := by decide +kernel
theorem dX9_detail_541 : decode cX9_detail 541 = .ok (.ireturn, 1) := by decide +kernel
theorem dX9_detail_542 : decode cX9_detail 542 = .ok (.iload 5, 2) := by decide +kernel
theorem dX9_detail_544 : decode cX9_detail 544 = .ok (.aload_n 0, 1) := by decide +kernel
theorem dX9_detail_545 : decode cX9_detail 545 = .ok (.getfield 9, 3) := by decide +kernel
theorem dX9_detail_548 : decode cX9_detail 548 = .ok (.iconst 0, 1) := by decide +kernel
theorem dX9_detail_549 : decode cX9_detail 549 = .ok (.iaload, 1) := by decide +kernel
theorem dX9_detail_550 : decode cX9_detail 550 = .ok (.iconst 1, 1) := by decide +kernel
theorem dX9_detail_551 : decode cX9_detail 551 = .ok (.isub, 1) := by decide +kernel
theorem dX9_detail_552 : decode cX9_detail 552 = .ok (.if_icmp .ne 12, 3) := by decide +kernel
theorem dX9_detail_555 : decode cX9_detail 555 = .ok (.aload_n 0, 1) := by decide +kernel
theorem dX9_detail_556 : decode cX9_detail 556 = .ok (.iload_n 2, 1) := by decide +kernel
theorem dX9_detail_557 : decode cX9_detail 557 = .ok (.iload_n 3, 1) := by decide +kernel
theorem dX9_detail_558 : decode cX9_detail 558 = .ok (.invokevirtual 134, 3) := by decide +kernel
theorem dX9_detail_561 : decode cX9_detail 561 = .ok (.goto 4, 3) := by decide +kernel
theorem dX9_detail_564 : decode cX9_detail 564 = .ok (.iconst (-1), 1) := by decide +kernel
theorem dX9_detail_565 : decode cX9_detail 565 = .ok (.ireturn, 1) := by decide +kernel
theorem dX9_detail_566 : decode cX9_detail 566 = .ok (.aload_n 0, 1) := by decide +kernel
theorem dX9_detail_567 : decode cX9_detail 567 = .ok (.iload_n 2, 1) := by decide +kernel
theorem dX9_detail_568 : decode cX9_detail 568 = .ok (.iload_n 3, 1) := by decide +kernel
theorem dX9_detail_569 : decode cX9_detail 569 = .ok (.invokevirtual 137, 3) := by decide +kernel
theorem dX9_detail_572 : decode cX9_detail 572 = .ok (.ireturn, 1) := by decide +kernel
theorem dX9_finds_0 : decode cX9_finds 0 = .ok (.aload_n 0, 1) := by decide +kernel
theorem dX9_finds_1 : decode cX9_finds 1 = .ok (.iconst 0, 1) := by decide +kernel
theorem dX9_finds_2 : decode cX9_finds 2 = .ok (.putfield 140, 3) := by decide +kernel
theorem dX9_finds_5 : decode cX9_finds 5 = .ok (.aload_n 0, 1) := by decide +kernel
theorem dX9_finds_6 : decode cX9_finds 6 = .ok (.getfield 9, 3) := by decide +kernel
theorem dX9_finds_9 : decode cX9_finds 9 = .ok (.iconst 1, 1) := by decide +kernel
theorem dX9_finds_10 : decode cX9_finds 10 = .ok (.iaload, 1) := by decide +kernel
theorem dX9_finds_11 : decode cX9_finds 11 = .ok (.istore_n 1, 1) := by decide +kernel
theorem dX9_finds_12 : decode cX9_finds 12 = .ok (.iconst 0, 1) := by decide +kernel
theorem dX9_finds_13 : decode cX9_finds 13 = .ok (.istore_n 2, 1) := by decide +kernel
theorem dX9_finds_14 : decode cX9_finds 14 = .ok (.iload_n 2, 1) := by decide +kernel
theorem dX9_finds_15 : decode cX9_finds 15 = .ok (.iload_n 1, 1) := by decide +kernel
theorem dX9_finds_16 : decode cX9_finds 16 = .ok (.if_icmp .ge 128, 3) := by decide +kernel
theorem dX9_finds_19 : decode cX9_finds 19 = .ok (.iconst 1, 1) := by decide +kernel
theorem dX9_finds_20 : decode cX9_finds 20 = .ok (.istore_n 3, 1) := by decide +kernel
theorem dX9_finds_21 : decode cX9_finds 21 = .ok (.iload_n 3, 1) := by decide +kernel
theorem dX9_finds_22 : decode cX9_finds 22 = .ok (.bipush 16, 2) := by decide +kernel
theorem dX9_finds_24 : decode cX9_finds 24 = .ok (.if_icmp .gt 114, 3) := by decide +kernel
theorem dX9_finds_27 : decode cX9_finds 27 = .ok (.aload_n 0, 1) := by decide +kernel
theorem dX9_finds_28 : decode cX9_finds 28 = .ok (.iload_n 2, 1) := by decide +kernel
theorem dX9_finds_29 : decode cX9_finds 29 = .ok (.invokevirtual 87, 3) := by decide +kernel
theorem dX9_finds_32 : decode cX9_finds 32 = .ok (.iconst (-1), 1) := by decide +kernel
theorem dX9_finds_33 : decode cX9_finds 33 = .ok (.if_icmp .eq 105, 3) := by decide +kernel
theorem dX9_finds_36 : decode cX9_finds 36 = .ok (.aload_n 0, 1) := by decide +kernel
theorem dX9_finds_37 : decode cX9_finds 37 = .ok (.getfield 9, 3) := by decide +kernel
theorem dX9_finds_40 : decode cX9_finds 40 = .ok (.bipush 6, 2) := by decide +kernel
theorem dX9_finds_42 : decode cX9_finds 42 = .ok (.iload_n 3, 1) := by decide +kernel
theorem dX9_finds_43 : decode cX9_finds 43 = .ok (.iadd, 1) := by decide +kernel
theorem dX9_finds_44 : decode cX9_finds 44 = .ok (.iaload, 1) := by decide +kernel
theorem dX9_finds_45 : decode cX9_finds 45 = .ok (.ifCond .ne 7, 3) := by decide +kernel
theorem dX9_finds_48 : decode cX9_finds 48 = .ok (.iconst (-1), 1) := by decide +kernel
theorem dX9_finds_49 : decode cX9_finds 49 = .ok (.goto 10, 3) := by decide +kernel
theorem dX9_finds_52 : decode cX9_finds 52 = .ok (.aload_n 0, 1) := by decide +kernel
theorem dX9_finds_53 : decode cX9_finds 53 = .ok (.iload_n 3, 1) := by decide +kernel
theorem dX9_finds_54 : decode cX9_finds 54 = .ok (.iload_n 2, 1) := by decide +kernel
theorem dX9_finds_55 : decode cX9_finds 55 = .ok (.iload_n 1, 1) := by decide +kernel
theorem dX9_finds_56 : decode cX9_finds 56 = .ok (.invokevirtual 143, 3) := by decide +kernel
theorem dX9_finds_59 : decode cX9_finds 59 = .ok (.istore 4, 2) := by decide +kernel
theorem dX9_finds_61 : decode cX9_finds 61 = .ok (.iload 4, 2) := by decide +kernel
theorem dX9_finds_63 : decode cX9_finds 63 = .ok (.iconst (-1), 1) := by decide +kernel
theorem dX9_finds_64 : decode cX9_finds 64 = .ok (.if_icmp .ne 6, 3) := by decide +kernel
theorem dX9_finds_67 : decode cX9_finds 67 = .ok (.goto 65, 3) := by decide +kernel
theorem dX9_finds_70 : decode cX9_finds 70 = .ok (.iconst 4, 1) := by decide +kernel
theorem dX9_finds_71 : decode cX9_finds 71 = .ok (.aload_n 0, 1) := by decide +kernel
theorem dX9_finds_72 : decode cX9_finds 72 = .ok (.dup, 1) := by decide +kernel
theorem dX9_finds_73 : decode cX9_finds 73 = .ok (.getfield 140, 3) := by decide +kernel
theorem dX9_finds_76 : decode cX9_finds 76 = .ok (.dup_x1, 1) := by decide +kernel
theorem dX9_finds_77 : decode cX9_finds 77 = .ok (.iconst 1, 1) := by decide +kernel
theorem dX9_finds_78 : decode cX9_finds 78 = .ok (.iadd, 1) := by decide +kernel
theorem dX9_finds_79 : decode cX9_finds 79 = .ok (.putfield 140, 3) := by decide +kernel
theorem dX9_finds_82 : decode cX9_finds 82 = .ok (.imul, 1) := by decide +kernel
theorem dX9_finds_83 : decode cX9_finds 83 = .ok (.istore 5, 2) := by decide +kernel
theorem dX9_finds_85 : decode cX9_finds 85 = .ok (.aload_n 0, 1) := by decide +kernel
theorem dX9_finds_86 : decode cX9_finds 86 = .ok (.getfield 35, 3) := by decide +kernel
theorem dX9_finds_89 : decode cX9_finds 89 = .ok (.iload 5, 2) := by decide +kernel
theorem dX9_finds_91 : decode cX9_finds 91 = .ok (.iload_n 3, 1) := by decide +kernel
theorem dX9_finds_92 : decode cX9_finds 92 = .ok (.iastore, 1) := by decide +kernel
theorem dX9_finds_93 : decode cX9_finds 93 = .ok (.aload_n 0, 1) := by decide +kernel
theorem dX9_finds_94 : decode cX9_finds 94 = .ok (.getfield 35, 3) := by decide +kernel
theorem dX9_finds_97 : decode cX9_finds 97 = .ok (.iload 5, 2) := by decide +kernel
theorem dX9_finds_99 : decode cX9_finds 99 = .ok (.iconst 1, 1) := by decide +kernel
theorem dX9_finds_100 : decode cX9_finds 100 = .ok (.iadd, 1) := by decide +kernel
theorem dX9_finds_101 : decode cX9_finds 101 = .ok (.aload_n 0, 1) := by decide +kernel
theorem dX9_finds_102 : decode cX9_finds 102 = .ok (.iload_n 2, 1) := by decide +kernel
theorem dX9_finds_103 : decode cX9_finds 103 = .ok (.invokevirtual 104, 3) := by decide +kernel
theorem dX9_finds_106 : decode cX9_finds 106 = .ok (.iastore, 1) := by decide +kernel
theorem dX9_finds_107 : decode cX9_finds 107 = .ok (.aload_n 0, 1) := by decide +kernel
theorem dX9_finds_108 : decode cX9_finds 108 = .ok (.getfield 35, 3) := by decide +kernel
theorem dX9_finds_111 : decode cX9_finds 111 = .ok (.iload 5, 2) := by decide +kernel
theorem dX9_finds_113 : decode cX9_finds 113 = .ok (.iconst 2, 1) := by decide +kernel
theorem dX9_finds_114 : decode cX9_finds 114 = .ok (.iadd, 1) := by decide +kernel
theorem dX9_finds_115 : decode cX9_finds 115 = .ok (.aload_n 0, 1) := by decide +kernel
theorem dX9_finds_116 : decode cX9_finds 116 = .ok (.iload_n 2, 1) := by decide +kernel
theorem dX9_finds_117 : decode cX9_finds 117 = .ok (.invokevirtual 90, 3) := by decide +kernel
theorem dX9_finds_120 : decode cX9_finds 120 = .ok (.iastore, 1) := by decide +kernel
theorem dX9_finds_121 : decode cX9_finds 121 = .ok (.aload_n 0, 1) := by decide +kernel
theorem dX9_finds_122 : decode cX9_finds 122 = .ok (.getfield 35, 3) := by decide +kernel
theorem dX9_finds_125 : decode cX9_finds 125 = .ok (.iload 5, 2) := by decide +kernel
theorem dX9_finds_127 : decode cX9_finds 127 = .ok (.iconst 3, 1) := by decide +kernel
theorem dX9_finds_128 : decode cX9_finds 128 = .ok (.iadd, 1) := by decide +kernel
theorem dX9_finds_129 : decode cX9_finds 129 = .ok (.iload 4, 2) := by decide +kernel
theorem dX9_finds_131 : decode cX9_finds 131 = .ok (.iastore, 1) := by decide +kernel
theorem dX9_finds_132 : decode cX9_finds 132 = .ok (.iinc 3 1, 3) := by decide +kernel
theorem dX9_finds_135 : decode cX9_finds 135 = .ok (.goto (-114), 3) := by decide +kernel
theorem dX9_finds_138 : decode cX9_finds 138 = .ok (.iinc 2 1, 3) := by decide +kernel
theorem dX9_finds_141 : decode cX9_finds 141 = .ok (.goto (-127), 3) := by decide +kernel
theorem dX9_finds_144 : decode cX9_finds 144 = .ok (.return_, 1) := by decide +kernel
theorem dX9_costNow_0 : decode cX9_costNow 0 = .ok (.aload_n 0, 1) := by decide +kernel
theorem dX9_costNow_1 : decode cX9_costNow 1 = .ok (.invokevirtual 147, 3) := by decide +kernel
theorem dX9_costNow_4 : decode cX9_costNow 4 = .ok (.iconst 0, 1) := by decide +kernel
theorem dX9_costNow_5 : decode cX9_costNow 5 = .ok (.istore_n 1, 1) := by decide +kernel
theorem dX9_costNow_6 : decode cX9_costNow 6 = .ok (.iconst 0, 1) := by decide +kernel
theorem dX9_costNow_7 : decode cX9_costNow 7 = .ok (.istore_n 2, 1) := by decide +kernel
theorem dX9_costNow_8 : decode cX9_costNow 8 = .ok (.iload_n 2, 1) := by decide +kernel
theorem dX9_costNow_9 : decode cX9_costNow 9 = .ok (.aload_n 0, 1) := by decide +kernel
theorem dX9_costNow_10 : decode cX9_costNow 10 = .ok (.getfield 140, 3) := by decide +kernel
theorem dX9_costNow_13 : decode cX9_costNow 13 = .ok (.if_icmp .ge 28, 3) := by decide +kernel
theorem dX9_costNow_16 : decode cX9_costNow 16 = .ok (.iload_n 1, 1) := by decide +kernel
theorem dX9_costNow_17 : decode cX9_costNow 17 = .ok (.aload_n 0, 1) := by decide +kernel
theorem dX9_costNow_18 : decode cX9_costNow 18 = .ok (.getfield 9, 3) := by decide +kernel
theorem dX9_costNow_21 : decode cX9_costNow 21 = .ok (.bipush 6, 2) := by decide +kernel
theorem dX9_costNow_23 : decode cX9_costNow 23 = .ok (.aload_n 0, 1) := by decide +kernel
theorem dX9_costNow_24 : decode cX9_costNow 24 = .ok (.getfield 35, 3) := by decide +kernel
theorem dX9_costNow_27 : decode cX9_costNow 27 = .ok (.iconst 4, 1) := by decide +kernel
theorem dX9_costNow_28 : decode cX9_costNow 28 = .ok (.iload_n 2, 1) := by decide +kernel
theorem dX9_costNow_29 : decode cX9_costNow 29 = .ok (.imul, 1) := by decide +kernel
theorem dX9_costNow_30 : decode cX9_costNow 30 = .ok (.iaload, 1) := by decide +kernel
theorem dX9_costNow_31 : decode cX9_costNow 31 = .ok (.iadd, 1) := by decide +kernel
theorem dX9_costNow_32 : decode cX9_costNow 32 = .ok (.iaload, 1) := by decide +kernel
theorem dX9_costNow_33 : decode cX9_costNow 33 = .ok (.iadd, 1) := by decide +kernel
theorem dX9_costNow_34 : decode cX9_costNow 34 = .ok (.istore_n 1, 1) := by decide +kernel
theorem dX9_costNow_35 : decode cX9_costNow 35 = .ok (.iinc 2 1, 3) := by decide +kernel
theorem dX9_costNow_38 : decode cX9_costNow 38 = .ok (.goto (-30), 3) := by decide +kernel
theorem dX9_costNow_41 : decode cX9_costNow 41 = .ok (.iload_n 1, 1) := by decide +kernel
theorem dX9_costNow_42 : decode cX9_costNow 42 = .ok (.ireturn, 1) := by decide +kernel
theorem dX9_append_0 : decode cX9_append 0 = .ok (.aload_n 0, 1) := by decide +kernel
theorem dX9_append_1 : decode cX9_append 1 = .ok (.iconst 0, 1) := by decide +kernel
theorem dX9_append_2 : decode cX9_append 2 = .ok (.putfield 41, 3) := by decide +kernel
theorem dX9_append_5 : decode cX9_append 5 = .ok (.iconst 0, 1) := by decide +kernel
theorem dX9_append_6 : decode cX9_append 6 = .ok (.istore_n 2, 1) := by decide +kernel
theorem dX9_append_7 : decode cX9_append 7 = .ok (.bipush 24, 2) := by decide +kernel
theorem dX9_append_9 : decode cX9_append 9 = .ok (.istore_n 3, 1) := by decide +kernel
theorem dX9_append_10 : decode cX9_append 10 = .ok (.iload_n 3, 1) := by decide +kernel
theorem dX9_append_11 : decode cX9_append 11 = .ok (.ifCond .lt 47, 3) := by decide +kernel
theorem dX9_append_14 : decode cX9_append 14 = .ok (.iload_n 1, 1) := by decide +kernel
theorem dX9_append_15 : decode cX9_append 15 = .ok (.iload_n 3, 1) := by decide +kernel
theorem dX9_append_16 : decode cX9_append 16 = .ok (.iushr, 1) := by decide +kernel
theorem dX9_append_17 : decode cX9_append 17 = .ok (.sipush 255, 3) := by decide +kernel
theorem dX9_append_20 : decode cX9_append 20 = .ok (.iand, 1) := by decide +kernel
theorem dX9_append_21 : decode cX9_append 21 = .ok (.istore 4, 2) := by decide +kernel
theorem dX9_append_23 : decode cX9_append 23 = .ok (.iload 4, 2) := by decide +kernel
theorem dX9_append_25 : decode cX9_append 25 = .ok (.ifCond .ne 6, 3) := by decide +kernel
theorem dX9_append_28 : decode cX9_append 28 = .ok (.goto 24, 3) := by decide +kernel
theorem dX9_append_31 : decode cX9_append 31 = .ok (.iload 4, 2) := by decide +kernel
theorem dX9_append_33 : decode cX9_append 33 = .ok (.bipush 33, 2) := by decide +kernel
theorem dX9_append_35 : decode cX9_append 35 = .ok (.bipush 126, 2) := by decide +kernel
theorem dX9_append_37 : decode cX9_append 37 = .ok (.invokestatic 74, 3) := by decide +kernel
theorem dX9_append_40 : decode cX9_append 40 = .ok (.ifCond .ne 9, 3) := by decide +kernel
theorem dX9_append_43 : decode cX9_append 43 = .ok (.aload_n 0, 1) := by decide +kernel
theorem dX9_append_44 : decode cX9_append 44 = .ok (.iconst 1, 1) := by decide +kernel
theorem dX9_append_45 : decode cX9_append 45 = .ok (.invokevirtual 150, 3) := by decide +kernel
theorem dX9_append_48 : decode cX9_append 48 = .ok (.ireturn, 1) := by decide +kernel
theorem dX9_append_49 : decode cX9_append 49 = .ok (.iinc 2 1, 3) := by decide +kernel
theorem dX9_append_52 : decode cX9_append 52 = .ok (.iinc 3 (-8), 3) := by decide +kernel
theorem dX9_append_55 : decode cX9_append 55 = .ok (.goto (-45), 3) := by decide +kernel
theorem dX9_append_58 : decode cX9_append 58 = .ok (.aload_n 0, 1) := by decide +kernel
theorem dX9_append_59 : decode cX9_append 59 = .ok (.getfield 153, 3) := by decide +kernel
theorem dX9_append_62 : decode cX9_append 62 = .ok (.iload_n 2, 1) := by decide +kernel
theorem dX9_append_63 : decode cX9_append 63 = .ok (.iadd, 1) := by decide +kernel
theorem dX9_append_64 : decode cX9_append 64 = .ok (.sipush 180, 3) := by decide +kernel
theorem dX9_append_67 : decode cX9_append 67 = .ok (.if_icmp .le 9, 3) := by decide +kernel
theorem dX9_append_70 : decode cX9_append 70 = .ok (.aload_n 0, 1) := by decide +kernel
theorem dX9_append_71 : decode cX9_append 71 = .ok (.iconst 2, 1) := by decide +kernel
theorem dX9_append_72 : decode cX9_append 72 = .ok (.invokevirtual 150, 3) := by decide +kernel
theorem dX9_append_75 : decode cX9_append 75 = .ok (.ireturn, 1) := by decide +kernel
theorem dX9_append_76 : decode cX9_append 76 = .ok (.bipush 24, 2) := by decide +kernel
theorem dX9_append_78 : decode cX9_append 78 = .ok (.istore_n 3, 1) := by decide +kernel
theorem dX9_append_79 : decode cX9_append 79 = .ok (.iload_n 3, 1) := by decide +kernel
theorem dX9_append_80 : decode cX9_append 80 = .ok (.ifCond .lt 42, 3) := by decide +kernel
theorem dX9_append_83 : decode cX9_append 83 = .ok (.iload_n 1, 1) := by decide +kernel
theorem dX9_append_84 : decode cX9_append 84 = .ok (.iload_n 3, 1) := by decide +kernel
theorem dX9_append_85 : decode cX9_append 85 = .ok (.iushr, 1) := by decide +kernel
theorem dX9_append_86 : decode cX9_append 86 = .ok (.sipush 255, 3) := by decide +kernel
theorem dX9_append_89 : decode cX9_append 89 = .ok (.iand, 1) := by decide +kernel
theorem dX9_append_90 : decode cX9_append 90 = .ok (.ifCond .eq 26, 3) := by decide +kernel
theorem dX9_append_93 : decode cX9_append 93 = .ok (.aload_n 0, 1) := by decide +kernel
theorem dX9_append_94 : decode cX9_append 94 = .ok (.getfield 19, 3) := by decide +kernel
theorem dX9_append_97 : decode cX9_append 97 = .ok (.aload_n 0, 1) := by decide +kernel
theorem dX9_append_98 : decode cX9_append 98 = .ok (.dup, 1) := by decide +kernel
theorem dX9_append_99 : decode cX9_append 99 = .ok (.getfield 153, 3) := by decide +kernel
theorem dX9_append_102 : decode cX9_append 102 = .ok (.dup_x1, 1) := by decide +kernel
theorem dX9_append_103 : decode cX9_append 103 = .ok (.iconst 1, 1) := by decide +kernel
theorem dX9_append_104 : decode cX9_append 104 = .ok (.iadd, 1) := by decide +kernel
theorem dX9_append_105 : decode cX9_append 105 = .ok (.putfield 153, 3) := by decide +kernel
theorem dX9_append_108 : decode cX9_append 108 = .ok (.iload_n 1, 1) := by decide +kernel
theorem dX9_append_109 : decode cX9_append 109 = .ok (.iload_n 3, 1) := by decide +kernel
theorem dX9_append_110 : decode cX9_append 110 = .ok (.iushr, 1) := by decide +kernel
theorem dX9_append_111 : decode cX9_append 111 = .ok (.sipush 255, 3) := by decide +kernel
theorem dX9_append_114 : decode cX9_append 114 = .ok (.iand, 1) := by decide +kernel
theorem dX9_append_115 : decode cX9_append 115 = .ok (.iastore, 1) := by decide +kernel
theorem dX9_append_116 : decode cX9_append 116 = .ok (.iinc 3 (-8), 3) := by decide +kernel
theorem dX9_append_119 : decode cX9_append 119 = .ok (.goto (-40), 3) := by decide +kernel
theorem dX9_append_122 : decode cX9_append 122 = .ok (.aload_n 0, 1) := by decide +kernel
theorem dX9_append_123 : decode cX9_append 123 = .ok (.getfield 153, 3) := by decide +kernel
theorem dX9_append_126 : decode cX9_append 126 = .ok (.ireturn, 1) := by decide +kernel
theorem dX9_sign_0 : decode cX9_sign 0 = .ok (.aload_n 0, 1) := by decide +kernel
theorem dX9_sign_1 : decode cX9_sign 1 = .ok (.getfield 156, 3) := by decide +kernel
theorem dX9_sign_4 : decode cX9_sign 4 = .ok (.aload_n 0, 1) := by decide +kernel
theorem dX9_sign_5 : decode cX9_sign 5 = .ok (.getfield 153, 3) := by decide +kernel
theorem dX9_sign_8 : decode cX9_sign 8 = .ok (.if_icmp .ge 15, 3) := by decide +kernel
theorem dX9_sign_11 : decode cX9_sign 11 = .ok (.aload_n 0, 1) := by decide +kernel
theorem dX9_sign_12 : decode cX9_sign 12 = .ok (.getfield 19, 3) := by decide +kernel
theorem dX9_sign_15 : decode cX9_sign 15 = .ok (.aload_n 0, 1) := by decide +kernel
theorem dX9_sign_16 : decode cX9_sign 16 = .ok (.getfield 156, 3) := by decide +kernel
theorem dX9_sign_19 : decode cX9_sign 19 = .ok (.iaload, 1) := by decide +kernel
theorem dX9_sign_20 : decode cX9_sign 20 = .ok (.goto 4, 3) := by decide +kernel
theorem dX9_sign_23 : decode cX9_sign 23 = .ok (.iconst (-1), 1) := by decide +kernel
theorem dX9_sign_24 : decode cX9_sign 24 = .ok (.ireturn, 1) := by decide +kernel
theorem dX9_takes_0 : decode cX9_takes 0 = .ok (.aload_n 0, 1) := by decide +kernel
theorem dX9_takes_1 : decode cX9_takes 1 = .ok (.invokevirtual 159, 3) := by decide +kernel
theorem dX9_takes_4 : decode cX9_takes 4 = .ok (.iload_n 1, 1) := by decide +kernel
theorem dX9_takes_5 : decode cX9_takes 5 = .ok (.if_icmp .eq 5, 3) := by decide +kernel
theorem dX9_takes_8 : decode cX9_takes 8 = .ok (.iconst 0, 1) := by decide +kernel
theorem dX9_takes_9 : decode cX9_takes 9 = .ok (.ireturn, 1) := by decide +kernel
theorem dX9_takes_10 : decode cX9_takes 10 = .ok (.aload_n 0, 1) := by decide +kernel
theorem dX9_takes_11 : decode cX9_takes 11 = .ok (.dup, 1) := by decide +kernel
theorem dX9_takes_12 : decode cX9_takes 12 = .ok (.getfield 156, 3) := by decide +kernel
theorem dX9_takes_15 : decode cX9_takes 15 = .ok (.iconst 1, 1) := by decide +kernel
theorem dX9_takes_16 : decode cX9_takes 16 = .ok (.iadd, 1) := by decide +kernel
theorem dX9_takes_17 : decode cX9_takes 17 = .ok (.putfield 156, 3) := by decide +kernel
theorem dX9_takes_20 : decode cX9_takes 20 = .ok (.iconst 1, 1) := by decide +kernel
theorem dX9_takes_21 : decode cX9_takes 21 = .ok (.ireturn, 1) := by decide +kernel
theorem dX9_noteHere_0 : decode cX9_noteHere 0 = .ok (.aload_n 0, 1) := by decide +kernel
theorem dX9_noteHere_1 : decode cX9_noteHere 1 = .ok (.invokevirtual 159, 3) := by decide +kernel
theorem dX9_noteHere_4 : decode cX9_noteHere 4 = .ok (.ifCond .ge 7, 3) := by decide +kernel
theorem dX9_noteHere_7 : decode cX9_noteHere 7 = .ok (.iconst (-1), 1) := by decide +kernel
theorem dX9_noteHere_8 : decode cX9_noteHere 8 = .ok (.goto 12, 3) := by decide +kernel
theorem dX9_noteHere_11 : decode cX9_noteHere 11 = .ok (.ldc 162, 2) := by decide +kernel
theorem dX9_noteHere_13 : decode cX9_noteHere 13 = .ok (.aload_n 0, 1) := by decide +kernel
theorem dX9_noteHere_14 : decode cX9_noteHere 14 = .ok (.invokevirtual 159, 3) := by decide +kernel
theorem dX9_noteHere_17 : decode cX9_noteHere 17 = .ok (.invokevirtual 164, 3) := by decide +kernel
theorem dX9_noteHere_20 : decode cX9_noteHere 20 = .ok (.istore_n 1, 1) := by decide +kernel
theorem dX9_noteHere_21 : decode cX9_noteHere 21 = .ok (.iload_n 1, 1) := by decide +kernel
theorem dX9_noteHere_22 : decode cX9_noteHere 22 = .ok (.ifCond .ge 5, 3) := by decide +kernel
theorem dX9_noteHere_25 : decode cX9_noteHere 25 = .ok (.iconst (-1), 1) := by decide +kernel
theorem dX9_noteHere_26 : decode cX9_noteHere 26 = .ok (.ireturn, 1) := by decide +kernel
theorem dX9_noteHere_27 : decode cX9_noteHere 27 = .ok (.aload_n 0, 1) := by decide +kernel
theorem dX9_noteHere_28 : decode cX9_noteHere 28 = .ok (.dup, 1) := by decide +kernel
theorem dX9_noteHere_29 : decode cX9_noteHere 29 = .ok (.getfield 156, 3) := by decide +kernel
theorem dX9_noteHere_32 : decode cX9_noteHere 32 = .ok (.iconst 1, 1) := by decide +kernel
theorem dX9_noteHere_33 : decode cX9_noteHere 33 = .ok (.iadd, 1) := by decide +kernel
theorem dX9_noteHere_34 : decode cX9_noteHere 34 = .ok (.putfield 156, 3) := by decide +kernel
theorem dX9_noteHere_37 : decode cX9_noteHere 37 = .ok (.aload_n 0, 1) := by decide +kernel
theorem dX9_noteHere_38 : decode cX9_noteHere 38 = .ok (.bipush 35, 2) := by decide +kernel
theorem dX9_noteHere_40 : decode cX9_noteHere 40 = .ok (.invokevirtual 169, 3) := by decide +kernel
theorem dX9_noteHere_43 : decode cX9_noteHere 43 = .ok (.ifCond .eq 7, 3) := by decide +kernel
theorem dX9_noteHere_46 : decode cX9_noteHere 46 = .ok (.iconst 1, 1) := by decide +kernel
theorem dX9_noteHere_47 : decode cX9_noteHere 47 = .ok (.goto 17, 3) := by decide +kernel
theorem dX9_noteHere_50 : decode cX9_noteHere 50 = .ok (.aload_n 0, 1) := by decide +kernel
theorem dX9_noteHere_51 : decode cX9_noteHere 51 = .ok (.bipush 98, 2) := by decide +kernel
theorem dX9_noteHere_53 : decode cX9_noteHere 53 = .ok (.invokevirtual 169, 3) := by decide +kernel
theorem dX9_noteHere_56 : decode cX9_noteHere 56 = .ok (.ifCond .eq 7, 3) := by decide +kernel
theorem dX9_noteHere_59 : decode cX9_noteHere 59 = .ok (.iconst (-1), 1) := by decide +kernel
theorem dX9_noteHere_60 : decode cX9_noteHere 60 = .ok (.goto 4, 3) := by decide +kernel
theorem dX9_noteHere_63 : decode cX9_noteHere 63 = .ok (.iconst 0, 1) := by decide +kernel
theorem dX9_noteHere_64 : decode cX9_noteHere 64 = .ok (.istore_n 2, 1) := by decide +kernel
theorem dX9_noteHere_65 : decode cX9_noteHere 65 = .ok (.aload_n 0, 1) := by decide +kernel
theorem dX9_noteHere_66 : decode cX9_noteHere 66 = .ok (.invokevirtual 159, 3) := by decide +kernel
theorem dX9_noteHere_69 : decode cX9_noteHere 69 = .ok (.bipush 50, 2) := by decide +kernel
theorem dX9_noteHere_71 : decode cX9_noteHere 71 = .ok (.bipush 54, 2) := by decide +kernel
theorem dX9_noteHere_73 : decode cX9_noteHere 73 = .ok (.invokestatic 74, 3) := by decide +kernel
theorem dX9_noteHere_76 : decode cX9_noteHere 76 = .ok (.ifCond .ne 5, 3) := by decide +kernel
theorem dX9_noteHere_79 : decode cX9_noteHere 79 = .ok (.iconst (-1), 1) := by decide +kernel
theorem dX9_noteHere_80 : decode cX9_noteHere 80 = .ok (.ireturn, 1) := by decide +kernel
theorem dX9_noteHere_81 : decode cX9_noteHere 81 = .ok (.aload_n 0, 1) := by decide +kernel
theorem dX9_noteHere_82 : decode cX9_noteHere 82 = .ok (.getfield 19, 3) := by decide +kernel
theorem dX9_noteHere_85 : decode cX9_noteHere 85 = .ok (.aload_n 0, 1) := by decide +kernel
theorem dX9_noteHere_86 : decode cX9_noteHere 86 = .ok (.dup, 1) := by decide +kernel
theorem dX9_noteHere_87 : decode cX9_noteHere 87 = .ok (.getfield 156, 3) := by decide +kernel
theorem dX9_noteHere_90 : decode cX9_noteHere 90 = .ok (.dup_x1, 1) := by decide +kernel
theorem dX9_noteHere_91 : decode cX9_noteHere 91 = .ok (.iconst 1, 1) := by decide +kernel
theorem dX9_noteHere_92 : decode cX9_noteHere 92 = .ok (.iadd, 1) := by decide +kernel
theorem dX9_noteHere_93 : decode cX9_noteHere 93 = .ok (.putfield 156, 3) := by decide +kernel
theorem dX9_noteHere_96 : decode cX9_noteHere 96 = .ok (.iaload, 1) := by decide +kernel
theorem dX9_noteHere_97 : decode cX9_noteHere 97 = .ok (.bipush 48, 2) := by decide +kernel
theorem dX9_noteHere_99 : decode cX9_noteHere 99 = .ok (.isub, 1) := by decide +kernel
theorem dX9_noteHere_100 : decode cX9_noteHere 100 = .ok (.istore_n 3, 1) := by decide +kernel
theorem dX9_noteHere_101 : decode cX9_noteHere 101 = .ok (.iconst 3, 1) := by decide +kernel
theorem dX9_noteHere_102 : decode cX9_noteHere 102 = .ok (.bipush 7, 2) := by decide +kernel
theorem dX9_noteHere_104 : decode cX9_noteHere 104 = .ok (.iload_n 3, 1) := by decide +kernel
theorem dX9_noteHere_105 : decode cX9_noteHere 105 = .ok (.imul, 1) := by decide +kernel
theorem dX9_noteHere_106 : decode cX9_noteHere 106 = .ok (.iload_n 1, 1) := by decide +kernel
theorem dX9_noteHere_107 : decode cX9_noteHere 107 = .ok (.iadd, 1) := by decide +kernel
theorem dX9_noteHere_108 : decode cX9_noteHere 108 = .ok (.imul, 1) := by decide +kernel
theorem dX9_noteHere_109 : decode cX9_noteHere 109 = .ok (.iload_n 2, 1) := by decide +kernel
theorem dX9_noteHere_110 : decode cX9_noteHere 110 = .ok (.iadd, 1) := by decide +kernel
theorem dX9_noteHere_111 : decode cX9_noteHere 111 = .ok (.iconst 1, 1) := by decide +kernel
theorem dX9_noteHere_112 : decode cX9_noteHere 112 = .ok (.iadd, 1) := by decide +kernel
theorem dX9_noteHere_113 : decode cX9_noteHere 113 = .ok (.ireturn, 1) := by decide +kernel
theorem dX9_readLine_0 : decode cX9_readLine 0 = .ok (.aload_n 0, 1) := by decide +kernel
theorem dX9_readLine_1 : decode cX9_readLine 1 = .ok (.iconst 0, 1) := by decide +kernel
theorem dX9_readLine_2 : decode cX9_readLine 2 = .ok (.putfield 156, 3) := by decide +kernel
theorem dX9_readLine_5 : decode cX9_readLine 5 = .ok (.iconst 0, 1) := by decide +kernel
theorem dX9_readLine_6 : decode cX9_readLine 6 = .ok (.istore 4, 2) := by decide +kernel
theorem dX9_readLine_8 : decode cX9_readLine 8 = .ok (.iload_n 3, 1) := by decide +kernel
theorem dX9_readLine_9 : decode cX9_readLine 9 = .ok (.ifCond .eq 26, 3) := by decide +kernel
theorem dX9_readLine_12 : decode cX9_readLine 12 = .ok (.aload_n 0, 1) := by decide +kernel
theorem dX9_readLine_13 : decode cX9_readLine 13 = .ok (.bipush 45, 2) := by decide +kernel
theorem dX9_readLine_15 : decode cX9_readLine 15 = .ok (.invokevirtual 169, 3) := by decide +kernel
theorem dX9_readLine_18 : decode cX9_readLine 18 = .ok (.ifCond .eq 17, 3) := by decide +kernel
theorem dX9_readLine_21 : decode cX9_readLine 21 = .ok (.aload_n 0, 1) := by decide +kernel
theorem dX9_readLine_22 : decode cX9_readLine 22 = .ok (.getfield 26, 3) := by decide +kernel
theorem dX9_readLine_25 : decode cX9_readLine 25 = .ok (.iload 4, 2) := by decide +kernel
theorem dX9_readLine_27 : decode cX9_readLine 27 = .ok (.iinc 4 1, 3) := by decide +kernel
theorem dX9_readLine_30 : decode cX9_readLine 30 = .ok (.iconst (-1), 1) := by decide +kernel
theorem dX9_readLine_31 : decode cX9_readLine 31 = .ok (.iastore, 1) := by decide +kernel
theorem dX9_readLine_32 : decode cX9_readLine 32 = .ok (.goto 29, 3) := by decide +kernel
theorem dX9_readLine_35 : decode cX9_readLine 35 = .ok (.aload_n 0, 1) := by decide +kernel
theorem dX9_readLine_36 : decode cX9_readLine 36 = .ok (.invokevirtual 173, 3) := by decide +kernel
theorem dX9_readLine_39 : decode cX9_readLine 39 = .ok (.istore 5, 2) := by decide +kernel
theorem dX9_readLine_41 : decode cX9_readLine 41 = .ok (.iload 5, 2) := by decide +kernel
theorem dX9_readLine_43 : decode cX9_readLine 43 = .ok (.iconst (-1), 1) := by decide +kernel
theorem dX9_readLine_44 : decode cX9_readLine 44 = .ok (.if_icmp .ne 5, 3) := by decide +kernel
theorem dX9_readLine_47 : decode cX9_readLine 47 = .ok (.iconst (-1), 1) := by decide +kernel
theorem dX9_readLine_48 : decode cX9_readLine 48 = .ok (.ireturn, 1) := by decide +kernel
theorem dX9_readLine_49 : decode cX9_readLine 49 = .ok (.aload_n 0, 1) := by decide +kernel
theorem dX9_readLine_50 : decode cX9_readLine 50 = .ok (.getfield 26, 3) := by decide +kernel
theorem dX9_readLine_53 : decode cX9_readLine 53 = .ok (.iload 4, 2) := by decide +kernel
theorem dX9_readLine_55 : decode cX9_readLine 55 = .ok (.iinc 4 1, 3) := by decide +kernel
theorem dX9_readLine_58 : decode cX9_readLine 58 = .ok (.iload 5, 2) := by decide +kernel
theorem dX9_readLine_60 : decode cX9_readLine 60 = .ok (.iastore, 1) := by decide +kernel
theorem dX9_readLine_61 : decode cX9_readLine 61 = .ok (.aload_n 0, 1) := by decide +kernel
theorem dX9_readLine_62 : decode cX9_readLine 62 = .ok (.getfield 156, 3) := by decide +kernel
theorem dX9_readLine_65 : decode cX9_readLine 65 = .ok (.aload_n 0, 1) := by decide +kernel
theorem dX9_readLine_66 : decode cX9_readLine 66 = .ok (.getfield 153, 3) := by decide +kernel
theorem dX9_readLine_69 : decode cX9_readLine 69 = .ok (.if_icmp .ge 49, 3) := by decide +kernel
theorem dX9_readLine_72 : decode cX9_readLine 72 = .ok (.iload 4, 2) := by decide +kernel
theorem dX9_readLine_74 : decode cX9_readLine 74 = .ok (.iload_n 2, 1) := by decide +kernel
theorem dX9_readLine_75 : decode cX9_readLine 75 = .ok (.if_icmp .eq 12, 3) := by decide +kernel
theorem dX9_readLine_78 : decode cX9_readLine 78 = .ok (.aload_n 0, 1) := by decide +kernel
theorem dX9_readLine_79 : decode cX9_readLine 79 = .ok (.bipush 44, 2) := by decide +kernel
theorem dX9_readLine_81 : decode cX9_readLine 81 = .ok (.invokevirtual 169, 3) := by decide +kernel
theorem dX9_readLine_84 : decode cX9_readLine 84 = .ok (.ifCond .ne 5, 3) := by decide +kernel
theorem dX9_readLine_87 : decode cX9_readLine 87 = .ok (.iconst (-1), 1) := by decide +kernel
theorem dX9_readLine_88 : decode cX9_readLine 88 = .ok (.ireturn, 1) := by decide +kernel
theorem dX9_readLine_89 : decode cX9_readLine 89 = .ok (.aload_n 0, 1) := by decide +kernel
theorem dX9_readLine_90 : decode cX9_readLine 90 = .ok (.invokevirtual 173, 3) := by decide +kernel
theorem dX9_readLine_93 : decode cX9_readLine 93 = .ok (.istore 5, 2) := by decide +kernel
theorem dX9_readLine_95 : decode cX9_readLine 95 = .ok (.iload 5, 2) := by decide +kernel
theorem dX9_readLine_97 : decode cX9_readLine 97 = .ok (.iconst (-1), 1) := by decide +kernel
theorem dX9_readLine_98 : decode cX9_readLine 98 = .ok (.if_icmp .ne 5, 3) := by decide +kernel
theorem dX9_readLine_101 : decode cX9_readLine 101 = .ok (.iconst (-1), 1) := by decide +kernel
theorem dX9_readLine_102 : decode cX9_readLine 102 = .ok (.ireturn, 1) := by decide +kernel
theorem dX9_readLine_103 : decode cX9_readLine 103 = .ok (.aload_n 0, 1) := by decide +kernel
theorem dX9_readLine_104 : decode cX9_readLine 104 = .ok (.getfield 26, 3) := by decide +kernel
theorem dX9_readLine_107 : decode cX9_readLine 107 = .ok (.iload 4, 2) := by decide +kernel
theorem dX9_readLine_109 : decode cX9_readLine 109 = .ok (.iinc 4 1, 3) := by decide +kernel
theorem dX9_readLine_112 : decode cX9_readLine 112 = .ok (.iload 5, 2) := by decide +kernel
theorem dX9_readLine_114 : decode cX9_readLine 114 = .ok (.iastore, 1) := by decide +kernel
theorem dX9_readLine_115 : decode cX9_readLine 115 = .ok (.goto (-54), 3) := by decide +kernel
theorem dX9_readLine_118 : decode cX9_readLine 118 = .ok (.iload 4, 2) := by decide +kernel
theorem dX9_readLine_120 : decode cX9_readLine 120 = .ok (.iload_n 1, 1) := by decide +kernel
theorem dX9_readLine_121 : decode cX9_readLine 121 = .ok (.if_icmp .ge 7, 3) := by decide +kernel
theorem dX9_readLine_124 : decode cX9_readLine 124 = .ok (.iconst (-1), 1) := by decide +kernel
theorem dX9_readLine_125 : decode cX9_readLine 125 = .ok (.goto 5, 3) := by decide +kernel
theorem dX9_readLine_128 : decode cX9_readLine 128 = .ok (.iload 4, 2) := by decide +kernel
theorem dX9_readLine_130 : decode cX9_readLine 130 = .ok (.ireturn, 1) := by decide +kernel
theorem dX9_empties_0 : decode cX9_empties 0 = .ok (.aload_n 0, 1) := by decide +kernel
theorem dX9_empties_1 : decode cX9_empties 1 = .ok (.iload_n 1, 1) := by decide +kernel
theorem dX9_empties_2 : decode cX9_empties 2 = .ok (.ifCond .eq 10, 3) := by decide +kernel
theorem dX9_empties_5 : decode cX9_empties 5 = .ok (.aload_n 0, 1) := by decide +kernel
theorem dX9_empties_6 : decode cX9_empties 6 = .ok (.getfield 156, 3) := by decide +kernel
theorem dX9_empties_9 : decode cX9_empties 9 = .ok (.goto 4, 3) := by decide +kernel
theorem dX9_empties_12 : decode cX9_empties 12 = .ok (.iconst (-1), 1) := by decide +kernel
theorem dX9_empties_13 : decode cX9_empties 13 = .ok (.putfield 22, 3) := by decide +kernel
theorem dX9_empties_16 : decode cX9_empties 16 = .ok (.aload_n 0, 1) := by decide +kernel
theorem dX9_empties_17 : decode cX9_empties 17 = .ok (.iconst 0, 1) := by decide +kernel
theorem dX9_empties_18 : decode cX9_empties 18 = .ok (.putfield 153, 3) := by decide +kernel
theorem dX9_empties_21 : decode cX9_empties 21 = .ok (.return_, 1) := by decide +kernel
theorem dX9_cantus_0 : decode cX9_cantus 0 = .ok (.aload_n 0, 1) := by decide +kernel
theorem dX9_cantus_1 : decode cX9_cantus 1 = .ok (.iconst 0, 1) := by decide +kernel
theorem dX9_cantus_2 : decode cX9_cantus 2 = .ok (.putfield 41, 3) := by decide +kernel
theorem dX9_cantus_5 : decode cX9_cantus 5 = .ok (.aload_n 0, 1) := by decide +kernel
theorem dX9_cantus_6 : decode cX9_cantus 6 = .ok (.iconst 2, 1) := by decide +kernel
theorem dX9_cantus_7 : decode cX9_cantus 7 = .ok (.bipush 12, 2) := by decide +kernel
theorem dX9_cantus_9 : decode cX9_cantus 9 = .ok (.iconst 0, 1) := by decide +kernel
theorem dX9_cantus_10 : decode cX9_cantus 10 = .ok (.invokevirtual 176, 3) := by decide +kernel
theorem dX9_cantus_13 : decode cX9_cantus 13 = .ok (.istore_n 1, 1) := by decide +kernel
theorem dX9_cantus_14 : decode cX9_cantus 14 = .ok (.aload_n 0, 1) := by decide +kernel
theorem dX9_cantus_15 : decode cX9_cantus 15 = .ok (.iload_n 1, 1) := by decide +kernel
theorem dX9_cantus_16 : decode cX9_cantus 16 = .ok (.iconst (-1), 1) := by decide +kernel
theorem dX9_cantus_17 : decode cX9_cantus 17 = .ok (.if_icmp .ne 7, 3) := by decide +kernel
theorem dX9_cantus_20 : decode cX9_cantus 20 = .ok (.iconst 1, 1) := by decide +kernel
theorem dX9_cantus_21 : decode cX9_cantus 21 = .ok (.goto 4, 3) := by decide +kernel
theorem dX9_cantus_24 : decode cX9_cantus 24 = .ok (.iconst 0, 1) := by decide +kernel
theorem dX9_cantus_25 : decode cX9_cantus 25 = .ok (.invokevirtual 180, 3) := by decide +kernel
theorem dX9_cantus_28 : decode cX9_cantus 28 = .ok (.iload_n 1, 1) := by decide +kernel
theorem dX9_cantus_29 : decode cX9_cantus 29 = .ok (.iconst (-1), 1) := by decide +kernel
theorem dX9_cantus_30 : decode cX9_cantus 30 = .ok (.if_icmp .ne 9, 3) := by decide +kernel
theorem dX9_cantus_33 : decode cX9_cantus 33 = .ok (.aload_n 0, 1) := by decide +kernel
theorem dX9_cantus_34 : decode cX9_cantus 34 = .ok (.iconst 1, 1) := by decide +kernel
theorem dX9_cantus_35 : decode cX9_cantus 35 = .ok (.invokevirtual 150, 3) := by decide +kernel
theorem dX9_cantus_38 : decode cX9_cantus 38 = .ok (.ireturn, 1) := by decide +kernel
theorem dX9_cantus_39 : decode cX9_cantus 39 = .ok (.aload_n 0, 1) := by decide +kernel
theorem dX9_cantus_40 : decode cX9_cantus 40 = .ok (.invokevirtual 47, 3) := by decide +kernel
theorem dX9_cantus_43 : decode cX9_cantus 43 = .ok (.aload_n 0, 1) := by decide +kernel
theorem dX9_cantus_44 : decode cX9_cantus 44 = .ok (.getfield 9, 3) := by decide +kernel
theorem dX9_cantus_47 : decode cX9_cantus 47 = .ok (.iconst 0, 1) := by decide +kernel
theorem dX9_cantus_48 : decode cX9_cantus 48 = .ok (.iload_n 1, 1) := by decide +kernel
theorem dX9_cantus_49 : decode cX9_cantus 49 = .ok (.iastore, 1) := by decide +kernel
theorem dX9_cantus_50 : decode cX9_cantus 50 = .ok (.aload_n 0, 1) := by decide +kernel
theorem dX9_cantus_51 : decode cX9_cantus 51 = .ok (.getfield 9, 3) := by decide +kernel
theorem dX9_cantus_54 : decode cX9_cantus 54 = .ok (.iconst 1, 1) := by decide +kernel
theorem dX9_cantus_55 : decode cX9_cantus 55 = .ok (.iconst 0, 1) := by decide +kernel
theorem dX9_cantus_56 : decode cX9_cantus 56 = .ok (.iastore, 1) := by decide +kernel
theorem dX9_cantus_57 : decode cX9_cantus 57 = .ok (.iconst 0, 1) := by decide +kernel
theorem dX9_cantus_58 : decode cX9_cantus 58 = .ok (.istore_n 2, 1) := by decide +kernel
theorem dX9_cantus_59 : decode cX9_cantus 59 = .ok (.iload_n 2, 1) := by decide +kernel
theorem dX9_cantus_60 : decode cX9_cantus 60 = .ok (.iload_n 1, 1) := by decide +kernel
theorem dX9_cantus_61 : decode cX9_cantus 61 = .ok (.if_icmp .ge 24, 3) := by decide +kernel
theorem dX9_cantus_64 : decode cX9_cantus 64 = .ok (.aload_n 0, 1) := by decide +kernel
theorem dX9_cantus_65 : decode cX9_cantus 65 = .ok (.getfield 9, 3) := by decide +kernel
theorem dX9_cantus_68 : decode cX9_cantus 68 = .ok (.bipush 23, 2) := by decide +kernel
theorem dX9_cantus_70 : decode cX9_cantus 70 = .ok (.iload_n 2, 1) := by decide +kernel
theorem dX9_cantus_71 : decode cX9_cantus 71 = .ok (.iadd, 1) := by decide +kernel
theorem dX9_cantus_72 : decode cX9_cantus 72 = .ok (.aload_n 0, 1) := by decide +kernel
theorem dX9_cantus_73 : decode cX9_cantus 73 = .ok (.getfield 26, 3) := by decide +kernel
theorem dX9_cantus_76 : decode cX9_cantus 76 = .ok (.iload_n 2, 1) := by decide +kernel
theorem dX9_cantus_77 : decode cX9_cantus 77 = .ok (.iaload, 1) := by decide +kernel
theorem dX9_cantus_78 : decode cX9_cantus 78 = .ok (.iastore, 1) := by decide +kernel
theorem dX9_cantus_79 : decode cX9_cantus 79 = .ok (.iinc 2 1, 3) := by decide +kernel
theorem dX9_cantus_82 : decode cX9_cantus 82 = .ok (.goto (-23), 3) := by decide +kernel
theorem dX9_cantus_85 : decode cX9_cantus 85 = .ok (.iload_n 1, 1) := by decide +kernel
theorem dX9_cantus_86 : decode cX9_cantus 86 = .ok (.ireturn, 1) := by decide +kernel
theorem dX9_faultsNow_0 : decode cX9_faultsNow 0 = .ok (.aload_n 0, 1) := by decide +kernel
theorem dX9_faultsNow_1 : decode cX9_faultsNow 1 = .ok (.invokevirtual 147, 3) := by decide +kernel
theorem dX9_faultsNow_4 : decode cX9_faultsNow 4 = .ok (.aload_n 0, 1) := by decide +kernel
theorem dX9_faultsNow_5 : decode cX9_faultsNow 5 = .ok (.getfield 140, 3) := by decide +kernel
theorem dX9_faultsNow_8 : decode cX9_faultsNow 8 = .ok (.ireturn, 1) := by decide +kernel
theorem dX9_counterpoint_0 : decode cX9_counterpoint 0 = .ok (.aload_n 0, 1) := by decide +kernel
theorem dX9_counterpoint_1 : decode cX9_counterpoint 1 = .ok (.iconst 0, 1) := by decide +kernel
theorem dX9_counterpoint_2 : decode cX9_counterpoint 2 = .ok (.putfield 41, 3) := by decide +kernel
theorem dX9_counterpoint_5 : decode cX9_counterpoint 5 = .ok (.aload_n 0, 1) := by decide +kernel
theorem dX9_counterpoint_6 : decode cX9_counterpoint 6 = .ok (.getfield 9, 3) := by decide +kernel
theorem dX9_counterpoint_9 : decode cX9_counterpoint 9 = .ok (.iconst 0, 1) := by decide +kernel
theorem dX9_counterpoint_10 : decode cX9_counterpoint 10 = .ok (.iaload, 1) := by decide +kernel
theorem dX9_counterpoint_11 : decode cX9_counterpoint 11 = .ok (.ifCond .ne 9, 3) := by decide +kernel
theorem dX9_counterpoint_14 : decode cX9_counterpoint 14 = .ok (.aload_n 0, 1) := by decide +kernel
theorem dX9_counterpoint_15 : decode cX9_counterpoint 15 = .ok (.iconst 1, 1) := by decide +kernel
theorem dX9_counterpoint_16 : decode cX9_counterpoint 16 = .ok (.invokevirtual 150, 3) := by decide +kernel
theorem dX9_counterpoint_19 : decode cX9_counterpoint 19 = .ok (.ireturn, 1) := by decide +kernel
theorem dX9_counterpoint_20 : decode cX9_counterpoint 20 = .ok (.aload_n 0, 1) := by decide +kernel
theorem dX9_counterpoint_21 : decode cX9_counterpoint 21 = .ok (.invokevirtual 83, 3) := by decide +kernel
theorem dX9_counterpoint_24 : decode cX9_counterpoint 24 = .ok (.aload_n 0, 1) := by decide +kernel
theorem dX9_counterpoint_25 : decode cX9_counterpoint 25 = .ok (.getfield 9, 3) := by decide +kernel
theorem dX9_counterpoint_28 : decode cX9_counterpoint 28 = .ok (.iconst 0, 1) := by decide +kernel
theorem dX9_counterpoint_29 : decode cX9_counterpoint 29 = .ok (.iaload, 1) := by decide +kernel
theorem dX9_counterpoint_30 : decode cX9_counterpoint 30 = .ok (.iconst 1, 1) := by decide +kernel
theorem dX9_counterpoint_31 : decode cX9_counterpoint 31 = .ok (.isub, 1) := by decide +kernel
theorem dX9_counterpoint_32 : decode cX9_counterpoint 32 = .ok (.imul, 1) := by decide +kernel
theorem dX9_counterpoint_33 : decode cX9_counterpoint 33 = .ok (.iconst 1, 1) := by decide +kernel
theorem dX9_counterpoint_34 : decode cX9_counterpoint 34 = .ok (.iadd, 1) := by decide +kernel
theorem dX9_counterpoint_35 : decode cX9_counterpoint 35 = .ok (.istore_n 1, 1) := by decide +kernel
theorem dX9_counterpoint_36 : decode cX9_counterpoint 36 = .ok (.aload_n 0, 1) := by decide +kernel
theorem dX9_counterpoint_37 : decode cX9_counterpoint 37 = .ok (.iload_n 1, 1) := by decide +kernel
theorem dX9_counterpoint_38 : decode cX9_counterpoint 38 = .ok (.iload_n 1, 1) := by decide +kernel
theorem dX9_counterpoint_39 : decode cX9_counterpoint 39 = .ok (.aload_n 0, 1) := by decide +kernel
theorem dX9_counterpoint_40 : decode cX9_counterpoint 40 = .ok (.getfield 9, 3) := by decide +kernel
theorem dX9_counterpoint_43 : decode cX9_counterpoint 43 = .ok (.iconst 2, 1) := by decide +kernel
theorem dX9_counterpoint_44 : decode cX9_counterpoint 44 = .ok (.iaload, 1) := by decide +kernel
theorem dX9_counterpoint_45 : decode cX9_counterpoint 45 = .ok (.iconst 1, 1) := by decide +kernel
theorem dX9_counterpoint_46 : decode cX9_counterpoint 46 = .ok (.if_icmp .eq 7, 3) := by decide +kernel
theorem dX9_counterpoint_49 : decode cX9_counterpoint 49 = .ok (.iconst 1, 1) := by decide +kernel
theorem dX9_counterpoint_50 : decode cX9_counterpoint 50 = .ok (.goto 4, 3) := by decide +kernel
theorem dX9_counterpoint_53 : decode cX9_counterpoint 53 = .ok (.iconst 0, 1) := by decide +kernel
theorem dX9_counterpoint_54 : decode cX9_counterpoint 54 = .ok (.invokevirtual 176, 3) := by decide +kernel
theorem dX9_counterpoint_57 : decode cX9_counterpoint 57 = .ok (.istore_n 2, 1) := by decide +kernel
theorem dX9_counterpoint_58 : decode cX9_counterpoint 58 = .ok (.aload_n 0, 1) := by decide +kernel
theorem dX9_counterpoint_59 : decode cX9_counterpoint 59 = .ok (.iload_n 2, 1) := by decide +kernel
theorem dX9_counterpoint_60 : decode cX9_counterpoint 60 = .ok (.iconst (-1), 1) := by decide +kernel
theorem dX9_counterpoint_61 : decode cX9_counterpoint 61 = .ok (.if_icmp .ne 7, 3) := by decide +kernel
theorem dX9_counterpoint_64 : decode cX9_counterpoint 64 = .ok (.iconst 1, 1) := by decide +kernel
theorem dX9_counterpoint_65 : decode cX9_counterpoint 65 = .ok (.goto 4, 3) := by decide +kernel
theorem dX9_counterpoint_68 : decode cX9_counterpoint 68 = .ok (.iconst 0, 1) := by decide +kernel
theorem dX9_counterpoint_69 : decode cX9_counterpoint 69 = .ok (.invokevirtual 180, 3) := by decide +kernel
theorem dX9_counterpoint_72 : decode cX9_counterpoint 72 = .ok (.iload_n 2, 1) := by decide +kernel
theorem dX9_counterpoint_73 : decode cX9_counterpoint 73 = .ok (.iconst (-1), 1) := by decide +kernel
theorem dX9_counterpoint_74 : decode cX9_counterpoint 74 = .ok (.if_icmp .ne 9, 3) := by decide +kernel
theorem dX9_counterpoint_77 : decode cX9_counterpoint 77 = .ok (.aload_n 0, 1) := by decide +kernel
theorem dX9_counterpoint_78 : decode cX9_counterpoint 78 = .ok (.iconst 2, 1) := by decide +kernel
theorem dX9_counterpoint_79 : decode cX9_counterpoint 79 = .ok (.invokevirtual 150, 3) := by decide +kernel
theorem dX9_counterpoint_82 : decode cX9_counterpoint 82 = .ok (.ireturn, 1) := by decide +kernel
theorem dX9_counterpoint_83 : decode cX9_counterpoint 83 = .ok (.aload_n 0, 1) := by decide +kernel
theorem dX9_counterpoint_84 : decode cX9_counterpoint 84 = .ok (.invokevirtual 47, 3) := by decide +kernel
theorem dX9_counterpoint_87 : decode cX9_counterpoint 87 = .ok (.aload_n 0, 1) := by decide +kernel
theorem dX9_counterpoint_88 : decode cX9_counterpoint 88 = .ok (.getfield 9, 3) := by decide +kernel
theorem dX9_counterpoint_91 : decode cX9_counterpoint 91 = .ok (.iconst 1, 1) := by decide +kernel
theorem dX9_counterpoint_92 : decode cX9_counterpoint 92 = .ok (.iload_n 2, 1) := by decide +kernel
theorem dX9_counterpoint_93 : decode cX9_counterpoint 93 = .ok (.iastore, 1) := by decide +kernel
theorem dX9_counterpoint_94 : decode cX9_counterpoint 94 = .ok (.iconst 0, 1) := by decide +kernel
theorem dX9_counterpoint_95 : decode cX9_counterpoint 95 = .ok (.istore_n 3, 1) := by decide +kernel
theorem dX9_counterpoint_96 : decode cX9_counterpoint 96 = .ok (.iload_n 3, 1) := by decide +kernel
theorem dX9_counterpoint_97 : decode cX9_counterpoint 97 = .ok (.iload_n 2, 1) := by decide +kernel
theorem dX9_counterpoint_98 : decode cX9_counterpoint 98 = .ok (.if_icmp .ge 24, 3) := by decide +kernel
theorem dX9_counterpoint_101 : decode cX9_counterpoint 101 = .ok (.aload_n 0, 1) := by decide +kernel
theorem dX9_counterpoint_102 : decode cX9_counterpoint 102 = .ok (.getfield 9, 3) := by decide +kernel
theorem dX9_counterpoint_105 : decode cX9_counterpoint 105 = .ok (.bipush 35, 2) := by decide +kernel
theorem dX9_counterpoint_107 : decode cX9_counterpoint 107 = .ok (.iload_n 3, 1) := by decide +kernel
theorem dX9_counterpoint_108 : decode cX9_counterpoint 108 = .ok (.iadd, 1) := by decide +kernel
theorem dX9_counterpoint_109 : decode cX9_counterpoint 109 = .ok (.aload_n 0, 1) := by decide +kernel
theorem dX9_counterpoint_110 : decode cX9_counterpoint 110 = .ok (.getfield 26, 3) := by decide +kernel
theorem dX9_counterpoint_113 : decode cX9_counterpoint 113 = .ok (.iload_n 3, 1) := by decide +kernel
theorem dX9_counterpoint_114 : decode cX9_counterpoint 114 = .ok (.iaload, 1) := by decide +kernel
theorem dX9_counterpoint_115 : decode cX9_counterpoint 115 = .ok (.iastore, 1) := by decide +kernel
theorem dX9_counterpoint_116 : decode cX9_counterpoint 116 = .ok (.iinc 3 1, 3) := by decide +kernel
theorem dX9_counterpoint_119 : decode cX9_counterpoint 119 = .ok (.goto (-23), 3) := by decide +kernel
theorem dX9_counterpoint_122 : decode cX9_counterpoint 122 = .ok (.aload_n 0, 1) := by decide +kernel
theorem dX9_counterpoint_123 : decode cX9_counterpoint 123 = .ok (.invokevirtual 184, 3) := by decide +kernel
theorem dX9_counterpoint_126 : decode cX9_counterpoint 126 = .ok (.ireturn, 1) := by decide +kernel
theorem dX9_errorPosition_0 : decode cX9_errorPosition 0 = .ok (.aload_n 0, 1) := by decide +kernel
theorem dX9_errorPosition_1 : decode cX9_errorPosition 1 = .ok (.iconst 0, 1) := by decide +kernel
theorem dX9_errorPosition_2 : decode cX9_errorPosition 2 = .ok (.putfield 41, 3) := by decide +kernel
theorem dX9_errorPosition_5 : decode cX9_errorPosition 5 = .ok (.aload_n 0, 1) := by decide +kernel
theorem dX9_errorPosition_6 : decode cX9_errorPosition 6 = .ok (.getfield 22, 3) := by decide +kernel
theorem dX9_errorPosition_9 : decode cX9_errorPosition 9 = .ok (.ireturn, 1) := by decide +kernel
theorem dX9_setSpecies_0 : decode cX9_setSpecies 0 = .ok (.aload_n 0, 1) := by decide +kernel
theorem dX9_setSpecies_1 : decode cX9_setSpecies 1 = .ok (.iconst 0, 1) := by decide +kernel
theorem dX9_setSpecies_2 : decode cX9_setSpecies 2 = .ok (.putfield 41, 3) := by decide +kernel
theorem dX9_setSpecies_5 : decode cX9_setSpecies 5 = .ok (.iload_n 1, 1) := by decide +kernel
theorem dX9_setSpecies_6 : decode cX9_setSpecies 6 = .ok (.iconst 1, 1) := by decide +kernel
theorem dX9_setSpecies_7 : decode cX9_setSpecies 7 = .ok (.iconst 4, 1) := by decide +kernel
theorem dX9_setSpecies_8 : decode cX9_setSpecies 8 = .ok (.invokestatic 74, 3) := by decide +kernel
theorem dX9_setSpecies_11 : decode cX9_setSpecies 11 = .ok (.ifCond .ne 9, 3) := by decide +kernel
theorem dX9_setSpecies_14 : decode cX9_setSpecies 14 = .ok (.aload_n 0, 1) := by decide +kernel
theorem dX9_setSpecies_15 : decode cX9_setSpecies 15 = .ok (.iconst 1, 1) := by decide +kernel
theorem dX9_setSpecies_16 : decode cX9_setSpecies 16 = .ok (.invokevirtual 150, 3) := by decide +kernel
theorem dX9_setSpecies_19 : decode cX9_setSpecies 19 = .ok (.ireturn, 1) := by decide +kernel
theorem dX9_setSpecies_20 : decode cX9_setSpecies 20 = .ok (.aload_n 0, 1) := by decide +kernel
theorem dX9_setSpecies_21 : decode cX9_setSpecies 21 = .ok (.iconst 2, 1) := by decide +kernel
theorem dX9_setSpecies_22 : decode cX9_setSpecies 22 = .ok (.iload_n 1, 1) := by decide +kernel
theorem dX9_setSpecies_23 : decode cX9_setSpecies 23 = .ok (.invokevirtual 187, 3) := by decide +kernel
theorem dX9_setSpecies_26 : decode cX9_setSpecies 26 = .ok (.istore_n 2, 1) := by decide +kernel
theorem dX9_setSpecies_27 : decode cX9_setSpecies 27 = .ok (.iload_n 2, 1) := by decide +kernel
theorem dX9_setSpecies_28 : decode cX9_setSpecies 28 = .ok (.iload_n 1, 1) := by decide +kernel
theorem dX9_setSpecies_29 : decode cX9_setSpecies 29 = .ok (.if_icmp .eq 10, 3) := by decide +kernel
theorem dX9_setSpecies_32 : decode cX9_setSpecies 32 = .ok (.aload_n 0, 1) := by decide +kernel
theorem dX9_setSpecies_33 : decode cX9_setSpecies 33 = .ok (.getfield 9, 3) := by decide +kernel
theorem dX9_setSpecies_36 : decode cX9_setSpecies 36 = .ok (.iconst 1, 1) := by decide +kernel
theorem dX9_setSpecies_37 : decode cX9_setSpecies 37 = .ok (.iconst 0, 1) := by decide +kernel
theorem dX9_setSpecies_38 : decode cX9_setSpecies 38 = .ok (.iastore, 1) := by decide +kernel
theorem dX9_setSpecies_39 : decode cX9_setSpecies 39 = .ok (.iload_n 2, 1) := by decide +kernel
theorem dX9_setSpecies_40 : decode cX9_setSpecies 40 = .ok (.ireturn, 1) := by decide +kernel
theorem dX9_setPosition_0 : decode cX9_setPosition 0 = .ok (.aload_n 0, 1) := by decide +kernel
theorem dX9_setPosition_1 : decode cX9_setPosition 1 = .ok (.iconst 0, 1) := by decide +kernel
theorem dX9_setPosition_2 : decode cX9_setPosition 2 = .ok (.putfield 41, 3) := by decide +kernel
theorem dX9_setPosition_5 : decode cX9_setPosition 5 = .ok (.aload_n 0, 1) := by decide +kernel
theorem dX9_setPosition_6 : decode cX9_setPosition 6 = .ok (.iconst 3, 1) := by decide +kernel
theorem dX9_setPosition_7 : decode cX9_setPosition 7 = .ok (.iload_n 1, 1) := by decide +kernel
theorem dX9_setPosition_8 : decode cX9_setPosition 8 = .ok (.ifCond .eq 7, 3) := by decide +kernel
theorem dX9_setPosition_11 : decode cX9_setPosition 11 = .ok (.iconst 1, 1) := by decide +kernel
theorem dX9_setPosition_12 : decode cX9_setPosition 12 = .ok (.goto 4, 3) := by decide +kernel
theorem dX9_setPosition_15 : decode cX9_setPosition 15 = .ok (.iconst 0, 1) := by decide +kernel
theorem dX9_setPosition_16 : decode cX9_setPosition 16 = .ok (.invokevirtual 187, 3) := by decide +kernel
theorem dX9_setPosition_19 : decode cX9_setPosition 19 = .ok (.iconst 1, 1) := by decide +kernel
theorem dX9_setPosition_20 : decode cX9_setPosition 20 = .ok (.if_icmp .ne 7, 3) := by decide +kernel
theorem dX9_setPosition_23 : decode cX9_setPosition 23 = .ok (.iconst 1, 1) := by decide +kernel
theorem dX9_setPosition_24 : decode cX9_setPosition 24 = .ok (.goto 4, 3) := by decide +kernel
theorem dX9_setPosition_27 : decode cX9_setPosition 27 = .ok (.iconst 0, 1) := by decide +kernel
theorem dX9_setPosition_28 : decode cX9_setPosition 28 = .ok (.ireturn, 1) := by decide +kernel
theorem dX9_set_0 : decode cX9_set 0 = .ok (.aload_n 0, 1) := by decide +kernel
theorem dX9_set_1 : decode cX9_set 1 = .ok (.iconst 0, 1) := by decide +kernel
theorem dX9_set_2 : decode cX9_set 2 = .ok (.putfield 41, 3) := by decide +kernel
theorem dX9_set_5 : decode cX9_set 5 = .ok (.iload_n 1, 1) := by decide +kernel
theorem dX9_set_6 : decode cX9_set 6 = .ok (.iconst 0, 1) := by decide +kernel
theorem dX9_set_7 : decode cX9_set 7 = .ok (.iconst 2, 1) := by decide +kernel
theorem dX9_set_8 : decode cX9_set 8 = .ok (.invokestatic 74, 3) := by decide +kernel
theorem dX9_set_11 : decode cX9_set 11 = .ok (.ifCond .ne 9, 3) := by decide +kernel
theorem dX9_set_14 : decode cX9_set 14 = .ok (.aload_n 0, 1) := by decide +kernel
theorem dX9_set_15 : decode cX9_set 15 = .ok (.iconst 1, 1) := by decide +kernel
theorem dX9_set_16 : decode cX9_set 16 = .ok (.invokevirtual 150, 3) := by decide +kernel
theorem dX9_set_19 : decode cX9_set 19 = .ok (.ireturn, 1) := by decide +kernel
theorem dX9_set_20 : decode cX9_set 20 = .ok (.iload_n 1, 1) := by decide +kernel
theorem dX9_set_21 : decode cX9_set 21 = .ok (.iconst 2, 1) := by decide +kernel
theorem dX9_set_22 : decode cX9_set 22 = .ok (.if_icmp .ne 30, 3) := by decide +kernel
theorem dX9_set_25 : decode cX9_set 25 = .ok (.iload_n 2, 1) := by decide +kernel
theorem dX9_set_26 : decode cX9_set 26 = .ok (.bipush 12, 2) := by decide +kernel
theorem dX9_set_28 : decode cX9_set 28 = .ok (.bipush 36, 2) := by decide +kernel
theorem dX9_set_30 : decode cX9_set 30 = .ok (.invokestatic 74, 3) := by decide +kernel
theorem dX9_set_33 : decode cX9_set 33 = .ok (.ifCond .eq 13, 3) := by decide +kernel
theorem dX9_set_36 : decode cX9_set 36 = .ok (.aload_n 0, 1) := by decide +kernel
theorem dX9_set_37 : decode cX9_set 37 = .ok (.bipush 6, 2) := by decide +kernel
theorem dX9_set_39 : decode cX9_set 39 = .ok (.iload_n 2, 1) := by decide +kernel
theorem dX9_set_40 : decode cX9_set 40 = .ok (.invokevirtual 187, 3) := by decide +kernel
theorem dX9_set_43 : decode cX9_set 43 = .ok (.goto 8, 3) := by decide +kernel
theorem dX9_set_46 : decode cX9_set 46 = .ok (.aload_n 0, 1) := by decide +kernel
theorem dX9_set_47 : decode cX9_set 47 = .ok (.iconst 2, 1) := by decide +kernel
theorem dX9_set_48 : decode cX9_set 48 = .ok (.invokevirtual 150, 3) := by decide +kernel
theorem dX9_set_51 : decode cX9_set 51 = .ok (.ireturn, 1) := by decide +kernel
theorem dX9_set_52 : decode cX9_set 52 = .ok (.iload_n 2, 1) := by decide +kernel
theorem dX9_set_53 : decode cX9_set 53 = .ok (.bipush 24, 2) := by decide +kernel
theorem dX9_set_55 : decode cX9_set 55 = .ok (.bipush 84, 2) := by decide +kernel
theorem dX9_set_57 : decode cX9_set 57 = .ok (.invokestatic 74, 3) := by decide +kernel
theorem dX9_set_60 : decode cX9_set 60 = .ok (.ifCond .eq 34, 3) := by decide +kernel
theorem dX9_set_63 : decode cX9_set 63 = .ok (.iload_n 1, 1) := by decide +kernel
theorem dX9_set_64 : decode cX9_set 64 = .ok (.ifCond .ne 16, 3) := by decide +kernel
theorem dX9_set_67 : decode cX9_set 67 = .ok (.iload_n 2, 1) := by decide +kernel
theorem dX9_set_68 : decode cX9_set 68 = .ok (.aload_n 0, 1) := by decide +kernel
theorem dX9_set_69 : decode cX9_set 69 = .ok (.getfield 9, 3) := by decide +kernel
theorem dX9_set_72 : decode cX9_set 72 = .ok (.iconst 5, 1) := by decide +kernel
theorem dX9_set_73 : decode cX9_set 73 = .ok (.iaload, 1) := by decide +kernel
theorem dX9_set_74 : decode cX9_set 74 = .ok (.if_icmp .gt 20, 3) := by decide +kernel
theorem dX9_set_77 : decode cX9_set 77 = .ok (.goto 13, 3) := by decide +kernel
theorem dX9_set_80 : decode cX9_set 80 = .ok (.iload_n 2, 1) := by decide +kernel
theorem dX9_set_81 : decode cX9_set 81 = .ok (.aload_n 0, 1) := by decide +kernel
theorem dX9_set_82 : decode cX9_set 82 = .ok (.getfield 9, 3) := by decide +kernel
theorem dX9_set_85 : decode cX9_set 85 = .ok (.iconst 4, 1) := by decide +kernel
theorem dX9_set_86 : decode cX9_set 86 = .ok (.iaload, 1) := by decide +kernel
theorem dX9_set_87 : decode cX9_set 87 = .ok (.if_icmp .lt 7, 3) := by decide +kernel
theorem dX9_set_90 : decode cX9_set 90 = .ok (.iconst 1, 1) := by decide +kernel
theorem dX9_set_91 : decode cX9_set 91 = .ok (.goto 4, 3) := by decide +kernel
theorem dX9_set_94 : decode cX9_set 94 = .ok (.iconst 0, 1) := by decide +kernel
theorem dX9_set_95 : decode cX9_set 95 = .ok (.istore_n 3, 1) := by decide +kernel
theorem dX9_set_96 : decode cX9_set 96 = .ok (.iload_n 3, 1) := by decide +kernel
theorem dX9_set_97 : decode cX9_set 97 = .ok (.ifCond .eq 14, 3) := by decide +kernel
theorem dX9_set_100 : decode cX9_set 100 = .ok (.aload_n 0, 1) := by decide +kernel
theorem dX9_set_101 : decode cX9_set 101 = .ok (.iconst 4, 1) := by decide +kernel
theorem dX9_set_102 : decode cX9_set 102 = .ok (.iload_n 1, 1) := by decide +kernel
theorem dX9_set_103 : decode cX9_set 103 = .ok (.iadd, 1) := by decide +kernel
theorem dX9_set_104 : decode cX9_set 104 = .ok (.iload_n 2, 1) := by decide +kernel
theorem dX9_set_105 : decode cX9_set 105 = .ok (.invokevirtual 187, 3) := by decide +kernel
theorem dX9_set_108 : decode cX9_set 108 = .ok (.goto 8, 3) := by decide +kernel
theorem dX9_set_111 : decode cX9_set 111 = .ok (.aload_n 0, 1) := by decide +kernel
theorem dX9_set_112 : decode cX9_set 112 = .ok (.iconst 2, 1) := by decide +kernel
theorem dX9_set_113 : decode cX9_set 113 = .ok (.invokevirtual 150, 3) := by decide +kernel
theorem dX9_set_116 : decode cX9_set 116 = .ok (.ireturn, 1) := by decide +kernel
theorem dX9_isCode_0 : decode cX9_isCode 0 = .ok (.iload_n 0, 1) := by decide +kernel
theorem dX9_isCode_1 : decode cX9_isCode 1 = .ok (.bipush 42, 2) := by decide +kernel
theorem dX9_isCode_3 : decode cX9_isCode 3 = .ok (.sipush 146, 3) := by decide +kernel
theorem dX9_isCode_6 : decode cX9_isCode 6 = .ok (.invokestatic 74, 3) := by decide +kernel
theorem dX9_isCode_9 : decode cX9_isCode 9 = .ok (.ireturn, 1) := by decide +kernel
theorem dX9_setNote_0 : decode cX9_setNote 0 = .ok (.aload_n 0, 1) := by decide +kernel
theorem dX9_setNote_1 : decode cX9_setNote 1 = .ok (.iconst 0, 1) := by decide +kernel
theorem dX9_setNote_2 : decode cX9_setNote 2 = .ok (.putfield 41, 3) := by decide +kernel
theorem dX9_setNote_5 : decode cX9_setNote 5 = .ok (.aload_n 0, 1) := by decide +kernel
theorem dX9_setNote_6 : decode cX9_setNote 6 = .ok (.invokevirtual 190, 3) := by decide +kernel
theorem dX9_setNote_9 : decode cX9_setNote 9 = .ok (.ifCond .ne 9, 3) := by decide +kernel
theorem dX9_setNote_12 : decode cX9_setNote 12 = .ok (.aload_n 0, 1) := by decide +kernel
theorem dX9_setNote_13 : decode cX9_setNote 13 = .ok (.iconst 1, 1) := by decide +kernel
theorem dX9_setNote_14 : decode cX9_setNote 14 = .ok (.invokevirtual 150, 3) := by decide +kernel
theorem dX9_setNote_17 : decode cX9_setNote 17 = .ok (.ireturn, 1) := by decide +kernel
theorem dX9_setNote_18 : decode cX9_setNote 18 = .ok (.aload_n 0, 1) := by decide +kernel
theorem dX9_setNote_19 : decode cX9_setNote 19 = .ok (.iload_n 1, 1) := by decide +kernel
theorem dX9_setNote_20 : decode cX9_setNote 20 = .ok (.iload_n 2, 1) := by decide +kernel
theorem dX9_setNote_21 : decode cX9_setNote 21 = .ok (.invokevirtual 194, 3) := by decide +kernel
theorem dX9_setNote_24 : decode cX9_setNote 24 = .ok (.istore 4, 2) := by decide +kernel
theorem dX9_setNote_26 : decode cX9_setNote 26 = .ok (.iload 4, 2) := by decide +kernel
theorem dX9_setNote_28 : decode cX9_setNote 28 = .ok (.iconst (-1), 1) := by decide +kernel
theorem dX9_setNote_29 : decode cX9_setNote 29 = .ok (.if_icmp .ne 9, 3) := by decide +kernel
theorem dX9_setNote_32 : decode cX9_setNote 32 = .ok (.aload_n 0, 1) := by decide +kernel
theorem dX9_setNote_33 : decode cX9_setNote 33 = .ok (.iconst 2, 1) := by decide +kernel
theorem dX9_setNote_34 : decode cX9_setNote 34 = .ok (.invokevirtual 150, 3) := by decide +kernel
theorem dX9_setNote_37 : decode cX9_setNote 37 = .ok (.ireturn, 1) := by decide +kernel
theorem dX9_setNote_38 : decode cX9_setNote 38 = .ok (.iload_n 3, 1) := by decide +kernel
theorem dX9_setNote_39 : decode cX9_setNote 39 = .ok (.invokestatic 197, 3) := by decide +kernel
theorem dX9_setNote_42 : decode cX9_setNote 42 = .ok (.ifCond .ne 9, 3) := by decide +kernel
theorem dX9_setNote_45 : decode cX9_setNote 45 = .ok (.aload_n 0, 1) := by decide +kernel
theorem dX9_setNote_46 : decode cX9_setNote 46 = .ok (.iconst 3, 1) := by decide +kernel
theorem dX9_setNote_47 : decode cX9_setNote 47 = .ok (.invokevirtual 150, 3) := by decide +kernel
theorem dX9_setNote_50 : decode cX9_setNote 50 = .ok (.ireturn, 1) := by decide +kernel
theorem dX9_setNote_51 : decode cX9_setNote 51 = .ok (.aload_n 0, 1) := by decide +kernel
theorem dX9_setNote_52 : decode cX9_setNote 52 = .ok (.iload 4, 2) := by decide +kernel
theorem dX9_setNote_54 : decode cX9_setNote 54 = .ok (.invokevirtual 87, 3) := by decide +kernel
theorem dX9_setNote_57 : decode cX9_setNote 57 = .ok (.iconst (-1), 1) := by decide +kernel
theorem dX9_setNote_58 : decode cX9_setNote 58 = .ok (.if_icmp .ne 11, 3) := by decide +kernel
theorem dX9_setNote_61 : decode cX9_setNote 61 = .ok (.aload_n 0, 1) := by decide +kernel
theorem dX9_setNote_62 : decode cX9_setNote 62 = .ok (.iconst 4, 1) := by decide +kernel
theorem dX9_setNote_63 : decode cX9_setNote 63 = .ok (.invokevirtual 150, 3) := by decide +kernel
theorem dX9_setNote_66 : decode cX9_setNote 66 = .ok (.goto 13, 3) := by decide +kernel
theorem dX9_setNote_69 : decode cX9_setNote 69 = .ok (.aload_n 0, 1) := by decide +kernel
theorem dX9_setNote_70 : decode cX9_setNote 70 = .ok (.bipush 35, 2) := by decide +kernel
theorem dX9_setNote_72 : decode cX9_setNote 72 = .ok (.iload 4, 2) := by decide +kernel
theorem dX9_setNote_74 : decode cX9_setNote 74 = .ok (.iadd, 1) := by decide +kernel
theorem dX9_setNote_75 : decode cX9_setNote 75 = .ok (.iload_n 3, 1) := by decide +kernel
theorem dX9_setNote_76 : decode cX9_setNote 76 = .ok (.invokevirtual 187, 3) := by decide +kernel
theorem dX9_setNote_79 : decode cX9_setNote 79 = .ok (.ireturn, 1) := by decide +kernel
theorem dX9_note_0 : decode cX9_note 0 = .ok (.aload_n 0, 1) := by decide +kernel
theorem dX9_note_1 : decode cX9_note 1 = .ok (.iconst 0, 1) := by decide +kernel
theorem dX9_note_2 : decode cX9_note 2 = .ok (.putfield 41, 3) := by decide +kernel
theorem dX9_note_5 : decode cX9_note 5 = .ok (.aload_n 0, 1) := by decide +kernel
theorem dX9_note_6 : decode cX9_note 6 = .ok (.getfield 9, 3) := by decide +kernel
theorem dX9_note_9 : decode cX9_note 9 = .ok (.iconst 0, 1) := by decide +kernel
theorem dX9_note_10 : decode cX9_note 10 = .ok (.iaload, 1) := by decide +kernel
theorem dX9_note_11 : decode cX9_note 11 = .ok (.ifCond .eq 15, 3) := by decide +kernel
theorem dX9_note_14 : decode cX9_note 14 = .ok (.iload_n 2, 1) := by decide +kernel
theorem dX9_note_15 : decode cX9_note 15 = .ok (.iconst (-1), 1) := by decide +kernel
theorem dX9_note_16 : decode cX9_note 16 = .ok (.if_icmp .eq 16, 3) := by decide +kernel
theorem dX9_note_19 : decode cX9_note 19 = .ok (.aload_n 0, 1) := by decide +kernel
theorem dX9_note_20 : decode cX9_note 20 = .ok (.invokevirtual 190, 3) := by decide +kernel
theorem dX9_note_23 : decode cX9_note 23 = .ok (.ifCond .ne 9, 3) := by decide +kernel
theorem dX9_note_26 : decode cX9_note 26 = .ok (.aload_n 0, 1) := by decide +kernel
theorem dX9_note_27 : decode cX9_note 27 = .ok (.iconst 1, 1) := by decide +kernel
theorem dX9_note_28 : decode cX9_note 28 = .ok (.invokevirtual 150, 3) := by decide +kernel
theorem dX9_note_31 : decode cX9_note 31 = .ok (.ireturn, 1) := by decide +kernel
theorem dX9_note_32 : decode cX9_note 32 = .ok (.iload_n 2, 1) := by decide +kernel
theorem dX9_note_33 : decode cX9_note 33 = .ok (.iconst (-1), 1) := by decide +kernel
theorem dX9_note_34 : decode cX9_note 34 = .ok (.if_icmp .ne 33, 3) := by decide +kernel
theorem dX9_note_37 : decode cX9_note 37 = .ok (.iload_n 1, 1) := by decide +kernel
theorem dX9_note_38 : decode cX9_note 38 = .ok (.iconst 0, 1) := by decide +kernel
theorem dX9_note_39 : decode cX9_note 39 = .ok (.aload_n 0, 1) := by decide +kernel
theorem dX9_note_40 : decode cX9_note 40 = .ok (.getfield 9, 3) := by decide +kernel
theorem dX9_note_43 : decode cX9_note 43 = .ok (.iconst 0, 1) := by decide +kernel
theorem dX9_note_44 : decode cX9_note 44 = .ok (.iaload, 1) := by decide +kernel
theorem dX9_note_45 : decode cX9_note 45 = .ok (.iconst 1, 1) := by decide +kernel
theorem dX9_note_46 : decode cX9_note 46 = .ok (.isub, 1) := by decide +kernel
theorem dX9_note_47 : decode cX9_note 47 = .ok (.invokestatic 74, 3) := by decide +kernel
theorem dX9_note_50 : decode cX9_note 50 = .ok (.ifCond .eq 11, 3) := by decide +kernel
theorem dX9_note_53 : decode cX9_note 53 = .ok (.aload_n 0, 1) := by decide +kernel
theorem dX9_note_54 : decode cX9_note 54 = .ok (.iload_n 1, 1) := by decide +kernel
theorem dX9_note_55 : decode cX9_note 55 = .ok (.invokevirtual 107, 3) := by decide +kernel
theorem dX9_note_58 : decode cX9_note 58 = .ok (.goto 8, 3) := by decide +kernel
theorem dX9_note_61 : decode cX9_note 61 = .ok (.aload_n 0, 1) := by decide +kernel
theorem dX9_note_62 : decode cX9_note 62 = .ok (.iconst 2, 1) := by decide +kernel
theorem dX9_note_63 : decode cX9_note 63 = .ok (.invokevirtual 150, 3) := by decide +kernel
theorem dX9_note_66 : decode cX9_note 66 = .ok (.ireturn, 1) := by decide +kernel
theorem dX9_note_67 : decode cX9_note 67 = .ok (.aload_n 0, 1) := by decide +kernel
theorem dX9_note_68 : decode cX9_note 68 = .ok (.iload_n 1, 1) := by decide +kernel
theorem dX9_note_69 : decode cX9_note 69 = .ok (.iload_n 2, 1) := by decide +kernel
theorem dX9_note_70 : decode cX9_note 70 = .ok (.invokevirtual 194, 3) := by decide +kernel
theorem dX9_note_73 : decode cX9_note 73 = .ok (.istore_n 3, 1) := by decide +kernel
theorem dX9_note_74 : decode cX9_note 74 = .ok (.iload_n 3, 1) := by decide +kernel
theorem dX9_note_75 : decode cX9_note 75 = .ok (.iconst (-1), 1) := by decide +kernel
theorem dX9_note_76 : decode cX9_note 76 = .ok (.if_icmp .ne 11, 3) := by decide +kernel
theorem dX9_note_79 : decode cX9_note 79 = .ok (.aload_n 0, 1) := by decide +kernel
theorem dX9_note_80 : decode cX9_note 80 = .ok (.iconst 2, 1) := by decide +kernel
theorem dX9_note_81 : decode cX9_note 81 = .ok (.invokevirtual 150, 3) := by decide +kernel
theorem dX9_note_84 : decode cX9_note 84 = .ok (.goto 8, 3) := by decide +kernel
theorem dX9_note_87 : decode cX9_note 87 = .ok (.aload_n 0, 1) := by decide +kernel
theorem dX9_note_88 : decode cX9_note 88 = .ok (.iload_n 3, 1) := by decide +kernel
theorem dX9_note_89 : decode cX9_note 89 = .ok (.invokevirtual 87, 3) := by decide +kernel
theorem dX9_note_92 : decode cX9_note 92 = .ok (.ireturn, 1) := by decide +kernel
theorem dX9_noteOf_0 : decode cX9_noteOf 0 = .ok (.aload_n 0, 1) := by decide +kernel
theorem dX9_noteOf_1 : decode cX9_noteOf 1 = .ok (.iconst 0, 1) := by decide +kernel
theorem dX9_noteOf_2 : decode cX9_noteOf 2 = .ok (.putfield 41, 3) := by decide +kernel
theorem dX9_noteOf_5 : decode cX9_noteOf 5 = .ok (.iload_n 1, 1) := by decide +kernel
theorem dX9_noteOf_6 : decode cX9_noteOf 6 = .ok (.invokestatic 197, 3) := by decide +kernel
theorem dX9_noteOf_9 : decode cX9_noteOf 9 = .ok (.ifCond .ne 9, 3) := by decide +kernel
theorem dX9_noteOf_12 : decode cX9_noteOf 12 = .ok (.aload_n 0, 1) := by decide +kernel
theorem dX9_noteOf_13 : decode cX9_noteOf 13 = .ok (.iconst 1, 1) := by decide +kernel
theorem dX9_noteOf_14 : decode cX9_noteOf 14 = .ok (.invokevirtual 150, 3) := by decide +kernel
theorem dX9_noteOf_17 : decode cX9_noteOf 17 = .ok (.ireturn, 1) := by decide +kernel
theorem dX9_noteOf_18 : decode cX9_noteOf 18 = .ok (.iload_n 2, 1) := by decide +kernel
theorem dX9_noteOf_19 : decode cX9_noteOf 19 = .ok (.tableswitch 64 0 4 #[33, 38, 43, 48, 56], 33) := by decide +kernel
theorem dX9_noteOf_52 : decode cX9_noteOf 52 = .ok (.iload_n 1, 1) := by decide +kernel
theorem dX9_noteOf_53 : decode cX9_noteOf 53 = .ok (.invokestatic 49, 3) := by decide +kernel
theorem dX9_noteOf_56 : decode cX9_noteOf 56 = .ok (.ireturn, 1) := by decide +kernel
theorem dX9_noteOf_57 : decode cX9_noteOf 57 = .ok (.iload_n 1, 1) := by decide +kernel
theorem dX9_noteOf_58 : decode cX9_noteOf 58 = .ok (.invokestatic 53, 3) := by decide +kernel
theorem dX9_noteOf_61 : decode cX9_noteOf 61 = .ok (.ireturn, 1) := by decide +kernel
theorem dX9_noteOf_62 : decode cX9_noteOf 62 = .ok (.iload_n 1, 1) := by decide +kernel
theorem dX9_noteOf_63 : decode cX9_noteOf 63 = .ok (.invokestatic 61, 3) := by decide +kernel
theorem dX9_noteOf_66 : decode cX9_noteOf 66 = .ok (.ireturn, 1) := by decide +kernel
theorem dX9_noteOf_67 : decode cX9_noteOf 67 = .ok (.iload_n 1, 1) := by decide +kernel
theorem dX9_noteOf_68 : decode cX9_noteOf 68 = .ok (.invokestatic 49, 3) := by decide +kernel
theorem dX9_noteOf_71 : decode cX9_noteOf 71 = .ok (.bipush 7, 2) := by decide +kernel
theorem dX9_noteOf_73 : decode cX9_noteOf 73 = .ok (.irem, 1) := by decide +kernel
theorem dX9_noteOf_74 : decode cX9_noteOf 74 = .ok (.ireturn, 1) := by decide +kernel
theorem dX9_noteOf_75 : decode cX9_noteOf 75 = .ok (.iload_n 1, 1) := by decide +kernel
theorem dX9_noteOf_76 : decode cX9_noteOf 76 = .ok (.invokestatic 49, 3) := by decide +kernel
theorem dX9_noteOf_79 : decode cX9_noteOf 79 = .ok (.bipush 7, 2) := by decide +kernel
theorem dX9_noteOf_81 : decode cX9_noteOf 81 = .ok (.idiv, 1) := by decide +kernel
theorem dX9_noteOf_82 : decode cX9_noteOf 82 = .ok (.ireturn, 1) := by decide +kernel
theorem dX9_noteOf_83 : decode cX9_noteOf 83 = .ok (.aload_n 0, 1) := by decide +kernel
theorem dX9_noteOf_84 : decode cX9_noteOf 84 = .ok (.iconst 2, 1) := by decide +kernel
theorem dX9_noteOf_85 : decode cX9_noteOf 85 = .ok (.invokevirtual 150, 3) := by decide +kernel
theorem dX9_noteOf_88 : decode cX9_noteOf 88 = .ok (.ireturn, 1) := by decide +kernel
theorem dX9_writes_0 : decode cX9_writes 0 = .ok (.iload_n 1, 1) := by decide +kernel
theorem dX9_writes_1 : decode cX9_writes 1 = .ok (.istore_n 3, 1) := by decide +kernel
theorem dX9_writes_2 : decode cX9_writes 2 = .ok (.iload_n 2, 1) := by decide +kernel
theorem dX9_writes_3 : decode cX9_writes 3 = .ok (.iconst (-1), 1) := by decide +kernel
theorem dX9_writes_4 : decode cX9_writes 4 = .ok (.if_icmp .ne 16, 3) := by decide +kernel
theorem dX9_writes_7 : decode cX9_writes 7 = .ok (.aload_n 0, 1) := by decide +kernel
theorem dX9_writes_8 : decode cX9_writes 8 = .ok (.getfield 38, 3) := by decide +kernel
theorem dX9_writes_11 : decode cX9_writes 11 = .ok (.iload_n 3, 1) := by decide +kernel
theorem dX9_writes_12 : decode cX9_writes 12 = .ok (.iinc 3 1, 3) := by decide +kernel
theorem dX9_writes_15 : decode cX9_writes 15 = .ok (.bipush 45, 2) := by decide +kernel
theorem dX9_writes_17 : decode cX9_writes 17 = .ok (.iastore, 1) := by decide +kernel
theorem dX9_writes_18 : decode cX9_writes 18 = .ok (.iload_n 3, 1) := by decide +kernel
theorem dX9_writes_19 : decode cX9_writes 19 = .ok (.ireturn, 1) := by decide +kernel
theorem dX9_writes_20 : decode cX9_writes 20 = .ok (.aload_n 0, 1) := by decide +kernel
theorem dX9_writes_21 : decode cX9_writes 21 = .ok (.getfield 38, 3) := by decide +kernel
theorem dX9_writes_24 : decode cX9_writes 24 = .ok (.iload_n 3, 1) := by decide +kernel
theorem dX9_writes_25 : decode cX9_writes 25 = .ok (.iinc 3 1, 3) := by decide +kernel
theorem dX9_writes_28 : decode cX9_writes 28 = .ok (.ldc 162, 2) := by decide +kernel
theorem dX9_writes_30 : decode cX9_writes 30 = .ok (.iload_n 2, 1) := by decide +kernel
theorem dX9_writes_31 : decode cX9_writes 31 = .ok (.invokestatic 49, 3) := by decide +kernel
theorem dX9_writes_34 : decode cX9_writes 34 = .ok (.bipush 7, 2) := by decide +kernel
theorem dX9_writes_36 : decode cX9_writes 36 = .ok (.irem, 1) := by decide +kernel
theorem dX9_writes_37 : decode cX9_writes 37 = .ok (.invokevirtual 200, 3) := by decide +kernel
theorem dX9_writes_40 : decode cX9_writes 40 = .ok (.iastore, 1) := by decide +kernel
theorem dX9_writes_41 : decode cX9_writes 41 = .ok (.iload_n 2, 1) := by decide +kernel
theorem dX9_writes_42 : decode cX9_writes 42 = .ok (.invokestatic 53, 3) := by decide +kernel
theorem dX9_writes_45 : decode cX9_writes 45 = .ok (.ifCond .eq 26, 3) := by decide +kernel
theorem dX9_writes_48 : decode cX9_writes 48 = .ok (.aload_n 0, 1) := by decide +kernel
theorem dX9_writes_49 : decode cX9_writes 49 = .ok (.getfield 38, 3) := by decide +kernel
theorem dX9_writes_52 : decode cX9_writes 52 = .ok (.iload_n 3, 1) := by decide +kernel
theorem dX9_writes_53 : decode cX9_writes 53 = .ok (.iinc 3 1, 3) := by decide +kernel
theorem dX9_writes_56 : decode cX9_writes 56 = .ok (.iload_n 2, 1) := by decide +kernel
theorem dX9_writes_57 : decode cX9_writes 57 = .ok (.invokestatic 53, 3) := by decide +kernel
theorem dX9_writes_60 : decode cX9_writes 60 = .ok (.ifCond .le 8, 3) := by decide +kernel
theorem dX9_writes_63 : decode cX9_writes 63 = .ok (.bipush 35, 2) := by decide +kernel
theorem dX9_writes_65 : decode cX9_writes 65 = .ok (.goto 5, 3) := by decide +kernel
theorem dX9_writes_68 : decode cX9_writes 68 = .ok (.bipush 98, 2) := by decide +kernel
theorem dX9_writes_70 : decode cX9_writes 70 = .ok (.iastore, 1) := by decide +kernel
theorem dX9_writes_71 : decode cX9_writes 71 = .ok (.aload_n 0, 1) := by decide +kernel
theorem dX9_writes_72 : decode cX9_writes 72 = .ok (.getfield 38, 3) := by decide +kernel
theorem dX9_writes_75 : decode cX9_writes 75 = .ok (.iload_n 3, 1) := by decide +kernel
theorem dX9_writes_76 : decode cX9_writes 76 = .ok (.iinc 3 1, 3) := by decide +kernel
theorem dX9_writes_79 : decode cX9_writes 79 = .ok (.bipush 48, 2) := by decide +kernel
theorem dX9_writes_81 : decode cX9_writes 81 = .ok (.iload_n 2, 1) := by decide +kernel
theorem dX9_writes_82 : decode cX9_writes 82 = .ok (.invokestatic 49, 3) := by decide +kernel
theorem dX9_writes_85 : decode cX9_writes 85 = .ok (.bipush 7, 2) := by decide +kernel
theorem dX9_writes_87 : decode cX9_writes 87 = .ok (.idiv, 1) := by decide +kernel
theorem dX9_writes_88 : decode cX9_writes 88 = .ok (.iadd, 1) := by decide +kernel
theorem dX9_writes_89 : decode cX9_writes 89 = .ok (.iastore, 1) := by decide +kernel
theorem dX9_writes_90 : decode cX9_writes 90 = .ok (.iload_n 3, 1) := by decide +kernel
theorem dX9_writes_91 : decode cX9_writes 91 = .ok (.ireturn, 1) := by decide +kernel
theorem dX9_answers_0 : decode cX9_answers 0 = .ok (.iload_n 1, 1) := by decide +kernel
theorem dX9_answers_1 : decode cX9_answers 1 = .ok (.iconst (-1), 1) := by decide +kernel
theorem dX9_answers_2 : decode cX9_answers 2 = .ok (.if_icmp .ne 7, 3) := by decide +kernel
theorem dX9_answers_5 : decode cX9_answers 5 = .ok (.iload_n 2, 1) := by decide +kernel
theorem dX9_answers_6 : decode cX9_answers 6 = .ok (.goto 28, 3) := by decide +kernel
theorem dX9_answers_9 : decode cX9_answers 9 = .ok (.iload_n 1, 1) := by decide +kernel
theorem dX9_answers_10 : decode cX9_answers 10 = .ok (.iconst 0, 1) := by decide +kernel
theorem dX9_answers_11 : decode cX9_answers 11 = .ok (.iload_n 2, 1) := by decide +kernel
theorem dX9_answers_12 : decode cX9_answers 12 = .ok (.iconst 1, 1) := by decide +kernel
theorem dX9_answers_13 : decode cX9_answers 13 = .ok (.isub, 1) := by decide +kernel
theorem dX9_answers_14 : decode cX9_answers 14 = .ok (.invokestatic 74, 3) := by decide +kernel
theorem dX9_answers_17 : decode cX9_answers 17 = .ok (.ifCond .eq 12, 3) := by decide +kernel
theorem dX9_answers_20 : decode cX9_answers 20 = .ok (.aload_n 0, 1) := by decide +kernel
theorem dX9_answers_21 : decode cX9_answers 21 = .ok (.getfield 38, 3) := by decide +kernel
theorem dX9_answers_24 : decode cX9_answers 24 = .ok (.iload_n 1, 1) := by decide +kernel
theorem dX9_answers_25 : decode cX9_answers 25 = .ok (.iaload, 1) := by decide +kernel
theorem dX9_answers_26 : decode cX9_answers 26 = .ok (.goto 8, 3) := by decide +kernel
theorem dX9_answers_29 : decode cX9_answers 29 = .ok (.aload_n 0, 1) := by decide +kernel
theorem dX9_answers_30 : decode cX9_answers 30 = .ok (.iload_n 3, 1) := by decide +kernel
theorem dX9_answers_31 : decode cX9_answers 31 = .ok (.invokevirtual 150, 3) := by decide +kernel
theorem dX9_answers_34 : decode cX9_answers 34 = .ok (.ireturn, 1) := by decide +kernel
theorem dX9_text_0 : decode cX9_text 0 = .ok (.aload_n 0, 1) := by decide +kernel
theorem dX9_text_1 : decode cX9_text 1 = .ok (.iconst 0, 1) := by decide +kernel
theorem dX9_text_2 : decode cX9_text 2 = .ok (.putfield 41, 3) := by decide +kernel
theorem dX9_text_5 : decode cX9_text 5 = .ok (.iload_n 1, 1) := by decide +kernel
theorem dX9_text_6 : decode cX9_text 6 = .ok (.ifCond .eq 12, 3) := by decide +kernel
theorem dX9_text_9 : decode cX9_text 9 = .ok (.aload_n 0, 1) := by decide +kernel
theorem dX9_text_10 : decode cX9_text 10 = .ok (.getfield 9, 3) := by decide +kernel
theorem dX9_text_13 : decode cX9_text 13 = .ok (.iconst 0, 1) := by decide +kernel
theorem dX9_text_14 : decode cX9_text 14 = .ok (.iaload, 1) := by decide +kernel
theorem dX9_text_15 : decode cX9_text 15 = .ok (.goto 9, 3) := by decide +kernel
theorem dX9_text_18 : decode cX9_text 18 = .ok (.aload_n 0, 1) := by decide +kernel
theorem dX9_text_19 : decode cX9_text 19 = .ok (.getfield 9, 3) := by decide +kernel
theorem dX9_text_22 : decode cX9_text 22 = .ok (.iconst 1, 1) := by decide +kernel
theorem dX9_text_23 : decode cX9_text 23 = .ok (.iaload, 1) := by decide +kernel
theorem dX9_text_24 : decode cX9_text 24 = .ok (.istore_n 3, 1) := by decide +kernel
theorem dX9_text_25 : decode cX9_text 25 = .ok (.iload_n 3, 1) := by decide +kernel
theorem dX9_text_26 : decode cX9_text 26 = .ok (.ifCond .ne 9, 3) := by decide +kernel
theorem dX9_text_29 : decode cX9_text 29 = .ok (.aload_n 0, 1) := by decide +kernel
theorem dX9_text_30 : decode cX9_text 30 = .ok (.iconst 1, 1) := by decide +kernel
theorem dX9_text_31 : decode cX9_text 31 = .ok (.invokevirtual 150, 3) := by decide +kernel
theorem dX9_text_34 : decode cX9_text 34 = .ok (.ireturn, 1) := by decide +kernel
theorem dX9_text_35 : decode cX9_text 35 = .ok (.iconst 0, 1) := by decide +kernel
theorem dX9_text_36 : decode cX9_text 36 = .ok (.istore 4, 2) := by decide +kernel
theorem dX9_text_38 : decode cX9_text 38 = .ok (.iconst 0, 1) := by decide +kernel
theorem dX9_text_39 : decode cX9_text 39 = .ok (.istore 5, 2) := by decide +kernel
theorem dX9_text_41 : decode cX9_text 41 = .ok (.iload 5, 2) := by decide +kernel
theorem dX9_text_43 : decode cX9_text 43 = .ok (.iload_n 3, 1) := by decide +kernel
theorem dX9_text_44 : decode cX9_text 44 = .ok (.if_icmp .ge 53, 3) := by decide +kernel
theorem dX9_text_47 : decode cX9_text 47 = .ok (.iload 5, 2) := by decide +kernel
theorem dX9_text_49 : decode cX9_text 49 = .ok (.ifCond .le 15, 3) := by decide +kernel
theorem dX9_text_52 : decode cX9_text 52 = .ok (.aload_n 0, 1) := by decide +kernel
theorem dX9_text_53 : decode cX9_text 53 = .ok (.getfield 38, 3) := by decide +kernel
theorem dX9_text_56 : decode cX9_text 56 = .ok (.iload 4, 2) := by decide +kernel
theorem dX9_text_58 : decode cX9_text 58 = .ok (.iinc 4 1, 3) := by decide +kernel
theorem dX9_text_61 : decode cX9_text 61 = .ok (.bipush 44, 2) := by decide +kernel
theorem dX9_text_63 : decode cX9_text 63 = .ok (.iastore, 1) := by decide +kernel
theorem dX9_text_64 : decode cX9_text 64 = .ok (.aload_n 0, 1) := by decide +kernel
theorem dX9_text_65 : decode cX9_text 65 = .ok (.iload 4, 2) := by decide +kernel
theorem dX9_text_67 : decode cX9_text 67 = .ok (.iload_n 1, 1) := by decide +kernel
theorem dX9_text_68 : decode cX9_text 68 = .ok (.ifCond .eq 12, 3) := by decide +kernel
theorem dX9_text_71 : decode cX9_text 71 = .ok (.aload_n 0, 1) := by decide +kernel
theorem dX9_text_72 : decode cX9_text 72 = .ok (.iload 5, 2) := by decide +kernel
theorem dX9_text_74 : decode cX9_text 74 = .ok (.invokevirtual 107, 3) := by decide +kernel
theorem dX9_text_77 : decode cX9_text 77 = .ok (.goto 9, 3) := by decide +kernel
theorem dX9_text_80 : decode cX9_text 80 = .ok (.aload_n 0, 1) := by decide +kernel
theorem dX9_text_81 : decode cX9_text 81 = .ok (.iload 5, 2) := by decide +kernel
theorem dX9_text_83 : decode cX9_text 83 = .ok (.invokevirtual 87, 3) := by decide +kernel
theorem dX9_text_86 : decode cX9_text 86 = .ok (.invokevirtual 204, 3) := by decide +kernel
theorem dX9_text_89 : decode cX9_text 89 = .ok (.istore 4, 2) := by decide +kernel
theorem dX9_text_91 : decode cX9_text 91 = .ok (.iinc 5 1, 3) := by decide +kernel
theorem dX9_text_94 : decode cX9_text 94 = .ok (.goto (-53), 3) := by decide +kernel
theorem dX9_text_97 : decode cX9_text 97 = .ok (.aload_n 0, 1) := by decide +kernel
theorem dX9_text_98 : decode cX9_text 98 = .ok (.iload_n 2, 1) := by decide +kernel
theorem dX9_text_99 : decode cX9_text 99 = .ok (.iload 4, 2) := by decide +kernel
theorem dX9_text_101 : decode cX9_text 101 = .ok (.iconst 2, 1) := by decide +kernel
theorem dX9_text_102 : decode cX9_text 102 = .ok (.invokevirtual 207, 3) := by decide +kernel
theorem dX9_text_105 : decode cX9_text 105 = .ok (.ireturn, 1) := by decide +kernel
theorem dX9_interval_0 : decode cX9_interval 0 = .ok (.aload_n 0, 1) := by decide +kernel
theorem dX9_interval_1 : decode cX9_interval 1 = .ok (.iconst 0, 1) := by decide +kernel
theorem dX9_interval_2 : decode cX9_interval 2 = .ok (.putfield 41, 3) := by decide +kernel
theorem dX9_interval_5 : decode cX9_interval 5 = .ok (.aload_n 0, 1) := by decide +kernel
theorem dX9_interval_6 : decode cX9_interval 6 = .ok (.invokevirtual 190, 3) := by decide +kernel
theorem dX9_interval_9 : decode cX9_interval 9 = .ok (.ifCond .ne 9, 3) := by decide +kernel
theorem dX9_interval_12 : decode cX9_interval 12 = .ok (.aload_n 0, 1) := by decide +kernel
theorem dX9_interval_13 : decode cX9_interval 13 = .ok (.iconst 1, 1) := by decide +kernel
theorem dX9_interval_14 : decode cX9_interval 14 = .ok (.invokevirtual 150, 3) := by decide +kernel
theorem dX9_interval_17 : decode cX9_interval 17 = .ok (.ireturn, 1) := by decide +kernel
theorem dX9_interval_18 : decode cX9_interval 18 = .ok (.aload_n 0, 1) := by decide +kernel
theorem dX9_interval_19 : decode cX9_interval 19 = .ok (.iload_n 1, 1) := by decide +kernel
theorem dX9_interval_20 : decode cX9_interval 20 = .ok (.iload_n 2, 1) := by decide +kernel
theorem dX9_interval_21 : decode cX9_interval 21 = .ok (.invokevirtual 194, 3) := by decide +kernel
theorem dX9_interval_24 : decode cX9_interval 24 = .ok (.istore 4, 2) := by decide +kernel
theorem dX9_interval_26 : decode cX9_interval 26 = .ok (.iload 4, 2) := by decide +kernel
theorem dX9_interval_28 : decode cX9_interval 28 = .ok (.iconst (-1), 1) := by decide +kernel
theorem dX9_interval_29 : decode cX9_interval 29 = .ok (.if_icmp .ne 9, 3) := by decide +kernel
theorem dX9_interval_32 : decode cX9_interval 32 = .ok (.aload_n 0, 1) := by decide +kernel
theorem dX9_interval_33 : decode cX9_interval 33 = .ok (.iconst 2, 1) := by decide +kernel
theorem dX9_interval_34 : decode cX9_interval 34 = .ok (.invokevirtual 150, 3) := by decide +kernel
theorem dX9_interval_37 : decode cX9_interval 37 = .ok (.ireturn, 1) := by decide +kernel
theorem dX9_interval_38 : decode cX9_interval 38 = .ok (.aload_n 0, 1) := by decide +kernel
theorem dX9_interval_39 : decode cX9_interval 39 = .ok (.iload 4, 2) := by decide +kernel
theorem dX9_interval_41 : decode cX9_interval 41 = .ok (.invokevirtual 87, 3) := by decide +kernel
theorem dX9_interval_44 : decode cX9_interval 44 = .ok (.iconst (-1), 1) := by decide +kernel
theorem dX9_interval_45 : decode cX9_interval 45 = .ok (.if_icmp .ne 9, 3) := by decide +kernel
theorem dX9_interval_48 : decode cX9_interval 48 = .ok (.aload_n 0, 1) := by decide +kernel
theorem dX9_interval_49 : decode cX9_interval 49 = .ok (.iconst 3, 1) := by decide +kernel
theorem dX9_interval_50 : decode cX9_interval 50 = .ok (.invokevirtual 150, 3) := by decide +kernel
theorem dX9_interval_53 : decode cX9_interval 53 = .ok (.ireturn, 1) := by decide +kernel
theorem dX9_interval_54 : decode cX9_interval 54 = .ok (.aload_n 0, 1) := by decide +kernel
theorem dX9_interval_55 : decode cX9_interval 55 = .ok (.iload_n 1, 1) := by decide +kernel
theorem dX9_interval_56 : decode cX9_interval 56 = .ok (.invokevirtual 107, 3) := by decide +kernel
theorem dX9_interval_59 : decode cX9_interval 59 = .ok (.istore 5, 2) := by decide +kernel
theorem dX9_interval_61 : decode cX9_interval 61 = .ok (.iload_n 3, 1) := by decide +kernel
theorem dX9_interval_62 : decode cX9_interval 62 = .ok (.tableswitch 123 0 4 #[34, 46, 58, 96, 108], 34) := by decide +kernel
theorem dX9_interval_96 : decode cX9_interval 96 = .ok (.aload_n 0, 1) := by decide +kernel
theorem dX9_interval_97 : decode cX9_interval 97 = .ok (.iload 4, 2) := by decide +kernel
theorem dX9_interval_99 : decode cX9_interval 99 = .ok (.invokevirtual 87, 3) := by decide +kernel
theorem dX9_interval_102 : decode cX9_interval 102 = .ok (.iload 5, 2) := by decide +kernel
theorem dX9_interval_104 : decode cX9_interval 104 = .ok (.invokestatic 64, 3) := by decide +kernel
theorem dX9_interval_107 : decode cX9_interval 107 = .ok (.ireturn, 1) := by decide +kernel
theorem dX9_interval_108 : decode cX9_interval 108 = .ok (.aload_n 0, 1) := by decide +kernel
theorem dX9_interval_109 : decode cX9_interval 109 = .ok (.iload 4, 2) := by decide +kernel
theorem dX9_interval_111 : decode cX9_interval 111 = .ok (.invokevirtual 87, 3) := by decide +kernel
theorem dX9_interval_114 : decode cX9_interval 114 = .ok (.iload 5, 2) := by decide +kernel
theorem dX9_interval_116 : decode cX9_interval 116 = .ok (.invokestatic 68, 3) := by decide +kernel
theorem dX9_interval_119 : decode cX9_interval 119 = .ok (.ireturn, 1) := by decide +kernel
theorem dX9_interval_120 : decode cX9_interval 120 = .ok (.aload_n 0, 1) := by decide +kernel
theorem dX9_interval_121 : decode cX9_interval 121 = .ok (.iload 4, 2) := by decide +kernel
theorem dX9_interval_123 : decode cX9_interval 123 = .ok (.invokevirtual 87, 3) := by decide +kernel
theorem dX9_interval_126 : decode cX9_interval 126 = .ok (.iload 5, 2) := by decide +kernel
theorem dX9_interval_128 : decode cX9_interval 128 = .ok (.invokestatic 71, 3) := by decide +kernel
theorem dX9_interval_131 : decode cX9_interval 131 = .ok (.ifCond .le 7, 3) := by decide +kernel
theorem dX9_interval_134 : decode cX9_interval 134 = .ok (.iconst 2, 1) := by decide +kernel
theorem dX9_interval_135 : decode cX9_interval 135 = .ok (.goto 22, 3) := by decide +kernel
theorem dX9_interval_138 : decode cX9_interval 138 = .ok (.aload_n 0, 1) := by decide +kernel
theorem dX9_interval_139 : decode cX9_interval 139 = .ok (.iload 4, 2) := by decide +kernel
theorem dX9_interval_141 : decode cX9_interval 141 = .ok (.invokevirtual 87, 3) := by decide +kernel
theorem dX9_interval_144 : decode cX9_interval 144 = .ok (.iload 5, 2) := by decide +kernel
theorem dX9_interval_146 : decode cX9_interval 146 = .ok (.invokestatic 110, 3) := by decide +kernel
theorem dX9_interval_149 : decode cX9_interval 149 = .ok (.ifCond .eq 7, 3) := by decide +kernel
theorem dX9_interval_152 : decode cX9_interval 152 = .ok (.iconst 1, 1) := by decide +kernel
theorem dX9_interval_153 : decode cX9_interval 153 = .ok (.goto 4, 3) := by decide +kernel
theorem dX9_interval_156 : decode cX9_interval 156 = .ok (.iconst 0, 1) := by decide +kernel
theorem dX9_interval_157 : decode cX9_interval 157 = .ok (.ireturn, 1) := by decide +kernel
theorem dX9_interval_158 : decode cX9_interval 158 = .ok (.aload_n 0, 1) := by decide +kernel
theorem dX9_interval_159 : decode cX9_interval 159 = .ok (.iload 4, 2) := by decide +kernel
theorem dX9_interval_161 : decode cX9_interval 161 = .ok (.invokevirtual 87, 3) := by decide +kernel
theorem dX9_interval_164 : decode cX9_interval 164 = .ok (.iload 5, 2) := by decide +kernel
theorem dX9_interval_166 : decode cX9_interval 166 = .ok (.invokestatic 71, 3) := by decide +kernel
theorem dX9_interval_169 : decode cX9_interval 169 = .ok (.ireturn, 1) := by decide +kernel
theorem dX9_interval_170 : decode cX9_interval 170 = .ok (.aload_n 0, 1) := by decide +kernel
theorem dX9_interval_171 : decode cX9_interval 171 = .ok (.iload 4, 2) := by decide +kernel
theorem dX9_interval_173 : decode cX9_interval 173 = .ok (.invokevirtual 100, 3) := by decide +kernel
theorem dX9_interval_176 : decode cX9_interval 176 = .ok (.ifCond .eq 7, 3) := by decide +kernel
theorem dX9_interval_179 : decode cX9_interval 179 = .ok (.iconst 1, 1) := by decide +kernel
theorem dX9_interval_180 : decode cX9_interval 180 = .ok (.goto 4, 3) := by decide +kernel
theorem dX9_interval_183 : decode cX9_interval 183 = .ok (.iconst 0, 1) := by decide +kernel
theorem dX9_interval_184 : decode cX9_interval 184 = .ok (.ireturn, 1) := by decide +kernel
theorem dX9_interval_185 : decode cX9_interval 185 = .ok (.aload_n 0, 1) := by decide +kernel
theorem dX9_interval_186 : decode cX9_interval 186 = .ok (.iconst 4, 1) := by decide +kernel
theorem dX9_interval_187 : decode cX9_interval 187 = .ok (.invokevirtual 150, 3) := by decide +kernel
theorem dX9_interval_190 : decode cX9_interval 190 = .ok (.ireturn, 1) := by decide +kernel
theorem dX9_motionFrom_0 : decode cX9_motionFrom 0 = .ok (.aload_n 0, 1) := by decide +kernel
theorem dX9_motionFrom_1 : decode cX9_motionFrom 1 = .ok (.aload_n 0, 1) := by decide +kernel
theorem dX9_motionFrom_2 : decode cX9_motionFrom 2 = .ok (.iload_n 1, 1) := by decide +kernel
theorem dX9_motionFrom_3 : decode cX9_motionFrom 3 = .ok (.iconst 0, 1) := by decide +kernel
theorem dX9_motionFrom_4 : decode cX9_motionFrom 4 = .ok (.invokevirtual 194, 3) := by decide +kernel
theorem dX9_motionFrom_7 : decode cX9_motionFrom 7 = .ok (.invokevirtual 87, 3) := by decide +kernel
theorem dX9_motionFrom_10 : decode cX9_motionFrom 10 = .ok (.istore_n 2, 1) := by decide +kernel
theorem dX9_motionFrom_11 : decode cX9_motionFrom 11 = .ok (.aload_n 0, 1) := by decide +kernel
theorem dX9_motionFrom_12 : decode cX9_motionFrom 12 = .ok (.aload_n 0, 1) := by decide +kernel
theorem dX9_motionFrom_13 : decode cX9_motionFrom 13 = .ok (.iload_n 1, 1) := by decide +kernel
theorem dX9_motionFrom_14 : decode cX9_motionFrom 14 = .ok (.iconst 1, 1) := by decide +kernel
theorem dX9_motionFrom_15 : decode cX9_motionFrom 15 = .ok (.iadd, 1) := by decide +kernel
theorem dX9_motionFrom_16 : decode cX9_motionFrom 16 = .ok (.iconst 0, 1) := by decide +kernel
theorem dX9_motionFrom_17 : decode cX9_motionFrom 17 = .ok (.invokevirtual 194, 3) := by decide +kernel
theorem dX9_motionFrom_20 : decode cX9_motionFrom 20 = .ok (.invokevirtual 87, 3) := by decide +kernel
theorem dX9_motionFrom_23 : decode cX9_motionFrom 23 = .ok (.istore_n 3, 1) := by decide +kernel
theorem dX9_motionFrom_24 : decode cX9_motionFrom 24 = .ok (.iload_n 2, 1) := by decide +kernel
theorem dX9_motionFrom_25 : decode cX9_motionFrom 25 = .ok (.iconst (-1), 1) := by decide +kernel
theorem dX9_motionFrom_26 : decode cX9_motionFrom 26 = .ok (.if_icmp .eq 8, 3) := by decide +kernel
theorem dX9_motionFrom_29 : decode cX9_motionFrom 29 = .ok (.iload_n 3, 1) := by decide +kernel
theorem dX9_motionFrom_30 : decode cX9_motionFrom 30 = .ok (.iconst (-1), 1) := by decide +kernel
theorem dX9_motionFrom_31 : decode cX9_motionFrom 31 = .ok (.if_icmp .ne 5, 3) := by decide +kernel
theorem dX9_motionFrom_34 : decode cX9_motionFrom 34 = .ok (.iconst (-1), 1) := by decide +kernel
theorem dX9_motionFrom_35 : decode cX9_motionFrom 35 = .ok (.ireturn, 1) := by decide +kernel
theorem dX9_motionFrom_36 : decode cX9_motionFrom 36 = .ok (.iload_n 2, 1) := by decide +kernel
theorem dX9_motionFrom_37 : decode cX9_motionFrom 37 = .ok (.iload_n 3, 1) := by decide +kernel
theorem dX9_motionFrom_38 : decode cX9_motionFrom 38 = .ok (.invokestatic 93, 3) := by decide +kernel
theorem dX9_motionFrom_41 : decode cX9_motionFrom 41 = .ok (.istore 4, 2) := by decide +kernel
theorem dX9_motionFrom_43 : decode cX9_motionFrom 43 = .ok (.aload_n 0, 1) := by decide +kernel
theorem dX9_motionFrom_44 : decode cX9_motionFrom 44 = .ok (.iload_n 1, 1) := by decide +kernel
theorem dX9_motionFrom_45 : decode cX9_motionFrom 45 = .ok (.invokevirtual 107, 3) := by decide +kernel
theorem dX9_motionFrom_48 : decode cX9_motionFrom 48 = .ok (.aload_n 0, 1) := by decide +kernel
theorem dX9_motionFrom_49 : decode cX9_motionFrom 49 = .ok (.iload_n 1, 1) := by decide +kernel
theorem dX9_motionFrom_50 : decode cX9_motionFrom 50 = .ok (.iconst 1, 1) := by decide +kernel
theorem dX9_motionFrom_51 : decode cX9_motionFrom 51 = .ok (.iadd, 1) := by decide +kernel
theorem dX9_motionFrom_52 : decode cX9_motionFrom 52 = .ok (.invokevirtual 107, 3) := by decide +kernel
theorem dX9_motionFrom_55 : decode cX9_motionFrom 55 = .ok (.invokestatic 93, 3) := by decide +kernel
theorem dX9_motionFrom_58 : decode cX9_motionFrom 58 = .ok (.istore 5, 2) := by decide +kernel
theorem dX9_motionFrom_60 : decode cX9_motionFrom 60 = .ok (.iload 4, 2) := by decide +kernel
theorem dX9_motionFrom_62 : decode cX9_motionFrom 62 = .ok (.ifCond .ne 10, 3) := by decide +kernel
theorem dX9_motionFrom_65 : decode cX9_motionFrom 65 = .ok (.iload 5, 2) := by decide +kernel
theorem dX9_motionFrom_67 : decode cX9_motionFrom 67 = .ok (.ifCond .ne 5, 3) := by decide +kernel
theorem dX9_motionFrom_70 : decode cX9_motionFrom 70 = .ok (.iconst 0, 1) := by decide +kernel
theorem dX9_motionFrom_71 : decode cX9_motionFrom 71 = .ok (.ireturn, 1) := by decide +kernel
theorem dX9_motionFrom_72 : decode cX9_motionFrom 72 = .ok (.iload 4, 2) := by decide +kernel
theorem dX9_motionFrom_74 : decode cX9_motionFrom 74 = .ok (.ifCond .eq 8, 3) := by decide +kernel
theorem dX9_motionFrom_77 : decode cX9_motionFrom 77 = .ok (.iload 5, 2) := by decide +kernel
theorem dX9_motionFrom_79 : decode cX9_motionFrom 79 = .ok (.ifCond .ne 5, 3) := by decide +kernel
theorem dX9_motionFrom_82 : decode cX9_motionFrom 82 = .ok (.iconst 1, 1) := by decide +kernel
theorem dX9_motionFrom_83 : decode cX9_motionFrom 83 = .ok (.ireturn, 1) := by decide +kernel
theorem dX9_motionFrom_84 : decode cX9_motionFrom 84 = .ok (.iload 4, 2) := by decide +kernel
theorem dX9_motionFrom_86 : decode cX9_motionFrom 86 = .ok (.iload 5, 2) := by decide +kernel
theorem dX9_motionFrom_88 : decode cX9_motionFrom 88 = .ok (.if_icmp .eq 7, 3) := by decide +kernel
theorem dX9_motionFrom_91 : decode cX9_motionFrom 91 = .ok (.iconst 2, 1) := by decide +kernel
theorem dX9_motionFrom_92 : decode cX9_motionFrom 92 = .ok (.goto 31, 3) := by decide +kernel
theorem dX9_motionFrom_95 : decode cX9_motionFrom 95 = .ok (.iload_n 2, 1) := by decide +kernel
theorem dX9_motionFrom_96 : decode cX9_motionFrom 96 = .ok (.iload_n 3, 1) := by decide +kernel
theorem dX9_motionFrom_97 : decode cX9_motionFrom 97 = .ok (.invokestatic 68, 3) := by decide +kernel
theorem dX9_motionFrom_100 : decode cX9_motionFrom 100 = .ok (.aload_n 0, 1) := by decide +kernel
theorem dX9_motionFrom_101 : decode cX9_motionFrom 101 = .ok (.iload_n 1, 1) := by decide +kernel
theorem dX9_motionFrom_102 : decode cX9_motionFrom 102 = .ok (.invokevirtual 107, 3) := by decide +kernel
theorem dX9_motionFrom_105 : decode cX9_motionFrom 105 = .ok (.aload_n 0, 1) := by decide +kernel
theorem dX9_motionFrom_106 : decode cX9_motionFrom 106 = .ok (.iload_n 1, 1) := by decide +kernel
theorem dX9_motionFrom_107 : decode cX9_motionFrom 107 = .ok (.iconst 1, 1) := by decide +kernel
theorem dX9_motionFrom_108 : decode cX9_motionFrom 108 = .ok (.iadd, 1) := by decide +kernel
theorem dX9_motionFrom_109 : decode cX9_motionFrom 109 = .ok (.invokevirtual 107, 3) := by decide +kernel
theorem dX9_motionFrom_112 : decode cX9_motionFrom 112 = .ok (.invokestatic 68, 3) := by decide +kernel
theorem dX9_motionFrom_115 : decode cX9_motionFrom 115 = .ok (.if_icmp .ne 7, 3) := by decide +kernel
theorem dX9_motionFrom_118 : decode cX9_motionFrom 118 = .ok (.iconst 4, 1) := by decide +kernel
theorem dX9_motionFrom_119 : decode cX9_motionFrom 119 = .ok (.goto 4, 3) := by decide +kernel
theorem dX9_motionFrom_122 : decode cX9_motionFrom 122 = .ok (.iconst 3, 1) := by decide +kernel
theorem dX9_motionFrom_123 : decode cX9_motionFrom 123 = .ok (.ireturn, 1) := by decide +kernel
theorem dX9_motion_0 : decode cX9_motion 0 = .ok (.aload_n 0, 1) := by decide +kernel
theorem dX9_motion_1 : decode cX9_motion 1 = .ok (.iconst 0, 1) := by decide +kernel
theorem dX9_motion_2 : decode cX9_motion 2 = .ok (.putfield 41, 3) := by decide +kernel
theorem dX9_motion_5 : decode cX9_motion 5 = .ok (.aload_n 0, 1) := by decide +kernel
theorem dX9_motion_6 : decode cX9_motion 6 = .ok (.invokevirtual 190, 3) := by decide +kernel
theorem dX9_motion_9 : decode cX9_motion 9 = .ok (.ifCond .ne 9, 3) := by decide +kernel
theorem dX9_motion_12 : decode cX9_motion 12 = .ok (.aload_n 0, 1) := by decide +kernel
theorem dX9_motion_13 : decode cX9_motion 13 = .ok (.iconst 1, 1) := by decide +kernel
theorem dX9_motion_14 : decode cX9_motion 14 = .ok (.invokevirtual 150, 3) := by decide +kernel
theorem dX9_motion_17 : decode cX9_motion 17 = .ok (.ireturn, 1) := by decide +kernel
theorem dX9_motion_18 : decode cX9_motion 18 = .ok (.iload_n 1, 1) := by decide +kernel
theorem dX9_motion_19 : decode cX9_motion 19 = .ok (.iconst 0, 1) := by decide +kernel
theorem dX9_motion_20 : decode cX9_motion 20 = .ok (.aload_n 0, 1) := by decide +kernel
theorem dX9_motion_21 : decode cX9_motion 21 = .ok (.getfield 9, 3) := by decide +kernel
theorem dX9_motion_24 : decode cX9_motion 24 = .ok (.iconst 0, 1) := by decide +kernel
theorem dX9_motion_25 : decode cX9_motion 25 = .ok (.iaload, 1) := by decide +kernel
theorem dX9_motion_26 : decode cX9_motion 26 = .ok (.iconst 2, 1) := by decide +kernel
theorem dX9_motion_27 : decode cX9_motion 27 = .ok (.isub, 1) := by decide +kernel
theorem dX9_motion_28 : decode cX9_motion 28 = .ok (.invokestatic 74, 3) := by decide +kernel
theorem dX9_motion_31 : decode cX9_motion 31 = .ok (.ifCond .ne 9, 3) := by decide +kernel
theorem dX9_motion_34 : decode cX9_motion 34 = .ok (.aload_n 0, 1) := by decide +kernel
theorem dX9_motion_35 : decode cX9_motion 35 = .ok (.iconst 2, 1) := by decide +kernel
theorem dX9_motion_36 : decode cX9_motion 36 = .ok (.invokevirtual 150, 3) := by decide +kernel
theorem dX9_motion_39 : decode cX9_motion 39 = .ok (.ireturn, 1) := by decide +kernel
theorem dX9_motion_40 : decode cX9_motion 40 = .ok (.aload_n 0, 1) := by decide +kernel
theorem dX9_motion_41 : decode cX9_motion 41 = .ok (.iload_n 1, 1) := by decide +kernel
theorem dX9_motion_42 : decode cX9_motion 42 = .ok (.invokevirtual 210, 3) := by decide +kernel
theorem dX9_motion_45 : decode cX9_motion 45 = .ok (.istore_n 2, 1) := by decide +kernel
theorem dX9_motion_46 : decode cX9_motion 46 = .ok (.iload_n 2, 1) := by decide +kernel
theorem dX9_motion_47 : decode cX9_motion 47 = .ok (.iconst (-1), 1) := by decide +kernel
theorem dX9_motion_48 : decode cX9_motion 48 = .ok (.if_icmp .ne 11, 3) := by decide +kernel
theorem dX9_motion_51 : decode cX9_motion 51 = .ok (.aload_n 0, 1) := by decide +kernel
theorem dX9_motion_52 : decode cX9_motion 52 = .ok (.iconst 3, 1) := by decide +kernel
theorem dX9_motion_53 : decode cX9_motion 53 = .ok (.invokevirtual 150, 3) := by decide +kernel
theorem dX9_motion_56 : decode cX9_motion 56 = .ok (.goto 4, 3) := by decide +kernel
theorem dX9_motion_59 : decode cX9_motion 59 = .ok (.iload_n 2, 1) := by decide +kernel
theorem dX9_motion_60 : decode cX9_motion 60 = .ok (.ireturn, 1) := by decide +kernel
theorem dX9_motionsOf_0 : decode cX9_motionsOf 0 = .ok (.iconst 0, 1) := by decide +kernel
theorem dX9_motionsOf_1 : decode cX9_motionsOf 1 = .ok (.istore_n 2, 1) := by decide +kernel
theorem dX9_motionsOf_2 : decode cX9_motionsOf 2 = .ok (.iconst 0, 1) := by decide +kernel
theorem dX9_motionsOf_3 : decode cX9_motionsOf 3 = .ok (.istore_n 3, 1) := by decide +kernel
theorem dX9_motionsOf_4 : decode cX9_motionsOf 4 = .ok (.iload_n 3, 1) := by decide +kernel
theorem dX9_motionsOf_5 : decode cX9_motionsOf 5 = .ok (.aload_n 0, 1) := by decide +kernel
theorem dX9_motionsOf_6 : decode cX9_motionsOf 6 = .ok (.getfield 9, 3) := by decide +kernel
theorem dX9_motionsOf_9 : decode cX9_motionsOf 9 = .ok (.iconst 0, 1) := by decide +kernel
theorem dX9_motionsOf_10 : decode cX9_motionsOf 10 = .ok (.iaload, 1) := by decide +kernel
theorem dX9_motionsOf_11 : decode cX9_motionsOf 11 = .ok (.iconst 1, 1) := by decide +kernel
theorem dX9_motionsOf_12 : decode cX9_motionsOf 12 = .ok (.isub, 1) := by decide +kernel
theorem dX9_motionsOf_13 : decode cX9_motionsOf 13 = .ok (.if_icmp .ge 36, 3) := by decide +kernel
theorem dX9_motionsOf_16 : decode cX9_motionsOf 16 = .ok (.aload_n 0, 1) := by decide +kernel
theorem dX9_motionsOf_17 : decode cX9_motionsOf 17 = .ok (.iload_n 3, 1) := by decide +kernel
theorem dX9_motionsOf_18 : decode cX9_motionsOf 18 = .ok (.invokevirtual 210, 3) := by decide +kernel
theorem dX9_motionsOf_21 : decode cX9_motionsOf 21 = .ok (.istore 4, 2) := by decide +kernel
theorem dX9_motionsOf_23 : decode cX9_motionsOf 23 = .ok (.iload 4, 2) := by decide +kernel
theorem dX9_motionsOf_25 : decode cX9_motionsOf 25 = .ok (.iconst (-1), 1) := by decide +kernel
theorem dX9_motionsOf_26 : decode cX9_motionsOf 26 = .ok (.if_icmp .eq 17, 3) := by decide +kernel
theorem dX9_motionsOf_29 : decode cX9_motionsOf 29 = .ok (.iload_n 1, 1) := by decide +kernel
theorem dX9_motionsOf_30 : decode cX9_motionsOf 30 = .ok (.iconst (-1), 1) := by decide +kernel
theorem dX9_motionsOf_31 : decode cX9_motionsOf 31 = .ok (.if_icmp .eq 9, 3) := by decide +kernel
theorem dX9_motionsOf_34 : decode cX9_motionsOf 34 = .ok (.iload 4, 2) := by decide +kernel
theorem dX9_motionsOf_36 : decode cX9_motionsOf 36 = .ok (.iload_n 1, 1) := by decide +kernel
theorem dX9_motionsOf_37 : decode cX9_motionsOf 37 = .ok (.if_icmp .ne 6, 3) := by decide +kernel
theorem dX9_motionsOf_40 : decode cX9_motionsOf 40 = .ok (.iinc 2 1, 3) := by decide +kernel
theorem dX9_motionsOf_43 : decode cX9_motionsOf 43 = .ok (.iinc 3 1, 3) := by decide +kernel
theorem dX9_motionsOf_46 : decode cX9_motionsOf 46 = .ok (.goto (-42), 3) := by decide +kernel
theorem dX9_motionsOf_49 : decode cX9_motionsOf 49 = .ok (.iload_n 2, 1) := by decide +kernel
theorem dX9_motionsOf_50 : decode cX9_motionsOf 50 = .ok (.ireturn, 1) := by decide +kernel
theorem dX9_motions_0 : decode cX9_motions 0 = .ok (.aload_n 0, 1) := by decide +kernel
theorem dX9_motions_1 : decode cX9_motions 1 = .ok (.iconst 0, 1) := by decide +kernel
theorem dX9_motions_2 : decode cX9_motions 2 = .ok (.putfield 41, 3) := by decide +kernel
theorem dX9_motions_5 : decode cX9_motions 5 = .ok (.aload_n 0, 1) := by decide +kernel
theorem dX9_motions_6 : decode cX9_motions 6 = .ok (.invokevirtual 190, 3) := by decide +kernel
theorem dX9_motions_9 : decode cX9_motions 9 = .ok (.ifCond .ne 9, 3) := by decide +kernel
theorem dX9_motions_12 : decode cX9_motions 12 = .ok (.aload_n 0, 1) := by decide +kernel
theorem dX9_motions_13 : decode cX9_motions 13 = .ok (.iconst 1, 1) := by decide +kernel
theorem dX9_motions_14 : decode cX9_motions 14 = .ok (.invokevirtual 150, 3) := by decide +kernel
theorem dX9_motions_17 : decode cX9_motions 17 = .ok (.ireturn, 1) := by decide +kernel
theorem dX9_motions_18 : decode cX9_motions 18 = .ok (.iload_n 1, 1) := by decide +kernel
theorem dX9_motions_19 : decode cX9_motions 19 = .ok (.iconst 0, 1) := by decide +kernel
theorem dX9_motions_20 : decode cX9_motions 20 = .ok (.iconst 4, 1) := by decide +kernel
theorem dX9_motions_21 : decode cX9_motions 21 = .ok (.invokestatic 74, 3) := by decide +kernel
theorem dX9_motions_24 : decode cX9_motions 24 = .ok (.ifCond .eq 11, 3) := by decide +kernel
theorem dX9_motions_27 : decode cX9_motions 27 = .ok (.aload_n 0, 1) := by decide +kernel
theorem dX9_motions_28 : decode cX9_motions 28 = .ok (.iload_n 1, 1) := by decide +kernel
theorem dX9_motions_29 : decode cX9_motions 29 = .ok (.invokevirtual 213, 3) := by decide +kernel
theorem dX9_motions_32 : decode cX9_motions 32 = .ok (.goto 8, 3) := by decide +kernel
theorem dX9_motions_35 : decode cX9_motions 35 = .ok (.aload_n 0, 1) := by decide +kernel
theorem dX9_motions_36 : decode cX9_motions 36 = .ok (.iconst 2, 1) := by decide +kernel
theorem dX9_motions_37 : decode cX9_motions 37 = .ok (.invokevirtual 150, 3) := by decide +kernel
theorem dX9_motions_40 : decode cX9_motions 40 = .ok (.ireturn, 1) := by decide +kernel
theorem dX9_contraryBits_0 : decode cX9_contraryBits 0 = .ok (.aload_n 0, 1) := by decide +kernel
theorem dX9_contraryBits_1 : decode cX9_contraryBits 1 = .ok (.iconst 0, 1) := by decide +kernel
theorem dX9_contraryBits_2 : decode cX9_contraryBits 2 = .ok (.putfield 41, 3) := by decide +kernel
theorem dX9_contraryBits_5 : decode cX9_contraryBits 5 = .ok (.aload_n 0, 1) := by decide +kernel
theorem dX9_contraryBits_6 : decode cX9_contraryBits 6 = .ok (.invokevirtual 190, 3) := by decide +kernel
theorem dX9_contraryBits_9 : decode cX9_contraryBits 9 = .ok (.ifCond .ne 9, 3) := by decide +kernel
theorem dX9_contraryBits_12 : decode cX9_contraryBits 12 = .ok (.aload_n 0, 1) := by decide +kernel
theorem dX9_contraryBits_13 : decode cX9_contraryBits 13 = .ok (.iconst 1, 1) := by decide +kernel
theorem dX9_contraryBits_14 : decode cX9_contraryBits 14 = .ok (.invokevirtual 150, 3) := by decide +kernel
theorem dX9_contraryBits_17 : decode cX9_contraryBits 17 = .ok (.ireturn, 1) := by decide +kernel
theorem dX9_contraryBits_18 : decode cX9_contraryBits 18 = .ok (.aload_n 0, 1) := by decide +kernel
theorem dX9_contraryBits_19 : decode cX9_contraryBits 19 = .ok (.iconst (-1), 1) := by decide +kernel
theorem dX9_contraryBits_20 : decode cX9_contraryBits 20 = .ok (.invokevirtual 213, 3) := by decide +kernel
theorem dX9_contraryBits_23 : decode cX9_contraryBits 23 = .ok (.istore_n 1, 1) := by decide +kernel
theorem dX9_contraryBits_24 : decode cX9_contraryBits 24 = .ok (.iload_n 1, 1) := by decide +kernel
theorem dX9_contraryBits_25 : decode cX9_contraryBits 25 = .ok (.ifCond .ne 11, 3) := by decide +kernel
theorem dX9_contraryBits_28 : decode cX9_contraryBits 28 = .ok (.aload_n 0, 1) := by decide +kernel
theorem dX9_contraryBits_29 : decode cX9_contraryBits 29 = .ok (.iconst 2, 1) := by decide +kernel
theorem dX9_contraryBits_30 : decode cX9_contraryBits 30 = .ok (.invokevirtual 150, 3) := by decide +kernel
theorem dX9_contraryBits_33 : decode cX9_contraryBits 33 = .ok (.goto 15, 3) := by decide +kernel
theorem dX9_contraryBits_36 : decode cX9_contraryBits 36 = .ok (.aload_n 0, 1) := by decide +kernel
theorem dX9_contraryBits_37 : decode cX9_contraryBits 37 = .ok (.iconst 2, 1) := by decide +kernel
theorem dX9_contraryBits_38 : decode cX9_contraryBits 38 = .ok (.invokevirtual 213, 3) := by decide +kernel
theorem dX9_contraryBits_41 : decode cX9_contraryBits 41 = .ok (.i2f, 1) := by decide +kernel
theorem dX9_contraryBits_42 : decode cX9_contraryBits 42 = .ok (.iload_n 1, 1) := by decide +kernel
theorem dX9_contraryBits_43 : decode cX9_contraryBits 43 = .ok (.i2f, 1) := by decide +kernel
theorem dX9_contraryBits_44 : decode cX9_contraryBits 44 = .ok (.fdiv, 1) := by decide +kernel
theorem dX9_contraryBits_45 : decode cX9_contraryBits 45 = .ok (.invokestatic 216, 3) := by decide +kernel
theorem dX9_contraryBits_48 : decode cX9_contraryBits 48 = .ok (.ireturn, 1) := by decide +kernel
theorem dX9_meanBits_0 : decode cX9_meanBits 0 = .ok (.aload_n 0, 1) := by decide +kernel
theorem dX9_meanBits_1 : decode cX9_meanBits 1 = .ok (.iconst 0, 1) := by decide +kernel
theorem dX9_meanBits_2 : decode cX9_meanBits 2 = .ok (.putfield 41, 3) := by decide +kernel
theorem dX9_meanBits_5 : decode cX9_meanBits 5 = .ok (.aload_n 0, 1) := by decide +kernel
theorem dX9_meanBits_6 : decode cX9_meanBits 6 = .ok (.invokevirtual 190, 3) := by decide +kernel
theorem dX9_meanBits_9 : decode cX9_meanBits 9 = .ok (.ifCond .ne 10, 3) := by decide +kernel
theorem dX9_meanBits_12 : decode cX9_meanBits 12 = .ok (.aload_n 0, 1) := by decide +kernel
theorem dX9_meanBits_13 : decode cX9_meanBits 13 = .ok (.iconst 1, 1) := by decide +kernel
theorem dX9_meanBits_14 : decode cX9_meanBits 14 = .ok (.invokevirtual 150, 3) := by decide +kernel
theorem dX9_meanBits_17 : decode cX9_meanBits 17 = .ok (.i2l, 1) := by decide +kernel
theorem dX9_meanBits_18 : decode cX9_meanBits 18 = .ok (.lreturn, 1) := by decide +kernel
theorem dX9_meanBits_19 : decode cX9_meanBits 19 = .ok (.iconst 0, 1) := by decide +kernel
theorem dX9_meanBits_20 : decode cX9_meanBits 20 = .ok (.istore_n 1, 1) := by decide +kernel
theorem dX9_meanBits_21 : decode cX9_meanBits 21 = .ok (.iconst 0, 1) := by decide +kernel
theorem dX9_meanBits_22 : decode cX9_meanBits 22 = .ok (.istore_n 2, 1) := by decide +kernel
theorem dX9_meanBits_23 : decode cX9_meanBits 23 = .ok (.iconst 0, 1) := by decide +kernel
theorem dX9_meanBits_24 : decode cX9_meanBits 24 = .ok (.istore_n 3, 1) := by decide +kernel
theorem dX9_meanBits_25 : decode cX9_meanBits 25 = .ok (.iload_n 3, 1) := by decide +kernel
theorem dX9_meanBits_26 : decode cX9_meanBits 26 = .ok (.aload_n 0, 1) := by decide +kernel
theorem dX9_meanBits_27 : decode cX9_meanBits 27 = .ok (.getfield 9, 3) := by decide +kernel
theorem dX9_meanBits_30 : decode cX9_meanBits 30 = .ok (.iconst 1, 1) := by decide +kernel
theorem dX9_meanBits_31 : decode cX9_meanBits 31 = .ok (.iaload, 1) := by decide +kernel
theorem dX9_meanBits_32 : decode cX9_meanBits 32 = .ok (.if_icmp .ge 44, 3) := by decide +kernel
theorem dX9_meanBits_35 : decode cX9_meanBits 35 = .ok (.aload_n 0, 1) := by decide +kernel
theorem dX9_meanBits_36 : decode cX9_meanBits 36 = .ok (.iload_n 3, 1) := by decide +kernel
theorem dX9_meanBits_37 : decode cX9_meanBits 37 = .ok (.invokevirtual 87, 3) := by decide +kernel
theorem dX9_meanBits_40 : decode cX9_meanBits 40 = .ok (.iconst (-1), 1) := by decide +kernel
theorem dX9_meanBits_41 : decode cX9_meanBits 41 = .ok (.if_icmp .ne 6, 3) := by decide +kernel
theorem dX9_meanBits_44 : decode cX9_meanBits 44 = .ok (.goto 26, 3) := by decide +kernel
theorem dX9_meanBits_47 : decode cX9_meanBits 47 = .ok (.iload_n 1, 1) := by decide +kernel
theorem dX9_meanBits_48 : decode cX9_meanBits 48 = .ok (.aload_n 0, 1) := by decide +kernel
theorem dX9_meanBits_49 : decode cX9_meanBits 49 = .ok (.iload_n 3, 1) := by decide +kernel
theorem dX9_meanBits_50 : decode cX9_meanBits 50 = .ok (.invokevirtual 87, 3) := by decide +kernel
theorem dX9_meanBits_53 : decode cX9_meanBits 53 = .ok (.aload_n 0, 1) := by decide +kernel
theorem dX9_meanBits_54 : decode cX9_meanBits 54 = .ok (.aload_n 0, 1) := by decide +kernel
theorem dX9_meanBits_55 : decode cX9_meanBits 55 = .ok (.iload_n 3, 1) := by decide +kernel
theorem dX9_meanBits_56 : decode cX9_meanBits 56 = .ok (.invokevirtual 104, 3) := by decide +kernel
theorem dX9_meanBits_59 : decode cX9_meanBits 59 = .ok (.invokevirtual 107, 3) := by decide +kernel
theorem dX9_meanBits_62 : decode cX9_meanBits 62 = .ok (.invokestatic 68, 3) := by decide +kernel
theorem dX9_meanBits_65 : decode cX9_meanBits 65 = .ok (.iadd, 1) := by decide +kernel
theorem dX9_meanBits_66 : decode cX9_meanBits 66 = .ok (.istore_n 1, 1) := by decide +kernel
theorem dX9_meanBits_67 : decode cX9_meanBits 67 = .ok (.iinc 2 1, 3) := by decide +kernel
theorem dX9_meanBits_70 : decode cX9_meanBits 70 = .ok (.iinc 3 1, 3) := by decide +kernel
theorem dX9_meanBits_73 : decode cX9_meanBits 73 = .ok (.goto (-48), 3) := by decide +kernel
theorem dX9_meanBits_76 : decode cX9_meanBits 76 = .ok (.iload_n 1, 1) := by decide +kernel
theorem dX9_meanBits_77 : decode cX9_meanBits 77 = .ok (.i2d, 1) := by decide +kernel
theorem dX9_meanBits_78 : decode cX9_meanBits 78 = .ok (.iload_n 2, 1) := by decide +kernel
theorem dX9_meanBits_79 : decode cX9_meanBits 79 = .ok (.i2d, 1) := by decide +kernel
theorem dX9_meanBits_80 : decode cX9_meanBits 80 = .ok (.ddiv, 1) := by decide +kernel
theorem dX9_meanBits_81 : decode cX9_meanBits 81 = .ok (.invokestatic 222, 3) := by decide +kernel
theorem dX9_meanBits_84 : decode cX9_meanBits 84 = .ok (.lreturn, 1) := by decide +kernel
theorem dX9_setWeight_0 : decode cX9_setWeight 0 = .ok (.aload_n 0, 1) := by decide +kernel
theorem dX9_setWeight_1 : decode cX9_setWeight 1 = .ok (.iconst 0, 1) := by decide +kernel
theorem dX9_setWeight_2 : decode cX9_setWeight 2 = .ok (.putfield 41, 3) := by decide +kernel
theorem dX9_setWeight_5 : decode cX9_setWeight 5 = .ok (.iload_n 1, 1) := by decide +kernel
theorem dX9_setWeight_6 : decode cX9_setWeight 6 = .ok (.iconst 1, 1) := by decide +kernel
theorem dX9_setWeight_7 : decode cX9_setWeight 7 = .ok (.bipush 16, 2) := by decide +kernel
theorem dX9_setWeight_9 : decode cX9_setWeight 9 = .ok (.invokestatic 74, 3) := by decide +kernel
theorem dX9_setWeight_12 : decode cX9_setWeight 12 = .ok (.ifCond .ne 9, 3) := by decide +kernel
theorem dX9_setWeight_15 : decode cX9_setWeight 15 = .ok (.aload_n 0, 1) := by decide +kernel
theorem dX9_setWeight_16 : decode cX9_setWeight 16 = .ok (.iconst 1, 1) := by decide +kernel
theorem dX9_setWeight_17 : decode cX9_setWeight 17 = .ok (.invokevirtual 150, 3) := by decide +kernel
theorem dX9_setWeight_20 : decode cX9_setWeight 20 = .ok (.ireturn, 1) := by decide +kernel
theorem dX9_setWeight_21 : decode cX9_setWeight 21 = .ok (.iload_n 2, 1) := by decide +kernel
theorem dX9_setWeight_22 : decode cX9_setWeight 22 = .ok (.iconst 0, 1) := by decide +kernel
theorem dX9_setWeight_23 : decode cX9_setWeight 23 = .ok (.bipush 9, 2) := by decide +kernel
theorem dX9_setWeight_25 : decode cX9_setWeight 25 = .ok (.invokestatic 74, 3) := by decide +kernel
theorem dX9_setWeight_28 : decode cX9_setWeight 28 = .ok (.ifCond .eq 15, 3) := by decide +kernel
theorem dX9_setWeight_31 : decode cX9_setWeight 31 = .ok (.aload_n 0, 1) := by decide +kernel
theorem dX9_setWeight_32 : decode cX9_setWeight 32 = .ok (.bipush 6, 2) := by decide +kernel
theorem dX9_setWeight_34 : decode cX9_setWeight 34 = .ok (.iload_n 1, 1) := by decide +kernel
theorem dX9_setWeight_35 : decode cX9_setWeight 35 = .ok (.iadd, 1) := by decide +kernel
theorem dX9_setWeight_36 : decode cX9_setWeight 36 = .ok (.iload_n 2, 1) := by decide +kernel
theorem dX9_setWeight_37 : decode cX9_setWeight 37 = .ok (.invokevirtual 187, 3) := by decide +kernel
theorem dX9_setWeight_40 : decode cX9_setWeight 40 = .ok (.goto 8, 3) := by decide +kernel
theorem dX9_setWeight_43 : decode cX9_setWeight 43 = .ok (.aload_n 0, 1) := by decide +kernel
theorem dX9_setWeight_44 : decode cX9_setWeight 44 = .ok (.iconst 2, 1) := by decide +kernel
theorem dX9_setWeight_45 : decode cX9_setWeight 45 = .ok (.invokevirtual 150, 3) := by decide +kernel
theorem dX9_setWeight_48 : decode cX9_setWeight 48 = .ok (.ireturn, 1) := by decide +kernel
theorem dX9_ruleAt_0 : decode cX9_ruleAt 0 = .ok (.iconst 0, 1) := by decide +kernel
theorem dX9_ruleAt_1 : decode cX9_ruleAt 1 = .ok (.istore_n 3, 1) := by decide +kernel
theorem dX9_ruleAt_2 : decode cX9_ruleAt 2 = .ok (.iconst 1, 1) := by decide +kernel
theorem dX9_ruleAt_3 : decode cX9_ruleAt 3 = .ok (.istore 4, 2) := by decide +kernel
theorem dX9_ruleAt_5 : decode cX9_ruleAt 5 = .ok (.iload 4, 2) := by decide +kernel
theorem dX9_ruleAt_7 : decode cX9_ruleAt 7 = .ok (.bipush 16, 2) := by decide +kernel
theorem dX9_ruleAt_9 : decode cX9_ruleAt 9 = .ok (.if_icmp .gt 95, 3) := by decide +kernel
theorem dX9_ruleAt_12 : decode cX9_ruleAt 12 = .ok (.ldc 228, 2) := by decide +kernel
theorem dX9_ruleAt_14 : decode cX9_ruleAt 14 = .ok (.bipush 44, 2) := by decide +kernel
theorem dX9_ruleAt_16 : decode cX9_ruleAt 16 = .ok (.iload_n 3, 1) := by decide +kernel
theorem dX9_ruleAt_17 : decode cX9_ruleAt 17 = .ok (.invokevirtual 230, 3) := by decide +kernel
theorem dX9_ruleAt_20 : decode cX9_ruleAt 20 = .ok (.istore 5, 2) := by decide +kernel
theorem dX9_ruleAt_22 : decode cX9_ruleAt 22 = .ok (.iload 5, 2) := by decide +kernel
theorem dX9_ruleAt_24 : decode cX9_ruleAt 24 = .ok (.iload_n 3, 1) := by decide +kernel
theorem dX9_ruleAt_25 : decode cX9_ruleAt 25 = .ok (.isub, 1) := by decide +kernel
theorem dX9_ruleAt_26 : decode cX9_ruleAt 26 = .ok (.iload_n 2, 1) := by decide +kernel
theorem dX9_ruleAt_27 : decode cX9_ruleAt 27 = .ok (.if_icmp .ne 7, 3) := by decide +kernel
theorem dX9_ruleAt_30 : decode cX9_ruleAt 30 = .ok (.iconst 1, 1) := by decide +kernel
theorem dX9_ruleAt_31 : decode cX9_ruleAt 31 = .ok (.goto 4, 3) := by decide +kernel
theorem dX9_ruleAt_34 : decode cX9_ruleAt 34 = .ok (.iconst 0, 1) := by decide +kernel
theorem dX9_ruleAt_35 : decode cX9_ruleAt 35 = .ok (.istore 6, 2) := by decide +kernel
theorem dX9_ruleAt_37 : decode cX9_ruleAt 37 = .ok (.iconst 0, 1) := by decide +kernel
theorem dX9_ruleAt_38 : decode cX9_ruleAt 38 = .ok (.istore 7, 2) := by decide +kernel
theorem dX9_ruleAt_40 : decode cX9_ruleAt 40 = .ok (.iload 7, 2) := by decide +kernel
theorem dX9_ruleAt_42 : decode cX9_ruleAt 42 = .ok (.iload_n 2, 1) := by decide +kernel
theorem dX9_ruleAt_43 : decode cX9_ruleAt 43 = .ok (.if_icmp .ge 42, 3) := by decide +kernel
theorem dX9_ruleAt_46 : decode cX9_ruleAt 46 = .ok (.iload 6, 2) := by decide +kernel
theorem dX9_ruleAt_48 : decode cX9_ruleAt 48 = .ok (.ifCond .eq 37, 3) := by decide +kernel
theorem dX9_ruleAt_51 : decode cX9_ruleAt 51 = .ok (.aload_n 0, 1) := by decide +kernel
theorem dX9_ruleAt_52 : decode cX9_ruleAt 52 = .ok (.getfield 19, 3) := by decide +kernel
theorem dX9_ruleAt_55 : decode cX9_ruleAt 55 = .ok (.iload_n 1, 1) := by decide +kernel
theorem dX9_ruleAt_56 : decode cX9_ruleAt 56 = .ok (.iload 7, 2) := by decide +kernel
theorem dX9_ruleAt_58 : decode cX9_ruleAt 58 = .ok (.iadd, 1) := by decide +kernel
theorem dX9_ruleAt_59 : decode cX9_ruleAt 59 = .ok (.iaload, 1) := by decide +kernel
theorem dX9_ruleAt_60 : decode cX9_ruleAt 60 = .ok (.ldc 228, 2) := by decide +kernel
theorem dX9_ruleAt_62 : decode cX9_ruleAt 62 = .ok (.iload_n 3, 1) := by decide +kernel
theorem dX9_ruleAt_63 : decode cX9_ruleAt 63 = .ok (.iload 7, 2) := by decide +kernel
theorem dX9_ruleAt_65 : decode cX9_ruleAt 65 = .ok (.iadd, 1) := by decide +kernel
theorem dX9_ruleAt_66 : decode cX9_ruleAt 66 = .ok (.invokevirtual 200, 3) := by decide +kernel
theorem dX9_ruleAt_69 : decode cX9_ruleAt 69 = .ok (.if_icmp .ne 7, 3) := by decide +kernel
theorem dX9_ruleAt_72 : decode cX9_ruleAt 72 = .ok (.iconst 1, 1) := by decide +kernel
theorem dX9_ruleAt_73 : decode cX9_ruleAt 73 = .ok (.goto 4, 3) := by decide +kernel
theorem dX9_ruleAt_76 : decode cX9_ruleAt 76 = .ok (.iconst 0, 1) := by decide +kernel
theorem dX9_ruleAt_77 : decode cX9_ruleAt 77 = .ok (.istore 6, 2) := by decide +kernel
theorem dX9_ruleAt_79 : decode cX9_ruleAt 79 = .ok (.iinc 7 1, 3) := by decide +kernel
theorem dX9_ruleAt_82 : decode cX9_ruleAt 82 = .ok (.goto (-42), 3) := by decide +kernel
theorem dX9_ruleAt_85 : decode cX9_ruleAt 85 = .ok (.iload 6, 2) := by decide +kernel
theorem dX9_ruleAt_87 : decode cX9_ruleAt 87 = .ok (.ifCond .eq 6, 3) := by decide +kernel
theorem dX9_ruleAt_90 : decode cX9_ruleAt 90 = .ok (.iload 4, 2) := by decide +kernel
theorem dX9_ruleAt_92 : decode cX9_ruleAt 92 = .ok (.ireturn, 1) := by decide +kernel
theorem dX9_ruleAt_93 : decode cX9_ruleAt 93 = .ok (.iload 5, 2) := by decide +kernel
theorem dX9_ruleAt_95 : decode cX9_ruleAt 95 = .ok (.iconst 1, 1) := by decide +kernel
theorem dX9_ruleAt_96 : decode cX9_ruleAt 96 = .ok (.iadd, 1) := by decide +kernel
theorem dX9_ruleAt_97 : decode cX9_ruleAt 97 = .ok (.istore_n 3, 1) := by decide +kernel
theorem dX9_ruleAt_98 : decode cX9_ruleAt 98 = .ok (.iinc 4 1, 3) := by decide +kernel
theorem dX9_ruleAt_101 : decode cX9_ruleAt 101 = .ok (.goto (-96), 3) := by decide +kernel
theorem dX9_ruleAt_104 : decode cX9_ruleAt 104 = .ok (.iconst 0, 1) := by decide +kernel
theorem dX9_ruleAt_105 : decode cX9_ruleAt 105 = .ok (.ireturn, 1) := by decide +kernel
theorem dX9_named_0 : decode cX9_named 0 = .ok (.aload_n 0, 1) := by decide +kernel
theorem dX9_named_1 : decode cX9_named 1 = .ok (.iconst 0, 1) := by decide +kernel
theorem dX9_named_2 : decode cX9_named 2 = .ok (.putfield 156, 3) := by decide +kernel
theorem dX9_named_5 : decode cX9_named 5 = .ok (.iconst 0, 1) := by decide +kernel
theorem dX9_named_6 : decode cX9_named 6 = .ok (.istore_n 2, 1) := by decide +kernel
theorem dX9_named_7 : decode cX9_named 7 = .ok (.aload_n 0, 1) := by decide +kernel
theorem dX9_named_8 : decode cX9_named 8 = .ok (.getfield 156, 3) := by decide +kernel
theorem dX9_named_11 : decode cX9_named 11 = .ok (.istore_n 3, 1) := by decide +kernel
theorem dX9_named_12 : decode cX9_named 12 = .ok (.aload_n 0, 1) := by decide +kernel
theorem dX9_named_13 : decode cX9_named 13 = .ok (.invokevirtual 159, 3) := by decide +kernel
theorem dX9_named_16 : decode cX9_named 16 = .ok (.bipush 97, 2) := by decide +kernel
theorem dX9_named_18 : decode cX9_named 18 = .ok (.bipush 122, 2) := by decide +kernel
theorem dX9_named_20 : decode cX9_named 20 = .ok (.invokestatic 74, 3) := by decide +kernel
theorem dX9_named_23 : decode cX9_named 23 = .ok (.ifCond .eq 16, 3) := by decide +kernel
theorem dX9_named_26 : decode cX9_named 26 = .ok (.aload_n 0, 1) := by decide +kernel
theorem dX9_named_27 : decode cX9_named 27 = .ok (.dup, 1) := by decide +kernel
theorem dX9_named_28 : decode cX9_named 28 = .ok (.getfield 156, 3) := by decide +kernel
theorem dX9_named_31 : decode cX9_named 31 = .ok (.iconst 1, 1) := by decide +kernel
theorem dX9_named_32 : decode cX9_named 32 = .ok (.iadd, 1) := by decide +kernel
theorem dX9_named_33 : decode cX9_named 33 = .ok (.putfield 156, 3) := by decide +kernel
theorem dX9_named_36 : decode cX9_named 36 = .ok (.goto (-24), 3) := by decide +kernel
theorem dX9_named_39 : decode cX9_named 39 = .ok (.aload_n 0, 1) := by decide +kernel
theorem dX9_named_40 : decode cX9_named 40 = .ok (.iload_n 3, 1) := by decide +kernel
theorem dX9_named_41 : decode cX9_named 41 = .ok (.aload_n 0, 1) := by decide +kernel
theorem dX9_named_42 : decode cX9_named 42 = .ok (.getfield 156, 3) := by decide +kernel
theorem dX9_named_45 : decode cX9_named 45 = .ok (.iload_n 3, 1) := by decide +kernel
theorem dX9_named_46 : decode cX9_named 46 = .ok (.isub, 1) := by decide +kernel
theorem dX9_named_47 : decode cX9_named 47 = .ok (.invokevirtual 232, 3) := by decide +kernel
theorem dX9_named_50 : decode cX9_named 50 = .ok (.istore 4, 2) := by decide +kernel
theorem dX9_named_52 : decode cX9_named 52 = .ok (.iload 4, 2) := by decide +kernel
theorem dX9_named_54 : decode cX9_named 54 = .ok (.ifCond .ne 10, 3) := by decide +kernel
theorem dX9_named_57 : decode cX9_named 57 = .ok (.aload_n 0, 1) := by decide +kernel
theorem dX9_named_58 : decode cX9_named 58 = .ok (.iload_n 3, 1) := by decide +kernel
theorem dX9_named_59 : decode cX9_named 59 = .ok (.putfield 156, 3) := by decide +kernel
theorem dX9_named_62 : decode cX9_named 62 = .ok (.iconst (-1), 1) := by decide +kernel
theorem dX9_named_63 : decode cX9_named 63 = .ok (.ireturn, 1) := by decide +kernel
theorem dX9_named_64 : decode cX9_named 64 = .ok (.aload_n 0, 1) := by decide +kernel
theorem dX9_named_65 : decode cX9_named 65 = .ok (.bipush 61, 2) := by decide +kernel
theorem dX9_named_67 : decode cX9_named 67 = .ok (.invokevirtual 169, 3) := by decide +kernel
theorem dX9_named_70 : decode cX9_named 70 = .ok (.ifCond .eq 17, 3) := by decide +kernel
theorem dX9_named_73 : decode cX9_named 73 = .ok (.aload_n 0, 1) := by decide +kernel
theorem dX9_named_74 : decode cX9_named 74 = .ok (.invokevirtual 159, 3) := by decide +kernel
theorem dX9_named_77 : decode cX9_named 77 = .ok (.bipush 48, 2) := by decide +kernel
theorem dX9_named_79 : decode cX9_named 79 = .ok (.bipush 57, 2) := by decide +kernel
theorem dX9_named_81 : decode cX9_named 81 = .ok (.invokestatic 74, 3) := by decide +kernel
theorem dX9_named_84 : decode cX9_named 84 = .ok (.ifCond .ne 5, 3) := by decide +kernel
theorem dX9_named_87 : decode cX9_named 87 = .ok (.iconst (-1), 1) := by decide +kernel
theorem dX9_named_88 : decode cX9_named 88 = .ok (.ireturn, 1) := by decide +kernel
theorem dX9_named_89 : decode cX9_named 89 = .ok (.iload_n 1, 1) := by decide +kernel
theorem dX9_named_90 : decode cX9_named 90 = .ok (.ifCond .eq 20, 3) := by decide +kernel
theorem dX9_named_93 : decode cX9_named 93 = .ok (.aload_n 0, 1) := by decide +kernel
theorem dX9_named_94 : decode cX9_named 94 = .ok (.getfield 9, 3) := by decide +kernel
theorem dX9_named_97 : decode cX9_named 97 = .ok (.bipush 6, 2) := by decide +kernel
theorem dX9_named_99 : decode cX9_named 99 = .ok (.iload 4, 2) := by decide +kernel
theorem dX9_named_101 : decode cX9_named 101 = .ok (.iadd, 1) := by decide +kernel
theorem dX9_named_102 : decode cX9_named 102 = .ok (.aload_n 0, 1) := by decide +kernel
theorem dX9_named_103 : decode cX9_named 103 = .ok (.invokevirtual 159, 3) := by decide +kernel
theorem dX9_named_106 : decode cX9_named 106 = .ok (.bipush 48, 2) := by decide +kernel
theorem dX9_named_108 : decode cX9_named 108 = .ok (.isub, 1) := by decide +kernel
theorem dX9_named_109 : decode cX9_named 109 = .ok (.iastore, 1) := by decide +kernel
theorem dX9_named_110 : decode cX9_named 110 = .ok (.aload_n 0, 1) := by decide +kernel
theorem dX9_named_111 : decode cX9_named 111 = .ok (.dup, 1) := by decide +kernel
theorem dX9_named_112 : decode cX9_named 112 = .ok (.getfield 156, 3) := by decide +kernel
theorem dX9_named_115 : decode cX9_named 115 = .ok (.iconst 1, 1) := by decide +kernel
theorem dX9_named_116 : decode cX9_named 116 = .ok (.iadd, 1) := by decide +kernel
theorem dX9_named_117 : decode cX9_named 117 = .ok (.putfield 156, 3) := by decide +kernel
theorem dX9_named_120 : decode cX9_named 120 = .ok (.iinc 2 1, 3) := by decide +kernel
theorem dX9_named_123 : decode cX9_named 123 = .ok (.aload_n 0, 1) := by decide +kernel
theorem dX9_named_124 : decode cX9_named 124 = .ok (.getfield 156, 3) := by decide +kernel
theorem dX9_named_127 : decode cX9_named 127 = .ok (.aload_n 0, 1) := by decide +kernel
theorem dX9_named_128 : decode cX9_named 128 = .ok (.getfield 153, 3) := by decide +kernel
theorem dX9_named_131 : decode cX9_named 131 = .ok (.if_icmp .ne 5, 3) := by decide +kernel
theorem dX9_named_134 : decode cX9_named 134 = .ok (.iload_n 2, 1) := by decide +kernel
theorem dX9_named_135 : decode cX9_named 135 = .ok (.ireturn, 1) := by decide +kernel
theorem dX9_named_136 : decode cX9_named 136 = .ok (.aload_n 0, 1) := by decide +kernel
theorem dX9_named_137 : decode cX9_named 137 = .ok (.bipush 44, 2) := by decide +kernel
theorem dX9_named_139 : decode cX9_named 139 = .ok (.invokevirtual 169, 3) := by decide +kernel
theorem dX9_named_142 : decode cX9_named 142 = .ok (.ifCond .ne 5, 3) := by decide +kernel
theorem dX9_named_145 : decode cX9_named 145 = .ok (.iconst (-1), 1) := by decide +kernel
theorem dX9_named_146 : decode cX9_named 146 = .ok (.ireturn, 1) := by decide +kernel
theorem dX9_named_147 : decode cX9_named 147 = .ok (.goto (-140), 3) := by decide +kernel
theorem dX9_weights_0 : decode cX9_weights 0 = .ok (.aload_n 0, 1) := by decide +kernel
theorem dX9_weights_1 : decode cX9_weights 1 = .ok (.iconst 0, 1) := by decide +kernel
theorem dX9_weights_2 : decode cX9_weights 2 = .ok (.putfield 41, 3) := by decide +kernel
theorem dX9_weights_5 : decode cX9_weights 5 = .ok (.aload_n 0, 1) := by decide +kernel
theorem dX9_weights_6 : decode cX9_weights 6 = .ok (.iconst 0, 1) := by decide +kernel
theorem dX9_weights_7 : decode cX9_weights 7 = .ok (.invokevirtual 235, 3) := by decide +kernel
theorem dX9_weights_10 : decode cX9_weights 10 = .ok (.istore_n 1, 1) := by decide +kernel
theorem dX9_weights_11 : decode cX9_weights 11 = .ok (.iload_n 1, 1) := by decide +kernel
theorem dX9_weights_12 : decode cX9_weights 12 = .ok (.iconst (-1), 1) := by decide +kernel
theorem dX9_weights_13 : decode cX9_weights 13 = .ok (.if_icmp .eq 13, 3) := by decide +kernel
theorem dX9_weights_16 : decode cX9_weights 16 = .ok (.aload_n 0, 1) := by decide +kernel
theorem dX9_weights_17 : decode cX9_weights 17 = .ok (.invokevirtual 47, 3) := by decide +kernel
theorem dX9_weights_20 : decode cX9_weights 20 = .ok (.aload_n 0, 1) := by decide +kernel
theorem dX9_weights_21 : decode cX9_weights 21 = .ok (.iconst 1, 1) := by decide +kernel
theorem dX9_weights_22 : decode cX9_weights 22 = .ok (.invokevirtual 235, 3) := by decide +kernel
theorem dX9_weights_25 : decode cX9_weights 25 = .ok (.pop, 1) := by decide +kernel
theorem dX9_weights_26 : decode cX9_weights 26 = .ok (.aload_n 0, 1) := by decide +kernel
theorem dX9_weights_27 : decode cX9_weights 27 = .ok (.iload_n 1, 1) := by decide +kernel
theorem dX9_weights_28 : decode cX9_weights 28 = .ok (.iconst (-1), 1) := by decide +kernel
theorem dX9_weights_29 : decode cX9_weights 29 = .ok (.if_icmp .ne 7, 3) := by decide +kernel
theorem dX9_weights_32 : decode cX9_weights 32 = .ok (.iconst 1, 1) := by decide +kernel
theorem dX9_weights_33 : decode cX9_weights 33 = .ok (.goto 4, 3) := by decide +kernel
theorem dX9_weights_36 : decode cX9_weights 36 = .ok (.iconst 0, 1) := by decide +kernel
theorem dX9_weights_37 : decode cX9_weights 37 = .ok (.invokevirtual 180, 3) := by decide +kernel
theorem dX9_weights_40 : decode cX9_weights 40 = .ok (.iload_n 1, 1) := by decide +kernel
theorem dX9_weights_41 : decode cX9_weights 41 = .ok (.iconst (-1), 1) := by decide +kernel
theorem dX9_weights_42 : decode cX9_weights 42 = .ok (.if_icmp .ne 11, 3) := by decide +kernel
theorem dX9_weights_45 : decode cX9_weights 45 = .ok (.aload_n 0, 1) := by decide +kernel
theorem dX9_weights_46 : decode cX9_weights 46 = .ok (.iconst 1, 1) := by decide +kernel
theorem dX9_weights_47 : decode cX9_weights 47 = .ok (.invokevirtual 150, 3) := by decide +kernel
theorem dX9_weights_50 : decode cX9_weights 50 = .ok (.goto 4, 3) := by decide +kernel
theorem dX9_weights_53 : decode cX9_weights 53 = .ok (.iload_n 1, 1) := by decide +kernel
theorem dX9_weights_54 : decode cX9_weights 54 = .ok (.ireturn, 1) := by decide +kernel
theorem dX9_weight_0 : decode cX9_weight 0 = .ok (.aload_n 0, 1) := by decide +kernel
theorem dX9_weight_1 : decode cX9_weight 1 = .ok (.iconst 0, 1) := by decide +kernel
theorem dX9_weight_2 : decode cX9_weight 2 = .ok (.putfield 41, 3) := by decide +kernel
theorem dX9_weight_5 : decode cX9_weight 5 = .ok (.iload_n 1, 1) := by decide +kernel
theorem dX9_weight_6 : decode cX9_weight 6 = .ok (.iconst 1, 1) := by decide +kernel
theorem dX9_weight_7 : decode cX9_weight 7 = .ok (.bipush 16, 2) := by decide +kernel
theorem dX9_weight_9 : decode cX9_weight 9 = .ok (.invokestatic 74, 3) := by decide +kernel
theorem dX9_weight_12 : decode cX9_weight 12 = .ok (.ifCond .eq 15, 3) := by decide +kernel
theorem dX9_weight_15 : decode cX9_weight 15 = .ok (.aload_n 0, 1) := by decide +kernel
theorem dX9_weight_16 : decode cX9_weight 16 = .ok (.getfield 9, 3) := by decide +kernel
theorem dX9_weight_19 : decode cX9_weight 19 = .ok (.bipush 6, 2) := by decide +kernel
theorem dX9_weight_21 : decode cX9_weight 21 = .ok (.iload_n 1, 1) := by decide +kernel
theorem dX9_weight_22 : decode cX9_weight 22 = .ok (.iadd, 1) := by decide +kernel
theorem dX9_weight_23 : decode cX9_weight 23 = .ok (.iaload, 1) := by decide +kernel
theorem dX9_weight_24 : decode cX9_weight 24 = .ok (.goto 8, 3) := by decide +kernel
theorem dX9_weight_27 : decode cX9_weight 27 = .ok (.aload_n 0, 1) := by decide +kernel
theorem dX9_weight_28 : decode cX9_weight 28 = .ok (.iconst 1, 1) := by decide +kernel
theorem dX9_weight_29 : decode cX9_weight 29 = .ok (.invokevirtual 150, 3) := by decide +kernel
theorem dX9_weight_32 : decode cX9_weight 32 = .ok (.ireturn, 1) := by decide +kernel
theorem dX9_fault_0 : decode cX9_fault 0 = .ok (.aload_n 0, 1) := by decide +kernel
theorem dX9_fault_1 : decode cX9_fault 1 = .ok (.iconst 0, 1) := by decide +kernel
theorem dX9_fault_2 : decode cX9_fault 2 = .ok (.putfield 41, 3) := by decide +kernel
theorem dX9_fault_5 : decode cX9_fault 5 = .ok (.aload_n 0, 1) := by decide +kernel
theorem dX9_fault_6 : decode cX9_fault 6 = .ok (.invokevirtual 190, 3) := by decide +kernel
theorem dX9_fault_9 : decode cX9_fault 9 = .ok (.ifCond .ne 9, 3) := by decide +kernel
theorem dX9_fault_12 : decode cX9_fault 12 = .ok (.aload_n 0, 1) := by decide +kernel
theorem dX9_fault_13 : decode cX9_fault 13 = .ok (.iconst 1, 1) := by decide +kernel
theorem dX9_fault_14 : decode cX9_fault 14 = .ok (.invokevirtual 150, 3) := by decide +kernel
theorem dX9_fault_17 : decode cX9_fault 17 = .ok (.ireturn, 1) := by decide +kernel
theorem dX9_fault_18 : decode cX9_fault 18 = .ok (.aload_n 0, 1) := by decide +kernel
theorem dX9_fault_19 : decode cX9_fault 19 = .ok (.invokevirtual 147, 3) := by decide +kernel
theorem dX9_fault_22 : decode cX9_fault 22 = .ok (.iload_n 1, 1) := by decide +kernel
theorem dX9_fault_23 : decode cX9_fault 23 = .ok (.iconst 0, 1) := by decide +kernel
theorem dX9_fault_24 : decode cX9_fault 24 = .ok (.aload_n 0, 1) := by decide +kernel
theorem dX9_fault_25 : decode cX9_fault 25 = .ok (.getfield 140, 3) := by decide +kernel
theorem dX9_fault_28 : decode cX9_fault 28 = .ok (.iconst 1, 1) := by decide +kernel
theorem dX9_fault_29 : decode cX9_fault 29 = .ok (.isub, 1) := by decide +kernel
theorem dX9_fault_30 : decode cX9_fault 30 = .ok (.invokestatic 74, 3) := by decide +kernel
theorem dX9_fault_33 : decode cX9_fault 33 = .ok (.ifCond .ne 9, 3) := by decide +kernel
theorem dX9_fault_36 : decode cX9_fault 36 = .ok (.aload_n 0, 1) := by decide +kernel
theorem dX9_fault_37 : decode cX9_fault 37 = .ok (.iconst 2, 1) := by decide +kernel
theorem dX9_fault_38 : decode cX9_fault 38 = .ok (.invokevirtual 150, 3) := by decide +kernel
theorem dX9_fault_41 : decode cX9_fault 41 = .ok (.ireturn, 1) := by decide +kernel
theorem dX9_fault_42 : decode cX9_fault 42 = .ok (.iload_n 2, 1) := by decide +kernel
theorem dX9_fault_43 : decode cX9_fault 43 = .ok (.iconst 0, 1) := by decide +kernel
theorem dX9_fault_44 : decode cX9_fault 44 = .ok (.iconst 3, 1) := by decide +kernel
theorem dX9_fault_45 : decode cX9_fault 45 = .ok (.invokestatic 74, 3) := by decide +kernel
theorem dX9_fault_48 : decode cX9_fault 48 = .ok (.ifCond .eq 16, 3) := by decide +kernel
theorem dX9_fault_51 : decode cX9_fault 51 = .ok (.aload_n 0, 1) := by decide +kernel
theorem dX9_fault_52 : decode cX9_fault 52 = .ok (.getfield 35, 3) := by decide +kernel
theorem dX9_fault_55 : decode cX9_fault 55 = .ok (.iconst 4, 1) := by decide +kernel
theorem dX9_fault_56 : decode cX9_fault 56 = .ok (.iload_n 1, 1) := by decide +kernel
theorem dX9_fault_57 : decode cX9_fault 57 = .ok (.imul, 1) := by decide +kernel
theorem dX9_fault_58 : decode cX9_fault 58 = .ok (.iload_n 2, 1) := by decide +kernel
theorem dX9_fault_59 : decode cX9_fault 59 = .ok (.iadd, 1) := by decide +kernel
theorem dX9_fault_60 : decode cX9_fault 60 = .ok (.iaload, 1) := by decide +kernel
theorem dX9_fault_61 : decode cX9_fault 61 = .ok (.goto 8, 3) := by decide +kernel
theorem dX9_fault_64 : decode cX9_fault 64 = .ok (.aload_n 0, 1) := by decide +kernel
theorem dX9_fault_65 : decode cX9_fault 65 = .ok (.iconst 3, 1) := by decide +kernel
theorem dX9_fault_66 : decode cX9_fault 66 = .ok (.invokevirtual 150, 3) := by decide +kernel
theorem dX9_fault_69 : decode cX9_fault 69 = .ok (.ireturn, 1) := by decide +kernel
theorem dX9_number_0 : decode cX9_number 0 = .ok (.iconst 1, 1) := by decide +kernel
theorem dX9_number_1 : decode cX9_number 1 = .ok (.istore_n 3, 1) := by decide +kernel
theorem dX9_number_2 : decode cX9_number 2 = .ok (.iload_n 2, 1) := by decide +kernel
theorem dX9_number_3 : decode cX9_number 3 = .ok (.iload_n 3, 1) := by decide +kernel
theorem dX9_number_4 : decode cX9_number 4 = .ok (.idiv, 1) := by decide +kernel
theorem dX9_number_5 : decode cX9_number 5 = .ok (.bipush 9, 2) := by decide +kernel
theorem dX9_number_7 : decode cX9_number 7 = .ok (.if_icmp .le 11, 3) := by decide +kernel
theorem dX9_number_10 : decode cX9_number 10 = .ok (.iload_n 3, 1) := by decide +kernel
theorem dX9_number_11 : decode cX9_number 11 = .ok (.bipush 10, 2) := by decide +kernel
theorem dX9_number_13 : decode cX9_number 13 = .ok (.imul, 1) := by decide +kernel
theorem dX9_number_14 : decode cX9_number 14 = .ok (.istore_n 3, 1) := by decide +kernel
theorem dX9_number_15 : decode cX9_number 15 = .ok (.goto (-13), 3) := by decide +kernel
theorem dX9_number_18 : decode cX9_number 18 = .ok (.iload_n 1, 1) := by decide +kernel
theorem dX9_number_19 : decode cX9_number 19 = .ok (.istore 4, 2) := by decide +kernel
theorem dX9_number_21 : decode cX9_number 21 = .ok (.iload_n 3, 1) := by decide +kernel
theorem dX9_number_22 : decode cX9_number 22 = .ok (.ifCond .le 30, 3) := by decide +kernel
theorem dX9_number_25 : decode cX9_number 25 = .ok (.aload_n 0, 1) := by decide +kernel
theorem dX9_number_26 : decode cX9_number 26 = .ok (.getfield 38, 3) := by decide +kernel
theorem dX9_number_29 : decode cX9_number 29 = .ok (.iload 4, 2) := by decide +kernel
theorem dX9_number_31 : decode cX9_number 31 = .ok (.iinc 4 1, 3) := by decide +kernel
theorem dX9_number_34 : decode cX9_number 34 = .ok (.bipush 48, 2) := by decide +kernel
theorem dX9_number_36 : decode cX9_number 36 = .ok (.iload_n 2, 1) := by decide +kernel
theorem dX9_number_37 : decode cX9_number 37 = .ok (.iload_n 3, 1) := by decide +kernel
theorem dX9_number_38 : decode cX9_number 38 = .ok (.idiv, 1) := by decide +kernel
theorem dX9_number_39 : decode cX9_number 39 = .ok (.bipush 10, 2) := by decide +kernel
theorem dX9_number_41 : decode cX9_number 41 = .ok (.irem, 1) := by decide +kernel
theorem dX9_number_42 : decode cX9_number 42 = .ok (.iadd, 1) := by decide +kernel
theorem dX9_number_43 : decode cX9_number 43 = .ok (.iastore, 1) := by decide +kernel
theorem dX9_number_44 : decode cX9_number 44 = .ok (.iload_n 3, 1) := by decide +kernel
theorem dX9_number_45 : decode cX9_number 45 = .ok (.bipush 10, 2) := by decide +kernel
theorem dX9_number_47 : decode cX9_number 47 = .ok (.idiv, 1) := by decide +kernel
theorem dX9_number_48 : decode cX9_number 48 = .ok (.istore_n 3, 1) := by decide +kernel
theorem dX9_number_49 : decode cX9_number 49 = .ok (.goto (-28), 3) := by decide +kernel
theorem dX9_number_52 : decode cX9_number 52 = .ok (.iload 4, 2) := by decide +kernel
theorem dX9_number_54 : decode cX9_number 54 = .ok (.ireturn, 1) := by decide +kernel
theorem dX9_explain_0 : decode cX9_explain 0 = .ok (.aload_n 0, 1) := by decide +kernel
theorem dX9_explain_1 : decode cX9_explain 1 = .ok (.iconst 0, 1) := by decide +kernel
theorem dX9_explain_2 : decode cX9_explain 2 = .ok (.putfield 41, 3) := by decide +kernel
theorem dX9_explain_5 : decode cX9_explain 5 = .ok (.aload_n 0, 1) := by decide +kernel
theorem dX9_explain_6 : decode cX9_explain 6 = .ok (.invokevirtual 190, 3) := by decide +kernel
theorem dX9_explain_9 : decode cX9_explain 9 = .ok (.ifCond .ne 9, 3) := by decide +kernel
theorem dX9_explain_12 : decode cX9_explain 12 = .ok (.aload_n 0, 1) := by decide +kernel
theorem dX9_explain_13 : decode cX9_explain 13 = .ok (.iconst 1, 1) := by decide +kernel
theorem dX9_explain_14 : decode cX9_explain 14 = .ok (.invokevirtual 150, 3) := by decide +kernel
theorem dX9_explain_17 : decode cX9_explain 17 = .ok (.ireturn, 1) := by decide +kernel
theorem dX9_explain_18 : decode cX9_explain 18 = .ok (.aload_n 0, 1) := by decide +kernel
theorem dX9_explain_19 : decode cX9_explain 19 = .ok (.invokevirtual 147, 3) := by decide +kernel
theorem dX9_explain_22 : decode cX9_explain 22 = .ok (.iload_n 1, 1) := by decide +kernel
theorem dX9_explain_23 : decode cX9_explain 23 = .ok (.iconst 0, 1) := by decide +kernel
theorem dX9_explain_24 : decode cX9_explain 24 = .ok (.aload_n 0, 1) := by decide +kernel
theorem dX9_explain_25 : decode cX9_explain 25 = .ok (.getfield 140, 3) := by decide +kernel
theorem dX9_explain_28 : decode cX9_explain 28 = .ok (.iconst 1, 1) := by decide +kernel
theorem dX9_explain_29 : decode cX9_explain 29 = .ok (.isub, 1) := by decide +kernel
theorem dX9_explain_30 : decode cX9_explain 30 = .ok (.invokestatic 74, 3) := by decide +kernel
theorem dX9_explain_33 : decode cX9_explain 33 = .ok (.ifCond .ne 9, 3) := by decide +kernel
theorem dX9_explain_36 : decode cX9_explain 36 = .ok (.aload_n 0, 1) := by decide +kernel
theorem dX9_explain_37 : decode cX9_explain 37 = .ok (.iconst 2, 1) := by decide +kernel
theorem dX9_explain_38 : decode cX9_explain 38 = .ok (.invokevirtual 150, 3) := by decide +kernel
theorem dX9_explain_41 : decode cX9_explain 41 = .ok (.ireturn, 1) := by decide +kernel
theorem dX9_explain_42 : decode cX9_explain 42 = .ok (.iconst 4, 1) := by decide +kernel
theorem dX9_explain_43 : decode cX9_explain 43 = .ok (.iload_n 1, 1) := by decide +kernel
theorem dX9_explain_44 : decode cX9_explain 44 = .ok (.imul, 1) := by decide +kernel
theorem dX9_explain_45 : decode cX9_explain 45 = .ok (.istore_n 3, 1) := by decide +kernel
theorem dX9_explain_46 : decode cX9_explain 46 = .ok (.aload_n 0, 1) := by decide +kernel
theorem dX9_explain_47 : decode cX9_explain 47 = .ok (.iconst 0, 1) := by decide +kernel
theorem dX9_explain_48 : decode cX9_explain 48 = .ok (.aload_n 0, 1) := by decide +kernel
theorem dX9_explain_49 : decode cX9_explain 49 = .ok (.getfield 35, 3) := by decide +kernel
theorem dX9_explain_52 : decode cX9_explain 52 = .ok (.iload_n 3, 1) := by decide +kernel
theorem dX9_explain_53 : decode cX9_explain 53 = .ok (.iconst 1, 1) := by decide +kernel
theorem dX9_explain_54 : decode cX9_explain 54 = .ok (.iadd, 1) := by decide +kernel
theorem dX9_explain_55 : decode cX9_explain 55 = .ok (.iaload, 1) := by decide +kernel
theorem dX9_explain_56 : decode cX9_explain 56 = .ok (.iconst 1, 1) := by decide +kernel
theorem dX9_explain_57 : decode cX9_explain 57 = .ok (.iadd, 1) := by decide +kernel
theorem dX9_explain_58 : decode cX9_explain 58 = .ok (.invokevirtual 239, 3) := by decide +kernel
theorem dX9_explain_61 : decode cX9_explain 61 = .ok (.istore 4, 2) := by decide +kernel
theorem dX9_explain_63 : decode cX9_explain 63 = .ok (.aload_n 0, 1) := by decide +kernel
theorem dX9_explain_64 : decode cX9_explain 64 = .ok (.getfield 38, 3) := by decide +kernel
theorem dX9_explain_67 : decode cX9_explain 67 = .ok (.iload 4, 2) := by decide +kernel
theorem dX9_explain_69 : decode cX9_explain 69 = .ok (.iinc 4 1, 3) := by decide +kernel
theorem dX9_explain_72 : decode cX9_explain 72 = .ok (.bipush 46, 2) := by decide +kernel
theorem dX9_explain_74 : decode cX9_explain 74 = .ok (.iastore, 1) := by decide +kernel
theorem dX9_explain_75 : decode cX9_explain 75 = .ok (.aload_n 0, 1) := by decide +kernel
theorem dX9_explain_76 : decode cX9_explain 76 = .ok (.iload 4, 2) := by decide +kernel
theorem dX9_explain_78 : decode cX9_explain 78 = .ok (.aload_n 0, 1) := by decide +kernel
theorem dX9_explain_79 : decode cX9_explain 79 = .ok (.getfield 35, 3) := by decide +kernel
theorem dX9_explain_82 : decode cX9_explain 82 = .ok (.iload_n 3, 1) := by decide +kernel
theorem dX9_explain_83 : decode cX9_explain 83 = .ok (.iconst 2, 1) := by decide +kernel
theorem dX9_explain_84 : decode cX9_explain 84 = .ok (.iadd, 1) := by decide +kernel
theorem dX9_explain_85 : decode cX9_explain 85 = .ok (.iaload, 1) := by decide +kernel
theorem dX9_explain_86 : decode cX9_explain 86 = .ok (.iconst 1, 1) := by decide +kernel
theorem dX9_explain_87 : decode cX9_explain 87 = .ok (.iadd, 1) := by decide +kernel
theorem dX9_explain_88 : decode cX9_explain 88 = .ok (.invokevirtual 239, 3) := by decide +kernel
theorem dX9_explain_91 : decode cX9_explain 91 = .ok (.istore 4, 2) := by decide +kernel
theorem dX9_explain_93 : decode cX9_explain 93 = .ok (.aload_n 0, 1) := by decide +kernel
theorem dX9_explain_94 : decode cX9_explain 94 = .ok (.getfield 38, 3) := by decide +kernel
theorem dX9_explain_97 : decode cX9_explain 97 = .ok (.iload 4, 2) := by decide +kernel
theorem dX9_explain_99 : decode cX9_explain 99 = .ok (.iinc 4 1, 3) := by decide +kernel
theorem dX9_explain_102 : decode cX9_explain 102 = .ok (.bipush 58, 2) := by decide +kernel
theorem dX9_explain_104 : decode cX9_explain 104 = .ok (.iastore, 1) := by decide +kernel
theorem dX9_explain_105 : decode cX9_explain 105 = .ok (.iconst 0, 1) := by decide +kernel
theorem dX9_explain_106 : decode cX9_explain 106 = .ok (.istore 5, 2) := by decide +kernel
theorem dX9_explain_108 : decode cX9_explain 108 = .ok (.iconst 1, 1) := by decide +kernel
theorem dX9_explain_109 : decode cX9_explain 109 = .ok (.istore 6, 2) := by decide +kernel
theorem dX9_explain_111 : decode cX9_explain 111 = .ok (.iload 6, 2) := by decide +kernel
theorem dX9_explain_113 : decode cX9_explain 113 = .ok (.aload_n 0, 1) := by decide +kernel
theorem dX9_explain_114 : decode cX9_explain 114 = .ok (.getfield 35, 3) := by decide +kernel
theorem dX9_explain_117 : decode cX9_explain 117 = .ok (.iload_n 3, 1) := by decide +kernel
theorem dX9_explain_118 : decode cX9_explain 118 = .ok (.iaload, 1) := by decide +kernel
theorem dX9_explain_119 : decode cX9_explain 119 = .ok (.if_icmp .ge 22, 3) := by decide +kernel
theorem dX9_explain_122 : decode cX9_explain 122 = .ok (.ldc 228, 2) := by decide +kernel
theorem dX9_explain_124 : decode cX9_explain 124 = .ok (.bipush 44, 2) := by decide +kernel
theorem dX9_explain_126 : decode cX9_explain 126 = .ok (.iload 5, 2) := by decide +kernel
theorem dX9_explain_128 : decode cX9_explain 128 = .ok (.invokevirtual 230, 3) := by decide +kernel
theorem dX9_explain_131 : decode cX9_explain 131 = .ok (.iconst 1, 1) := by decide +kernel
theorem dX9_explain_132 : decode cX9_explain 132 = .ok (.iadd, 1) := by decide +kernel
theorem dX9_explain_133 : decode cX9_explain 133 = .ok (.istore 5, 2) := by decide +kernel
theorem dX9_explain_135 : decode cX9_explain 135 = .ok (.iinc 6 1, 3) := by decide +kernel
theorem dX9_explain_138 : decode cX9_explain 138 = .ok (.goto (-27), 3) := by decide +kernel
theorem dX9_explain_141 : decode cX9_explain 141 = .ok (.ldc 228, 2) := by decide +kernel
theorem dX9_explain_143 : decode cX9_explain 143 = .ok (.iload 5, 2) := by decide +kernel
theorem dX9_explain_145 : decode cX9_explain 145 = .ok (.invokevirtual 200, 3) := by decide +kernel
theorem dX9_explain_148 : decode cX9_explain 148 = .ok (.bipush 44, 2) := by decide +kernel
theorem dX9_explain_150 : decode cX9_explain 150 = .ok (.if_icmp .eq 26, 3) := by decide +kernel
theorem dX9_explain_153 : decode cX9_explain 153 = .ok (.aload_n 0, 1) := by decide +kernel
theorem dX9_explain_154 : decode cX9_explain 154 = .ok (.getfield 38, 3) := by decide +kernel
theorem dX9_explain_157 : decode cX9_explain 157 = .ok (.iload 4, 2) := by decide +kernel
theorem dX9_explain_159 : decode cX9_explain 159 = .ok (.iinc 4 1, 3) := by decide +kernel
theorem dX9_explain_162 : decode cX9_explain 162 = .ok (.ldc 228, 2) := by decide +kernel
theorem dX9_explain_164 : decode cX9_explain 164 = .ok (.iload 5, 2) := by decide +kernel
theorem dX9_explain_166 : decode cX9_explain 166 = .ok (.iinc 5 1, 3) := by decide +kernel
theorem dX9_explain_169 : decode cX9_explain 169 = .ok (.invokevirtual 200, 3) := by decide +kernel
theorem dX9_explain_172 : decode cX9_explain 172 = .ok (.iastore, 1) := by decide +kernel
theorem dX9_explain_173 : decode cX9_explain 173 = .ok (.goto (-32), 3) := by decide +kernel
theorem dX9_explain_176 : decode cX9_explain 176 = .ok (.aload_n 0, 1) := by decide +kernel
theorem dX9_explain_177 : decode cX9_explain 177 = .ok (.getfield 38, 3) := by decide +kernel
theorem dX9_explain_180 : decode cX9_explain 180 = .ok (.iload 4, 2) := by decide +kernel
theorem dX9_explain_182 : decode cX9_explain 182 = .ok (.iinc 4 1, 3) := by decide +kernel
theorem dX9_explain_185 : decode cX9_explain 185 = .ok (.bipush 61, 2) := by decide +kernel
theorem dX9_explain_187 : decode cX9_explain 187 = .ok (.iastore, 1) := by decide +kernel
theorem dX9_explain_188 : decode cX9_explain 188 = .ok (.aload_n 0, 1) := by decide +kernel
theorem dX9_explain_189 : decode cX9_explain 189 = .ok (.iload_n 2, 1) := by decide +kernel
theorem dX9_explain_190 : decode cX9_explain 190 = .ok (.aload_n 0, 1) := by decide +kernel
theorem dX9_explain_191 : decode cX9_explain 191 = .ok (.iload 4, 2) := by decide +kernel
theorem dX9_explain_193 : decode cX9_explain 193 = .ok (.aload_n 0, 1) := by decide +kernel
theorem dX9_explain_194 : decode cX9_explain 194 = .ok (.getfield 35, 3) := by decide +kernel
theorem dX9_explain_197 : decode cX9_explain 197 = .ok (.iload_n 3, 1) := by decide +kernel
theorem dX9_explain_198 : decode cX9_explain 198 = .ok (.iconst 3, 1) := by decide +kernel
theorem dX9_explain_199 : decode cX9_explain 199 = .ok (.iadd, 1) := by decide +kernel
theorem dX9_explain_200 : decode cX9_explain 200 = .ok (.iaload, 1) := by decide +kernel
theorem dX9_explain_201 : decode cX9_explain 201 = .ok (.invokevirtual 239, 3) := by decide +kernel
theorem dX9_explain_204 : decode cX9_explain 204 = .ok (.iconst 3, 1) := by decide +kernel
theorem dX9_explain_205 : decode cX9_explain 205 = .ok (.invokevirtual 207, 3) := by decide +kernel
theorem dX9_explain_208 : decode cX9_explain 208 = .ok (.ireturn, 1) := by decide +kernel
theorem dX9_faults_0 : decode cX9_faults 0 = .ok (.aload_n 0, 1) := by decide +kernel
theorem dX9_faults_1 : decode cX9_faults 1 = .ok (.iconst 0, 1) := by decide +kernel
theorem dX9_faults_2 : decode cX9_faults 2 = .ok (.putfield 41, 3) := by decide +kernel
theorem dX9_faults_5 : decode cX9_faults 5 = .ok (.aload_n 0, 1) := by decide +kernel
theorem dX9_faults_6 : decode cX9_faults 6 = .ok (.invokevirtual 190, 3) := by decide +kernel
theorem dX9_faults_9 : decode cX9_faults 9 = .ok (.ifCond .ne 9, 3) := by decide +kernel
theorem dX9_faults_12 : decode cX9_faults 12 = .ok (.aload_n 0, 1) := by decide +kernel
theorem dX9_faults_13 : decode cX9_faults 13 = .ok (.iconst 1, 1) := by decide +kernel
theorem dX9_faults_14 : decode cX9_faults 14 = .ok (.invokevirtual 150, 3) := by decide +kernel
theorem dX9_faults_17 : decode cX9_faults 17 = .ok (.ireturn, 1) := by decide +kernel
theorem dX9_faults_18 : decode cX9_faults 18 = .ok (.iload_n 1, 1) := by decide +kernel
theorem dX9_faults_19 : decode cX9_faults 19 = .ok (.iconst 0, 1) := by decide +kernel
theorem dX9_faults_20 : decode cX9_faults 20 = .ok (.bipush 16, 2) := by decide +kernel
theorem dX9_faults_22 : decode cX9_faults 22 = .ok (.invokestatic 74, 3) := by decide +kernel
theorem dX9_faults_25 : decode cX9_faults 25 = .ok (.ifCond .ne 9, 3) := by decide +kernel
theorem dX9_faults_28 : decode cX9_faults 28 = .ok (.aload_n 0, 1) := by decide +kernel
theorem dX9_faults_29 : decode cX9_faults 29 = .ok (.iconst 2, 1) := by decide +kernel
theorem dX9_faults_30 : decode cX9_faults 30 = .ok (.invokevirtual 150, 3) := by decide +kernel
theorem dX9_faults_33 : decode cX9_faults 33 = .ok (.ireturn, 1) := by decide +kernel
theorem dX9_faults_34 : decode cX9_faults 34 = .ok (.aload_n 0, 1) := by decide +kernel
theorem dX9_faults_35 : decode cX9_faults 35 = .ok (.invokevirtual 147, 3) := by decide +kernel
theorem dX9_faults_38 : decode cX9_faults 38 = .ok (.iconst 0, 1) := by decide +kernel
theorem dX9_faults_39 : decode cX9_faults 39 = .ok (.istore_n 2, 1) := by decide +kernel
theorem dX9_faults_40 : decode cX9_faults 40 = .ok (.iconst 0, 1) := by decide +kernel
theorem dX9_faults_41 : decode cX9_faults 41 = .ok (.istore_n 3, 1) := by decide +kernel
theorem dX9_faults_42 : decode cX9_faults 42 = .ok (.iload_n 3, 1) := by decide +kernel
theorem dX9_faults_43 : decode cX9_faults 43 = .ok (.aload_n 0, 1) := by decide +kernel
theorem dX9_faults_44 : decode cX9_faults 44 = .ok (.getfield 140, 3) := by decide +kernel
theorem dX9_faults_47 : decode cX9_faults 47 = .ok (.if_icmp .ge 28, 3) := by decide +kernel
theorem dX9_faults_50 : decode cX9_faults 50 = .ok (.iload_n 1, 1) := by decide +kernel
theorem dX9_faults_51 : decode cX9_faults 51 = .ok (.ifCond .eq 15, 3) := by decide +kernel
theorem dX9_faults_54 : decode cX9_faults 54 = .ok (.aload_n 0, 1) := by decide +kernel
theorem dX9_faults_55 : decode cX9_faults 55 = .ok (.getfield 35, 3) := by decide +kernel
theorem dX9_faults_58 : decode cX9_faults 58 = .ok (.iconst 4, 1) := by decide +kernel
theorem dX9_faults_59 : decode cX9_faults 59 = .ok (.iload_n 3, 1) := by decide +kernel
theorem dX9_faults_60 : decode cX9_faults 60 = .ok (.imul, 1) := by decide +kernel
theorem dX9_faults_61 : decode cX9_faults 61 = .ok (.iaload, 1) := by decide +kernel
theorem dX9_faults_62 : decode cX9_faults 62 = .ok (.iload_n 1, 1) := by decide +kernel
theorem dX9_faults_63 : decode cX9_faults 63 = .ok (.if_icmp .ne 6, 3) := by decide +kernel
theorem dX9_faults_66 : decode cX9_faults 66 = .ok (.iinc 2 1, 3) := by decide +kernel
theorem dX9_faults_69 : decode cX9_faults 69 = .ok (.iinc 3 1, 3) := by decide +kernel
theorem dX9_faults_72 : decode cX9_faults 72 = .ok (.goto (-30), 3) := by decide +kernel
theorem dX9_faults_75 : decode cX9_faults 75 = .ok (.iload_n 2, 1) := by decide +kernel
theorem dX9_faults_76 : decode cX9_faults 76 = .ok (.ireturn, 1) := by decide +kernel
theorem dX9_faultsIn_0 : decode cX9_faultsIn 0 = .ok (.aload_n 0, 1) := by decide +kernel
theorem dX9_faultsIn_1 : decode cX9_faultsIn 1 = .ok (.iconst 0, 1) := by decide +kernel
theorem dX9_faultsIn_2 : decode cX9_faultsIn 2 = .ok (.putfield 41, 3) := by decide +kernel
theorem dX9_faultsIn_5 : decode cX9_faultsIn 5 = .ok (.aload_n 0, 1) := by decide +kernel
theorem dX9_faultsIn_6 : decode cX9_faultsIn 6 = .ok (.invokevirtual 190, 3) := by decide +kernel
theorem dX9_faultsIn_9 : decode cX9_faultsIn 9 = .ok (.ifCond .ne 9, 3) := by decide +kernel
theorem dX9_faultsIn_12 : decode cX9_faultsIn 12 = .ok (.aload_n 0, 1) := by decide +kernel
theorem dX9_faultsIn_13 : decode cX9_faultsIn 13 = .ok (.iconst 1, 1) := by decide +kernel
theorem dX9_faultsIn_14 : decode cX9_faultsIn 14 = .ok (.invokevirtual 150, 3) := by decide +kernel
theorem dX9_faultsIn_17 : decode cX9_faultsIn 17 = .ok (.ireturn, 1) := by decide +kernel
theorem dX9_faultsIn_18 : decode cX9_faultsIn 18 = .ok (.iload_n 1, 1) := by decide +kernel
theorem dX9_faultsIn_19 : decode cX9_faultsIn 19 = .ok (.iconst 0, 1) := by decide +kernel
theorem dX9_faultsIn_20 : decode cX9_faultsIn 20 = .ok (.aload_n 0, 1) := by decide +kernel
theorem dX9_faultsIn_21 : decode cX9_faultsIn 21 = .ok (.getfield 9, 3) := by decide +kernel
theorem dX9_faultsIn_24 : decode cX9_faultsIn 24 = .ok (.iconst 0, 1) := by decide +kernel
theorem dX9_faultsIn_25 : decode cX9_faultsIn 25 = .ok (.iaload, 1) := by decide +kernel
theorem dX9_faultsIn_26 : decode cX9_faultsIn 26 = .ok (.iconst 1, 1) := by decide +kernel
theorem dX9_faultsIn_27 : decode cX9_faultsIn 27 = .ok (.isub, 1) := by decide +kernel
theorem dX9_faultsIn_28 : decode cX9_faultsIn 28 = .ok (.invokestatic 74, 3) := by decide +kernel
theorem dX9_faultsIn_31 : decode cX9_faultsIn 31 = .ok (.ifCond .ne 9, 3) := by decide +kernel
theorem dX9_faultsIn_34 : decode cX9_faultsIn 34 = .ok (.aload_n 0, 1) := by decide +kernel
theorem dX9_faultsIn_35 : decode cX9_faultsIn 35 = .ok (.iconst 2, 1) := by decide +kernel
theorem dX9_faultsIn_36 : decode cX9_faultsIn 36 = .ok (.invokevirtual 150, 3) := by decide +kernel
theorem dX9_faultsIn_39 : decode cX9_faultsIn 39 = .ok (.ireturn, 1) := by decide +kernel
theorem dX9_faultsIn_40 : decode cX9_faultsIn 40 = .ok (.aload_n 0, 1) := by decide +kernel
theorem dX9_faultsIn_41 : decode cX9_faultsIn 41 = .ok (.invokevirtual 147, 3) := by decide +kernel
theorem dX9_faultsIn_44 : decode cX9_faultsIn 44 = .ok (.iconst 0, 1) := by decide +kernel
theorem dX9_faultsIn_45 : decode cX9_faultsIn 45 = .ok (.istore_n 2, 1) := by decide +kernel
theorem dX9_faultsIn_46 : decode cX9_faultsIn 46 = .ok (.iconst 0, 1) := by decide +kernel
theorem dX9_faultsIn_47 : decode cX9_faultsIn 47 = .ok (.istore_n 3, 1) := by decide +kernel
theorem dX9_faultsIn_48 : decode cX9_faultsIn 48 = .ok (.iload_n 3, 1) := by decide +kernel
theorem dX9_faultsIn_49 : decode cX9_faultsIn 49 = .ok (.aload_n 0, 1) := by decide +kernel
theorem dX9_faultsIn_50 : decode cX9_faultsIn 50 = .ok (.getfield 140, 3) := by decide +kernel
theorem dX9_faultsIn_53 : decode cX9_faultsIn 53 = .ok (.if_icmp .ge 26, 3) := by decide +kernel
theorem dX9_faultsIn_56 : decode cX9_faultsIn 56 = .ok (.aload_n 0, 1) := by decide +kernel
theorem dX9_faultsIn_57 : decode cX9_faultsIn 57 = .ok (.getfield 35, 3) := by decide +kernel
theorem dX9_faultsIn_60 : decode cX9_faultsIn 60 = .ok (.iconst 4, 1) := by decide +kernel
theorem dX9_faultsIn_61 : decode cX9_faultsIn 61 = .ok (.iload_n 3, 1) := by decide +kernel
theorem dX9_faultsIn_62 : decode cX9_faultsIn 62 = .ok (.imul, 1) := by decide +kernel
theorem dX9_faultsIn_63 : decode cX9_faultsIn 63 = .ok (.iconst 1, 1) := by decide +kernel
theorem dX9_faultsIn_64 : decode cX9_faultsIn 64 = .ok (.iadd, 1) := by decide +kernel
theorem dX9_faultsIn_65 : decode cX9_faultsIn 65 = .ok (.iaload, 1) := by decide +kernel
theorem dX9_faultsIn_66 : decode cX9_faultsIn 66 = .ok (.iload_n 1, 1) := by decide +kernel
theorem dX9_faultsIn_67 : decode cX9_faultsIn 67 = .ok (.if_icmp .ne 6, 3) := by decide +kernel
theorem dX9_faultsIn_70 : decode cX9_faultsIn 70 = .ok (.iinc 2 1, 3) := by decide +kernel
theorem dX9_faultsIn_73 : decode cX9_faultsIn 73 = .ok (.iinc 3 1, 3) := by decide +kernel
theorem dX9_faultsIn_76 : decode cX9_faultsIn 76 = .ok (.goto (-28), 3) := by decide +kernel
theorem dX9_faultsIn_79 : decode cX9_faultsIn 79 = .ok (.iload_n 2, 1) := by decide +kernel
theorem dX9_faultsIn_80 : decode cX9_faultsIn 80 = .ok (.ireturn, 1) := by decide +kernel
theorem dX9_cost_0 : decode cX9_cost 0 = .ok (.aload_n 0, 1) := by decide +kernel
theorem dX9_cost_1 : decode cX9_cost 1 = .ok (.iconst 0, 1) := by decide +kernel
theorem dX9_cost_2 : decode cX9_cost 2 = .ok (.putfield 41, 3) := by decide +kernel
theorem dX9_cost_5 : decode cX9_cost 5 = .ok (.aload_n 0, 1) := by decide +kernel
theorem dX9_cost_6 : decode cX9_cost 6 = .ok (.invokevirtual 190, 3) := by decide +kernel
theorem dX9_cost_9 : decode cX9_cost 9 = .ok (.ifCond .eq 10, 3) := by decide +kernel
theorem dX9_cost_12 : decode cX9_cost 12 = .ok (.aload_n 0, 1) := by decide +kernel
theorem dX9_cost_13 : decode cX9_cost 13 = .ok (.invokevirtual 242, 3) := by decide +kernel
theorem dX9_cost_16 : decode cX9_cost 16 = .ok (.goto 8, 3) := by decide +kernel
theorem dX9_cost_19 : decode cX9_cost 19 = .ok (.aload_n 0, 1) := by decide +kernel
theorem dX9_cost_20 : decode cX9_cost 20 = .ok (.iconst 1, 1) := by decide +kernel
theorem dX9_cost_21 : decode cX9_cost 21 = .ok (.invokevirtual 150, 3) := by decide +kernel
theorem dX9_cost_24 : decode cX9_cost 24 = .ok (.ireturn, 1) := by decide +kernel
theorem dX9_isInRange_0 : decode cX9_isInRange 0 = .ok (.iload_n 1, 1) := by decide +kernel
theorem dX9_isInRange_1 : decode cX9_isInRange 1 = .ok (.invokestatic 61, 3) := by decide +kernel
theorem dX9_isInRange_4 : decode cX9_isInRange 4 = .ok (.aload_n 0, 1) := by decide +kernel
theorem dX9_isInRange_5 : decode cX9_isInRange 5 = .ok (.getfield 9, 3) := by decide +kernel
theorem dX9_isInRange_8 : decode cX9_isInRange 8 = .ok (.iconst 4, 1) := by decide +kernel
theorem dX9_isInRange_9 : decode cX9_isInRange 9 = .ok (.iaload, 1) := by decide +kernel
theorem dX9_isInRange_10 : decode cX9_isInRange 10 = .ok (.aload_n 0, 1) := by decide +kernel
theorem dX9_isInRange_11 : decode cX9_isInRange 11 = .ok (.getfield 9, 3) := by decide +kernel
theorem dX9_isInRange_14 : decode cX9_isInRange 14 = .ok (.iconst 5, 1) := by decide +kernel
theorem dX9_isInRange_15 : decode cX9_isInRange 15 = .ok (.iaload, 1) := by decide +kernel
theorem dX9_isInRange_16 : decode cX9_isInRange 16 = .ok (.invokestatic 74, 3) := by decide +kernel
theorem dX9_isInRange_19 : decode cX9_isInRange 19 = .ok (.ireturn, 1) := by decide +kernel
theorem dX9_costOf_0 : decode cX9_costOf 0 = .ok (.aload_n 0, 1) := by decide +kernel
theorem dX9_costOf_1 : decode cX9_costOf 1 = .ok (.iload_n 1, 1) := by decide +kernel
theorem dX9_costOf_2 : decode cX9_costOf 2 = .ok (.invokevirtual 87, 3) := by decide +kernel
theorem dX9_costOf_5 : decode cX9_costOf 5 = .ok (.istore_n 3, 1) := by decide +kernel
theorem dX9_costOf_6 : decode cX9_costOf 6 = .ok (.aload_n 0, 1) := by decide +kernel
theorem dX9_costOf_7 : decode cX9_costOf 7 = .ok (.getfield 9, 3) := by decide +kernel
theorem dX9_costOf_10 : decode cX9_costOf 10 = .ok (.bipush 35, 2) := by decide +kernel
theorem dX9_costOf_12 : decode cX9_costOf 12 = .ok (.iload_n 1, 1) := by decide +kernel
theorem dX9_costOf_13 : decode cX9_costOf 13 = .ok (.iadd, 1) := by decide +kernel
theorem dX9_costOf_14 : decode cX9_costOf 14 = .ok (.iload_n 2, 1) := by decide +kernel
theorem dX9_costOf_15 : decode cX9_costOf 15 = .ok (.iastore, 1) := by decide +kernel
theorem dX9_costOf_16 : decode cX9_costOf 16 = .ok (.aload_n 0, 1) := by decide +kernel
theorem dX9_costOf_17 : decode cX9_costOf 17 = .ok (.invokevirtual 242, 3) := by decide +kernel
theorem dX9_costOf_20 : decode cX9_costOf 20 = .ok (.istore 4, 2) := by decide +kernel
theorem dX9_costOf_22 : decode cX9_costOf 22 = .ok (.aload_n 0, 1) := by decide +kernel
theorem dX9_costOf_23 : decode cX9_costOf 23 = .ok (.getfield 9, 3) := by decide +kernel
theorem dX9_costOf_26 : decode cX9_costOf 26 = .ok (.bipush 35, 2) := by decide +kernel
theorem dX9_costOf_28 : decode cX9_costOf 28 = .ok (.iload_n 1, 1) := by decide +kernel
theorem dX9_costOf_29 : decode cX9_costOf 29 = .ok (.iadd, 1) := by decide +kernel
theorem dX9_costOf_30 : decode cX9_costOf 30 = .ok (.iload_n 3, 1) := by decide +kernel
theorem dX9_costOf_31 : decode cX9_costOf 31 = .ok (.iastore, 1) := by decide +kernel
theorem dX9_costOf_32 : decode cX9_costOf 32 = .ok (.iload 4, 2) := by decide +kernel
theorem dX9_costOf_34 : decode cX9_costOf 34 = .ok (.ireturn, 1) := by decide +kernel
theorem dX9_better_0 : decode cX9_better 0 = .ok (.aload_n 0, 1) := by decide +kernel
theorem dX9_better_1 : decode cX9_better 1 = .ok (.iconst 0, 1) := by decide +kernel
theorem dX9_better_2 : decode cX9_better 2 = .ok (.putfield 41, 3) := by decide +kernel
theorem dX9_better_5 : decode cX9_better 5 = .ok (.aload_n 0, 1) := by decide +kernel
theorem dX9_better_6 : decode cX9_better 6 = .ok (.invokevirtual 190, 3) := by decide +kernel
theorem dX9_better_9 : decode cX9_better 9 = .ok (.ifCond .ne 9, 3) := by decide +kernel
theorem dX9_better_12 : decode cX9_better 12 = .ok (.aload_n 0, 1) := by decide +kernel
theorem dX9_better_13 : decode cX9_better 13 = .ok (.iconst 1, 1) := by decide +kernel
theorem dX9_better_14 : decode cX9_better 14 = .ok (.invokevirtual 150, 3) := by decide +kernel
theorem dX9_better_17 : decode cX9_better 17 = .ok (.ireturn, 1) := by decide +kernel
theorem dX9_better_18 : decode cX9_better 18 = .ok (.aload_n 0, 1) := by decide +kernel
theorem dX9_better_19 : decode cX9_better 19 = .ok (.iload_n 1, 1) := by decide +kernel
theorem dX9_better_20 : decode cX9_better 20 = .ok (.iload_n 2, 1) := by decide +kernel
theorem dX9_better_21 : decode cX9_better 21 = .ok (.invokevirtual 194, 3) := by decide +kernel
theorem dX9_better_24 : decode cX9_better 24 = .ok (.istore_n 3, 1) := by decide +kernel
theorem dX9_better_25 : decode cX9_better 25 = .ok (.iload_n 3, 1) := by decide +kernel
theorem dX9_better_26 : decode cX9_better 26 = .ok (.iconst (-1), 1) := by decide +kernel
theorem dX9_better_27 : decode cX9_better 27 = .ok (.if_icmp .ne 9, 3) := by decide +kernel
theorem dX9_better_30 : decode cX9_better 30 = .ok (.aload_n 0, 1) := by decide +kernel
theorem dX9_better_31 : decode cX9_better 31 = .ok (.iconst 2, 1) := by decide +kernel
theorem dX9_better_32 : decode cX9_better 32 = .ok (.invokevirtual 150, 3) := by decide +kernel
theorem dX9_better_35 : decode cX9_better 35 = .ok (.ireturn, 1) := by decide +kernel
theorem dX9_better_36 : decode cX9_better 36 = .ok (.aload_n 0, 1) := by decide +kernel
theorem dX9_better_37 : decode cX9_better 37 = .ok (.iload_n 3, 1) := by decide +kernel
theorem dX9_better_38 : decode cX9_better 38 = .ok (.invokevirtual 87, 3) := by decide +kernel
theorem dX9_better_41 : decode cX9_better 41 = .ok (.iconst (-1), 1) := by decide +kernel
theorem dX9_better_42 : decode cX9_better 42 = .ok (.if_icmp .ne 9, 3) := by decide +kernel
theorem dX9_better_45 : decode cX9_better 45 = .ok (.aload_n 0, 1) := by decide +kernel
theorem dX9_better_46 : decode cX9_better 46 = .ok (.iconst 3, 1) := by decide +kernel
theorem dX9_better_47 : decode cX9_better 47 = .ok (.invokevirtual 150, 3) := by decide +kernel
theorem dX9_better_50 : decode cX9_better 50 = .ok (.ireturn, 1) := by decide +kernel
theorem dX9_better_51 : decode cX9_better 51 = .ok (.iconst (-1), 1) := by decide +kernel
theorem dX9_better_52 : decode cX9_better 52 = .ok (.istore 4, 2) := by decide +kernel
theorem dX9_better_54 : decode cX9_better 54 = .ok (.iconst 0, 1) := by decide +kernel
theorem dX9_better_55 : decode cX9_better 55 = .ok (.istore 5, 2) := by decide +kernel
theorem dX9_better_57 : decode cX9_better 57 = .ok (.bipush 42, 2) := by decide +kernel
theorem dX9_better_59 : decode cX9_better 59 = .ok (.istore 6, 2) := by decide +kernel
theorem dX9_better_61 : decode cX9_better 61 = .ok (.iload 6, 2) := by decide +kernel
theorem dX9_better_63 : decode cX9_better 63 = .ok (.sipush 146, 3) := by decide +kernel
theorem dX9_better_66 : decode cX9_better 66 = .ok (.if_icmp .gt 54, 3) := by decide +kernel
theorem dX9_better_69 : decode cX9_better 69 = .ok (.aload_n 0, 1) := by decide +kernel
theorem dX9_better_70 : decode cX9_better 70 = .ok (.iload 6, 2) := by decide +kernel
theorem dX9_better_72 : decode cX9_better 72 = .ok (.invokevirtual 245, 3) := by decide +kernel
theorem dX9_better_75 : decode cX9_better 75 = .ok (.ifCond .ne 6, 3) := by decide +kernel
theorem dX9_better_78 : decode cX9_better 78 = .ok (.goto 36, 3) := by decide +kernel
theorem dX9_better_81 : decode cX9_better 81 = .ok (.aload_n 0, 1) := by decide +kernel
theorem dX9_better_82 : decode cX9_better 82 = .ok (.iload_n 3, 1) := by decide +kernel
theorem dX9_better_83 : decode cX9_better 83 = .ok (.iload 6, 2) := by decide +kernel
theorem dX9_better_85 : decode cX9_better 85 = .ok (.invokevirtual 248, 3) := by decide +kernel
theorem dX9_better_88 : decode cX9_better 88 = .ok (.istore 7, 2) := by decide +kernel
theorem dX9_better_90 : decode cX9_better 90 = .ok (.iload 4, 2) := by decide +kernel
theorem dX9_better_92 : decode cX9_better 92 = .ok (.iconst (-1), 1) := by decide +kernel
theorem dX9_better_93 : decode cX9_better 93 = .ok (.if_icmp .eq 13, 3) := by decide +kernel
theorem dX9_better_96 : decode cX9_better 96 = .ok (.iload 7, 2) := by decide +kernel
theorem dX9_better_98 : decode cX9_better 98 = .ok (.iload 5, 2) := by decide +kernel
theorem dX9_better_100 : decode cX9_better 100 = .ok (.if_icmp .lt 6, 3) := by decide +kernel
theorem dX9_better_103 : decode cX9_better 103 = .ok (.goto 11, 3) := by decide +kernel
theorem dX9_better_106 : decode cX9_better 106 = .ok (.iload 6, 2) := by decide +kernel
theorem dX9_better_108 : decode cX9_better 108 = .ok (.istore 4, 2) := by decide +kernel
theorem dX9_better_110 : decode cX9_better 110 = .ok (.iload 7, 2) := by decide +kernel
theorem dX9_better_112 : decode cX9_better 112 = .ok (.istore 5, 2) := by decide +kernel
theorem dX9_better_114 : decode cX9_better 114 = .ok (.iinc 6 1, 3) := by decide +kernel
theorem dX9_better_117 : decode cX9_better 117 = .ok (.goto (-56), 3) := by decide +kernel
theorem dX9_better_120 : decode cX9_better 120 = .ok (.iload 4, 2) := by decide +kernel
theorem dX9_better_122 : decode cX9_better 122 = .ok (.iconst (-1), 1) := by decide +kernel
theorem dX9_better_123 : decode cX9_better 123 = .ok (.if_icmp .ne 11, 3) := by decide +kernel
theorem dX9_better_126 : decode cX9_better 126 = .ok (.aload_n 0, 1) := by decide +kernel
theorem dX9_better_127 : decode cX9_better 127 = .ok (.iconst 3, 1) := by decide +kernel
theorem dX9_better_128 : decode cX9_better 128 = .ok (.invokevirtual 150, 3) := by decide +kernel
theorem dX9_better_131 : decode cX9_better 131 = .ok (.goto 5, 3) := by decide +kernel
theorem dX9_better_134 : decode cX9_better 134 = .ok (.iload 4, 2) := by decide +kernel
theorem dX9_better_136 : decode cX9_better 136 = .ok (.ireturn, 1) := by decide +kernel
theorem dX9_costWith_0 : decode cX9_costWith 0 = .ok (.aload_n 0, 1) := by decide +kernel
theorem dX9_costWith_1 : decode cX9_costWith 1 = .ok (.iconst 0, 1) := by decide +kernel
theorem dX9_costWith_2 : decode cX9_costWith 2 = .ok (.putfield 41, 3) := by decide +kernel
theorem dX9_costWith_5 : decode cX9_costWith 5 = .ok (.aload_n 0, 1) := by decide +kernel
theorem dX9_costWith_6 : decode cX9_costWith 6 = .ok (.invokevirtual 190, 3) := by decide +kernel
theorem dX9_costWith_9 : decode cX9_costWith 9 = .ok (.ifCond .ne 9, 3) := by decide +kernel
theorem dX9_costWith_12 : decode cX9_costWith 12 = .ok (.aload_n 0, 1) := by decide +kernel
theorem dX9_costWith_13 : decode cX9_costWith 13 = .ok (.iconst 1, 1) := by decide +kernel
theorem dX9_costWith_14 : decode cX9_costWith 14 = .ok (.invokevirtual 150, 3) := by decide +kernel
theorem dX9_costWith_17 : decode cX9_costWith 17 = .ok (.ireturn, 1) := by decide +kernel
theorem dX9_costWith_18 : decode cX9_costWith 18 = .ok (.aload_n 0, 1) := by decide +kernel
theorem dX9_costWith_19 : decode cX9_costWith 19 = .ok (.iload_n 1, 1) := by decide +kernel
theorem dX9_costWith_20 : decode cX9_costWith 20 = .ok (.iload_n 2, 1) := by decide +kernel
theorem dX9_costWith_21 : decode cX9_costWith 21 = .ok (.invokevirtual 194, 3) := by decide +kernel
theorem dX9_costWith_24 : decode cX9_costWith 24 = .ok (.istore 4, 2) := by decide +kernel
theorem dX9_costWith_26 : decode cX9_costWith 26 = .ok (.iload 4, 2) := by decide +kernel
theorem dX9_costWith_28 : decode cX9_costWith 28 = .ok (.iconst (-1), 1) := by decide +kernel
theorem dX9_costWith_29 : decode cX9_costWith 29 = .ok (.if_icmp .ne 9, 3) := by decide +kernel
theorem dX9_costWith_32 : decode cX9_costWith 32 = .ok (.aload_n 0, 1) := by decide +kernel
theorem dX9_costWith_33 : decode cX9_costWith 33 = .ok (.iconst 2, 1) := by decide +kernel
theorem dX9_costWith_34 : decode cX9_costWith 34 = .ok (.invokevirtual 150, 3) := by decide +kernel
theorem dX9_costWith_37 : decode cX9_costWith 37 = .ok (.ireturn, 1) := by decide +kernel
theorem dX9_costWith_38 : decode cX9_costWith 38 = .ok (.iload_n 3, 1) := by decide +kernel
theorem dX9_costWith_39 : decode cX9_costWith 39 = .ok (.invokestatic 197, 3) := by decide +kernel
theorem dX9_costWith_42 : decode cX9_costWith 42 = .ok (.ifCond .ne 9, 3) := by decide +kernel
theorem dX9_costWith_45 : decode cX9_costWith 45 = .ok (.aload_n 0, 1) := by decide +kernel
theorem dX9_costWith_46 : decode cX9_costWith 46 = .ok (.iconst 3, 1) := by decide +kernel
theorem dX9_costWith_47 : decode cX9_costWith 47 = .ok (.invokevirtual 150, 3) := by decide +kernel
theorem dX9_costWith_50 : decode cX9_costWith 50 = .ok (.ireturn, 1) := by decide +kernel
theorem dX9_costWith_51 : decode cX9_costWith 51 = .ok (.aload_n 0, 1) := by decide +kernel
theorem dX9_costWith_52 : decode cX9_costWith 52 = .ok (.iload 4, 2) := by decide +kernel
theorem dX9_costWith_54 : decode cX9_costWith 54 = .ok (.invokevirtual 87, 3) := by decide +kernel
theorem dX9_costWith_57 : decode cX9_costWith 57 = .ok (.iconst (-1), 1) := by decide +kernel
theorem dX9_costWith_58 : decode cX9_costWith 58 = .ok (.if_icmp .ne 11, 3) := by decide +kernel
theorem dX9_costWith_61 : decode cX9_costWith 61 = .ok (.aload_n 0, 1) := by decide +kernel
theorem dX9_costWith_62 : decode cX9_costWith 62 = .ok (.iconst 4, 1) := by decide +kernel
theorem dX9_costWith_63 : decode cX9_costWith 63 = .ok (.invokevirtual 150, 3) := by decide +kernel
theorem dX9_costWith_66 : decode cX9_costWith 66 = .ok (.goto 10, 3) := by decide +kernel
theorem dX9_costWith_69 : decode cX9_costWith 69 = .ok (.aload_n 0, 1) := by decide +kernel
theorem dX9_costWith_70 : decode cX9_costWith 70 = .ok (.iload 4, 2) := by decide +kernel
theorem dX9_costWith_72 : decode cX9_costWith 72 = .ok (.iload_n 3, 1) := by decide +kernel
theorem dX9_costWith_73 : decode cX9_costWith 73 = .ok (.invokevirtual 248, 3) := by decide +kernel
theorem dX9_costWith_76 : decode cX9_costWith 76 = .ok (.ireturn, 1) := by decide +kernel
theorem dX9_isCandidate_0 : decode cX9_isCandidate 0 = .ok (.iload_n 1, 1) := by decide +kernel
theorem dX9_isCandidate_1 : decode cX9_isCandidate 1 = .ok (.invokestatic 53, 3) := by decide +kernel
theorem dX9_isCandidate_4 : decode cX9_isCandidate 4 = .ok (.istore_n 3, 1) := by decide +kernel
theorem dX9_isCandidate_5 : decode cX9_isCandidate 5 = .ok (.aload_n 0, 1) := by decide +kernel
theorem dX9_isCandidate_6 : decode cX9_isCandidate 6 = .ok (.iload_n 1, 1) := by decide +kernel
theorem dX9_isCandidate_7 : decode cX9_isCandidate 7 = .ok (.invokevirtual 245, 3) := by decide +kernel
theorem dX9_isCandidate_10 : decode cX9_isCandidate 10 = .ok (.ifCond .eq 28, 3) := by decide +kernel
theorem dX9_isCandidate_13 : decode cX9_isCandidate 13 = .ok (.iload_n 3, 1) := by decide +kernel
theorem dX9_isCandidate_14 : decode cX9_isCandidate 14 = .ok (.ifCond .eq 20, 3) := by decide +kernel
theorem dX9_isCandidate_17 : decode cX9_isCandidate 17 = .ok (.iload_n 3, 1) := by decide +kernel
theorem dX9_isCandidate_18 : decode cX9_isCandidate 18 = .ok (.iconst 1, 1) := by decide +kernel
theorem dX9_isCandidate_19 : decode cX9_isCandidate 19 = .ok (.if_icmp .ne 19, 3) := by decide +kernel
theorem dX9_isCandidate_22 : decode cX9_isCandidate 22 = .ok (.iload_n 2, 1) := by decide +kernel
theorem dX9_isCandidate_23 : decode cX9_isCandidate 23 = .ok (.aload_n 0, 1) := by decide +kernel
theorem dX9_isCandidate_24 : decode cX9_isCandidate 24 = .ok (.getfield 9, 3) := by decide +kernel
theorem dX9_isCandidate_27 : decode cX9_isCandidate 27 = .ok (.iconst 0, 1) := by decide +kernel
theorem dX9_isCandidate_28 : decode cX9_isCandidate 28 = .ok (.iaload, 1) := by decide +kernel
theorem dX9_isCandidate_29 : decode cX9_isCandidate 29 = .ok (.iconst 2, 1) := by decide +kernel
theorem dX9_isCandidate_30 : decode cX9_isCandidate 30 = .ok (.isub, 1) := by decide +kernel
theorem dX9_isCandidate_31 : decode cX9_isCandidate 31 = .ok (.if_icmp .ne 7, 3) := by decide +kernel
theorem dX9_isCandidate_34 : decode cX9_isCandidate 34 = .ok (.iconst 1, 1) := by decide +kernel
theorem dX9_isCandidate_35 : decode cX9_isCandidate 35 = .ok (.goto 4, 3) := by decide +kernel
theorem dX9_isCandidate_38 : decode cX9_isCandidate 38 = .ok (.iconst 0, 1) := by decide +kernel
theorem dX9_isCandidate_39 : decode cX9_isCandidate 39 = .ok (.ireturn, 1) := by decide +kernel
theorem dX9_fits_0 : decode cX9_fits 0 = .ok (.iconst 1, 1) := by decide +kernel
theorem dX9_fits_1 : decode cX9_fits 1 = .ok (.istore_n 2, 1) := by decide +kernel
theorem dX9_fits_2 : decode cX9_fits 2 = .ok (.iconst 1, 1) := by decide +kernel
theorem dX9_fits_3 : decode cX9_fits 3 = .ok (.istore_n 3, 1) := by decide +kernel
theorem dX9_fits_4 : decode cX9_fits 4 = .ok (.iload_n 3, 1) := by decide +kernel
theorem dX9_fits_5 : decode cX9_fits 5 = .ok (.bipush 16, 2) := by decide +kernel
theorem dX9_fits_7 : decode cX9_fits 7 = .ok (.if_icmp .gt 97, 3) := by decide +kernel
theorem dX9_fits_10 : decode cX9_fits 10 = .ok (.aload_n 0, 1) := by decide +kernel
theorem dX9_fits_11 : decode cX9_fits 11 = .ok (.getfield 9, 3) := by decide +kernel
theorem dX9_fits_14 : decode cX9_fits 14 = .ok (.bipush 6, 2) := by decide +kernel
theorem dX9_fits_16 : decode cX9_fits 16 = .ok (.iload_n 3, 1) := by decide +kernel
theorem dX9_fits_17 : decode cX9_fits 17 = .ok (.iadd, 1) := by decide +kernel
theorem dX9_fits_18 : decode cX9_fits 18 = .ok (.iaload, 1) := by decide +kernel
theorem dX9_fits_19 : decode cX9_fits 19 = .ok (.ifCond .ne 6, 3) := by decide +kernel
theorem dX9_fits_22 : decode cX9_fits 22 = .ok (.goto 76, 3) := by decide +kernel
theorem dX9_fits_25 : decode cX9_fits 25 = .ok (.iload_n 1, 1) := by decide +kernel
theorem dX9_fits_26 : decode cX9_fits 26 = .ok (.aload_n 0, 1) := by decide +kernel
theorem dX9_fits_27 : decode cX9_fits 27 = .ok (.getfield 9, 3) := by decide +kernel
theorem dX9_fits_30 : decode cX9_fits 30 = .ok (.iconst 0, 1) := by decide +kernel
theorem dX9_fits_31 : decode cX9_fits 31 = .ok (.iaload, 1) := by decide +kernel
theorem dX9_fits_32 : decode cX9_fits 32 = .ok (.iconst 1, 1) := by decide +kernel
theorem dX9_fits_33 : decode cX9_fits 33 = .ok (.isub, 1) := by decide +kernel
theorem dX9_fits_34 : decode cX9_fits 34 = .ok (.if_icmp .ne 37, 3) := by decide +kernel
theorem dX9_fits_37 : decode cX9_fits 37 = .ok (.iconst 0, 1) := by decide +kernel
theorem dX9_fits_38 : decode cX9_fits 38 = .ok (.istore 4, 2) := by decide +kernel
theorem dX9_fits_40 : decode cX9_fits 40 = .ok (.iload 4, 2) := by decide +kernel
theorem dX9_fits_42 : decode cX9_fits 42 = .ok (.iload_n 1, 1) := by decide +kernel
theorem dX9_fits_43 : decode cX9_fits 43 = .ok (.if_icmp .gt 25, 3) := by decide +kernel
theorem dX9_fits_46 : decode cX9_fits 46 = .ok (.aload_n 0, 1) := by decide +kernel
theorem dX9_fits_47 : decode cX9_fits 47 = .ok (.iload_n 3, 1) := by decide +kernel
theorem dX9_fits_48 : decode cX9_fits 48 = .ok (.iload 4, 2) := by decide +kernel
theorem dX9_fits_50 : decode cX9_fits 50 = .ok (.iload_n 1, 1) := by decide +kernel
theorem dX9_fits_51 : decode cX9_fits 51 = .ok (.iconst 1, 1) := by decide +kernel
theorem dX9_fits_52 : decode cX9_fits 52 = .ok (.iadd, 1) := by decide +kernel
theorem dX9_fits_53 : decode cX9_fits 53 = .ok (.invokevirtual 143, 3) := by decide +kernel
theorem dX9_fits_56 : decode cX9_fits 56 = .ok (.iconst (-1), 1) := by decide +kernel
theorem dX9_fits_57 : decode cX9_fits 57 = .ok (.if_icmp .eq 5, 3) := by decide +kernel
theorem dX9_fits_60 : decode cX9_fits 60 = .ok (.iconst 0, 1) := by decide +kernel
theorem dX9_fits_61 : decode cX9_fits 61 = .ok (.istore_n 2, 1) := by decide +kernel
theorem dX9_fits_62 : decode cX9_fits 62 = .ok (.iinc 4 1, 3) := by decide +kernel
theorem dX9_fits_65 : decode cX9_fits 65 = .ok (.goto (-25), 3) := by decide +kernel
theorem dX9_fits_68 : decode cX9_fits 68 = .ok (.goto 30, 3) := by decide +kernel
theorem dX9_fits_71 : decode cX9_fits 71 = .ok (.iload_n 3, 1) := by decide +kernel
theorem dX9_fits_72 : decode cX9_fits 72 = .ok (.bipush 6, 2) := by decide +kernel
theorem dX9_fits_74 : decode cX9_fits 74 = .ok (.if_icmp .eq 24, 3) := by decide +kernel
theorem dX9_fits_77 : decode cX9_fits 77 = .ok (.iload_n 3, 1) := by decide +kernel
theorem dX9_fits_78 : decode cX9_fits 78 = .ok (.bipush 15, 2) := by decide +kernel
theorem dX9_fits_80 : decode cX9_fits 80 = .ok (.if_icmp .eq 18, 3) := by decide +kernel
theorem dX9_fits_83 : decode cX9_fits 83 = .ok (.aload_n 0, 1) := by decide +kernel
theorem dX9_fits_84 : decode cX9_fits 84 = .ok (.iload_n 3, 1) := by decide +kernel
theorem dX9_fits_85 : decode cX9_fits 85 = .ok (.iload_n 1, 1) := by decide +kernel
theorem dX9_fits_86 : decode cX9_fits 86 = .ok (.iload_n 1, 1) := by decide +kernel
theorem dX9_fits_87 : decode cX9_fits 87 = .ok (.iconst 1, 1) := by decide +kernel
theorem dX9_fits_88 : decode cX9_fits 88 = .ok (.iadd, 1) := by decide +kernel
theorem dX9_fits_89 : decode cX9_fits 89 = .ok (.invokevirtual 143, 3) := by decide +kernel
theorem dX9_fits_92 : decode cX9_fits 92 = .ok (.iconst (-1), 1) := by decide +kernel
theorem dX9_fits_93 : decode cX9_fits 93 = .ok (.if_icmp .eq 5, 3) := by decide +kernel
theorem dX9_fits_96 : decode cX9_fits 96 = .ok (.iconst 0, 1) := by decide +kernel
theorem dX9_fits_97 : decode cX9_fits 97 = .ok (.istore_n 2, 1) := by decide +kernel
theorem dX9_fits_98 : decode cX9_fits 98 = .ok (.iinc 3 1, 3) := by decide +kernel
theorem dX9_fits_101 : decode cX9_fits 101 = .ok (.goto (-97), 3) := by decide +kernel
theorem dX9_fits_104 : decode cX9_fits 104 = .ok (.iload_n 2, 1) := by decide +kernel
theorem dX9_fits_105 : decode cX9_fits 105 = .ok (.ireturn, 1) := by decide +kernel
theorem dX9_searches_0 : decode cX9_searches 0 = .ok (.aload_n 0, 1) := by decide +kernel
theorem dX9_searches_1 : decode cX9_searches 1 = .ok (.getfield 9, 3) := by decide +kernel
theorem dX9_searches_4 : decode cX9_searches 4 = .ok (.iconst 0, 1) := by decide +kernel
theorem dX9_searches_5 : decode cX9_searches 5 = .ok (.iaload, 1) := by decide +kernel
theorem dX9_searches_6 : decode cX9_searches 6 = .ok (.iconst 1, 1) := by decide +kernel
theorem dX9_searches_7 : decode cX9_searches 7 = .ok (.isub, 1) := by decide +kernel
theorem dX9_searches_8 : decode cX9_searches 8 = .ok (.istore_n 1, 1) := by decide +kernel
theorem dX9_searches_9 : decode cX9_searches 9 = .ok (.iconst 0, 1) := by decide +kernel
theorem dX9_searches_10 : decode cX9_searches 10 = .ok (.istore_n 2, 1) := by decide +kernel
theorem dX9_searches_11 : decode cX9_searches 11 = .ok (.iconst 0, 1) := by decide +kernel
theorem dX9_searches_12 : decode cX9_searches 12 = .ok (.istore_n 3, 1) := by decide +kernel
theorem dX9_searches_13 : decode cX9_searches 13 = .ok (.aload_n 0, 1) := by decide +kernel
theorem dX9_searches_14 : decode cX9_searches 14 = .ok (.getfield 32, 3) := by decide +kernel
theorem dX9_searches_17 : decode cX9_searches 17 = .ok (.iconst 0, 1) := by decide +kernel
theorem dX9_searches_18 : decode cX9_searches 18 = .ok (.bipush 41, 2) := by decide +kernel
theorem dX9_searches_20 : decode cX9_searches 20 = .ok (.iastore, 1) := by decide +kernel
theorem dX9_searches_21 : decode cX9_searches 21 = .ok (.iload_n 2, 1) := by decide +kernel
theorem dX9_searches_22 : decode cX9_searches 22 = .ok (.ifCond .lt 101, 3) := by decide +kernel
theorem dX9_searches_25 : decode cX9_searches 25 = .ok (.aload_n 0, 1) := by decide +kernel
theorem dX9_searches_26 : decode cX9_searches 26 = .ok (.getfield 32, 3) := by decide +kernel
theorem dX9_searches_29 : decode cX9_searches 29 = .ok (.iload_n 2, 1) := by decide +kernel
theorem dX9_searches_30 : decode cX9_searches 30 = .ok (.dup2, 1) := by decide +kernel
theorem dX9_searches_31 : decode cX9_searches 31 = .ok (.iaload, 1) := by decide +kernel
theorem dX9_searches_32 : decode cX9_searches 32 = .ok (.iconst 1, 1) := by decide +kernel
theorem dX9_searches_33 : decode cX9_searches 33 = .ok (.iadd, 1) := by decide +kernel
theorem dX9_searches_34 : decode cX9_searches 34 = .ok (.iastore, 1) := by decide +kernel
theorem dX9_searches_35 : decode cX9_searches 35 = .ok (.aload_n 0, 1) := by decide +kernel
theorem dX9_searches_36 : decode cX9_searches 36 = .ok (.getfield 32, 3) := by decide +kernel
theorem dX9_searches_39 : decode cX9_searches 39 = .ok (.iload_n 2, 1) := by decide +kernel
theorem dX9_searches_40 : decode cX9_searches 40 = .ok (.iaload, 1) := by decide +kernel
theorem dX9_searches_41 : decode cX9_searches 41 = .ok (.sipush 146, 3) := by decide +kernel
theorem dX9_searches_44 : decode cX9_searches 44 = .ok (.if_icmp .le 9, 3) := by decide +kernel
theorem dX9_searches_47 : decode cX9_searches 47 = .ok (.iinc 2 (-1), 3) := by decide +kernel
theorem dX9_searches_50 : decode cX9_searches 50 = .ok (.goto (-29), 3) := by decide +kernel
theorem dX9_searches_53 : decode cX9_searches 53 = .ok (.aload_n 0, 1) := by decide +kernel
theorem dX9_searches_54 : decode cX9_searches 54 = .ok (.aload_n 0, 1) := by decide +kernel
theorem dX9_searches_55 : decode cX9_searches 55 = .ok (.getfield 32, 3) := by decide +kernel
theorem dX9_searches_58 : decode cX9_searches 58 = .ok (.iload_n 2, 1) := by decide +kernel
theorem dX9_searches_59 : decode cX9_searches 59 = .ok (.iaload, 1) := by decide +kernel
theorem dX9_searches_60 : decode cX9_searches 60 = .ok (.iload_n 2, 1) := by decide +kernel
theorem dX9_searches_61 : decode cX9_searches 61 = .ok (.invokevirtual 251, 3) := by decide +kernel
theorem dX9_searches_64 : decode cX9_searches 64 = .ok (.ifCond .ne 6, 3) := by decide +kernel
theorem dX9_searches_67 : decode cX9_searches 67 = .ok (.goto (-46), 3) := by decide +kernel
theorem dX9_searches_70 : decode cX9_searches 70 = .ok (.iinc 3 1, 3) := by decide +kernel
theorem dX9_searches_73 : decode cX9_searches 73 = .ok (.aload_n 0, 1) := by decide +kernel
theorem dX9_searches_74 : decode cX9_searches 74 = .ok (.getfield 9, 3) := by decide +kernel
theorem dX9_searches_77 : decode cX9_searches 77 = .ok (.bipush 35, 2) := by decide +kernel
theorem dX9_searches_79 : decode cX9_searches 79 = .ok (.iload_n 2, 1) := by decide +kernel
theorem dX9_searches_80 : decode cX9_searches 80 = .ok (.iadd, 1) := by decide +kernel
theorem dX9_searches_81 : decode cX9_searches 81 = .ok (.aload_n 0, 1) := by decide +kernel
theorem dX9_searches_82 : decode cX9_searches 82 = .ok (.getfield 32, 3) := by decide +kernel
theorem dX9_searches_85 : decode cX9_searches 85 = .ok (.iload_n 2, 1) := by decide +kernel
theorem dX9_searches_86 : decode cX9_searches 86 = .ok (.iaload, 1) := by decide +kernel
theorem dX9_searches_87 : decode cX9_searches 87 = .ok (.iastore, 1) := by decide +kernel
theorem dX9_searches_88 : decode cX9_searches 88 = .ok (.aload_n 0, 1) := by decide +kernel
theorem dX9_searches_89 : decode cX9_searches 89 = .ok (.iload_n 2, 1) := by decide +kernel
theorem dX9_searches_90 : decode cX9_searches 90 = .ok (.invokevirtual 254, 3) := by decide +kernel
theorem dX9_searches_93 : decode cX9_searches 93 = .ok (.ifCond .eq 21, 3) := by decide +kernel
theorem dX9_searches_96 : decode cX9_searches 96 = .ok (.iload_n 2, 1) := by decide +kernel
theorem dX9_searches_97 : decode cX9_searches 97 = .ok (.iload_n 1, 1) := by decide +kernel
theorem dX9_searches_98 : decode cX9_searches 98 = .ok (.if_icmp .ne 5, 3) := by decide +kernel
theorem dX9_searches_101 : decode cX9_searches 101 = .ok (.iload_n 3, 1) := by decide +kernel
theorem dX9_searches_102 : decode cX9_searches 102 = .ok (.ireturn, 1) := by decide +kernel
theorem dX9_searches_103 : decode cX9_searches 103 = .ok (.iinc 2 1, 3) := by decide +kernel
theorem dX9_searches_106 : decode cX9_searches 106 = .ok (.aload_n 0, 1) := by decide +kernel
theorem dX9_searches_107 : decode cX9_searches 107 = .ok (.getfield 32, 3) := by decide +kernel
theorem dX9_searches_110 : decode cX9_searches 110 = .ok (.iload_n 2, 1) := by decide +kernel
theorem dX9_searches_111 : decode cX9_searches 111 = .ok (.bipush 41, 2) := by decide +kernel
theorem dX9_searches_113 : decode cX9_searches 113 = .ok (.iastore, 1) := by decide +kernel
theorem dX9_searches_114 : decode cX9_searches 114 = .ok (.iload_n 3, 1) := by decide +kernel
theorem dX9_searches_115 : decode cX9_searches 115 = .ok (.sipush 3000, 3) := by decide +kernel
theorem dX9_searches_118 : decode cX9_searches 118 = .ok (.if_icmp .ne (-97), 3) := by decide +kernel
theorem dX9_searches_121 : decode cX9_searches 121 = .ok (.iconst (-1), 1) := by decide +kernel
theorem dX9_searches_122 : decode cX9_searches 122 = .ok (.ireturn, 1) := by decide +kernel
theorem dX9_searches_123 : decode cX9_searches 123 = .ok (.iconst (-1), 1) := by decide +kernel
theorem dX9_searches_124 : decode cX9_searches 124 = .ok (.ireturn, 1) := by decide +kernel
theorem dX9_search_0 : decode cX9_search 0 = .ok (.aload_n 0, 1) := by decide +kernel
theorem dX9_search_1 : decode cX9_search 1 = .ok (.iconst 0, 1) := by decide +kernel
theorem dX9_search_2 : decode cX9_search 2 = .ok (.putfield 41, 3) := by decide +kernel
theorem dX9_search_5 : decode cX9_search 5 = .ok (.aload_n 0, 1) := by decide +kernel
theorem dX9_search_6 : decode cX9_search 6 = .ok (.getfield 9, 3) := by decide +kernel
theorem dX9_search_9 : decode cX9_search 9 = .ok (.iconst 0, 1) := by decide +kernel
theorem dX9_search_10 : decode cX9_search 10 = .ok (.iaload, 1) := by decide +kernel
theorem dX9_search_11 : decode cX9_search 11 = .ok (.ifCond .eq 13, 3) := by decide +kernel
theorem dX9_search_14 : decode cX9_search 14 = .ok (.aload_n 0, 1) := by decide +kernel
theorem dX9_search_15 : decode cX9_search 15 = .ok (.getfield 9, 3) := by decide +kernel
theorem dX9_search_18 : decode cX9_search 18 = .ok (.iconst 2, 1) := by decide +kernel
theorem dX9_search_19 : decode cX9_search 19 = .ok (.iaload, 1) := by decide +kernel
theorem dX9_search_20 : decode cX9_search 20 = .ok (.iconst 1, 1) := by decide +kernel
theorem dX9_search_21 : decode cX9_search 21 = .ok (.if_icmp .eq 9, 3) := by decide +kernel
theorem dX9_search_24 : decode cX9_search 24 = .ok (.aload_n 0, 1) := by decide +kernel
theorem dX9_search_25 : decode cX9_search 25 = .ok (.iconst 1, 1) := by decide +kernel
theorem dX9_search_26 : decode cX9_search 26 = .ok (.invokevirtual 150, 3) := by decide +kernel
theorem dX9_search_29 : decode cX9_search 29 = .ok (.ireturn, 1) := by decide +kernel
theorem dX9_search_30 : decode cX9_search 30 = .ok (.iconst 0, 1) := by decide +kernel
theorem dX9_search_31 : decode cX9_search 31 = .ok (.istore_n 1, 1) := by decide +kernel
theorem dX9_search_32 : decode cX9_search 32 = .ok (.iload_n 1, 1) := by decide +kernel
theorem dX9_search_33 : decode cX9_search 33 = .ok (.bipush 45, 2) := by decide +kernel
theorem dX9_search_35 : decode cX9_search 35 = .ok (.if_icmp .ge 24, 3) := by decide +kernel
theorem dX9_search_38 : decode cX9_search 38 = .ok (.aload_n 0, 1) := by decide +kernel
theorem dX9_search_39 : decode cX9_search 39 = .ok (.getfield 26, 3) := by decide +kernel
theorem dX9_search_42 : decode cX9_search 42 = .ok (.iload_n 1, 1) := by decide +kernel
theorem dX9_search_43 : decode cX9_search 43 = .ok (.aload_n 0, 1) := by decide +kernel
theorem dX9_search_44 : decode cX9_search 44 = .ok (.getfield 9, 3) := by decide +kernel
theorem dX9_search_47 : decode cX9_search 47 = .ok (.bipush 35, 2) := by decide +kernel
theorem dX9_search_49 : decode cX9_search 49 = .ok (.iload_n 1, 1) := by decide +kernel
theorem dX9_search_50 : decode cX9_search 50 = .ok (.iadd, 1) := by decide +kernel
theorem dX9_search_51 : decode cX9_search 51 = .ok (.iaload, 1) := by decide +kernel
theorem dX9_search_52 : decode cX9_search 52 = .ok (.iastore, 1) := by decide +kernel
theorem dX9_search_53 : decode cX9_search 53 = .ok (.iinc 1 1, 3) := by decide +kernel
theorem dX9_search_56 : decode cX9_search 56 = .ok (.goto (-24), 3) := by decide +kernel
theorem dX9_search_59 : decode cX9_search 59 = .ok (.aload_n 0, 1) := by decide +kernel
theorem dX9_search_60 : decode cX9_search 60 = .ok (.invokevirtual 257, 3) := by decide +kernel
theorem dX9_search_63 : decode cX9_search 63 = .ok (.istore_n 1, 1) := by decide +kernel
theorem dX9_search_64 : decode cX9_search 64 = .ok (.iconst 0, 1) := by decide +kernel
theorem dX9_search_65 : decode cX9_search 65 = .ok (.istore_n 2, 1) := by decide +kernel
theorem dX9_search_66 : decode cX9_search 66 = .ok (.iload_n 2, 1) := by decide +kernel
theorem dX9_search_67 : decode cX9_search 67 = .ok (.bipush 45, 2) := by decide +kernel
theorem dX9_search_69 : decode cX9_search 69 = .ok (.if_icmp .ge 24, 3) := by decide +kernel
theorem dX9_search_72 : decode cX9_search 72 = .ok (.aload_n 0, 1) := by decide +kernel
theorem dX9_search_73 : decode cX9_search 73 = .ok (.getfield 9, 3) := by decide +kernel
theorem dX9_search_76 : decode cX9_search 76 = .ok (.bipush 35, 2) := by decide +kernel
theorem dX9_search_78 : decode cX9_search 78 = .ok (.iload_n 2, 1) := by decide +kernel
theorem dX9_search_79 : decode cX9_search 79 = .ok (.iadd, 1) := by decide +kernel
theorem dX9_search_80 : decode cX9_search 80 = .ok (.aload_n 0, 1) := by decide +kernel
theorem dX9_search_81 : decode cX9_search 81 = .ok (.getfield 26, 3) := by decide +kernel
theorem dX9_search_84 : decode cX9_search 84 = .ok (.iload_n 2, 1) := by decide +kernel
theorem dX9_search_85 : decode cX9_search 85 = .ok (.iaload, 1) := by decide +kernel
theorem dX9_search_86 : decode cX9_search 86 = .ok (.iastore, 1) := by decide +kernel
theorem dX9_search_87 : decode cX9_search 87 = .ok (.iinc 2 1, 3) := by decide +kernel
theorem dX9_search_90 : decode cX9_search 90 = .ok (.goto (-24), 3) := by decide +kernel
theorem dX9_search_93 : decode cX9_search 93 = .ok (.iload_n 1, 1) := by decide +kernel
theorem dX9_search_94 : decode cX9_search 94 = .ok (.iconst (-1), 1) := by decide +kernel
theorem dX9_search_95 : decode cX9_search 95 = .ok (.if_icmp .ne 9, 3) := by decide +kernel
theorem dX9_search_98 : decode cX9_search 98 = .ok (.aload_n 0, 1) := by decide +kernel
theorem dX9_search_99 : decode cX9_search 99 = .ok (.iconst 2, 1) := by decide +kernel
theorem dX9_search_100 : decode cX9_search 100 = .ok (.invokevirtual 150, 3) := by decide +kernel
theorem dX9_search_103 : decode cX9_search 103 = .ok (.ireturn, 1) := by decide +kernel
theorem dX9_search_104 : decode cX9_search 104 = .ok (.aload_n 0, 1) := by decide +kernel
theorem dX9_search_105 : decode cX9_search 105 = .ok (.aload_n 0, 1) := by decide +kernel
theorem dX9_search_106 : decode cX9_search 106 = .ok (.getfield 9, 3) := by decide +kernel
theorem dX9_search_109 : decode cX9_search 109 = .ok (.iconst 0, 1) := by decide +kernel
theorem dX9_search_110 : decode cX9_search 110 = .ok (.iaload, 1) := by decide +kernel
theorem dX9_search_111 : decode cX9_search 111 = .ok (.putfield 260, 3) := by decide +kernel
theorem dX9_search_114 : decode cX9_search 114 = .ok (.iconst 0, 1) := by decide +kernel
theorem dX9_search_115 : decode cX9_search 115 = .ok (.istore_n 2, 1) := by decide +kernel
theorem dX9_search_116 : decode cX9_search 116 = .ok (.iload_n 2, 1) := by decide +kernel
theorem dX9_search_117 : decode cX9_search 117 = .ok (.aload_n 0, 1) := by decide +kernel
theorem dX9_search_118 : decode cX9_search 118 = .ok (.getfield 260, 3) := by decide +kernel
theorem dX9_search_121 : decode cX9_search 121 = .ok (.if_icmp .ge 21, 3) := by decide +kernel
theorem dX9_search_124 : decode cX9_search 124 = .ok (.aload_n 0, 1) := by decide +kernel
theorem dX9_search_125 : decode cX9_search 125 = .ok (.getfield 29, 3) := by decide +kernel
theorem dX9_search_128 : decode cX9_search 128 = .ok (.iload_n 2, 1) := by decide +kernel
theorem dX9_search_129 : decode cX9_search 129 = .ok (.aload_n 0, 1) := by decide +kernel
theorem dX9_search_130 : decode cX9_search 130 = .ok (.getfield 32, 3) := by decide +kernel
theorem dX9_search_133 : decode cX9_search 133 = .ok (.iload_n 2, 1) := by decide +kernel
theorem dX9_search_134 : decode cX9_search 134 = .ok (.iaload, 1) := by decide +kernel
theorem dX9_search_135 : decode cX9_search 135 = .ok (.iastore, 1) := by decide +kernel
theorem dX9_search_136 : decode cX9_search 136 = .ok (.iinc 2 1, 3) := by decide +kernel
theorem dX9_search_139 : decode cX9_search 139 = .ok (.goto (-23), 3) := by decide +kernel
theorem dX9_search_142 : decode cX9_search 142 = .ok (.iload_n 1, 1) := by decide +kernel
theorem dX9_search_143 : decode cX9_search 143 = .ok (.ireturn, 1) := by decide +kernel
theorem dX9_suggested_0 : decode cX9_suggested 0 = .ok (.aload_n 0, 1) := by decide +kernel
theorem dX9_suggested_1 : decode cX9_suggested 1 = .ok (.iconst 0, 1) := by decide +kernel
theorem dX9_suggested_2 : decode cX9_suggested 2 = .ok (.putfield 41, 3) := by decide +kernel
theorem dX9_suggested_5 : decode cX9_suggested 5 = .ok (.aload_n 0, 1) := by decide +kernel
theorem dX9_suggested_6 : decode cX9_suggested 6 = .ok (.getfield 260, 3) := by decide +kernel
theorem dX9_suggested_9 : decode cX9_suggested 9 = .ok (.ifCond .ne 9, 3) := by decide +kernel
theorem dX9_suggested_12 : decode cX9_suggested 12 = .ok (.aload_n 0, 1) := by decide +kernel
theorem dX9_suggested_13 : decode cX9_suggested 13 = .ok (.iconst 1, 1) := by decide +kernel
theorem dX9_suggested_14 : decode cX9_suggested 14 = .ok (.invokevirtual 150, 3) := by decide +kernel
theorem dX9_suggested_17 : decode cX9_suggested 17 = .ok (.ireturn, 1) := by decide +kernel
theorem dX9_suggested_18 : decode cX9_suggested 18 = .ok (.iload_n 1, 1) := by decide +kernel
theorem dX9_suggested_19 : decode cX9_suggested 19 = .ok (.iconst 0, 1) := by decide +kernel
theorem dX9_suggested_20 : decode cX9_suggested 20 = .ok (.aload_n 0, 1) := by decide +kernel
theorem dX9_suggested_21 : decode cX9_suggested 21 = .ok (.getfield 260, 3) := by decide +kernel
theorem dX9_suggested_24 : decode cX9_suggested 24 = .ok (.iconst 1, 1) := by decide +kernel
theorem dX9_suggested_25 : decode cX9_suggested 25 = .ok (.isub, 1) := by decide +kernel
theorem dX9_suggested_26 : decode cX9_suggested 26 = .ok (.invokestatic 74, 3) := by decide +kernel
theorem dX9_suggested_29 : decode cX9_suggested 29 = .ok (.ifCond .eq 12, 3) := by decide +kernel
theorem dX9_suggested_32 : decode cX9_suggested 32 = .ok (.aload_n 0, 1) := by decide +kernel
theorem dX9_suggested_33 : decode cX9_suggested 33 = .ok (.getfield 29, 3) := by decide +kernel
theorem dX9_suggested_36 : decode cX9_suggested 36 = .ok (.iload_n 1, 1) := by decide +kernel
theorem dX9_suggested_37 : decode cX9_suggested 37 = .ok (.iaload, 1) := by decide +kernel
theorem dX9_suggested_38 : decode cX9_suggested 38 = .ok (.goto 8, 3) := by decide +kernel
theorem dX9_suggested_41 : decode cX9_suggested 41 = .ok (.aload_n 0, 1) := by decide +kernel
theorem dX9_suggested_42 : decode cX9_suggested 42 = .ok (.iconst 2, 1) := by decide +kernel
theorem dX9_suggested_43 : decode cX9_suggested 43 = .ok (.invokevirtual 150, 3) := by decide +kernel
theorem dX9_suggested_46 : decode cX9_suggested 46 = .ok (.ireturn, 1) := by decide +kernel
theorem dX9_adopt_0 : decode cX9_adopt 0 = .ok (.aload_n 0, 1) := by decide +kernel
theorem dX9_adopt_1 : decode cX9_adopt 1 = .ok (.iconst 0, 1) := by decide +kernel
theorem dX9_adopt_2 : decode cX9_adopt 2 = .ok (.putfield 41, 3) := by decide +kernel
theorem dX9_adopt_5 : decode cX9_adopt 5 = .ok (.aload_n 0, 1) := by decide +kernel
theorem dX9_adopt_6 : decode cX9_adopt 6 = .ok (.getfield 260, 3) := by decide +kernel
theorem dX9_adopt_9 : decode cX9_adopt 9 = .ok (.ifCond .eq 12, 3) := by decide +kernel
theorem dX9_adopt_12 : decode cX9_adopt 12 = .ok (.aload_n 0, 1) := by decide +kernel
theorem dX9_adopt_13 : decode cX9_adopt 13 = .ok (.getfield 9, 3) := by decide +kernel
theorem dX9_adopt_16 : decode cX9_adopt 16 = .ok (.iconst 0, 1) := by decide +kernel
theorem dX9_adopt_17 : decode cX9_adopt 17 = .ok (.iaload, 1) := by decide +kernel
theorem dX9_adopt_18 : decode cX9_adopt 18 = .ok (.ifCond .ne 9, 3) := by decide +kernel
theorem dX9_adopt_21 : decode cX9_adopt 21 = .ok (.aload_n 0, 1) := by decide +kernel
theorem dX9_adopt_22 : decode cX9_adopt 22 = .ok (.iconst 1, 1) := by decide +kernel
theorem dX9_adopt_23 : decode cX9_adopt 23 = .ok (.invokevirtual 150, 3) := by decide +kernel
theorem dX9_adopt_26 : decode cX9_adopt 26 = .ok (.ireturn, 1) := by decide +kernel
theorem dX9_adopt_27 : decode cX9_adopt 27 = .ok (.aload_n 0, 1) := by decide +kernel
theorem dX9_adopt_28 : decode cX9_adopt 28 = .ok (.getfield 9, 3) := by decide +kernel
theorem dX9_adopt_31 : decode cX9_adopt 31 = .ok (.iconst 2, 1) := by decide +kernel
theorem dX9_adopt_32 : decode cX9_adopt 32 = .ok (.iaload, 1) := by decide +kernel
theorem dX9_adopt_33 : decode cX9_adopt 33 = .ok (.iconst 1, 1) := by decide +kernel
theorem dX9_adopt_34 : decode cX9_adopt 34 = .ok (.if_icmp .ne 16, 3) := by decide +kernel
theorem dX9_adopt_37 : decode cX9_adopt 37 = .ok (.aload_n 0, 1) := by decide +kernel
theorem dX9_adopt_38 : decode cX9_adopt 38 = .ok (.getfield 260, 3) := by decide +kernel
theorem dX9_adopt_41 : decode cX9_adopt 41 = .ok (.aload_n 0, 1) := by decide +kernel
theorem dX9_adopt_42 : decode cX9_adopt 42 = .ok (.getfield 9, 3) := by decide +kernel
theorem dX9_adopt_45 : decode cX9_adopt 45 = .ok (.iconst 0, 1) := by decide +kernel
theorem dX9_adopt_46 : decode cX9_adopt 46 = .ok (.iaload, 1) := by decide +kernel
theorem dX9_adopt_47 : decode cX9_adopt 47 = .ok (.if_icmp .eq 9, 3) := by decide +kernel
theorem dX9_adopt_50 : decode cX9_adopt 50 = .ok (.aload_n 0, 1) := by decide +kernel
theorem dX9_adopt_51 : decode cX9_adopt 51 = .ok (.iconst 2, 1) := by decide +kernel
theorem dX9_adopt_52 : decode cX9_adopt 52 = .ok (.invokevirtual 150, 3) := by decide +kernel
theorem dX9_adopt_55 : decode cX9_adopt 55 = .ok (.ireturn, 1) := by decide +kernel
theorem dX9_adopt_56 : decode cX9_adopt 56 = .ok (.aload_n 0, 1) := by decide +kernel
theorem dX9_adopt_57 : decode cX9_adopt 57 = .ok (.invokevirtual 47, 3) := by decide +kernel
theorem dX9_adopt_60 : decode cX9_adopt 60 = .ok (.aload_n 0, 1) := by decide +kernel
theorem dX9_adopt_61 : decode cX9_adopt 61 = .ok (.getfield 9, 3) := by decide +kernel
theorem dX9_adopt_64 : decode cX9_adopt 64 = .ok (.iconst 1, 1) := by decide +kernel
theorem dX9_adopt_65 : decode cX9_adopt 65 = .ok (.aload_n 0, 1) := by decide +kernel
theorem dX9_adopt_66 : decode cX9_adopt 66 = .ok (.getfield 260, 3) := by decide +kernel
theorem dX9_adopt_69 : decode cX9_adopt 69 = .ok (.iastore, 1) := by decide +kernel
theorem dX9_adopt_70 : decode cX9_adopt 70 = .ok (.iconst 0, 1) := by decide +kernel
theorem dX9_adopt_71 : decode cX9_adopt 71 = .ok (.istore_n 1, 1) := by decide +kernel
theorem dX9_adopt_72 : decode cX9_adopt 72 = .ok (.iload_n 1, 1) := by decide +kernel
theorem dX9_adopt_73 : decode cX9_adopt 73 = .ok (.aload_n 0, 1) := by decide +kernel
theorem dX9_adopt_74 : decode cX9_adopt 74 = .ok (.getfield 260, 3) := by decide +kernel
theorem dX9_adopt_77 : decode cX9_adopt 77 = .ok (.if_icmp .ge 24, 3) := by decide +kernel
theorem dX9_adopt_80 : decode cX9_adopt 80 = .ok (.aload_n 0, 1) := by decide +kernel
theorem dX9_adopt_81 : decode cX9_adopt 81 = .ok (.getfield 9, 3) := by decide +kernel
theorem dX9_adopt_84 : decode cX9_adopt 84 = .ok (.bipush 35, 2) := by decide +kernel
theorem dX9_adopt_86 : decode cX9_adopt 86 = .ok (.iload_n 1, 1) := by decide +kernel
theorem dX9_adopt_87 : decode cX9_adopt 87 = .ok (.iadd, 1) := by decide +kernel
theorem dX9_adopt_88 : decode cX9_adopt 88 = .ok (.aload_n 0, 1) := by decide +kernel
theorem dX9_adopt_89 : decode cX9_adopt 89 = .ok (.getfield 29, 3) := by decide +kernel
theorem dX9_adopt_92 : decode cX9_adopt 92 = .ok (.iload_n 1, 1) := by decide +kernel
theorem dX9_adopt_93 : decode cX9_adopt 93 = .ok (.iaload, 1) := by decide +kernel
theorem dX9_adopt_94 : decode cX9_adopt 94 = .ok (.iastore, 1) := by decide +kernel
theorem dX9_adopt_95 : decode cX9_adopt 95 = .ok (.iinc 1 1, 3) := by decide +kernel
theorem dX9_adopt_98 : decode cX9_adopt 98 = .ok (.goto (-26), 3) := by decide +kernel
theorem dX9_adopt_101 : decode cX9_adopt 101 = .ok (.aload_n 0, 1) := by decide +kernel
theorem dX9_adopt_102 : decode cX9_adopt 102 = .ok (.invokevirtual 184, 3) := by decide +kernel
theorem dX9_adopt_105 : decode cX9_adopt 105 = .ok (.ireturn, 1) := by decide +kernel
theorem dX9_count_0 : decode cX9_count 0 = .ok (.aload_n 0, 1) := by decide +kernel
theorem dX9_count_1 : decode cX9_count 1 = .ok (.iconst 0, 1) := by decide +kernel
theorem dX9_count_2 : decode cX9_count 2 = .ok (.putfield 41, 3) := by decide +kernel
theorem dX9_count_5 : decode cX9_count 5 = .ok (.iconst 0, 1) := by decide +kernel
theorem dX9_count_6 : decode cX9_count 6 = .ok (.istore_n 2, 1) := by decide +kernel
theorem dX9_count_7 : decode cX9_count 7 = .ok (.iload_n 1, 1) := by decide +kernel
theorem dX9_count_8 : decode cX9_count 8 = .ok (.tableswitch 75 7 10 #[32, 60, 65, 70], 32) := by decide +kernel
theorem dX9_count_40 : decode cX9_count 40 = .ok (.iconst 1, 1) := by decide +kernel
theorem dX9_count_41 : decode cX9_count 41 = .ok (.istore_n 3, 1) := by decide +kernel
theorem dX9_count_42 : decode cX9_count 42 = .ok (.iload_n 3, 1) := by decide +kernel
theorem dX9_count_43 : decode cX9_count 43 = .ok (.bipush 16, 2) := by decide +kernel
theorem dX9_count_45 : decode cX9_count 45 = .ok (.if_icmp .gt 21, 3) := by decide +kernel
theorem dX9_count_48 : decode cX9_count 48 = .ok (.iload_n 2, 1) := by decide +kernel
theorem dX9_count_49 : decode cX9_count 49 = .ok (.aload_n 0, 1) := by decide +kernel
theorem dX9_count_50 : decode cX9_count 50 = .ok (.getfield 9, 3) := by decide +kernel
theorem dX9_count_53 : decode cX9_count 53 = .ok (.bipush 6, 2) := by decide +kernel
theorem dX9_count_55 : decode cX9_count 55 = .ok (.iload_n 3, 1) := by decide +kernel
theorem dX9_count_56 : decode cX9_count 56 = .ok (.iadd, 1) := by decide +kernel
theorem dX9_count_57 : decode cX9_count 57 = .ok (.iaload, 1) := by decide +kernel
theorem dX9_count_58 : decode cX9_count 58 = .ok (.iadd, 1) := by decide +kernel
theorem dX9_count_59 : decode cX9_count 59 = .ok (.istore_n 2, 1) := by decide +kernel
theorem dX9_count_60 : decode cX9_count 60 = .ok (.iinc 3 1, 3) := by decide +kernel
theorem dX9_count_63 : decode cX9_count 63 = .ok (.goto (-21), 3) := by decide +kernel
theorem dX9_count_66 : decode cX9_count 66 = .ok (.iload_n 2, 1) := by decide +kernel
theorem dX9_count_67 : decode cX9_count 67 = .ok (.ireturn, 1) := by decide +kernel
theorem dX9_count_68 : decode cX9_count 68 = .ok (.aload_n 0, 1) := by decide +kernel
theorem dX9_count_69 : decode cX9_count 69 = .ok (.getfield 153, 3) := by decide +kernel
theorem dX9_count_72 : decode cX9_count 72 = .ok (.ireturn, 1) := by decide +kernel
theorem dX9_count_73 : decode cX9_count 73 = .ok (.aload_n 0, 1) := by decide +kernel
theorem dX9_count_74 : decode cX9_count 74 = .ok (.getfield 44, 3) := by decide +kernel
theorem dX9_count_77 : decode cX9_count 77 = .ok (.ireturn, 1) := by decide +kernel
theorem dX9_count_78 : decode cX9_count 78 = .ok (.aload_n 0, 1) := by decide +kernel
theorem dX9_count_79 : decode cX9_count 79 = .ok (.getfield 260, 3) := by decide +kernel
theorem dX9_count_82 : decode cX9_count 82 = .ok (.ireturn, 1) := by decide +kernel
theorem dX9_count_83 : decode cX9_count 83 = .ok (.iload_n 1, 1) := by decide +kernel
theorem dX9_count_84 : decode cX9_count 84 = .ok (.iconst 0, 1) := by decide +kernel
theorem dX9_count_85 : decode cX9_count 85 = .ok (.bipush 6, 2) := by decide +kernel
theorem dX9_count_87 : decode cX9_count 87 = .ok (.invokestatic 74, 3) := by decide +kernel
theorem dX9_count_90 : decode cX9_count 90 = .ok (.ifCond .eq 12, 3) := by decide +kernel
theorem dX9_count_93 : decode cX9_count 93 = .ok (.aload_n 0, 1) := by decide +kernel
theorem dX9_count_94 : decode cX9_count 94 = .ok (.getfield 9, 3) := by decide +kernel
theorem dX9_count_97 : decode cX9_count 97 = .ok (.iload_n 1, 1) := by decide +kernel
theorem dX9_count_98 : decode cX9_count 98 = .ok (.iaload, 1) := by decide +kernel
theorem dX9_count_99 : decode cX9_count 99 = .ok (.goto 8, 3) := by decide +kernel
theorem dX9_count_102 : decode cX9_count 102 = .ok (.aload_n 0, 1) := by decide +kernel
theorem dX9_count_103 : decode cX9_count 103 = .ok (.iconst 1, 1) := by decide +kernel
theorem dX9_count_104 : decode cX9_count 104 = .ok (.invokevirtual 150, 3) := by decide +kernel
theorem dX9_count_107 : decode cX9_count 107 = .ok (.ireturn, 1) := by decide +kernel
theorem dX9_undo_0 : decode cX9_undo 0 = .ok (.aload_n 0, 1) := by decide +kernel
theorem dX9_undo_1 : decode cX9_undo 1 = .ok (.iconst 0, 1) := by decide +kernel
theorem dX9_undo_2 : decode cX9_undo 2 = .ok (.putfield 41, 3) := by decide +kernel
theorem dX9_undo_5 : decode cX9_undo 5 = .ok (.aload_n 0, 1) := by decide +kernel
theorem dX9_undo_6 : decode cX9_undo 6 = .ok (.getfield 44, 3) := by decide +kernel
theorem dX9_undo_9 : decode cX9_undo 9 = .ok (.ifCond .ne 9, 3) := by decide +kernel
theorem dX9_undo_12 : decode cX9_undo 12 = .ok (.aload_n 0, 1) := by decide +kernel
theorem dX9_undo_13 : decode cX9_undo 13 = .ok (.iconst 1, 1) := by decide +kernel
theorem dX9_undo_14 : decode cX9_undo 14 = .ok (.invokevirtual 150, 3) := by decide +kernel
theorem dX9_undo_17 : decode cX9_undo 17 = .ok (.ireturn, 1) := by decide +kernel
theorem dX9_undo_18 : decode cX9_undo 18 = .ok (.aload_n 0, 1) := by decide +kernel
theorem dX9_undo_19 : decode cX9_undo 19 = .ok (.dup, 1) := by decide +kernel
theorem dX9_undo_20 : decode cX9_undo 20 = .ok (.getfield 44, 3) := by decide +kernel
theorem dX9_undo_23 : decode cX9_undo 23 = .ok (.iconst 1, 1) := by decide +kernel
theorem dX9_undo_24 : decode cX9_undo 24 = .ok (.isub, 1) := by decide +kernel
theorem dX9_undo_25 : decode cX9_undo 25 = .ok (.putfield 44, 3) := by decide +kernel
theorem dX9_undo_28 : decode cX9_undo 28 = .ok (.iconst 0, 1) := by decide +kernel
theorem dX9_undo_29 : decode cX9_undo 29 = .ok (.istore_n 1, 1) := by decide +kernel
theorem dX9_undo_30 : decode cX9_undo 30 = .ok (.iload_n 1, 1) := by decide +kernel
theorem dX9_undo_31 : decode cX9_undo 31 = .ok (.bipush 80, 2) := by decide +kernel
theorem dX9_undo_33 : decode cX9_undo 33 = .ok (.if_icmp .ge 29, 3) := by decide +kernel
theorem dX9_undo_36 : decode cX9_undo 36 = .ok (.aload_n 0, 1) := by decide +kernel
theorem dX9_undo_37 : decode cX9_undo 37 = .ok (.getfield 9, 3) := by decide +kernel
theorem dX9_undo_40 : decode cX9_undo 40 = .ok (.iload_n 1, 1) := by decide +kernel
theorem dX9_undo_41 : decode cX9_undo 41 = .ok (.aload_n 0, 1) := by decide +kernel
theorem dX9_undo_42 : decode cX9_undo 42 = .ok (.getfield 16, 3) := by decide +kernel
theorem dX9_undo_45 : decode cX9_undo 45 = .ok (.bipush 80, 2) := by decide +kernel
theorem dX9_undo_47 : decode cX9_undo 47 = .ok (.aload_n 0, 1) := by decide +kernel
theorem dX9_undo_48 : decode cX9_undo 48 = .ok (.getfield 44, 3) := by decide +kernel
theorem dX9_undo_51 : decode cX9_undo 51 = .ok (.imul, 1) := by decide +kernel
theorem dX9_undo_52 : decode cX9_undo 52 = .ok (.iload_n 1, 1) := by decide +kernel
theorem dX9_undo_53 : decode cX9_undo 53 = .ok (.iadd, 1) := by decide +kernel
theorem dX9_undo_54 : decode cX9_undo 54 = .ok (.iaload, 1) := by decide +kernel
theorem dX9_undo_55 : decode cX9_undo 55 = .ok (.iastore, 1) := by decide +kernel
theorem dX9_undo_56 : decode cX9_undo 56 = .ok (.iinc 1 1, 3) := by decide +kernel
theorem dX9_undo_59 : decode cX9_undo 59 = .ok (.goto (-29), 3) := by decide +kernel
theorem dX9_undo_62 : decode cX9_undo 62 = .ok (.aload_n 0, 1) := by decide +kernel
theorem dX9_undo_63 : decode cX9_undo 63 = .ok (.getfield 44, 3) := by decide +kernel
theorem dX9_undo_66 : decode cX9_undo 66 = .ok (.ireturn, 1) := by decide +kernel
theorem dX9_save_0 : decode cX9_save 0 = .ok (.aload_n 0, 1) := by decide +kernel
theorem dX9_save_1 : decode cX9_save 1 = .ok (.iconst 0, 1) := by decide +kernel
theorem dX9_save_2 : decode cX9_save 2 = .ok (.putfield 41, 3) := by decide +kernel
theorem dX9_save_5 : decode cX9_save 5 = .ok (.aload_n 0, 1) := by decide +kernel
theorem dX9_save_6 : decode cX9_save 6 = .ok (.iconst 1, 1) := by decide +kernel
theorem dX9_save_7 : decode cX9_save 7 = .ok (.putfield 263, 3) := by decide +kernel
theorem dX9_save_10 : decode cX9_save 10 = .ok (.iconst 0, 1) := by decide +kernel
theorem dX9_save_11 : decode cX9_save 11 = .ok (.istore_n 1, 1) := by decide +kernel
theorem dX9_save_12 : decode cX9_save 12 = .ok (.iload_n 1, 1) := by decide +kernel
theorem dX9_save_13 : decode cX9_save 13 = .ok (.bipush 80, 2) := by decide +kernel
theorem dX9_save_15 : decode cX9_save 15 = .ok (.if_icmp .ge 21, 3) := by decide +kernel
theorem dX9_save_18 : decode cX9_save 18 = .ok (.aload_n 0, 1) := by decide +kernel
theorem dX9_save_19 : decode cX9_save 19 = .ok (.getfield 13, 3) := by decide +kernel
theorem dX9_save_22 : decode cX9_save 22 = .ok (.iload_n 1, 1) := by decide +kernel
theorem dX9_save_23 : decode cX9_save 23 = .ok (.aload_n 0, 1) := by decide +kernel
theorem dX9_save_24 : decode cX9_save 24 = .ok (.getfield 9, 3) := by decide +kernel
theorem dX9_save_27 : decode cX9_save 27 = .ok (.iload_n 1, 1) := by decide +kernel
theorem dX9_save_28 : decode cX9_save 28 = .ok (.iaload, 1) := by decide +kernel
theorem dX9_save_29 : decode cX9_save 29 = .ok (.iastore, 1) := by decide +kernel
theorem dX9_save_30 : decode cX9_save 30 = .ok (.iinc 1 1, 3) := by decide +kernel
theorem dX9_save_33 : decode cX9_save 33 = .ok (.goto (-21), 3) := by decide +kernel
theorem dX9_save_36 : decode cX9_save 36 = .ok (.aload_n 0, 1) := by decide +kernel
theorem dX9_save_37 : decode cX9_save 37 = .ok (.getfield 9, 3) := by decide +kernel
theorem dX9_save_40 : decode cX9_save 40 = .ok (.iconst 0, 1) := by decide +kernel
theorem dX9_save_41 : decode cX9_save 41 = .ok (.iaload, 1) := by decide +kernel
theorem dX9_save_42 : decode cX9_save 42 = .ok (.ireturn, 1) := by decide +kernel
theorem dX9_restore_0 : decode cX9_restore 0 = .ok (.aload_n 0, 1) := by decide +kernel
theorem dX9_restore_1 : decode cX9_restore 1 = .ok (.iconst 0, 1) := by decide +kernel
theorem dX9_restore_2 : decode cX9_restore 2 = .ok (.putfield 41, 3) := by decide +kernel
theorem dX9_restore_5 : decode cX9_restore 5 = .ok (.aload_n 0, 1) := by decide +kernel
theorem dX9_restore_6 : decode cX9_restore 6 = .ok (.getfield 263, 3) := by decide +kernel
theorem dX9_restore_9 : decode cX9_restore 9 = .ok (.ifCond .ne 9, 3) := by decide +kernel
theorem dX9_restore_12 : decode cX9_restore 12 = .ok (.aload_n 0, 1) := by decide +kernel
theorem dX9_restore_13 : decode cX9_restore 13 = .ok (.iconst 1, 1) := by decide +kernel
theorem dX9_restore_14 : decode cX9_restore 14 = .ok (.invokevirtual 150, 3) := by decide +kernel
theorem dX9_restore_17 : decode cX9_restore 17 = .ok (.ireturn, 1) := by decide +kernel
theorem dX9_restore_18 : decode cX9_restore 18 = .ok (.aload_n 0, 1) := by decide +kernel
theorem dX9_restore_19 : decode cX9_restore 19 = .ok (.invokevirtual 47, 3) := by decide +kernel
theorem dX9_restore_22 : decode cX9_restore 22 = .ok (.iconst 0, 1) := by decide +kernel
theorem dX9_restore_23 : decode cX9_restore 23 = .ok (.istore_n 1, 1) := by decide +kernel
theorem dX9_restore_24 : decode cX9_restore 24 = .ok (.iload_n 1, 1) := by decide +kernel
theorem dX9_restore_25 : decode cX9_restore 25 = .ok (.bipush 80, 2) := by decide +kernel
theorem dX9_restore_27 : decode cX9_restore 27 = .ok (.if_icmp .ge 21, 3) := by decide +kernel
theorem dX9_restore_30 : decode cX9_restore 30 = .ok (.aload_n 0, 1) := by decide +kernel
theorem dX9_restore_31 : decode cX9_restore 31 = .ok (.getfield 9, 3) := by decide +kernel
theorem dX9_restore_34 : decode cX9_restore 34 = .ok (.iload_n 1, 1) := by decide +kernel
theorem dX9_restore_35 : decode cX9_restore 35 = .ok (.aload_n 0, 1) := by decide +kernel
theorem dX9_restore_36 : decode cX9_restore 36 = .ok (.getfield 13, 3) := by decide +kernel
theorem dX9_restore_39 : decode cX9_restore 39 = .ok (.iload_n 1, 1) := by decide +kernel
theorem dX9_restore_40 : decode cX9_restore 40 = .ok (.iaload, 1) := by decide +kernel
theorem dX9_restore_41 : decode cX9_restore 41 = .ok (.iastore, 1) := by decide +kernel
theorem dX9_restore_42 : decode cX9_restore 42 = .ok (.iinc 1 1, 3) := by decide +kernel
theorem dX9_restore_45 : decode cX9_restore 45 = .ok (.goto (-21), 3) := by decide +kernel
theorem dX9_restore_48 : decode cX9_restore 48 = .ok (.aload_n 0, 1) := by decide +kernel
theorem dX9_restore_49 : decode cX9_restore 49 = .ok (.getfield 9, 3) := by decide +kernel
theorem dX9_restore_52 : decode cX9_restore 52 = .ok (.iconst 0, 1) := by decide +kernel
theorem dX9_restore_53 : decode cX9_restore 53 = .ok (.iaload, 1) := by decide +kernel
theorem dX9_restore_54 : decode cX9_restore 54 = .ok (.ireturn, 1) := by decide +kernel
