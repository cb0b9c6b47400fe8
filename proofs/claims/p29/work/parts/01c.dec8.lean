/-! decode rows, as the printed names have them -/
theorem dX8_init_0 : decode cX8_init 0 = .ok (.aload_n 0, 1) := by decide +kernel
theorem dX8_init_1 : decode cX8_init 1 = .ok (.invokespecial 3, 3) := by decide +kernel
theorem dX8_init_4 : decode cX8_init 4 = .ok (.aload_n 0, 1) := by decide +kernel
theorem dX8_init_5 : decode cX8_init 5 = .ok (.new 9, 3) := by decide +kernel
theorem dX8_init_8 : decode cX8_init 8 = .ok (.dup, 1) := by decide +kernel
theorem dX8_init_9 : decode cX8_init 9 = .ok (.invokespecial 11, 3) := by decide +kernel
theorem dX8_init_12 : decode cX8_init 12 = .ok (.putfield 12, 3) := by decide +kernel
theorem dX8_init_15 : decode cX8_init 15 = .ok (.aload_n 0, 1) := by decide +kernel
theorem dX8_init_16 : decode cX8_init 16 = .ok (.new 9, 3) := by decide +kernel
theorem dX8_init_19 : decode cX8_init 19 = .ok (.dup, 1) := by decide +kernel
theorem dX8_init_20 : decode cX8_init 20 = .ok (.invokespecial 11, 3) := by decide +kernel
theorem dX8_init_23 : decode cX8_init 23 = .ok (.putfield 18, 3) := by decide +kernel
theorem dX8_init_26 : decode cX8_init 26 = .ok (.aload_n 0, 1) := by decide +kernel
theorem dX8_init_27 : decode cX8_init 27 = .ok (.iconst 0, 1) := by decide +kernel
theorem dX8_init_28 : decode cX8_init 28 = .ok (.putfield 21, 3) := by decide +kernel
theorem dX8_init_31 : decode cX8_init 31 = .ok (.aload_n 0, 1) := by decide +kernel
theorem dX8_init_32 : decode cX8_init 32 = .ok (.new 25, 3) := by decide +kernel
theorem dX8_init_35 : decode cX8_init 35 = .ok (.dup, 1) := by decide +kernel
theorem dX8_init_36 : decode cX8_init 36 = .ok (.invokespecial 27, 3) := by decide +kernel
theorem dX8_init_39 : decode cX8_init 39 = .ok (.putfield 28, 3) := by decide +kernel
theorem dX8_init_42 : decode cX8_init 42 = .ok (.aload_n 0, 1) := by decide +kernel
theorem dX8_init_43 : decode cX8_init 43 = .ok (.new 32, 3) := by decide +kernel
theorem dX8_init_46 : decode cX8_init 46 = .ok (.dup, 1) := by decide +kernel
theorem dX8_init_47 : decode cX8_init 47 = .ok (.invokespecial 34, 3) := by decide +kernel
theorem dX8_init_50 : decode cX8_init 50 = .ok (.putfield 35, 3) := by decide +kernel
theorem dX8_init_53 : decode cX8_init 53 = .ok (.aload_n 0, 1) := by decide +kernel
theorem dX8_init_54 : decode cX8_init 54 = .ok (.new 39, 3) := by decide +kernel
theorem dX8_init_57 : decode cX8_init 57 = .ok (.dup, 1) := by decide +kernel
theorem dX8_init_58 : decode cX8_init 58 = .ok (.invokespecial 41, 3) := by decide +kernel
theorem dX8_init_61 : decode cX8_init 61 = .ok (.putfield 42, 3) := by decide +kernel
theorem dX8_init_64 : decode cX8_init 64 = .ok (.aload_n 0, 1) := by decide +kernel
theorem dX8_init_65 : decode cX8_init 65 = .ok (.bipush 6, 2) := by decide +kernel
theorem dX8_init_67 : decode cX8_init 67 = .ok (.anewarray 46, 3) := by decide +kernel
theorem dX8_init_70 : decode cX8_init 70 = .ok (.putfield 48, 3) := by decide +kernel
theorem dX8_init_73 : decode cX8_init 73 = .ok (.iconst 0, 1) := by decide +kernel
theorem dX8_init_74 : decode cX8_init 74 = .ok (.istore_n 1, 1) := by decide +kernel
theorem dX8_init_75 : decode cX8_init 75 = .ok (.iload_n 1, 1) := by decide +kernel
theorem dX8_init_76 : decode cX8_init 76 = .ok (.bipush 6, 2) := by decide +kernel
theorem dX8_init_78 : decode cX8_init 78 = .ok (.if_icmp .ge 22, 3) := by decide +kernel
theorem dX8_init_81 : decode cX8_init 81 = .ok (.aload_n 0, 1) := by decide +kernel
theorem dX8_init_82 : decode cX8_init 82 = .ok (.getfield 48, 3) := by decide +kernel
theorem dX8_init_85 : decode cX8_init 85 = .ok (.iload_n 1, 1) := by decide +kernel
theorem dX8_init_86 : decode cX8_init 86 = .ok (.new 46, 3) := by decide +kernel
theorem dX8_init_89 : decode cX8_init 89 = .ok (.dup, 1) := by decide +kernel
theorem dX8_init_90 : decode cX8_init 90 = .ok (.invokespecial 52, 3) := by decide +kernel
theorem dX8_init_93 : decode cX8_init 93 = .ok (.aastore, 1) := by decide +kernel
theorem dX8_init_94 : decode cX8_init 94 = .ok (.iinc 1 1, 3) := by decide +kernel
theorem dX8_init_97 : decode cX8_init 97 = .ok (.goto (-22), 3) := by decide +kernel
theorem dX8_init_100 : decode cX8_init 100 = .ok (.aload_n 0, 1) := by decide +kernel
theorem dX8_init_101 : decode cX8_init 101 = .ok (.new 53, 3) := by decide +kernel
theorem dX8_init_104 : decode cX8_init 104 = .ok (.dup, 1) := by decide +kernel
theorem dX8_init_105 : decode cX8_init 105 = .ok (.invokespecial 55, 3) := by decide +kernel
theorem dX8_init_108 : decode cX8_init 108 = .ok (.putfield 56, 3) := by decide +kernel
theorem dX8_init_111 : decode cX8_init 111 = .ok (.aload_n 0, 1) := by decide +kernel
theorem dX8_init_112 : decode cX8_init 112 = .ok (.new 53, 3) := by decide +kernel
theorem dX8_init_115 : decode cX8_init 115 = .ok (.dup, 1) := by decide +kernel
theorem dX8_init_116 : decode cX8_init 116 = .ok (.invokespecial 55, 3) := by decide +kernel
theorem dX8_init_119 : decode cX8_init 119 = .ok (.putfield 60, 3) := by decide +kernel
theorem dX8_init_122 : decode cX8_init 122 = .ok (.aload_n 0, 1) := by decide +kernel
theorem dX8_init_123 : decode cX8_init 123 = .ok (.new 53, 3) := by decide +kernel
theorem dX8_init_126 : decode cX8_init 126 = .ok (.dup, 1) := by decide +kernel
theorem dX8_init_127 : decode cX8_init 127 = .ok (.invokespecial 55, 3) := by decide +kernel
theorem dX8_init_130 : decode cX8_init 130 = .ok (.putfield 63, 3) := by decide +kernel
theorem dX8_init_133 : decode cX8_init 133 = .ok (.return_, 1) := by decide +kernel
theorem dX8_bumper_0 : decode cX8_bumper 0 = .ok (.aload_n 0, 1) := by decide +kernel
theorem dX8_bumper_1 : decode cX8_bumper 1 = .ok (.getfield 12, 3) := by decide +kernel
theorem dX8_bumper_4 : decode cX8_bumper 4 = .ok (.getfield 66, 3) := by decide +kernel
theorem dX8_bumper_7 : decode cX8_bumper 7 = .ok (.astore 4, 2) := by decide +kernel
theorem dX8_bumper_9 : decode cX8_bumper 9 = .ok (.iload_n 1, 1) := by decide +kernel
theorem dX8_bumper_10 : decode cX8_bumper 10 = .ok (.ifCond .lt 23, 3) := by decide +kernel
theorem dX8_bumper_13 : decode cX8_bumper 13 = .ok (.iload_n 1, 1) := by decide +kernel
theorem dX8_bumper_14 : decode cX8_bumper 14 = .ok (.bipush 99, 2) := by decide +kernel
theorem dX8_bumper_16 : decode cX8_bumper 16 = .ok (.if_icmp .gt 17, 3) := by decide +kernel
theorem dX8_bumper_19 : decode cX8_bumper 19 = .ok (.iload_n 2, 1) := by decide +kernel
theorem dX8_bumper_20 : decode cX8_bumper 20 = .ok (.invokestatic 69, 3) := by decide +kernel
theorem dX8_bumper_23 : decode cX8_bumper 23 = .ok (.ifCond .eq 10, 3) := by decide +kernel
theorem dX8_bumper_26 : decode cX8_bumper 26 = .ok (.iload_n 3, 1) := by decide +kernel
theorem dX8_bumper_27 : decode cX8_bumper 27 = .ok (.invokestatic 73, 3) := by decide +kernel
theorem dX8_bumper_30 : decode cX8_bumper 30 = .ok (.ifCond .ne 6, 3) := by decide +kernel
theorem dX8_bumper_33 : decode cX8_bumper 33 = .ok (.bipush (-2), 2) := by decide +kernel
theorem dX8_bumper_35 : decode cX8_bumper 35 = .ok (.ireturn, 1) := by decide +kernel
theorem dX8_bumper_36 : decode cX8_bumper 36 = .ok (.aload 4, 2) := by decide +kernel
theorem dX8_bumper_38 : decode cX8_bumper 38 = .ok (.getfield 76, 3) := by decide +kernel
theorem dX8_bumper_41 : decode cX8_bumper 41 = .ok (.ifCond .le 68, 3) := by decide +kernel
theorem dX8_bumper_44 : decode cX8_bumper 44 = .ok (.aload_n 0, 1) := by decide +kernel
theorem dX8_bumper_45 : decode cX8_bumper 45 = .ok (.getfield 56, 3) := by decide +kernel
theorem dX8_bumper_48 : decode cX8_bumper 48 = .ok (.aload 4, 2) := by decide +kernel
theorem dX8_bumper_50 : decode cX8_bumper 50 = .ok (.getfield 80, 3) := by decide +kernel
theorem dX8_bumper_53 : decode cX8_bumper 53 = .ok (.aload 4, 2) := by decide +kernel
theorem dX8_bumper_55 : decode cX8_bumper 55 = .ok (.getfield 76, 3) := by decide +kernel
theorem dX8_bumper_58 : decode cX8_bumper 58 = .ok (.iconst 1, 1) := by decide +kernel
theorem dX8_bumper_59 : decode cX8_bumper 59 = .ok (.isub, 1) := by decide +kernel
theorem dX8_bumper_60 : decode cX8_bumper 60 = .ok (.aaload, 1) := by decide +kernel
theorem dX8_bumper_61 : decode cX8_bumper 61 = .ok (.invokevirtual 84, 3) := by decide +kernel
theorem dX8_bumper_64 : decode cX8_bumper 64 = .ok (.aload_n 0, 1) := by decide +kernel
theorem dX8_bumper_65 : decode cX8_bumper 65 = .ok (.getfield 63, 3) := by decide +kernel
theorem dX8_bumper_68 : decode cX8_bumper 68 = .ok (.iload_n 1, 1) := by decide +kernel
theorem dX8_bumper_69 : decode cX8_bumper 69 = .ok (.i2l, 1) := by decide +kernel
theorem dX8_bumper_70 : decode cX8_bumper 70 = .ok (.invokevirtual 88, 3) := by decide +kernel
theorem dX8_bumper_73 : decode cX8_bumper 73 = .ok (.aload_n 0, 1) := by decide +kernel
theorem dX8_bumper_74 : decode cX8_bumper 74 = .ok (.getfield 56, 3) := by decide +kernel
theorem dX8_bumper_77 : decode cX8_bumper 77 = .ok (.aload_n 0, 1) := by decide +kernel
theorem dX8_bumper_78 : decode cX8_bumper 78 = .ok (.getfield 63, 3) := by decide +kernel
theorem dX8_bumper_81 : decode cX8_bumper 81 = .ok (.invokevirtual 92, 3) := by decide +kernel
theorem dX8_bumper_84 : decode cX8_bumper 84 = .ok (.aload_n 0, 1) := by decide +kernel
theorem dX8_bumper_85 : decode cX8_bumper 85 = .ok (.getfield 56, 3) := by decide +kernel
theorem dX8_bumper_88 : decode cX8_bumper 88 = .ok (.getfield 95, 3) := by decide +kernel
theorem dX8_bumper_91 : decode cX8_bumper 91 = .ok (.ifCond .ne 15, 3) := by decide +kernel
theorem dX8_bumper_94 : decode cX8_bumper 94 = .ok (.aload_n 0, 1) := by decide +kernel
theorem dX8_bumper_95 : decode cX8_bumper 95 = .ok (.getfield 56, 3) := by decide +kernel
theorem dX8_bumper_98 : decode cX8_bumper 98 = .ok (.getfield 98, 3) := by decide +kernel
theorem dX8_bumper_101 : decode cX8_bumper 101 = .ok (.lconst 0, 1) := by decide +kernel
theorem dX8_bumper_102 : decode cX8_bumper 102 = .ok (.lcmp, 1) := by decide +kernel
theorem dX8_bumper_103 : decode cX8_bumper 103 = .ok (.ifCond .lt 6, 3) := by decide +kernel
theorem dX8_bumper_106 : decode cX8_bumper 106 = .ok (.bipush (-3), 2) := by decide +kernel
theorem dX8_bumper_108 : decode cX8_bumper 108 = .ok (.ireturn, 1) := by decide +kernel
theorem dX8_bumper_109 : decode cX8_bumper 109 = .ok (.aload 4, 2) := by decide +kernel
theorem dX8_bumper_111 : decode cX8_bumper 111 = .ok (.getfield 76, 3) := by decide +kernel
theorem dX8_bumper_114 : decode cX8_bumper 114 = .ok (.bipush 6, 2) := by decide +kernel
theorem dX8_bumper_116 : decode cX8_bumper 116 = .ok (.if_icmp .lt 6, 3) := by decide +kernel
theorem dX8_bumper_119 : decode cX8_bumper 119 = .ok (.bipush (-4), 2) := by decide +kernel
theorem dX8_bumper_121 : decode cX8_bumper 121 = .ok (.ireturn, 1) := by decide +kernel
theorem dX8_bumper_122 : decode cX8_bumper 122 = .ok (.aload 4, 2) := by decide +kernel
theorem dX8_bumper_124 : decode cX8_bumper 124 = .ok (.getfield 76, 3) := by decide +kernel
theorem dX8_bumper_127 : decode cX8_bumper 127 = .ok (.istore 5, 2) := by decide +kernel
theorem dX8_bumper_129 : decode cX8_bumper 129 = .ok (.aload 4, 2) := by decide +kernel
theorem dX8_bumper_131 : decode cX8_bumper 131 = .ok (.getfield 80, 3) := by decide +kernel
theorem dX8_bumper_134 : decode cX8_bumper 134 = .ok (.iload 5, 2) := by decide +kernel
theorem dX8_bumper_136 : decode cX8_bumper 136 = .ok (.aaload, 1) := by decide +kernel
theorem dX8_bumper_137 : decode cX8_bumper 137 = .ok (.iload_n 1, 1) := by decide +kernel
theorem dX8_bumper_138 : decode cX8_bumper 138 = .ok (.i2l, 1) := by decide +kernel
theorem dX8_bumper_139 : decode cX8_bumper 139 = .ok (.invokevirtual 88, 3) := by decide +kernel
theorem dX8_bumper_142 : decode cX8_bumper 142 = .ok (.aload 4, 2) := by decide +kernel
theorem dX8_bumper_144 : decode cX8_bumper 144 = .ok (.getfield 102, 3) := by decide +kernel
theorem dX8_bumper_147 : decode cX8_bumper 147 = .ok (.iload 5, 2) := by decide +kernel
theorem dX8_bumper_149 : decode cX8_bumper 149 = .ok (.iload_n 2, 1) := by decide +kernel
theorem dX8_bumper_150 : decode cX8_bumper 150 = .ok (.iastore, 1) := by decide +kernel
theorem dX8_bumper_151 : decode cX8_bumper 151 = .ok (.aload 4, 2) := by decide +kernel
theorem dX8_bumper_153 : decode cX8_bumper 153 = .ok (.getfield 106, 3) := by decide +kernel
theorem dX8_bumper_156 : decode cX8_bumper 156 = .ok (.iload 5, 2) := by decide +kernel
theorem dX8_bumper_158 : decode cX8_bumper 158 = .ok (.aaload, 1) := by decide +kernel
theorem dX8_bumper_159 : decode cX8_bumper 159 = .ok (.iload_n 3, 1) := by decide +kernel
theorem dX8_bumper_160 : decode cX8_bumper 160 = .ok (.i2l, 1) := by decide +kernel
theorem dX8_bumper_161 : decode cX8_bumper 161 = .ok (.invokevirtual 88, 3) := by decide +kernel
theorem dX8_bumper_164 : decode cX8_bumper 164 = .ok (.aload 4, 2) := by decide +kernel
theorem dX8_bumper_166 : decode cX8_bumper 166 = .ok (.iload 5, 2) := by decide +kernel
theorem dX8_bumper_168 : decode cX8_bumper 168 = .ok (.iconst 1, 1) := by decide +kernel
theorem dX8_bumper_169 : decode cX8_bumper 169 = .ok (.iadd, 1) := by decide +kernel
theorem dX8_bumper_170 : decode cX8_bumper 170 = .ok (.putfield 76, 3) := by decide +kernel
theorem dX8_bumper_173 : decode cX8_bumper 173 = .ok (.iload 5, 2) := by decide +kernel
theorem dX8_bumper_175 : decode cX8_bumper 175 = .ok (.ireturn, 1) := by decide +kernel
theorem dX8_renew_0 : decode cX8_renew 0 = .ok (.aload_n 0, 1) := by decide +kernel
theorem dX8_renew_1 : decode cX8_renew 1 = .ok (.getfield 12, 3) := by decide +kernel
theorem dX8_renew_4 : decode cX8_renew 4 = .ok (.getfield 66, 3) := by decide +kernel
theorem dX8_renew_7 : decode cX8_renew 7 = .ok (.astore 4, 2) := by decide +kernel
theorem dX8_renew_9 : decode cX8_renew 9 = .ok (.aload_n 0, 1) := by decide +kernel
theorem dX8_renew_10 : decode cX8_renew 10 = .ok (.iload_n 1, 1) := by decide +kernel
theorem dX8_renew_11 : decode cX8_renew 11 = .ok (.invokevirtual 109, 3) := by decide +kernel
theorem dX8_renew_14 : decode cX8_renew 14 = .ok (.ifCond .eq 12, 3) := by decide +kernel
theorem dX8_renew_17 : decode cX8_renew 17 = .ok (.iload_n 2, 1) := by decide +kernel
theorem dX8_renew_18 : decode cX8_renew 18 = .ok (.ifCond .lt 8, 3) := by decide +kernel
theorem dX8_renew_21 : decode cX8_renew 21 = .ok (.iload_n 2, 1) := by decide +kernel
theorem dX8_renew_22 : decode cX8_renew 22 = .ok (.iconst 1, 1) := by decide +kernel
theorem dX8_renew_23 : decode cX8_renew 23 = .ok (.if_icmp .le 5, 3) := by decide +kernel
theorem dX8_renew_26 : decode cX8_renew 26 = .ok (.iconst (-1), 1) := by decide +kernel
theorem dX8_renew_27 : decode cX8_renew 27 = .ok (.ireturn, 1) := by decide +kernel
theorem dX8_renew_28 : decode cX8_renew 28 = .ok (.iload_n 2, 1) := by decide +kernel
theorem dX8_renew_29 : decode cX8_renew 29 = .ok (.ifCond .ne 13, 3) := by decide +kernel
theorem dX8_renew_32 : decode cX8_renew 32 = .ok (.iload_n 3, 1) := by decide +kernel
theorem dX8_renew_33 : decode cX8_renew 33 = .ok (.invokestatic 69, 3) := by decide +kernel
theorem dX8_renew_36 : decode cX8_renew 36 = .ok (.ifCond .ne 16, 3) := by decide +kernel
theorem dX8_renew_39 : decode cX8_renew 39 = .ok (.goto 10, 3) := by decide +kernel
theorem dX8_renew_42 : decode cX8_renew 42 = .ok (.iload_n 3, 1) := by decide +kernel
theorem dX8_renew_43 : decode cX8_renew 43 = .ok (.invokestatic 73, 3) := by decide +kernel
theorem dX8_renew_46 : decode cX8_renew 46 = .ok (.ifCond .ne 6, 3) := by decide +kernel
theorem dX8_renew_49 : decode cX8_renew 49 = .ok (.bipush (-2), 2) := by decide +kernel
theorem dX8_renew_51 : decode cX8_renew 51 = .ok (.ireturn, 1) := by decide +kernel
theorem dX8_renew_52 : decode cX8_renew 52 = .ok (.iload_n 2, 1) := by decide +kernel
theorem dX8_renew_53 : decode cX8_renew 53 = .ok (.ifCond .ne 14, 3) := by decide +kernel
theorem dX8_renew_56 : decode cX8_renew 56 = .ok (.aload 4, 2) := by decide +kernel
theorem dX8_renew_58 : decode cX8_renew 58 = .ok (.getfield 102, 3) := by decide +kernel
theorem dX8_renew_61 : decode cX8_renew 61 = .ok (.iload_n 1, 1) := by decide +kernel
theorem dX8_renew_62 : decode cX8_renew 62 = .ok (.iload_n 3, 1) := by decide +kernel
theorem dX8_renew_63 : decode cX8_renew 63 = .ok (.iastore, 1) := by decide +kernel
theorem dX8_renew_64 : decode cX8_renew 64 = .ok (.goto 15, 3) := by decide +kernel
theorem dX8_renew_67 : decode cX8_renew 67 = .ok (.aload 4, 2) := by decide +kernel
theorem dX8_renew_69 : decode cX8_renew 69 = .ok (.getfield 106, 3) := by decide +kernel
theorem dX8_renew_72 : decode cX8_renew 72 = .ok (.iload_n 1, 1) := by decide +kernel
theorem dX8_renew_73 : decode cX8_renew 73 = .ok (.aaload, 1) := by decide +kernel
theorem dX8_renew_74 : decode cX8_renew 74 = .ok (.iload_n 3, 1) := by decide +kernel
theorem dX8_renew_75 : decode cX8_renew 75 = .ok (.i2l, 1) := by decide +kernel
theorem dX8_renew_76 : decode cX8_renew 76 = .ok (.invokevirtual 88, 3) := by decide +kernel
theorem dX8_renew_79 : decode cX8_renew 79 = .ok (.aload 4, 2) := by decide +kernel
theorem dX8_renew_81 : decode cX8_renew 81 = .ok (.getfield 76, 3) := by decide +kernel
theorem dX8_renew_84 : decode cX8_renew 84 = .ok (.ireturn, 1) := by decide +kernel
theorem dX8_spring_0 : decode cX8_spring 0 = .ok (.iload_n 1, 1) := by decide +kernel
theorem dX8_spring_1 : decode cX8_spring 1 = .ok (.invokestatic 112, 3) := by decide +kernel
theorem dX8_spring_4 : decode cX8_spring 4 = .ok (.ifCond .ne 6, 3) := by decide +kernel
theorem dX8_spring_7 : decode cX8_spring 7 = .ok (.bipush (-2), 2) := by decide +kernel
theorem dX8_spring_9 : decode cX8_spring 9 = .ok (.ireturn, 1) := by decide +kernel
theorem dX8_spring_10 : decode cX8_spring 10 = .ok (.aload_n 0, 1) := by decide +kernel
theorem dX8_spring_11 : decode cX8_spring 11 = .ok (.getfield 12, 3) := by decide +kernel
theorem dX8_spring_14 : decode cX8_spring 14 = .ok (.getfield 66, 3) := by decide +kernel
theorem dX8_spring_17 : decode cX8_spring 17 = .ok (.getfield 115, 3) := by decide +kernel
theorem dX8_spring_20 : decode cX8_spring 20 = .ok (.istore_n 2, 1) := by decide +kernel
theorem dX8_spring_21 : decode cX8_spring 21 = .ok (.aload_n 0, 1) := by decide +kernel
theorem dX8_spring_22 : decode cX8_spring 22 = .ok (.getfield 12, 3) := by decide +kernel
theorem dX8_spring_25 : decode cX8_spring 25 = .ok (.getfield 66, 3) := by decide +kernel
theorem dX8_spring_28 : decode cX8_spring 28 = .ok (.iload_n 1, 1) := by decide +kernel
theorem dX8_spring_29 : decode cX8_spring 29 = .ok (.putfield 115, 3) := by decide +kernel
theorem dX8_spring_32 : decode cX8_spring 32 = .ok (.iload_n 2, 1) := by decide +kernel
theorem dX8_spring_33 : decode cX8_spring 33 = .ok (.ireturn, 1) := by decide +kernel
theorem dX8_wall_0 : decode cX8_wall 0 = .ok (.iload_n 1, 1) := by decide +kernel
theorem dX8_wall_1 : decode cX8_wall 1 = .ok (.ifCond .eq 10, 3) := by decide +kernel
theorem dX8_wall_4 : decode cX8_wall 4 = .ok (.iload_n 1, 1) := by decide +kernel
theorem dX8_wall_5 : decode cX8_wall 5 = .ok (.iconst 1, 1) := by decide +kernel
theorem dX8_wall_6 : decode cX8_wall 6 = .ok (.if_icmp .eq 5, 3) := by decide +kernel
theorem dX8_wall_9 : decode cX8_wall 9 = .ok (.iconst (-1), 1) := by decide +kernel
theorem dX8_wall_10 : decode cX8_wall 10 = .ok (.ireturn, 1) := by decide +kernel
theorem dX8_wall_11 : decode cX8_wall 11 = .ok (.iload_n 2, 1) := by decide +kernel
theorem dX8_wall_12 : decode cX8_wall 12 = .ok (.iconst (-1), 1) := by decide +kernel
theorem dX8_wall_13 : decode cX8_wall 13 = .ok (.if_icmp .eq 13, 3) := by decide +kernel
theorem dX8_wall_16 : decode cX8_wall 16 = .ok (.iload_n 2, 1) := by decide +kernel
theorem dX8_wall_17 : decode cX8_wall 17 = .ok (.invokestatic 112, 3) := by decide +kernel
theorem dX8_wall_20 : decode cX8_wall 20 = .ok (.ifCond .ne 6, 3) := by decide +kernel
theorem dX8_wall_23 : decode cX8_wall 23 = .ok (.bipush (-2), 2) := by decide +kernel
theorem dX8_wall_25 : decode cX8_wall 25 = .ok (.ireturn, 1) := by decide +kernel
theorem dX8_wall_26 : decode cX8_wall 26 = .ok (.iload_n 2, 1) := by decide +kernel
theorem dX8_wall_27 : decode cX8_wall 27 = .ok (.iconst (-1), 1) := by decide +kernel
theorem dX8_wall_28 : decode cX8_wall 28 = .ok (.if_icmp .eq 21, 3) := by decide +kernel
theorem dX8_wall_31 : decode cX8_wall 31 = .ok (.aload_n 0, 1) := by decide +kernel
theorem dX8_wall_32 : decode cX8_wall 32 = .ok (.aload_n 0, 1) := by decide +kernel
theorem dX8_wall_33 : decode cX8_wall 33 = .ok (.getfield 12, 3) := by decide +kernel
theorem dX8_wall_36 : decode cX8_wall 36 = .ok (.getfield 66, 3) := by decide +kernel
theorem dX8_wall_39 : decode cX8_wall 39 = .ok (.iload_n 1, 1) := by decide +kernel
theorem dX8_wall_40 : decode cX8_wall 40 = .ok (.invokevirtual 118, 3) := by decide +kernel
theorem dX8_wall_43 : decode cX8_wall 43 = .ok (.ifCond .eq 6, 3) := by decide +kernel
theorem dX8_wall_46 : decode cX8_wall 46 = .ok (.bipush (-3), 2) := by decide +kernel
theorem dX8_wall_48 : decode cX8_wall 48 = .ok (.ireturn, 1) := by decide +kernel
theorem dX8_wall_49 : decode cX8_wall 49 = .ok (.aload_n 0, 1) := by decide +kernel
theorem dX8_wall_50 : decode cX8_wall 50 = .ok (.iload_n 1, 1) := by decide +kernel
theorem dX8_wall_51 : decode cX8_wall 51 = .ok (.invokevirtual 122, 3) := by decide +kernel
theorem dX8_wall_54 : decode cX8_wall 54 = .ok (.istore_n 3, 1) := by decide +kernel
theorem dX8_wall_55 : decode cX8_wall 55 = .ok (.aload_n 0, 1) := by decide +kernel
theorem dX8_wall_56 : decode cX8_wall 56 = .ok (.getfield 12, 3) := by decide +kernel
theorem dX8_wall_59 : decode cX8_wall 59 = .ok (.getfield 66, 3) := by decide +kernel
theorem dX8_wall_62 : decode cX8_wall 62 = .ok (.getfield 126, 3) := by decide +kernel
theorem dX8_wall_65 : decode cX8_wall 65 = .ok (.iload_n 1, 1) := by decide +kernel
theorem dX8_wall_66 : decode cX8_wall 66 = .ok (.iload_n 2, 1) := by decide +kernel
theorem dX8_wall_67 : decode cX8_wall 67 = .ok (.iastore, 1) := by decide +kernel
theorem dX8_wall_68 : decode cX8_wall 68 = .ok (.iload_n 3, 1) := by decide +kernel
theorem dX8_wall_69 : decode cX8_wall 69 = .ok (.ireturn, 1) := by decide +kernel
theorem dX8_go_0 : decode cX8_go 0 = .ok (.iload_n 1, 1) := by decide +kernel
theorem dX8_go_1 : decode cX8_go 1 = .ok (.ifCond .lt 9, 3) := by decide +kernel
theorem dX8_go_4 : decode cX8_go 4 = .ok (.iload_n 1, 1) := by decide +kernel
theorem dX8_go_5 : decode cX8_go 5 = .ok (.bipush 20, 2) := by decide +kernel
theorem dX8_go_7 : decode cX8_go 7 = .ok (.if_icmp .le 6, 3) := by decide +kernel
theorem dX8_go_10 : decode cX8_go 10 = .ok (.bipush (-2), 2) := by decide +kernel
theorem dX8_go_12 : decode cX8_go 12 = .ok (.ireturn, 1) := by decide +kernel
theorem dX8_go_13 : decode cX8_go 13 = .ok (.aload_n 0, 1) := by decide +kernel
theorem dX8_go_14 : decode cX8_go 14 = .ok (.getfield 28, 3) := by decide +kernel
theorem dX8_go_17 : decode cX8_go 17 = .ok (.aload_n 0, 1) := by decide +kernel
theorem dX8_go_18 : decode cX8_go 18 = .ok (.getfield 12, 3) := by decide +kernel
theorem dX8_go_21 : decode cX8_go 21 = .ok (.getfield 66, 3) := by decide +kernel
theorem dX8_go_24 : decode cX8_go 24 = .ok (.bipush 20, 2) := by decide +kernel
theorem dX8_go_26 : decode cX8_go 26 = .ok (.invokevirtual 129, 3) := by decide +kernel
theorem dX8_go_29 : decode cX8_go 29 = .ok (.iload_n 1, 1) := by decide +kernel
theorem dX8_go_30 : decode cX8_go 30 = .ok (.aload_n 0, 1) := by decide +kernel
theorem dX8_go_31 : decode cX8_go 31 = .ok (.getfield 28, 3) := by decide +kernel
theorem dX8_go_34 : decode cX8_go 34 = .ok (.getfield 133, 3) := by decide +kernel
theorem dX8_go_37 : decode cX8_go 37 = .ok (.invokestatic 136, 3) := by decide +kernel
theorem dX8_go_40 : decode cX8_go 40 = .ok (.istore_n 2, 1) := by decide +kernel
theorem dX8_go_41 : decode cX8_go 41 = .ok (.aload_n 0, 1) := by decide +kernel
theorem dX8_go_42 : decode cX8_go 42 = .ok (.getfield 12, 3) := by decide +kernel
theorem dX8_go_45 : decode cX8_go 45 = .ok (.getfield 66, 3) := by decide +kernel
theorem dX8_go_48 : decode cX8_go 48 = .ok (.aload_n 0, 1) := by decide +kernel
theorem dX8_go_49 : decode cX8_go 49 = .ok (.getfield 28, 3) := by decide +kernel
theorem dX8_go_52 : decode cX8_go 52 = .ok (.getfield 142, 3) := by decide +kernel
theorem dX8_go_55 : decode cX8_go 55 = .ok (.iload_n 2, 1) := by decide +kernel
theorem dX8_go_56 : decode cX8_go 56 = .ok (.aaload, 1) := by decide +kernel
theorem dX8_go_57 : decode cX8_go 57 = .ok (.invokevirtual 146, 3) := by decide +kernel
theorem dX8_go_60 : decode cX8_go 60 = .ok (.iload_n 2, 1) := by decide +kernel
theorem dX8_go_61 : decode cX8_go 61 = .ok (.ireturn, 1) := by decide +kernel
theorem dX8_feed_0 : decode cX8_feed 0 = .ok (.iload_n 1, 1) := by decide +kernel
theorem dX8_feed_1 : decode cX8_feed 1 = .ok (.ifCond .lt 9, 3) := by decide +kernel
theorem dX8_feed_4 : decode cX8_feed 4 = .ok (.iload_n 1, 1) := by decide +kernel
theorem dX8_feed_5 : decode cX8_feed 5 = .ok (.bipush 127, 2) := by decide +kernel
theorem dX8_feed_7 : decode cX8_feed 7 = .ok (.if_icmp .le 6, 3) := by decide +kernel
theorem dX8_feed_10 : decode cX8_feed 10 = .ok (.bipush (-2), 2) := by decide +kernel
theorem dX8_feed_12 : decode cX8_feed 12 = .ok (.ireturn, 1) := by decide +kernel
theorem dX8_feed_13 : decode cX8_feed 13 = .ok (.aload_n 0, 1) := by decide +kernel
theorem dX8_feed_14 : decode cX8_feed 14 = .ok (.getfield 42, 3) := by decide +kernel
theorem dX8_feed_17 : decode cX8_feed 17 = .ok (.getfield 149, 3) := by decide +kernel
theorem dX8_feed_20 : decode cX8_feed 20 = .ok (.bipush 100, 2) := by decide +kernel
theorem dX8_feed_22 : decode cX8_feed 22 = .ok (.if_icmp .lt 6, 3) := by decide +kernel
theorem dX8_feed_25 : decode cX8_feed 25 = .ok (.bipush (-4), 2) := by decide +kernel
theorem dX8_feed_27 : decode cX8_feed 27 = .ok (.ireturn, 1) := by decide +kernel
theorem dX8_feed_28 : decode cX8_feed 28 = .ok (.aload_n 0, 1) := by decide +kernel
theorem dX8_feed_29 : decode cX8_feed 29 = .ok (.getfield 42, 3) := by decide +kernel
theorem dX8_feed_32 : decode cX8_feed 32 = .ok (.getfield 152, 3) := by decide +kernel
theorem dX8_feed_35 : decode cX8_feed 35 = .ok (.aload_n 0, 1) := by decide +kernel
theorem dX8_feed_36 : decode cX8_feed 36 = .ok (.getfield 42, 3) := by decide +kernel
theorem dX8_feed_39 : decode cX8_feed 39 = .ok (.getfield 149, 3) := by decide +kernel
theorem dX8_feed_42 : decode cX8_feed 42 = .ok (.iload_n 1, 1) := by decide +kernel
theorem dX8_feed_43 : decode cX8_feed 43 = .ok (.i2b, 1) := by decide +kernel
theorem dX8_feed_44 : decode cX8_feed 44 = .ok (.bastore, 1) := by decide +kernel
theorem dX8_feed_45 : decode cX8_feed 45 = .ok (.aload_n 0, 1) := by decide +kernel
theorem dX8_feed_46 : decode cX8_feed 46 = .ok (.getfield 42, 3) := by decide +kernel
theorem dX8_feed_49 : decode cX8_feed 49 = .ok (.dup, 1) := by decide +kernel
theorem dX8_feed_50 : decode cX8_feed 50 = .ok (.getfield 149, 3) := by decide +kernel
theorem dX8_feed_53 : decode cX8_feed 53 = .ok (.iconst 1, 1) := by decide +kernel
theorem dX8_feed_54 : decode cX8_feed 54 = .ok (.iadd, 1) := by decide +kernel
theorem dX8_feed_55 : decode cX8_feed 55 = .ok (.putfield 149, 3) := by decide +kernel
theorem dX8_feed_58 : decode cX8_feed 58 = .ok (.aload_n 0, 1) := by decide +kernel
theorem dX8_feed_59 : decode cX8_feed 59 = .ok (.getfield 42, 3) := by decide +kernel
theorem dX8_feed_62 : decode cX8_feed 62 = .ok (.getfield 149, 3) := by decide +kernel
theorem dX8_feed_65 : decode cX8_feed 65 = .ok (.ireturn, 1) := by decide +kernel
theorem dX8_read_0 : decode cX8_read 0 = .ok (.aload_n 0, 1) := by decide +kernel
theorem dX8_read_1 : decode cX8_read 1 = .ok (.getfield 42, 3) := by decide +kernel
theorem dX8_read_4 : decode cX8_read 4 = .ok (.invokevirtual 156, 3) := by decide +kernel
theorem dX8_read_7 : decode cX8_read 7 = .ok (.istore_n 1, 1) := by decide +kernel
theorem dX8_read_8 : decode cX8_read 8 = .ok (.aload_n 0, 1) := by decide +kernel
theorem dX8_read_9 : decode cX8_read 9 = .ok (.getfield 42, 3) := by decide +kernel
theorem dX8_read_12 : decode cX8_read 12 = .ok (.iconst 0, 1) := by decide +kernel
theorem dX8_read_13 : decode cX8_read 13 = .ok (.putfield 149, 3) := by decide +kernel
theorem dX8_read_16 : decode cX8_read 16 = .ok (.iload_n 1, 1) := by decide +kernel
theorem dX8_read_17 : decode cX8_read 17 = .ok (.ifCond .ne 14, 3) := by decide +kernel
theorem dX8_read_20 : decode cX8_read 20 = .ok (.bipush (-10), 2) := by decide +kernel
theorem dX8_read_22 : decode cX8_read 22 = .ok (.aload_n 0, 1) := by decide +kernel
theorem dX8_read_23 : decode cX8_read 23 = .ok (.getfield 42, 3) := by decide +kernel
theorem dX8_read_26 : decode cX8_read 26 = .ok (.getfield 160, 3) := by decide +kernel
theorem dX8_read_29 : decode cX8_read 29 = .ok (.isub, 1) := by decide +kernel
theorem dX8_read_30 : decode cX8_read 30 = .ok (.ireturn, 1) := by decide +kernel
theorem dX8_read_31 : decode cX8_read 31 = .ok (.iconst 0, 1) := by decide +kernel
theorem dX8_read_32 : decode cX8_read 32 = .ok (.istore_n 2, 1) := by decide +kernel
theorem dX8_read_33 : decode cX8_read 33 = .ok (.iconst 0, 1) := by decide +kernel
theorem dX8_read_34 : decode cX8_read 34 = .ok (.istore_n 3, 1) := by decide +kernel
theorem dX8_read_35 : decode cX8_read 35 = .ok (.iload_n 3, 1) := by decide +kernel
theorem dX8_read_36 : decode cX8_read 36 = .ok (.aload_n 0, 1) := by decide +kernel
theorem dX8_read_37 : decode cX8_read 37 = .ok (.getfield 42, 3) := by decide +kernel
theorem dX8_read_40 : decode cX8_read 40 = .ok (.getfield 163, 3) := by decide +kernel
theorem dX8_read_43 : decode cX8_read 43 = .ok (.if_icmp .ge 62, 3) := by decide +kernel
theorem dX8_read_46 : decode cX8_read 46 = .ok (.aload_n 0, 1) := by decide +kernel
theorem dX8_read_47 : decode cX8_read 47 = .ok (.aload_n 0, 1) := by decide +kernel
theorem dX8_read_48 : decode cX8_read 48 = .ok (.getfield 42, 3) := by decide +kernel
theorem dX8_read_51 : decode cX8_read 51 = .ok (.getfield 166, 3) := by decide +kernel
theorem dX8_read_54 : decode cX8_read 54 = .ok (.iload_n 3, 1) := by decide +kernel
theorem dX8_read_55 : decode cX8_read 55 = .ok (.iaload, 1) := by decide +kernel
theorem dX8_read_56 : decode cX8_read 56 = .ok (.aload_n 0, 1) := by decide +kernel
theorem dX8_read_57 : decode cX8_read 57 = .ok (.getfield 42, 3) := by decide +kernel
theorem dX8_read_60 : decode cX8_read 60 = .ok (.getfield 169, 3) := by decide +kernel
theorem dX8_read_63 : decode cX8_read 63 = .ok (.iload_n 3, 1) := by decide +kernel
theorem dX8_read_64 : decode cX8_read 64 = .ok (.iaload, 1) := by decide +kernel
theorem dX8_read_65 : decode cX8_read 65 = .ok (.aload_n 0, 1) := by decide +kernel
theorem dX8_read_66 : decode cX8_read 66 = .ok (.getfield 42, 3) := by decide +kernel
theorem dX8_read_69 : decode cX8_read 69 = .ok (.getfield 172, 3) := by decide +kernel
theorem dX8_read_72 : decode cX8_read 72 = .ok (.iload_n 3, 1) := by decide +kernel
theorem dX8_read_73 : decode cX8_read 73 = .ok (.iaload, 1) := by decide +kernel
theorem dX8_read_74 : decode cX8_read 74 = .ok (.aload_n 0, 1) := by decide +kernel
theorem dX8_read_75 : decode cX8_read 75 = .ok (.getfield 42, 3) := by decide +kernel
theorem dX8_read_78 : decode cX8_read 78 = .ok (.getfield 175, 3) := by decide +kernel
theorem dX8_read_81 : decode cX8_read 81 = .ok (.iload_n 3, 1) := by decide +kernel
theorem dX8_read_82 : decode cX8_read 82 = .ok (.iaload, 1) := by decide +kernel
theorem dX8_read_83 : decode cX8_read 83 = .ok (.invokevirtual 178, 3) := by decide +kernel
theorem dX8_read_86 : decode cX8_read 86 = .ok (.istore 4, 2) := by decide +kernel
theorem dX8_read_88 : decode cX8_read 88 = .ok (.iload 4, 2) := by decide +kernel
theorem dX8_read_90 : decode cX8_read 90 = .ok (.invokestatic 182, 3) := by decide +kernel
theorem dX8_read_93 : decode cX8_read 93 = .ok (.ifCond .ne 6, 3) := by decide +kernel
theorem dX8_read_96 : decode cX8_read 96 = .ok (.iinc 2 1, 3) := by decide +kernel
theorem dX8_read_99 : decode cX8_read 99 = .ok (.iinc 3 1, 3) := by decide +kernel
theorem dX8_read_102 : decode cX8_read 102 = .ok (.goto (-67), 3) := by decide +kernel
theorem dX8_read_105 : decode cX8_read 105 = .ok (.iload_n 2, 1) := by decide +kernel
theorem dX8_read_106 : decode cX8_read 106 = .ok (.ireturn, 1) := by decide +kernel
theorem dX8_of_0 : decode cX8_of 0 = .ok (.aload_n 0, 1) := by decide +kernel
theorem dX8_of_1 : decode cX8_of 1 = .ok (.iload_n 1, 1) := by decide +kernel
theorem dX8_of_2 : decode cX8_of 2 = .ok (.invokevirtual 109, 3) := by decide +kernel
theorem dX8_of_5 : decode cX8_of 5 = .ok (.ifCond .eq 19, 3) := by decide +kernel
theorem dX8_of_8 : decode cX8_of 8 = .ok (.iload_n 2, 1) := by decide +kernel
theorem dX8_of_9 : decode cX8_of 9 = .ok (.ifCond .lt 15, 3) := by decide +kernel
theorem dX8_of_12 : decode cX8_of 12 = .ok (.iload_n 2, 1) := by decide +kernel
theorem dX8_of_13 : decode cX8_of 13 = .ok (.iconst 2, 1) := by decide +kernel
theorem dX8_of_14 : decode cX8_of 14 = .ok (.if_icmp .gt 10, 3) := by decide +kernel
theorem dX8_of_17 : decode cX8_of 17 = .ok (.iload_n 3, 1) := by decide +kernel
theorem dX8_of_18 : decode cX8_of 18 = .ok (.invokestatic 185, 3) := by decide +kernel
theorem dX8_of_21 : decode cX8_of 21 = .ok (.ifCond .ne 7, 3) := by decide +kernel
theorem dX8_of_24 : decode cX8_of 24 = .ok (.ldc2_w 188, 3) := by decide +kernel
theorem dX8_of_27 : decode cX8_of 27 = .ok (.lreturn, 1) := by decide +kernel
theorem dX8_of_28 : decode cX8_of 28 = .ok (.iload_n 2, 1) := by decide +kernel
theorem dX8_of_29 : decode cX8_of 29 = .ok (.iconst 2, 1) := by decide +kernel
theorem dX8_of_30 : decode cX8_of 30 = .ok (.if_icmp .ne 25, 3) := by decide +kernel
theorem dX8_of_33 : decode cX8_of 33 = .ok (.iload_n 3, 1) := by decide +kernel
theorem dX8_of_34 : decode cX8_of 34 = .ok (.ifCond .ne 19, 3) := by decide +kernel
theorem dX8_of_37 : decode cX8_of 37 = .ok (.aload_n 0, 1) := by decide +kernel
theorem dX8_of_38 : decode cX8_of 38 = .ok (.getfield 12, 3) := by decide +kernel
theorem dX8_of_41 : decode cX8_of 41 = .ok (.getfield 66, 3) := by decide +kernel
theorem dX8_of_44 : decode cX8_of 44 = .ok (.getfield 102, 3) := by decide +kernel
theorem dX8_of_47 : decode cX8_of 47 = .ok (.iload_n 1, 1) := by decide +kernel
theorem dX8_of_48 : decode cX8_of 48 = .ok (.iaload, 1) := by decide +kernel
theorem dX8_of_49 : decode cX8_of 49 = .ok (.i2l, 1) := by decide +kernel
theorem dX8_of_50 : decode cX8_of 50 = .ok (.goto 4, 3) := by decide +kernel
theorem dX8_of_53 : decode cX8_of 53 = .ok (.lconst 1, 1) := by decide +kernel
theorem dX8_of_54 : decode cX8_of 54 = .ok (.lreturn, 1) := by decide +kernel
theorem dX8_of_55 : decode cX8_of 55 = .ok (.aload_n 0, 1) := by decide +kernel
theorem dX8_of_56 : decode cX8_of 56 = .ok (.getfield 12, 3) := by decide +kernel
theorem dX8_of_59 : decode cX8_of 59 = .ok (.getfield 66, 3) := by decide +kernel
theorem dX8_of_62 : decode cX8_of 62 = .ok (.iload_n 1, 1) := by decide +kernel
theorem dX8_of_63 : decode cX8_of 63 = .ok (.iload_n 2, 1) := by decide +kernel
theorem dX8_of_64 : decode cX8_of 64 = .ok (.invokevirtual 190, 3) := by decide +kernel
theorem dX8_of_67 : decode cX8_of 67 = .ok (.iload_n 3, 1) := by decide +kernel
theorem dX8_of_68 : decode cX8_of 68 = .ok (.invokevirtual 194, 3) := by decide +kernel
theorem dX8_of_71 : decode cX8_of 71 = .ok (.lreturn, 1) := by decide +kernel
theorem dX8_told_0 : decode cX8_told 0 = .ok (.iload_n 1, 1) := by decide +kernel
theorem dX8_told_1 : decode cX8_told 1 = .ok (.tableswitch 121 0 5 #[39, 50, 61, 67, 73, 97], 39) := by decide +kernel
theorem dX8_told_40 : decode cX8_told 40 = .ok (.aload_n 0, 1) := by decide +kernel
theorem dX8_told_41 : decode cX8_told 41 = .ok (.getfield 12, 3) := by decide +kernel
theorem dX8_told_44 : decode cX8_told 44 = .ok (.getfield 66, 3) := by decide +kernel
theorem dX8_told_47 : decode cX8_told 47 = .ok (.getfield 76, 3) := by decide +kernel
theorem dX8_told_50 : decode cX8_told 50 = .ok (.ireturn, 1) := by decide +kernel
theorem dX8_told_51 : decode cX8_told 51 = .ok (.aload_n 0, 1) := by decide +kernel
theorem dX8_told_52 : decode cX8_told 52 = .ok (.getfield 12, 3) := by decide +kernel
theorem dX8_told_55 : decode cX8_told 55 = .ok (.getfield 66, 3) := by decide +kernel
theorem dX8_told_58 : decode cX8_told 58 = .ok (.getfield 115, 3) := by decide +kernel
theorem dX8_told_61 : decode cX8_told 61 = .ok (.ireturn, 1) := by decide +kernel
theorem dX8_told_62 : decode cX8_told 62 = .ok (.aload_n 0, 1) := by decide +kernel
theorem dX8_told_63 : decode cX8_told 63 = .ok (.iconst 0, 1) := by decide +kernel
theorem dX8_told_64 : decode cX8_told 64 = .ok (.invokevirtual 122, 3) := by decide +kernel
theorem dX8_told_67 : decode cX8_told 67 = .ok (.ireturn, 1) := by decide +kernel
theorem dX8_told_68 : decode cX8_told 68 = .ok (.aload_n 0, 1) := by decide +kernel
theorem dX8_told_69 : decode cX8_told 69 = .ok (.iconst 1, 1) := by decide +kernel
theorem dX8_told_70 : decode cX8_told 70 = .ok (.invokevirtual 122, 3) := by decide +kernel
theorem dX8_told_73 : decode cX8_told 73 = .ok (.ireturn, 1) := by decide +kernel
theorem dX8_told_74 : decode cX8_told 74 = .ok (.aload_n 0, 1) := by decide +kernel
theorem dX8_told_75 : decode cX8_told 75 = .ok (.getfield 28, 3) := by decide +kernel
theorem dX8_told_78 : decode cX8_told 78 = .ok (.aload_n 0, 1) := by decide +kernel
theorem dX8_told_79 : decode cX8_told 79 = .ok (.getfield 12, 3) := by decide +kernel
theorem dX8_told_82 : decode cX8_told 82 = .ok (.getfield 66, 3) := by decide +kernel
theorem dX8_told_85 : decode cX8_told 85 = .ok (.bipush 20, 2) := by decide +kernel
theorem dX8_told_87 : decode cX8_told 87 = .ok (.invokevirtual 129, 3) := by decide +kernel
theorem dX8_told_90 : decode cX8_told 90 = .ok (.aload_n 0, 1) := by decide +kernel
theorem dX8_told_91 : decode cX8_told 91 = .ok (.getfield 28, 3) := by decide +kernel
theorem dX8_told_94 : decode cX8_told 94 = .ok (.getfield 133, 3) := by decide +kernel
theorem dX8_told_97 : decode cX8_told 97 = .ok (.ireturn, 1) := by decide +kernel
theorem dX8_told_98 : decode cX8_told 98 = .ok (.aload_n 0, 1) := by decide +kernel
theorem dX8_told_99 : decode cX8_told 99 = .ok (.getfield 28, 3) := by decide +kernel
theorem dX8_told_102 : decode cX8_told 102 = .ok (.aload_n 0, 1) := by decide +kernel
theorem dX8_told_103 : decode cX8_told 103 = .ok (.getfield 12, 3) := by decide +kernel
theorem dX8_told_106 : decode cX8_told 106 = .ok (.getfield 66, 3) := by decide +kernel
theorem dX8_told_109 : decode cX8_told 109 = .ok (.bipush 20, 2) := by decide +kernel
theorem dX8_told_111 : decode cX8_told 111 = .ok (.invokevirtual 129, 3) := by decide +kernel
theorem dX8_told_114 : decode cX8_told 114 = .ok (.aload_n 0, 1) := by decide +kernel
theorem dX8_told_115 : decode cX8_told 115 = .ok (.getfield 28, 3) := by decide +kernel
theorem dX8_told_118 : decode cX8_told 118 = .ok (.getfield 198, 3) := by decide +kernel
theorem dX8_told_121 : decode cX8_told 121 = .ok (.ireturn, 1) := by decide +kernel
theorem dX8_told_122 : decode cX8_told 122 = .ok (.iconst (-1), 1) := by decide +kernel
theorem dX8_told_123 : decode cX8_told 123 = .ok (.ireturn, 1) := by decide +kernel
theorem dX8_push_0 : decode cX8_push 0 = .ok (.iload_n 1, 1) := by decide +kernel
theorem dX8_push_1 : decode cX8_push 1 = .ok (.ifCond .lt 15, 3) := by decide +kernel
theorem dX8_push_4 : decode cX8_push 4 = .ok (.iload_n 1, 1) := by decide +kernel
theorem dX8_push_5 : decode cX8_push 5 = .ok (.iconst 1, 1) := by decide +kernel
theorem dX8_push_6 : decode cX8_push 6 = .ok (.if_icmp .gt 10, 3) := by decide +kernel
theorem dX8_push_9 : decode cX8_push 9 = .ok (.iload_n 2, 1) := by decide +kernel
theorem dX8_push_10 : decode cX8_push 10 = .ok (.invokestatic 185, 3) := by decide +kernel
theorem dX8_push_13 : decode cX8_push 13 = .ok (.ifCond .ne 7, 3) := by decide +kernel
theorem dX8_push_16 : decode cX8_push 16 = .ok (.ldc2_w 188, 3) := by decide +kernel
theorem dX8_push_19 : decode cX8_push 19 = .ok (.lreturn, 1) := by decide +kernel
theorem dX8_push_20 : decode cX8_push 20 = .ok (.aload_n 0, 1) := by decide +kernel
theorem dX8_push_21 : decode cX8_push 21 = .ok (.aload_n 0, 1) := by decide +kernel
theorem dX8_push_22 : decode cX8_push 22 = .ok (.getfield 12, 3) := by decide +kernel
theorem dX8_push_25 : decode cX8_push 25 = .ok (.getfield 66, 3) := by decide +kernel
theorem dX8_push_28 : decode cX8_push 28 = .ok (.iload_n 1, 1) := by decide +kernel
theorem dX8_push_29 : decode cX8_push 29 = .ok (.invokevirtual 201, 3) := by decide +kernel
theorem dX8_push_32 : decode cX8_push 32 = .ok (.aload_n 0, 1) := by decide +kernel
theorem dX8_push_33 : decode cX8_push 33 = .ok (.getfield 56, 3) := by decide +kernel
theorem dX8_push_36 : decode cX8_push 36 = .ok (.iload_n 2, 1) := by decide +kernel
theorem dX8_push_37 : decode cX8_push 37 = .ok (.invokevirtual 194, 3) := by decide +kernel
theorem dX8_push_40 : decode cX8_push 40 = .ok (.lreturn, 1) := by decide +kernel
theorem dX8_where_0 : decode cX8_where 0 = .ok (.iload_n 1, 1) := by decide +kernel
theorem dX8_where_1 : decode cX8_where 1 = .ok (.ifCond .ge 5, 3) := by decide +kernel
theorem dX8_where_4 : decode cX8_where 4 = .ok (.iconst (-1), 1) := by decide +kernel
theorem dX8_where_5 : decode cX8_where 5 = .ok (.ireturn, 1) := by decide +kernel
theorem dX8_where_6 : decode cX8_where 6 = .ok (.aload_n 0, 1) := by decide +kernel
theorem dX8_where_7 : decode cX8_where 7 = .ok (.getfield 28, 3) := by decide +kernel
theorem dX8_where_10 : decode cX8_where 10 = .ok (.aload_n 0, 1) := by decide +kernel
theorem dX8_where_11 : decode cX8_where 11 = .ok (.getfield 12, 3) := by decide +kernel
theorem dX8_where_14 : decode cX8_where 14 = .ok (.getfield 66, 3) := by decide +kernel
theorem dX8_where_17 : decode cX8_where 17 = .ok (.bipush 20, 2) := by decide +kernel
theorem dX8_where_19 : decode cX8_where 19 = .ok (.invokevirtual 129, 3) := by decide +kernel
theorem dX8_where_22 : decode cX8_where 22 = .ok (.iload_n 1, 1) := by decide +kernel
theorem dX8_where_23 : decode cX8_where 23 = .ok (.aload_n 0, 1) := by decide +kernel
theorem dX8_where_24 : decode cX8_where 24 = .ok (.getfield 28, 3) := by decide +kernel
theorem dX8_where_27 : decode cX8_where 27 = .ok (.getfield 133, 3) := by decide +kernel
theorem dX8_where_30 : decode cX8_where 30 = .ok (.if_icmp .ge 15, 3) := by decide +kernel
theorem dX8_where_33 : decode cX8_where 33 = .ok (.aload_n 0, 1) := by decide +kernel
theorem dX8_where_34 : decode cX8_where 34 = .ok (.getfield 28, 3) := by decide +kernel
theorem dX8_where_37 : decode cX8_where 37 = .ok (.getfield 204, 3) := by decide +kernel
theorem dX8_where_40 : decode cX8_where 40 = .ok (.iload_n 1, 1) := by decide +kernel
theorem dX8_where_41 : decode cX8_where 41 = .ok (.iaload, 1) := by decide +kernel
theorem dX8_where_42 : decode cX8_where 42 = .ok (.goto 5, 3) := by decide +kernel
theorem dX8_where_45 : decode cX8_where 45 = .ok (.bipush (-5), 2) := by decide +kernel
theorem dX8_where_47 : decode cX8_where 47 = .ok (.ireturn, 1) := by decide +kernel
theorem dX8_time_0 : decode cX8_time 0 = .ok (.aload_n 0, 1) := by decide +kernel
theorem dX8_time_1 : decode cX8_time 1 = .ok (.getfield 28, 3) := by decide +kernel
theorem dX8_time_4 : decode cX8_time 4 = .ok (.aload_n 0, 1) := by decide +kernel
theorem dX8_time_5 : decode cX8_time 5 = .ok (.getfield 12, 3) := by decide +kernel
theorem dX8_time_8 : decode cX8_time 8 = .ok (.getfield 66, 3) := by decide +kernel
theorem dX8_time_11 : decode cX8_time 11 = .ok (.bipush 20, 2) := by decide +kernel
theorem dX8_time_13 : decode cX8_time 13 = .ok (.invokevirtual 129, 3) := by decide +kernel
theorem dX8_time_16 : decode cX8_time 16 = .ok (.iload_n 1, 1) := by decide +kernel
theorem dX8_time_17 : decode cX8_time 17 = .ok (.ifCond .lt 21, 3) := by decide +kernel
theorem dX8_time_20 : decode cX8_time 20 = .ok (.iload_n 1, 1) := by decide +kernel
theorem dX8_time_21 : decode cX8_time 21 = .ok (.aload_n 0, 1) := by decide +kernel
theorem dX8_time_22 : decode cX8_time 22 = .ok (.getfield 28, 3) := by decide +kernel
theorem dX8_time_25 : decode cX8_time 25 = .ok (.getfield 133, 3) := by decide +kernel
theorem dX8_time_28 : decode cX8_time 28 = .ok (.if_icmp .ge 10, 3) := by decide +kernel
theorem dX8_time_31 : decode cX8_time 31 = .ok (.iload_n 2, 1) := by decide +kernel
theorem dX8_time_32 : decode cX8_time 32 = .ok (.invokestatic 185, 3) := by decide +kernel
theorem dX8_time_35 : decode cX8_time 35 = .ok (.ifCond .ne 7, 3) := by decide +kernel
theorem dX8_time_38 : decode cX8_time 38 = .ok (.ldc2_w 188, 3) := by decide +kernel
theorem dX8_time_41 : decode cX8_time 41 = .ok (.lreturn, 1) := by decide +kernel
theorem dX8_time_42 : decode cX8_time 42 = .ok (.aload_n 0, 1) := by decide +kernel
theorem dX8_time_43 : decode cX8_time 43 = .ok (.getfield 28, 3) := by decide +kernel
theorem dX8_time_46 : decode cX8_time 46 = .ok (.getfield 207, 3) := by decide +kernel
theorem dX8_time_49 : decode cX8_time 49 = .ok (.iload_n 1, 1) := by decide +kernel
theorem dX8_time_50 : decode cX8_time 50 = .ok (.iconst 1, 1) := by decide +kernel
theorem dX8_time_51 : decode cX8_time 51 = .ok (.iadd, 1) := by decide +kernel
theorem dX8_time_52 : decode cX8_time 52 = .ok (.aaload, 1) := by decide +kernel
theorem dX8_time_53 : decode cX8_time 53 = .ok (.iload_n 2, 1) := by decide +kernel
theorem dX8_time_54 : decode cX8_time 54 = .ok (.invokevirtual 194, 3) := by decide +kernel
theorem dX8_time_57 : decode cX8_time 57 = .ok (.lreturn, 1) := by decide +kernel
theorem dX8_behind_0 : decode cX8_behind 0 = .ok (.aload_n 0, 1) := by decide +kernel
theorem dX8_behind_1 : decode cX8_behind 1 = .ok (.getfield 28, 3) := by decide +kernel
theorem dX8_behind_4 : decode cX8_behind 4 = .ok (.aload_n 0, 1) := by decide +kernel
theorem dX8_behind_5 : decode cX8_behind 5 = .ok (.getfield 12, 3) := by decide +kernel
theorem dX8_behind_8 : decode cX8_behind 8 = .ok (.getfield 66, 3) := by decide +kernel
theorem dX8_behind_11 : decode cX8_behind 11 = .ok (.bipush 20, 2) := by decide +kernel
theorem dX8_behind_13 : decode cX8_behind 13 = .ok (.invokevirtual 129, 3) := by decide +kernel
theorem dX8_behind_16 : decode cX8_behind 16 = .ok (.aload_n 0, 1) := by decide +kernel
theorem dX8_behind_17 : decode cX8_behind 17 = .ok (.iload_n 1, 1) := by decide +kernel
theorem dX8_behind_18 : decode cX8_behind 18 = .ok (.invokevirtual 109, 3) := by decide +kernel
theorem dX8_behind_21 : decode cX8_behind 21 = .ok (.ifCond .eq 36, 3) := by decide +kernel
theorem dX8_behind_24 : decode cX8_behind 24 = .ok (.iload_n 2, 1) := by decide +kernel
theorem dX8_behind_25 : decode cX8_behind 25 = .ok (.iconst (-1), 1) := by decide +kernel
theorem dX8_behind_26 : decode cX8_behind 26 = .ok (.if_icmp .lt 31, 3) := by decide +kernel
theorem dX8_behind_29 : decode cX8_behind 29 = .ok (.iload_n 2, 1) := by decide +kernel
theorem dX8_behind_30 : decode cX8_behind 30 = .ok (.aload_n 0, 1) := by decide +kernel
theorem dX8_behind_31 : decode cX8_behind 31 = .ok (.getfield 28, 3) := by decide +kernel
theorem dX8_behind_34 : decode cX8_behind 34 = .ok (.getfield 133, 3) := by decide +kernel
theorem dX8_behind_37 : decode cX8_behind 37 = .ok (.if_icmp .ge 20, 3) := by decide +kernel
theorem dX8_behind_40 : decode cX8_behind 40 = .ok (.iload_n 3, 1) := by decide +kernel
theorem dX8_behind_41 : decode cX8_behind 41 = .ok (.ifCond .lt 16, 3) := by decide +kernel
theorem dX8_behind_44 : decode cX8_behind 44 = .ok (.iload_n 3, 1) := by decide +kernel
theorem dX8_behind_45 : decode cX8_behind 45 = .ok (.iconst 1, 1) := by decide +kernel
theorem dX8_behind_46 : decode cX8_behind 46 = .ok (.if_icmp .gt 11, 3) := by decide +kernel
theorem dX8_behind_49 : decode cX8_behind 49 = .ok (.iload 4, 2) := by decide +kernel
theorem dX8_behind_51 : decode cX8_behind 51 = .ok (.invokestatic 185, 3) := by decide +kernel
theorem dX8_behind_54 : decode cX8_behind 54 = .ok (.ifCond .ne 7, 3) := by decide +kernel
theorem dX8_behind_57 : decode cX8_behind 57 = .ok (.ldc2_w 188, 3) := by decide +kernel
theorem dX8_behind_60 : decode cX8_behind 60 = .ok (.lreturn, 1) := by decide +kernel
theorem dX8_behind_61 : decode cX8_behind 61 = .ok (.iload_n 2, 1) := by decide +kernel
theorem dX8_behind_62 : decode cX8_behind 62 = .ok (.iconst (-1), 1) := by decide +kernel
theorem dX8_behind_63 : decode cX8_behind 63 = .ok (.if_icmp .ne 13, 3) := by decide +kernel
theorem dX8_behind_66 : decode cX8_behind 66 = .ok (.aload_n 0, 1) := by decide +kernel
theorem dX8_behind_67 : decode cX8_behind 67 = .ok (.getfield 28, 3) := by decide +kernel
theorem dX8_behind_70 : decode cX8_behind 70 = .ok (.getfield 133, 3) := by decide +kernel
theorem dX8_behind_73 : decode cX8_behind 73 = .ok (.goto 6, 3) := by decide +kernel
theorem dX8_behind_76 : decode cX8_behind 76 = .ok (.iload_n 2, 1) := by decide +kernel
theorem dX8_behind_77 : decode cX8_behind 77 = .ok (.iconst 1, 1) := by decide +kernel
theorem dX8_behind_78 : decode cX8_behind 78 = .ok (.iadd, 1) := by decide +kernel
theorem dX8_behind_79 : decode cX8_behind 79 = .ok (.istore 5, 2) := by decide +kernel
theorem dX8_behind_81 : decode cX8_behind 81 = .ok (.aload_n 0, 1) := by decide +kernel
theorem dX8_behind_82 : decode cX8_behind 82 = .ok (.getfield 28, 3) := by decide +kernel
theorem dX8_behind_85 : decode cX8_behind 85 = .ok (.getfield 142, 3) := by decide +kernel
theorem dX8_behind_88 : decode cX8_behind 88 = .ok (.iload 5, 2) := by decide +kernel
theorem dX8_behind_90 : decode cX8_behind 90 = .ok (.aaload, 1) := by decide +kernel
theorem dX8_behind_91 : decode cX8_behind 91 = .ok (.iload_n 1, 1) := by decide +kernel
theorem dX8_behind_92 : decode cX8_behind 92 = .ok (.iload_n 3, 1) := by decide +kernel
theorem dX8_behind_93 : decode cX8_behind 93 = .ok (.invokevirtual 190, 3) := by decide +kernel
theorem dX8_behind_96 : decode cX8_behind 96 = .ok (.iload 4, 2) := by decide +kernel
theorem dX8_behind_98 : decode cX8_behind 98 = .ok (.invokevirtual 194, 3) := by decide +kernel
theorem dX8_behind_101 : decode cX8_behind 101 = .ok (.lreturn, 1) := by decide +kernel
theorem dX8_then_0 : decode cX8_then 0 = .ok (.iload_n 1, 1) := by decide +kernel
theorem dX8_then_1 : decode cX8_then 1 = .ok (.ifCond .lt 15, 3) := by decide +kernel
theorem dX8_then_4 : decode cX8_then 4 = .ok (.iload_n 1, 1) := by decide +kernel
theorem dX8_then_5 : decode cX8_then 5 = .ok (.iconst 1, 1) := by decide +kernel
theorem dX8_then_6 : decode cX8_then 6 = .ok (.if_icmp .gt 10, 3) := by decide +kernel
theorem dX8_then_9 : decode cX8_then 9 = .ok (.iload_n 2, 1) := by decide +kernel
theorem dX8_then_10 : decode cX8_then 10 = .ok (.invokestatic 185, 3) := by decide +kernel
theorem dX8_then_13 : decode cX8_then 13 = .ok (.ifCond .ne 7, 3) := by decide +kernel
theorem dX8_then_16 : decode cX8_then 16 = .ok (.ldc2_w 188, 3) := by decide +kernel
theorem dX8_then_19 : decode cX8_then 19 = .ok (.lreturn, 1) := by decide +kernel
theorem dX8_then_20 : decode cX8_then 20 = .ok (.aload_n 0, 1) := by decide +kernel
theorem dX8_then_21 : decode cX8_then 21 = .ok (.getfield 28, 3) := by decide +kernel
theorem dX8_then_24 : decode cX8_then 24 = .ok (.aload_n 0, 1) := by decide +kernel
theorem dX8_then_25 : decode cX8_then 25 = .ok (.getfield 12, 3) := by decide +kernel
theorem dX8_then_28 : decode cX8_then 28 = .ok (.getfield 66, 3) := by decide +kernel
theorem dX8_then_31 : decode cX8_then 31 = .ok (.bipush 20, 2) := by decide +kernel
theorem dX8_then_33 : decode cX8_then 33 = .ok (.invokevirtual 129, 3) := by decide +kernel
theorem dX8_then_36 : decode cX8_then 36 = .ok (.aload_n 0, 1) := by decide +kernel
theorem dX8_then_37 : decode cX8_then 37 = .ok (.aload_n 0, 1) := by decide +kernel
theorem dX8_then_38 : decode cX8_then 38 = .ok (.getfield 28, 3) := by decide +kernel
theorem dX8_then_41 : decode cX8_then 41 = .ok (.getfield 142, 3) := by decide +kernel
theorem dX8_then_44 : decode cX8_then 44 = .ok (.aload_n 0, 1) := by decide +kernel
theorem dX8_then_45 : decode cX8_then 45 = .ok (.getfield 28, 3) := by decide +kernel
theorem dX8_then_48 : decode cX8_then 48 = .ok (.getfield 133, 3) := by decide +kernel
theorem dX8_then_51 : decode cX8_then 51 = .ok (.aaload, 1) := by decide +kernel
theorem dX8_then_52 : decode cX8_then 52 = .ok (.iload_n 1, 1) := by decide +kernel
theorem dX8_then_53 : decode cX8_then 53 = .ok (.invokevirtual 201, 3) := by decide +kernel
theorem dX8_then_56 : decode cX8_then 56 = .ok (.aload_n 0, 1) := by decide +kernel
theorem dX8_then_57 : decode cX8_then 57 = .ok (.getfield 56, 3) := by decide +kernel
theorem dX8_then_60 : decode cX8_then 60 = .ok (.iload_n 2, 1) := by decide +kernel
theorem dX8_then_61 : decode cX8_then 61 = .ok (.invokevirtual 194, 3) := by decide +kernel
theorem dX8_then_64 : decode cX8_then 64 = .ok (.lreturn, 1) := by decide +kernel
theorem dX8_often_0 : decode cX8_often 0 = .ok (.aload_n 0, 1) := by decide +kernel
theorem dX8_often_1 : decode cX8_often 1 = .ok (.iload_n 1, 1) := by decide +kernel
theorem dX8_often_2 : decode cX8_often 2 = .ok (.invokevirtual 109, 3) := by decide +kernel
theorem dX8_often_5 : decode cX8_often 5 = .ok (.ifCond .ne 5, 3) := by decide +kernel
theorem dX8_often_8 : decode cX8_often 8 = .ok (.iconst (-1), 1) := by decide +kernel
theorem dX8_often_9 : decode cX8_often 9 = .ok (.ireturn, 1) := by decide +kernel
theorem dX8_often_10 : decode cX8_often 10 = .ok (.aload_n 0, 1) := by decide +kernel
theorem dX8_often_11 : decode cX8_often 11 = .ok (.getfield 28, 3) := by decide +kernel
theorem dX8_often_14 : decode cX8_often 14 = .ok (.aload_n 0, 1) := by decide +kernel
theorem dX8_often_15 : decode cX8_often 15 = .ok (.getfield 12, 3) := by decide +kernel
theorem dX8_often_18 : decode cX8_often 18 = .ok (.getfield 66, 3) := by decide +kernel
theorem dX8_often_21 : decode cX8_often 21 = .ok (.bipush 20, 2) := by decide +kernel
theorem dX8_often_23 : decode cX8_often 23 = .ok (.invokevirtual 129, 3) := by decide +kernel
theorem dX8_often_26 : decode cX8_often 26 = .ok (.iconst 0, 1) := by decide +kernel
theorem dX8_often_27 : decode cX8_often 27 = .ok (.istore_n 2, 1) := by decide +kernel
theorem dX8_often_28 : decode cX8_often 28 = .ok (.iconst 0, 1) := by decide +kernel
theorem dX8_often_29 : decode cX8_often 29 = .ok (.istore_n 3, 1) := by decide +kernel
theorem dX8_often_30 : decode cX8_often 30 = .ok (.iload_n 3, 1) := by decide +kernel
theorem dX8_often_31 : decode cX8_often 31 = .ok (.aload_n 0, 1) := by decide +kernel
theorem dX8_often_32 : decode cX8_often 32 = .ok (.getfield 28, 3) := by decide +kernel
theorem dX8_often_35 : decode cX8_often 35 = .ok (.getfield 133, 3) := by decide +kernel
theorem dX8_often_38 : decode cX8_often 38 = .ok (.if_icmp .ge 29, 3) := by decide +kernel
theorem dX8_often_41 : decode cX8_often 41 = .ok (.aload_n 0, 1) := by decide +kernel
theorem dX8_often_42 : decode cX8_often 42 = .ok (.iload_n 1, 1) := by decide +kernel
theorem dX8_often_43 : decode cX8_often 43 = .ok (.aload_n 0, 1) := by decide +kernel
theorem dX8_often_44 : decode cX8_often 44 = .ok (.getfield 28, 3) := by decide +kernel
theorem dX8_often_47 : decode cX8_often 47 = .ok (.getfield 204, 3) := by decide +kernel
theorem dX8_often_50 : decode cX8_often 50 = .ok (.iload_n 3, 1) := by decide +kernel
theorem dX8_often_51 : decode cX8_often 51 = .ok (.iaload, 1) := by decide +kernel
theorem dX8_often_52 : decode cX8_often 52 = .ok (.invokevirtual 210, 3) := by decide +kernel
theorem dX8_often_55 : decode cX8_often 55 = .ok (.ifCond .eq 6, 3) := by decide +kernel
theorem dX8_often_58 : decode cX8_often 58 = .ok (.iinc 2 1, 3) := by decide +kernel
theorem dX8_often_61 : decode cX8_often 61 = .ok (.iinc 3 1, 3) := by decide +kernel
theorem dX8_often_64 : decode cX8_often 64 = .ok (.goto (-34), 3) := by decide +kernel
theorem dX8_often_67 : decode cX8_often 67 = .ok (.iload_n 2, 1) := by decide +kernel
theorem dX8_often_68 : decode cX8_often 68 = .ok (.ireturn, 1) := by decide +kernel
theorem dX8_at_0 : decode cX8_at 0 = .ok (.aload_n 0, 1) := by decide +kernel
theorem dX8_at_1 : decode cX8_at 1 = .ok (.iload_n 1, 1) := by decide +kernel
theorem dX8_at_2 : decode cX8_at 2 = .ok (.invokevirtual 109, 3) := by decide +kernel
theorem dX8_at_5 : decode cX8_at 5 = .ok (.ifCond .eq 20, 3) := by decide +kernel
theorem dX8_at_8 : decode cX8_at 8 = .ok (.iload_n 2, 1) := by decide +kernel
theorem dX8_at_9 : decode cX8_at 9 = .ok (.ifCond .lt 16, 3) := by decide +kernel
theorem dX8_at_12 : decode cX8_at 12 = .ok (.iload_n 2, 1) := by decide +kernel
theorem dX8_at_13 : decode cX8_at 13 = .ok (.bipush 99, 2) := by decide +kernel
theorem dX8_at_15 : decode cX8_at 15 = .ok (.if_icmp .gt 10, 3) := by decide +kernel
theorem dX8_at_18 : decode cX8_at 18 = .ok (.iload_n 3, 1) := by decide +kernel
theorem dX8_at_19 : decode cX8_at 19 = .ok (.invokestatic 185, 3) := by decide +kernel
theorem dX8_at_22 : decode cX8_at 22 = .ok (.ifCond .ne 7, 3) := by decide +kernel
theorem dX8_at_25 : decode cX8_at 25 = .ok (.ldc2_w 188, 3) := by decide +kernel
theorem dX8_at_28 : decode cX8_at 28 = .ok (.lreturn, 1) := by decide +kernel
theorem dX8_at_29 : decode cX8_at 29 = .ok (.aload_n 0, 1) := by decide +kernel
theorem dX8_at_30 : decode cX8_at 30 = .ok (.iload_n 2, 1) := by decide +kernel
theorem dX8_at_31 : decode cX8_at 31 = .ok (.invokevirtual 214, 3) := by decide +kernel
theorem dX8_at_34 : decode cX8_at 34 = .ok (.istore 4, 2) := by decide +kernel
theorem dX8_at_36 : decode cX8_at 36 = .ok (.iload 4, 2) := by decide +kernel
theorem dX8_at_38 : decode cX8_at 38 = .ok (.ifCond .ge 7, 3) := by decide +kernel
theorem dX8_at_41 : decode cX8_at 41 = .ok (.ldc2_w 188, 3) := by decide +kernel
theorem dX8_at_44 : decode cX8_at 44 = .ok (.lreturn, 1) := by decide +kernel
theorem dX8_at_45 : decode cX8_at 45 = .ok (.aload_n 0, 1) := by decide +kernel
theorem dX8_at_46 : decode cX8_at 46 = .ok (.getfield 63, 3) := by decide +kernel
theorem dX8_at_49 : decode cX8_at 49 = .ok (.iload_n 2, 1) := by decide +kernel
theorem dX8_at_50 : decode cX8_at 50 = .ok (.i2l, 1) := by decide +kernel
theorem dX8_at_51 : decode cX8_at 51 = .ok (.invokevirtual 88, 3) := by decide +kernel
theorem dX8_at_54 : decode cX8_at 54 = .ok (.aload_n 0, 1) := by decide +kernel
theorem dX8_at_55 : decode cX8_at 55 = .ok (.getfield 63, 3) := by decide +kernel
theorem dX8_at_58 : decode cX8_at 58 = .ok (.aload_n 0, 1) := by decide +kernel
theorem dX8_at_59 : decode cX8_at 59 = .ok (.getfield 28, 3) := by decide +kernel
theorem dX8_at_62 : decode cX8_at 62 = .ok (.getfield 207, 3) := by decide +kernel
theorem dX8_at_65 : decode cX8_at 65 = .ok (.iload 4, 2) := by decide +kernel
theorem dX8_at_67 : decode cX8_at 67 = .ok (.aaload, 1) := by decide +kernel
theorem dX8_at_68 : decode cX8_at 68 = .ok (.invokevirtual 92, 3) := by decide +kernel
theorem dX8_at_71 : decode cX8_at 71 = .ok (.aload_n 0, 1) := by decide +kernel
theorem dX8_at_72 : decode cX8_at 72 = .ok (.getfield 60, 3) := by decide +kernel
theorem dX8_at_75 : decode cX8_at 75 = .ok (.aload_n 0, 1) := by decide +kernel
theorem dX8_at_76 : decode cX8_at 76 = .ok (.getfield 28, 3) := by decide +kernel
theorem dX8_at_79 : decode cX8_at 79 = .ok (.getfield 142, 3) := by decide +kernel
theorem dX8_at_82 : decode cX8_at 82 = .ok (.iload 4, 2) := by decide +kernel
theorem dX8_at_84 : decode cX8_at 84 = .ok (.aaload, 1) := by decide +kernel
theorem dX8_at_85 : decode cX8_at 85 = .ok (.getfield 106, 3) := by decide +kernel
theorem dX8_at_88 : decode cX8_at 88 = .ok (.iload_n 1, 1) := by decide +kernel
theorem dX8_at_89 : decode cX8_at 89 = .ok (.aaload, 1) := by decide +kernel
theorem dX8_at_90 : decode cX8_at 90 = .ok (.invokevirtual 84, 3) := by decide +kernel
theorem dX8_at_93 : decode cX8_at 93 = .ok (.aload_n 0, 1) := by decide +kernel
theorem dX8_at_94 : decode cX8_at 94 = .ok (.getfield 60, 3) := by decide +kernel
theorem dX8_at_97 : decode cX8_at 97 = .ok (.aload_n 0, 1) := by decide +kernel
theorem dX8_at_98 : decode cX8_at 98 = .ok (.getfield 63, 3) := by decide +kernel
theorem dX8_at_101 : decode cX8_at 101 = .ok (.invokevirtual 217, 3) := by decide +kernel
theorem dX8_at_104 : decode cX8_at 104 = .ok (.aload_n 0, 1) := by decide +kernel
theorem dX8_at_105 : decode cX8_at 105 = .ok (.getfield 56, 3) := by decide +kernel
theorem dX8_at_108 : decode cX8_at 108 = .ok (.aload_n 0, 1) := by decide +kernel
theorem dX8_at_109 : decode cX8_at 109 = .ok (.getfield 28, 3) := by decide +kernel
theorem dX8_at_112 : decode cX8_at 112 = .ok (.getfield 142, 3) := by decide +kernel
theorem dX8_at_115 : decode cX8_at 115 = .ok (.iload 4, 2) := by decide +kernel
theorem dX8_at_117 : decode cX8_at 117 = .ok (.aaload, 1) := by decide +kernel
theorem dX8_at_118 : decode cX8_at 118 = .ok (.getfield 80, 3) := by decide +kernel
theorem dX8_at_121 : decode cX8_at 121 = .ok (.iload_n 1, 1) := by decide +kernel
theorem dX8_at_122 : decode cX8_at 122 = .ok (.aaload, 1) := by decide +kernel
theorem dX8_at_123 : decode cX8_at 123 = .ok (.invokevirtual 84, 3) := by decide +kernel
theorem dX8_at_126 : decode cX8_at 126 = .ok (.aload_n 0, 1) := by decide +kernel
theorem dX8_at_127 : decode cX8_at 127 = .ok (.getfield 56, 3) := by decide +kernel
theorem dX8_at_130 : decode cX8_at 130 = .ok (.aload_n 0, 1) := by decide +kernel
theorem dX8_at_131 : decode cX8_at 131 = .ok (.getfield 60, 3) := by decide +kernel
theorem dX8_at_134 : decode cX8_at 134 = .ok (.invokevirtual 219, 3) := by decide +kernel
theorem dX8_at_137 : decode cX8_at 137 = .ok (.aload_n 0, 1) := by decide +kernel
theorem dX8_at_138 : decode cX8_at 138 = .ok (.getfield 56, 3) := by decide +kernel
theorem dX8_at_141 : decode cX8_at 141 = .ok (.iload_n 3, 1) := by decide +kernel
theorem dX8_at_142 : decode cX8_at 142 = .ok (.invokevirtual 194, 3) := by decide +kernel
theorem dX8_at_145 : decode cX8_at 145 = .ok (.lreturn, 1) := by decide +kernel
theorem dX8_see_0 : decode cX8_see 0 = .ok (.aload_n 0, 1) := by decide +kernel
theorem dX8_see_1 : decode cX8_see 1 = .ok (.getfield 12, 3) := by decide +kernel
theorem dX8_see_4 : decode cX8_see 4 = .ok (.getfield 222, 3) := by decide +kernel
theorem dX8_see_7 : decode cX8_see 7 = .ok (.iload_n 1, 1) := by decide +kernel
theorem dX8_see_8 : decode cX8_see 8 = .ok (.iload_n 2, 1) := by decide +kernel
theorem dX8_see_9 : decode cX8_see 9 = .ok (.invokestatic 226, 3) := by decide +kernel
theorem dX8_see_12 : decode cX8_see 12 = .ok (.ireturn, 1) := by decide +kernel
theorem dX8_fits_0 : decode cX8_fits 0 = .ok (.aload_n 0, 1) := by decide +kernel
theorem dX8_fits_1 : decode cX8_fits 1 = .ok (.iload_n 1, 1) := by decide +kernel
theorem dX8_fits_2 : decode cX8_fits 2 = .ok (.invokevirtual 109, 3) := by decide +kernel
theorem dX8_fits_5 : decode cX8_fits 5 = .ok (.ifCond .eq 12, 3) := by decide +kernel
theorem dX8_fits_8 : decode cX8_fits 8 = .ok (.iload_n 2, 1) := by decide +kernel
theorem dX8_fits_9 : decode cX8_fits 9 = .ok (.ifCond .lt 8, 3) := by decide +kernel
theorem dX8_fits_12 : decode cX8_fits 12 = .ok (.iload_n 2, 1) := by decide +kernel
theorem dX8_fits_13 : decode cX8_fits 13 = .ok (.iconst 1, 1) := by decide +kernel
theorem dX8_fits_14 : decode cX8_fits 14 = .ok (.if_icmp .le 5, 3) := by decide +kernel
theorem dX8_fits_17 : decode cX8_fits 17 = .ok (.iconst (-1), 1) := by decide +kernel
theorem dX8_fits_18 : decode cX8_fits 18 = .ok (.ireturn, 1) := by decide +kernel
theorem dX8_fits_19 : decode cX8_fits 19 = .ok (.iconst 0, 1) := by decide +kernel
theorem dX8_fits_20 : decode cX8_fits 20 = .ok (.istore_n 3, 1) := by decide +kernel
theorem dX8_fits_21 : decode cX8_fits 21 = .ok (.iconst 0, 1) := by decide +kernel
theorem dX8_fits_22 : decode cX8_fits 22 = .ok (.istore 4, 2) := by decide +kernel
theorem dX8_fits_24 : decode cX8_fits 24 = .ok (.iload 4, 2) := by decide +kernel
theorem dX8_fits_26 : decode cX8_fits 26 = .ok (.aload_n 0, 1) := by decide +kernel
theorem dX8_fits_27 : decode cX8_fits 27 = .ok (.getfield 12, 3) := by decide +kernel
theorem dX8_fits_30 : decode cX8_fits 30 = .ok (.getfield 222, 3) := by decide +kernel
theorem dX8_fits_33 : decode cX8_fits 33 = .ok (.getfield 230, 3) := by decide +kernel
theorem dX8_fits_36 : decode cX8_fits 36 = .ok (.if_icmp .ge 29, 3) := by decide +kernel
theorem dX8_fits_39 : decode cX8_fits 39 = .ok (.iload_n 3, 1) := by decide +kernel
theorem dX8_fits_40 : decode cX8_fits 40 = .ok (.aload_n 0, 1) := by decide +kernel
theorem dX8_fits_41 : decode cX8_fits 41 = .ok (.getfield 12, 3) := by decide +kernel
theorem dX8_fits_44 : decode cX8_fits 44 = .ok (.getfield 222, 3) := by decide +kernel
theorem dX8_fits_47 : decode cX8_fits 47 = .ok (.getfield 235, 3) := by decide +kernel
theorem dX8_fits_50 : decode cX8_fits 50 = .ok (.iload 4, 2) := by decide +kernel
theorem dX8_fits_52 : decode cX8_fits 52 = .ok (.iaload, 1) := by decide +kernel
theorem dX8_fits_53 : decode cX8_fits 53 = .ok (.iconst 1, 1) := by decide +kernel
theorem dX8_fits_54 : decode cX8_fits 54 = .ok (.iadd, 1) := by decide +kernel
theorem dX8_fits_55 : decode cX8_fits 55 = .ok (.invokestatic 236, 3) := by decide +kernel
theorem dX8_fits_58 : decode cX8_fits 58 = .ok (.istore_n 3, 1) := by decide +kernel
theorem dX8_fits_59 : decode cX8_fits 59 = .ok (.iinc 4 1, 3) := by decide +kernel
theorem dX8_fits_62 : decode cX8_fits 62 = .ok (.goto (-38), 3) := by decide +kernel
theorem dX8_fits_65 : decode cX8_fits 65 = .ok (.iconst 0, 1) := by decide +kernel
theorem dX8_fits_66 : decode cX8_fits 66 = .ok (.istore 4, 2) := by decide +kernel
theorem dX8_fits_68 : decode cX8_fits 68 = .ok (.bipush (-10), 2) := by decide +kernel
theorem dX8_fits_70 : decode cX8_fits 70 = .ok (.istore 5, 2) := by decide +kernel
theorem dX8_fits_72 : decode cX8_fits 72 = .ok (.iconst 5, 1) := by decide +kernel
theorem dX8_fits_73 : decode cX8_fits 73 = .ok (.istore 6, 2) := by decide +kernel
theorem dX8_fits_75 : decode cX8_fits 75 = .ok (.iload 6, 2) := by decide +kernel
theorem dX8_fits_77 : decode cX8_fits 77 = .ok (.bipush (-5), 2) := by decide +kernel
theorem dX8_fits_79 : decode cX8_fits 79 = .ok (.if_icmp .lt 76, 3) := by decide +kernel
theorem dX8_fits_82 : decode cX8_fits 82 = .ok (.aload_n 0, 1) := by decide +kernel
theorem dX8_fits_83 : decode cX8_fits 83 = .ok (.getfield 35, 3) := by decide +kernel
theorem dX8_fits_86 : decode cX8_fits 86 = .ok (.aload_n 0, 1) := by decide +kernel
theorem dX8_fits_87 : decode cX8_fits 87 = .ok (.getfield 12, 3) := by decide +kernel
theorem dX8_fits_90 : decode cX8_fits 90 = .ok (.getfield 66, 3) := by decide +kernel
theorem dX8_fits_93 : decode cX8_fits 93 = .ok (.invokevirtual 146, 3) := by decide +kernel
theorem dX8_fits_96 : decode cX8_fits 96 = .ok (.aload_n 0, 1) := by decide +kernel
theorem dX8_fits_97 : decode cX8_fits 97 = .ok (.getfield 35, 3) := by decide +kernel
theorem dX8_fits_100 : decode cX8_fits 100 = .ok (.getfield 106, 3) := by decide +kernel
theorem dX8_fits_103 : decode cX8_fits 103 = .ok (.iload_n 1, 1) := by decide +kernel
theorem dX8_fits_104 : decode cX8_fits 104 = .ok (.aaload, 1) := by decide +kernel
theorem dX8_fits_105 : decode cX8_fits 105 = .ok (.iload 6, 2) := by decide +kernel
theorem dX8_fits_107 : decode cX8_fits 107 = .ok (.i2l, 1) := by decide +kernel
theorem dX8_fits_108 : decode cX8_fits 108 = .ok (.invokevirtual 88, 3) := by decide +kernel
theorem dX8_fits_111 : decode cX8_fits 111 = .ok (.aload_n 0, 1) := by decide +kernel
theorem dX8_fits_112 : decode cX8_fits 112 = .ok (.getfield 28, 3) := by decide +kernel
theorem dX8_fits_115 : decode cX8_fits 115 = .ok (.aload_n 0, 1) := by decide +kernel
theorem dX8_fits_116 : decode cX8_fits 116 = .ok (.getfield 35, 3) := by decide +kernel
theorem dX8_fits_119 : decode cX8_fits 119 = .ok (.iload_n 3, 1) := by decide +kernel
theorem dX8_fits_120 : decode cX8_fits 120 = .ok (.invokevirtual 129, 3) := by decide +kernel
theorem dX8_fits_123 : decode cX8_fits 123 = .ok (.aload_n 0, 1) := by decide +kernel
theorem dX8_fits_124 : decode cX8_fits 124 = .ok (.getfield 28, 3) := by decide +kernel
theorem dX8_fits_127 : decode cX8_fits 127 = .ok (.aload_n 0, 1) := by decide +kernel
theorem dX8_fits_128 : decode cX8_fits 128 = .ok (.getfield 12, 3) := by decide +kernel
theorem dX8_fits_131 : decode cX8_fits 131 = .ok (.getfield 222, 3) := by decide +kernel
theorem dX8_fits_134 : decode cX8_fits 134 = .ok (.invokevirtual 239, 3) := by decide +kernel
theorem dX8_fits_137 : decode cX8_fits 137 = .ok (.bipush (-5), 2) := by decide +kernel
theorem dX8_fits_139 : decode cX8_fits 139 = .ok (.if_icmp .ne 10, 3) := by decide +kernel
theorem dX8_fits_142 : decode cX8_fits 142 = .ok (.iinc 4 1, 3) := by decide +kernel
theorem dX8_fits_145 : decode cX8_fits 145 = .ok (.iload 6, 2) := by decide +kernel
theorem dX8_fits_147 : decode cX8_fits 147 = .ok (.istore 5, 2) := by decide +kernel
theorem dX8_fits_149 : decode cX8_fits 149 = .ok (.iinc 6 (-1), 3) := by decide +kernel
theorem dX8_fits_152 : decode cX8_fits 152 = .ok (.goto (-77), 3) := by decide +kernel
theorem dX8_fits_155 : decode cX8_fits 155 = .ok (.iload_n 2, 1) := by decide +kernel
theorem dX8_fits_156 : decode cX8_fits 156 = .ok (.ifCond .ne 8, 3) := by decide +kernel
theorem dX8_fits_159 : decode cX8_fits 159 = .ok (.iload 4, 2) := by decide +kernel
theorem dX8_fits_161 : decode cX8_fits 161 = .ok (.goto 5, 3) := by decide +kernel
theorem dX8_fits_164 : decode cX8_fits 164 = .ok (.iload 5, 2) := by decide +kernel
theorem dX8_fits_166 : decode cX8_fits 166 = .ok (.ireturn, 1) := by decide +kernel
theorem dX8_odds_0 : decode cX8_odds 0 = .ok (.iload_n 1, 1) := by decide +kernel
theorem dX8_odds_1 : decode cX8_odds 1 = .ok (.ifCond .lt 16, 3) := by decide +kernel
theorem dX8_odds_4 : decode cX8_odds 4 = .ok (.iload_n 1, 1) := by decide +kernel
theorem dX8_odds_5 : decode cX8_odds 5 = .ok (.bipush 20, 2) := by decide +kernel
theorem dX8_odds_7 : decode cX8_odds 7 = .ok (.if_icmp .gt 10, 3) := by decide +kernel
theorem dX8_odds_10 : decode cX8_odds 10 = .ok (.iload_n 2, 1) := by decide +kernel
theorem dX8_odds_11 : decode cX8_odds 11 = .ok (.invokestatic 185, 3) := by decide +kernel
theorem dX8_odds_14 : decode cX8_odds 14 = .ok (.ifCond .ne 7, 3) := by decide +kernel
theorem dX8_odds_17 : decode cX8_odds 17 = .ok (.ldc2_w 188, 3) := by decide +kernel
theorem dX8_odds_20 : decode cX8_odds 20 = .ok (.lreturn, 1) := by decide +kernel
theorem dX8_odds_21 : decode cX8_odds 21 = .ok (.iconst 0, 1) := by decide +kernel
theorem dX8_odds_22 : decode cX8_odds 22 = .ok (.istore_n 3, 1) := by decide +kernel
theorem dX8_odds_23 : decode cX8_odds 23 = .ok (.iconst 0, 1) := by decide +kernel
theorem dX8_odds_24 : decode cX8_odds 24 = .ok (.istore 4, 2) := by decide +kernel
theorem dX8_odds_26 : decode cX8_odds 26 = .ok (.iload 4, 2) := by decide +kernel
theorem dX8_odds_28 : decode cX8_odds 28 = .ok (.iconst 4, 1) := by decide +kernel
theorem dX8_odds_29 : decode cX8_odds 29 = .ok (.if_icmp .gt 58, 3) := by decide +kernel
theorem dX8_odds_32 : decode cX8_odds 32 = .ok (.aload_n 0, 1) := by decide +kernel
theorem dX8_odds_33 : decode cX8_odds 33 = .ok (.getfield 35, 3) := by decide +kernel
theorem dX8_odds_36 : decode cX8_odds 36 = .ok (.aload_n 0, 1) := by decide +kernel
theorem dX8_odds_37 : decode cX8_odds 37 = .ok (.getfield 12, 3) := by decide +kernel
theorem dX8_odds_40 : decode cX8_odds 40 = .ok (.getfield 66, 3) := by decide +kernel
theorem dX8_odds_43 : decode cX8_odds 43 = .ok (.invokevirtual 146, 3) := by decide +kernel
theorem dX8_odds_46 : decode cX8_odds 46 = .ok (.aload_n 0, 1) := by decide +kernel
theorem dX8_odds_47 : decode cX8_odds 47 = .ok (.getfield 35, 3) := by decide +kernel
theorem dX8_odds_50 : decode cX8_odds 50 = .ok (.iload 4, 2) := by decide +kernel
theorem dX8_odds_52 : decode cX8_odds 52 = .ok (.putfield 115, 3) := by decide +kernel
theorem dX8_odds_55 : decode cX8_odds 55 = .ok (.aload_n 0, 1) := by decide +kernel
theorem dX8_odds_56 : decode cX8_odds 56 = .ok (.getfield 28, 3) := by decide +kernel
theorem dX8_odds_59 : decode cX8_odds 59 = .ok (.aload_n 0, 1) := by decide +kernel
theorem dX8_odds_60 : decode cX8_odds 60 = .ok (.getfield 35, 3) := by decide +kernel
theorem dX8_odds_63 : decode cX8_odds 63 = .ok (.iload_n 1, 1) := by decide +kernel
theorem dX8_odds_64 : decode cX8_odds 64 = .ok (.invokevirtual 129, 3) := by decide +kernel
theorem dX8_odds_67 : decode cX8_odds 67 = .ok (.aload_n 0, 1) := by decide +kernel
theorem dX8_odds_68 : decode cX8_odds 68 = .ok (.getfield 28, 3) := by decide +kernel
theorem dX8_odds_71 : decode cX8_odds 71 = .ok (.getfield 133, 3) := by decide +kernel
theorem dX8_odds_74 : decode cX8_odds 74 = .ok (.iload_n 1, 1) := by decide +kernel
theorem dX8_odds_75 : decode cX8_odds 75 = .ok (.if_icmp .lt 6, 3) := by decide +kernel
theorem dX8_odds_78 : decode cX8_odds 78 = .ok (.iinc 3 1, 3) := by decide +kernel
theorem dX8_odds_81 : decode cX8_odds 81 = .ok (.iinc 4 1, 3) := by decide +kernel
theorem dX8_odds_84 : decode cX8_odds 84 = .ok (.goto (-58), 3) := by decide +kernel
theorem dX8_odds_87 : decode cX8_odds 87 = .ok (.aload_n 0, 1) := by decide +kernel
theorem dX8_odds_88 : decode cX8_odds 88 = .ok (.getfield 56, 3) := by decide +kernel
theorem dX8_odds_91 : decode cX8_odds 91 = .ok (.iload_n 3, 1) := by decide +kernel
theorem dX8_odds_92 : decode cX8_odds 92 = .ok (.i2l, 1) := by decide +kernel
theorem dX8_odds_93 : decode cX8_odds 93 = .ok (.ldc2_w 243, 3) := by decide +kernel
theorem dX8_odds_96 : decode cX8_odds 96 = .ok (.invokevirtual 245, 3) := by decide +kernel
theorem dX8_odds_99 : decode cX8_odds 99 = .ok (.aload_n 0, 1) := by decide +kernel
theorem dX8_odds_100 : decode cX8_odds 100 = .ok (.getfield 56, 3) := by decide +kernel
theorem dX8_odds_103 : decode cX8_odds 103 = .ok (.iload_n 2, 1) := by decide +kernel
theorem dX8_odds_104 : decode cX8_odds 104 = .ok (.invokevirtual 194, 3) := by decide +kernel
theorem dX8_odds_107 : decode cX8_odds 107 = .ok (.lreturn, 1) := by decide +kernel
theorem dX8_mean_0 : decode cX8_mean 0 = .ok (.aload_n 0, 1) := by decide +kernel
theorem dX8_mean_1 : decode cX8_mean 1 = .ok (.getfield 12, 3) := by decide +kernel
theorem dX8_mean_4 : decode cX8_mean 4 = .ok (.getfield 66, 3) := by decide +kernel
theorem dX8_mean_7 : decode cX8_mean 7 = .ok (.astore_n 2, 1) := by decide +kernel
theorem dX8_mean_8 : decode cX8_mean 8 = .ok (.aload_n 2, 1) := by decide +kernel
theorem dX8_mean_9 : decode cX8_mean 9 = .ok (.getfield 76, 3) := by decide +kernel
theorem dX8_mean_12 : decode cX8_mean 12 = .ok (.ifCond .eq 10, 3) := by decide +kernel
theorem dX8_mean_15 : decode cX8_mean 15 = .ok (.iload_n 1, 1) := by decide +kernel
theorem dX8_mean_16 : decode cX8_mean 16 = .ok (.invokestatic 185, 3) := by decide +kernel
theorem dX8_mean_19 : decode cX8_mean 19 = .ok (.ifCond .ne 7, 3) := by decide +kernel
theorem dX8_mean_22 : decode cX8_mean 22 = .ok (.ldc2_w 188, 3) := by decide +kernel
theorem dX8_mean_25 : decode cX8_mean 25 = .ok (.lreturn, 1) := by decide +kernel
theorem dX8_mean_26 : decode cX8_mean 26 = .ok (.iconst 0, 1) := by decide +kernel
theorem dX8_mean_27 : decode cX8_mean 27 = .ok (.istore_n 3, 1) := by decide +kernel
theorem dX8_mean_28 : decode cX8_mean 28 = .ok (.iconst 0, 1) := by decide +kernel
theorem dX8_mean_29 : decode cX8_mean 29 = .ok (.istore 4, 2) := by decide +kernel
theorem dX8_mean_31 : decode cX8_mean 31 = .ok (.iload 4, 2) := by decide +kernel
theorem dX8_mean_33 : decode cX8_mean 33 = .ok (.aload_n 2, 1) := by decide +kernel
theorem dX8_mean_34 : decode cX8_mean 34 = .ok (.getfield 76, 3) := by decide +kernel
theorem dX8_mean_37 : decode cX8_mean 37 = .ok (.if_icmp .ge 19, 3) := by decide +kernel
theorem dX8_mean_40 : decode cX8_mean 40 = .ok (.iload_n 3, 1) := by decide +kernel
theorem dX8_mean_41 : decode cX8_mean 41 = .ok (.aload_n 2, 1) := by decide +kernel
theorem dX8_mean_42 : decode cX8_mean 42 = .ok (.getfield 102, 3) := by decide +kernel
theorem dX8_mean_45 : decode cX8_mean 45 = .ok (.iload 4, 2) := by decide +kernel
theorem dX8_mean_47 : decode cX8_mean 47 = .ok (.iaload, 1) := by decide +kernel
theorem dX8_mean_48 : decode cX8_mean 48 = .ok (.iadd, 1) := by decide +kernel
theorem dX8_mean_49 : decode cX8_mean 49 = .ok (.istore_n 3, 1) := by decide +kernel
theorem dX8_mean_50 : decode cX8_mean 50 = .ok (.iinc 4 1, 3) := by decide +kernel
theorem dX8_mean_53 : decode cX8_mean 53 = .ok (.goto (-22), 3) := by decide +kernel
theorem dX8_mean_56 : decode cX8_mean 56 = .ok (.aload_n 0, 1) := by decide +kernel
theorem dX8_mean_57 : decode cX8_mean 57 = .ok (.getfield 56, 3) := by decide +kernel
theorem dX8_mean_60 : decode cX8_mean 60 = .ok (.iload_n 3, 1) := by decide +kernel
theorem dX8_mean_61 : decode cX8_mean 61 = .ok (.i2l, 1) := by decide +kernel
theorem dX8_mean_62 : decode cX8_mean 62 = .ok (.aload_n 2, 1) := by decide +kernel
theorem dX8_mean_63 : decode cX8_mean 63 = .ok (.getfield 76, 3) := by decide +kernel
theorem dX8_mean_66 : decode cX8_mean 66 = .ok (.i2l, 1) := by decide +kernel
theorem dX8_mean_67 : decode cX8_mean 67 = .ok (.invokevirtual 245, 3) := by decide +kernel
theorem dX8_mean_70 : decode cX8_mean 70 = .ok (.aload_n 0, 1) := by decide +kernel
theorem dX8_mean_71 : decode cX8_mean 71 = .ok (.getfield 56, 3) := by decide +kernel
theorem dX8_mean_74 : decode cX8_mean 74 = .ok (.iload_n 1, 1) := by decide +kernel
theorem dX8_mean_75 : decode cX8_mean 75 = .ok (.invokevirtual 194, 3) := by decide +kernel
theorem dX8_mean_78 : decode cX8_mean 78 = .ok (.lreturn, 1) := by decide +kernel
theorem dX8_event_0 : decode cX8_event 0 = .ok (.iload_n 1, 1) := by decide +kernel
theorem dX8_event_1 : decode cX8_event 1 = .ok (.iconst (-1), 1) := by decide +kernel
theorem dX8_event_2 : decode cX8_event 2 = .ok (.if_icmp .ne 16, 3) := by decide +kernel
theorem dX8_event_5 : decode cX8_event 5 = .ok (.aload_n 0, 1) := by decide +kernel
theorem dX8_event_6 : decode cX8_event 6 = .ok (.getfield 12, 3) := by decide +kernel
theorem dX8_event_9 : decode cX8_event 9 = .ok (.getfield 249, 3) := by decide +kernel
theorem dX8_event_12 : decode cX8_event 12 = .ok (.iconst 0, 1) := by decide +kernel
theorem dX8_event_13 : decode cX8_event 13 = .ok (.putfield 230, 3) := by decide +kernel
theorem dX8_event_16 : decode cX8_event 16 = .ok (.iconst 0, 1) := by decide +kernel
theorem dX8_event_17 : decode cX8_event 17 = .ok (.ireturn, 1) := by decide +kernel
theorem dX8_event_18 : decode cX8_event 18 = .ok (.iload_n 1, 1) := by decide +kernel
theorem dX8_event_19 : decode cX8_event 19 = .ok (.ifCond .lt 20, 3) := by decide +kernel
theorem dX8_event_22 : decode cX8_event 22 = .ok (.iload_n 1, 1) := by decide +kernel
theorem dX8_event_23 : decode cX8_event 23 = .ok (.iconst 3, 1) := by decide +kernel
theorem dX8_event_24 : decode cX8_event 24 = .ok (.if_icmp .gt 15, 3) := by decide +kernel
theorem dX8_event_27 : decode cX8_event 27 = .ok (.iload_n 1, 1) := by decide +kernel
theorem dX8_event_28 : decode cX8_event 28 = .ok (.ifCond .ne 13, 3) := by decide +kernel
theorem dX8_event_31 : decode cX8_event 31 = .ok (.aload_n 0, 1) := by decide +kernel
theorem dX8_event_32 : decode cX8_event 32 = .ok (.iload_n 2, 1) := by decide +kernel
theorem dX8_event_33 : decode cX8_event 33 = .ok (.invokevirtual 109, 3) := by decide +kernel
theorem dX8_event_36 : decode cX8_event 36 = .ok (.ifCond .ne 5, 3) := by decide +kernel
theorem dX8_event_39 : decode cX8_event 39 = .ok (.iconst (-1), 1) := by decide +kernel
theorem dX8_event_40 : decode cX8_event 40 = .ok (.ireturn, 1) := by decide +kernel
theorem dX8_event_41 : decode cX8_event 41 = .ok (.iload_n 1, 1) := by decide +kernel
theorem dX8_event_42 : decode cX8_event 42 = .ok (.iconst 1, 1) := by decide +kernel
theorem dX8_event_43 : decode cX8_event 43 = .ok (.if_icmp .ne 7, 3) := by decide +kernel
theorem dX8_event_46 : decode cX8_event 46 = .ok (.iload_n 2, 1) := by decide +kernel
theorem dX8_event_47 : decode cX8_event 47 = .ok (.ifCond .ne 33, 3) := by decide +kernel
theorem dX8_event_50 : decode cX8_event 50 = .ok (.iload_n 1, 1) := by decide +kernel
theorem dX8_event_51 : decode cX8_event 51 = .ok (.iconst 2, 1) := by decide +kernel
theorem dX8_event_52 : decode cX8_event 52 = .ok (.if_icmp .ne 10, 3) := by decide +kernel
theorem dX8_event_55 : decode cX8_event 55 = .ok (.iload_n 2, 1) := by decide +kernel
theorem dX8_event_56 : decode cX8_event 56 = .ok (.invokestatic 112, 3) := by decide +kernel
theorem dX8_event_59 : decode cX8_event 59 = .ok (.ifCond .eq 21, 3) := by decide +kernel
theorem dX8_event_62 : decode cX8_event 62 = .ok (.iload_n 1, 1) := by decide +kernel
theorem dX8_event_63 : decode cX8_event 63 = .ok (.iconst 3, 1) := by decide +kernel
theorem dX8_event_64 : decode cX8_event 64 = .ok (.if_icmp .ne 20, 3) := by decide +kernel
theorem dX8_event_67 : decode cX8_event 67 = .ok (.iload_n 2, 1) := by decide +kernel
theorem dX8_event_68 : decode cX8_event 68 = .ok (.invokestatic 112, 3) := by decide +kernel
theorem dX8_event_71 : decode cX8_event 71 = .ok (.ifCond .ne 13, 3) := by decide +kernel
theorem dX8_event_74 : decode cX8_event 74 = .ok (.iload_n 2, 1) := by decide +kernel
theorem dX8_event_75 : decode cX8_event 75 = .ok (.bipush 9, 2) := by decide +kernel
theorem dX8_event_77 : decode cX8_event 77 = .ok (.if_icmp .eq 7, 3) := by decide +kernel
theorem dX8_event_80 : decode cX8_event 80 = .ok (.iconst 1, 1) := by decide +kernel
theorem dX8_event_81 : decode cX8_event 81 = .ok (.goto 4, 3) := by decide +kernel
theorem dX8_event_84 : decode cX8_event 84 = .ok (.iconst 0, 1) := by decide +kernel
theorem dX8_event_85 : decode cX8_event 85 = .ok (.istore_n 3, 1) := by decide +kernel
theorem dX8_event_86 : decode cX8_event 86 = .ok (.iload_n 3, 1) := by decide +kernel
theorem dX8_event_87 : decode cX8_event 87 = .ok (.ifCond .eq 8, 3) := by decide +kernel
theorem dX8_event_90 : decode cX8_event 90 = .ok (.bipush (-2), 2) := by decide +kernel
theorem dX8_event_92 : decode cX8_event 92 = .ok (.goto 15, 3) := by decide +kernel
theorem dX8_event_95 : decode cX8_event 95 = .ok (.aload_n 0, 1) := by decide +kernel
theorem dX8_event_96 : decode cX8_event 96 = .ok (.getfield 12, 3) := by decide +kernel
theorem dX8_event_99 : decode cX8_event 99 = .ok (.getfield 249, 3) := by decide +kernel
theorem dX8_event_102 : decode cX8_event 102 = .ok (.iload_n 1, 1) := by decide +kernel
theorem dX8_event_103 : decode cX8_event 103 = .ok (.iload_n 2, 1) := by decide +kernel
theorem dX8_event_104 : decode cX8_event 104 = .ok (.invokevirtual 252, 3) := by decide +kernel
theorem dX8_event_107 : decode cX8_event 107 = .ok (.ireturn, 1) := by decide +kernel
theorem dX8_after_0 : decode cX8_after 0 = .ok (.iload_n 1, 1) := by decide +kernel
theorem dX8_after_1 : decode cX8_after 1 = .ok (.ifCond .lt 8, 3) := by decide +kernel
theorem dX8_after_4 : decode cX8_after 4 = .ok (.iload_n 1, 1) := by decide +kernel
theorem dX8_after_5 : decode cX8_after 5 = .ok (.iconst 2, 1) := by decide +kernel
theorem dX8_after_6 : decode cX8_after 6 = .ok (.if_icmp .le 5, 3) := by decide +kernel
theorem dX8_after_9 : decode cX8_after 9 = .ok (.iconst (-1), 1) := by decide +kernel
theorem dX8_after_10 : decode cX8_after 10 = .ok (.ireturn, 1) := by decide +kernel
theorem dX8_after_11 : decode cX8_after 11 = .ok (.aload_n 0, 1) := by decide +kernel
theorem dX8_after_12 : decode cX8_after 12 = .ok (.getfield 35, 3) := by decide +kernel
theorem dX8_after_15 : decode cX8_after 15 = .ok (.aload_n 0, 1) := by decide +kernel
theorem dX8_after_16 : decode cX8_after 16 = .ok (.getfield 12, 3) := by decide +kernel
theorem dX8_after_19 : decode cX8_after 19 = .ok (.getfield 66, 3) := by decide +kernel
theorem dX8_after_22 : decode cX8_after 22 = .ok (.invokevirtual 146, 3) := by decide +kernel
theorem dX8_after_25 : decode cX8_after 25 = .ok (.iconst 0, 1) := by decide +kernel
theorem dX8_after_26 : decode cX8_after 26 = .ok (.istore_n 2, 1) := by decide +kernel
theorem dX8_after_27 : decode cX8_after 27 = .ok (.iload_n 2, 1) := by decide +kernel
theorem dX8_after_28 : decode cX8_after 28 = .ok (.aload_n 0, 1) := by decide +kernel
theorem dX8_after_29 : decode cX8_after 29 = .ok (.getfield 12, 3) := by decide +kernel
theorem dX8_after_32 : decode cX8_after 32 = .ok (.getfield 249, 3) := by decide +kernel
theorem dX8_after_35 : decode cX8_after 35 = .ok (.getfield 230, 3) := by decide +kernel
theorem dX8_after_38 : decode cX8_after 38 = .ok (.if_icmp .ge 41, 3) := by decide +kernel
theorem dX8_after_41 : decode cX8_after 41 = .ok (.aload_n 0, 1) := by decide +kernel
theorem dX8_after_42 : decode cX8_after 42 = .ok (.aload_n 0, 1) := by decide +kernel
theorem dX8_after_43 : decode cX8_after 43 = .ok (.getfield 35, 3) := by decide +kernel
theorem dX8_after_46 : decode cX8_after 46 = .ok (.aload_n 0, 1) := by decide +kernel
theorem dX8_after_47 : decode cX8_after 47 = .ok (.getfield 12, 3) := by decide +kernel
theorem dX8_after_50 : decode cX8_after 50 = .ok (.getfield 249, 3) := by decide +kernel
theorem dX8_after_53 : decode cX8_after 53 = .ok (.getfield 235, 3) := by decide +kernel
theorem dX8_after_56 : decode cX8_after 56 = .ok (.iload_n 2, 1) := by decide +kernel
theorem dX8_after_57 : decode cX8_after 57 = .ok (.iaload, 1) := by decide +kernel
theorem dX8_after_58 : decode cX8_after 58 = .ok (.aload_n 0, 1) := by decide +kernel
theorem dX8_after_59 : decode cX8_after 59 = .ok (.getfield 12, 3) := by decide +kernel
theorem dX8_after_62 : decode cX8_after 62 = .ok (.getfield 249, 3) := by decide +kernel
theorem dX8_after_65 : decode cX8_after 65 = .ok (.getfield 255, 3) := by decide +kernel
theorem dX8_after_68 : decode cX8_after 68 = .ok (.iload_n 2, 1) := by decide +kernel
theorem dX8_after_69 : decode cX8_after 69 = .ok (.iaload, 1) := by decide +kernel
theorem dX8_after_70 : decode cX8_after 70 = .ok (.invokevirtual 256, 3) := by decide +kernel
theorem dX8_after_73 : decode cX8_after 73 = .ok (.iinc 2 1, 3) := by decide +kernel
theorem dX8_after_76 : decode cX8_after 76 = .ok (.goto (-49), 3) := by decide +kernel
theorem dX8_after_79 : decode cX8_after 79 = .ok (.aload_n 0, 1) := by decide +kernel
theorem dX8_after_80 : decode cX8_after 80 = .ok (.getfield 28, 3) := by decide +kernel
theorem dX8_after_83 : decode cX8_after 83 = .ok (.aload_n 0, 1) := by decide +kernel
theorem dX8_after_84 : decode cX8_after 84 = .ok (.getfield 35, 3) := by decide +kernel
theorem dX8_after_87 : decode cX8_after 87 = .ok (.bipush 20, 2) := by decide +kernel
theorem dX8_after_89 : decode cX8_after 89 = .ok (.invokevirtual 129, 3) := by decide +kernel
theorem dX8_after_92 : decode cX8_after 92 = .ok (.iload_n 1, 1) := by decide +kernel
theorem dX8_after_93 : decode cX8_after 93 = .ok (.ifCond .ne 11, 3) := by decide +kernel
theorem dX8_after_96 : decode cX8_after 96 = .ok (.aload_n 0, 1) := by decide +kernel
theorem dX8_after_97 : decode cX8_after 97 = .ok (.getfield 28, 3) := by decide +kernel
theorem dX8_after_100 : decode cX8_after 100 = .ok (.getfield 133, 3) := by decide +kernel
theorem dX8_after_103 : decode cX8_after 103 = .ok (.ireturn, 1) := by decide +kernel
theorem dX8_after_104 : decode cX8_after 104 = .ok (.iload_n 1, 1) := by decide +kernel
theorem dX8_after_105 : decode cX8_after 105 = .ok (.iconst 1, 1) := by decide +kernel
theorem dX8_after_106 : decode cX8_after 106 = .ok (.if_icmp .ne 11, 3) := by decide +kernel
theorem dX8_after_109 : decode cX8_after 109 = .ok (.aload_n 0, 1) := by decide +kernel
theorem dX8_after_110 : decode cX8_after 110 = .ok (.getfield 28, 3) := by decide +kernel
theorem dX8_after_113 : decode cX8_after 113 = .ok (.getfield 198, 3) := by decide +kernel
theorem dX8_after_116 : decode cX8_after 116 = .ok (.ireturn, 1) := by decide +kernel
theorem dX8_after_117 : decode cX8_after 117 = .ok (.aload_n 0, 1) := by decide +kernel
theorem dX8_after_118 : decode cX8_after 118 = .ok (.getfield 28, 3) := by decide +kernel
theorem dX8_after_121 : decode cX8_after 121 = .ok (.getfield 133, 3) := by decide +kernel
theorem dX8_after_124 : decode cX8_after 124 = .ok (.ifCond .le 15, 3) := by decide +kernel
theorem dX8_after_127 : decode cX8_after 127 = .ok (.aload_n 0, 1) := by decide +kernel
theorem dX8_after_128 : decode cX8_after 128 = .ok (.getfield 28, 3) := by decide +kernel
theorem dX8_after_131 : decode cX8_after 131 = .ok (.getfield 204, 3) := by decide +kernel
theorem dX8_after_134 : decode cX8_after 134 = .ok (.iconst 0, 1) := by decide +kernel
theorem dX8_after_135 : decode cX8_after 135 = .ok (.iaload, 1) := by decide +kernel
theorem dX8_after_136 : decode cX8_after 136 = .ok (.goto 5, 3) := by decide +kernel
theorem dX8_after_139 : decode cX8_after 139 = .ok (.bipush (-5), 2) := by decide +kernel
theorem dX8_after_141 : decode cX8_after 141 = .ok (.ireturn, 1) := by decide +kernel
theorem dX8_book_0 : decode cX8_book 0 = .ok (.aload_n 0, 1) := by decide +kernel
theorem dX8_book_1 : decode cX8_book 1 = .ok (.getfield 12, 3) := by decide +kernel
theorem dX8_book_4 : decode cX8_book 4 = .ok (.getfield 260, 3) := by decide +kernel
theorem dX8_book_7 : decode cX8_book 7 = .ok (.iload_n 1, 1) := by decide +kernel
theorem dX8_book_8 : decode cX8_book 8 = .ok (.iload_n 2, 1) := by decide +kernel
theorem dX8_book_9 : decode cX8_book 9 = .ok (.invokestatic 226, 3) := by decide +kernel
theorem dX8_book_12 : decode cX8_book 12 = .ok (.ireturn, 1) := by decide +kernel
theorem dX8_looked_0 : decode cX8_looked 0 = .ok (.aload_n 0, 1) := by decide +kernel
theorem dX8_looked_1 : decode cX8_looked 1 = .ok (.getfield 28, 3) := by decide +kernel
theorem dX8_looked_4 : decode cX8_looked 4 = .ok (.aload_n 0, 1) := by decide +kernel
theorem dX8_looked_5 : decode cX8_looked 5 = .ok (.getfield 12, 3) := by decide +kernel
theorem dX8_looked_8 : decode cX8_looked 8 = .ok (.getfield 66, 3) := by decide +kernel
theorem dX8_looked_11 : decode cX8_looked 11 = .ok (.bipush 20, 2) := by decide +kernel
theorem dX8_looked_13 : decode cX8_looked 13 = .ok (.invokevirtual 129, 3) := by decide +kernel
theorem dX8_looked_16 : decode cX8_looked 16 = .ok (.aload_n 0, 1) := by decide +kernel
theorem dX8_looked_17 : decode cX8_looked 17 = .ok (.getfield 28, 3) := by decide +kernel
theorem dX8_looked_20 : decode cX8_looked 20 = .ok (.aload_n 0, 1) := by decide +kernel
theorem dX8_looked_21 : decode cX8_looked 21 = .ok (.getfield 12, 3) := by decide +kernel
theorem dX8_looked_24 : decode cX8_looked 24 = .ok (.getfield 260, 3) := by decide +kernel
theorem dX8_looked_27 : decode cX8_looked 27 = .ok (.invokevirtual 239, 3) := by decide +kernel
theorem dX8_looked_30 : decode cX8_looked 30 = .ok (.ireturn, 1) := by decide +kernel
theorem dX8_judge_0 : decode cX8_judge 0 = .ok (.iload_n 1, 1) := by decide +kernel
theorem dX8_judge_1 : decode cX8_judge 1 = .ok (.invokestatic 263, 3) := by decide +kernel
theorem dX8_judge_4 : decode cX8_judge 4 = .ok (.ifCond .ne 5, 3) := by decide +kernel
theorem dX8_judge_7 : decode cX8_judge 7 = .ok (.iconst (-1), 1) := by decide +kernel
theorem dX8_judge_8 : decode cX8_judge 8 = .ok (.ireturn, 1) := by decide +kernel
theorem dX8_judge_9 : decode cX8_judge 9 = .ok (.aload_n 0, 1) := by decide +kernel
theorem dX8_judge_10 : decode cX8_judge 10 = .ok (.getfield 48, 3) := by decide +kernel
theorem dX8_judge_13 : decode cX8_judge 13 = .ok (.iload_n 1, 1) := by decide +kernel
theorem dX8_judge_14 : decode cX8_judge 14 = .ok (.aaload, 1) := by decide +kernel
theorem dX8_judge_15 : decode cX8_judge 15 = .ok (.astore_n 3, 1) := by decide +kernel
theorem dX8_judge_16 : decode cX8_judge 16 = .ok (.aload_n 3, 1) := by decide +kernel
theorem dX8_judge_17 : decode cX8_judge 17 = .ok (.getfield 266, 3) := by decide +kernel
theorem dX8_judge_20 : decode cX8_judge 20 = .ok (.iconst (-1), 1) := by decide +kernel
theorem dX8_judge_21 : decode cX8_judge 21 = .ok (.if_icmp .eq 13, 3) := by decide +kernel
theorem dX8_judge_24 : decode cX8_judge 24 = .ok (.aload_n 3, 1) := by decide +kernel
theorem dX8_judge_25 : decode cX8_judge 25 = .ok (.getfield 266, 3) := by decide +kernel
theorem dX8_judge_28 : decode cX8_judge 28 = .ok (.ifCond .eq 6, 3) := by decide +kernel
theorem dX8_judge_31 : decode cX8_judge 31 = .ok (.bipush (-12), 2) := by decide +kernel
theorem dX8_judge_33 : decode cX8_judge 33 = .ok (.ireturn, 1) := by decide +kernel
theorem dX8_judge_34 : decode cX8_judge 34 = .ok (.aload_n 0, 1) := by decide +kernel
theorem dX8_judge_35 : decode cX8_judge 35 = .ok (.getfield 28, 3) := by decide +kernel
theorem dX8_judge_38 : decode cX8_judge 38 = .ok (.aload_n 0, 1) := by decide +kernel
theorem dX8_judge_39 : decode cX8_judge 39 = .ok (.getfield 12, 3) := by decide +kernel
theorem dX8_judge_42 : decode cX8_judge 42 = .ok (.getfield 66, 3) := by decide +kernel
theorem dX8_judge_45 : decode cX8_judge 45 = .ok (.bipush 20, 2) := by decide +kernel
theorem dX8_judge_47 : decode cX8_judge 47 = .ok (.invokevirtual 129, 3) := by decide +kernel
theorem dX8_judge_50 : decode cX8_judge 50 = .ok (.aload_n 0, 1) := by decide +kernel
theorem dX8_judge_51 : decode cX8_judge 51 = .ok (.getfield 28, 3) := by decide +kernel
theorem dX8_judge_54 : decode cX8_judge 54 = .ok (.getfield 133, 3) := by decide +kernel
theorem dX8_judge_57 : decode cX8_judge 57 = .ok (.ifCond .ne 6, 3) := by decide +kernel
theorem dX8_judge_60 : decode cX8_judge 60 = .ok (.bipush (-5), 2) := by decide +kernel
theorem dX8_judge_62 : decode cX8_judge 62 = .ok (.ireturn, 1) := by decide +kernel
theorem dX8_judge_63 : decode cX8_judge 63 = .ok (.iload_n 2, 1) := by decide +kernel
theorem dX8_judge_64 : decode cX8_judge 64 = .ok (.ifCond .ge 6, 3) := by decide +kernel
theorem dX8_judge_67 : decode cX8_judge 67 = .ok (.bipush 100, 2) := by decide +kernel
theorem dX8_judge_69 : decode cX8_judge 69 = .ok (.ireturn, 1) := by decide +kernel
theorem dX8_judge_70 : decode cX8_judge 70 = .ok (.iconst 0, 1) := by decide +kernel
theorem dX8_judge_71 : decode cX8_judge 71 = .ok (.istore 4, 2) := by decide +kernel
theorem dX8_judge_73 : decode cX8_judge 73 = .ok (.iload 4, 2) := by decide +kernel
theorem dX8_judge_75 : decode cX8_judge 75 = .ok (.aload_n 0, 1) := by decide +kernel
theorem dX8_judge_76 : decode cX8_judge 76 = .ok (.getfield 28, 3) := by decide +kernel
theorem dX8_judge_79 : decode cX8_judge 79 = .ok (.getfield 133, 3) := by decide +kernel
theorem dX8_judge_82 : decode cX8_judge 82 = .ok (.if_icmp .ge 53, 3) := by decide +kernel
theorem dX8_judge_85 : decode cX8_judge 85 = .ok (.iload_n 2, 1) := by decide +kernel
theorem dX8_judge_86 : decode cX8_judge 86 = .ok (.aload_n 3, 1) := by decide +kernel
theorem dX8_judge_87 : decode cX8_judge 87 = .ok (.getfield 269, 3) := by decide +kernel
theorem dX8_judge_90 : decode cX8_judge 90 = .ok (.iload 4, 2) := by decide +kernel
theorem dX8_judge_92 : decode cX8_judge 92 = .ok (.isub, 1) := by decide +kernel
theorem dX8_judge_93 : decode cX8_judge 93 = .ok (.if_icmp .lt 9, 3) := by decide +kernel
theorem dX8_judge_96 : decode cX8_judge 96 = .ok (.bipush 100, 2) := by decide +kernel
theorem dX8_judge_98 : decode cX8_judge 98 = .ok (.iload 4, 2) := by decide +kernel
theorem dX8_judge_100 : decode cX8_judge 100 = .ok (.iadd, 1) := by decide +kernel
theorem dX8_judge_101 : decode cX8_judge 101 = .ok (.ireturn, 1) := by decide +kernel
theorem dX8_judge_102 : decode cX8_judge 102 = .ok (.aload_n 3, 1) := by decide +kernel
theorem dX8_judge_103 : decode cX8_judge 103 = .ok (.getfield 270, 3) := by decide +kernel
theorem dX8_judge_106 : decode cX8_judge 106 = .ok (.iload_n 2, 1) := by decide +kernel
theorem dX8_judge_107 : decode cX8_judge 107 = .ok (.iload 4, 2) := by decide +kernel
theorem dX8_judge_109 : decode cX8_judge 109 = .ok (.iadd, 1) := by decide +kernel
theorem dX8_judge_110 : decode cX8_judge 110 = .ok (.laload, 1) := by decide +kernel
theorem dX8_judge_111 : decode cX8_judge 111 = .ok (.aload_n 0, 1) := by decide +kernel
theorem dX8_judge_112 : decode cX8_judge 112 = .ok (.getfield 28, 3) := by decide +kernel
theorem dX8_judge_115 : decode cX8_judge 115 = .ok (.getfield 204, 3) := by decide +kernel
theorem dX8_judge_118 : decode cX8_judge 118 = .ok (.iload 4, 2) := by decide +kernel
theorem dX8_judge_120 : decode cX8_judge 120 = .ok (.iaload, 1) := by decide +kernel
theorem dX8_judge_121 : decode cX8_judge 121 = .ok (.i2l, 1) := by decide +kernel
theorem dX8_judge_122 : decode cX8_judge 122 = .ok (.lcmp, 1) := by decide +kernel
theorem dX8_judge_123 : decode cX8_judge 123 = .ok (.ifCond .eq 6, 3) := by decide +kernel
theorem dX8_judge_126 : decode cX8_judge 126 = .ok (.iload 4, 2) := by decide +kernel
theorem dX8_judge_128 : decode cX8_judge 128 = .ok (.ireturn, 1) := by decide +kernel
theorem dX8_judge_129 : decode cX8_judge 129 = .ok (.iinc 4 1, 3) := by decide +kernel
theorem dX8_judge_132 : decode cX8_judge 132 = .ok (.goto (-59), 3) := by decide +kernel
theorem dX8_judge_135 : decode cX8_judge 135 = .ok (.bipush (-5), 2) := by decide +kernel
theorem dX8_judge_137 : decode cX8_judge 137 = .ok (.ireturn, 1) := by decide +kernel
theorem dX8_image_0 : decode cX8_image 0 = .ok (.aload_n 0, 1) := by decide +kernel
theorem dX8_image_1 : decode cX8_image 1 = .ok (.getfield 18, 3) := by decide +kernel
theorem dX8_image_4 : decode cX8_image 4 = .ok (.aload_n 0, 1) := by decide +kernel
theorem dX8_image_5 : decode cX8_image 5 = .ok (.getfield 12, 3) := by decide +kernel
theorem dX8_image_8 : decode cX8_image 8 = .ok (.invokevirtual 274, 3) := by decide +kernel
theorem dX8_image_11 : decode cX8_image 11 = .ok (.aload_n 0, 1) := by decide +kernel
theorem dX8_image_12 : decode cX8_image 12 = .ok (.iconst 1, 1) := by decide +kernel
theorem dX8_image_13 : decode cX8_image 13 = .ok (.putfield 21, 3) := by decide +kernel
theorem dX8_image_16 : decode cX8_image 16 = .ok (.aload_n 0, 1) := by decide +kernel
theorem dX8_image_17 : decode cX8_image 17 = .ok (.getfield 12, 3) := by decide +kernel
theorem dX8_image_20 : decode cX8_image 20 = .ok (.getfield 66, 3) := by decide +kernel
theorem dX8_image_23 : decode cX8_image 23 = .ok (.getfield 76, 3) := by decide +kernel
theorem dX8_image_26 : decode cX8_image 26 = .ok (.ireturn, 1) := by decide +kernel
theorem dX8_undo_0 : decode cX8_undo 0 = .ok (.aload_n 0, 1) := by decide +kernel
theorem dX8_undo_1 : decode cX8_undo 1 = .ok (.getfield 21, 3) := by decide +kernel
theorem dX8_undo_4 : decode cX8_undo 4 = .ok (.ifCond .ne 6, 3) := by decide +kernel
theorem dX8_undo_7 : decode cX8_undo 7 = .ok (.bipush (-3), 2) := by decide +kernel
theorem dX8_undo_9 : decode cX8_undo 9 = .ok (.ireturn, 1) := by decide +kernel
theorem dX8_undo_10 : decode cX8_undo 10 = .ok (.aload_n 0, 1) := by decide +kernel
theorem dX8_undo_11 : decode cX8_undo 11 = .ok (.getfield 12, 3) := by decide +kernel
theorem dX8_undo_14 : decode cX8_undo 14 = .ok (.aload_n 0, 1) := by decide +kernel
theorem dX8_undo_15 : decode cX8_undo 15 = .ok (.getfield 18, 3) := by decide +kernel
theorem dX8_undo_18 : decode cX8_undo 18 = .ok (.invokevirtual 274, 3) := by decide +kernel
theorem dX8_undo_21 : decode cX8_undo 21 = .ok (.aload_n 0, 1) := by decide +kernel
theorem dX8_undo_22 : decode cX8_undo 22 = .ok (.getfield 12, 3) := by decide +kernel
theorem dX8_undo_25 : decode cX8_undo 25 = .ok (.getfield 66, 3) := by decide +kernel
theorem dX8_undo_28 : decode cX8_undo 28 = .ok (.getfield 76, 3) := by decide +kernel
theorem dX8_undo_31 : decode cX8_undo 31 = .ok (.ireturn, 1) := by decide +kernel
theorem dX8_count_0 : decode cX8_count 0 = .ok (.iload_n 1, 1) := by decide +kernel
theorem dX8_count_1 : decode cX8_count 1 = .ok (.tableswitch 72 0 3 #[31, 42, 53, 64], 31) := by decide +kernel
theorem dX8_count_32 : decode cX8_count 32 = .ok (.aload_n 0, 1) := by decide +kernel
theorem dX8_count_33 : decode cX8_count 33 = .ok (.getfield 12, 3) := by decide +kernel
theorem dX8_count_36 : decode cX8_count 36 = .ok (.getfield 222, 3) := by decide +kernel
theorem dX8_count_39 : decode cX8_count 39 = .ok (.getfield 230, 3) := by decide +kernel
theorem dX8_count_42 : decode cX8_count 42 = .ok (.ireturn, 1) := by decide +kernel
theorem dX8_count_43 : decode cX8_count 43 = .ok (.aload_n 0, 1) := by decide +kernel
theorem dX8_count_44 : decode cX8_count 44 = .ok (.getfield 12, 3) := by decide +kernel
theorem dX8_count_47 : decode cX8_count 47 = .ok (.getfield 249, 3) := by decide +kernel
theorem dX8_count_50 : decode cX8_count 50 = .ok (.getfield 230, 3) := by decide +kernel
theorem dX8_count_53 : decode cX8_count 53 = .ok (.ireturn, 1) := by decide +kernel
theorem dX8_count_54 : decode cX8_count 54 = .ok (.aload_n 0, 1) := by decide +kernel
theorem dX8_count_55 : decode cX8_count 55 = .ok (.getfield 12, 3) := by decide +kernel
theorem dX8_count_58 : decode cX8_count 58 = .ok (.getfield 260, 3) := by decide +kernel
theorem dX8_count_61 : decode cX8_count 61 = .ok (.getfield 230, 3) := by decide +kernel
theorem dX8_count_64 : decode cX8_count 64 = .ok (.ireturn, 1) := by decide +kernel
theorem dX8_count_65 : decode cX8_count 65 = .ok (.aload_n 0, 1) := by decide +kernel
theorem dX8_count_66 : decode cX8_count 66 = .ok (.getfield 42, 3) := by decide +kernel
theorem dX8_count_69 : decode cX8_count 69 = .ok (.getfield 149, 3) := by decide +kernel
theorem dX8_count_72 : decode cX8_count 72 = .ok (.ireturn, 1) := by decide +kernel
theorem dX8_count_73 : decode cX8_count 73 = .ok (.bipush (-2), 2) := by decide +kernel
theorem dX8_count_75 : decode cX8_count 75 = .ok (.ireturn, 1) := by decide +kernel
theorem dX8_tape_0 : decode cX8_tape 0 = .ok (.iload_n 1, 1) := by decide +kernel
theorem dX8_tape_1 : decode cX8_tape 1 = .ok (.invokestatic 263, 3) := by decide +kernel
theorem dX8_tape_4 : decode cX8_tape 4 = .ok (.ifCond .ne 5, 3) := by decide +kernel
theorem dX8_tape_7 : decode cX8_tape 7 = .ok (.iconst (-1), 1) := by decide +kernel
theorem dX8_tape_8 : decode cX8_tape 8 = .ok (.ireturn, 1) := by decide +kernel
theorem dX8_tape_9 : decode cX8_tape 9 = .ok (.iload_n 2, 1) := by decide +kernel
theorem dX8_tape_10 : decode cX8_tape 10 = .ok (.iconst (-1), 1) := by decide +kernel
theorem dX8_tape_11 : decode cX8_tape 11 = .ok (.if_icmp .lt 8, 3) := by decide +kernel
theorem dX8_tape_14 : decode cX8_tape 14 = .ok (.iload_n 2, 1) := by decide +kernel
theorem dX8_tape_15 : decode cX8_tape 15 = .ok (.iconst 4, 1) := by decide +kernel
theorem dX8_tape_16 : decode cX8_tape 16 = .ok (.if_icmp .le 6, 3) := by decide +kernel
theorem dX8_tape_19 : decode cX8_tape 19 = .ok (.bipush (-2), 2) := by decide +kernel
theorem dX8_tape_21 : decode cX8_tape 21 = .ok (.ireturn, 1) := by decide +kernel
theorem dX8_tape_22 : decode cX8_tape 22 = .ok (.iload_n 2, 1) := by decide +kernel
theorem dX8_tape_23 : decode cX8_tape 23 = .ok (.iconst (-1), 1) := by decide +kernel
theorem dX8_tape_24 : decode cX8_tape 24 = .ok (.if_icmp .eq 12, 3) := by decide +kernel
theorem dX8_tape_27 : decode cX8_tape 27 = .ok (.iload_n 3, 1) := by decide +kernel
theorem dX8_tape_28 : decode cX8_tape 28 = .ok (.bipush 60, 2) := by decide +kernel
theorem dX8_tape_30 : decode cX8_tape 30 = .ok (.if_icmp .le 6, 3) := by decide +kernel
theorem dX8_tape_33 : decode cX8_tape 33 = .ok (.bipush (-2), 2) := by decide +kernel
theorem dX8_tape_35 : decode cX8_tape 35 = .ok (.ireturn, 1) := by decide +kernel
theorem dX8_tape_36 : decode cX8_tape 36 = .ok (.iload_n 2, 1) := by decide +kernel
theorem dX8_tape_37 : decode cX8_tape 37 = .ok (.iconst (-1), 1) := by decide +kernel
theorem dX8_tape_38 : decode cX8_tape 38 = .ok (.if_icmp .eq 10, 3) := by decide +kernel
theorem dX8_tape_41 : decode cX8_tape 41 = .ok (.iload_n 3, 1) := by decide +kernel
theorem dX8_tape_42 : decode cX8_tape 42 = .ok (.ifCond .ge 6, 3) := by decide +kernel
theorem dX8_tape_45 : decode cX8_tape 45 = .ok (.bipush (-14), 2) := by decide +kernel
theorem dX8_tape_47 : decode cX8_tape 47 = .ok (.ireturn, 1) := by decide +kernel
theorem dX8_tape_48 : decode cX8_tape 48 = .ok (.aload_n 0, 1) := by decide +kernel
theorem dX8_tape_49 : decode cX8_tape 49 = .ok (.getfield 48, 3) := by decide +kernel
theorem dX8_tape_52 : decode cX8_tape 52 = .ok (.iload_n 1, 1) := by decide +kernel
theorem dX8_tape_53 : decode cX8_tape 53 = .ok (.aaload, 1) := by decide +kernel
theorem dX8_tape_54 : decode cX8_tape 54 = .ok (.iload_n 2, 1) := by decide +kernel
theorem dX8_tape_55 : decode cX8_tape 55 = .ok (.iload_n 2, 1) := by decide +kernel
theorem dX8_tape_56 : decode cX8_tape 56 = .ok (.iconst (-1), 1) := by decide +kernel
theorem dX8_tape_57 : decode cX8_tape 57 = .ok (.if_icmp .ne 7, 3) := by decide +kernel
theorem dX8_tape_60 : decode cX8_tape 60 = .ok (.iconst 0, 1) := by decide +kernel
theorem dX8_tape_61 : decode cX8_tape 61 = .ok (.goto 4, 3) := by decide +kernel
theorem dX8_tape_64 : decode cX8_tape 64 = .ok (.iload_n 3, 1) := by decide +kernel
theorem dX8_tape_65 : decode cX8_tape 65 = .ok (.invokevirtual 277, 3) := by decide +kernel
theorem dX8_tape_68 : decode cX8_tape 68 = .ok (.iconst 1, 1) := by decide +kernel
theorem dX8_tape_69 : decode cX8_tape 69 = .ok (.ireturn, 1) := by decide +kernel
theorem dX8_item_0 : decode cX8_item 0 = .ok (.iload_n 1, 1) := by decide +kernel
theorem dX8_item_1 : decode cX8_item 1 = .ok (.invokestatic 263, 3) := by decide +kernel
theorem dX8_item_4 : decode cX8_item 4 = .ok (.ifCond .ne 5, 3) := by decide +kernel
theorem dX8_item_7 : decode cX8_item 7 = .ok (.iconst (-1), 1) := by decide +kernel
theorem dX8_item_8 : decode cX8_item 8 = .ok (.ireturn, 1) := by decide +kernel
theorem dX8_item_9 : decode cX8_item 9 = .ok (.aload_n 0, 1) := by decide +kernel
theorem dX8_item_10 : decode cX8_item 10 = .ok (.getfield 48, 3) := by decide +kernel
theorem dX8_item_13 : decode cX8_item 13 = .ok (.iload_n 1, 1) := by decide +kernel
theorem dX8_item_14 : decode cX8_item 14 = .ok (.aaload, 1) := by decide +kernel
theorem dX8_item_15 : decode cX8_item 15 = .ok (.astore 5, 2) := by decide +kernel
theorem dX8_item_17 : decode cX8_item 17 = .ok (.aload 5, 2) := by decide +kernel
theorem dX8_item_19 : decode cX8_item 19 = .ok (.getfield 266, 3) := by decide +kernel
theorem dX8_item_22 : decode cX8_item 22 = .ok (.iconst (-1), 1) := by decide +kernel
theorem dX8_item_23 : decode cX8_item 23 = .ok (.if_icmp .ne 6, 3) := by decide +kernel
theorem dX8_item_26 : decode cX8_item 26 = .ok (.bipush (-11), 2) := by decide +kernel
theorem dX8_item_28 : decode cX8_item 28 = .ok (.ireturn, 1) := by decide +kernel
theorem dX8_item_29 : decode cX8_item 29 = .ok (.iload_n 2, 1) := by decide +kernel
theorem dX8_item_30 : decode cX8_item 30 = .ok (.ifCond .lt 12, 3) := by decide +kernel
theorem dX8_item_33 : decode cX8_item 33 = .ok (.iload_n 2, 1) := by decide +kernel
theorem dX8_item_34 : decode cX8_item 34 = .ok (.aload 5, 2) := by decide +kernel
theorem dX8_item_36 : decode cX8_item 36 = .ok (.getfield 269, 3) := by decide +kernel
theorem dX8_item_39 : decode cX8_item 39 = .ok (.if_icmp .lt 6, 3) := by decide +kernel
theorem dX8_item_42 : decode cX8_item 42 = .ok (.bipush (-13), 2) := by decide +kernel
theorem dX8_item_44 : decode cX8_item 44 = .ok (.ireturn, 1) := by decide +kernel
theorem dX8_item_45 : decode cX8_item 45 = .ok (.aload 5, 2) := by decide +kernel
theorem dX8_item_47 : decode cX8_item 47 = .ok (.getfield 270, 3) := by decide +kernel
theorem dX8_item_50 : decode cX8_item 50 = .ok (.iload_n 2, 1) := by decide +kernel
theorem dX8_item_51 : decode cX8_item 51 = .ok (.aload 5, 2) := by decide +kernel
theorem dX8_item_53 : decode cX8_item 53 = .ok (.lload_n 3, 1) := by decide +kernel
theorem dX8_item_54 : decode cX8_item 54 = .ok (.invokevirtual 281, 3) := by decide +kernel
theorem dX8_item_57 : decode cX8_item 57 = .ok (.lastore, 1) := by decide +kernel
theorem dX8_item_58 : decode cX8_item 58 = .ok (.iconst 1, 1) := by decide +kernel
theorem dX8_item_59 : decode cX8_item 59 = .ok (.ireturn, 1) := by decide +kernel
theorem dX8_peek_0 : decode cX8_peek 0 = .ok (.iload_n 1, 1) := by decide +kernel
theorem dX8_peek_1 : decode cX8_peek 1 = .ok (.invokestatic 263, 3) := by decide +kernel
theorem dX8_peek_4 : decode cX8_peek 4 = .ok (.ifCond .eq 20, 3) := by decide +kernel
theorem dX8_peek_7 : decode cX8_peek 7 = .ok (.iload_n 2, 1) := by decide +kernel
theorem dX8_peek_8 : decode cX8_peek 8 = .ok (.ifCond .lt 16, 3) := by decide +kernel
theorem dX8_peek_11 : decode cX8_peek 11 = .ok (.iload_n 2, 1) := by decide +kernel
theorem dX8_peek_12 : decode cX8_peek 12 = .ok (.aload_n 0, 1) := by decide +kernel
theorem dX8_peek_13 : decode cX8_peek 13 = .ok (.getfield 48, 3) := by decide +kernel
theorem dX8_peek_16 : decode cX8_peek 16 = .ok (.iload_n 1, 1) := by decide +kernel
theorem dX8_peek_17 : decode cX8_peek 17 = .ok (.aaload, 1) := by decide +kernel
theorem dX8_peek_18 : decode cX8_peek 18 = .ok (.getfield 269, 3) := by decide +kernel
theorem dX8_peek_21 : decode cX8_peek 21 = .ok (.if_icmp .lt 7, 3) := by decide +kernel
theorem dX8_peek_24 : decode cX8_peek 24 = .ok (.ldc2_w 188, 3) := by decide +kernel
theorem dX8_peek_27 : decode cX8_peek 27 = .ok (.lreturn, 1) := by decide +kernel
theorem dX8_peek_28 : decode cX8_peek 28 = .ok (.aload_n 0, 1) := by decide +kernel
theorem dX8_peek_29 : decode cX8_peek 29 = .ok (.getfield 48, 3) := by decide +kernel
theorem dX8_peek_32 : decode cX8_peek 32 = .ok (.iload_n 1, 1) := by decide +kernel
theorem dX8_peek_33 : decode cX8_peek 33 = .ok (.aaload, 1) := by decide +kernel
theorem dX8_peek_34 : decode cX8_peek 34 = .ok (.getfield 270, 3) := by decide +kernel
theorem dX8_peek_37 : decode cX8_peek 37 = .ok (.iload_n 2, 1) := by decide +kernel
theorem dX8_peek_38 : decode cX8_peek 38 = .ok (.laload, 1) := by decide +kernel
theorem dX8_peek_39 : decode cX8_peek 39 = .ok (.lreturn, 1) := by decide +kernel
theorem dX8_shift_0 : decode cX8_shift 0 = .ok (.iload_n 1, 1) := by decide +kernel
theorem dX8_shift_1 : decode cX8_shift 1 = .ok (.invokestatic 263, 3) := by decide +kernel
theorem dX8_shift_4 : decode cX8_shift 4 = .ok (.ifCond .eq 10, 3) := by decide +kernel
theorem dX8_shift_7 : decode cX8_shift 7 = .ok (.iload_n 3, 1) := by decide +kernel
theorem dX8_shift_8 : decode cX8_shift 8 = .ok (.invokestatic 263, 3) := by decide +kernel
theorem dX8_shift_11 : decode cX8_shift 11 = .ok (.ifCond .ne 5, 3) := by decide +kernel
theorem dX8_shift_14 : decode cX8_shift 14 = .ok (.iconst (-1), 1) := by decide +kernel
theorem dX8_shift_15 : decode cX8_shift 15 = .ok (.ireturn, 1) := by decide +kernel
theorem dX8_shift_16 : decode cX8_shift 16 = .ok (.aload_n 0, 1) := by decide +kernel
theorem dX8_shift_17 : decode cX8_shift 17 = .ok (.getfield 48, 3) := by decide +kernel
theorem dX8_shift_20 : decode cX8_shift 20 = .ok (.iload_n 1, 1) := by decide +kernel
theorem dX8_shift_21 : decode cX8_shift 21 = .ok (.aaload, 1) := by decide +kernel
theorem dX8_shift_22 : decode cX8_shift 22 = .ok (.astore 6, 2) := by decide +kernel
theorem dX8_shift_24 : decode cX8_shift 24 = .ok (.aload_n 0, 1) := by decide +kernel
theorem dX8_shift_25 : decode cX8_shift 25 = .ok (.getfield 48, 3) := by decide +kernel
theorem dX8_shift_28 : decode cX8_shift 28 = .ok (.iload_n 3, 1) := by decide +kernel
theorem dX8_shift_29 : decode cX8_shift 29 = .ok (.aaload, 1) := by decide +kernel
theorem dX8_shift_30 : decode cX8_shift 30 = .ok (.astore 7, 2) := by decide +kernel
theorem dX8_shift_32 : decode cX8_shift 32 = .ok (.aload 6, 2) := by decide +kernel
theorem dX8_shift_34 : decode cX8_shift 34 = .ok (.getfield 266, 3) := by decide +kernel
theorem dX8_shift_37 : decode cX8_shift 37 = .ok (.iconst (-1), 1) := by decide +kernel
theorem dX8_shift_38 : decode cX8_shift 38 = .ok (.if_icmp .eq 12, 3) := by decide +kernel
theorem dX8_shift_41 : decode cX8_shift 41 = .ok (.aload 7, 2) := by decide +kernel
theorem dX8_shift_43 : decode cX8_shift 43 = .ok (.getfield 266, 3) := by decide +kernel
theorem dX8_shift_46 : decode cX8_shift 46 = .ok (.iconst (-1), 1) := by decide +kernel
theorem dX8_shift_47 : decode cX8_shift 47 = .ok (.if_icmp .ne 6, 3) := by decide +kernel
theorem dX8_shift_50 : decode cX8_shift 50 = .ok (.bipush (-11), 2) := by decide +kernel
theorem dX8_shift_52 : decode cX8_shift 52 = .ok (.ireturn, 1) := by decide +kernel
theorem dX8_shift_53 : decode cX8_shift 53 = .ok (.aload 6, 2) := by decide +kernel
theorem dX8_shift_55 : decode cX8_shift 55 = .ok (.getfield 266, 3) := by decide +kernel
theorem dX8_shift_58 : decode cX8_shift 58 = .ok (.aload 7, 2) := by decide +kernel
theorem dX8_shift_60 : decode cX8_shift 60 = .ok (.getfield 266, 3) := by decide +kernel
theorem dX8_shift_63 : decode cX8_shift 63 = .ok (.if_icmp .eq 6, 3) := by decide +kernel
theorem dX8_shift_66 : decode cX8_shift 66 = .ok (.bipush (-12), 2) := by decide +kernel
theorem dX8_shift_68 : decode cX8_shift 68 = .ok (.ireturn, 1) := by decide +kernel
theorem dX8_shift_69 : decode cX8_shift 69 = .ok (.iload 5, 2) := by decide +kernel
theorem dX8_shift_71 : decode cX8_shift 71 = .ok (.ifCond .lt 37, 3) := by decide +kernel
theorem dX8_shift_74 : decode cX8_shift 74 = .ok (.iload_n 2, 1) := by decide +kernel
theorem dX8_shift_75 : decode cX8_shift 75 = .ok (.ifCond .lt 33, 3) := by decide +kernel
theorem dX8_shift_78 : decode cX8_shift 78 = .ok (.iload 4, 2) := by decide +kernel
theorem dX8_shift_80 : decode cX8_shift 80 = .ok (.ifCond .lt 28, 3) := by decide +kernel
theorem dX8_shift_83 : decode cX8_shift 83 = .ok (.iload_n 2, 1) := by decide +kernel
theorem dX8_shift_84 : decode cX8_shift 84 = .ok (.aload 6, 2) := by decide +kernel
theorem dX8_shift_86 : decode cX8_shift 86 = .ok (.getfield 269, 3) := by decide +kernel
theorem dX8_shift_89 : decode cX8_shift 89 = .ok (.iload 5, 2) := by decide +kernel
theorem dX8_shift_91 : decode cX8_shift 91 = .ok (.isub, 1) := by decide +kernel
theorem dX8_shift_92 : decode cX8_shift 92 = .ok (.if_icmp .gt 16, 3) := by decide +kernel
theorem dX8_shift_95 : decode cX8_shift 95 = .ok (.iload 4, 2) := by decide +kernel
theorem dX8_shift_97 : decode cX8_shift 97 = .ok (.aload 7, 2) := by decide +kernel
theorem dX8_shift_99 : decode cX8_shift 99 = .ok (.getfield 269, 3) := by decide +kernel
theorem dX8_shift_102 : decode cX8_shift 102 = .ok (.iload 5, 2) := by decide +kernel
theorem dX8_shift_104 : decode cX8_shift 104 = .ok (.isub, 1) := by decide +kernel
theorem dX8_shift_105 : decode cX8_shift 105 = .ok (.if_icmp .le 6, 3) := by decide +kernel
theorem dX8_shift_108 : decode cX8_shift 108 = .ok (.bipush (-13), 2) := by decide +kernel
theorem dX8_shift_110 : decode cX8_shift 110 = .ok (.ireturn, 1) := by decide +kernel
theorem dX8_shift_111 : decode cX8_shift 111 = .ok (.aload 6, 2) := by decide +kernel
theorem dX8_shift_113 : decode cX8_shift 113 = .ok (.getfield 270, 3) := by decide +kernel
theorem dX8_shift_116 : decode cX8_shift 116 = .ok (.iload_n 2, 1) := by decide +kernel
theorem dX8_shift_117 : decode cX8_shift 117 = .ok (.aload 7, 2) := by decide +kernel
theorem dX8_shift_119 : decode cX8_shift 119 = .ok (.getfield 270, 3) := by decide +kernel
theorem dX8_shift_122 : decode cX8_shift 122 = .ok (.iload 4, 2) := by decide +kernel
theorem dX8_shift_124 : decode cX8_shift 124 = .ok (.iload 5, 2) := by decide +kernel
theorem dX8_shift_126 : decode cX8_shift 126 = .ok (.invokestatic 285, 3) := by decide +kernel
theorem dX8_shift_129 : decode cX8_shift 129 = .ok (.iload 5, 2) := by decide +kernel
theorem dX8_shift_131 : decode cX8_shift 131 = .ok (.ireturn, 1) := by decide +kernel
theorem dX8_isBumper_0 : decode cX8_isBumper 0 = .ok (.iload_n 1, 1) := by decide +kernel
theorem dX8_isBumper_1 : decode cX8_isBumper 1 = .ok (.ifCond .lt 21, 3) := by decide +kernel
theorem dX8_isBumper_4 : decode cX8_isBumper 4 = .ok (.iload_n 1, 1) := by decide +kernel
theorem dX8_isBumper_5 : decode cX8_isBumper 5 = .ok (.aload_n 0, 1) := by decide +kernel
theorem dX8_isBumper_6 : decode cX8_isBumper 6 = .ok (.getfield 12, 3) := by decide +kernel
theorem dX8_isBumper_9 : decode cX8_isBumper 9 = .ok (.getfield 66, 3) := by decide +kernel
theorem dX8_isBumper_12 : decode cX8_isBumper 12 = .ok (.getfield 76, 3) := by decide +kernel
theorem dX8_isBumper_15 : decode cX8_isBumper 15 = .ok (.if_icmp .ge 7, 3) := by decide +kernel
theorem dX8_isBumper_18 : decode cX8_isBumper 18 = .ok (.iconst 1, 1) := by decide +kernel
theorem dX8_isBumper_19 : decode cX8_isBumper 19 = .ok (.goto 4, 3) := by decide +kernel
theorem dX8_isBumper_22 : decode cX8_isBumper 22 = .ok (.iconst 0, 1) := by decide +kernel
theorem dX8_isBumper_23 : decode cX8_isBumper 23 = .ok (.ireturn, 1) := by decide +kernel
theorem dX8_isMass_0 : decode cX8_isMass 0 = .ok (.iload_n 0, 1) := by decide +kernel
theorem dX8_isMass_1 : decode cX8_isMass 1 = .ok (.iconst 1, 1) := by decide +kernel
theorem dX8_isMass_2 : decode cX8_isMass 2 = .ok (.if_icmp .lt 13, 3) := by decide +kernel
theorem dX8_isMass_5 : decode cX8_isMass 5 = .ok (.iload_n 0, 1) := by decide +kernel
theorem dX8_isMass_6 : decode cX8_isMass 6 = .ok (.bipush 9, 2) := by decide +kernel
theorem dX8_isMass_8 : decode cX8_isMass 8 = .ok (.if_icmp .gt 7, 3) := by decide +kernel
theorem dX8_isMass_11 : decode cX8_isMass 11 = .ok (.iconst 1, 1) := by decide +kernel
theorem dX8_isMass_12 : decode cX8_isMass 12 = .ok (.goto 4, 3) := by decide +kernel
theorem dX8_isMass_15 : decode cX8_isMass 15 = .ok (.iconst 0, 1) := by decide +kernel
theorem dX8_isMass_16 : decode cX8_isMass 16 = .ok (.ireturn, 1) := by decide +kernel
theorem dX8_isSpeed_0 : decode cX8_isSpeed 0 = .ok (.iload_n 0, 1) := by decide +kernel
theorem dX8_isSpeed_1 : decode cX8_isSpeed 1 = .ok (.bipush (-9), 2) := by decide +kernel
theorem dX8_isSpeed_3 : decode cX8_isSpeed 3 = .ok (.if_icmp .lt 13, 3) := by decide +kernel
theorem dX8_isSpeed_6 : decode cX8_isSpeed 6 = .ok (.iload_n 0, 1) := by decide +kernel
theorem dX8_isSpeed_7 : decode cX8_isSpeed 7 = .ok (.bipush 9, 2) := by decide +kernel
theorem dX8_isSpeed_9 : decode cX8_isSpeed 9 = .ok (.if_icmp .gt 7, 3) := by decide +kernel
theorem dX8_isSpeed_12 : decode cX8_isSpeed 12 = .ok (.iconst 1, 1) := by decide +kernel
theorem dX8_isSpeed_13 : decode cX8_isSpeed 13 = .ok (.goto 4, 3) := by decide +kernel
theorem dX8_isSpeed_16 : decode cX8_isSpeed 16 = .ok (.iconst 0, 1) := by decide +kernel
theorem dX8_isSpeed_17 : decode cX8_isSpeed 17 = .ok (.ireturn, 1) := by decide +kernel
theorem dX8_isQuarters_0 : decode cX8_isQuarters 0 = .ok (.iload_n 0, 1) := by decide +kernel
theorem dX8_isQuarters_1 : decode cX8_isQuarters 1 = .ok (.ifCond .lt 12, 3) := by decide +kernel
theorem dX8_isQuarters_4 : decode cX8_isQuarters 4 = .ok (.iload_n 0, 1) := by decide +kernel
theorem dX8_isQuarters_5 : decode cX8_isQuarters 5 = .ok (.iconst 4, 1) := by decide +kernel
theorem dX8_isQuarters_6 : decode cX8_isQuarters 6 = .ok (.if_icmp .gt 7, 3) := by decide +kernel
theorem dX8_isQuarters_9 : decode cX8_isQuarters 9 = .ok (.iconst 1, 1) := by decide +kernel
theorem dX8_isQuarters_10 : decode cX8_isQuarters 10 = .ok (.goto 4, 3) := by decide +kernel
theorem dX8_isQuarters_13 : decode cX8_isQuarters 13 = .ok (.iconst 0, 1) := by decide +kernel
theorem dX8_isQuarters_14 : decode cX8_isQuarters 14 = .ok (.ireturn, 1) := by decide +kernel
theorem dX8_isPart_0 : decode cX8_isPart 0 = .ok (.iload_n 0, 1) := by decide +kernel
theorem dX8_isPart_1 : decode cX8_isPart 1 = .ok (.ifCond .eq 8, 3) := by decide +kernel
theorem dX8_isPart_4 : decode cX8_isPart 4 = .ok (.iload_n 0, 1) := by decide +kernel
theorem dX8_isPart_5 : decode cX8_isPart 5 = .ok (.iconst 1, 1) := by decide +kernel
theorem dX8_isPart_6 : decode cX8_isPart 6 = .ok (.if_icmp .ne 7, 3) := by decide +kernel
theorem dX8_isPart_9 : decode cX8_isPart 9 = .ok (.iconst 1, 1) := by decide +kernel
theorem dX8_isPart_10 : decode cX8_isPart 10 = .ok (.goto 4, 3) := by decide +kernel
theorem dX8_isPart_13 : decode cX8_isPart 13 = .ok (.iconst 0, 1) := by decide +kernel
theorem dX8_isPart_14 : decode cX8_isPart 14 = .ok (.ireturn, 1) := by decide +kernel
theorem dX8_isTape_0 : decode cX8_isTape 0 = .ok (.iload_n 0, 1) := by decide +kernel
theorem dX8_isTape_1 : decode cX8_isTape 1 = .ok (.ifCond .lt 13, 3) := by decide +kernel
theorem dX8_isTape_4 : decode cX8_isTape 4 = .ok (.iload_n 0, 1) := by decide +kernel
theorem dX8_isTape_5 : decode cX8_isTape 5 = .ok (.bipush 6, 2) := by decide +kernel
theorem dX8_isTape_7 : decode cX8_isTape 7 = .ok (.if_icmp .ge 7, 3) := by decide +kernel
theorem dX8_isTape_10 : decode cX8_isTape 10 = .ok (.iconst 1, 1) := by decide +kernel
theorem dX8_isTape_11 : decode cX8_isTape 11 = .ok (.goto 4, 3) := by decide +kernel
theorem dX8_isTape_14 : decode cX8_isTape 14 = .ok (.iconst 0, 1) := by decide +kernel
theorem dX8_isTape_15 : decode cX8_isTape 15 = .ok (.ireturn, 1) := by decide +kernel
theorem dX8_isWhere_0 : decode cX8_isWhere 0 = .ok (.iload_n 0, 1) := by decide +kernel
theorem dX8_isWhere_1 : decode cX8_isWhere 1 = .ok (.ifCond .lt 9, 3) := by decide +kernel
theorem dX8_isWhere_4 : decode cX8_isWhere 4 = .ok (.iload_n 0, 1) := by decide +kernel
theorem dX8_isWhere_5 : decode cX8_isWhere 5 = .ok (.bipush 6, 2) := by decide +kernel
theorem dX8_isWhere_7 : decode cX8_isWhere 7 = .ok (.if_icmp .lt 9, 3) := by decide +kernel
theorem dX8_isWhere_10 : decode cX8_isWhere 10 = .ok (.iload_n 0, 1) := by decide +kernel
theorem dX8_isWhere_11 : decode cX8_isWhere 11 = .ok (.bipush 9, 2) := by decide +kernel
theorem dX8_isWhere_13 : decode cX8_isWhere 13 = .ok (.if_icmp .ne 7, 3) := by decide +kernel
theorem dX8_isWhere_16 : decode cX8_isWhere 16 = .ok (.iconst 1, 1) := by decide +kernel
theorem dX8_isWhere_17 : decode cX8_isWhere 17 = .ok (.goto 4, 3) := by decide +kernel
theorem dX8_isWhere_20 : decode cX8_isWhere 20 = .ok (.iconst 0, 1) := by decide +kernel
theorem dX8_isWhere_21 : decode cX8_isWhere 21 = .ok (.ireturn, 1) := by decide +kernel
theorem dX8_isRefusal_0 : decode cX8_isRefusal 0 = .ok (.iload_n 0, 1) := by decide +kernel
theorem dX8_isRefusal_1 : decode cX8_isRefusal 1 = .ok (.iconst (-1), 1) := by decide +kernel
theorem dX8_isRefusal_2 : decode cX8_isRefusal 2 = .ok (.if_icmp .gt 13, 3) := by decide +kernel
theorem dX8_isRefusal_5 : decode cX8_isRefusal 5 = .ok (.iload_n 0, 1) := by decide +kernel
theorem dX8_isRefusal_6 : decode cX8_isRefusal 6 = .ok (.bipush (-4), 2) := by decide +kernel
theorem dX8_isRefusal_8 : decode cX8_isRefusal 8 = .ok (.if_icmp .lt 7, 3) := by decide +kernel
theorem dX8_isRefusal_11 : decode cX8_isRefusal 11 = .ok (.iconst 1, 1) := by decide +kernel
theorem dX8_isRefusal_12 : decode cX8_isRefusal 12 = .ok (.goto 4, 3) := by decide +kernel
theorem dX8_isRefusal_15 : decode cX8_isRefusal 15 = .ok (.iconst 0, 1) := by decide +kernel
theorem dX8_isRefusal_16 : decode cX8_isRefusal 16 = .ok (.ireturn, 1) := by decide +kernel
theorem dX8_toldWall_0 : decode cX8_toldWall 0 = .ok (.aload_n 0, 1) := by decide +kernel
theorem dX8_toldWall_1 : decode cX8_toldWall 1 = .ok (.getfield 12, 3) := by decide +kernel
theorem dX8_toldWall_4 : decode cX8_toldWall 4 = .ok (.getfield 66, 3) := by decide +kernel
theorem dX8_toldWall_7 : decode cX8_toldWall 7 = .ok (.getfield 126, 3) := by decide +kernel
theorem dX8_toldWall_10 : decode cX8_toldWall 10 = .ok (.iload_n 1, 1) := by decide +kernel
theorem dX8_toldWall_11 : decode cX8_toldWall 11 = .ok (.iaload, 1) := by decide +kernel
theorem dX8_toldWall_12 : decode cX8_toldWall 12 = .ok (.istore_n 2, 1) := by decide +kernel
theorem dX8_toldWall_13 : decode cX8_toldWall 13 = .ok (.iload_n 2, 1) := by decide +kernel
theorem dX8_toldWall_14 : decode cX8_toldWall 14 = .ok (.iconst (-1), 1) := by decide +kernel
theorem dX8_toldWall_15 : decode cX8_toldWall 15 = .ok (.if_icmp .ne 8, 3) := by decide +kernel
theorem dX8_toldWall_18 : decode cX8_toldWall 18 = .ok (.bipush (-5), 2) := by decide +kernel
theorem dX8_toldWall_20 : decode cX8_toldWall 20 = .ok (.goto 4, 3) := by decide +kernel
theorem dX8_toldWall_23 : decode cX8_toldWall 23 = .ok (.iload_n 2, 1) := by decide +kernel
theorem dX8_toldWall_24 : decode cX8_toldWall 24 = .ok (.ireturn, 1) := by decide +kernel
theorem dX8_isAnyBeyond_0 : decode cX8_isAnyBeyond 0 = .ok (.iconst 0, 1) := by decide +kernel
theorem dX8_isAnyBeyond_1 : decode cX8_isAnyBeyond 1 = .ok (.istore_n 3, 1) := by decide +kernel
theorem dX8_isAnyBeyond_2 : decode cX8_isAnyBeyond 2 = .ok (.iload_n 3, 1) := by decide +kernel
theorem dX8_isAnyBeyond_3 : decode cX8_isAnyBeyond 3 = .ok (.aload_n 1, 1) := by decide +kernel
theorem dX8_isAnyBeyond_4 : decode cX8_isAnyBeyond 4 = .ok (.getfield 76, 3) := by decide +kernel
theorem dX8_isAnyBeyond_7 : decode cX8_isAnyBeyond 7 = .ok (.if_icmp .ge 25, 3) := by decide +kernel
theorem dX8_isAnyBeyond_10 : decode cX8_isAnyBeyond 10 = .ok (.aload_n 0, 1) := by decide +kernel
theorem dX8_isAnyBeyond_11 : decode cX8_isAnyBeyond 11 = .ok (.aload_n 1, 1) := by decide +kernel
theorem dX8_isAnyBeyond_12 : decode cX8_isAnyBeyond 12 = .ok (.getfield 80, 3) := by decide +kernel
theorem dX8_isAnyBeyond_15 : decode cX8_isAnyBeyond 15 = .ok (.iload_n 3, 1) := by decide +kernel
theorem dX8_isAnyBeyond_16 : decode cX8_isAnyBeyond 16 = .ok (.aaload, 1) := by decide +kernel
theorem dX8_isAnyBeyond_17 : decode cX8_isAnyBeyond 17 = .ok (.iload_n 2, 1) := by decide +kernel
theorem dX8_isAnyBeyond_18 : decode cX8_isAnyBeyond 18 = .ok (.invokevirtual 291, 3) := by decide +kernel
theorem dX8_isAnyBeyond_21 : decode cX8_isAnyBeyond 21 = .ok (.ifCond .eq 5, 3) := by decide +kernel
theorem dX8_isAnyBeyond_24 : decode cX8_isAnyBeyond 24 = .ok (.iconst 1, 1) := by decide +kernel
theorem dX8_isAnyBeyond_25 : decode cX8_isAnyBeyond 25 = .ok (.ireturn, 1) := by decide +kernel
theorem dX8_isAnyBeyond_26 : decode cX8_isAnyBeyond 26 = .ok (.iinc 3 1, 3) := by decide +kernel
theorem dX8_isAnyBeyond_29 : decode cX8_isAnyBeyond 29 = .ok (.goto (-27), 3) := by decide +kernel
theorem dX8_isAnyBeyond_32 : decode cX8_isAnyBeyond 32 = .ok (.iconst 0, 1) := by decide +kernel
theorem dX8_isAnyBeyond_33 : decode cX8_isAnyBeyond 33 = .ok (.ireturn, 1) := by decide +kernel
theorem dX8_isBeyond_0 : decode cX8_isBeyond 0 = .ok (.iload_n 2, 1) := by decide +kernel
theorem dX8_isBeyond_1 : decode cX8_isBeyond 1 = .ok (.ifCond .ne 18, 3) := by decide +kernel
theorem dX8_isBeyond_4 : decode cX8_isBeyond 4 = .ok (.aload_n 1, 1) := by decide +kernel
theorem dX8_isBeyond_5 : decode cX8_isBeyond 5 = .ok (.getfield 98, 3) := by decide +kernel
theorem dX8_isBeyond_8 : decode cX8_isBeyond 8 = .ok (.lconst 0, 1) := by decide +kernel
theorem dX8_isBeyond_9 : decode cX8_isBeyond 9 = .ok (.lcmp, 1) := by decide +kernel
theorem dX8_isBeyond_10 : decode cX8_isBeyond 10 = .ok (.ifCond .ge 7, 3) := by decide +kernel
theorem dX8_isBeyond_13 : decode cX8_isBeyond 13 = .ok (.iconst 1, 1) := by decide +kernel
theorem dX8_isBeyond_14 : decode cX8_isBeyond 14 = .ok (.goto 4, 3) := by decide +kernel
theorem dX8_isBeyond_17 : decode cX8_isBeyond 17 = .ok (.iconst 0, 1) := by decide +kernel
theorem dX8_isBeyond_18 : decode cX8_isBeyond 18 = .ok (.ireturn, 1) := by decide +kernel
theorem dX8_isBeyond_19 : decode cX8_isBeyond 19 = .ok (.aload_n 0, 1) := by decide +kernel
theorem dX8_isBeyond_20 : decode cX8_isBeyond 20 = .ok (.getfield 56, 3) := by decide +kernel
theorem dX8_isBeyond_23 : decode cX8_isBeyond 23 = .ok (.aload_n 1, 1) := by decide +kernel
theorem dX8_isBeyond_24 : decode cX8_isBeyond 24 = .ok (.invokevirtual 84, 3) := by decide +kernel
theorem dX8_isBeyond_27 : decode cX8_isBeyond 27 = .ok (.aload_n 0, 1) := by decide +kernel
theorem dX8_isBeyond_28 : decode cX8_isBeyond 28 = .ok (.getfield 63, 3) := by decide +kernel
theorem dX8_isBeyond_31 : decode cX8_isBeyond 31 = .ok (.ldc2_w 295, 3) := by decide +kernel
theorem dX8_isBeyond_34 : decode cX8_isBeyond 34 = .ok (.invokevirtual 88, 3) := by decide +kernel
theorem dX8_isBeyond_37 : decode cX8_isBeyond 37 = .ok (.aload_n 0, 1) := by decide +kernel
theorem dX8_isBeyond_38 : decode cX8_isBeyond 38 = .ok (.getfield 56, 3) := by decide +kernel
theorem dX8_isBeyond_41 : decode cX8_isBeyond 41 = .ok (.aload_n 0, 1) := by decide +kernel
theorem dX8_isBeyond_42 : decode cX8_isBeyond 42 = .ok (.getfield 63, 3) := by decide +kernel
theorem dX8_isBeyond_45 : decode cX8_isBeyond 45 = .ok (.invokevirtual 92, 3) := by decide +kernel
theorem dX8_isBeyond_48 : decode cX8_isBeyond 48 = .ok (.aload_n 0, 1) := by decide +kernel
theorem dX8_isBeyond_49 : decode cX8_isBeyond 49 = .ok (.getfield 56, 3) := by decide +kernel
theorem dX8_isBeyond_52 : decode cX8_isBeyond 52 = .ok (.getfield 95, 3) := by decide +kernel
theorem dX8_isBeyond_55 : decode cX8_isBeyond 55 = .ok (.ifCond .ne 15, 3) := by decide +kernel
theorem dX8_isBeyond_58 : decode cX8_isBeyond 58 = .ok (.aload_n 0, 1) := by decide +kernel
theorem dX8_isBeyond_59 : decode cX8_isBeyond 59 = .ok (.getfield 56, 3) := by decide +kernel
theorem dX8_isBeyond_62 : decode cX8_isBeyond 62 = .ok (.getfield 98, 3) := by decide +kernel
theorem dX8_isBeyond_65 : decode cX8_isBeyond 65 = .ok (.lconst 0, 1) := by decide +kernel
theorem dX8_isBeyond_66 : decode cX8_isBeyond 66 = .ok (.lcmp, 1) := by decide +kernel
theorem dX8_isBeyond_67 : decode cX8_isBeyond 67 = .ok (.ifCond .le 7, 3) := by decide +kernel
theorem dX8_isBeyond_70 : decode cX8_isBeyond 70 = .ok (.iconst 1, 1) := by decide +kernel
theorem dX8_isBeyond_71 : decode cX8_isBeyond 71 = .ok (.goto 4, 3) := by decide +kernel
theorem dX8_isBeyond_74 : decode cX8_isBeyond 74 = .ok (.iconst 0, 1) := by decide +kernel
theorem dX8_isBeyond_75 : decode cX8_isBeyond 75 = .ok (.ireturn, 1) := by decide +kernel
theorem dX8_perform_0 : decode cX8_perform 0 = .ok (.iload_n 1, 1) := by decide +kernel
theorem dX8_perform_1 : decode cX8_perform 1 = .ok (.lookupswitch 72 #[(98, 43), (101, 52), (108, 58), (114, 65)], 43) := by decide +kernel
theorem dX8_perform_44 : decode cX8_perform 44 = .ok (.aload_n 0, 1) := by decide +kernel
theorem dX8_perform_45 : decode cX8_perform 45 = .ok (.iload_n 2, 1) := by decide +kernel
theorem dX8_perform_46 : decode cX8_perform 46 = .ok (.iload_n 3, 1) := by decide +kernel
theorem dX8_perform_47 : decode cX8_perform 47 = .ok (.iload 4, 2) := by decide +kernel
theorem dX8_perform_49 : decode cX8_perform 49 = .ok (.invokevirtual 297, 3) := by decide +kernel
theorem dX8_perform_52 : decode cX8_perform 52 = .ok (.ireturn, 1) := by decide +kernel
theorem dX8_perform_53 : decode cX8_perform 53 = .ok (.aload_n 0, 1) := by decide +kernel
theorem dX8_perform_54 : decode cX8_perform 54 = .ok (.iload_n 2, 1) := by decide +kernel
theorem dX8_perform_55 : decode cX8_perform 55 = .ok (.invokevirtual 301, 3) := by decide +kernel
theorem dX8_perform_58 : decode cX8_perform 58 = .ok (.ireturn, 1) := by decide +kernel
theorem dX8_perform_59 : decode cX8_perform 59 = .ok (.aload_n 0, 1) := by decide +kernel
theorem dX8_perform_60 : decode cX8_perform 60 = .ok (.iconst 0, 1) := by decide +kernel
theorem dX8_perform_61 : decode cX8_perform 61 = .ok (.iload_n 2, 1) := by decide +kernel
theorem dX8_perform_62 : decode cX8_perform 62 = .ok (.invokevirtual 304, 3) := by decide +kernel
theorem dX8_perform_65 : decode cX8_perform 65 = .ok (.ireturn, 1) := by decide +kernel
theorem dX8_perform_66 : decode cX8_perform 66 = .ok (.aload_n 0, 1) := by decide +kernel
theorem dX8_perform_67 : decode cX8_perform 67 = .ok (.iconst 1, 1) := by decide +kernel
theorem dX8_perform_68 : decode cX8_perform 68 = .ok (.iload_n 2, 1) := by decide +kernel
theorem dX8_perform_69 : decode cX8_perform 69 = .ok (.invokevirtual 304, 3) := by decide +kernel
theorem dX8_perform_72 : decode cX8_perform 72 = .ok (.ireturn, 1) := by decide +kernel
theorem dX8_perform_73 : decode cX8_perform 73 = .ok (.aload_n 0, 1) := by decide +kernel
theorem dX8_perform_74 : decode cX8_perform 74 = .ok (.iload_n 2, 1) := by decide +kernel
theorem dX8_perform_75 : decode cX8_perform 75 = .ok (.invokevirtual 307, 3) := by decide +kernel
theorem dX8_perform_78 : decode cX8_perform 78 = .ok (.ireturn, 1) := by decide +kernel
theorem dX8_addUp_0 : decode cX8_addUp 0 = .ok (.aload_n 0, 1) := by decide +kernel
theorem dX8_addUp_1 : decode cX8_addUp 1 = .ok (.getfield 56, 3) := by decide +kernel
theorem dX8_addUp_4 : decode cX8_addUp 4 = .ok (.lconst 0, 1) := by decide +kernel
theorem dX8_addUp_5 : decode cX8_addUp 5 = .ok (.invokevirtual 88, 3) := by decide +kernel
theorem dX8_addUp_8 : decode cX8_addUp 8 = .ok (.iconst 0, 1) := by decide +kernel
theorem dX8_addUp_9 : decode cX8_addUp 9 = .ok (.istore_n 3, 1) := by decide +kernel
theorem dX8_addUp_10 : decode cX8_addUp 10 = .ok (.iload_n 3, 1) := by decide +kernel
theorem dX8_addUp_11 : decode cX8_addUp 11 = .ok (.aload_n 1, 1) := by decide +kernel
theorem dX8_addUp_12 : decode cX8_addUp 12 = .ok (.getfield 76, 3) := by decide +kernel
theorem dX8_addUp_15 : decode cX8_addUp 15 = .ok (.if_icmp .ge 76, 3) := by decide +kernel
theorem dX8_addUp_18 : decode cX8_addUp 18 = .ok (.aload_n 0, 1) := by decide +kernel
theorem dX8_addUp_19 : decode cX8_addUp 19 = .ok (.getfield 60, 3) := by decide +kernel
theorem dX8_addUp_22 : decode cX8_addUp 22 = .ok (.aload_n 1, 1) := by decide +kernel
theorem dX8_addUp_23 : decode cX8_addUp 23 = .ok (.getfield 106, 3) := by decide +kernel
theorem dX8_addUp_26 : decode cX8_addUp 26 = .ok (.iload_n 3, 1) := by decide +kernel
theorem dX8_addUp_27 : decode cX8_addUp 27 = .ok (.aaload, 1) := by decide +kernel
theorem dX8_addUp_28 : decode cX8_addUp 28 = .ok (.invokevirtual 84, 3) := by decide +kernel
theorem dX8_addUp_31 : decode cX8_addUp 31 = .ok (.iload_n 2, 1) := by decide +kernel
theorem dX8_addUp_32 : decode cX8_addUp 32 = .ok (.iconst 1, 1) := by decide +kernel
theorem dX8_addUp_33 : decode cX8_addUp 33 = .ok (.if_icmp .ne 16, 3) := by decide +kernel
theorem dX8_addUp_36 : decode cX8_addUp 36 = .ok (.aload_n 0, 1) := by decide +kernel
theorem dX8_addUp_37 : decode cX8_addUp 37 = .ok (.getfield 60, 3) := by decide +kernel
theorem dX8_addUp_40 : decode cX8_addUp 40 = .ok (.aload_n 1, 1) := by decide +kernel
theorem dX8_addUp_41 : decode cX8_addUp 41 = .ok (.getfield 106, 3) := by decide +kernel
theorem dX8_addUp_44 : decode cX8_addUp 44 = .ok (.iload_n 3, 1) := by decide +kernel
theorem dX8_addUp_45 : decode cX8_addUp 45 = .ok (.aaload, 1) := by decide +kernel
theorem dX8_addUp_46 : decode cX8_addUp 46 = .ok (.invokevirtual 217, 3) := by decide +kernel
theorem dX8_addUp_49 : decode cX8_addUp 49 = .ok (.aload_n 0, 1) := by decide +kernel
theorem dX8_addUp_50 : decode cX8_addUp 50 = .ok (.getfield 63, 3) := by decide +kernel
theorem dX8_addUp_53 : decode cX8_addUp 53 = .ok (.aload_n 1, 1) := by decide +kernel
theorem dX8_addUp_54 : decode cX8_addUp 54 = .ok (.getfield 102, 3) := by decide +kernel
theorem dX8_addUp_57 : decode cX8_addUp 57 = .ok (.iload_n 3, 1) := by decide +kernel
theorem dX8_addUp_58 : decode cX8_addUp 58 = .ok (.iaload, 1) := by decide +kernel
theorem dX8_addUp_59 : decode cX8_addUp 59 = .ok (.i2l, 1) := by decide +kernel
theorem dX8_addUp_60 : decode cX8_addUp 60 = .ok (.invokevirtual 88, 3) := by decide +kernel
theorem dX8_addUp_63 : decode cX8_addUp 63 = .ok (.aload_n 0, 1) := by decide +kernel
theorem dX8_addUp_64 : decode cX8_addUp 64 = .ok (.getfield 60, 3) := by decide +kernel
theorem dX8_addUp_67 : decode cX8_addUp 67 = .ok (.aload_n 0, 1) := by decide +kernel
theorem dX8_addUp_68 : decode cX8_addUp 68 = .ok (.getfield 63, 3) := by decide +kernel
theorem dX8_addUp_71 : decode cX8_addUp 71 = .ok (.invokevirtual 217, 3) := by decide +kernel
theorem dX8_addUp_74 : decode cX8_addUp 74 = .ok (.aload_n 0, 1) := by decide +kernel
theorem dX8_addUp_75 : decode cX8_addUp 75 = .ok (.getfield 56, 3) := by decide +kernel
theorem dX8_addUp_78 : decode cX8_addUp 78 = .ok (.aload_n 0, 1) := by decide +kernel
theorem dX8_addUp_79 : decode cX8_addUp 79 = .ok (.getfield 60, 3) := by decide +kernel
theorem dX8_addUp_82 : decode cX8_addUp 82 = .ok (.invokevirtual 219, 3) := by decide +kernel
theorem dX8_addUp_85 : decode cX8_addUp 85 = .ok (.iinc 3 1, 3) := by decide +kernel
theorem dX8_addUp_88 : decode cX8_addUp 88 = .ok (.goto (-78), 3) := by decide +kernel
theorem dX8_addUp_91 : decode cX8_addUp 91 = .ok (.return_, 1) := by decide +kernel
theorem dX8_takesPart_0 : decode cX8_takesPart 0 = .ok (.iload_n 2, 1) := by decide +kernel
theorem dX8_takesPart_1 : decode cX8_takesPart 1 = .ok (.ifCond .ne 13, 3) := by decide +kernel
theorem dX8_takesPart_4 : decode cX8_takesPart 4 = .ok (.iload_n 1, 1) := by decide +kernel
theorem dX8_takesPart_5 : decode cX8_takesPart 5 = .ok (.ifCond .ne 7, 3) := by decide +kernel
theorem dX8_takesPart_8 : decode cX8_takesPart 8 = .ok (.iconst 1, 1) := by decide +kernel
theorem dX8_takesPart_9 : decode cX8_takesPart 9 = .ok (.goto 4, 3) := by decide +kernel
theorem dX8_takesPart_12 : decode cX8_takesPart 12 = .ok (.iconst 0, 1) := by decide +kernel
theorem dX8_takesPart_13 : decode cX8_takesPart 13 = .ok (.ireturn, 1) := by decide +kernel
theorem dX8_takesPart_14 : decode cX8_takesPart 14 = .ok (.iload_n 2, 1) := by decide +kernel
theorem dX8_takesPart_15 : decode cX8_takesPart 15 = .ok (.bipush 9, 2) := by decide +kernel
theorem dX8_takesPart_17 : decode cX8_takesPart 17 = .ok (.if_icmp .ne 25, 3) := by decide +kernel
theorem dX8_takesPart_20 : decode cX8_takesPart 20 = .ok (.iload_n 1, 1) := by decide +kernel
theorem dX8_takesPart_21 : decode cX8_takesPart 21 = .ok (.aload_n 0, 1) := by decide +kernel
theorem dX8_takesPart_22 : decode cX8_takesPart 22 = .ok (.getfield 12, 3) := by decide +kernel
theorem dX8_takesPart_25 : decode cX8_takesPart 25 = .ok (.getfield 66, 3) := by decide +kernel
theorem dX8_takesPart_28 : decode cX8_takesPart 28 = .ok (.getfield 76, 3) := by decide +kernel
theorem dX8_takesPart_31 : decode cX8_takesPart 31 = .ok (.iconst 1, 1) := by decide +kernel
theorem dX8_takesPart_32 : decode cX8_takesPart 32 = .ok (.isub, 1) := by decide +kernel
theorem dX8_takesPart_33 : decode cX8_takesPart 33 = .ok (.if_icmp .ne 7, 3) := by decide +kernel
theorem dX8_takesPart_36 : decode cX8_takesPart 36 = .ok (.iconst 1, 1) := by decide +kernel
theorem dX8_takesPart_37 : decode cX8_takesPart 37 = .ok (.goto 4, 3) := by decide +kernel
theorem dX8_takesPart_40 : decode cX8_takesPart 40 = .ok (.iconst 0, 1) := by decide +kernel
theorem dX8_takesPart_41 : decode cX8_takesPart 41 = .ok (.ireturn, 1) := by decide +kernel
theorem dX8_takesPart_42 : decode cX8_takesPart 42 = .ok (.iload_n 1, 1) := by decide +kernel
theorem dX8_takesPart_43 : decode cX8_takesPart 43 = .ok (.iload_n 2, 1) := by decide +kernel
theorem dX8_takesPart_44 : decode cX8_takesPart 44 = .ok (.iconst 1, 1) := by decide +kernel
theorem dX8_takesPart_45 : decode cX8_takesPart 45 = .ok (.isub, 1) := by decide +kernel
theorem dX8_takesPart_46 : decode cX8_takesPart 46 = .ok (.if_icmp .eq 8, 3) := by decide +kernel
theorem dX8_takesPart_49 : decode cX8_takesPart 49 = .ok (.iload_n 1, 1) := by decide +kernel
theorem dX8_takesPart_50 : decode cX8_takesPart 50 = .ok (.iload_n 2, 1) := by decide +kernel
theorem dX8_takesPart_51 : decode cX8_takesPart 51 = .ok (.if_icmp .ne 7, 3) := by decide +kernel
theorem dX8_takesPart_54 : decode cX8_takesPart 54 = .ok (.iconst 1, 1) := by decide +kernel
theorem dX8_takesPart_55 : decode cX8_takesPart 55 = .ok (.goto 4, 3) := by decide +kernel
theorem dX8_takesPart_58 : decode cX8_takesPart 58 = .ok (.iconst 0, 1) := by decide +kernel
theorem dX8_takesPart_59 : decode cX8_takesPart 59 = .ok (.ireturn, 1) := by decide +kernel
theorem dX8_lastStopBy_0 : decode cX8_lastStopBy 0 = .ok (.aload_n 0, 1) := by decide +kernel
theorem dX8_lastStopBy_1 : decode cX8_lastStopBy 1 = .ok (.getfield 28, 3) := by decide +kernel
theorem dX8_lastStopBy_4 : decode cX8_lastStopBy 4 = .ok (.aload_n 0, 1) := by decide +kernel
theorem dX8_lastStopBy_5 : decode cX8_lastStopBy 5 = .ok (.getfield 12, 3) := by decide +kernel
theorem dX8_lastStopBy_8 : decode cX8_lastStopBy 8 = .ok (.getfield 66, 3) := by decide +kernel
theorem dX8_lastStopBy_11 : decode cX8_lastStopBy 11 = .ok (.bipush 20, 2) := by decide +kernel
theorem dX8_lastStopBy_13 : decode cX8_lastStopBy 13 = .ok (.invokevirtual 129, 3) := by decide +kernel
theorem dX8_lastStopBy_16 : decode cX8_lastStopBy 16 = .ok (.iconst 0, 1) := by decide +kernel
theorem dX8_lastStopBy_17 : decode cX8_lastStopBy 17 = .ok (.istore_n 2, 1) := by decide +kernel
theorem dX8_lastStopBy_18 : decode cX8_lastStopBy 18 = .ok (.iload_n 2, 1) := by decide +kernel
theorem dX8_lastStopBy_19 : decode cX8_lastStopBy 19 = .ok (.aload_n 0, 1) := by decide +kernel
theorem dX8_lastStopBy_20 : decode cX8_lastStopBy 20 = .ok (.getfield 28, 3) := by decide +kernel
theorem dX8_lastStopBy_23 : decode cX8_lastStopBy 23 = .ok (.getfield 133, 3) := by decide +kernel
theorem dX8_lastStopBy_26 : decode cX8_lastStopBy 26 = .ok (.if_icmp .ge 62, 3) := by decide +kernel
theorem dX8_lastStopBy_29 : decode cX8_lastStopBy 29 = .ok (.aload_n 0, 1) := by decide +kernel
theorem dX8_lastStopBy_30 : decode cX8_lastStopBy 30 = .ok (.getfield 56, 3) := by decide +kernel
theorem dX8_lastStopBy_33 : decode cX8_lastStopBy 33 = .ok (.iload_n 1, 1) := by decide +kernel
theorem dX8_lastStopBy_34 : decode cX8_lastStopBy 34 = .ok (.i2l, 1) := by decide +kernel
theorem dX8_lastStopBy_35 : decode cX8_lastStopBy 35 = .ok (.invokevirtual 88, 3) := by decide +kernel
theorem dX8_lastStopBy_38 : decode cX8_lastStopBy 38 = .ok (.aload_n 0, 1) := by decide +kernel
theorem dX8_lastStopBy_39 : decode cX8_lastStopBy 39 = .ok (.getfield 56, 3) := by decide +kernel
theorem dX8_lastStopBy_42 : decode cX8_lastStopBy 42 = .ok (.aload_n 0, 1) := by decide +kernel
theorem dX8_lastStopBy_43 : decode cX8_lastStopBy 43 = .ok (.getfield 28, 3) := by decide +kernel
theorem dX8_lastStopBy_46 : decode cX8_lastStopBy 46 = .ok (.getfield 207, 3) := by decide +kernel
theorem dX8_lastStopBy_49 : decode cX8_lastStopBy 49 = .ok (.iload_n 2, 1) := by decide +kernel
theorem dX8_lastStopBy_50 : decode cX8_lastStopBy 50 = .ok (.iconst 1, 1) := by decide +kernel
theorem dX8_lastStopBy_51 : decode cX8_lastStopBy 51 = .ok (.iadd, 1) := by decide +kernel
theorem dX8_lastStopBy_52 : decode cX8_lastStopBy 52 = .ok (.aaload, 1) := by decide +kernel
theorem dX8_lastStopBy_53 : decode cX8_lastStopBy 53 = .ok (.invokevirtual 92, 3) := by decide +kernel
theorem dX8_lastStopBy_56 : decode cX8_lastStopBy 56 = .ok (.aload_n 0, 1) := by decide +kernel
theorem dX8_lastStopBy_57 : decode cX8_lastStopBy 57 = .ok (.getfield 56, 3) := by decide +kernel
theorem dX8_lastStopBy_60 : decode cX8_lastStopBy 60 = .ok (.getfield 95, 3) := by decide +kernel
theorem dX8_lastStopBy_63 : decode cX8_lastStopBy 63 = .ok (.ifCond .eq 5, 3) := by decide +kernel
theorem dX8_lastStopBy_66 : decode cX8_lastStopBy 66 = .ok (.iconst (-1), 1) := by decide +kernel
theorem dX8_lastStopBy_67 : decode cX8_lastStopBy 67 = .ok (.ireturn, 1) := by decide +kernel
theorem dX8_lastStopBy_68 : decode cX8_lastStopBy 68 = .ok (.aload_n 0, 1) := by decide +kernel
theorem dX8_lastStopBy_69 : decode cX8_lastStopBy 69 = .ok (.getfield 56, 3) := by decide +kernel
theorem dX8_lastStopBy_72 : decode cX8_lastStopBy 72 = .ok (.getfield 98, 3) := by decide +kernel
theorem dX8_lastStopBy_75 : decode cX8_lastStopBy 75 = .ok (.lconst 0, 1) := by decide +kernel
theorem dX8_lastStopBy_76 : decode cX8_lastStopBy 76 = .ok (.lcmp, 1) := by decide +kernel
theorem dX8_lastStopBy_77 : decode cX8_lastStopBy 77 = .ok (.ifCond .ge 5, 3) := by decide +kernel
theorem dX8_lastStopBy_80 : decode cX8_lastStopBy 80 = .ok (.iload_n 2, 1) := by decide +kernel
theorem dX8_lastStopBy_81 : decode cX8_lastStopBy 81 = .ok (.ireturn, 1) := by decide +kernel
theorem dX8_lastStopBy_82 : decode cX8_lastStopBy 82 = .ok (.iinc 2 1, 3) := by decide +kernel
theorem dX8_lastStopBy_85 : decode cX8_lastStopBy 85 = .ok (.goto (-67), 3) := by decide +kernel
theorem dX8_lastStopBy_88 : decode cX8_lastStopBy 88 = .ok (.aload_n 0, 1) := by decide +kernel
theorem dX8_lastStopBy_89 : decode cX8_lastStopBy 89 = .ok (.getfield 28, 3) := by decide +kernel
theorem dX8_lastStopBy_92 : decode cX8_lastStopBy 92 = .ok (.getfield 198, 3) := by decide +kernel
theorem dX8_lastStopBy_95 : decode cX8_lastStopBy 95 = .ok (.ifCond .ne 13, 3) := by decide +kernel
theorem dX8_lastStopBy_98 : decode cX8_lastStopBy 98 = .ok (.aload_n 0, 1) := by decide +kernel
theorem dX8_lastStopBy_99 : decode cX8_lastStopBy 99 = .ok (.getfield 28, 3) := by decide +kernel
theorem dX8_lastStopBy_102 : decode cX8_lastStopBy 102 = .ok (.getfield 133, 3) := by decide +kernel
theorem dX8_lastStopBy_105 : decode cX8_lastStopBy 105 = .ok (.goto 4, 3) := by decide +kernel
theorem dX8_lastStopBy_108 : decode cX8_lastStopBy 108 = .ok (.iconst (-1), 1) := by decide +kernel
theorem dX8_lastStopBy_109 : decode cX8_lastStopBy 109 = .ok (.ireturn, 1) := by decide +kernel
theorem dX8_addStrike_0 : decode cX8_addStrike 0 = .ok (.iload_n 1, 1) := by decide +kernel
theorem dX8_addStrike_1 : decode cX8_addStrike 1 = .ok (.iconst (-1), 1) := by decide +kernel
theorem dX8_addStrike_2 : decode cX8_addStrike 2 = .ok (.if_icmp .ne 10, 3) := by decide +kernel
theorem dX8_addStrike_5 : decode cX8_addStrike 5 = .ok (.aload_n 0, 1) := by decide +kernel
theorem dX8_addStrike_6 : decode cX8_addStrike 6 = .ok (.iconst 0, 1) := by decide +kernel
theorem dX8_addStrike_7 : decode cX8_addStrike 7 = .ok (.putfield 230, 3) := by decide +kernel
theorem dX8_addStrike_10 : decode cX8_addStrike 10 = .ok (.iconst 0, 1) := by decide +kernel
theorem dX8_addStrike_11 : decode cX8_addStrike 11 = .ok (.ireturn, 1) := by decide +kernel
theorem dX8_addStrike_12 : decode cX8_addStrike 12 = .ok (.iload_n 1, 1) := by decide +kernel
theorem dX8_addStrike_13 : decode cX8_addStrike 13 = .ok (.ifCond .lt 16, 3) := by decide +kernel
theorem dX8_addStrike_16 : decode cX8_addStrike 16 = .ok (.iload_n 1, 1) := by decide +kernel
theorem dX8_addStrike_17 : decode cX8_addStrike 17 = .ok (.bipush 20, 2) := by decide +kernel
theorem dX8_addStrike_19 : decode cX8_addStrike 19 = .ok (.if_icmp .ge 10, 3) := by decide +kernel
theorem dX8_addStrike_22 : decode cX8_addStrike 22 = .ok (.iload_n 2, 1) := by decide +kernel
theorem dX8_addStrike_23 : decode cX8_addStrike 23 = .ok (.invokestatic 310, 3) := by decide +kernel
theorem dX8_addStrike_26 : decode cX8_addStrike 26 = .ok (.ifCond .ne 5, 3) := by decide +kernel
theorem dX8_addStrike_29 : decode cX8_addStrike 29 = .ok (.iconst (-1), 1) := by decide +kernel
theorem dX8_addStrike_30 : decode cX8_addStrike 30 = .ok (.ireturn, 1) := by decide +kernel
theorem dX8_addStrike_31 : decode cX8_addStrike 31 = .ok (.aload_n 0, 1) := by decide +kernel
theorem dX8_addStrike_32 : decode cX8_addStrike 32 = .ok (.iload_n 1, 1) := by decide +kernel
theorem dX8_addStrike_33 : decode cX8_addStrike 33 = .ok (.iload_n 2, 1) := by decide +kernel
theorem dX8_addStrike_34 : decode cX8_addStrike 34 = .ok (.invokevirtual 252, 3) := by decide +kernel
theorem dX8_addStrike_37 : decode cX8_addStrike 37 = .ok (.ireturn, 1) := by decide +kernel
theorem dX8_happen_0 : decode cX8_happen 0 = .ok (.iload_n 2, 1) := by decide +kernel
theorem dX8_happen_1 : decode cX8_happen 1 = .ok (.tableswitch 68 0 2 #[27, 52, 60], 27) := by decide +kernel
theorem dX8_happen_28 : decode cX8_happen 28 = .ok (.iload_n 3, 1) := by decide +kernel
theorem dX8_happen_29 : decode cX8_happen 29 = .ok (.ifCond .lt 83, 3) := by decide +kernel
theorem dX8_happen_32 : decode cX8_happen 32 = .ok (.iload_n 3, 1) := by decide +kernel
theorem dX8_happen_33 : decode cX8_happen 33 = .ok (.aload_n 1, 1) := by decide +kernel
theorem dX8_happen_34 : decode cX8_happen 34 = .ok (.getfield 76, 3) := by decide +kernel
theorem dX8_happen_37 : decode cX8_happen 37 = .ok (.if_icmp .ge 75, 3) := by decide +kernel
theorem dX8_happen_40 : decode cX8_happen 40 = .ok (.aload_n 1, 1) := by decide +kernel
theorem dX8_happen_41 : decode cX8_happen 41 = .ok (.getfield 106, 3) := by decide +kernel
theorem dX8_happen_44 : decode cX8_happen 44 = .ok (.iload_n 3, 1) := by decide +kernel
theorem dX8_happen_45 : decode cX8_happen 45 = .ok (.aaload, 1) := by decide +kernel
theorem dX8_happen_46 : decode cX8_happen 46 = .ok (.lconst 0, 1) := by decide +kernel
theorem dX8_happen_47 : decode cX8_happen 47 = .ok (.invokevirtual 88, 3) := by decide +kernel
theorem dX8_happen_50 : decode cX8_happen 50 = .ok (.goto 62, 3) := by decide +kernel
theorem dX8_happen_53 : decode cX8_happen 53 = .ok (.aload_n 0, 1) := by decide +kernel
theorem dX8_happen_54 : decode cX8_happen 54 = .ok (.aload_n 1, 1) := by decide +kernel
theorem dX8_happen_55 : decode cX8_happen 55 = .ok (.invokevirtual 313, 3) := by decide +kernel
theorem dX8_happen_58 : decode cX8_happen 58 = .ok (.goto 54, 3) := by decide +kernel
theorem dX8_happen_61 : decode cX8_happen 61 = .ok (.aload_n 1, 1) := by decide +kernel
theorem dX8_happen_62 : decode cX8_happen 62 = .ok (.iload_n 3, 1) := by decide +kernel
theorem dX8_happen_63 : decode cX8_happen 63 = .ok (.putfield 115, 3) := by decide +kernel
theorem dX8_happen_66 : decode cX8_happen 66 = .ok (.goto 46, 3) := by decide +kernel
theorem dX8_happen_69 : decode cX8_happen 69 = .ok (.iconst 0, 1) := by decide +kernel
theorem dX8_happen_70 : decode cX8_happen 70 = .ok (.istore 4, 2) := by decide +kernel
theorem dX8_happen_72 : decode cX8_happen 72 = .ok (.iload 4, 2) := by decide +kernel
theorem dX8_happen_74 : decode cX8_happen 74 = .ok (.iconst 1, 1) := by decide +kernel
theorem dX8_happen_75 : decode cX8_happen 75 = .ok (.if_icmp .gt 37, 3) := by decide +kernel
theorem dX8_happen_78 : decode cX8_happen 78 = .ok (.aload_n 0, 1) := by decide +kernel
theorem dX8_happen_79 : decode cX8_happen 79 = .ok (.aload_n 1, 1) := by decide +kernel
theorem dX8_happen_80 : decode cX8_happen 80 = .ok (.iload 4, 2) := by decide +kernel
theorem dX8_happen_82 : decode cX8_happen 82 = .ok (.invokevirtual 118, 3) := by decide +kernel
theorem dX8_happen_85 : decode cX8_happen 85 = .ok (.ifCond .ne 21, 3) := by decide +kernel
theorem dX8_happen_88 : decode cX8_happen 88 = .ok (.aload_n 1, 1) := by decide +kernel
theorem dX8_happen_89 : decode cX8_happen 89 = .ok (.getfield 126, 3) := by decide +kernel
theorem dX8_happen_92 : decode cX8_happen 92 = .ok (.iload 4, 2) := by decide +kernel
theorem dX8_happen_94 : decode cX8_happen 94 = .ok (.iload_n 3, 1) := by decide +kernel
theorem dX8_happen_95 : decode cX8_happen 95 = .ok (.bipush 9, 2) := by decide +kernel
theorem dX8_happen_97 : decode cX8_happen 97 = .ok (.if_icmp .ne 7, 3) := by decide +kernel
theorem dX8_happen_100 : decode cX8_happen 100 = .ok (.iconst (-1), 1) := by decide +kernel
theorem dX8_happen_101 : decode cX8_happen 101 = .ok (.goto 4, 3) := by decide +kernel
theorem dX8_happen_104 : decode cX8_happen 104 = .ok (.iload_n 3, 1) := by decide +kernel
theorem dX8_happen_105 : decode cX8_happen 105 = .ok (.iastore, 1) := by decide +kernel
theorem dX8_happen_106 : decode cX8_happen 106 = .ok (.iinc 4 1, 3) := by decide +kernel
theorem dX8_happen_109 : decode cX8_happen 109 = .ok (.goto (-37), 3) := by decide +kernel
theorem dX8_happen_112 : decode cX8_happen 112 = .ok (.return_, 1) := by decide +kernel
theorem dX8_turnAll_0 : decode cX8_turnAll 0 = .ok (.iconst 0, 1) := by decide +kernel
theorem dX8_turnAll_1 : decode cX8_turnAll 1 = .ok (.istore_n 2, 1) := by decide +kernel
theorem dX8_turnAll_2 : decode cX8_turnAll 2 = .ok (.iload_n 2, 1) := by decide +kernel
theorem dX8_turnAll_3 : decode cX8_turnAll 3 = .ok (.aload_n 1, 1) := by decide +kernel
theorem dX8_turnAll_4 : decode cX8_turnAll 4 = .ok (.getfield 76, 3) := by decide +kernel
theorem dX8_turnAll_7 : decode cX8_turnAll 7 = .ok (.if_icmp .ge 53, 3) := by decide +kernel
theorem dX8_turnAll_10 : decode cX8_turnAll 10 = .ok (.aload_n 0, 1) := by decide +kernel
theorem dX8_turnAll_11 : decode cX8_turnAll 11 = .ok (.getfield 56, 3) := by decide +kernel
theorem dX8_turnAll_14 : decode cX8_turnAll 14 = .ok (.lconst 0, 1) := by decide +kernel
theorem dX8_turnAll_15 : decode cX8_turnAll 15 = .ok (.invokevirtual 88, 3) := by decide +kernel
theorem dX8_turnAll_18 : decode cX8_turnAll 18 = .ok (.aload_n 0, 1) := by decide +kernel
theorem dX8_turnAll_19 : decode cX8_turnAll 19 = .ok (.getfield 56, 3) := by decide +kernel
theorem dX8_turnAll_22 : decode cX8_turnAll 22 = .ok (.aload_n 1, 1) := by decide +kernel
theorem dX8_turnAll_23 : decode cX8_turnAll 23 = .ok (.getfield 106, 3) := by decide +kernel
theorem dX8_turnAll_26 : decode cX8_turnAll 26 = .ok (.iload_n 2, 1) := by decide +kernel
theorem dX8_turnAll_27 : decode cX8_turnAll 27 = .ok (.aaload, 1) := by decide +kernel
theorem dX8_turnAll_28 : decode cX8_turnAll 28 = .ok (.invokevirtual 92, 3) := by decide +kernel
theorem dX8_turnAll_31 : decode cX8_turnAll 31 = .ok (.aload_n 0, 1) := by decide +kernel
theorem dX8_turnAll_32 : decode cX8_turnAll 32 = .ok (.getfield 56, 3) := by decide +kernel
theorem dX8_turnAll_35 : decode cX8_turnAll 35 = .ok (.getfield 95, 3) := by decide +kernel
theorem dX8_turnAll_38 : decode cX8_turnAll 38 = .ok (.ifCond .ne 16, 3) := by decide +kernel
theorem dX8_turnAll_41 : decode cX8_turnAll 41 = .ok (.aload_n 1, 1) := by decide +kernel
theorem dX8_turnAll_42 : decode cX8_turnAll 42 = .ok (.getfield 106, 3) := by decide +kernel
theorem dX8_turnAll_45 : decode cX8_turnAll 45 = .ok (.iload_n 2, 1) := by decide +kernel
theorem dX8_turnAll_46 : decode cX8_turnAll 46 = .ok (.aaload, 1) := by decide +kernel
theorem dX8_turnAll_47 : decode cX8_turnAll 47 = .ok (.aload_n 0, 1) := by decide +kernel
theorem dX8_turnAll_48 : decode cX8_turnAll 48 = .ok (.getfield 56, 3) := by decide +kernel
theorem dX8_turnAll_51 : decode cX8_turnAll 51 = .ok (.invokevirtual 84, 3) := by decide +kernel
theorem dX8_turnAll_54 : decode cX8_turnAll 54 = .ok (.iinc 2 1, 3) := by decide +kernel
theorem dX8_turnAll_57 : decode cX8_turnAll 57 = .ok (.goto (-55), 3) := by decide +kernel
theorem dX8_turnAll_60 : decode cX8_turnAll 60 = .ok (.return_, 1) := by decide +kernel
