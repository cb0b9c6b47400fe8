/-! decode rows, as the printed names have them -/
theorem dX0_init_0 : decode cX0_init 0 = .ok (.aload_n 0, 1) := by decide +kernel
theorem dX0_init_1 : decode cX0_init 1 = .ok (.invokespecial 3, 3) := by decide +kernel
theorem dX0_init_4 : decode cX0_init 4 = .ok (.aload_n 0, 1) := by decide +kernel
theorem dX0_init_5 : decode cX0_init 5 = .ok (.bipush 21, 2) := by decide +kernel
theorem dX0_init_7 : decode cX0_init 7 = .ok (.anewarray 9, 3) := by decide +kernel
theorem dX0_init_10 : decode cX0_init 10 = .ok (.putfield 11, 3) := by decide +kernel
theorem dX0_init_13 : decode cX0_init 13 = .ok (.aload_n 0, 1) := by decide +kernel
theorem dX0_init_14 : decode cX0_init 14 = .ok (.bipush 21, 2) := by decide +kernel
theorem dX0_init_16 : decode cX0_init 16 = .ok (.anewarray 17, 3) := by decide +kernel
theorem dX0_init_19 : decode cX0_init 19 = .ok (.putfield 19, 3) := by decide +kernel
theorem dX0_init_22 : decode cX0_init 22 = .ok (.iconst 0, 1) := by decide +kernel
theorem dX0_init_23 : decode cX0_init 23 = .ok (.istore_n 1, 1) := by decide +kernel
theorem dX0_init_24 : decode cX0_init 24 = .ok (.iload_n 1, 1) := by decide +kernel
theorem dX0_init_25 : decode cX0_init 25 = .ok (.bipush 20, 2) := by decide +kernel
theorem dX0_init_27 : decode cX0_init 27 = .ok (.if_icmp .gt 35, 3) := by decide +kernel
theorem dX0_init_30 : decode cX0_init 30 = .ok (.aload_n 0, 1) := by decide +kernel
theorem dX0_init_31 : decode cX0_init 31 = .ok (.getfield 11, 3) := by decide +kernel
theorem dX0_init_34 : decode cX0_init 34 = .ok (.iload_n 1, 1) := by decide +kernel
theorem dX0_init_35 : decode cX0_init 35 = .ok (.new 9, 3) := by decide +kernel
theorem dX0_init_38 : decode cX0_init 38 = .ok (.dup, 1) := by decide +kernel
theorem dX0_init_39 : decode cX0_init 39 = .ok (.invokespecial 23, 3) := by decide +kernel
theorem dX0_init_42 : decode cX0_init 42 = .ok (.aastore, 1) := by decide +kernel
theorem dX0_init_43 : decode cX0_init 43 = .ok (.aload_n 0, 1) := by decide +kernel
theorem dX0_init_44 : decode cX0_init 44 = .ok (.getfield 19, 3) := by decide +kernel
theorem dX0_init_47 : decode cX0_init 47 = .ok (.iload_n 1, 1) := by decide +kernel
theorem dX0_init_48 : decode cX0_init 48 = .ok (.new 17, 3) := by decide +kernel
theorem dX0_init_51 : decode cX0_init 51 = .ok (.dup, 1) := by decide +kernel
theorem dX0_init_52 : decode cX0_init 52 = .ok (.invokespecial 24, 3) := by decide +kernel
theorem dX0_init_55 : decode cX0_init 55 = .ok (.aastore, 1) := by decide +kernel
theorem dX0_init_56 : decode cX0_init 56 = .ok (.iinc 1 1, 3) := by decide +kernel
theorem dX0_init_59 : decode cX0_init 59 = .ok (.goto (-35), 3) := by decide +kernel
theorem dX0_init_62 : decode cX0_init 62 = .ok (.aload_n 0, 1) := by decide +kernel
theorem dX0_init_63 : decode cX0_init 63 = .ok (.bipush 20, 2) := by decide +kernel
theorem dX0_init_65 : decode cX0_init 65 = .ok (.newarray .int, 2) := by decide +kernel
theorem dX0_init_67 : decode cX0_init 67 = .ok (.putfield 25, 3) := by decide +kernel
theorem dX0_init_70 : decode cX0_init 70 = .ok (.aload_n 0, 1) := by decide +kernel
theorem dX0_init_71 : decode cX0_init 71 = .ok (.iconst 0, 1) := by decide +kernel
theorem dX0_init_72 : decode cX0_init 72 = .ok (.putfield 29, 3) := by decide +kernel
theorem dX0_init_75 : decode cX0_init 75 = .ok (.aload_n 0, 1) := by decide +kernel
theorem dX0_init_76 : decode cX0_init 76 = .ok (.iconst 0, 1) := by decide +kernel
theorem dX0_init_77 : decode cX0_init 77 = .ok (.putfield 33, 3) := by decide +kernel
theorem dX0_init_80 : decode cX0_init 80 = .ok (.aload_n 0, 1) := by decide +kernel
theorem dX0_init_81 : decode cX0_init 81 = .ok (.iconst (-1), 1) := by decide +kernel
theorem dX0_init_82 : decode cX0_init 82 = .ok (.putfield 36, 3) := by decide +kernel
theorem dX0_init_85 : decode cX0_init 85 = .ok (.aload_n 0, 1) := by decide +kernel
theorem dX0_init_86 : decode cX0_init 86 = .ok (.new 39, 3) := by decide +kernel
theorem dX0_init_89 : decode cX0_init 89 = .ok (.dup, 1) := by decide +kernel
theorem dX0_init_90 : decode cX0_init 90 = .ok (.invokespecial 41, 3) := by decide +kernel
theorem dX0_init_93 : decode cX0_init 93 = .ok (.putfield 42, 3) := by decide +kernel
theorem dX0_init_96 : decode cX0_init 96 = .ok (.return_, 1) := by decide +kernel
theorem dX0_work_0 : decode cX0_work 0 = .ok (.aload_n 0, 1) := by decide +kernel
theorem dX0_work_1 : decode cX0_work 1 = .ok (.getfield 36, 3) := by decide +kernel
theorem dX0_work_4 : decode cX0_work 4 = .ok (.iload_n 2, 1) := by decide +kernel
theorem dX0_work_5 : decode cX0_work 5 = .ok (.if_icmp .ne 17, 3) := by decide +kernel
theorem dX0_work_8 : decode cX0_work 8 = .ok (.aload_n 0, 1) := by decide +kernel
theorem dX0_work_9 : decode cX0_work 9 = .ok (.getfield 11, 3) := by decide +kernel
theorem dX0_work_12 : decode cX0_work 12 = .ok (.iconst 0, 1) := by decide +kernel
theorem dX0_work_13 : decode cX0_work 13 = .ok (.aaload, 1) := by decide +kernel
theorem dX0_work_14 : decode cX0_work 14 = .ok (.aload_n 1, 1) := by decide +kernel
theorem dX0_work_15 : decode cX0_work 15 = .ok (.invokevirtual 46, 3) := by decide +kernel
theorem dX0_work_18 : decode cX0_work 18 = .ok (.ifCond .eq 4, 3) := by decide +kernel
theorem dX0_work_21 : decode cX0_work 21 = .ok (.return_, 1) := by decide +kernel
theorem dX0_work_22 : decode cX0_work 22 = .ok (.aload_n 0, 1) := by decide +kernel
theorem dX0_work_23 : decode cX0_work 23 = .ok (.iload_n 2, 1) := by decide +kernel
theorem dX0_work_24 : decode cX0_work 24 = .ok (.putfield 36, 3) := by decide +kernel
theorem dX0_work_27 : decode cX0_work 27 = .ok (.aload_n 0, 1) := by decide +kernel
theorem dX0_work_28 : decode cX0_work 28 = .ok (.getfield 11, 3) := by decide +kernel
theorem dX0_work_31 : decode cX0_work 31 = .ok (.iconst 0, 1) := by decide +kernel
theorem dX0_work_32 : decode cX0_work 32 = .ok (.aaload, 1) := by decide +kernel
theorem dX0_work_33 : decode cX0_work 33 = .ok (.aload_n 1, 1) := by decide +kernel
theorem dX0_work_34 : decode cX0_work 34 = .ok (.invokevirtual 50, 3) := by decide +kernel
theorem dX0_work_37 : decode cX0_work 37 = .ok (.aload_n 0, 1) := by decide +kernel
theorem dX0_work_38 : decode cX0_work 38 = .ok (.getfield 19, 3) := by decide +kernel
theorem dX0_work_41 : decode cX0_work 41 = .ok (.iconst 0, 1) := by decide +kernel
theorem dX0_work_42 : decode cX0_work 42 = .ok (.aaload, 1) := by decide +kernel
theorem dX0_work_43 : decode cX0_work 43 = .ok (.lconst 0, 1) := by decide +kernel
theorem dX0_work_44 : decode cX0_work 44 = .ok (.invokevirtual 54, 3) := by decide +kernel
theorem dX0_work_47 : decode cX0_work 47 = .ok (.aload_n 0, 1) := by decide +kernel
theorem dX0_work_48 : decode cX0_work 48 = .ok (.iconst 0, 1) := by decide +kernel
theorem dX0_work_49 : decode cX0_work 49 = .ok (.putfield 29, 3) := by decide +kernel
theorem dX0_work_52 : decode cX0_work 52 = .ok (.aload_n 0, 1) := by decide +kernel
theorem dX0_work_53 : decode cX0_work 53 = .ok (.iconst 1, 1) := by decide +kernel
theorem dX0_work_54 : decode cX0_work 54 = .ok (.putfield 33, 3) := by decide +kernel
theorem dX0_work_57 : decode cX0_work 57 = .ok (.iconst 0, 1) := by decide +kernel
theorem dX0_work_58 : decode cX0_work 58 = .ok (.istore_n 3, 1) := by decide +kernel
theorem dX0_work_59 : decode cX0_work 59 = .ok (.iload_n 3, 1) := by decide +kernel
theorem dX0_work_60 : decode cX0_work 60 = .ok (.iload_n 2, 1) := by decide +kernel
theorem dX0_work_61 : decode cX0_work 61 = .ok (.if_icmp .ge 127, 3) := by decide +kernel
theorem dX0_work_64 : decode cX0_work 64 = .ok (.iload_n 3, 1) := by decide +kernel
theorem dX0_work_65 : decode cX0_work 65 = .ok (.bipush 20, 2) := by decide +kernel
theorem dX0_work_67 : decode cX0_work 67 = .ok (.if_icmp .ge 121, 3) := by decide +kernel
theorem dX0_work_70 : decode cX0_work 70 = .ok (.aload_n 0, 1) := by decide +kernel
theorem dX0_work_71 : decode cX0_work 71 = .ok (.getfield 11, 3) := by decide +kernel
theorem dX0_work_74 : decode cX0_work 74 = .ok (.iload_n 3, 1) := by decide +kernel
theorem dX0_work_75 : decode cX0_work 75 = .ok (.iconst 1, 1) := by decide +kernel
theorem dX0_work_76 : decode cX0_work 76 = .ok (.iadd, 1) := by decide +kernel
theorem dX0_work_77 : decode cX0_work 77 = .ok (.aaload, 1) := by decide +kernel
theorem dX0_work_78 : decode cX0_work 78 = .ok (.astore 4, 2) := by decide +kernel
theorem dX0_work_80 : decode cX0_work 80 = .ok (.aload 4, 2) := by decide +kernel
theorem dX0_work_82 : decode cX0_work 82 = .ok (.aload_n 0, 1) := by decide +kernel
theorem dX0_work_83 : decode cX0_work 83 = .ok (.getfield 11, 3) := by decide +kernel
theorem dX0_work_86 : decode cX0_work 86 = .ok (.iload_n 3, 1) := by decide +kernel
theorem dX0_work_87 : decode cX0_work 87 = .ok (.aaload, 1) := by decide +kernel
theorem dX0_work_88 : decode cX0_work 88 = .ok (.invokevirtual 50, 3) := by decide +kernel
theorem dX0_work_91 : decode cX0_work 91 = .ok (.aload_n 0, 1) := by decide +kernel
theorem dX0_work_92 : decode cX0_work 92 = .ok (.getfield 19, 3) := by decide +kernel
theorem dX0_work_95 : decode cX0_work 95 = .ok (.iload_n 3, 1) := by decide +kernel
theorem dX0_work_96 : decode cX0_work 96 = .ok (.iconst 1, 1) := by decide +kernel
theorem dX0_work_97 : decode cX0_work 97 = .ok (.iadd, 1) := by decide +kernel
theorem dX0_work_98 : decode cX0_work 98 = .ok (.aaload, 1) := by decide +kernel
theorem dX0_work_99 : decode cX0_work 99 = .ok (.aload_n 0, 1) := by decide +kernel
theorem dX0_work_100 : decode cX0_work 100 = .ok (.getfield 19, 3) := by decide +kernel
theorem dX0_work_103 : decode cX0_work 103 = .ok (.iload_n 3, 1) := by decide +kernel
theorem dX0_work_104 : decode cX0_work 104 = .ok (.aaload, 1) := by decide +kernel
theorem dX0_work_105 : decode cX0_work 105 = .ok (.invokevirtual 58, 3) := by decide +kernel
theorem dX0_work_108 : decode cX0_work 108 = .ok (.aload_n 0, 1) := by decide +kernel
theorem dX0_work_109 : decode cX0_work 109 = .ok (.getfield 42, 3) := by decide +kernel
theorem dX0_work_112 : decode cX0_work 112 = .ok (.aload 4, 2) := by decide +kernel
theorem dX0_work_114 : decode cX0_work 114 = .ok (.invokevirtual 61, 3) := by decide +kernel
theorem dX0_work_117 : decode cX0_work 117 = .ok (.istore 5, 2) := by decide +kernel
theorem dX0_work_119 : decode cX0_work 119 = .ok (.iload 5, 2) := by decide +kernel
theorem dX0_work_121 : decode cX0_work 121 = .ok (.bipush (-5), 2) := by decide +kernel
theorem dX0_work_123 : decode cX0_work 123 = .ok (.if_icmp .ne 9, 3) := by decide +kernel
theorem dX0_work_126 : decode cX0_work 126 = .ok (.aload_n 0, 1) := by decide +kernel
theorem dX0_work_127 : decode cX0_work 127 = .ok (.iconst 0, 1) := by decide +kernel
theorem dX0_work_128 : decode cX0_work 128 = .ok (.putfield 33, 3) := by decide +kernel
theorem dX0_work_131 : decode cX0_work 131 = .ok (.return_, 1) := by decide +kernel
theorem dX0_work_132 : decode cX0_work 132 = .ok (.iload 5, 2) := by decide +kernel
theorem dX0_work_134 : decode cX0_work 134 = .ok (.bipush (-6), 2) := by decide +kernel
theorem dX0_work_136 : decode cX0_work 136 = .ok (.if_icmp .eq 25, 3) := by decide +kernel
theorem dX0_work_139 : decode cX0_work 139 = .ok (.aload_n 0, 1) := by decide +kernel
theorem dX0_work_140 : decode cX0_work 140 = .ok (.getfield 42, 3) := by decide +kernel
theorem dX0_work_143 : decode cX0_work 143 = .ok (.aload 4, 2) := by decide +kernel
theorem dX0_work_145 : decode cX0_work 145 = .ok (.aload_n 0, 1) := by decide +kernel
theorem dX0_work_146 : decode cX0_work 146 = .ok (.getfield 19, 3) := by decide +kernel
theorem dX0_work_149 : decode cX0_work 149 = .ok (.iload_n 3, 1) := by decide +kernel
theorem dX0_work_150 : decode cX0_work 150 = .ok (.iconst 1, 1) := by decide +kernel
theorem dX0_work_151 : decode cX0_work 151 = .ok (.iadd, 1) := by decide +kernel
theorem dX0_work_152 : decode cX0_work 152 = .ok (.aaload, 1) := by decide +kernel
theorem dX0_work_153 : decode cX0_work 153 = .ok (.iload 5, 2) := by decide +kernel
theorem dX0_work_155 : decode cX0_work 155 = .ok (.invokevirtual 65, 3) := by decide +kernel
theorem dX0_work_158 : decode cX0_work 158 = .ok (.ifCond .ne 9, 3) := by decide +kernel
theorem dX0_work_161 : decode cX0_work 161 = .ok (.aload_n 0, 1) := by decide +kernel
theorem dX0_work_162 : decode cX0_work 162 = .ok (.iconst 2, 1) := by decide +kernel
theorem dX0_work_163 : decode cX0_work 163 = .ok (.putfield 33, 3) := by decide +kernel
theorem dX0_work_166 : decode cX0_work 166 = .ok (.return_, 1) := by decide +kernel
theorem dX0_work_167 : decode cX0_work 167 = .ok (.aload_n 0, 1) := by decide +kernel
theorem dX0_work_168 : decode cX0_work 168 = .ok (.getfield 25, 3) := by decide +kernel
theorem dX0_work_171 : decode cX0_work 171 = .ok (.iload_n 3, 1) := by decide +kernel
theorem dX0_work_172 : decode cX0_work 172 = .ok (.iload 5, 2) := by decide +kernel
theorem dX0_work_174 : decode cX0_work 174 = .ok (.iastore, 1) := by decide +kernel
theorem dX0_work_175 : decode cX0_work 175 = .ok (.aload_n 0, 1) := by decide +kernel
theorem dX0_work_176 : decode cX0_work 176 = .ok (.iload_n 3, 1) := by decide +kernel
theorem dX0_work_177 : decode cX0_work 177 = .ok (.iconst 1, 1) := by decide +kernel
theorem dX0_work_178 : decode cX0_work 178 = .ok (.iadd, 1) := by decide +kernel
theorem dX0_work_179 : decode cX0_work 179 = .ok (.putfield 29, 3) := by decide +kernel
theorem dX0_work_182 : decode cX0_work 182 = .ok (.iinc 3 1, 3) := by decide +kernel
theorem dX0_work_185 : decode cX0_work 185 = .ok (.goto (-126), 3) := by decide +kernel
theorem dX0_work_188 : decode cX0_work 188 = .ok (.return_, 1) := by decide +kernel
theorem dX0_firstUnlike_0 : decode cX0_firstUnlike 0 = .ok (.iconst 0, 1) := by decide +kernel
theorem dX0_firstUnlike_1 : decode cX0_firstUnlike 1 = .ok (.istore_n 2, 1) := by decide +kernel
theorem dX0_firstUnlike_2 : decode cX0_firstUnlike 2 = .ok (.iload_n 2, 1) := by decide +kernel
theorem dX0_firstUnlike_3 : decode cX0_firstUnlike 3 = .ok (.aload_n 1, 1) := by decide +kernel
theorem dX0_firstUnlike_4 : decode cX0_firstUnlike 4 = .ok (.getfield 69, 3) := by decide +kernel
theorem dX0_firstUnlike_7 : decode cX0_firstUnlike 7 = .ok (.if_icmp .ge 45, 3) := by decide +kernel
theorem dX0_firstUnlike_10 : decode cX0_firstUnlike 10 = .ok (.aload_n 1, 1) := by decide +kernel
theorem dX0_firstUnlike_11 : decode cX0_firstUnlike 11 = .ok (.getfield 74, 3) := by decide +kernel
theorem dX0_firstUnlike_14 : decode cX0_firstUnlike 14 = .ok (.iload_n 2, 1) := by decide +kernel
theorem dX0_firstUnlike_15 : decode cX0_firstUnlike 15 = .ok (.iaload, 1) := by decide +kernel
theorem dX0_firstUnlike_16 : decode cX0_firstUnlike 16 = .ok (.istore_n 3, 1) := by decide +kernel
theorem dX0_firstUnlike_17 : decode cX0_firstUnlike 17 = .ok (.iload_n 3, 1) := by decide +kernel
theorem dX0_firstUnlike_18 : decode cX0_firstUnlike 18 = .ok (.ifCond .lt 26, 3) := by decide +kernel
theorem dX0_firstUnlike_21 : decode cX0_firstUnlike 21 = .ok (.iload_n 3, 1) := by decide +kernel
theorem dX0_firstUnlike_22 : decode cX0_firstUnlike 22 = .ok (.aload_n 0, 1) := by decide +kernel
theorem dX0_firstUnlike_23 : decode cX0_firstUnlike 23 = .ok (.getfield 29, 3) := by decide +kernel
theorem dX0_firstUnlike_26 : decode cX0_firstUnlike 26 = .ok (.if_icmp .ge 18, 3) := by decide +kernel
theorem dX0_firstUnlike_29 : decode cX0_firstUnlike 29 = .ok (.aload_n 0, 1) := by decide +kernel
theorem dX0_firstUnlike_30 : decode cX0_firstUnlike 30 = .ok (.getfield 25, 3) := by decide +kernel
theorem dX0_firstUnlike_33 : decode cX0_firstUnlike 33 = .ok (.iload_n 3, 1) := by decide +kernel
theorem dX0_firstUnlike_34 : decode cX0_firstUnlike 34 = .ok (.iaload, 1) := by decide +kernel
theorem dX0_firstUnlike_35 : decode cX0_firstUnlike 35 = .ok (.aload_n 1, 1) := by decide +kernel
theorem dX0_firstUnlike_36 : decode cX0_firstUnlike 36 = .ok (.getfield 77, 3) := by decide +kernel
theorem dX0_firstUnlike_39 : decode cX0_firstUnlike 39 = .ok (.iload_n 2, 1) := by decide +kernel
theorem dX0_firstUnlike_40 : decode cX0_firstUnlike 40 = .ok (.iaload, 1) := by decide +kernel
theorem dX0_firstUnlike_41 : decode cX0_firstUnlike 41 = .ok (.if_icmp .eq 5, 3) := by decide +kernel
theorem dX0_firstUnlike_44 : decode cX0_firstUnlike 44 = .ok (.iload_n 2, 1) := by decide +kernel
theorem dX0_firstUnlike_45 : decode cX0_firstUnlike 45 = .ok (.ireturn, 1) := by decide +kernel
theorem dX0_firstUnlike_46 : decode cX0_firstUnlike 46 = .ok (.iinc 2 1, 3) := by decide +kernel
theorem dX0_firstUnlike_49 : decode cX0_firstUnlike 49 = .ok (.goto (-47), 3) := by decide +kernel
theorem dX0_firstUnlike_52 : decode cX0_firstUnlike 52 = .ok (.bipush (-5), 2) := by decide +kernel
theorem dX0_firstUnlike_54 : decode cX0_firstUnlike 54 = .ok (.ireturn, 1) := by decide +kernel
theorem dX1_init_0 : decode cX1_init 0 = .ok (.aload_n 0, 1) := by decide +kernel
theorem dX1_init_1 : decode cX1_init 1 = .ok (.invokespecial 3, 3) := by decide +kernel
theorem dX1_init_4 : decode cX1_init 4 = .ok (.aload_n 0, 1) := by decide +kernel
theorem dX1_init_5 : decode cX1_init 5 = .ok (.lconst 0, 1) := by decide +kernel
theorem dX1_init_6 : decode cX1_init 6 = .ok (.putfield 9, 3) := by decide +kernel
theorem dX1_init_9 : decode cX1_init 9 = .ok (.aload_n 0, 1) := by decide +kernel
theorem dX1_init_10 : decode cX1_init 10 = .ok (.lconst 1, 1) := by decide +kernel
theorem dX1_init_11 : decode cX1_init 11 = .ok (.putfield 15, 3) := by decide +kernel
theorem dX1_init_14 : decode cX1_init 14 = .ok (.aload_n 0, 1) := by decide +kernel
theorem dX1_init_15 : decode cX1_init 15 = .ok (.iconst 0, 1) := by decide +kernel
theorem dX1_init_16 : decode cX1_init 16 = .ok (.putfield 18, 3) := by decide +kernel
theorem dX1_init_19 : decode cX1_init 19 = .ok (.return_, 1) := by decide +kernel
theorem dX1_become_0 : decode cX1_become 0 = .ok (.aload_n 0, 1) := by decide +kernel
theorem dX1_become_1 : decode cX1_become 1 = .ok (.aload_n 1, 1) := by decide +kernel
theorem dX1_become_2 : decode cX1_become 2 = .ok (.getfield 9, 3) := by decide +kernel
theorem dX1_become_5 : decode cX1_become 5 = .ok (.putfield 9, 3) := by decide +kernel
theorem dX1_become_8 : decode cX1_become 8 = .ok (.aload_n 0, 1) := by decide +kernel
theorem dX1_become_9 : decode cX1_become 9 = .ok (.aload_n 1, 1) := by decide +kernel
theorem dX1_become_10 : decode cX1_become 10 = .ok (.getfield 15, 3) := by decide +kernel
theorem dX1_become_13 : decode cX1_become 13 = .ok (.putfield 15, 3) := by decide +kernel
theorem dX1_become_16 : decode cX1_become 16 = .ok (.aload_n 0, 1) := by decide +kernel
theorem dX1_become_17 : decode cX1_become 17 = .ok (.aload_n 1, 1) := by decide +kernel
theorem dX1_become_18 : decode cX1_become 18 = .ok (.getfield 18, 3) := by decide +kernel
theorem dX1_become_21 : decode cX1_become 21 = .ok (.putfield 18, 3) := by decide +kernel
theorem dX1_become_24 : decode cX1_become 24 = .ok (.return_, 1) := by decide +kernel
theorem dX1_becomeWhole_0 : decode cX1_becomeWhole 0 = .ok (.aload_n 0, 1) := by decide +kernel
theorem dX1_becomeWhole_1 : decode cX1_becomeWhole 1 = .ok (.lload_n 1, 1) := by decide +kernel
theorem dX1_becomeWhole_2 : decode cX1_becomeWhole 2 = .ok (.putfield 9, 3) := by decide +kernel
theorem dX1_becomeWhole_5 : decode cX1_becomeWhole 5 = .ok (.aload_n 0, 1) := by decide +kernel
theorem dX1_becomeWhole_6 : decode cX1_becomeWhole 6 = .ok (.lconst 1, 1) := by decide +kernel
theorem dX1_becomeWhole_7 : decode cX1_becomeWhole 7 = .ok (.putfield 15, 3) := by decide +kernel
theorem dX1_becomeWhole_10 : decode cX1_becomeWhole 10 = .ok (.aload_n 0, 1) := by decide +kernel
theorem dX1_becomeWhole_11 : decode cX1_becomeWhole 11 = .ok (.iconst 0, 1) := by decide +kernel
theorem dX1_becomeWhole_12 : decode cX1_becomeWhole 12 = .ok (.putfield 18, 3) := by decide +kernel
theorem dX1_becomeWhole_15 : decode cX1_becomeWhole 15 = .ok (.return_, 1) := by decide +kernel
theorem dX1_becomeRatio_0 : decode cX1_becomeRatio 0 = .ok (.aload_n 0, 1) := by decide +kernel
theorem dX1_becomeRatio_1 : decode cX1_becomeRatio 1 = .ok (.iconst 0, 1) := by decide +kernel
theorem dX1_becomeRatio_2 : decode cX1_becomeRatio 2 = .ok (.putfield 18, 3) := by decide +kernel
theorem dX1_becomeRatio_5 : decode cX1_becomeRatio 5 = .ok (.aload_n 0, 1) := by decide +kernel
theorem dX1_becomeRatio_6 : decode cX1_becomeRatio 6 = .ok (.lload_n 1, 1) := by decide +kernel
theorem dX1_becomeRatio_7 : decode cX1_becomeRatio 7 = .ok (.lload_n 3, 1) := by decide +kernel
theorem dX1_becomeRatio_8 : decode cX1_becomeRatio 8 = .ok (.invokevirtual 22, 3) := by decide +kernel
theorem dX1_becomeRatio_11 : decode cX1_becomeRatio 11 = .ok (.return_, 1) := by decide +kernel
theorem dX1_times_0 : decode cX1_times 0 = .ok (.aload_n 0, 1) := by decide +kernel
theorem dX1_times_1 : decode cX1_times 1 = .ok (.aload_n 0, 1) := by decide +kernel
theorem dX1_times_2 : decode cX1_times 2 = .ok (.getfield 18, 3) := by decide +kernel
theorem dX1_times_5 : decode cX1_times 5 = .ok (.ifCond .ne 38, 3) := by decide +kernel
theorem dX1_times_8 : decode cX1_times 8 = .ok (.aload_n 1, 1) := by decide +kernel
theorem dX1_times_9 : decode cX1_times 9 = .ok (.getfield 18, 3) := by decide +kernel
theorem dX1_times_12 : decode cX1_times 12 = .ok (.ifCond .ne 31, 3) := by decide +kernel
theorem dX1_times_15 : decode cX1_times 15 = .ok (.aload_n 0, 1) := by decide +kernel
theorem dX1_times_16 : decode cX1_times 16 = .ok (.getfield 9, 3) := by decide +kernel
theorem dX1_times_19 : decode cX1_times 19 = .ok (.aload_n 1, 1) := by decide +kernel
theorem dX1_times_20 : decode cX1_times 20 = .ok (.getfield 9, 3) := by decide +kernel
theorem dX1_times_23 : decode cX1_times 23 = .ok (.invokestatic 26, 3) := by decide +kernel
theorem dX1_times_26 : decode cX1_times 26 = .ok (.ifCond .ne 17, 3) := by decide +kernel
theorem dX1_times_29 : decode cX1_times 29 = .ok (.aload_n 0, 1) := by decide +kernel
theorem dX1_times_30 : decode cX1_times 30 = .ok (.getfield 15, 3) := by decide +kernel
theorem dX1_times_33 : decode cX1_times 33 = .ok (.aload_n 1, 1) := by decide +kernel
theorem dX1_times_34 : decode cX1_times 34 = .ok (.getfield 15, 3) := by decide +kernel
theorem dX1_times_37 : decode cX1_times 37 = .ok (.invokestatic 26, 3) := by decide +kernel
theorem dX1_times_40 : decode cX1_times 40 = .ok (.ifCond .eq 7, 3) := by decide +kernel
theorem dX1_times_43 : decode cX1_times 43 = .ok (.iconst 1, 1) := by decide +kernel
theorem dX1_times_44 : decode cX1_times 44 = .ok (.goto 4, 3) := by decide +kernel
theorem dX1_times_47 : decode cX1_times 47 = .ok (.iconst 0, 1) := by decide +kernel
theorem dX1_times_48 : decode cX1_times 48 = .ok (.putfield 18, 3) := by decide +kernel
theorem dX1_times_51 : decode cX1_times 51 = .ok (.aload_n 0, 1) := by decide +kernel
theorem dX1_times_52 : decode cX1_times 52 = .ok (.aload_n 0, 1) := by decide +kernel
theorem dX1_times_53 : decode cX1_times 53 = .ok (.getfield 9, 3) := by decide +kernel
theorem dX1_times_56 : decode cX1_times 56 = .ok (.aload_n 1, 1) := by decide +kernel
theorem dX1_times_57 : decode cX1_times 57 = .ok (.getfield 9, 3) := by decide +kernel
theorem dX1_times_60 : decode cX1_times 60 = .ok (.lmul, 1) := by decide +kernel
theorem dX1_times_61 : decode cX1_times 61 = .ok (.aload_n 0, 1) := by decide +kernel
theorem dX1_times_62 : decode cX1_times 62 = .ok (.getfield 15, 3) := by decide +kernel
theorem dX1_times_65 : decode cX1_times 65 = .ok (.aload_n 1, 1) := by decide +kernel
theorem dX1_times_66 : decode cX1_times 66 = .ok (.getfield 15, 3) := by decide +kernel
theorem dX1_times_69 : decode cX1_times 69 = .ok (.lmul, 1) := by decide +kernel
theorem dX1_times_70 : decode cX1_times 70 = .ok (.invokevirtual 22, 3) := by decide +kernel
theorem dX1_times_73 : decode cX1_times 73 = .ok (.return_, 1) := by decide +kernel
theorem dX1_by_0 : decode cX1_by 0 = .ok (.aload_n 0, 1) := by decide +kernel
theorem dX1_by_1 : decode cX1_by 1 = .ok (.aload_n 0, 1) := by decide +kernel
theorem dX1_by_2 : decode cX1_by 2 = .ok (.getfield 18, 3) := by decide +kernel
theorem dX1_by_5 : decode cX1_by 5 = .ok (.ifCond .ne 38, 3) := by decide +kernel
theorem dX1_by_8 : decode cX1_by 8 = .ok (.aload_n 1, 1) := by decide +kernel
theorem dX1_by_9 : decode cX1_by 9 = .ok (.getfield 18, 3) := by decide +kernel
theorem dX1_by_12 : decode cX1_by 12 = .ok (.ifCond .ne 31, 3) := by decide +kernel
theorem dX1_by_15 : decode cX1_by 15 = .ok (.aload_n 0, 1) := by decide +kernel
theorem dX1_by_16 : decode cX1_by 16 = .ok (.getfield 9, 3) := by decide +kernel
theorem dX1_by_19 : decode cX1_by 19 = .ok (.aload_n 1, 1) := by decide +kernel
theorem dX1_by_20 : decode cX1_by 20 = .ok (.getfield 15, 3) := by decide +kernel
theorem dX1_by_23 : decode cX1_by 23 = .ok (.invokestatic 26, 3) := by decide +kernel
theorem dX1_by_26 : decode cX1_by 26 = .ok (.ifCond .ne 17, 3) := by decide +kernel
theorem dX1_by_29 : decode cX1_by 29 = .ok (.aload_n 0, 1) := by decide +kernel
theorem dX1_by_30 : decode cX1_by 30 = .ok (.getfield 15, 3) := by decide +kernel
theorem dX1_by_33 : decode cX1_by 33 = .ok (.aload_n 1, 1) := by decide +kernel
theorem dX1_by_34 : decode cX1_by 34 = .ok (.getfield 9, 3) := by decide +kernel
theorem dX1_by_37 : decode cX1_by 37 = .ok (.invokestatic 26, 3) := by decide +kernel
theorem dX1_by_40 : decode cX1_by 40 = .ok (.ifCond .eq 7, 3) := by decide +kernel
theorem dX1_by_43 : decode cX1_by 43 = .ok (.iconst 1, 1) := by decide +kernel
theorem dX1_by_44 : decode cX1_by 44 = .ok (.goto 4, 3) := by decide +kernel
theorem dX1_by_47 : decode cX1_by 47 = .ok (.iconst 0, 1) := by decide +kernel
theorem dX1_by_48 : decode cX1_by 48 = .ok (.putfield 18, 3) := by decide +kernel
theorem dX1_by_51 : decode cX1_by 51 = .ok (.aload_n 0, 1) := by decide +kernel
theorem dX1_by_52 : decode cX1_by 52 = .ok (.aload_n 0, 1) := by decide +kernel
theorem dX1_by_53 : decode cX1_by 53 = .ok (.getfield 9, 3) := by decide +kernel
theorem dX1_by_56 : decode cX1_by 56 = .ok (.aload_n 1, 1) := by decide +kernel
theorem dX1_by_57 : decode cX1_by 57 = .ok (.getfield 15, 3) := by decide +kernel
theorem dX1_by_60 : decode cX1_by 60 = .ok (.lmul, 1) := by decide +kernel
theorem dX1_by_61 : decode cX1_by 61 = .ok (.aload_n 0, 1) := by decide +kernel
theorem dX1_by_62 : decode cX1_by 62 = .ok (.getfield 15, 3) := by decide +kernel
theorem dX1_by_65 : decode cX1_by 65 = .ok (.aload_n 1, 1) := by decide +kernel
theorem dX1_by_66 : decode cX1_by 66 = .ok (.getfield 9, 3) := by decide +kernel
theorem dX1_by_69 : decode cX1_by 69 = .ok (.lmul, 1) := by decide +kernel
theorem dX1_by_70 : decode cX1_by 70 = .ok (.invokevirtual 22, 3) := by decide +kernel
theorem dX1_by_73 : decode cX1_by 73 = .ok (.return_, 1) := by decide +kernel
theorem dX1_plus_0 : decode cX1_plus 0 = .ok (.aload_n 0, 1) := by decide +kernel
theorem dX1_plus_1 : decode cX1_plus 1 = .ok (.getfield 9, 3) := by decide +kernel
theorem dX1_plus_4 : decode cX1_plus 4 = .ok (.aload_n 1, 1) := by decide +kernel
theorem dX1_plus_5 : decode cX1_plus 5 = .ok (.getfield 15, 3) := by decide +kernel
theorem dX1_plus_8 : decode cX1_plus 8 = .ok (.lmul, 1) := by decide +kernel
theorem dX1_plus_9 : decode cX1_plus 9 = .ok (.lstore_n 2, 1) := by decide +kernel
theorem dX1_plus_10 : decode cX1_plus 10 = .ok (.aload_n 1, 1) := by decide +kernel
theorem dX1_plus_11 : decode cX1_plus 11 = .ok (.getfield 9, 3) := by decide +kernel
theorem dX1_plus_14 : decode cX1_plus 14 = .ok (.aload_n 0, 1) := by decide +kernel
theorem dX1_plus_15 : decode cX1_plus 15 = .ok (.getfield 15, 3) := by decide +kernel
theorem dX1_plus_18 : decode cX1_plus 18 = .ok (.lmul, 1) := by decide +kernel
theorem dX1_plus_19 : decode cX1_plus 19 = .ok (.lstore 4, 2) := by decide +kernel
theorem dX1_plus_21 : decode cX1_plus 21 = .ok (.lload_n 2, 1) := by decide +kernel
theorem dX1_plus_22 : decode cX1_plus 22 = .ok (.lload 4, 2) := by decide +kernel
theorem dX1_plus_24 : decode cX1_plus 24 = .ok (.ladd, 1) := by decide +kernel
theorem dX1_plus_25 : decode cX1_plus 25 = .ok (.lstore 6, 2) := by decide +kernel
theorem dX1_plus_27 : decode cX1_plus 27 = .ok (.aload_n 0, 1) := by decide +kernel
theorem dX1_plus_28 : decode cX1_plus 28 = .ok (.aload_n 0, 1) := by decide +kernel
theorem dX1_plus_29 : decode cX1_plus 29 = .ok (.getfield 18, 3) := by decide +kernel
theorem dX1_plus_32 : decode cX1_plus 32 = .ok (.ifCond .ne 67, 3) := by decide +kernel
theorem dX1_plus_35 : decode cX1_plus 35 = .ok (.aload_n 1, 1) := by decide +kernel
theorem dX1_plus_36 : decode cX1_plus 36 = .ok (.getfield 18, 3) := by decide +kernel
theorem dX1_plus_39 : decode cX1_plus 39 = .ok (.ifCond .ne 60, 3) := by decide +kernel
theorem dX1_plus_42 : decode cX1_plus 42 = .ok (.aload_n 0, 1) := by decide +kernel
theorem dX1_plus_43 : decode cX1_plus 43 = .ok (.getfield 9, 3) := by decide +kernel
theorem dX1_plus_46 : decode cX1_plus 46 = .ok (.aload_n 1, 1) := by decide +kernel
theorem dX1_plus_47 : decode cX1_plus 47 = .ok (.getfield 15, 3) := by decide +kernel
theorem dX1_plus_50 : decode cX1_plus 50 = .ok (.invokestatic 26, 3) := by decide +kernel
theorem dX1_plus_53 : decode cX1_plus 53 = .ok (.ifCond .ne 46, 3) := by decide +kernel
theorem dX1_plus_56 : decode cX1_plus 56 = .ok (.aload_n 1, 1) := by decide +kernel
theorem dX1_plus_57 : decode cX1_plus 57 = .ok (.getfield 9, 3) := by decide +kernel
theorem dX1_plus_60 : decode cX1_plus 60 = .ok (.aload_n 0, 1) := by decide +kernel
theorem dX1_plus_61 : decode cX1_plus 61 = .ok (.getfield 15, 3) := by decide +kernel
theorem dX1_plus_64 : decode cX1_plus 64 = .ok (.invokestatic 26, 3) := by decide +kernel
theorem dX1_plus_67 : decode cX1_plus 67 = .ok (.ifCond .ne 32, 3) := by decide +kernel
theorem dX1_plus_70 : decode cX1_plus 70 = .ok (.aload_n 0, 1) := by decide +kernel
theorem dX1_plus_71 : decode cX1_plus 71 = .ok (.getfield 15, 3) := by decide +kernel
theorem dX1_plus_74 : decode cX1_plus 74 = .ok (.aload_n 1, 1) := by decide +kernel
theorem dX1_plus_75 : decode cX1_plus 75 = .ok (.getfield 15, 3) := by decide +kernel
theorem dX1_plus_78 : decode cX1_plus 78 = .ok (.invokestatic 26, 3) := by decide +kernel
theorem dX1_plus_81 : decode cX1_plus 81 = .ok (.ifCond .ne 18, 3) := by decide +kernel
theorem dX1_plus_84 : decode cX1_plus 84 = .ok (.lload_n 2, 1) := by decide +kernel
theorem dX1_plus_85 : decode cX1_plus 85 = .ok (.lload 6, 2) := by decide +kernel
theorem dX1_plus_87 : decode cX1_plus 87 = .ok (.lxor, 1) := by decide +kernel
theorem dX1_plus_88 : decode cX1_plus 88 = .ok (.lload 4, 2) := by decide +kernel
theorem dX1_plus_90 : decode cX1_plus 90 = .ok (.lload 6, 2) := by decide +kernel
theorem dX1_plus_92 : decode cX1_plus 92 = .ok (.lxor, 1) := by decide +kernel
theorem dX1_plus_93 : decode cX1_plus 93 = .ok (.land, 1) := by decide +kernel
theorem dX1_plus_94 : decode cX1_plus 94 = .ok (.lconst 0, 1) := by decide +kernel
theorem dX1_plus_95 : decode cX1_plus 95 = .ok (.lcmp, 1) := by decide +kernel
theorem dX1_plus_96 : decode cX1_plus 96 = .ok (.ifCond .ge 7, 3) := by decide +kernel
theorem dX1_plus_99 : decode cX1_plus 99 = .ok (.iconst 1, 1) := by decide +kernel
theorem dX1_plus_100 : decode cX1_plus 100 = .ok (.goto 4, 3) := by decide +kernel
theorem dX1_plus_103 : decode cX1_plus 103 = .ok (.iconst 0, 1) := by decide +kernel
theorem dX1_plus_104 : decode cX1_plus 104 = .ok (.putfield 18, 3) := by decide +kernel
theorem dX1_plus_107 : decode cX1_plus 107 = .ok (.aload_n 0, 1) := by decide +kernel
theorem dX1_plus_108 : decode cX1_plus 108 = .ok (.lload 6, 2) := by decide +kernel
theorem dX1_plus_110 : decode cX1_plus 110 = .ok (.aload_n 0, 1) := by decide +kernel
theorem dX1_plus_111 : decode cX1_plus 111 = .ok (.getfield 15, 3) := by decide +kernel
theorem dX1_plus_114 : decode cX1_plus 114 = .ok (.aload_n 1, 1) := by decide +kernel
theorem dX1_plus_115 : decode cX1_plus 115 = .ok (.getfield 15, 3) := by decide +kernel
theorem dX1_plus_118 : decode cX1_plus 118 = .ok (.lmul, 1) := by decide +kernel
theorem dX1_plus_119 : decode cX1_plus 119 = .ok (.invokevirtual 22, 3) := by decide +kernel
theorem dX1_plus_122 : decode cX1_plus 122 = .ok (.return_, 1) := by decide +kernel
theorem dX1_less_0 : decode cX1_less 0 = .ok (.aload_n 0, 1) := by decide +kernel
theorem dX1_less_1 : decode cX1_less 1 = .ok (.getfield 9, 3) := by decide +kernel
theorem dX1_less_4 : decode cX1_less 4 = .ok (.aload_n 1, 1) := by decide +kernel
theorem dX1_less_5 : decode cX1_less 5 = .ok (.getfield 15, 3) := by decide +kernel
theorem dX1_less_8 : decode cX1_less 8 = .ok (.lmul, 1) := by decide +kernel
theorem dX1_less_9 : decode cX1_less 9 = .ok (.lstore_n 2, 1) := by decide +kernel
theorem dX1_less_10 : decode cX1_less 10 = .ok (.aload_n 1, 1) := by decide +kernel
theorem dX1_less_11 : decode cX1_less 11 = .ok (.getfield 9, 3) := by decide +kernel
theorem dX1_less_14 : decode cX1_less 14 = .ok (.aload_n 0, 1) := by decide +kernel
theorem dX1_less_15 : decode cX1_less 15 = .ok (.getfield 15, 3) := by decide +kernel
theorem dX1_less_18 : decode cX1_less 18 = .ok (.lmul, 1) := by decide +kernel
theorem dX1_less_19 : decode cX1_less 19 = .ok (.lstore 4, 2) := by decide +kernel
theorem dX1_less_21 : decode cX1_less 21 = .ok (.lload_n 2, 1) := by decide +kernel
theorem dX1_less_22 : decode cX1_less 22 = .ok (.lload 4, 2) := by decide +kernel
theorem dX1_less_24 : decode cX1_less 24 = .ok (.lsub, 1) := by decide +kernel
theorem dX1_less_25 : decode cX1_less 25 = .ok (.lstore 6, 2) := by decide +kernel
theorem dX1_less_27 : decode cX1_less 27 = .ok (.aload_n 0, 1) := by decide +kernel
theorem dX1_less_28 : decode cX1_less 28 = .ok (.aload_n 0, 1) := by decide +kernel
theorem dX1_less_29 : decode cX1_less 29 = .ok (.getfield 18, 3) := by decide +kernel
theorem dX1_less_32 : decode cX1_less 32 = .ok (.ifCond .ne 66, 3) := by decide +kernel
theorem dX1_less_35 : decode cX1_less 35 = .ok (.aload_n 1, 1) := by decide +kernel
theorem dX1_less_36 : decode cX1_less 36 = .ok (.getfield 18, 3) := by decide +kernel
theorem dX1_less_39 : decode cX1_less 39 = .ok (.ifCond .ne 59, 3) := by decide +kernel
theorem dX1_less_42 : decode cX1_less 42 = .ok (.aload_n 0, 1) := by decide +kernel
theorem dX1_less_43 : decode cX1_less 43 = .ok (.getfield 9, 3) := by decide +kernel
theorem dX1_less_46 : decode cX1_less 46 = .ok (.aload_n 1, 1) := by decide +kernel
theorem dX1_less_47 : decode cX1_less 47 = .ok (.getfield 15, 3) := by decide +kernel
theorem dX1_less_50 : decode cX1_less 50 = .ok (.invokestatic 26, 3) := by decide +kernel
theorem dX1_less_53 : decode cX1_less 53 = .ok (.ifCond .ne 45, 3) := by decide +kernel
theorem dX1_less_56 : decode cX1_less 56 = .ok (.aload_n 1, 1) := by decide +kernel
theorem dX1_less_57 : decode cX1_less 57 = .ok (.getfield 9, 3) := by decide +kernel
theorem dX1_less_60 : decode cX1_less 60 = .ok (.aload_n 0, 1) := by decide +kernel
theorem dX1_less_61 : decode cX1_less 61 = .ok (.getfield 15, 3) := by decide +kernel
theorem dX1_less_64 : decode cX1_less 64 = .ok (.invokestatic 26, 3) := by decide +kernel
theorem dX1_less_67 : decode cX1_less 67 = .ok (.ifCond .ne 31, 3) := by decide +kernel
theorem dX1_less_70 : decode cX1_less 70 = .ok (.aload_n 0, 1) := by decide +kernel
theorem dX1_less_71 : decode cX1_less 71 = .ok (.getfield 15, 3) := by decide +kernel
theorem dX1_less_74 : decode cX1_less 74 = .ok (.aload_n 1, 1) := by decide +kernel
theorem dX1_less_75 : decode cX1_less 75 = .ok (.getfield 15, 3) := by decide +kernel
theorem dX1_less_78 : decode cX1_less 78 = .ok (.invokestatic 26, 3) := by decide +kernel
theorem dX1_less_81 : decode cX1_less 81 = .ok (.ifCond .ne 17, 3) := by decide +kernel
theorem dX1_less_84 : decode cX1_less 84 = .ok (.lload_n 2, 1) := by decide +kernel
theorem dX1_less_85 : decode cX1_less 85 = .ok (.lload 4, 2) := by decide +kernel
theorem dX1_less_87 : decode cX1_less 87 = .ok (.lxor, 1) := by decide +kernel
theorem dX1_less_88 : decode cX1_less 88 = .ok (.lload_n 2, 1) := by decide +kernel
theorem dX1_less_89 : decode cX1_less 89 = .ok (.lload 6, 2) := by decide +kernel
theorem dX1_less_91 : decode cX1_less 91 = .ok (.lxor, 1) := by decide +kernel
theorem dX1_less_92 : decode cX1_less 92 = .ok (.land, 1) := by decide +kernel
theorem dX1_less_93 : decode cX1_less 93 = .ok (.lconst 0, 1) := by decide +kernel
theorem dX1_less_94 : decode cX1_less 94 = .ok (.lcmp, 1) := by decide +kernel
theorem dX1_less_95 : decode cX1_less 95 = .ok (.ifCond .ge 7, 3) := by decide +kernel
theorem dX1_less_98 : decode cX1_less 98 = .ok (.iconst 1, 1) := by decide +kernel
theorem dX1_less_99 : decode cX1_less 99 = .ok (.goto 4, 3) := by decide +kernel
theorem dX1_less_102 : decode cX1_less 102 = .ok (.iconst 0, 1) := by decide +kernel
theorem dX1_less_103 : decode cX1_less 103 = .ok (.putfield 18, 3) := by decide +kernel
theorem dX1_less_106 : decode cX1_less 106 = .ok (.aload_n 0, 1) := by decide +kernel
theorem dX1_less_107 : decode cX1_less 107 = .ok (.lload 6, 2) := by decide +kernel
theorem dX1_less_109 : decode cX1_less 109 = .ok (.aload_n 0, 1) := by decide +kernel
theorem dX1_less_110 : decode cX1_less 110 = .ok (.getfield 15, 3) := by decide +kernel
theorem dX1_less_113 : decode cX1_less 113 = .ok (.aload_n 1, 1) := by decide +kernel
theorem dX1_less_114 : decode cX1_less 114 = .ok (.getfield 15, 3) := by decide +kernel
theorem dX1_less_117 : decode cX1_less 117 = .ok (.lmul, 1) := by decide +kernel
theorem dX1_less_118 : decode cX1_less 118 = .ok (.invokevirtual 22, 3) := by decide +kernel
theorem dX1_less_121 : decode cX1_less 121 = .ok (.return_, 1) := by decide +kernel
theorem dX1_half_0 : decode cX1_half 0 = .ok (.aload_n 0, 1) := by decide +kernel
theorem dX1_half_1 : decode cX1_half 1 = .ok (.getfield 18, 3) := by decide +kernel
theorem dX1_half_4 : decode cX1_half 4 = .ok (.ifCond .eq 7, 3) := by decide +kernel
theorem dX1_half_7 : decode cX1_half 7 = .ok (.ldc2_w 30, 3) := by decide +kernel
theorem dX1_half_10 : decode cX1_half 10 = .ok (.lreturn, 1) := by decide +kernel
theorem dX1_half_11 : decode cX1_half 11 = .ok (.iload_n 1, 1) := by decide +kernel
theorem dX1_half_12 : decode cX1_half 12 = .ok (.ifCond .ne 10, 3) := by decide +kernel
theorem dX1_half_15 : decode cX1_half 15 = .ok (.aload_n 0, 1) := by decide +kernel
theorem dX1_half_16 : decode cX1_half 16 = .ok (.getfield 9, 3) := by decide +kernel
theorem dX1_half_19 : decode cX1_half 19 = .ok (.goto 7, 3) := by decide +kernel
theorem dX1_half_22 : decode cX1_half 22 = .ok (.aload_n 0, 1) := by decide +kernel
theorem dX1_half_23 : decode cX1_half 23 = .ok (.getfield 15, 3) := by decide +kernel
theorem dX1_half_26 : decode cX1_half 26 = .ok (.lreturn, 1) := by decide +kernel
theorem dX1_isLike_0 : decode cX1_isLike 0 = .ok (.aload_n 0, 1) := by decide +kernel
theorem dX1_isLike_1 : decode cX1_isLike 1 = .ok (.getfield 9, 3) := by decide +kernel
theorem dX1_isLike_4 : decode cX1_isLike 4 = .ok (.aload_n 1, 1) := by decide +kernel
theorem dX1_isLike_5 : decode cX1_isLike 5 = .ok (.getfield 9, 3) := by decide +kernel
theorem dX1_isLike_8 : decode cX1_isLike 8 = .ok (.lcmp, 1) := by decide +kernel
theorem dX1_isLike_9 : decode cX1_isLike 9 = .ok (.ifCond .ne 19, 3) := by decide +kernel
theorem dX1_isLike_12 : decode cX1_isLike 12 = .ok (.aload_n 0, 1) := by decide +kernel
theorem dX1_isLike_13 : decode cX1_isLike 13 = .ok (.getfield 15, 3) := by decide +kernel
theorem dX1_isLike_16 : decode cX1_isLike 16 = .ok (.aload_n 1, 1) := by decide +kernel
theorem dX1_isLike_17 : decode cX1_isLike 17 = .ok (.getfield 15, 3) := by decide +kernel
theorem dX1_isLike_20 : decode cX1_isLike 20 = .ok (.lcmp, 1) := by decide +kernel
theorem dX1_isLike_21 : decode cX1_isLike 21 = .ok (.ifCond .ne 7, 3) := by decide +kernel
theorem dX1_isLike_24 : decode cX1_isLike 24 = .ok (.iconst 1, 1) := by decide +kernel
theorem dX1_isLike_25 : decode cX1_isLike 25 = .ok (.goto 4, 3) := by decide +kernel
theorem dX1_isLike_28 : decode cX1_isLike 28 = .ok (.iconst 0, 1) := by decide +kernel
theorem dX1_isLike_29 : decode cX1_isLike 29 = .ok (.ireturn, 1) := by decide +kernel
theorem dX1_passes_0 : decode cX1_passes 0 = .ok (.lload_n 2, 1) := by decide +kernel
theorem dX1_passes_1 : decode cX1_passes 1 = .ok (.lconst 0, 1) := by decide +kernel
theorem dX1_passes_2 : decode cX1_passes 2 = .ok (.lcmp, 1) := by decide +kernel
theorem dX1_passes_3 : decode cX1_passes 3 = .ok (.ifCond .ne 5, 3) := by decide +kernel
theorem dX1_passes_6 : decode cX1_passes 6 = .ok (.iconst 0, 1) := by decide +kernel
theorem dX1_passes_7 : decode cX1_passes 7 = .ok (.ireturn, 1) := by decide +kernel
theorem dX1_passes_8 : decode cX1_passes 8 = .ok (.lload_n 2, 1) := by decide +kernel
theorem dX1_passes_9 : decode cX1_passes 9 = .ok (.ldc2_w 32, 3) := by decide +kernel
theorem dX1_passes_12 : decode cX1_passes 12 = .ok (.lcmp, 1) := by decide +kernel
theorem dX1_passes_13 : decode cX1_passes 13 = .ok (.ifCond .ne 17, 3) := by decide +kernel
theorem dX1_passes_16 : decode cX1_passes 16 = .ok (.lload_n 0, 1) := by decide +kernel
theorem dX1_passes_17 : decode cX1_passes 17 = .ok (.ldc2_w 30, 3) := by decide +kernel
theorem dX1_passes_20 : decode cX1_passes 20 = .ok (.lcmp, 1) := by decide +kernel
theorem dX1_passes_21 : decode cX1_passes 21 = .ok (.ifCond .ne 7, 3) := by decide +kernel
theorem dX1_passes_24 : decode cX1_passes 24 = .ok (.iconst 1, 1) := by decide +kernel
theorem dX1_passes_25 : decode cX1_passes 25 = .ok (.goto 4, 3) := by decide +kernel
theorem dX1_passes_28 : decode cX1_passes 28 = .ok (.iconst 0, 1) := by decide +kernel
theorem dX1_passes_29 : decode cX1_passes 29 = .ok (.ireturn, 1) := by decide +kernel
theorem dX1_passes_30 : decode cX1_passes 30 = .ok (.lload_n 0, 1) := by decide +kernel
theorem dX1_passes_31 : decode cX1_passes 31 = .ok (.lload_n 2, 1) := by decide +kernel
theorem dX1_passes_32 : decode cX1_passes 32 = .ok (.lmul, 1) := by decide +kernel
theorem dX1_passes_33 : decode cX1_passes 33 = .ok (.lload_n 2, 1) := by decide +kernel
theorem dX1_passes_34 : decode cX1_passes 34 = .ok (.ldiv, 1) := by decide +kernel
theorem dX1_passes_35 : decode cX1_passes 35 = .ok (.lload_n 0, 1) := by decide +kernel
theorem dX1_passes_36 : decode cX1_passes 36 = .ok (.lcmp, 1) := by decide +kernel
theorem dX1_passes_37 : decode cX1_passes 37 = .ok (.ifCond .eq 7, 3) := by decide +kernel
theorem dX1_passes_40 : decode cX1_passes 40 = .ok (.iconst 1, 1) := by decide +kernel
theorem dX1_passes_41 : decode cX1_passes 41 = .ok (.goto 4, 3) := by decide +kernel
theorem dX1_passes_44 : decode cX1_passes 44 = .ok (.iconst 0, 1) := by decide +kernel
theorem dX1_passes_45 : decode cX1_passes 45 = .ok (.ireturn, 1) := by decide +kernel
theorem dX1_settle_0 : decode cX1_settle 0 = .ok (.aload_n 0, 1) := by decide +kernel
theorem dX1_settle_1 : decode cX1_settle 1 = .ok (.getfield 18, 3) := by decide +kernel
theorem dX1_settle_4 : decode cX1_settle 4 = .ok (.ifCond .ne 9, 3) := by decide +kernel
theorem dX1_settle_7 : decode cX1_settle 7 = .ok (.lload_n 3, 1) := by decide +kernel
theorem dX1_settle_8 : decode cX1_settle 8 = .ok (.lconst 0, 1) := by decide +kernel
theorem dX1_settle_9 : decode cX1_settle 9 = .ok (.lcmp, 1) := by decide +kernel
theorem dX1_settle_10 : decode cX1_settle 10 = .ok (.ifCond .ne 9, 3) := by decide +kernel
theorem dX1_settle_13 : decode cX1_settle 13 = .ok (.aload_n 0, 1) := by decide +kernel
theorem dX1_settle_14 : decode cX1_settle 14 = .ok (.iconst 1, 1) := by decide +kernel
theorem dX1_settle_15 : decode cX1_settle 15 = .ok (.putfield 18, 3) := by decide +kernel
theorem dX1_settle_18 : decode cX1_settle 18 = .ok (.return_, 1) := by decide +kernel
theorem dX1_settle_19 : decode cX1_settle 19 = .ok (.lload_n 3, 1) := by decide +kernel
theorem dX1_settle_20 : decode cX1_settle 20 = .ok (.lstore 5, 2) := by decide +kernel
theorem dX1_settle_22 : decode cX1_settle 22 = .ok (.lload_n 1, 1) := by decide +kernel
theorem dX1_settle_23 : decode cX1_settle 23 = .ok (.lload_n 3, 1) := by decide +kernel
theorem dX1_settle_24 : decode cX1_settle 24 = .ok (.lrem, 1) := by decide +kernel
theorem dX1_settle_25 : decode cX1_settle 25 = .ok (.lstore 7, 2) := by decide +kernel
theorem dX1_settle_27 : decode cX1_settle 27 = .ok (.iconst 0, 1) := by decide +kernel
theorem dX1_settle_28 : decode cX1_settle 28 = .ok (.istore 9, 2) := by decide +kernel
theorem dX1_settle_30 : decode cX1_settle 30 = .ok (.iload 9, 2) := by decide +kernel
theorem dX1_settle_32 : decode cX1_settle 32 = .ok (.sipush 200, 3) := by decide +kernel
theorem dX1_settle_35 : decode cX1_settle 35 = .ok (.if_icmp .ge 31, 3) := by decide +kernel
theorem dX1_settle_38 : decode cX1_settle 38 = .ok (.lload 7, 2) := by decide +kernel
theorem dX1_settle_40 : decode cX1_settle 40 = .ok (.lconst 0, 1) := by decide +kernel
theorem dX1_settle_41 : decode cX1_settle 41 = .ok (.lcmp, 1) := by decide +kernel
theorem dX1_settle_42 : decode cX1_settle 42 = .ok (.ifCond .eq 24, 3) := by decide +kernel
theorem dX1_settle_45 : decode cX1_settle 45 = .ok (.lload 5, 2) := by decide +kernel
theorem dX1_settle_47 : decode cX1_settle 47 = .ok (.lload 7, 2) := by decide +kernel
theorem dX1_settle_49 : decode cX1_settle 49 = .ok (.lrem, 1) := by decide +kernel
theorem dX1_settle_50 : decode cX1_settle 50 = .ok (.lstore 10, 2) := by decide +kernel
theorem dX1_settle_52 : decode cX1_settle 52 = .ok (.lload 7, 2) := by decide +kernel
theorem dX1_settle_54 : decode cX1_settle 54 = .ok (.lstore 5, 2) := by decide +kernel
theorem dX1_settle_56 : decode cX1_settle 56 = .ok (.lload 10, 2) := by decide +kernel
theorem dX1_settle_58 : decode cX1_settle 58 = .ok (.lstore 7, 2) := by decide +kernel
theorem dX1_settle_60 : decode cX1_settle 60 = .ok (.iinc 9 1, 3) := by decide +kernel
theorem dX1_settle_63 : decode cX1_settle 63 = .ok (.goto (-33), 3) := by decide +kernel
theorem dX1_settle_66 : decode cX1_settle 66 = .ok (.lload 5, 2) := by decide +kernel
theorem dX1_settle_68 : decode cX1_settle 68 = .ok (.lconst 0, 1) := by decide +kernel
theorem dX1_settle_69 : decode cX1_settle 69 = .ok (.lcmp, 1) := by decide +kernel
theorem dX1_settle_70 : decode cX1_settle 70 = .ok (.ifCond .ge 7, 3) := by decide +kernel
theorem dX1_settle_73 : decode cX1_settle 73 = .ok (.iconst 1, 1) := by decide +kernel
theorem dX1_settle_74 : decode cX1_settle 74 = .ok (.goto 4, 3) := by decide +kernel
theorem dX1_settle_77 : decode cX1_settle 77 = .ok (.iconst 0, 1) := by decide +kernel
theorem dX1_settle_78 : decode cX1_settle 78 = .ok (.lload_n 3, 1) := by decide +kernel
theorem dX1_settle_79 : decode cX1_settle 79 = .ok (.lconst 0, 1) := by decide +kernel
theorem dX1_settle_80 : decode cX1_settle 80 = .ok (.lcmp, 1) := by decide +kernel
theorem dX1_settle_81 : decode cX1_settle 81 = .ok (.ifCond .ge 7, 3) := by decide +kernel
theorem dX1_settle_84 : decode cX1_settle 84 = .ok (.iconst 1, 1) := by decide +kernel
theorem dX1_settle_85 : decode cX1_settle 85 = .ok (.goto 4, 3) := by decide +kernel
theorem dX1_settle_88 : decode cX1_settle 88 = .ok (.iconst 0, 1) := by decide +kernel
theorem dX1_settle_89 : decode cX1_settle 89 = .ok (.if_icmp .eq 8, 3) := by decide +kernel
theorem dX1_settle_92 : decode cX1_settle 92 = .ok (.lload 5, 2) := by decide +kernel
theorem dX1_settle_94 : decode cX1_settle 94 = .ok (.lneg, 1) := by decide +kernel
theorem dX1_settle_95 : decode cX1_settle 95 = .ok (.lstore 5, 2) := by decide +kernel
theorem dX1_settle_97 : decode cX1_settle 97 = .ok (.aload_n 0, 1) := by decide +kernel
theorem dX1_settle_98 : decode cX1_settle 98 = .ok (.lload 5, 2) := by decide +kernel
theorem dX1_settle_100 : decode cX1_settle 100 = .ok (.ldc2_w 32, 3) := by decide +kernel
theorem dX1_settle_103 : decode cX1_settle 103 = .ok (.lcmp, 1) := by decide +kernel
theorem dX1_settle_104 : decode cX1_settle 104 = .ok (.ifCond .ne 23, 3) := by decide +kernel
theorem dX1_settle_107 : decode cX1_settle 107 = .ok (.lload_n 1, 1) := by decide +kernel
theorem dX1_settle_108 : decode cX1_settle 108 = .ok (.ldc2_w 30, 3) := by decide +kernel
theorem dX1_settle_111 : decode cX1_settle 111 = .ok (.lcmp, 1) := by decide +kernel
theorem dX1_settle_112 : decode cX1_settle 112 = .ok (.ifCond .eq 11, 3) := by decide +kernel
theorem dX1_settle_115 : decode cX1_settle 115 = .ok (.lload_n 3, 1) := by decide +kernel
theorem dX1_settle_116 : decode cX1_settle 116 = .ok (.ldc2_w 30, 3) := by decide +kernel
theorem dX1_settle_119 : decode cX1_settle 119 = .ok (.lcmp, 1) := by decide +kernel
theorem dX1_settle_120 : decode cX1_settle 120 = .ok (.ifCond .ne 7, 3) := by decide +kernel
theorem dX1_settle_123 : decode cX1_settle 123 = .ok (.iconst 1, 1) := by decide +kernel
theorem dX1_settle_124 : decode cX1_settle 124 = .ok (.goto 4, 3) := by decide +kernel
theorem dX1_settle_127 : decode cX1_settle 127 = .ok (.iconst 0, 1) := by decide +kernel
theorem dX1_settle_128 : decode cX1_settle 128 = .ok (.putfield 18, 3) := by decide +kernel
theorem dX1_settle_131 : decode cX1_settle 131 = .ok (.aload_n 0, 1) := by decide +kernel
theorem dX1_settle_132 : decode cX1_settle 132 = .ok (.lload_n 1, 1) := by decide +kernel
theorem dX1_settle_133 : decode cX1_settle 133 = .ok (.lload 5, 2) := by decide +kernel
theorem dX1_settle_135 : decode cX1_settle 135 = .ok (.ldiv, 1) := by decide +kernel
theorem dX1_settle_136 : decode cX1_settle 136 = .ok (.putfield 9, 3) := by decide +kernel
theorem dX1_settle_139 : decode cX1_settle 139 = .ok (.aload_n 0, 1) := by decide +kernel
theorem dX1_settle_140 : decode cX1_settle 140 = .ok (.lload_n 3, 1) := by decide +kernel
theorem dX1_settle_141 : decode cX1_settle 141 = .ok (.lload 5, 2) := by decide +kernel
theorem dX1_settle_143 : decode cX1_settle 143 = .ok (.ldiv, 1) := by decide +kernel
theorem dX1_settle_144 : decode cX1_settle 144 = .ok (.putfield 15, 3) := by decide +kernel
theorem dX1_settle_147 : decode cX1_settle 147 = .ok (.return_, 1) := by decide +kernel
theorem dX2_init_0 : decode cX2_init 0 = .ok (.aload_n 0, 1) := by decide +kernel
theorem dX2_init_1 : decode cX2_init 1 = .ok (.invokespecial 3, 3) := by decide +kernel
theorem dX2_init_4 : decode cX2_init 4 = .ok (.aload_n 0, 1) := by decide +kernel
theorem dX2_init_5 : decode cX2_init 5 = .ok (.iload_n 1, 1) := by decide +kernel
theorem dX2_init_6 : decode cX2_init 6 = .ok (.iconst 1, 1) := by decide +kernel
theorem dX2_init_7 : decode cX2_init 7 = .ok (.invokestatic 9, 3) := by decide +kernel
theorem dX2_init_10 : decode cX2_init 10 = .ok (.newarray .int, 2) := by decide +kernel
theorem dX2_init_12 : decode cX2_init 12 = .ok (.putfield 15, 3) := by decide +kernel
theorem dX2_init_15 : decode cX2_init 15 = .ok (.aload_n 0, 1) := by decide +kernel
theorem dX2_init_16 : decode cX2_init 16 = .ok (.iload_n 1, 1) := by decide +kernel
theorem dX2_init_17 : decode cX2_init 17 = .ok (.iconst 1, 1) := by decide +kernel
theorem dX2_init_18 : decode cX2_init 18 = .ok (.invokestatic 9, 3) := by decide +kernel
theorem dX2_init_21 : decode cX2_init 21 = .ok (.newarray .int, 2) := by decide +kernel
theorem dX2_init_23 : decode cX2_init 23 = .ok (.putfield 21, 3) := by decide +kernel
theorem dX2_init_26 : decode cX2_init 26 = .ok (.aload_n 0, 1) := by decide +kernel
theorem dX2_init_27 : decode cX2_init 27 = .ok (.iconst 0, 1) := by decide +kernel
theorem dX2_init_28 : decode cX2_init 28 = .ok (.putfield 24, 3) := by decide +kernel
theorem dX2_init_31 : decode cX2_init 31 = .ok (.return_, 1) := by decide +kernel
theorem dX2_add_0 : decode cX2_add 0 = .ok (.aload_n 0, 1) := by decide +kernel
theorem dX2_add_1 : decode cX2_add 1 = .ok (.getfield 24, 3) := by decide +kernel
theorem dX2_add_4 : decode cX2_add 4 = .ok (.aload_n 0, 1) := by decide +kernel
theorem dX2_add_5 : decode cX2_add 5 = .ok (.getfield 15, 3) := by decide +kernel
theorem dX2_add_8 : decode cX2_add 8 = .ok (.arraylength, 1) := by decide +kernel
theorem dX2_add_9 : decode cX2_add 9 = .ok (.if_icmp .lt 6, 3) := by decide +kernel
theorem dX2_add_12 : decode cX2_add 12 = .ok (.bipush (-4), 2) := by decide +kernel
theorem dX2_add_14 : decode cX2_add 14 = .ok (.ireturn, 1) := by decide +kernel
theorem dX2_add_15 : decode cX2_add 15 = .ok (.aload_n 0, 1) := by decide +kernel
theorem dX2_add_16 : decode cX2_add 16 = .ok (.getfield 15, 3) := by decide +kernel
theorem dX2_add_19 : decode cX2_add 19 = .ok (.aload_n 0, 1) := by decide +kernel
theorem dX2_add_20 : decode cX2_add 20 = .ok (.getfield 24, 3) := by decide +kernel
theorem dX2_add_23 : decode cX2_add 23 = .ok (.iload_n 1, 1) := by decide +kernel
theorem dX2_add_24 : decode cX2_add 24 = .ok (.iastore, 1) := by decide +kernel
theorem dX2_add_25 : decode cX2_add 25 = .ok (.aload_n 0, 1) := by decide +kernel
theorem dX2_add_26 : decode cX2_add 26 = .ok (.getfield 21, 3) := by decide +kernel
theorem dX2_add_29 : decode cX2_add 29 = .ok (.aload_n 0, 1) := by decide +kernel
theorem dX2_add_30 : decode cX2_add 30 = .ok (.getfield 24, 3) := by decide +kernel
theorem dX2_add_33 : decode cX2_add 33 = .ok (.iload_n 2, 1) := by decide +kernel
theorem dX2_add_34 : decode cX2_add 34 = .ok (.iastore, 1) := by decide +kernel
theorem dX2_add_35 : decode cX2_add 35 = .ok (.aload_n 0, 1) := by decide +kernel
theorem dX2_add_36 : decode cX2_add 36 = .ok (.dup, 1) := by decide +kernel
theorem dX2_add_37 : decode cX2_add 37 = .ok (.getfield 24, 3) := by decide +kernel
theorem dX2_add_40 : decode cX2_add 40 = .ok (.iconst 1, 1) := by decide +kernel
theorem dX2_add_41 : decode cX2_add 41 = .ok (.iadd, 1) := by decide +kernel
theorem dX2_add_42 : decode cX2_add 42 = .ok (.putfield 24, 3) := by decide +kernel
theorem dX2_add_45 : decode cX2_add 45 = .ok (.aload_n 0, 1) := by decide +kernel
theorem dX2_add_46 : decode cX2_add 46 = .ok (.getfield 24, 3) := by decide +kernel
theorem dX2_add_49 : decode cX2_add 49 = .ok (.ireturn, 1) := by decide +kernel
theorem dX2_become_0 : decode cX2_become 0 = .ok (.aload_n 0, 1) := by decide +kernel
theorem dX2_become_1 : decode cX2_become 1 = .ok (.aload_n 1, 1) := by decide +kernel
theorem dX2_become_2 : decode cX2_become 2 = .ok (.getfield 24, 3) := by decide +kernel
theorem dX2_become_5 : decode cX2_become 5 = .ok (.aload_n 0, 1) := by decide +kernel
theorem dX2_become_6 : decode cX2_become 6 = .ok (.getfield 15, 3) := by decide +kernel
theorem dX2_become_9 : decode cX2_become 9 = .ok (.arraylength, 1) := by decide +kernel
theorem dX2_become_10 : decode cX2_become 10 = .ok (.invokestatic 28, 3) := by decide +kernel
theorem dX2_become_13 : decode cX2_become 13 = .ok (.putfield 24, 3) := by decide +kernel
theorem dX2_become_16 : decode cX2_become 16 = .ok (.aload_n 1, 1) := by decide +kernel
theorem dX2_become_17 : decode cX2_become 17 = .ok (.getfield 15, 3) := by decide +kernel
theorem dX2_become_20 : decode cX2_become 20 = .ok (.iconst 0, 1) := by decide +kernel
theorem dX2_become_21 : decode cX2_become 21 = .ok (.aload_n 0, 1) := by decide +kernel
theorem dX2_become_22 : decode cX2_become 22 = .ok (.getfield 15, 3) := by decide +kernel
theorem dX2_become_25 : decode cX2_become 25 = .ok (.iconst 0, 1) := by decide +kernel
theorem dX2_become_26 : decode cX2_become 26 = .ok (.aload_n 0, 1) := by decide +kernel
theorem dX2_become_27 : decode cX2_become 27 = .ok (.getfield 24, 3) := by decide +kernel
theorem dX2_become_30 : decode cX2_become 30 = .ok (.invokestatic 31, 3) := by decide +kernel
theorem dX2_become_33 : decode cX2_become 33 = .ok (.aload_n 1, 1) := by decide +kernel
theorem dX2_become_34 : decode cX2_become 34 = .ok (.getfield 21, 3) := by decide +kernel
theorem dX2_become_37 : decode cX2_become 37 = .ok (.iconst 0, 1) := by decide +kernel
theorem dX2_become_38 : decode cX2_become 38 = .ok (.aload_n 0, 1) := by decide +kernel
theorem dX2_become_39 : decode cX2_become 39 = .ok (.getfield 21, 3) := by decide +kernel
theorem dX2_become_42 : decode cX2_become 42 = .ok (.iconst 0, 1) := by decide +kernel
theorem dX2_become_43 : decode cX2_become 43 = .ok (.aload_n 0, 1) := by decide +kernel
theorem dX2_become_44 : decode cX2_become 44 = .ok (.getfield 24, 3) := by decide +kernel
theorem dX2_become_47 : decode cX2_become 47 = .ok (.invokestatic 31, 3) := by decide +kernel
theorem dX2_become_50 : decode cX2_become 50 = .ok (.return_, 1) := by decide +kernel
theorem dX3_init_0 : decode cX3_init 0 = .ok (.aload_n 0, 1) := by decide +kernel
theorem dX3_init_1 : decode cX3_init 1 = .ok (.invokespecial 3, 3) := by decide +kernel
theorem dX3_init_4 : decode cX3_init 4 = .ok (.aload_n 0, 1) := by decide +kernel
theorem dX3_init_5 : decode cX3_init 5 = .ok (.iconst 0, 1) := by decide +kernel
theorem dX3_init_6 : decode cX3_init 6 = .ok (.putfield 9, 3) := by decide +kernel
theorem dX3_init_9 : decode cX3_init 9 = .ok (.aload_n 0, 1) := by decide +kernel
theorem dX3_init_10 : decode cX3_init 10 = .ok (.bipush 6, 2) := by decide +kernel
theorem dX3_init_12 : decode cX3_init 12 = .ok (.newarray .int, 2) := by decide +kernel
theorem dX3_init_14 : decode cX3_init 14 = .ok (.putfield 15, 3) := by decide +kernel
theorem dX3_init_17 : decode cX3_init 17 = .ok (.aload_n 0, 1) := by decide +kernel
theorem dX3_init_18 : decode cX3_init 18 = .ok (.bipush 6, 2) := by decide +kernel
theorem dX3_init_20 : decode cX3_init 20 = .ok (.anewarray 19, 3) := by decide +kernel
theorem dX3_init_23 : decode cX3_init 23 = .ok (.putfield 21, 3) := by decide +kernel
theorem dX3_init_26 : decode cX3_init 26 = .ok (.aload_n 0, 1) := by decide +kernel
theorem dX3_init_27 : decode cX3_init 27 = .ok (.bipush 6, 2) := by decide +kernel
theorem dX3_init_29 : decode cX3_init 29 = .ok (.anewarray 19, 3) := by decide +kernel
theorem dX3_init_32 : decode cX3_init 32 = .ok (.putfield 25, 3) := by decide +kernel
theorem dX3_init_35 : decode cX3_init 35 = .ok (.iconst 0, 1) := by decide +kernel
theorem dX3_init_36 : decode cX3_init 36 = .ok (.istore_n 1, 1) := by decide +kernel
theorem dX3_init_37 : decode cX3_init 37 = .ok (.iload_n 1, 1) := by decide +kernel
theorem dX3_init_38 : decode cX3_init 38 = .ok (.bipush 6, 2) := by decide +kernel
theorem dX3_init_40 : decode cX3_init 40 = .ok (.if_icmp .ge 35, 3) := by decide +kernel
theorem dX3_init_43 : decode cX3_init 43 = .ok (.aload_n 0, 1) := by decide +kernel
theorem dX3_init_44 : decode cX3_init 44 = .ok (.getfield 21, 3) := by decide +kernel
theorem dX3_init_47 : decode cX3_init 47 = .ok (.iload_n 1, 1) := by decide +kernel
theorem dX3_init_48 : decode cX3_init 48 = .ok (.new 19, 3) := by decide +kernel
theorem dX3_init_51 : decode cX3_init 51 = .ok (.dup, 1) := by decide +kernel
theorem dX3_init_52 : decode cX3_init 52 = .ok (.invokespecial 28, 3) := by decide +kernel
theorem dX3_init_55 : decode cX3_init 55 = .ok (.aastore, 1) := by decide +kernel
theorem dX3_init_56 : decode cX3_init 56 = .ok (.aload_n 0, 1) := by decide +kernel
theorem dX3_init_57 : decode cX3_init 57 = .ok (.getfield 25, 3) := by decide +kernel
theorem dX3_init_60 : decode cX3_init 60 = .ok (.iload_n 1, 1) := by decide +kernel
theorem dX3_init_61 : decode cX3_init 61 = .ok (.new 19, 3) := by decide +kernel
theorem dX3_init_64 : decode cX3_init 64 = .ok (.dup, 1) := by decide +kernel
theorem dX3_init_65 : decode cX3_init 65 = .ok (.invokespecial 28, 3) := by decide +kernel
theorem dX3_init_68 : decode cX3_init 68 = .ok (.aastore, 1) := by decide +kernel
theorem dX3_init_69 : decode cX3_init 69 = .ok (.iinc 1 1, 3) := by decide +kernel
theorem dX3_init_72 : decode cX3_init 72 = .ok (.goto (-35), 3) := by decide +kernel
theorem dX3_init_75 : decode cX3_init 75 = .ok (.aload_n 0, 1) := by decide +kernel
theorem dX3_init_76 : decode cX3_init 76 = .ok (.iconst 4, 1) := by decide +kernel
theorem dX3_init_77 : decode cX3_init 77 = .ok (.putfield 29, 3) := by decide +kernel
theorem dX3_init_80 : decode cX3_init 80 = .ok (.aload_n 0, 1) := by decide +kernel
theorem dX3_init_81 : decode cX3_init 81 = .ok (.iconst 2, 1) := by decide +kernel
theorem dX3_init_82 : decode cX3_init 82 = .ok (.newarray .int, 2) := by decide +kernel
theorem dX3_init_84 : decode cX3_init 84 = .ok (.putfield 32, 3) := by decide +kernel
theorem dX3_init_87 : decode cX3_init 87 = .ok (.aload_n 0, 1) := by decide +kernel
theorem dX3_init_88 : decode cX3_init 88 = .ok (.getfield 32, 3) := by decide +kernel
theorem dX3_init_91 : decode cX3_init 91 = .ok (.iconst 0, 1) := by decide +kernel
theorem dX3_init_92 : decode cX3_init 92 = .ok (.iconst 4, 1) := by decide +kernel
theorem dX3_init_93 : decode cX3_init 93 = .ok (.iastore, 1) := by decide +kernel
theorem dX3_init_94 : decode cX3_init 94 = .ok (.aload_n 0, 1) := by decide +kernel
theorem dX3_init_95 : decode cX3_init 95 = .ok (.getfield 32, 3) := by decide +kernel
theorem dX3_init_98 : decode cX3_init 98 = .ok (.iconst 1, 1) := by decide +kernel
theorem dX3_init_99 : decode cX3_init 99 = .ok (.iconst 4, 1) := by decide +kernel
theorem dX3_init_100 : decode cX3_init 100 = .ok (.iastore, 1) := by decide +kernel
theorem dX3_init_101 : decode cX3_init 101 = .ok (.return_, 1) := by decide +kernel
theorem dX3_become_0 : decode cX3_become 0 = .ok (.aload_n 0, 1) := by decide +kernel
theorem dX3_become_1 : decode cX3_become 1 = .ok (.aload_n 1, 1) := by decide +kernel
theorem dX3_become_2 : decode cX3_become 2 = .ok (.getfield 9, 3) := by decide +kernel
theorem dX3_become_5 : decode cX3_become 5 = .ok (.putfield 9, 3) := by decide +kernel
theorem dX3_become_8 : decode cX3_become 8 = .ok (.iconst 0, 1) := by decide +kernel
theorem dX3_become_9 : decode cX3_become 9 = .ok (.istore_n 2, 1) := by decide +kernel
theorem dX3_become_10 : decode cX3_become 10 = .ok (.iload_n 2, 1) := by decide +kernel
theorem dX3_become_11 : decode cX3_become 11 = .ok (.aload_n 1, 1) := by decide +kernel
theorem dX3_become_12 : decode cX3_become 12 = .ok (.getfield 9, 3) := by decide +kernel
theorem dX3_become_15 : decode cX3_become 15 = .ok (.if_icmp .ge 51, 3) := by decide +kernel
theorem dX3_become_18 : decode cX3_become 18 = .ok (.aload_n 0, 1) := by decide +kernel
theorem dX3_become_19 : decode cX3_become 19 = .ok (.getfield 15, 3) := by decide +kernel
theorem dX3_become_22 : decode cX3_become 22 = .ok (.iload_n 2, 1) := by decide +kernel
theorem dX3_become_23 : decode cX3_become 23 = .ok (.aload_n 1, 1) := by decide +kernel
theorem dX3_become_24 : decode cX3_become 24 = .ok (.getfield 15, 3) := by decide +kernel
theorem dX3_become_27 : decode cX3_become 27 = .ok (.iload_n 2, 1) := by decide +kernel
theorem dX3_become_28 : decode cX3_become 28 = .ok (.iaload, 1) := by decide +kernel
theorem dX3_become_29 : decode cX3_become 29 = .ok (.iastore, 1) := by decide +kernel
theorem dX3_become_30 : decode cX3_become 30 = .ok (.aload_n 0, 1) := by decide +kernel
theorem dX3_become_31 : decode cX3_become 31 = .ok (.getfield 21, 3) := by decide +kernel
theorem dX3_become_34 : decode cX3_become 34 = .ok (.iload_n 2, 1) := by decide +kernel
theorem dX3_become_35 : decode cX3_become 35 = .ok (.aaload, 1) := by decide +kernel
theorem dX3_become_36 : decode cX3_become 36 = .ok (.aload_n 1, 1) := by decide +kernel
theorem dX3_become_37 : decode cX3_become 37 = .ok (.getfield 21, 3) := by decide +kernel
theorem dX3_become_40 : decode cX3_become 40 = .ok (.iload_n 2, 1) := by decide +kernel
theorem dX3_become_41 : decode cX3_become 41 = .ok (.aaload, 1) := by decide +kernel
theorem dX3_become_42 : decode cX3_become 42 = .ok (.invokevirtual 35, 3) := by decide +kernel
theorem dX3_become_45 : decode cX3_become 45 = .ok (.aload_n 0, 1) := by decide +kernel
theorem dX3_become_46 : decode cX3_become 46 = .ok (.getfield 25, 3) := by decide +kernel
theorem dX3_become_49 : decode cX3_become 49 = .ok (.iload_n 2, 1) := by decide +kernel
theorem dX3_become_50 : decode cX3_become 50 = .ok (.aaload, 1) := by decide +kernel
theorem dX3_become_51 : decode cX3_become 51 = .ok (.aload_n 1, 1) := by decide +kernel
theorem dX3_become_52 : decode cX3_become 52 = .ok (.getfield 25, 3) := by decide +kernel
theorem dX3_become_55 : decode cX3_become 55 = .ok (.iload_n 2, 1) := by decide +kernel
theorem dX3_become_56 : decode cX3_become 56 = .ok (.aaload, 1) := by decide +kernel
theorem dX3_become_57 : decode cX3_become 57 = .ok (.invokevirtual 35, 3) := by decide +kernel
theorem dX3_become_60 : decode cX3_become 60 = .ok (.iinc 2 1, 3) := by decide +kernel
theorem dX3_become_63 : decode cX3_become 63 = .ok (.goto (-53), 3) := by decide +kernel
theorem dX3_become_66 : decode cX3_become 66 = .ok (.aload_n 0, 1) := by decide +kernel
theorem dX3_become_67 : decode cX3_become 67 = .ok (.aload_n 1, 1) := by decide +kernel
theorem dX3_become_68 : decode cX3_become 68 = .ok (.getfield 29, 3) := by decide +kernel
theorem dX3_become_71 : decode cX3_become 71 = .ok (.putfield 29, 3) := by decide +kernel
theorem dX3_become_74 : decode cX3_become 74 = .ok (.aload_n 0, 1) := by decide +kernel
theorem dX3_become_75 : decode cX3_become 75 = .ok (.getfield 32, 3) := by decide +kernel
theorem dX3_become_78 : decode cX3_become 78 = .ok (.iconst 0, 1) := by decide +kernel
theorem dX3_become_79 : decode cX3_become 79 = .ok (.aload_n 1, 1) := by decide +kernel
theorem dX3_become_80 : decode cX3_become 80 = .ok (.getfield 32, 3) := by decide +kernel
theorem dX3_become_83 : decode cX3_become 83 = .ok (.iconst 0, 1) := by decide +kernel
theorem dX3_become_84 : decode cX3_become 84 = .ok (.iaload, 1) := by decide +kernel
theorem dX3_become_85 : decode cX3_become 85 = .ok (.iastore, 1) := by decide +kernel
theorem dX3_become_86 : decode cX3_become 86 = .ok (.aload_n 0, 1) := by decide +kernel
theorem dX3_become_87 : decode cX3_become 87 = .ok (.getfield 32, 3) := by decide +kernel
theorem dX3_become_90 : decode cX3_become 90 = .ok (.iconst 1, 1) := by decide +kernel
theorem dX3_become_91 : decode cX3_become 91 = .ok (.aload_n 1, 1) := by decide +kernel
theorem dX3_become_92 : decode cX3_become 92 = .ok (.getfield 32, 3) := by decide +kernel
theorem dX3_become_95 : decode cX3_become 95 = .ok (.iconst 1, 1) := by decide +kernel
theorem dX3_become_96 : decode cX3_become 96 = .ok (.iaload, 1) := by decide +kernel
theorem dX3_become_97 : decode cX3_become 97 = .ok (.iastore, 1) := by decide +kernel
theorem dX3_become_98 : decode cX3_become 98 = .ok (.return_, 1) := by decide +kernel
theorem dX3_isLike_0 : decode cX3_isLike 0 = .ok (.aload_n 0, 1) := by decide +kernel
theorem dX3_isLike_1 : decode cX3_isLike 1 = .ok (.getfield 9, 3) := by decide +kernel
theorem dX3_isLike_4 : decode cX3_isLike 4 = .ok (.aload_n 1, 1) := by decide +kernel
theorem dX3_isLike_5 : decode cX3_isLike 5 = .ok (.getfield 9, 3) := by decide +kernel
theorem dX3_isLike_8 : decode cX3_isLike 8 = .ok (.if_icmp .ne 44, 3) := by decide +kernel
theorem dX3_isLike_11 : decode cX3_isLike 11 = .ok (.aload_n 0, 1) := by decide +kernel
theorem dX3_isLike_12 : decode cX3_isLike 12 = .ok (.getfield 29, 3) := by decide +kernel
theorem dX3_isLike_15 : decode cX3_isLike 15 = .ok (.aload_n 1, 1) := by decide +kernel
theorem dX3_isLike_16 : decode cX3_isLike 16 = .ok (.getfield 29, 3) := by decide +kernel
theorem dX3_isLike_19 : decode cX3_isLike 19 = .ok (.if_icmp .ne 33, 3) := by decide +kernel
theorem dX3_isLike_22 : decode cX3_isLike 22 = .ok (.aload_n 0, 1) := by decide +kernel
theorem dX3_isLike_23 : decode cX3_isLike 23 = .ok (.getfield 32, 3) := by decide +kernel
theorem dX3_isLike_26 : decode cX3_isLike 26 = .ok (.iconst 0, 1) := by decide +kernel
theorem dX3_isLike_27 : decode cX3_isLike 27 = .ok (.iaload, 1) := by decide +kernel
theorem dX3_isLike_28 : decode cX3_isLike 28 = .ok (.aload_n 1, 1) := by decide +kernel
theorem dX3_isLike_29 : decode cX3_isLike 29 = .ok (.getfield 32, 3) := by decide +kernel
theorem dX3_isLike_32 : decode cX3_isLike 32 = .ok (.iconst 0, 1) := by decide +kernel
theorem dX3_isLike_33 : decode cX3_isLike 33 = .ok (.iaload, 1) := by decide +kernel
theorem dX3_isLike_34 : decode cX3_isLike 34 = .ok (.if_icmp .ne 18, 3) := by decide +kernel
theorem dX3_isLike_37 : decode cX3_isLike 37 = .ok (.aload_n 0, 1) := by decide +kernel
theorem dX3_isLike_38 : decode cX3_isLike 38 = .ok (.getfield 32, 3) := by decide +kernel
theorem dX3_isLike_41 : decode cX3_isLike 41 = .ok (.iconst 1, 1) := by decide +kernel
theorem dX3_isLike_42 : decode cX3_isLike 42 = .ok (.iaload, 1) := by decide +kernel
theorem dX3_isLike_43 : decode cX3_isLike 43 = .ok (.aload_n 1, 1) := by decide +kernel
theorem dX3_isLike_44 : decode cX3_isLike 44 = .ok (.getfield 32, 3) := by decide +kernel
theorem dX3_isLike_47 : decode cX3_isLike 47 = .ok (.iconst 1, 1) := by decide +kernel
theorem dX3_isLike_48 : decode cX3_isLike 48 = .ok (.iaload, 1) := by decide +kernel
theorem dX3_isLike_49 : decode cX3_isLike 49 = .ok (.if_icmp .eq 5, 3) := by decide +kernel
theorem dX3_isLike_52 : decode cX3_isLike 52 = .ok (.iconst 0, 1) := by decide +kernel
theorem dX3_isLike_53 : decode cX3_isLike 53 = .ok (.ireturn, 1) := by decide +kernel
theorem dX3_isLike_54 : decode cX3_isLike 54 = .ok (.iconst 0, 1) := by decide +kernel
theorem dX3_isLike_55 : decode cX3_isLike 55 = .ok (.istore_n 2, 1) := by decide +kernel
theorem dX3_isLike_56 : decode cX3_isLike 56 = .ok (.iload_n 2, 1) := by decide +kernel
theorem dX3_isLike_57 : decode cX3_isLike 57 = .ok (.aload_n 0, 1) := by decide +kernel
theorem dX3_isLike_58 : decode cX3_isLike 58 = .ok (.getfield 9, 3) := by decide +kernel
theorem dX3_isLike_61 : decode cX3_isLike 61 = .ok (.if_icmp .ge 62, 3) := by decide +kernel
theorem dX3_isLike_64 : decode cX3_isLike 64 = .ok (.aload_n 0, 1) := by decide +kernel
theorem dX3_isLike_65 : decode cX3_isLike 65 = .ok (.getfield 15, 3) := by decide +kernel
theorem dX3_isLike_68 : decode cX3_isLike 68 = .ok (.iload_n 2, 1) := by decide +kernel
theorem dX3_isLike_69 : decode cX3_isLike 69 = .ok (.iaload, 1) := by decide +kernel
theorem dX3_isLike_70 : decode cX3_isLike 70 = .ok (.aload_n 1, 1) := by decide +kernel
theorem dX3_isLike_71 : decode cX3_isLike 71 = .ok (.getfield 15, 3) := by decide +kernel
theorem dX3_isLike_74 : decode cX3_isLike 74 = .ok (.iload_n 2, 1) := by decide +kernel
theorem dX3_isLike_75 : decode cX3_isLike 75 = .ok (.iaload, 1) := by decide +kernel
theorem dX3_isLike_76 : decode cX3_isLike 76 = .ok (.if_icmp .ne 39, 3) := by decide +kernel
theorem dX3_isLike_79 : decode cX3_isLike 79 = .ok (.aload_n 0, 1) := by decide +kernel
theorem dX3_isLike_80 : decode cX3_isLike 80 = .ok (.getfield 21, 3) := by decide +kernel
theorem dX3_isLike_83 : decode cX3_isLike 83 = .ok (.iload_n 2, 1) := by decide +kernel
theorem dX3_isLike_84 : decode cX3_isLike 84 = .ok (.aaload, 1) := by decide +kernel
theorem dX3_isLike_85 : decode cX3_isLike 85 = .ok (.aload_n 1, 1) := by decide +kernel
theorem dX3_isLike_86 : decode cX3_isLike 86 = .ok (.getfield 21, 3) := by decide +kernel
theorem dX3_isLike_89 : decode cX3_isLike 89 = .ok (.iload_n 2, 1) := by decide +kernel
theorem dX3_isLike_90 : decode cX3_isLike 90 = .ok (.aaload, 1) := by decide +kernel
theorem dX3_isLike_91 : decode cX3_isLike 91 = .ok (.invokevirtual 39, 3) := by decide +kernel
theorem dX3_isLike_94 : decode cX3_isLike 94 = .ok (.ifCond .eq 21, 3) := by decide +kernel
theorem dX3_isLike_97 : decode cX3_isLike 97 = .ok (.aload_n 0, 1) := by decide +kernel
theorem dX3_isLike_98 : decode cX3_isLike 98 = .ok (.getfield 25, 3) := by decide +kernel
theorem dX3_isLike_101 : decode cX3_isLike 101 = .ok (.iload_n 2, 1) := by decide +kernel
theorem dX3_isLike_102 : decode cX3_isLike 102 = .ok (.aaload, 1) := by decide +kernel
theorem dX3_isLike_103 : decode cX3_isLike 103 = .ok (.aload_n 1, 1) := by decide +kernel
theorem dX3_isLike_104 : decode cX3_isLike 104 = .ok (.getfield 25, 3) := by decide +kernel
theorem dX3_isLike_107 : decode cX3_isLike 107 = .ok (.iload_n 2, 1) := by decide +kernel
theorem dX3_isLike_108 : decode cX3_isLike 108 = .ok (.aaload, 1) := by decide +kernel
theorem dX3_isLike_109 : decode cX3_isLike 109 = .ok (.invokevirtual 39, 3) := by decide +kernel
theorem dX3_isLike_112 : decode cX3_isLike 112 = .ok (.ifCond .ne 5, 3) := by decide +kernel
theorem dX3_isLike_115 : decode cX3_isLike 115 = .ok (.iconst 0, 1) := by decide +kernel
theorem dX3_isLike_116 : decode cX3_isLike 116 = .ok (.ireturn, 1) := by decide +kernel
theorem dX3_isLike_117 : decode cX3_isLike 117 = .ok (.iinc 2 1, 3) := by decide +kernel
theorem dX3_isLike_120 : decode cX3_isLike 120 = .ok (.goto (-64), 3) := by decide +kernel
theorem dX3_isLike_123 : decode cX3_isLike 123 = .ok (.iconst 1, 1) := by decide +kernel
theorem dX3_isLike_124 : decode cX3_isLike 124 = .ok (.ireturn, 1) := by decide +kernel
theorem dX3_fraction_0 : decode cX3_fraction 0 = .ok (.iload_n 2, 1) := by decide +kernel
theorem dX3_fraction_1 : decode cX3_fraction 1 = .ok (.ifCond .ne 12, 3) := by decide +kernel
theorem dX3_fraction_4 : decode cX3_fraction 4 = .ok (.aload_n 0, 1) := by decide +kernel
theorem dX3_fraction_5 : decode cX3_fraction 5 = .ok (.getfield 21, 3) := by decide +kernel
theorem dX3_fraction_8 : decode cX3_fraction 8 = .ok (.iload_n 1, 1) := by decide +kernel
theorem dX3_fraction_9 : decode cX3_fraction 9 = .ok (.aaload, 1) := by decide +kernel
theorem dX3_fraction_10 : decode cX3_fraction 10 = .ok (.goto 9, 3) := by decide +kernel
theorem dX3_fraction_13 : decode cX3_fraction 13 = .ok (.aload_n 0, 1) := by decide +kernel
theorem dX3_fraction_14 : decode cX3_fraction 14 = .ok (.getfield 25, 3) := by decide +kernel
theorem dX3_fraction_17 : decode cX3_fraction 17 = .ok (.iload_n 1, 1) := by decide +kernel
theorem dX3_fraction_18 : decode cX3_fraction 18 = .ok (.aaload, 1) := by decide +kernel
theorem dX3_fraction_19 : decode cX3_fraction 19 = .ok (.areturn, 1) := by decide +kernel
theorem dX4_init_0 : decode cX4_init 0 = .ok (.aload_n 0, 1) := by decide +kernel
theorem dX4_init_1 : decode cX4_init 1 = .ok (.invokespecial 3, 3) := by decide +kernel
theorem dX4_init_4 : decode cX4_init 4 = .ok (.aload_n 0, 1) := by decide +kernel
theorem dX4_init_5 : decode cX4_init 5 = .ok (.new 9, 3) := by decide +kernel
theorem dX4_init_8 : decode cX4_init 8 = .ok (.dup, 1) := by decide +kernel
theorem dX4_init_9 : decode cX4_init 9 = .ok (.invokespecial 11, 3) := by decide +kernel
theorem dX4_init_12 : decode cX4_init 12 = .ok (.putfield 12, 3) := by decide +kernel
theorem dX4_init_15 : decode cX4_init 15 = .ok (.aload_n 0, 1) := by decide +kernel
theorem dX4_init_16 : decode cX4_init 16 = .ok (.new 18, 3) := by decide +kernel
theorem dX4_init_19 : decode cX4_init 19 = .ok (.dup, 1) := by decide +kernel
theorem dX4_init_20 : decode cX4_init 20 = .ok (.iconst 5, 1) := by decide +kernel
theorem dX4_init_21 : decode cX4_init 21 = .ok (.invokespecial 20, 3) := by decide +kernel
theorem dX4_init_24 : decode cX4_init 24 = .ok (.putfield 23, 3) := by decide +kernel
theorem dX4_init_27 : decode cX4_init 27 = .ok (.aload_n 0, 1) := by decide +kernel
theorem dX4_init_28 : decode cX4_init 28 = .ok (.new 18, 3) := by decide +kernel
theorem dX4_init_31 : decode cX4_init 31 = .ok (.dup, 1) := by decide +kernel
theorem dX4_init_32 : decode cX4_init 32 = .ok (.bipush 8, 2) := by decide +kernel
theorem dX4_init_34 : decode cX4_init 34 = .ok (.invokespecial 20, 3) := by decide +kernel
theorem dX4_init_37 : decode cX4_init 37 = .ok (.putfield 27, 3) := by decide +kernel
theorem dX4_init_40 : decode cX4_init 40 = .ok (.aload_n 0, 1) := by decide +kernel
theorem dX4_init_41 : decode cX4_init 41 = .ok (.new 18, 3) := by decide +kernel
theorem dX4_init_44 : decode cX4_init 44 = .ok (.dup, 1) := by decide +kernel
theorem dX4_init_45 : decode cX4_init 45 = .ok (.bipush 8, 2) := by decide +kernel
theorem dX4_init_47 : decode cX4_init 47 = .ok (.invokespecial 20, 3) := by decide +kernel
theorem dX4_init_50 : decode cX4_init 50 = .ok (.putfield 30, 3) := by decide +kernel
theorem dX4_init_53 : decode cX4_init 53 = .ok (.return_, 1) := by decide +kernel
theorem dX4_become_0 : decode cX4_become 0 = .ok (.aload_n 0, 1) := by decide +kernel
theorem dX4_become_1 : decode cX4_become 1 = .ok (.getfield 12, 3) := by decide +kernel
theorem dX4_become_4 : decode cX4_become 4 = .ok (.aload_n 1, 1) := by decide +kernel
theorem dX4_become_5 : decode cX4_become 5 = .ok (.getfield 12, 3) := by decide +kernel
theorem dX4_become_8 : decode cX4_become 8 = .ok (.invokevirtual 33, 3) := by decide +kernel
theorem dX4_become_11 : decode cX4_become 11 = .ok (.aload_n 0, 1) := by decide +kernel
theorem dX4_become_12 : decode cX4_become 12 = .ok (.getfield 23, 3) := by decide +kernel
theorem dX4_become_15 : decode cX4_become 15 = .ok (.aload_n 1, 1) := by decide +kernel
theorem dX4_become_16 : decode cX4_become 16 = .ok (.getfield 23, 3) := by decide +kernel
theorem dX4_become_19 : decode cX4_become 19 = .ok (.invokevirtual 37, 3) := by decide +kernel
theorem dX4_become_22 : decode cX4_become 22 = .ok (.aload_n 0, 1) := by decide +kernel
theorem dX4_become_23 : decode cX4_become 23 = .ok (.getfield 27, 3) := by decide +kernel
theorem dX4_become_26 : decode cX4_become 26 = .ok (.aload_n 1, 1) := by decide +kernel
theorem dX4_become_27 : decode cX4_become 27 = .ok (.getfield 27, 3) := by decide +kernel
theorem dX4_become_30 : decode cX4_become 30 = .ok (.invokevirtual 37, 3) := by decide +kernel
theorem dX4_become_33 : decode cX4_become 33 = .ok (.aload_n 0, 1) := by decide +kernel
theorem dX4_become_34 : decode cX4_become 34 = .ok (.getfield 30, 3) := by decide +kernel
theorem dX4_become_37 : decode cX4_become 37 = .ok (.aload_n 1, 1) := by decide +kernel
theorem dX4_become_38 : decode cX4_become 38 = .ok (.getfield 30, 3) := by decide +kernel
theorem dX4_become_41 : decode cX4_become 41 = .ok (.invokevirtual 37, 3) := by decide +kernel
theorem dX4_become_44 : decode cX4_become 44 = .ok (.return_, 1) := by decide +kernel
theorem dX5_init_0 : decode cX5_init 0 = .ok (.aload_n 0, 1) := by decide +kernel
theorem dX5_init_1 : decode cX5_init 1 = .ok (.invokespecial 3, 3) := by decide +kernel
theorem dX5_init_4 : decode cX5_init 4 = .ok (.aload_n 0, 1) := by decide +kernel
theorem dX5_init_5 : decode cX5_init 5 = .ok (.new 9, 3) := by decide +kernel
theorem dX5_init_8 : decode cX5_init 8 = .ok (.dup, 1) := by decide +kernel
theorem dX5_init_9 : decode cX5_init 9 = .ok (.invokespecial 11, 3) := by decide +kernel
theorem dX5_init_12 : decode cX5_init 12 = .ok (.putfield 12, 3) := by decide +kernel
theorem dX5_init_15 : decode cX5_init 15 = .ok (.aload_n 0, 1) := by decide +kernel
theorem dX5_init_16 : decode cX5_init 16 = .ok (.new 9, 3) := by decide +kernel
theorem dX5_init_19 : decode cX5_init 19 = .ok (.dup, 1) := by decide +kernel
theorem dX5_init_20 : decode cX5_init 20 = .ok (.invokespecial 11, 3) := by decide +kernel
theorem dX5_init_23 : decode cX5_init 23 = .ok (.putfield 18, 3) := by decide +kernel
theorem dX5_init_26 : decode cX5_init 26 = .ok (.aload_n 0, 1) := by decide +kernel
theorem dX5_init_27 : decode cX5_init 27 = .ok (.new 9, 3) := by decide +kernel
theorem dX5_init_30 : decode cX5_init 30 = .ok (.dup, 1) := by decide +kernel
theorem dX5_init_31 : decode cX5_init 31 = .ok (.invokespecial 11, 3) := by decide +kernel
theorem dX5_init_34 : decode cX5_init 34 = .ok (.putfield 21, 3) := by decide +kernel
theorem dX5_init_37 : decode cX5_init 37 = .ok (.aload_n 0, 1) := by decide +kernel
theorem dX5_init_38 : decode cX5_init 38 = .ok (.new 9, 3) := by decide +kernel
theorem dX5_init_41 : decode cX5_init 41 = .ok (.dup, 1) := by decide +kernel
theorem dX5_init_42 : decode cX5_init 42 = .ok (.invokespecial 11, 3) := by decide +kernel
theorem dX5_init_45 : decode cX5_init 45 = .ok (.putfield 24, 3) := by decide +kernel
theorem dX5_init_48 : decode cX5_init 48 = .ok (.aload_n 0, 1) := by decide +kernel
theorem dX5_init_49 : decode cX5_init 49 = .ok (.new 9, 3) := by decide +kernel
theorem dX5_init_52 : decode cX5_init 52 = .ok (.dup, 1) := by decide +kernel
theorem dX5_init_53 : decode cX5_init 53 = .ok (.invokespecial 11, 3) := by decide +kernel
theorem dX5_init_56 : decode cX5_init 56 = .ok (.putfield 27, 3) := by decide +kernel
theorem dX5_init_59 : decode cX5_init 59 = .ok (.aload_n 0, 1) := by decide +kernel
theorem dX5_init_60 : decode cX5_init 60 = .ok (.new 9, 3) := by decide +kernel
theorem dX5_init_63 : decode cX5_init 63 = .ok (.dup, 1) := by decide +kernel
theorem dX5_init_64 : decode cX5_init 64 = .ok (.invokespecial 11, 3) := by decide +kernel
theorem dX5_init_67 : decode cX5_init 67 = .ok (.putfield 30, 3) := by decide +kernel
theorem dX5_init_70 : decode cX5_init 70 = .ok (.aload_n 0, 1) := by decide +kernel
theorem dX5_init_71 : decode cX5_init 71 = .ok (.new 9, 3) := by decide +kernel
theorem dX5_init_74 : decode cX5_init 74 = .ok (.dup, 1) := by decide +kernel
theorem dX5_init_75 : decode cX5_init 75 = .ok (.invokespecial 11, 3) := by decide +kernel
theorem dX5_init_78 : decode cX5_init 78 = .ok (.putfield 33, 3) := by decide +kernel
theorem dX5_init_81 : decode cX5_init 81 = .ok (.aload_n 0, 1) := by decide +kernel
theorem dX5_init_82 : decode cX5_init 82 = .ok (.new 9, 3) := by decide +kernel
theorem dX5_init_85 : decode cX5_init 85 = .ok (.dup, 1) := by decide +kernel
theorem dX5_init_86 : decode cX5_init 86 = .ok (.invokespecial 11, 3) := by decide +kernel
theorem dX5_init_89 : decode cX5_init 89 = .ok (.putfield 36, 3) := by decide +kernel
theorem dX5_init_92 : decode cX5_init 92 = .ok (.aload_n 0, 1) := by decide +kernel
theorem dX5_init_93 : decode cX5_init 93 = .ok (.new 9, 3) := by decide +kernel
theorem dX5_init_96 : decode cX5_init 96 = .ok (.dup, 1) := by decide +kernel
theorem dX5_init_97 : decode cX5_init 97 = .ok (.invokespecial 11, 3) := by decide +kernel
theorem dX5_init_100 : decode cX5_init 100 = .ok (.putfield 39, 3) := by decide +kernel
theorem dX5_init_103 : decode cX5_init 103 = .ok (.aload_n 0, 1) := by decide +kernel
theorem dX5_init_104 : decode cX5_init 104 = .ok (.new 9, 3) := by decide +kernel
theorem dX5_init_107 : decode cX5_init 107 = .ok (.dup, 1) := by decide +kernel
theorem dX5_init_108 : decode cX5_init 108 = .ok (.invokespecial 11, 3) := by decide +kernel
theorem dX5_init_111 : decode cX5_init 111 = .ok (.putfield 42, 3) := by decide +kernel
theorem dX5_init_114 : decode cX5_init 114 = .ok (.aload_n 0, 1) := by decide +kernel
theorem dX5_init_115 : decode cX5_init 115 = .ok (.new 9, 3) := by decide +kernel
theorem dX5_init_118 : decode cX5_init 118 = .ok (.dup, 1) := by decide +kernel
theorem dX5_init_119 : decode cX5_init 119 = .ok (.invokespecial 11, 3) := by decide +kernel
theorem dX5_init_122 : decode cX5_init 122 = .ok (.putfield 45, 3) := by decide +kernel
theorem dX5_init_125 : decode cX5_init 125 = .ok (.aload_n 0, 1) := by decide +kernel
theorem dX5_init_126 : decode cX5_init 126 = .ok (.new 9, 3) := by decide +kernel
theorem dX5_init_129 : decode cX5_init 129 = .ok (.dup, 1) := by decide +kernel
theorem dX5_init_130 : decode cX5_init 130 = .ok (.invokespecial 11, 3) := by decide +kernel
theorem dX5_init_133 : decode cX5_init 133 = .ok (.putfield 48, 3) := by decide +kernel
theorem dX5_init_136 : decode cX5_init 136 = .ok (.return_, 1) := by decide +kernel
theorem dX5_find_0 : decode cX5_find 0 = .ok (.bipush (-5), 2) := by decide +kernel
theorem dX5_find_2 : decode cX5_find 2 = .ok (.istore_n 2, 1) := by decide +kernel
theorem dX5_find_3 : decode cX5_find 3 = .ok (.aload_n 1, 1) := by decide +kernel
theorem dX5_find_4 : decode cX5_find 4 = .ok (.getfield 51, 3) := by decide +kernel
theorem dX5_find_7 : decode cX5_find 7 = .ok (.ifCond .ne 5, 3) := by decide +kernel
theorem dX5_find_10 : decode cX5_find 10 = .ok (.iload_n 2, 1) := by decide +kernel
theorem dX5_find_11 : decode cX5_find 11 = .ok (.ireturn, 1) := by decide +kernel
theorem dX5_find_12 : decode cX5_find 12 = .ok (.iconst 0, 1) := by decide +kernel
theorem dX5_find_13 : decode cX5_find 13 = .ok (.istore_n 3, 1) := by decide +kernel
theorem dX5_find_14 : decode cX5_find 14 = .ok (.iload_n 3, 1) := by decide +kernel
theorem dX5_find_15 : decode cX5_find 15 = .ok (.aload_n 1, 1) := by decide +kernel
theorem dX5_find_16 : decode cX5_find 16 = .ok (.getfield 51, 3) := by decide +kernel
theorem dX5_find_19 : decode cX5_find 19 = .ok (.if_icmp .gt 106, 3) := by decide +kernel
theorem dX5_find_22 : decode cX5_find 22 = .ok (.aload_n 0, 1) := by decide +kernel
theorem dX5_find_23 : decode cX5_find 23 = .ok (.aload_n 1, 1) := by decide +kernel
theorem dX5_find_24 : decode cX5_find 24 = .ok (.iload_n 3, 1) := by decide +kernel
theorem dX5_find_25 : decode cX5_find 25 = .ok (.invokevirtual 57, 3) := by decide +kernel
theorem dX5_find_28 : decode cX5_find 28 = .ok (.ifCond .ne 6, 3) := by decide +kernel
theorem dX5_find_31 : decode cX5_find 31 = .ok (.goto 88, 3) := by decide +kernel
theorem dX5_find_34 : decode cX5_find 34 = .ok (.aload_n 0, 1) := by decide +kernel
theorem dX5_find_35 : decode cX5_find 35 = .ok (.getfield 24, 3) := by decide +kernel
theorem dX5_find_38 : decode cX5_find 38 = .ok (.aload_n 0, 1) := by decide +kernel
theorem dX5_find_39 : decode cX5_find 39 = .ok (.getfield 18, 3) := by decide +kernel
theorem dX5_find_42 : decode cX5_find 42 = .ok (.invokevirtual 61, 3) := by decide +kernel
theorem dX5_find_45 : decode cX5_find 45 = .ok (.iload_n 2, 1) := by decide +kernel
theorem dX5_find_46 : decode cX5_find 46 = .ok (.bipush (-5), 2) := by decide +kernel
theorem dX5_find_48 : decode cX5_find 48 = .ok (.if_icmp .eq 14, 3) := by decide +kernel
theorem dX5_find_51 : decode cX5_find 51 = .ok (.aload_n 0, 1) := by decide +kernel
theorem dX5_find_52 : decode cX5_find 52 = .ok (.getfield 24, 3) := by decide +kernel
theorem dX5_find_55 : decode cX5_find 55 = .ok (.aload_n 0, 1) := by decide +kernel
theorem dX5_find_56 : decode cX5_find 56 = .ok (.getfield 12, 3) := by decide +kernel
theorem dX5_find_59 : decode cX5_find 59 = .ok (.invokevirtual 65, 3) := by decide +kernel
theorem dX5_find_62 : decode cX5_find 62 = .ok (.aload_n 0, 1) := by decide +kernel
theorem dX5_find_63 : decode cX5_find 63 = .ok (.getfield 24, 3) := by decide +kernel
theorem dX5_find_66 : decode cX5_find 66 = .ok (.getfield 68, 3) := by decide +kernel
theorem dX5_find_69 : decode cX5_find 69 = .ok (.ifCond .eq 6, 3) := by decide +kernel
theorem dX5_find_72 : decode cX5_find 72 = .ok (.bipush (-6), 2) := by decide +kernel
theorem dX5_find_74 : decode cX5_find 74 = .ok (.ireturn, 1) := by decide +kernel
theorem dX5_find_75 : decode cX5_find 75 = .ok (.iload_n 2, 1) := by decide +kernel
theorem dX5_find_76 : decode cX5_find 76 = .ok (.bipush (-5), 2) := by decide +kernel
theorem dX5_find_78 : decode cX5_find 78 = .ok (.if_icmp .eq 15, 3) := by decide +kernel
theorem dX5_find_81 : decode cX5_find 81 = .ok (.aload_n 0, 1) := by decide +kernel
theorem dX5_find_82 : decode cX5_find 82 = .ok (.getfield 24, 3) := by decide +kernel
theorem dX5_find_85 : decode cX5_find 85 = .ok (.getfield 72, 3) := by decide +kernel
theorem dX5_find_88 : decode cX5_find 88 = .ok (.lconst 0, 1) := by decide +kernel
theorem dX5_find_89 : decode cX5_find 89 = .ok (.lcmp, 1) := by decide +kernel
theorem dX5_find_90 : decode cX5_find 90 = .ok (.ifCond .ge 29, 3) := by decide +kernel
theorem dX5_find_93 : decode cX5_find 93 = .ok (.aload_n 0, 1) := by decide +kernel
theorem dX5_find_94 : decode cX5_find 94 = .ok (.getfield 12, 3) := by decide +kernel
theorem dX5_find_97 : decode cX5_find 97 = .ok (.aload_n 0, 1) := by decide +kernel
theorem dX5_find_98 : decode cX5_find 98 = .ok (.getfield 18, 3) := by decide +kernel
theorem dX5_find_101 : decode cX5_find 101 = .ok (.invokevirtual 61, 3) := by decide +kernel
theorem dX5_find_104 : decode cX5_find 104 = .ok (.iload_n 3, 1) := by decide +kernel
theorem dX5_find_105 : decode cX5_find 105 = .ok (.aload_n 1, 1) := by decide +kernel
theorem dX5_find_106 : decode cX5_find 106 = .ok (.getfield 51, 3) := by decide +kernel
theorem dX5_find_109 : decode cX5_find 109 = .ok (.if_icmp .ne 8, 3) := by decide +kernel
theorem dX5_find_112 : decode cX5_find 112 = .ok (.bipush 9, 2) := by decide +kernel
theorem dX5_find_114 : decode cX5_find 114 = .ok (.goto 4, 3) := by decide +kernel
theorem dX5_find_117 : decode cX5_find 117 = .ok (.iload_n 3, 1) := by decide +kernel
theorem dX5_find_118 : decode cX5_find 118 = .ok (.istore_n 2, 1) := by decide +kernel
theorem dX5_find_119 : decode cX5_find 119 = .ok (.iinc 3 1, 3) := by decide +kernel
theorem dX5_find_122 : decode cX5_find 122 = .ok (.goto (-108), 3) := by decide +kernel
theorem dX5_find_125 : decode cX5_find 125 = .ok (.iload_n 2, 1) := by decide +kernel
theorem dX5_find_126 : decode cX5_find 126 = .ok (.ireturn, 1) := by decide +kernel
theorem dX5_reckon_0 : decode cX5_reckon 0 = .ok (.iload_n 2, 1) := by decide +kernel
theorem dX5_reckon_1 : decode cX5_reckon 1 = .ok (.ifCond .ne 66, 3) := by decide +kernel
theorem dX5_reckon_4 : decode cX5_reckon 4 = .ok (.aload_n 1, 1) := by decide +kernel
theorem dX5_reckon_5 : decode cX5_reckon 5 = .ok (.getfield 76, 3) := by decide +kernel
theorem dX5_reckon_8 : decode cX5_reckon 8 = .ok (.iconst 0, 1) := by decide +kernel
theorem dX5_reckon_9 : decode cX5_reckon 9 = .ok (.iaload, 1) := by decide +kernel
theorem dX5_reckon_10 : decode cX5_reckon 10 = .ok (.iconst (-1), 1) := by decide +kernel
theorem dX5_reckon_11 : decode cX5_reckon 11 = .ok (.if_icmp .eq 17, 3) := by decide +kernel
theorem dX5_reckon_14 : decode cX5_reckon 14 = .ok (.aload_n 1, 1) := by decide +kernel
theorem dX5_reckon_15 : decode cX5_reckon 15 = .ok (.getfield 80, 3) := by decide +kernel
theorem dX5_reckon_18 : decode cX5_reckon 18 = .ok (.iconst 0, 1) := by decide +kernel
theorem dX5_reckon_19 : decode cX5_reckon 19 = .ok (.aaload, 1) := by decide +kernel
theorem dX5_reckon_20 : decode cX5_reckon 20 = .ok (.getfield 72, 3) := by decide +kernel
theorem dX5_reckon_23 : decode cX5_reckon 23 = .ok (.lconst 0, 1) := by decide +kernel
theorem dX5_reckon_24 : decode cX5_reckon 24 = .ok (.lcmp, 1) := by decide +kernel
theorem dX5_reckon_25 : decode cX5_reckon 25 = .ok (.ifCond .lt 5, 3) := by decide +kernel
theorem dX5_reckon_28 : decode cX5_reckon 28 = .ok (.iconst 0, 1) := by decide +kernel
theorem dX5_reckon_29 : decode cX5_reckon 29 = .ok (.ireturn, 1) := by decide +kernel
theorem dX5_reckon_30 : decode cX5_reckon 30 = .ok (.aload_n 0, 1) := by decide +kernel
theorem dX5_reckon_31 : decode cX5_reckon 31 = .ok (.getfield 21, 3) := by decide +kernel
theorem dX5_reckon_34 : decode cX5_reckon 34 = .ok (.lconst 0, 1) := by decide +kernel
theorem dX5_reckon_35 : decode cX5_reckon 35 = .ok (.invokevirtual 84, 3) := by decide +kernel
theorem dX5_reckon_38 : decode cX5_reckon 38 = .ok (.aload_n 0, 1) := by decide +kernel
theorem dX5_reckon_39 : decode cX5_reckon 39 = .ok (.getfield 21, 3) := by decide +kernel
theorem dX5_reckon_42 : decode cX5_reckon 42 = .ok (.aload_n 1, 1) := by decide +kernel
theorem dX5_reckon_43 : decode cX5_reckon 43 = .ok (.getfield 80, 3) := by decide +kernel
theorem dX5_reckon_46 : decode cX5_reckon 46 = .ok (.iconst 0, 1) := by decide +kernel
theorem dX5_reckon_47 : decode cX5_reckon 47 = .ok (.aaload, 1) := by decide +kernel
theorem dX5_reckon_48 : decode cX5_reckon 48 = .ok (.invokevirtual 65, 3) := by decide +kernel
theorem dX5_reckon_51 : decode cX5_reckon 51 = .ok (.aload_n 0, 1) := by decide +kernel
theorem dX5_reckon_52 : decode cX5_reckon 52 = .ok (.getfield 18, 3) := by decide +kernel
theorem dX5_reckon_55 : decode cX5_reckon 55 = .ok (.aload_n 1, 1) := by decide +kernel
theorem dX5_reckon_56 : decode cX5_reckon 56 = .ok (.getfield 88, 3) := by decide +kernel
theorem dX5_reckon_59 : decode cX5_reckon 59 = .ok (.iconst 0, 1) := by decide +kernel
theorem dX5_reckon_60 : decode cX5_reckon 60 = .ok (.aaload, 1) := by decide +kernel
theorem dX5_reckon_61 : decode cX5_reckon 61 = .ok (.invokevirtual 61, 3) := by decide +kernel
theorem dX5_reckon_64 : decode cX5_reckon 64 = .ok (.goto 162, 3) := by decide +kernel
theorem dX5_reckon_67 : decode cX5_reckon 67 = .ok (.iload_n 2, 1) := by decide +kernel
theorem dX5_reckon_68 : decode cX5_reckon 68 = .ok (.aload_n 1, 1) := by decide +kernel
theorem dX5_reckon_69 : decode cX5_reckon 69 = .ok (.getfield 51, 3) := by decide +kernel
theorem dX5_reckon_72 : decode cX5_reckon 72 = .ok (.if_icmp .ne 74, 3) := by decide +kernel
theorem dX5_reckon_75 : decode cX5_reckon 75 = .ok (.aload_n 1, 1) := by decide +kernel
theorem dX5_reckon_76 : decode cX5_reckon 76 = .ok (.getfield 76, 3) := by decide +kernel
theorem dX5_reckon_79 : decode cX5_reckon 79 = .ok (.iconst 1, 1) := by decide +kernel
theorem dX5_reckon_80 : decode cX5_reckon 80 = .ok (.iaload, 1) := by decide +kernel
theorem dX5_reckon_81 : decode cX5_reckon 81 = .ok (.iconst (-1), 1) := by decide +kernel
theorem dX5_reckon_82 : decode cX5_reckon 82 = .ok (.if_icmp .eq 19, 3) := by decide +kernel
theorem dX5_reckon_85 : decode cX5_reckon 85 = .ok (.aload_n 1, 1) := by decide +kernel
theorem dX5_reckon_86 : decode cX5_reckon 86 = .ok (.getfield 80, 3) := by decide +kernel
theorem dX5_reckon_89 : decode cX5_reckon 89 = .ok (.iload_n 2, 1) := by decide +kernel
theorem dX5_reckon_90 : decode cX5_reckon 90 = .ok (.iconst 1, 1) := by decide +kernel
theorem dX5_reckon_91 : decode cX5_reckon 91 = .ok (.isub, 1) := by decide +kernel
theorem dX5_reckon_92 : decode cX5_reckon 92 = .ok (.aaload, 1) := by decide +kernel
theorem dX5_reckon_93 : decode cX5_reckon 93 = .ok (.getfield 72, 3) := by decide +kernel
theorem dX5_reckon_96 : decode cX5_reckon 96 = .ok (.lconst 0, 1) := by decide +kernel
theorem dX5_reckon_97 : decode cX5_reckon 97 = .ok (.lcmp, 1) := by decide +kernel
theorem dX5_reckon_98 : decode cX5_reckon 98 = .ok (.ifCond .gt 5, 3) := by decide +kernel
theorem dX5_reckon_101 : decode cX5_reckon 101 = .ok (.iconst 0, 1) := by decide +kernel
theorem dX5_reckon_102 : decode cX5_reckon 102 = .ok (.ireturn, 1) := by decide +kernel
theorem dX5_reckon_103 : decode cX5_reckon 103 = .ok (.aload_n 0, 1) := by decide +kernel
theorem dX5_reckon_104 : decode cX5_reckon 104 = .ok (.getfield 21, 3) := by decide +kernel
theorem dX5_reckon_107 : decode cX5_reckon 107 = .ok (.aload_n 1, 1) := by decide +kernel
theorem dX5_reckon_108 : decode cX5_reckon 108 = .ok (.getfield 80, 3) := by decide +kernel
theorem dX5_reckon_111 : decode cX5_reckon 111 = .ok (.iload_n 2, 1) := by decide +kernel
theorem dX5_reckon_112 : decode cX5_reckon 112 = .ok (.iconst 1, 1) := by decide +kernel
theorem dX5_reckon_113 : decode cX5_reckon 113 = .ok (.isub, 1) := by decide +kernel
theorem dX5_reckon_114 : decode cX5_reckon 114 = .ok (.aaload, 1) := by decide +kernel
theorem dX5_reckon_115 : decode cX5_reckon 115 = .ok (.invokevirtual 61, 3) := by decide +kernel
theorem dX5_reckon_118 : decode cX5_reckon 118 = .ok (.aload_n 0, 1) := by decide +kernel
theorem dX5_reckon_119 : decode cX5_reckon 119 = .ok (.getfield 18, 3) := by decide +kernel
theorem dX5_reckon_122 : decode cX5_reckon 122 = .ok (.ldc2_w 91, 3) := by decide +kernel
theorem dX5_reckon_125 : decode cX5_reckon 125 = .ok (.invokevirtual 84, 3) := by decide +kernel
theorem dX5_reckon_128 : decode cX5_reckon 128 = .ok (.aload_n 0, 1) := by decide +kernel
theorem dX5_reckon_129 : decode cX5_reckon 129 = .ok (.getfield 18, 3) := by decide +kernel
theorem dX5_reckon_132 : decode cX5_reckon 132 = .ok (.aload_n 1, 1) := by decide +kernel
theorem dX5_reckon_133 : decode cX5_reckon 133 = .ok (.getfield 88, 3) := by decide +kernel
theorem dX5_reckon_136 : decode cX5_reckon 136 = .ok (.iload_n 2, 1) := by decide +kernel
theorem dX5_reckon_137 : decode cX5_reckon 137 = .ok (.iconst 1, 1) := by decide +kernel
theorem dX5_reckon_138 : decode cX5_reckon 138 = .ok (.isub, 1) := by decide +kernel
theorem dX5_reckon_139 : decode cX5_reckon 139 = .ok (.aaload, 1) := by decide +kernel
theorem dX5_reckon_140 : decode cX5_reckon 140 = .ok (.invokevirtual 65, 3) := by decide +kernel
theorem dX5_reckon_143 : decode cX5_reckon 143 = .ok (.goto 83, 3) := by decide +kernel
theorem dX5_reckon_146 : decode cX5_reckon 146 = .ok (.aload_n 0, 1) := by decide +kernel
theorem dX5_reckon_147 : decode cX5_reckon 147 = .ok (.getfield 21, 3) := by decide +kernel
theorem dX5_reckon_150 : decode cX5_reckon 150 = .ok (.aload_n 1, 1) := by decide +kernel
theorem dX5_reckon_151 : decode cX5_reckon 151 = .ok (.getfield 80, 3) := by decide +kernel
theorem dX5_reckon_154 : decode cX5_reckon 154 = .ok (.iload_n 2, 1) := by decide +kernel
theorem dX5_reckon_155 : decode cX5_reckon 155 = .ok (.iconst 1, 1) := by decide +kernel
theorem dX5_reckon_156 : decode cX5_reckon 156 = .ok (.isub, 1) := by decide +kernel
theorem dX5_reckon_157 : decode cX5_reckon 157 = .ok (.aaload, 1) := by decide +kernel
theorem dX5_reckon_158 : decode cX5_reckon 158 = .ok (.invokevirtual 61, 3) := by decide +kernel
theorem dX5_reckon_161 : decode cX5_reckon 161 = .ok (.aload_n 0, 1) := by decide +kernel
theorem dX5_reckon_162 : decode cX5_reckon 162 = .ok (.getfield 21, 3) := by decide +kernel
theorem dX5_reckon_165 : decode cX5_reckon 165 = .ok (.aload_n 1, 1) := by decide +kernel
theorem dX5_reckon_166 : decode cX5_reckon 166 = .ok (.getfield 80, 3) := by decide +kernel
theorem dX5_reckon_169 : decode cX5_reckon 169 = .ok (.iload_n 2, 1) := by decide +kernel
theorem dX5_reckon_170 : decode cX5_reckon 170 = .ok (.aaload, 1) := by decide +kernel
theorem dX5_reckon_171 : decode cX5_reckon 171 = .ok (.invokevirtual 65, 3) := by decide +kernel
theorem dX5_reckon_174 : decode cX5_reckon 174 = .ok (.aload_n 0, 1) := by decide +kernel
theorem dX5_reckon_175 : decode cX5_reckon 175 = .ok (.getfield 21, 3) := by decide +kernel
theorem dX5_reckon_178 : decode cX5_reckon 178 = .ok (.getfield 68, 3) := by decide +kernel
theorem dX5_reckon_181 : decode cX5_reckon 181 = .ok (.ifCond .ne 17, 3) := by decide +kernel
theorem dX5_reckon_184 : decode cX5_reckon 184 = .ok (.aload_n 0, 1) := by decide +kernel
theorem dX5_reckon_185 : decode cX5_reckon 185 = .ok (.getfield 21, 3) := by decide +kernel
theorem dX5_reckon_188 : decode cX5_reckon 188 = .ok (.getfield 72, 3) := by decide +kernel
theorem dX5_reckon_191 : decode cX5_reckon 191 = .ok (.lconst 0, 1) := by decide +kernel
theorem dX5_reckon_192 : decode cX5_reckon 192 = .ok (.lcmp, 1) := by decide +kernel
theorem dX5_reckon_193 : decode cX5_reckon 193 = .ok (.ifCond .gt 5, 3) := by decide +kernel
theorem dX5_reckon_196 : decode cX5_reckon 196 = .ok (.iconst 0, 1) := by decide +kernel
theorem dX5_reckon_197 : decode cX5_reckon 197 = .ok (.ireturn, 1) := by decide +kernel
theorem dX5_reckon_198 : decode cX5_reckon 198 = .ok (.aload_n 0, 1) := by decide +kernel
theorem dX5_reckon_199 : decode cX5_reckon 199 = .ok (.getfield 18, 3) := by decide +kernel
theorem dX5_reckon_202 : decode cX5_reckon 202 = .ok (.aload_n 1, 1) := by decide +kernel
theorem dX5_reckon_203 : decode cX5_reckon 203 = .ok (.getfield 88, 3) := by decide +kernel
theorem dX5_reckon_206 : decode cX5_reckon 206 = .ok (.iload_n 2, 1) := by decide +kernel
theorem dX5_reckon_207 : decode cX5_reckon 207 = .ok (.aaload, 1) := by decide +kernel
theorem dX5_reckon_208 : decode cX5_reckon 208 = .ok (.invokevirtual 61, 3) := by decide +kernel
theorem dX5_reckon_211 : decode cX5_reckon 211 = .ok (.aload_n 0, 1) := by decide +kernel
theorem dX5_reckon_212 : decode cX5_reckon 212 = .ok (.getfield 18, 3) := by decide +kernel
theorem dX5_reckon_215 : decode cX5_reckon 215 = .ok (.aload_n 1, 1) := by decide +kernel
theorem dX5_reckon_216 : decode cX5_reckon 216 = .ok (.getfield 88, 3) := by decide +kernel
theorem dX5_reckon_219 : decode cX5_reckon 219 = .ok (.iload_n 2, 1) := by decide +kernel
theorem dX5_reckon_220 : decode cX5_reckon 220 = .ok (.iconst 1, 1) := by decide +kernel
theorem dX5_reckon_221 : decode cX5_reckon 221 = .ok (.isub, 1) := by decide +kernel
theorem dX5_reckon_222 : decode cX5_reckon 222 = .ok (.aaload, 1) := by decide +kernel
theorem dX5_reckon_223 : decode cX5_reckon 223 = .ok (.invokevirtual 65, 3) := by decide +kernel
theorem dX5_reckon_226 : decode cX5_reckon 226 = .ok (.aload_n 0, 1) := by decide +kernel
theorem dX5_reckon_227 : decode cX5_reckon 227 = .ok (.getfield 18, 3) := by decide +kernel
theorem dX5_reckon_230 : decode cX5_reckon 230 = .ok (.aload_n 0, 1) := by decide +kernel
theorem dX5_reckon_231 : decode cX5_reckon 231 = .ok (.getfield 21, 3) := by decide +kernel
theorem dX5_reckon_234 : decode cX5_reckon 234 = .ok (.invokevirtual 93, 3) := by decide +kernel
theorem dX5_reckon_237 : decode cX5_reckon 237 = .ok (.iconst 1, 1) := by decide +kernel
theorem dX5_reckon_238 : decode cX5_reckon 238 = .ok (.ireturn, 1) := by decide +kernel
theorem dX5_strike_0 : decode cX5_strike 0 = .ok (.aload_n 2, 1) := by decide +kernel
theorem dX5_strike_1 : decode cX5_strike 1 = .ok (.aload_n 0, 1) := by decide +kernel
theorem dX5_strike_2 : decode cX5_strike 2 = .ok (.getfield 12, 3) := by decide +kernel
theorem dX5_strike_5 : decode cX5_strike 5 = .ok (.invokevirtual 96, 3) := by decide +kernel
theorem dX5_strike_8 : decode cX5_strike 8 = .ok (.aload_n 2, 1) := by decide +kernel
theorem dX5_strike_9 : decode cX5_strike 9 = .ok (.getfield 68, 3) := by decide +kernel
theorem dX5_strike_12 : decode cX5_strike 12 = .ok (.istore 4, 2) := by decide +kernel
theorem dX5_strike_14 : decode cX5_strike 14 = .ok (.iconst 0, 1) := by decide +kernel
theorem dX5_strike_15 : decode cX5_strike 15 = .ok (.istore 5, 2) := by decide +kernel
theorem dX5_strike_17 : decode cX5_strike 17 = .ok (.iload 5, 2) := by decide +kernel
theorem dX5_strike_19 : decode cX5_strike 19 = .ok (.aload_n 1, 1) := by decide +kernel
theorem dX5_strike_20 : decode cX5_strike 20 = .ok (.getfield 51, 3) := by decide +kernel
theorem dX5_strike_23 : decode cX5_strike 23 = .ok (.if_icmp .ge 73, 3) := by decide +kernel
theorem dX5_strike_26 : decode cX5_strike 26 = .ok (.aload_n 0, 1) := by decide +kernel
theorem dX5_strike_27 : decode cX5_strike 27 = .ok (.getfield 27, 3) := by decide +kernel
theorem dX5_strike_30 : decode cX5_strike 30 = .ok (.aload_n 1, 1) := by decide +kernel
theorem dX5_strike_31 : decode cX5_strike 31 = .ok (.getfield 80, 3) := by decide +kernel
theorem dX5_strike_34 : decode cX5_strike 34 = .ok (.iload 5, 2) := by decide +kernel
theorem dX5_strike_36 : decode cX5_strike 36 = .ok (.aaload, 1) := by decide +kernel
theorem dX5_strike_37 : decode cX5_strike 37 = .ok (.invokevirtual 61, 3) := by decide +kernel
theorem dX5_strike_40 : decode cX5_strike 40 = .ok (.aload_n 0, 1) := by decide +kernel
theorem dX5_strike_41 : decode cX5_strike 41 = .ok (.getfield 27, 3) := by decide +kernel
theorem dX5_strike_44 : decode cX5_strike 44 = .ok (.aload_n 0, 1) := by decide +kernel
theorem dX5_strike_45 : decode cX5_strike 45 = .ok (.getfield 12, 3) := by decide +kernel
theorem dX5_strike_48 : decode cX5_strike 48 = .ok (.invokevirtual 99, 3) := by decide +kernel
theorem dX5_strike_51 : decode cX5_strike 51 = .ok (.aload_n 1, 1) := by decide +kernel
theorem dX5_strike_52 : decode cX5_strike 52 = .ok (.getfield 88, 3) := by decide +kernel
theorem dX5_strike_55 : decode cX5_strike 55 = .ok (.iload 5, 2) := by decide +kernel
theorem dX5_strike_57 : decode cX5_strike 57 = .ok (.aaload, 1) := by decide +kernel
theorem dX5_strike_58 : decode cX5_strike 58 = .ok (.aload_n 0, 1) := by decide +kernel
theorem dX5_strike_59 : decode cX5_strike 59 = .ok (.getfield 27, 3) := by decide +kernel
theorem dX5_strike_62 : decode cX5_strike 62 = .ok (.invokevirtual 96, 3) := by decide +kernel
theorem dX5_strike_65 : decode cX5_strike 65 = .ok (.iload 4, 2) := by decide +kernel
theorem dX5_strike_67 : decode cX5_strike 67 = .ok (.ifCond .ne 16, 3) := by decide +kernel
theorem dX5_strike_70 : decode cX5_strike 70 = .ok (.aload_n 1, 1) := by decide +kernel
theorem dX5_strike_71 : decode cX5_strike 71 = .ok (.getfield 88, 3) := by decide +kernel
theorem dX5_strike_74 : decode cX5_strike 74 = .ok (.iload 5, 2) := by decide +kernel
theorem dX5_strike_76 : decode cX5_strike 76 = .ok (.aaload, 1) := by decide +kernel
theorem dX5_strike_77 : decode cX5_strike 77 = .ok (.getfield 68, 3) := by decide +kernel
theorem dX5_strike_80 : decode cX5_strike 80 = .ok (.ifCond .eq 7, 3) := by decide +kernel
theorem dX5_strike_83 : decode cX5_strike 83 = .ok (.iconst 1, 1) := by decide +kernel
theorem dX5_strike_84 : decode cX5_strike 84 = .ok (.goto 4, 3) := by decide +kernel
theorem dX5_strike_87 : decode cX5_strike 87 = .ok (.iconst 0, 1) := by decide +kernel
theorem dX5_strike_88 : decode cX5_strike 88 = .ok (.istore 4, 2) := by decide +kernel
theorem dX5_strike_90 : decode cX5_strike 90 = .ok (.iinc 5 1, 3) := by decide +kernel
theorem dX5_strike_93 : decode cX5_strike 93 = .ok (.goto (-76), 3) := by decide +kernel
theorem dX5_strike_96 : decode cX5_strike 96 = .ok (.iload 4, 2) := by decide +kernel
theorem dX5_strike_98 : decode cX5_strike 98 = .ok (.ifCond .eq 5, 3) := by decide +kernel
theorem dX5_strike_101 : decode cX5_strike 101 = .ok (.iconst 0, 1) := by decide +kernel
theorem dX5_strike_102 : decode cX5_strike 102 = .ok (.ireturn, 1) := by decide +kernel
theorem dX5_strike_103 : decode cX5_strike 103 = .ok (.iload_n 3, 1) := by decide +kernel
theorem dX5_strike_104 : decode cX5_strike 104 = .ok (.ifCond .ne 20, 3) := by decide +kernel
theorem dX5_strike_107 : decode cX5_strike 107 = .ok (.aload_n 0, 1) := by decide +kernel
theorem dX5_strike_108 : decode cX5_strike 108 = .ok (.aload_n 1, 1) := by decide +kernel
theorem dX5_strike_109 : decode cX5_strike 109 = .ok (.getfield 80, 3) := by decide +kernel
theorem dX5_strike_112 : decode cX5_strike 112 = .ok (.iconst 0, 1) := by decide +kernel
theorem dX5_strike_113 : decode cX5_strike 113 = .ok (.aaload, 1) := by decide +kernel
theorem dX5_strike_114 : decode cX5_strike 114 = .ok (.aload_n 1, 1) := by decide +kernel
theorem dX5_strike_115 : decode cX5_strike 115 = .ok (.getfield 76, 3) := by decide +kernel
theorem dX5_strike_118 : decode cX5_strike 118 = .ok (.iconst 0, 1) := by decide +kernel
theorem dX5_strike_119 : decode cX5_strike 119 = .ok (.iaload, 1) := by decide +kernel
theorem dX5_strike_120 : decode cX5_strike 120 = .ok (.invokevirtual 102, 3) := by decide +kernel
theorem dX5_strike_123 : decode cX5_strike 123 = .ok (.ireturn, 1) := by decide +kernel
theorem dX5_strike_124 : decode cX5_strike 124 = .ok (.iload_n 3, 1) := by decide +kernel
theorem dX5_strike_125 : decode cX5_strike 125 = .ok (.bipush 9, 2) := by decide +kernel
theorem dX5_strike_127 : decode cX5_strike 127 = .ok (.if_icmp .ne 25, 3) := by decide +kernel
theorem dX5_strike_130 : decode cX5_strike 130 = .ok (.aload_n 0, 1) := by decide +kernel
theorem dX5_strike_131 : decode cX5_strike 131 = .ok (.aload_n 1, 1) := by decide +kernel
theorem dX5_strike_132 : decode cX5_strike 132 = .ok (.getfield 80, 3) := by decide +kernel
theorem dX5_strike_135 : decode cX5_strike 135 = .ok (.aload_n 1, 1) := by decide +kernel
theorem dX5_strike_136 : decode cX5_strike 136 = .ok (.getfield 51, 3) := by decide +kernel
theorem dX5_strike_139 : decode cX5_strike 139 = .ok (.iconst 1, 1) := by decide +kernel
theorem dX5_strike_140 : decode cX5_strike 140 = .ok (.isub, 1) := by decide +kernel
theorem dX5_strike_141 : decode cX5_strike 141 = .ok (.aaload, 1) := by decide +kernel
theorem dX5_strike_142 : decode cX5_strike 142 = .ok (.aload_n 1, 1) := by decide +kernel
theorem dX5_strike_143 : decode cX5_strike 143 = .ok (.getfield 76, 3) := by decide +kernel
theorem dX5_strike_146 : decode cX5_strike 146 = .ok (.iconst 1, 1) := by decide +kernel
theorem dX5_strike_147 : decode cX5_strike 147 = .ok (.iaload, 1) := by decide +kernel
theorem dX5_strike_148 : decode cX5_strike 148 = .ok (.invokevirtual 102, 3) := by decide +kernel
theorem dX5_strike_151 : decode cX5_strike 151 = .ok (.ireturn, 1) := by decide +kernel
theorem dX5_strike_152 : decode cX5_strike 152 = .ok (.aload_n 0, 1) := by decide +kernel
theorem dX5_strike_153 : decode cX5_strike 153 = .ok (.aload_n 1, 1) := by decide +kernel
theorem dX5_strike_154 : decode cX5_strike 154 = .ok (.iload_n 3, 1) := by decide +kernel
theorem dX5_strike_155 : decode cX5_strike 155 = .ok (.iconst 1, 1) := by decide +kernel
theorem dX5_strike_156 : decode cX5_strike 156 = .ok (.isub, 1) := by decide +kernel
theorem dX5_strike_157 : decode cX5_strike 157 = .ok (.iload_n 3, 1) := by decide +kernel
theorem dX5_strike_158 : decode cX5_strike 158 = .ok (.invokevirtual 106, 3) := by decide +kernel
theorem dX5_strike_161 : decode cX5_strike 161 = .ok (.ireturn, 1) := by decide +kernel
theorem dX5_rebound_0 : decode cX5_rebound 0 = .ok (.aload_n 0, 1) := by decide +kernel
theorem dX5_rebound_1 : decode cX5_rebound 1 = .ok (.getfield 30, 3) := by decide +kernel
theorem dX5_rebound_4 : decode cX5_rebound 4 = .ok (.iload_n 2, 1) := by decide +kernel
theorem dX5_rebound_5 : decode cX5_rebound 5 = .ok (.i2l, 1) := by decide +kernel
theorem dX5_rebound_6 : decode cX5_rebound 6 = .ok (.ldc2_w 110, 3) := by decide +kernel
theorem dX5_rebound_9 : decode cX5_rebound 9 = .ok (.invokevirtual 112, 3) := by decide +kernel
theorem dX5_rebound_12 : decode cX5_rebound 12 = .ok (.aload_n 0, 1) := by decide +kernel
theorem dX5_rebound_13 : decode cX5_rebound 13 = .ok (.getfield 27, 3) := by decide +kernel
theorem dX5_rebound_16 : decode cX5_rebound 16 = .ok (.aload_n 1, 1) := by decide +kernel
theorem dX5_rebound_17 : decode cX5_rebound 17 = .ok (.invokevirtual 61, 3) := by decide +kernel
theorem dX5_rebound_20 : decode cX5_rebound 20 = .ok (.aload_n 0, 1) := by decide +kernel
theorem dX5_rebound_21 : decode cX5_rebound 21 = .ok (.getfield 27, 3) := by decide +kernel
theorem dX5_rebound_24 : decode cX5_rebound 24 = .ok (.aload_n 0, 1) := by decide +kernel
theorem dX5_rebound_25 : decode cX5_rebound 25 = .ok (.getfield 30, 3) := by decide +kernel
theorem dX5_rebound_28 : decode cX5_rebound 28 = .ok (.invokevirtual 99, 3) := by decide +kernel
theorem dX5_rebound_31 : decode cX5_rebound 31 = .ok (.aload_n 1, 1) := by decide +kernel
theorem dX5_rebound_32 : decode cX5_rebound 32 = .ok (.lconst 0, 1) := by decide +kernel
theorem dX5_rebound_33 : decode cX5_rebound 33 = .ok (.invokevirtual 84, 3) := by decide +kernel
theorem dX5_rebound_36 : decode cX5_rebound 36 = .ok (.aload_n 1, 1) := by decide +kernel
theorem dX5_rebound_37 : decode cX5_rebound 37 = .ok (.aload_n 0, 1) := by decide +kernel
theorem dX5_rebound_38 : decode cX5_rebound 38 = .ok (.getfield 27, 3) := by decide +kernel
theorem dX5_rebound_41 : decode cX5_rebound 41 = .ok (.invokevirtual 65, 3) := by decide +kernel
theorem dX5_rebound_44 : decode cX5_rebound 44 = .ok (.aload_n 1, 1) := by decide +kernel
theorem dX5_rebound_45 : decode cX5_rebound 45 = .ok (.getfield 68, 3) := by decide +kernel
theorem dX5_rebound_48 : decode cX5_rebound 48 = .ok (.ifCond .ne 7, 3) := by decide +kernel
theorem dX5_rebound_51 : decode cX5_rebound 51 = .ok (.iconst 1, 1) := by decide +kernel
theorem dX5_rebound_52 : decode cX5_rebound 52 = .ok (.goto 4, 3) := by decide +kernel
theorem dX5_rebound_55 : decode cX5_rebound 55 = .ok (.iconst 0, 1) := by decide +kernel
theorem dX5_rebound_56 : decode cX5_rebound 56 = .ok (.ireturn, 1) := by decide +kernel
theorem dX5_collide_0 : decode cX5_collide 0 = .ok (.aload_n 1, 1) := by decide +kernel
theorem dX5_collide_1 : decode cX5_collide 1 = .ok (.getfield 80, 3) := by decide +kernel
theorem dX5_collide_4 : decode cX5_collide 4 = .ok (.iload_n 2, 1) := by decide +kernel
theorem dX5_collide_5 : decode cX5_collide 5 = .ok (.aaload, 1) := by decide +kernel
theorem dX5_collide_6 : decode cX5_collide 6 = .ok (.astore 4, 2) := by decide +kernel
theorem dX5_collide_8 : decode cX5_collide 8 = .ok (.aload_n 1, 1) := by decide +kernel
theorem dX5_collide_9 : decode cX5_collide 9 = .ok (.getfield 80, 3) := by decide +kernel
theorem dX5_collide_12 : decode cX5_collide 12 = .ok (.iload_n 3, 1) := by decide +kernel
theorem dX5_collide_13 : decode cX5_collide 13 = .ok (.aaload, 1) := by decide +kernel
theorem dX5_collide_14 : decode cX5_collide 14 = .ok (.astore 5, 2) := by decide +kernel
theorem dX5_collide_16 : decode cX5_collide 16 = .ok (.aload_n 0, 1) := by decide +kernel
theorem dX5_collide_17 : decode cX5_collide 17 = .ok (.getfield 42, 3) := by decide +kernel
theorem dX5_collide_20 : decode cX5_collide 20 = .ok (.aload_n 1, 1) := by decide +kernel
theorem dX5_collide_21 : decode cX5_collide 21 = .ok (.getfield 116, 3) := by decide +kernel
theorem dX5_collide_24 : decode cX5_collide 24 = .ok (.iload_n 2, 1) := by decide +kernel
theorem dX5_collide_25 : decode cX5_collide 25 = .ok (.iaload, 1) := by decide +kernel
theorem dX5_collide_26 : decode cX5_collide 26 = .ok (.i2l, 1) := by decide +kernel
theorem dX5_collide_27 : decode cX5_collide 27 = .ok (.invokevirtual 84, 3) := by decide +kernel
theorem dX5_collide_30 : decode cX5_collide 30 = .ok (.aload_n 0, 1) := by decide +kernel
theorem dX5_collide_31 : decode cX5_collide 31 = .ok (.getfield 45, 3) := by decide +kernel
theorem dX5_collide_34 : decode cX5_collide 34 = .ok (.aload_n 1, 1) := by decide +kernel
theorem dX5_collide_35 : decode cX5_collide 35 = .ok (.getfield 116, 3) := by decide +kernel
theorem dX5_collide_38 : decode cX5_collide 38 = .ok (.iload_n 3, 1) := by decide +kernel
theorem dX5_collide_39 : decode cX5_collide 39 = .ok (.iaload, 1) := by decide +kernel
theorem dX5_collide_40 : decode cX5_collide 40 = .ok (.i2l, 1) := by decide +kernel
theorem dX5_collide_41 : decode cX5_collide 41 = .ok (.invokevirtual 84, 3) := by decide +kernel
theorem dX5_collide_44 : decode cX5_collide 44 = .ok (.aload_n 0, 1) := by decide +kernel
theorem dX5_collide_45 : decode cX5_collide 45 = .ok (.getfield 48, 3) := by decide +kernel
theorem dX5_collide_48 : decode cX5_collide 48 = .ok (.aload_n 1, 1) := by decide +kernel
theorem dX5_collide_49 : decode cX5_collide 49 = .ok (.getfield 116, 3) := by decide +kernel
theorem dX5_collide_52 : decode cX5_collide 52 = .ok (.iload_n 2, 1) := by decide +kernel
theorem dX5_collide_53 : decode cX5_collide 53 = .ok (.iaload, 1) := by decide +kernel
theorem dX5_collide_54 : decode cX5_collide 54 = .ok (.aload_n 1, 1) := by decide +kernel
theorem dX5_collide_55 : decode cX5_collide 55 = .ok (.getfield 116, 3) := by decide +kernel
theorem dX5_collide_58 : decode cX5_collide 58 = .ok (.iload_n 3, 1) := by decide +kernel
theorem dX5_collide_59 : decode cX5_collide 59 = .ok (.iaload, 1) := by decide +kernel
theorem dX5_collide_60 : decode cX5_collide 60 = .ok (.iadd, 1) := by decide +kernel
theorem dX5_collide_61 : decode cX5_collide 61 = .ok (.i2l, 1) := by decide +kernel
theorem dX5_collide_62 : decode cX5_collide 62 = .ok (.invokevirtual 84, 3) := by decide +kernel
theorem dX5_collide_65 : decode cX5_collide 65 = .ok (.aload_n 0, 1) := by decide +kernel
theorem dX5_collide_66 : decode cX5_collide 66 = .ok (.getfield 30, 3) := by decide +kernel
theorem dX5_collide_69 : decode cX5_collide 69 = .ok (.aload_n 1, 1) := by decide +kernel
theorem dX5_collide_70 : decode cX5_collide 70 = .ok (.getfield 119, 3) := by decide +kernel
theorem dX5_collide_73 : decode cX5_collide 73 = .ok (.i2l, 1) := by decide +kernel
theorem dX5_collide_74 : decode cX5_collide 74 = .ok (.ldc2_w 110, 3) := by decide +kernel
theorem dX5_collide_77 : decode cX5_collide 77 = .ok (.invokevirtual 112, 3) := by decide +kernel
theorem dX5_collide_80 : decode cX5_collide 80 = .ok (.aload_n 0, 1) := by decide +kernel
theorem dX5_collide_81 : decode cX5_collide 81 = .ok (.getfield 33, 3) := by decide +kernel
theorem dX5_collide_84 : decode cX5_collide 84 = .ok (.aload 4, 2) := by decide +kernel
theorem dX5_collide_86 : decode cX5_collide 86 = .ok (.invokevirtual 61, 3) := by decide +kernel
theorem dX5_collide_89 : decode cX5_collide 89 = .ok (.aload_n 0, 1) := by decide +kernel
theorem dX5_collide_90 : decode cX5_collide 90 = .ok (.getfield 33, 3) := by decide +kernel
theorem dX5_collide_93 : decode cX5_collide 93 = .ok (.aload_n 0, 1) := by decide +kernel
theorem dX5_collide_94 : decode cX5_collide 94 = .ok (.getfield 42, 3) := by decide +kernel
theorem dX5_collide_97 : decode cX5_collide 97 = .ok (.invokevirtual 99, 3) := by decide +kernel
theorem dX5_collide_100 : decode cX5_collide 100 = .ok (.aload_n 0, 1) := by decide +kernel
theorem dX5_collide_101 : decode cX5_collide 101 = .ok (.getfield 39, 3) := by decide +kernel
theorem dX5_collide_104 : decode cX5_collide 104 = .ok (.aload 5, 2) := by decide +kernel
theorem dX5_collide_106 : decode cX5_collide 106 = .ok (.invokevirtual 61, 3) := by decide +kernel
theorem dX5_collide_109 : decode cX5_collide 109 = .ok (.aload_n 0, 1) := by decide +kernel
theorem dX5_collide_110 : decode cX5_collide 110 = .ok (.getfield 39, 3) := by decide +kernel
theorem dX5_collide_113 : decode cX5_collide 113 = .ok (.aload_n 0, 1) := by decide +kernel
theorem dX5_collide_114 : decode cX5_collide 114 = .ok (.getfield 45, 3) := by decide +kernel
theorem dX5_collide_117 : decode cX5_collide 117 = .ok (.invokevirtual 99, 3) := by decide +kernel
theorem dX5_collide_120 : decode cX5_collide 120 = .ok (.aload_n 0, 1) := by decide +kernel
theorem dX5_collide_121 : decode cX5_collide 121 = .ok (.getfield 33, 3) := by decide +kernel
theorem dX5_collide_124 : decode cX5_collide 124 = .ok (.aload_n 0, 1) := by decide +kernel
theorem dX5_collide_125 : decode cX5_collide 125 = .ok (.getfield 39, 3) := by decide +kernel
theorem dX5_collide_128 : decode cX5_collide 128 = .ok (.invokevirtual 96, 3) := by decide +kernel
theorem dX5_collide_131 : decode cX5_collide 131 = .ok (.aload_n 0, 1) := by decide +kernel
theorem dX5_collide_132 : decode cX5_collide 132 = .ok (.getfield 33, 3) := by decide +kernel
theorem dX5_collide_135 : decode cX5_collide 135 = .ok (.aload_n 0, 1) := by decide +kernel
theorem dX5_collide_136 : decode cX5_collide 136 = .ok (.getfield 48, 3) := by decide +kernel
theorem dX5_collide_139 : decode cX5_collide 139 = .ok (.invokevirtual 93, 3) := by decide +kernel
theorem dX5_collide_142 : decode cX5_collide 142 = .ok (.aload_n 0, 1) := by decide +kernel
theorem dX5_collide_143 : decode cX5_collide 143 = .ok (.getfield 36, 3) := by decide +kernel
theorem dX5_collide_146 : decode cX5_collide 146 = .ok (.aload 4, 2) := by decide +kernel
theorem dX5_collide_148 : decode cX5_collide 148 = .ok (.invokevirtual 61, 3) := by decide +kernel
theorem dX5_collide_151 : decode cX5_collide 151 = .ok (.aload_n 0, 1) := by decide +kernel
theorem dX5_collide_152 : decode cX5_collide 152 = .ok (.getfield 36, 3) := by decide +kernel
theorem dX5_collide_155 : decode cX5_collide 155 = .ok (.aload 5, 2) := by decide +kernel
theorem dX5_collide_157 : decode cX5_collide 157 = .ok (.invokevirtual 65, 3) := by decide +kernel
theorem dX5_collide_160 : decode cX5_collide 160 = .ok (.aload_n 0, 1) := by decide +kernel
theorem dX5_collide_161 : decode cX5_collide 161 = .ok (.getfield 36, 3) := by decide +kernel
theorem dX5_collide_164 : decode cX5_collide 164 = .ok (.aload_n 0, 1) := by decide +kernel
theorem dX5_collide_165 : decode cX5_collide 165 = .ok (.getfield 30, 3) := by decide +kernel
theorem dX5_collide_168 : decode cX5_collide 168 = .ok (.invokevirtual 99, 3) := by decide +kernel
theorem dX5_collide_171 : decode cX5_collide 171 = .ok (.aload_n 0, 1) := by decide +kernel
theorem dX5_collide_172 : decode cX5_collide 172 = .ok (.getfield 39, 3) := by decide +kernel
theorem dX5_collide_175 : decode cX5_collide 175 = .ok (.aload_n 0, 1) := by decide +kernel
theorem dX5_collide_176 : decode cX5_collide 176 = .ok (.getfield 36, 3) := by decide +kernel
theorem dX5_collide_179 : decode cX5_collide 179 = .ok (.invokevirtual 61, 3) := by decide +kernel
theorem dX5_collide_182 : decode cX5_collide 182 = .ok (.aload_n 0, 1) := by decide +kernel
theorem dX5_collide_183 : decode cX5_collide 183 = .ok (.getfield 39, 3) := by decide +kernel
theorem dX5_collide_186 : decode cX5_collide 186 = .ok (.aload_n 0, 1) := by decide +kernel
theorem dX5_collide_187 : decode cX5_collide 187 = .ok (.getfield 45, 3) := by decide +kernel
theorem dX5_collide_190 : decode cX5_collide 190 = .ok (.invokevirtual 99, 3) := by decide +kernel
theorem dX5_collide_193 : decode cX5_collide 193 = .ok (.aload_n 0, 1) := by decide +kernel
theorem dX5_collide_194 : decode cX5_collide 194 = .ok (.getfield 39, 3) := by decide +kernel
theorem dX5_collide_197 : decode cX5_collide 197 = .ok (.aload_n 0, 1) := by decide +kernel
theorem dX5_collide_198 : decode cX5_collide 198 = .ok (.getfield 48, 3) := by decide +kernel
theorem dX5_collide_201 : decode cX5_collide 201 = .ok (.invokevirtual 93, 3) := by decide +kernel
theorem dX5_collide_204 : decode cX5_collide 204 = .ok (.aload 4, 2) := by decide +kernel
theorem dX5_collide_206 : decode cX5_collide 206 = .ok (.aload_n 0, 1) := by decide +kernel
theorem dX5_collide_207 : decode cX5_collide 207 = .ok (.getfield 33, 3) := by decide +kernel
theorem dX5_collide_210 : decode cX5_collide 210 = .ok (.invokevirtual 61, 3) := by decide +kernel
theorem dX5_collide_213 : decode cX5_collide 213 = .ok (.aload 4, 2) := by decide +kernel
theorem dX5_collide_215 : decode cX5_collide 215 = .ok (.aload_n 0, 1) := by decide +kernel
theorem dX5_collide_216 : decode cX5_collide 216 = .ok (.getfield 39, 3) := by decide +kernel
theorem dX5_collide_219 : decode cX5_collide 219 = .ok (.invokevirtual 65, 3) := by decide +kernel
theorem dX5_collide_222 : decode cX5_collide 222 = .ok (.aload_n 0, 1) := by decide +kernel
theorem dX5_collide_223 : decode cX5_collide 223 = .ok (.getfield 39, 3) := by decide +kernel
theorem dX5_collide_226 : decode cX5_collide 226 = .ok (.aload_n 0, 1) := by decide +kernel
theorem dX5_collide_227 : decode cX5_collide 227 = .ok (.getfield 36, 3) := by decide +kernel
theorem dX5_collide_230 : decode cX5_collide 230 = .ok (.invokevirtual 61, 3) := by decide +kernel
theorem dX5_collide_233 : decode cX5_collide 233 = .ok (.aload_n 0, 1) := by decide +kernel
theorem dX5_collide_234 : decode cX5_collide 234 = .ok (.getfield 39, 3) := by decide +kernel
theorem dX5_collide_237 : decode cX5_collide 237 = .ok (.aload_n 0, 1) := by decide +kernel
theorem dX5_collide_238 : decode cX5_collide 238 = .ok (.getfield 42, 3) := by decide +kernel
theorem dX5_collide_241 : decode cX5_collide 241 = .ok (.invokevirtual 99, 3) := by decide +kernel
theorem dX5_collide_244 : decode cX5_collide 244 = .ok (.aload_n 0, 1) := by decide +kernel
theorem dX5_collide_245 : decode cX5_collide 245 = .ok (.getfield 39, 3) := by decide +kernel
theorem dX5_collide_248 : decode cX5_collide 248 = .ok (.aload_n 0, 1) := by decide +kernel
theorem dX5_collide_249 : decode cX5_collide 249 = .ok (.getfield 48, 3) := by decide +kernel
theorem dX5_collide_252 : decode cX5_collide 252 = .ok (.invokevirtual 93, 3) := by decide +kernel
theorem dX5_collide_255 : decode cX5_collide 255 = .ok (.aload 5, 2) := by decide +kernel
theorem dX5_collide_257 : decode cX5_collide 257 = .ok (.aload_n 0, 1) := by decide +kernel
theorem dX5_collide_258 : decode cX5_collide 258 = .ok (.getfield 33, 3) := by decide +kernel
theorem dX5_collide_261 : decode cX5_collide 261 = .ok (.invokevirtual 61, 3) := by decide +kernel
theorem dX5_collide_264 : decode cX5_collide 264 = .ok (.aload 5, 2) := by decide +kernel
theorem dX5_collide_266 : decode cX5_collide 266 = .ok (.aload_n 0, 1) := by decide +kernel
theorem dX5_collide_267 : decode cX5_collide 267 = .ok (.getfield 39, 3) := by decide +kernel
theorem dX5_collide_270 : decode cX5_collide 270 = .ok (.invokevirtual 96, 3) := by decide +kernel
theorem dX5_collide_273 : decode cX5_collide 273 = .ok (.aload 4, 2) := by decide +kernel
theorem dX5_collide_275 : decode cX5_collide 275 = .ok (.getfield 68, 3) := by decide +kernel
theorem dX5_collide_278 : decode cX5_collide 278 = .ok (.ifCond .ne 15, 3) := by decide +kernel
theorem dX5_collide_281 : decode cX5_collide 281 = .ok (.aload 5, 2) := by decide +kernel
theorem dX5_collide_283 : decode cX5_collide 283 = .ok (.getfield 68, 3) := by decide +kernel
theorem dX5_collide_286 : decode cX5_collide 286 = .ok (.ifCond .ne 7, 3) := by decide +kernel
theorem dX5_collide_289 : decode cX5_collide 289 = .ok (.iconst 1, 1) := by decide +kernel
theorem dX5_collide_290 : decode cX5_collide 290 = .ok (.goto 4, 3) := by decide +kernel
theorem dX5_collide_293 : decode cX5_collide 293 = .ok (.iconst 0, 1) := by decide +kernel
theorem dX5_collide_294 : decode cX5_collide 294 = .ok (.ireturn, 1) := by decide +kernel
theorem dX6_init_0 : decode cX6_init 0 = .ok (.aload_n 0, 1) := by decide +kernel
theorem dX6_init_1 : decode cX6_init 1 = .ok (.invokespecial 3, 3) := by decide +kernel
theorem dX6_init_4 : decode cX6_init 4 = .ok (.aload_n 0, 1) := by decide +kernel
theorem dX6_init_5 : decode cX6_init 5 = .ok (.iconst (-1), 1) := by decide +kernel
theorem dX6_init_6 : decode cX6_init 6 = .ok (.putfield 9, 3) := by decide +kernel
theorem dX6_init_9 : decode cX6_init 9 = .ok (.aload_n 0, 1) := by decide +kernel
theorem dX6_init_10 : decode cX6_init 10 = .ok (.iconst 0, 1) := by decide +kernel
theorem dX6_init_11 : decode cX6_init 11 = .ok (.putfield 15, 3) := by decide +kernel
theorem dX6_init_14 : decode cX6_init 14 = .ok (.aload_n 0, 1) := by decide +kernel
theorem dX6_init_15 : decode cX6_init 15 = .ok (.bipush 60, 2) := by decide +kernel
theorem dX6_init_17 : decode cX6_init 17 = .ok (.newarray .long, 2) := by decide +kernel
theorem dX6_init_19 : decode cX6_init 19 = .ok (.putfield 18, 3) := by decide +kernel
theorem dX6_init_22 : decode cX6_init 22 = .ok (.return_, 1) := by decide +kernel
theorem dX6_renewAs_0 : decode cX6_renewAs 0 = .ok (.aload_n 0, 1) := by decide +kernel
theorem dX6_renewAs_1 : decode cX6_renewAs 1 = .ok (.iload_n 1, 1) := by decide +kernel
theorem dX6_renewAs_2 : decode cX6_renewAs 2 = .ok (.putfield 9, 3) := by decide +kernel
theorem dX6_renewAs_5 : decode cX6_renewAs 5 = .ok (.aload_n 0, 1) := by decide +kernel
theorem dX6_renewAs_6 : decode cX6_renewAs 6 = .ok (.iload_n 2, 1) := by decide +kernel
theorem dX6_renewAs_7 : decode cX6_renewAs 7 = .ok (.putfield 15, 3) := by decide +kernel
theorem dX6_renewAs_10 : decode cX6_renewAs 10 = .ok (.aload_n 0, 1) := by decide +kernel
theorem dX6_renewAs_11 : decode cX6_renewAs 11 = .ok (.getfield 18, 3) := by decide +kernel
theorem dX6_renewAs_14 : decode cX6_renewAs 14 = .ok (.lconst 0, 1) := by decide +kernel
theorem dX6_renewAs_15 : decode cX6_renewAs 15 = .ok (.invokestatic 22, 3) := by decide +kernel
theorem dX6_renewAs_18 : decode cX6_renewAs 18 = .ok (.return_, 1) := by decide +kernel
theorem dX6_cut_0 : decode cX6_cut 0 = .ok (.aload_n 0, 1) := by decide +kernel
theorem dX6_cut_1 : decode cX6_cut 1 = .ok (.getfield 9, 3) := by decide +kernel
theorem dX6_cut_4 : decode cX6_cut 4 = .ok (.tableswitch 62 0 4 #[36, 41, 46, 62, 50], 36) := by decide +kernel
theorem dX6_cut_40 : decode cX6_cut 40 = .ok (.lload_n 1, 1) := by decide +kernel
theorem dX6_cut_41 : decode cX6_cut 41 = .ok (.l2i, 1) := by decide +kernel
theorem dX6_cut_42 : decode cX6_cut 42 = .ok (.i2b, 1) := by decide +kernel
theorem dX6_cut_43 : decode cX6_cut 43 = .ok (.i2l, 1) := by decide +kernel
theorem dX6_cut_44 : decode cX6_cut 44 = .ok (.lreturn, 1) := by decide +kernel
theorem dX6_cut_45 : decode cX6_cut 45 = .ok (.lload_n 1, 1) := by decide +kernel
theorem dX6_cut_46 : decode cX6_cut 46 = .ok (.l2i, 1) := by decide +kernel
theorem dX6_cut_47 : decode cX6_cut 47 = .ok (.i2s, 1) := by decide +kernel
theorem dX6_cut_48 : decode cX6_cut 48 = .ok (.i2l, 1) := by decide +kernel
theorem dX6_cut_49 : decode cX6_cut 49 = .ok (.lreturn, 1) := by decide +kernel
theorem dX6_cut_50 : decode cX6_cut 50 = .ok (.lload_n 1, 1) := by decide +kernel
theorem dX6_cut_51 : decode cX6_cut 51 = .ok (.l2i, 1) := by decide +kernel
theorem dX6_cut_52 : decode cX6_cut 52 = .ok (.i2l, 1) := by decide +kernel
theorem dX6_cut_53 : decode cX6_cut 53 = .ok (.lreturn, 1) := by decide +kernel
theorem dX6_cut_54 : decode cX6_cut 54 = .ok (.lload_n 1, 1) := by decide +kernel
theorem dX6_cut_55 : decode cX6_cut 55 = .ok (.lconst 0, 1) := by decide +kernel
theorem dX6_cut_56 : decode cX6_cut 56 = .ok (.lcmp, 1) := by decide +kernel
theorem dX6_cut_57 : decode cX6_cut 57 = .ok (.ifCond .eq 7, 3) := by decide +kernel
theorem dX6_cut_60 : decode cX6_cut 60 = .ok (.lconst 1, 1) := by decide +kernel
theorem dX6_cut_61 : decode cX6_cut 61 = .ok (.goto 4, 3) := by decide +kernel
theorem dX6_cut_64 : decode cX6_cut 64 = .ok (.lconst 0, 1) := by decide +kernel
theorem dX6_cut_65 : decode cX6_cut 65 = .ok (.lreturn, 1) := by decide +kernel
theorem dX6_cut_66 : decode cX6_cut 66 = .ok (.lload_n 1, 1) := by decide +kernel
theorem dX6_cut_67 : decode cX6_cut 67 = .ok (.lreturn, 1) := by decide +kernel
theorem dX7_init_0 : decode cX7_init 0 = .ok (.aload_n 0, 1) := by decide +kernel
theorem dX7_init_1 : decode cX7_init 1 = .ok (.invokespecial 3, 3) := by decide +kernel
theorem dX7_init_4 : decode cX7_init 4 = .ok (.aload_n 0, 1) := by decide +kernel
theorem dX7_init_5 : decode cX7_init 5 = .ok (.bipush 100, 2) := by decide +kernel
theorem dX7_init_7 : decode cX7_init 7 = .ok (.newarray .byte, 2) := by decide +kernel
theorem dX7_init_9 : decode cX7_init 9 = .ok (.putfield 9, 3) := by decide +kernel
theorem dX7_init_12 : decode cX7_init 12 = .ok (.aload_n 0, 1) := by decide +kernel
theorem dX7_init_13 : decode cX7_init 13 = .ok (.iconst 0, 1) := by decide +kernel
theorem dX7_init_14 : decode cX7_init 14 = .ok (.putfield 15, 3) := by decide +kernel
theorem dX7_init_17 : decode cX7_init 17 = .ok (.aload_n 0, 1) := by decide +kernel
theorem dX7_init_18 : decode cX7_init 18 = .ok (.bipush 12, 2) := by decide +kernel
theorem dX7_init_20 : decode cX7_init 20 = .ok (.newarray .int, 2) := by decide +kernel
theorem dX7_init_22 : decode cX7_init 22 = .ok (.putfield 19, 3) := by decide +kernel
theorem dX7_init_25 : decode cX7_init 25 = .ok (.aload_n 0, 1) := by decide +kernel
theorem dX7_init_26 : decode cX7_init 26 = .ok (.bipush 12, 2) := by decide +kernel
theorem dX7_init_28 : decode cX7_init 28 = .ok (.newarray .int, 2) := by decide +kernel
theorem dX7_init_30 : decode cX7_init 30 = .ok (.putfield 23, 3) := by decide +kernel
theorem dX7_init_33 : decode cX7_init 33 = .ok (.aload_n 0, 1) := by decide +kernel
theorem dX7_init_34 : decode cX7_init 34 = .ok (.bipush 12, 2) := by decide +kernel
theorem dX7_init_36 : decode cX7_init 36 = .ok (.newarray .int, 2) := by decide +kernel
theorem dX7_init_38 : decode cX7_init 38 = .ok (.putfield 26, 3) := by decide +kernel
theorem dX7_init_41 : decode cX7_init 41 = .ok (.aload_n 0, 1) := by decide +kernel
theorem dX7_init_42 : decode cX7_init 42 = .ok (.bipush 12, 2) := by decide +kernel
theorem dX7_init_44 : decode cX7_init 44 = .ok (.newarray .int, 2) := by decide +kernel
theorem dX7_init_46 : decode cX7_init 46 = .ok (.putfield 29, 3) := by decide +kernel
theorem dX7_init_49 : decode cX7_init 49 = .ok (.aload_n 0, 1) := by decide +kernel
theorem dX7_init_50 : decode cX7_init 50 = .ok (.iconst 0, 1) := by decide +kernel
theorem dX7_init_51 : decode cX7_init 51 = .ok (.putfield 32, 3) := by decide +kernel
theorem dX7_init_54 : decode cX7_init 54 = .ok (.aload_n 0, 1) := by decide +kernel
theorem dX7_init_55 : decode cX7_init 55 = .ok (.iconst 0, 1) := by decide +kernel
theorem dX7_init_56 : decode cX7_init 56 = .ok (.putfield 35, 3) := by decide +kernel
theorem dX7_init_59 : decode cX7_init 59 = .ok (.aload_n 0, 1) := by decide +kernel
theorem dX7_init_60 : decode cX7_init 60 = .ok (.iconst 0, 1) := by decide +kernel
theorem dX7_init_61 : decode cX7_init 61 = .ok (.putfield 38, 3) := by decide +kernel
theorem dX7_init_64 : decode cX7_init 64 = .ok (.return_, 1) := by decide +kernel
theorem dX7_scan_0 : decode cX7_scan 0 = .ok (.aload_n 0, 1) := by decide +kernel
theorem dX7_scan_1 : decode cX7_scan 1 = .ok (.iconst 0, 1) := by decide +kernel
theorem dX7_scan_2 : decode cX7_scan 2 = .ok (.putfield 35, 3) := by decide +kernel
theorem dX7_scan_5 : decode cX7_scan 5 = .ok (.aload_n 0, 1) := by decide +kernel
theorem dX7_scan_6 : decode cX7_scan 6 = .ok (.iconst 0, 1) := by decide +kernel
theorem dX7_scan_7 : decode cX7_scan 7 = .ok (.putfield 32, 3) := by decide +kernel
theorem dX7_scan_10 : decode cX7_scan 10 = .ok (.iconst 0, 1) := by decide +kernel
theorem dX7_scan_11 : decode cX7_scan 11 = .ok (.istore_n 1, 1) := by decide +kernel
theorem dX7_scan_12 : decode cX7_scan 12 = .ok (.iload_n 1, 1) := by decide +kernel
theorem dX7_scan_13 : decode cX7_scan 13 = .ok (.bipush 12, 2) := by decide +kernel
theorem dX7_scan_15 : decode cX7_scan 15 = .ok (.if_icmp .ge 56, 3) := by decide +kernel
theorem dX7_scan_18 : decode cX7_scan 18 = .ok (.aload_n 0, 1) := by decide +kernel
theorem dX7_scan_19 : decode cX7_scan 19 = .ok (.iload_n 1, 1) := by decide +kernel
theorem dX7_scan_20 : decode cX7_scan 20 = .ok (.invokevirtual 41, 3) := by decide +kernel
theorem dX7_scan_23 : decode cX7_scan 23 = .ok (.ifCond .ne 5, 3) := by decide +kernel
theorem dX7_scan_26 : decode cX7_scan 26 = .ok (.iconst 0, 1) := by decide +kernel
theorem dX7_scan_27 : decode cX7_scan 27 = .ok (.ireturn, 1) := by decide +kernel
theorem dX7_scan_28 : decode cX7_scan 28 = .ok (.aload_n 0, 1) := by decide +kernel
theorem dX7_scan_29 : decode cX7_scan 29 = .ok (.iload_n 1, 1) := by decide +kernel
theorem dX7_scan_30 : decode cX7_scan 30 = .ok (.iconst 1, 1) := by decide +kernel
theorem dX7_scan_31 : decode cX7_scan 31 = .ok (.iadd, 1) := by decide +kernel
theorem dX7_scan_32 : decode cX7_scan 32 = .ok (.putfield 32, 3) := by decide +kernel
theorem dX7_scan_35 : decode cX7_scan 35 = .ok (.aload_n 0, 1) := by decide +kernel
theorem dX7_scan_36 : decode cX7_scan 36 = .ok (.invokevirtual 45, 3) := by decide +kernel
theorem dX7_scan_39 : decode cX7_scan 39 = .ok (.iconst (-1), 1) := by decide +kernel
theorem dX7_scan_40 : decode cX7_scan 40 = .ok (.if_icmp .ne 5, 3) := by decide +kernel
theorem dX7_scan_43 : decode cX7_scan 43 = .ok (.iconst 1, 1) := by decide +kernel
theorem dX7_scan_44 : decode cX7_scan 44 = .ok (.ireturn, 1) := by decide +kernel
theorem dX7_scan_45 : decode cX7_scan 45 = .ok (.aload_n 0, 1) := by decide +kernel
theorem dX7_scan_46 : decode cX7_scan 46 = .ok (.getfield 32, 3) := by decide +kernel
theorem dX7_scan_49 : decode cX7_scan 49 = .ok (.bipush 12, 2) := by decide +kernel
theorem dX7_scan_51 : decode cX7_scan 51 = .ok (.if_icmp .eq 12, 3) := by decide +kernel
theorem dX7_scan_54 : decode cX7_scan 54 = .ok (.aload_n 0, 1) := by decide +kernel
theorem dX7_scan_55 : decode cX7_scan 55 = .ok (.bipush 59, 2) := by decide +kernel
theorem dX7_scan_57 : decode cX7_scan 57 = .ok (.invokevirtual 49, 3) := by decide +kernel
theorem dX7_scan_60 : decode cX7_scan 60 = .ok (.ifCond .ne 5, 3) := by decide +kernel
theorem dX7_scan_63 : decode cX7_scan 63 = .ok (.iconst 0, 1) := by decide +kernel
theorem dX7_scan_64 : decode cX7_scan 64 = .ok (.ireturn, 1) := by decide +kernel
theorem dX7_scan_65 : decode cX7_scan 65 = .ok (.iinc 1 1, 3) := by decide +kernel
theorem dX7_scan_68 : decode cX7_scan 68 = .ok (.goto (-56), 3) := by decide +kernel
theorem dX7_scan_71 : decode cX7_scan 71 = .ok (.iconst 0, 1) := by decide +kernel
theorem dX7_scan_72 : decode cX7_scan 72 = .ok (.ireturn, 1) := by decide +kernel
theorem dX7_scanClause_0 : decode cX7_scanClause 0 = .ok (.aload_n 0, 1) := by decide +kernel
theorem dX7_scanClause_1 : decode cX7_scanClause 1 = .ok (.getfield 19, 3) := by decide +kernel
theorem dX7_scanClause_4 : decode cX7_scanClause 4 = .ok (.iload_n 1, 1) := by decide +kernel
theorem dX7_scanClause_5 : decode cX7_scanClause 5 = .ok (.aload_n 0, 1) := by decide +kernel
theorem dX7_scanClause_6 : decode cX7_scanClause 6 = .ok (.invokevirtual 45, 3) := by decide +kernel
theorem dX7_scanClause_9 : decode cX7_scanClause 9 = .ok (.iastore, 1) := by decide +kernel
theorem dX7_scanClause_10 : decode cX7_scanClause 10 = .ok (.aload_n 0, 1) := by decide +kernel
theorem dX7_scanClause_11 : decode cX7_scanClause 11 = .ok (.bipush 98, 2) := by decide +kernel
theorem dX7_scanClause_13 : decode cX7_scanClause 13 = .ok (.invokevirtual 49, 3) := by decide +kernel
theorem dX7_scanClause_16 : decode cX7_scanClause 16 = .ok (.ifCond .eq 9, 3) := by decide +kernel
theorem dX7_scanClause_19 : decode cX7_scanClause 19 = .ok (.aload_n 0, 1) := by decide +kernel
theorem dX7_scanClause_20 : decode cX7_scanClause 20 = .ok (.iload_n 1, 1) := by decide +kernel
theorem dX7_scanClause_21 : decode cX7_scanClause 21 = .ok (.invokevirtual 53, 3) := by decide +kernel
theorem dX7_scanClause_24 : decode cX7_scanClause 24 = .ok (.ireturn, 1) := by decide +kernel
theorem dX7_scanClause_25 : decode cX7_scanClause 25 = .ok (.aload_n 0, 1) := by decide +kernel
theorem dX7_scanClause_26 : decode cX7_scanClause 26 = .ok (.bipush 103, 2) := by decide +kernel
theorem dX7_scanClause_28 : decode cX7_scanClause 28 = .ok (.invokevirtual 49, 3) := by decide +kernel
theorem dX7_scanClause_31 : decode cX7_scanClause 31 = .ok (.ifCond .eq 12, 3) := by decide +kernel
theorem dX7_scanClause_34 : decode cX7_scanClause 34 = .ok (.aload_n 0, 1) := by decide +kernel
theorem dX7_scanClause_35 : decode cX7_scanClause 35 = .ok (.iconst 2, 1) := by decide +kernel
theorem dX7_scanClause_36 : decode cX7_scanClause 36 = .ok (.invokevirtual 56, 3) := by decide +kernel
theorem dX7_scanClause_39 : decode cX7_scanClause 39 = .ok (.istore_n 2, 1) := by decide +kernel
theorem dX7_scanClause_40 : decode cX7_scanClause 40 = .ok (.goto 52, 3) := by decide +kernel
theorem dX7_scanClause_43 : decode cX7_scanClause 43 = .ok (.aload_n 0, 1) := by decide +kernel
theorem dX7_scanClause_44 : decode cX7_scanClause 44 = .ok (.bipush 101, 2) := by decide +kernel
theorem dX7_scanClause_46 : decode cX7_scanClause 46 = .ok (.invokevirtual 49, 3) := by decide +kernel
theorem dX7_scanClause_49 : decode cX7_scanClause 49 = .ok (.ifCond .eq 12, 3) := by decide +kernel
theorem dX7_scanClause_52 : decode cX7_scanClause 52 = .ok (.aload_n 0, 1) := by decide +kernel
theorem dX7_scanClause_53 : decode cX7_scanClause 53 = .ok (.iconst 1, 1) := by decide +kernel
theorem dX7_scanClause_54 : decode cX7_scanClause 54 = .ok (.invokevirtual 56, 3) := by decide +kernel
theorem dX7_scanClause_57 : decode cX7_scanClause 57 = .ok (.istore_n 2, 1) := by decide +kernel
theorem dX7_scanClause_58 : decode cX7_scanClause 58 = .ok (.goto 34, 3) := by decide +kernel
theorem dX7_scanClause_61 : decode cX7_scanClause 61 = .ok (.aload_n 0, 1) := by decide +kernel
theorem dX7_scanClause_62 : decode cX7_scanClause 62 = .ok (.bipush 108, 2) := by decide +kernel
theorem dX7_scanClause_64 : decode cX7_scanClause 64 = .ok (.invokevirtual 49, 3) := by decide +kernel
theorem dX7_scanClause_67 : decode cX7_scanClause 67 = .ok (.ifCond .ne 12, 3) := by decide +kernel
theorem dX7_scanClause_70 : decode cX7_scanClause 70 = .ok (.aload_n 0, 1) := by decide +kernel
theorem dX7_scanClause_71 : decode cX7_scanClause 71 = .ok (.bipush 114, 2) := by decide +kernel
theorem dX7_scanClause_73 : decode cX7_scanClause 73 = .ok (.invokevirtual 49, 3) := by decide +kernel
theorem dX7_scanClause_76 : decode cX7_scanClause 76 = .ok (.ifCond .eq 14, 3) := by decide +kernel
theorem dX7_scanClause_79 : decode cX7_scanClause 79 = .ok (.aload_n 0, 1) := by decide +kernel
theorem dX7_scanClause_80 : decode cX7_scanClause 80 = .ok (.invokevirtual 59, 3) := by decide +kernel
theorem dX7_scanClause_83 : decode cX7_scanClause 83 = .ok (.ifCond .eq 7, 3) := by decide +kernel
theorem dX7_scanClause_86 : decode cX7_scanClause 86 = .ok (.iconst 1, 1) := by decide +kernel
theorem dX7_scanClause_87 : decode cX7_scanClause 87 = .ok (.goto 4, 3) := by decide +kernel
theorem dX7_scanClause_90 : decode cX7_scanClause 90 = .ok (.iconst 0, 1) := by decide +kernel
theorem dX7_scanClause_91 : decode cX7_scanClause 91 = .ok (.istore_n 2, 1) := by decide +kernel
theorem dX7_scanClause_92 : decode cX7_scanClause 92 = .ok (.aload_n 0, 1) := by decide +kernel
theorem dX7_scanClause_93 : decode cX7_scanClause 93 = .ok (.getfield 23, 3) := by decide +kernel
theorem dX7_scanClause_96 : decode cX7_scanClause 96 = .ok (.iload_n 1, 1) := by decide +kernel
theorem dX7_scanClause_97 : decode cX7_scanClause 97 = .ok (.aload_n 0, 1) := by decide +kernel
theorem dX7_scanClause_98 : decode cX7_scanClause 98 = .ok (.getfield 38, 3) := by decide +kernel
theorem dX7_scanClause_101 : decode cX7_scanClause 101 = .ok (.iastore, 1) := by decide +kernel
theorem dX7_scanClause_102 : decode cX7_scanClause 102 = .ok (.iload_n 2, 1) := by decide +kernel
theorem dX7_scanClause_103 : decode cX7_scanClause 103 = .ok (.ireturn, 1) := by decide +kernel
theorem dX7_scanBumper_0 : decode cX7_scanBumper 0 = .ok (.aload_n 0, 1) := by decide +kernel
theorem dX7_scanBumper_1 : decode cX7_scanBumper 1 = .ok (.iconst 2, 1) := by decide +kernel
theorem dX7_scanBumper_2 : decode cX7_scanBumper 2 = .ok (.invokevirtual 56, 3) := by decide +kernel
theorem dX7_scanBumper_5 : decode cX7_scanBumper 5 = .ok (.ifCond .eq 12, 3) := by decide +kernel
theorem dX7_scanBumper_8 : decode cX7_scanBumper 8 = .ok (.aload_n 0, 1) := by decide +kernel
theorem dX7_scanBumper_9 : decode cX7_scanBumper 9 = .ok (.bipush 44, 2) := by decide +kernel
theorem dX7_scanBumper_11 : decode cX7_scanBumper 11 = .ok (.invokevirtual 49, 3) := by decide +kernel
theorem dX7_scanBumper_14 : decode cX7_scanBumper 14 = .ok (.ifCond .ne 5, 3) := by decide +kernel
theorem dX7_scanBumper_17 : decode cX7_scanBumper 17 = .ok (.iconst 0, 1) := by decide +kernel
theorem dX7_scanBumper_18 : decode cX7_scanBumper 18 = .ok (.ireturn, 1) := by decide +kernel
theorem dX7_scanBumper_19 : decode cX7_scanBumper 19 = .ok (.aload_n 0, 1) := by decide +kernel
theorem dX7_scanBumper_20 : decode cX7_scanBumper 20 = .ok (.getfield 23, 3) := by decide +kernel
theorem dX7_scanBumper_23 : decode cX7_scanBumper 23 = .ok (.iload_n 1, 1) := by decide +kernel
theorem dX7_scanBumper_24 : decode cX7_scanBumper 24 = .ok (.aload_n 0, 1) := by decide +kernel
theorem dX7_scanBumper_25 : decode cX7_scanBumper 25 = .ok (.getfield 38, 3) := by decide +kernel
theorem dX7_scanBumper_28 : decode cX7_scanBumper 28 = .ok (.iastore, 1) := by decide +kernel
theorem dX7_scanBumper_29 : decode cX7_scanBumper 29 = .ok (.aload_n 0, 1) := by decide +kernel
theorem dX7_scanBumper_30 : decode cX7_scanBumper 30 = .ok (.iconst 1, 1) := by decide +kernel
theorem dX7_scanBumper_31 : decode cX7_scanBumper 31 = .ok (.invokevirtual 56, 3) := by decide +kernel
theorem dX7_scanBumper_34 : decode cX7_scanBumper 34 = .ok (.ifCond .eq 12, 3) := by decide +kernel
theorem dX7_scanBumper_37 : decode cX7_scanBumper 37 = .ok (.aload_n 0, 1) := by decide +kernel
theorem dX7_scanBumper_38 : decode cX7_scanBumper 38 = .ok (.bipush 44, 2) := by decide +kernel
theorem dX7_scanBumper_40 : decode cX7_scanBumper 40 = .ok (.invokevirtual 49, 3) := by decide +kernel
theorem dX7_scanBumper_43 : decode cX7_scanBumper 43 = .ok (.ifCond .ne 5, 3) := by decide +kernel
theorem dX7_scanBumper_46 : decode cX7_scanBumper 46 = .ok (.iconst 0, 1) := by decide +kernel
theorem dX7_scanBumper_47 : decode cX7_scanBumper 47 = .ok (.ireturn, 1) := by decide +kernel
theorem dX7_scanBumper_48 : decode cX7_scanBumper 48 = .ok (.aload_n 0, 1) := by decide +kernel
theorem dX7_scanBumper_49 : decode cX7_scanBumper 49 = .ok (.getfield 26, 3) := by decide +kernel
theorem dX7_scanBumper_52 : decode cX7_scanBumper 52 = .ok (.iload_n 1, 1) := by decide +kernel
theorem dX7_scanBumper_53 : decode cX7_scanBumper 53 = .ok (.aload_n 0, 1) := by decide +kernel
theorem dX7_scanBumper_54 : decode cX7_scanBumper 54 = .ok (.getfield 38, 3) := by decide +kernel
theorem dX7_scanBumper_57 : decode cX7_scanBumper 57 = .ok (.iastore, 1) := by decide +kernel
theorem dX7_scanBumper_58 : decode cX7_scanBumper 58 = .ok (.aload_n 0, 1) := by decide +kernel
theorem dX7_scanBumper_59 : decode cX7_scanBumper 59 = .ok (.bipush 45, 2) := by decide +kernel
theorem dX7_scanBumper_61 : decode cX7_scanBumper 61 = .ok (.invokevirtual 49, 3) := by decide +kernel
theorem dX7_scanBumper_64 : decode cX7_scanBumper 64 = .ok (.istore_n 2, 1) := by decide +kernel
theorem dX7_scanBumper_65 : decode cX7_scanBumper 65 = .ok (.aload_n 0, 1) := by decide +kernel
theorem dX7_scanBumper_66 : decode cX7_scanBumper 66 = .ok (.iconst 1, 1) := by decide +kernel
theorem dX7_scanBumper_67 : decode cX7_scanBumper 67 = .ok (.invokevirtual 56, 3) := by decide +kernel
theorem dX7_scanBumper_70 : decode cX7_scanBumper 70 = .ok (.ifCond .ne 5, 3) := by decide +kernel
theorem dX7_scanBumper_73 : decode cX7_scanBumper 73 = .ok (.iconst 0, 1) := by decide +kernel
theorem dX7_scanBumper_74 : decode cX7_scanBumper 74 = .ok (.ireturn, 1) := by decide +kernel
theorem dX7_scanBumper_75 : decode cX7_scanBumper 75 = .ok (.aload_n 0, 1) := by decide +kernel
theorem dX7_scanBumper_76 : decode cX7_scanBumper 76 = .ok (.getfield 29, 3) := by decide +kernel
theorem dX7_scanBumper_79 : decode cX7_scanBumper 79 = .ok (.iload_n 1, 1) := by decide +kernel
theorem dX7_scanBumper_80 : decode cX7_scanBumper 80 = .ok (.iload_n 2, 1) := by decide +kernel
theorem dX7_scanBumper_81 : decode cX7_scanBumper 81 = .ok (.ifCond .eq 11, 3) := by decide +kernel
theorem dX7_scanBumper_84 : decode cX7_scanBumper 84 = .ok (.aload_n 0, 1) := by decide +kernel
theorem dX7_scanBumper_85 : decode cX7_scanBumper 85 = .ok (.getfield 38, 3) := by decide +kernel
theorem dX7_scanBumper_88 : decode cX7_scanBumper 88 = .ok (.ineg, 1) := by decide +kernel
theorem dX7_scanBumper_89 : decode cX7_scanBumper 89 = .ok (.goto 7, 3) := by decide +kernel
theorem dX7_scanBumper_92 : decode cX7_scanBumper 92 = .ok (.aload_n 0, 1) := by decide +kernel
theorem dX7_scanBumper_93 : decode cX7_scanBumper 93 = .ok (.getfield 38, 3) := by decide +kernel
theorem dX7_scanBumper_96 : decode cX7_scanBumper 96 = .ok (.iastore, 1) := by decide +kernel
theorem dX7_scanBumper_97 : decode cX7_scanBumper 97 = .ok (.iconst 1, 1) := by decide +kernel
theorem dX7_scanBumper_98 : decode cX7_scanBumper 98 = .ok (.ireturn, 1) := by decide +kernel
theorem dX7_scanWall_0 : decode cX7_scanWall 0 = .ok (.aload_n 0, 1) := by decide +kernel
theorem dX7_scanWall_1 : decode cX7_scanWall 1 = .ok (.bipush 110, 2) := by decide +kernel
theorem dX7_scanWall_3 : decode cX7_scanWall 3 = .ok (.invokevirtual 49, 3) := by decide +kernel
theorem dX7_scanWall_6 : decode cX7_scanWall 6 = .ok (.ifCond .eq 10, 3) := by decide +kernel
theorem dX7_scanWall_9 : decode cX7_scanWall 9 = .ok (.aload_n 0, 1) := by decide +kernel
theorem dX7_scanWall_10 : decode cX7_scanWall 10 = .ok (.iconst (-1), 1) := by decide +kernel
theorem dX7_scanWall_11 : decode cX7_scanWall 11 = .ok (.putfield 38, 3) := by decide +kernel
theorem dX7_scanWall_14 : decode cX7_scanWall 14 = .ok (.iconst 1, 1) := by decide +kernel
theorem dX7_scanWall_15 : decode cX7_scanWall 15 = .ok (.ireturn, 1) := by decide +kernel
theorem dX7_scanWall_16 : decode cX7_scanWall 16 = .ok (.aload_n 0, 1) := by decide +kernel
theorem dX7_scanWall_17 : decode cX7_scanWall 17 = .ok (.iconst 1, 1) := by decide +kernel
theorem dX7_scanWall_18 : decode cX7_scanWall 18 = .ok (.invokevirtual 56, 3) := by decide +kernel
theorem dX7_scanWall_21 : decode cX7_scanWall 21 = .ok (.ireturn, 1) := by decide +kernel
theorem dX7_scanNumber_0 : decode cX7_scanNumber 0 = .ok (.aload_n 0, 1) := by decide +kernel
theorem dX7_scanNumber_1 : decode cX7_scanNumber 1 = .ok (.iconst 0, 1) := by decide +kernel
theorem dX7_scanNumber_2 : decode cX7_scanNumber 2 = .ok (.putfield 38, 3) := by decide +kernel
theorem dX7_scanNumber_5 : decode cX7_scanNumber 5 = .ok (.iconst 0, 1) := by decide +kernel
theorem dX7_scanNumber_6 : decode cX7_scanNumber 6 = .ok (.istore_n 2, 1) := by decide +kernel
theorem dX7_scanNumber_7 : decode cX7_scanNumber 7 = .ok (.iload_n 2, 1) := by decide +kernel
theorem dX7_scanNumber_8 : decode cX7_scanNumber 8 = .ok (.iload_n 1, 1) := by decide +kernel
theorem dX7_scanNumber_9 : decode cX7_scanNumber 9 = .ok (.if_icmp .ge 56, 3) := by decide +kernel
theorem dX7_scanNumber_12 : decode cX7_scanNumber 12 = .ok (.aload_n 0, 1) := by decide +kernel
theorem dX7_scanNumber_13 : decode cX7_scanNumber 13 = .ok (.invokevirtual 45, 3) := by decide +kernel
theorem dX7_scanNumber_16 : decode cX7_scanNumber 16 = .ok (.bipush 48, 2) := by decide +kernel
theorem dX7_scanNumber_18 : decode cX7_scanNumber 18 = .ok (.if_icmp .lt 47, 3) := by decide +kernel
theorem dX7_scanNumber_21 : decode cX7_scanNumber 21 = .ok (.aload_n 0, 1) := by decide +kernel
theorem dX7_scanNumber_22 : decode cX7_scanNumber 22 = .ok (.invokevirtual 45, 3) := by decide +kernel
theorem dX7_scanNumber_25 : decode cX7_scanNumber 25 = .ok (.bipush 57, 2) := by decide +kernel
theorem dX7_scanNumber_27 : decode cX7_scanNumber 27 = .ok (.if_icmp .gt 38, 3) := by decide +kernel
theorem dX7_scanNumber_30 : decode cX7_scanNumber 30 = .ok (.aload_n 0, 1) := by decide +kernel
theorem dX7_scanNumber_31 : decode cX7_scanNumber 31 = .ok (.aload_n 0, 1) := by decide +kernel
theorem dX7_scanNumber_32 : decode cX7_scanNumber 32 = .ok (.getfield 38, 3) := by decide +kernel
theorem dX7_scanNumber_35 : decode cX7_scanNumber 35 = .ok (.bipush 10, 2) := by decide +kernel
theorem dX7_scanNumber_37 : decode cX7_scanNumber 37 = .ok (.imul, 1) := by decide +kernel
theorem dX7_scanNumber_38 : decode cX7_scanNumber 38 = .ok (.aload_n 0, 1) := by decide +kernel
theorem dX7_scanNumber_39 : decode cX7_scanNumber 39 = .ok (.invokevirtual 45, 3) := by decide +kernel
theorem dX7_scanNumber_42 : decode cX7_scanNumber 42 = .ok (.iadd, 1) := by decide +kernel
theorem dX7_scanNumber_43 : decode cX7_scanNumber 43 = .ok (.bipush 48, 2) := by decide +kernel
theorem dX7_scanNumber_45 : decode cX7_scanNumber 45 = .ok (.isub, 1) := by decide +kernel
theorem dX7_scanNumber_46 : decode cX7_scanNumber 46 = .ok (.putfield 38, 3) := by decide +kernel
theorem dX7_scanNumber_49 : decode cX7_scanNumber 49 = .ok (.iinc 2 1, 3) := by decide +kernel
theorem dX7_scanNumber_52 : decode cX7_scanNumber 52 = .ok (.aload_n 0, 1) := by decide +kernel
theorem dX7_scanNumber_53 : decode cX7_scanNumber 53 = .ok (.dup, 1) := by decide +kernel
theorem dX7_scanNumber_54 : decode cX7_scanNumber 54 = .ok (.getfield 35, 3) := by decide +kernel
theorem dX7_scanNumber_57 : decode cX7_scanNumber 57 = .ok (.iconst 1, 1) := by decide +kernel
theorem dX7_scanNumber_58 : decode cX7_scanNumber 58 = .ok (.iadd, 1) := by decide +kernel
theorem dX7_scanNumber_59 : decode cX7_scanNumber 59 = .ok (.putfield 35, 3) := by decide +kernel
theorem dX7_scanNumber_62 : decode cX7_scanNumber 62 = .ok (.goto (-55), 3) := by decide +kernel
theorem dX7_scanNumber_65 : decode cX7_scanNumber 65 = .ok (.iload_n 2, 1) := by decide +kernel
theorem dX7_scanNumber_66 : decode cX7_scanNumber 66 = .ok (.ifCond .le 7, 3) := by decide +kernel
theorem dX7_scanNumber_69 : decode cX7_scanNumber 69 = .ok (.iconst 1, 1) := by decide +kernel
theorem dX7_scanNumber_70 : decode cX7_scanNumber 70 = .ok (.goto 4, 3) := by decide +kernel
theorem dX7_scanNumber_73 : decode cX7_scanNumber 73 = .ok (.iconst 0, 1) := by decide +kernel
theorem dX7_scanNumber_74 : decode cX7_scanNumber 74 = .ok (.ireturn, 1) := by decide +kernel
theorem dX7_skip_0 : decode cX7_skip 0 = .ok (.aload_n 0, 1) := by decide +kernel
theorem dX7_skip_1 : decode cX7_skip 1 = .ok (.invokevirtual 45, 3) := by decide +kernel
theorem dX7_skip_4 : decode cX7_skip 4 = .ok (.iload_n 1, 1) := by decide +kernel
theorem dX7_skip_5 : decode cX7_skip 5 = .ok (.if_icmp .eq 5, 3) := by decide +kernel
theorem dX7_skip_8 : decode cX7_skip 8 = .ok (.iconst 0, 1) := by decide +kernel
theorem dX7_skip_9 : decode cX7_skip 9 = .ok (.ireturn, 1) := by decide +kernel
theorem dX7_skip_10 : decode cX7_skip 10 = .ok (.aload_n 0, 1) := by decide +kernel
theorem dX7_skip_11 : decode cX7_skip 11 = .ok (.dup, 1) := by decide +kernel
theorem dX7_skip_12 : decode cX7_skip 12 = .ok (.getfield 35, 3) := by decide +kernel
theorem dX7_skip_15 : decode cX7_skip 15 = .ok (.iconst 1, 1) := by decide +kernel
theorem dX7_skip_16 : decode cX7_skip 16 = .ok (.iadd, 1) := by decide +kernel
theorem dX7_skip_17 : decode cX7_skip 17 = .ok (.putfield 35, 3) := by decide +kernel
theorem dX7_skip_20 : decode cX7_skip 20 = .ok (.iconst 1, 1) := by decide +kernel
theorem dX7_skip_21 : decode cX7_skip 21 = .ok (.ireturn, 1) := by decide +kernel
theorem dX7_sign_0 : decode cX7_sign 0 = .ok (.aload_n 0, 1) := by decide +kernel
theorem dX7_sign_1 : decode cX7_sign 1 = .ok (.getfield 35, 3) := by decide +kernel
theorem dX7_sign_4 : decode cX7_sign 4 = .ok (.ifCond .lt 35, 3) := by decide +kernel
theorem dX7_sign_7 : decode cX7_sign 7 = .ok (.aload_n 0, 1) := by decide +kernel
theorem dX7_sign_8 : decode cX7_sign 8 = .ok (.getfield 35, 3) := by decide +kernel
theorem dX7_sign_11 : decode cX7_sign 11 = .ok (.aload_n 0, 1) := by decide +kernel
theorem dX7_sign_12 : decode cX7_sign 12 = .ok (.getfield 15, 3) := by decide +kernel
theorem dX7_sign_15 : decode cX7_sign 15 = .ok (.if_icmp .ge 24, 3) := by decide +kernel
theorem dX7_sign_18 : decode cX7_sign 18 = .ok (.aload_n 0, 1) := by decide +kernel
theorem dX7_sign_19 : decode cX7_sign 19 = .ok (.getfield 35, 3) := by decide +kernel
theorem dX7_sign_22 : decode cX7_sign 22 = .ok (.bipush 100, 2) := by decide +kernel
theorem dX7_sign_24 : decode cX7_sign 24 = .ok (.if_icmp .ge 15, 3) := by decide +kernel
theorem dX7_sign_27 : decode cX7_sign 27 = .ok (.aload_n 0, 1) := by decide +kernel
theorem dX7_sign_28 : decode cX7_sign 28 = .ok (.getfield 9, 3) := by decide +kernel
theorem dX7_sign_31 : decode cX7_sign 31 = .ok (.aload_n 0, 1) := by decide +kernel
theorem dX7_sign_32 : decode cX7_sign 32 = .ok (.getfield 35, 3) := by decide +kernel
theorem dX7_sign_35 : decode cX7_sign 35 = .ok (.baload, 1) := by decide +kernel
theorem dX7_sign_36 : decode cX7_sign 36 = .ok (.goto 4, 3) := by decide +kernel
theorem dX7_sign_39 : decode cX7_sign 39 = .ok (.iconst (-1), 1) := by decide +kernel
theorem dX7_sign_40 : decode cX7_sign 40 = .ok (.ireturn, 1) := by decide +kernel
theorem dJ9_max_7cf53_0 : decode cJ9_max_7cf53 0 = .ok (.iload_n 0, 1) := by decide +kernel
theorem dJ9_max_7cf53_1 : decode cJ9_max_7cf53 1 = .ok (.iload_n 1, 1) := by decide +kernel
theorem dJ9_max_7cf53_2 : decode cJ9_max_7cf53 2 = .ok (.if_icmp .lt 7, 3) := by decide +kernel
theorem dJ9_max_7cf53_5 : decode cJ9_max_7cf53 5 = .ok (.iload_n 0, 1) := by decide +kernel
theorem dJ9_max_7cf53_6 : decode cJ9_max_7cf53 6 = .ok (.goto 4, 3) := by decide +kernel
theorem dJ9_max_7cf53_9 : decode cJ9_max_7cf53 9 = .ok (.iload_n 1, 1) := by decide +kernel
theorem dJ9_max_7cf53_10 : decode cJ9_max_7cf53 10 = .ok (.ireturn, 1) := by decide +kernel
theorem dJ9_min_7cf53_0 : decode cJ9_min_7cf53 0 = .ok (.iload_n 0, 1) := by decide +kernel
theorem dJ9_min_7cf53_1 : decode cJ9_min_7cf53 1 = .ok (.iload_n 1, 1) := by decide +kernel
theorem dJ9_min_7cf53_2 : decode cJ9_min_7cf53 2 = .ok (.if_icmp .gt 7, 3) := by decide +kernel
theorem dJ9_min_7cf53_5 : decode cJ9_min_7cf53 5 = .ok (.iload_n 0, 1) := by decide +kernel
theorem dJ9_min_7cf53_6 : decode cJ9_min_7cf53 6 = .ok (.goto 4, 3) := by decide +kernel
theorem dJ9_min_7cf53_9 : decode cJ9_min_7cf53 9 = .ok (.iload_n 1, 1) := by decide +kernel
theorem dJ9_min_7cf53_10 : decode cJ9_min_7cf53 10 = .ok (.ireturn, 1) := by decide +kernel
theorem dJ7_fill_d0a16_0 : decode cJ7_fill_d0a16 0 = .ok (.iconst 0, 1) := by decide +kernel
theorem dJ7_fill_d0a16_1 : decode cJ7_fill_d0a16 1 = .ok (.istore_n 3, 1) := by decide +kernel
theorem dJ7_fill_d0a16_2 : decode cJ7_fill_d0a16 2 = .ok (.aload_n 0, 1) := by decide +kernel
theorem dJ7_fill_d0a16_3 : decode cJ7_fill_d0a16 3 = .ok (.arraylength, 1) := by decide +kernel
theorem dJ7_fill_d0a16_4 : decode cJ7_fill_d0a16 4 = .ok (.istore 4, 2) := by decide +kernel
theorem dJ7_fill_d0a16_6 : decode cJ7_fill_d0a16 6 = .ok (.iload_n 3, 1) := by decide +kernel
theorem dJ7_fill_d0a16_7 : decode cJ7_fill_d0a16 7 = .ok (.iload 4, 2) := by decide +kernel
theorem dJ7_fill_d0a16_9 : decode cJ7_fill_d0a16 9 = .ok (.if_icmp .ge 13, 3) := by decide +kernel
theorem dJ7_fill_d0a16_12 : decode cJ7_fill_d0a16 12 = .ok (.aload_n 0, 1) := by decide +kernel
theorem dJ7_fill_d0a16_13 : decode cJ7_fill_d0a16 13 = .ok (.iload_n 3, 1) := by decide +kernel
theorem dJ7_fill_d0a16_14 : decode cJ7_fill_d0a16 14 = .ok (.lload_n 1, 1) := by decide +kernel
theorem dJ7_fill_d0a16_15 : decode cJ7_fill_d0a16 15 = .ok (.lastore, 1) := by decide +kernel
theorem dJ7_fill_d0a16_16 : decode cJ7_fill_d0a16 16 = .ok (.iinc 3 1, 3) := by decide +kernel
theorem dJ7_fill_d0a16_19 : decode cJ7_fill_d0a16 19 = .ok (.goto (-13), 3) := by decide +kernel
theorem dJ7_fill_d0a16_22 : decode cJ7_fill_d0a16 22 = .ok (.return_, 1) := by decide +kernel
