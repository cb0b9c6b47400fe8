/-! decode rows, as the printed names have them -/
theorem dX9_isDone_91 : decode cX9_isDone 91 = .ok (.aload_n 0, 1) := by decide +kernel
theorem dX9_isDone_92 : decode cX9_isDone 92 = .ok (.getfield 98, 3) := by decide +kernel
theorem dX9_isDone_95 : decode cX9_isDone 95 = .ok (.iload_n 1, 1) := by decide +kernel
theorem dX9_isDone_96 : decode cX9_isDone 96 = .ok (.iaload, 1) := by decide +kernel
theorem dX9_isDone_97 : decode cX9_isDone 97 = .ok (.invokevirtual 316, 3) := by decide +kernel
theorem dX9_isDone_100 : decode cX9_isDone 100 = .ok (.ifCond .lt 7, 3) := by decide +kernel
theorem dX9_isDone_103 : decode cX9_isDone 103 = .ok (.iconst 1, 1) := by decide +kernel
theorem dX9_isDone_104 : decode cX9_isDone 104 = .ok (.goto 4, 3) := by decide +kernel
theorem dX9_isDone_107 : decode cX9_isDone 107 = .ok (.iconst 0, 1) := by decide +kernel
theorem dX9_isDone_108 : decode cX9_isDone 108 = .ok (.ireturn, 1) := by decide +kernel
theorem dX9_isDone_109 : decode cX9_isDone 109 = .ok (.aload_n 0, 1) := by decide +kernel
theorem dX9_isDone_110 : decode cX9_isDone 110 = .ok (.aload_n 0, 1) := by decide +kernel
theorem dX9_isDone_111 : decode cX9_isDone 111 = .ok (.getfield 95, 3) := by decide +kernel
theorem dX9_isDone_114 : decode cX9_isDone 114 = .ok (.iload_n 1, 1) := by decide +kernel
theorem dX9_isDone_115 : decode cX9_isDone 115 = .ok (.iaload, 1) := by decide +kernel
theorem dX9_isDone_116 : decode cX9_isDone 116 = .ok (.bipush 108, 2) := by decide +kernel
theorem dX9_isDone_118 : decode cX9_isDone 118 = .ok (.if_icmp .ne 7, 3) := by decide +kernel
theorem dX9_isDone_121 : decode cX9_isDone 121 = .ok (.iconst 0, 1) := by decide +kernel
theorem dX9_isDone_122 : decode cX9_isDone 122 = .ok (.goto 4, 3) := by decide +kernel
theorem dX9_isDone_125 : decode cX9_isDone 125 = .ok (.iconst 1, 1) := by decide +kernel
theorem dX9_isDone_126 : decode cX9_isDone 126 = .ok (.aload_n 0, 1) := by decide +kernel
theorem dX9_isDone_127 : decode cX9_isDone 127 = .ok (.getfield 98, 3) := by decide +kernel
theorem dX9_isDone_130 : decode cX9_isDone 130 = .ok (.iload_n 1, 1) := by decide +kernel
theorem dX9_isDone_131 : decode cX9_isDone 131 = .ok (.iaload, 1) := by decide +kernel
theorem dX9_isDone_132 : decode cX9_isDone 132 = .ok (.invokevirtual 319, 3) := by decide +kernel
theorem dX9_isDone_135 : decode cX9_isDone 135 = .ok (.istore_n 2, 1) := by decide +kernel
theorem dX9_isDone_136 : decode cX9_isDone 136 = .ok (.iload_n 2, 1) := by decide +kernel
theorem dX9_isDone_137 : decode cX9_isDone 137 = .ok (.ifCond .ge 9, 3) := by decide +kernel
theorem dX9_isDone_140 : decode cX9_isDone 140 = .ok (.iload_n 2, 1) := by decide +kernel
theorem dX9_isDone_141 : decode cX9_isDone 141 = .ok (.bipush (-5), 2) := by decide +kernel
theorem dX9_isDone_143 : decode cX9_isDone 143 = .ok (.if_icmp .ne 7, 3) := by decide +kernel
theorem dX9_isDone_146 : decode cX9_isDone 146 = .ok (.iconst 1, 1) := by decide +kernel
theorem dX9_isDone_147 : decode cX9_isDone 147 = .ok (.goto 4, 3) := by decide +kernel
theorem dX9_isDone_150 : decode cX9_isDone 150 = .ok (.iconst 0, 1) := by decide +kernel
theorem dX9_isDone_151 : decode cX9_isDone 151 = .ok (.ireturn, 1) := by decide +kernel
theorem dX9_read_0 : decode cX9_read 0 = .ok (.aload_n 0, 1) := by decide +kernel
theorem dX9_read_1 : decode cX9_read 1 = .ok (.iconst 0, 1) := by decide +kernel
theorem dX9_read_2 : decode cX9_read 2 = .ok (.putfield 297, 3) := by decide +kernel
theorem dX9_read_5 : decode cX9_read 5 = .ok (.iconst 0, 1) := by decide +kernel
theorem dX9_read_6 : decode cX9_read 6 = .ok (.istore_n 1, 1) := by decide +kernel
theorem dX9_read_7 : decode cX9_read 7 = .ok (.iconst 1, 1) := by decide +kernel
theorem dX9_read_8 : decode cX9_read 8 = .ok (.istore_n 2, 1) := by decide +kernel
theorem dX9_read_9 : decode cX9_read 9 = .ok (.iconst 1, 1) := by decide +kernel
theorem dX9_read_10 : decode cX9_read 10 = .ok (.istore_n 3, 1) := by decide +kernel
theorem dX9_read_11 : decode cX9_read 11 = .ok (.iload_n 2, 1) := by decide +kernel
theorem dX9_read_12 : decode cX9_read 12 = .ok (.ifCond .eq 53, 3) := by decide +kernel
theorem dX9_read_15 : decode cX9_read 15 = .ok (.iload_n 3, 1) := by decide +kernel
theorem dX9_read_16 : decode cX9_read 16 = .ok (.ifCond .eq 49, 3) := by decide +kernel
theorem dX9_read_19 : decode cX9_read 19 = .ok (.aload_n 0, 1) := by decide +kernel
theorem dX9_read_20 : decode cX9_read 20 = .ok (.iload_n 1, 1) := by decide +kernel
theorem dX9_read_21 : decode cX9_read 21 = .ok (.invokevirtual 323, 3) := by decide +kernel
theorem dX9_read_24 : decode cX9_read 24 = .ok (.istore_n 3, 1) := by decide +kernel
theorem dX9_read_25 : decode cX9_read 25 = .ok (.iload_n 1, 1) := by decide +kernel
theorem dX9_read_26 : decode cX9_read 26 = .ok (.iload_n 3, 1) := by decide +kernel
theorem dX9_read_27 : decode cX9_read 27 = .ok (.ifCond .eq 7, 3) := by decide +kernel
theorem dX9_read_30 : decode cX9_read 30 = .ok (.iconst 1, 1) := by decide +kernel
theorem dX9_read_31 : decode cX9_read 31 = .ok (.goto 4, 3) := by decide +kernel
theorem dX9_read_34 : decode cX9_read 34 = .ok (.iconst 0, 1) := by decide +kernel
theorem dX9_read_35 : decode cX9_read 35 = .ok (.iadd, 1) := by decide +kernel
theorem dX9_read_36 : decode cX9_read 36 = .ok (.istore_n 1, 1) := by decide +kernel
theorem dX9_read_37 : decode cX9_read 37 = .ok (.iload_n 3, 1) := by decide +kernel
theorem dX9_read_38 : decode cX9_read 38 = .ok (.ifCond .eq 22, 3) := by decide +kernel
theorem dX9_read_41 : decode cX9_read 41 = .ok (.iload_n 1, 1) := by decide +kernel
theorem dX9_read_42 : decode cX9_read 42 = .ok (.bipush 12, 2) := by decide +kernel
theorem dX9_read_44 : decode cX9_read 44 = .ok (.if_icmp .ge 16, 3) := by decide +kernel
theorem dX9_read_47 : decode cX9_read 47 = .ok (.aload_n 0, 1) := by decide +kernel
theorem dX9_read_48 : decode cX9_read 48 = .ok (.bipush 59, 2) := by decide +kernel
theorem dX9_read_50 : decode cX9_read 50 = .ok (.invokevirtual 304, 3) := by decide +kernel
theorem dX9_read_53 : decode cX9_read 53 = .ok (.ifCond .eq 7, 3) := by decide +kernel
theorem dX9_read_56 : decode cX9_read 56 = .ok (.iconst 1, 1) := by decide +kernel
theorem dX9_read_57 : decode cX9_read 57 = .ok (.goto 4, 3) := by decide +kernel
theorem dX9_read_60 : decode cX9_read 60 = .ok (.iconst 0, 1) := by decide +kernel
theorem dX9_read_61 : decode cX9_read 61 = .ok (.istore_n 2, 1) := by decide +kernel
theorem dX9_read_62 : decode cX9_read 62 = .ok (.goto (-51), 3) := by decide +kernel
theorem dX9_read_65 : decode cX9_read 65 = .ok (.iload_n 3, 1) := by decide +kernel
theorem dX9_read_66 : decode cX9_read 66 = .ok (.ifCond .eq 18, 3) := by decide +kernel
theorem dX9_read_69 : decode cX9_read 69 = .ok (.aload_n 0, 1) := by decide +kernel
theorem dX9_read_70 : decode cX9_read 70 = .ok (.getfield 297, 3) := by decide +kernel
theorem dX9_read_73 : decode cX9_read 73 = .ok (.aload_n 0, 1) := by decide +kernel
theorem dX9_read_74 : decode cX9_read 74 = .ok (.getfield 294, 3) := by decide +kernel
theorem dX9_read_77 : decode cX9_read 77 = .ok (.if_icmp .ne 7, 3) := by decide +kernel
theorem dX9_read_80 : decode cX9_read 80 = .ok (.iconst 1, 1) := by decide +kernel
theorem dX9_read_81 : decode cX9_read 81 = .ok (.goto 4, 3) := by decide +kernel
theorem dX9_read_84 : decode cX9_read 84 = .ok (.iconst 0, 1) := by decide +kernel
theorem dX9_read_85 : decode cX9_read 85 = .ok (.istore_n 3, 1) := by decide +kernel
theorem dX9_read_86 : decode cX9_read 86 = .ok (.aload_n 0, 1) := by decide +kernel
theorem dX9_read_87 : decode cX9_read 87 = .ok (.iconst 0, 1) := by decide +kernel
theorem dX9_read_88 : decode cX9_read 88 = .ok (.putfield 294, 3) := by decide +kernel
theorem dX9_read_91 : decode cX9_read 91 = .ok (.iload_n 3, 1) := by decide +kernel
theorem dX9_read_92 : decode cX9_read 92 = .ok (.ifCond .ne 11, 3) := by decide +kernel
theorem dX9_read_95 : decode cX9_read 95 = .ok (.bipush (-10), 2) := by decide +kernel
theorem dX9_read_97 : decode cX9_read 97 = .ok (.aload_n 0, 1) := by decide +kernel
theorem dX9_read_98 : decode cX9_read 98 = .ok (.getfield 297, 3) := by decide +kernel
theorem dX9_read_101 : decode cX9_read 101 = .ok (.isub, 1) := by decide +kernel
theorem dX9_read_102 : decode cX9_read 102 = .ok (.ireturn, 1) := by decide +kernel
theorem dX9_read_103 : decode cX9_read 103 = .ok (.iconst 0, 1) := by decide +kernel
theorem dX9_read_104 : decode cX9_read 104 = .ok (.istore 4, 2) := by decide +kernel
theorem dX9_read_106 : decode cX9_read 106 = .ok (.iconst 0, 1) := by decide +kernel
theorem dX9_read_107 : decode cX9_read 107 = .ok (.istore 5, 2) := by decide +kernel
theorem dX9_read_109 : decode cX9_read 109 = .ok (.iload 5, 2) := by decide +kernel
theorem dX9_read_111 : decode cX9_read 111 = .ok (.iload_n 1, 1) := by decide +kernel
theorem dX9_read_112 : decode cX9_read 112 = .ok (.if_icmp .ge 28, 3) := by decide +kernel
theorem dX9_read_115 : decode cX9_read 115 = .ok (.iload 4, 2) := by decide +kernel
theorem dX9_read_117 : decode cX9_read 117 = .ok (.aload_n 0, 1) := by decide +kernel
theorem dX9_read_118 : decode cX9_read 118 = .ok (.iload 5, 2) := by decide +kernel
theorem dX9_read_120 : decode cX9_read 120 = .ok (.invokevirtual 326, 3) := by decide +kernel
theorem dX9_read_123 : decode cX9_read 123 = .ok (.ifCond .eq 7, 3) := by decide +kernel
theorem dX9_read_126 : decode cX9_read 126 = .ok (.iconst 1, 1) := by decide +kernel
theorem dX9_read_127 : decode cX9_read 127 = .ok (.goto 4, 3) := by decide +kernel
theorem dX9_read_130 : decode cX9_read 130 = .ok (.iconst 0, 1) := by decide +kernel
theorem dX9_read_131 : decode cX9_read 131 = .ok (.iadd, 1) := by decide +kernel
theorem dX9_read_132 : decode cX9_read 132 = .ok (.istore 4, 2) := by decide +kernel
theorem dX9_read_134 : decode cX9_read 134 = .ok (.iinc 5 1, 3) := by decide +kernel
theorem dX9_read_137 : decode cX9_read 137 = .ok (.goto (-28), 3) := by decide +kernel
theorem dX9_read_140 : decode cX9_read 140 = .ok (.iload 4, 2) := by decide +kernel
theorem dX9_read_142 : decode cX9_read 142 = .ok (.ireturn, 1) := by decide +kernel
theorem dX9_isPart_0 : decode cX9_isPart 0 = .ok (.iload_n 0, 1) := by decide +kernel
theorem dX9_isPart_1 : decode cX9_isPart 1 = .ok (.i2l, 1) := by decide +kernel
theorem dX9_isPart_2 : decode cX9_isPart 2 = .ok (.lconst 0, 1) := by decide +kernel
theorem dX9_isPart_3 : decode cX9_isPart 3 = .ok (.lconst 1, 1) := by decide +kernel
theorem dX9_isPart_4 : decode cX9_isPart 4 = .ok (.invokestatic 266, 3) := by decide +kernel
theorem dX9_isPart_7 : decode cX9_isPart 7 = .ok (.ireturn, 1) := by decide +kernel
theorem dX9_of_0 : decode cX9_of 0 = .ok (.aload_n 0, 1) := by decide +kernel
theorem dX9_of_1 : decode cX9_of 1 = .ok (.iload_n 1, 1) := by decide +kernel
theorem dX9_of_2 : decode cX9_of 2 = .ok (.invokevirtual 276, 3) := by decide +kernel
theorem dX9_of_5 : decode cX9_of 5 = .ok (.ifCond .eq 22, 3) := by decide +kernel
theorem dX9_of_8 : decode cX9_of 8 = .ok (.iload_n 2, 1) := by decide +kernel
theorem dX9_of_9 : decode cX9_of 9 = .ok (.i2l, 1) := by decide +kernel
theorem dX9_of_10 : decode cX9_of 10 = .ok (.lconst 0, 1) := by decide +kernel
theorem dX9_of_11 : decode cX9_of 11 = .ok (.ldc2_w 155, 3) := by decide +kernel
theorem dX9_of_14 : decode cX9_of 14 = .ok (.invokestatic 266, 3) := by decide +kernel
theorem dX9_of_17 : decode cX9_of 17 = .ok (.ifCond .eq 10, 3) := by decide +kernel
theorem dX9_of_20 : decode cX9_of 20 = .ok (.iload_n 3, 1) := by decide +kernel
theorem dX9_of_21 : decode cX9_of 21 = .ok (.invokestatic 329, 3) := by decide +kernel
theorem dX9_of_24 : decode cX9_of 24 = .ok (.ifCond .ne 7, 3) := by decide +kernel
theorem dX9_of_27 : decode cX9_of 27 = .ok (.ldc2_w 124, 3) := by decide +kernel
theorem dX9_of_30 : decode cX9_of 30 = .ok (.lreturn, 1) := by decide +kernel
theorem dX9_of_31 : decode cX9_of 31 = .ok (.iload_n 2, 1) := by decide +kernel
theorem dX9_of_32 : decode cX9_of 32 = .ok (.iconst 2, 1) := by decide +kernel
theorem dX9_of_33 : decode cX9_of 33 = .ok (.if_icmp .ne 19, 3) := by decide +kernel
theorem dX9_of_36 : decode cX9_of 36 = .ok (.iload_n 3, 1) := by decide +kernel
theorem dX9_of_37 : decode cX9_of 37 = .ok (.ifCond .ne 13, 3) := by decide +kernel
theorem dX9_of_40 : decode cX9_of 40 = .ok (.aload_n 0, 1) := by decide +kernel
theorem dX9_of_41 : decode cX9_of 41 = .ok (.getfield 21, 3) := by decide +kernel
theorem dX9_of_44 : decode cX9_of 44 = .ok (.iload_n 1, 1) := by decide +kernel
theorem dX9_of_45 : decode cX9_of 45 = .ok (.iaload, 1) := by decide +kernel
theorem dX9_of_46 : decode cX9_of 46 = .ok (.i2l, 1) := by decide +kernel
theorem dX9_of_47 : decode cX9_of 47 = .ok (.goto 4, 3) := by decide +kernel
theorem dX9_of_50 : decode cX9_of 50 = .ok (.lconst 1, 1) := by decide +kernel
theorem dX9_of_51 : decode cX9_of 51 = .ok (.lreturn, 1) := by decide +kernel
theorem dX9_of_52 : decode cX9_of 52 = .ok (.iload_n 2, 1) := by decide +kernel
theorem dX9_of_53 : decode cX9_of 53 = .ok (.ifCond .ne 23, 3) := by decide +kernel
theorem dX9_of_56 : decode cX9_of 56 = .ok (.iload_n 3, 1) := by decide +kernel
theorem dX9_of_57 : decode cX9_of 57 = .ok (.ifCond .ne 12, 3) := by decide +kernel
theorem dX9_of_60 : decode cX9_of 60 = .ok (.aload_n 0, 1) := by decide +kernel
theorem dX9_of_61 : decode cX9_of 61 = .ok (.getfield 25, 3) := by decide +kernel
theorem dX9_of_64 : decode cX9_of 64 = .ok (.iload_n 1, 1) := by decide +kernel
theorem dX9_of_65 : decode cX9_of 65 = .ok (.laload, 1) := by decide +kernel
theorem dX9_of_66 : decode cX9_of 66 = .ok (.goto 9, 3) := by decide +kernel
theorem dX9_of_69 : decode cX9_of 69 = .ok (.aload_n 0, 1) := by decide +kernel
theorem dX9_of_70 : decode cX9_of 70 = .ok (.getfield 29, 3) := by decide +kernel
theorem dX9_of_73 : decode cX9_of 73 = .ok (.iload_n 1, 1) := by decide +kernel
theorem dX9_of_74 : decode cX9_of 74 = .ok (.laload, 1) := by decide +kernel
theorem dX9_of_75 : decode cX9_of 75 = .ok (.lreturn, 1) := by decide +kernel
theorem dX9_of_76 : decode cX9_of 76 = .ok (.iload_n 3, 1) := by decide +kernel
theorem dX9_of_77 : decode cX9_of 77 = .ok (.ifCond .ne 12, 3) := by decide +kernel
theorem dX9_of_80 : decode cX9_of 80 = .ok (.aload_n 0, 1) := by decide +kernel
theorem dX9_of_81 : decode cX9_of 81 = .ok (.getfield 32, 3) := by decide +kernel
theorem dX9_of_84 : decode cX9_of 84 = .ok (.iload_n 1, 1) := by decide +kernel
theorem dX9_of_85 : decode cX9_of 85 = .ok (.laload, 1) := by decide +kernel
theorem dX9_of_86 : decode cX9_of 86 = .ok (.goto 9, 3) := by decide +kernel
theorem dX9_of_89 : decode cX9_of 89 = .ok (.aload_n 0, 1) := by decide +kernel
theorem dX9_of_90 : decode cX9_of 90 = .ok (.getfield 35, 3) := by decide +kernel
theorem dX9_of_93 : decode cX9_of 93 = .ok (.iload_n 1, 1) := by decide +kernel
theorem dX9_of_94 : decode cX9_of 94 = .ok (.laload, 1) := by decide +kernel
theorem dX9_of_95 : decode cX9_of 95 = .ok (.lreturn, 1) := by decide +kernel
theorem dX9_told_0 : decode cX9_told 0 = .ok (.iload_n 1, 1) := by decide +kernel
theorem dX9_told_1 : decode cX9_told 1 = .ok (.i2l, 1) := by decide +kernel
theorem dX9_told_2 : decode cX9_told 2 = .ok (.lconst 0, 1) := by decide +kernel
theorem dX9_told_3 : decode cX9_told 3 = .ok (.ldc2_w 332, 3) := by decide +kernel
theorem dX9_told_6 : decode cX9_told 6 = .ok (.invokestatic 266, 3) := by decide +kernel
theorem dX9_told_9 : decode cX9_told 9 = .ok (.ifCond .ne 5, 3) := by decide +kernel
theorem dX9_told_12 : decode cX9_told 12 = .ok (.iconst (-1), 1) := by decide +kernel
theorem dX9_told_13 : decode cX9_told 13 = .ok (.ireturn, 1) := by decide +kernel
theorem dX9_told_14 : decode cX9_told 14 = .ok (.iload_n 1, 1) := by decide +kernel
theorem dX9_told_15 : decode cX9_told 15 = .ok (.tableswitch 55 0 3 #[29, 34, 39, 47], 29) := by decide +kernel
theorem dX9_told_44 : decode cX9_told 44 = .ok (.aload_n 0, 1) := by decide +kernel
theorem dX9_told_45 : decode cX9_told 45 = .ok (.getfield 181, 3) := by decide +kernel
theorem dX9_told_48 : decode cX9_told 48 = .ok (.ireturn, 1) := by decide +kernel
theorem dX9_told_49 : decode cX9_told 49 = .ok (.aload_n 0, 1) := by decide +kernel
theorem dX9_told_50 : decode cX9_told 50 = .ok (.getfield 9, 3) := by decide +kernel
theorem dX9_told_53 : decode cX9_told 53 = .ok (.ireturn, 1) := by decide +kernel
theorem dX9_told_54 : decode cX9_told 54 = .ok (.aload_n 0, 1) := by decide +kernel
theorem dX9_told_55 : decode cX9_told 55 = .ok (.getfield 15, 3) := by decide +kernel
theorem dX9_told_58 : decode cX9_told 58 = .ok (.invokestatic 283, 3) := by decide +kernel
theorem dX9_told_61 : decode cX9_told 61 = .ok (.ireturn, 1) := by decide +kernel
theorem dX9_told_62 : decode cX9_told 62 = .ok (.aload_n 0, 1) := by decide +kernel
theorem dX9_told_63 : decode cX9_told 63 = .ok (.getfield 18, 3) := by decide +kernel
theorem dX9_told_66 : decode cX9_told 66 = .ok (.invokestatic 283, 3) := by decide +kernel
theorem dX9_told_69 : decode cX9_told 69 = .ok (.ireturn, 1) := by decide +kernel
theorem dX9_told_70 : decode cX9_told 70 = .ok (.aload_n 0, 1) := by decide +kernel
theorem dX9_told_71 : decode cX9_told 71 = .ok (.invokevirtual 289, 3) := by decide +kernel
theorem dX9_told_74 : decode cX9_told 74 = .ok (.iload_n 1, 1) := by decide +kernel
theorem dX9_told_75 : decode cX9_told 75 = .ok (.iconst 4, 1) := by decide +kernel
theorem dX9_told_76 : decode cX9_told 76 = .ok (.if_icmp .ne 10, 3) := by decide +kernel
theorem dX9_told_79 : decode cX9_told 79 = .ok (.aload_n 0, 1) := by decide +kernel
theorem dX9_told_80 : decode cX9_told 80 = .ok (.getfield 244, 3) := by decide +kernel
theorem dX9_told_83 : decode cX9_told 83 = .ok (.goto 7, 3) := by decide +kernel
theorem dX9_told_86 : decode cX9_told 86 = .ok (.aload_n 0, 1) := by decide +kernel
theorem dX9_told_87 : decode cX9_told 87 = .ok (.getfield 247, 3) := by decide +kernel
theorem dX9_told_90 : decode cX9_told 90 = .ok (.ireturn, 1) := by decide +kernel
theorem dX9_sums_0 : decode cX9_sums 0 = .ok (.lconst 0, 1) := by decide +kernel
theorem dX9_sums_1 : decode cX9_sums 1 = .ok (.lstore_n 2, 1) := by decide +kernel
theorem dX9_sums_2 : decode cX9_sums 2 = .ok (.lconst 1, 1) := by decide +kernel
theorem dX9_sums_3 : decode cX9_sums 3 = .ok (.lstore 4, 2) := by decide +kernel
theorem dX9_sums_5 : decode cX9_sums 5 = .ok (.aload_n 0, 1) := by decide +kernel
theorem dX9_sums_6 : decode cX9_sums 6 = .ok (.iconst 0, 1) := by decide +kernel
theorem dX9_sums_7 : decode cX9_sums 7 = .ok (.putfield 126, 3) := by decide +kernel
theorem dX9_sums_10 : decode cX9_sums 10 = .ok (.iconst 0, 1) := by decide +kernel
theorem dX9_sums_11 : decode cX9_sums 11 = .ok (.istore 6, 2) := by decide +kernel
theorem dX9_sums_13 : decode cX9_sums 13 = .ok (.iload 6, 2) := by decide +kernel
theorem dX9_sums_15 : decode cX9_sums 15 = .ok (.aload_n 0, 1) := by decide +kernel
theorem dX9_sums_16 : decode cX9_sums 16 = .ok (.getfield 181, 3) := by decide +kernel
theorem dX9_sums_19 : decode cX9_sums 19 = .ok (.if_icmp .ge 122, 3) := by decide +kernel
theorem dX9_sums_22 : decode cX9_sums 22 = .ok (.iload_n 1, 1) := by decide +kernel
theorem dX9_sums_23 : decode cX9_sums 23 = .ok (.ifCond .ne 33, 3) := by decide +kernel
theorem dX9_sums_26 : decode cX9_sums 26 = .ok (.aload_n 0, 1) := by decide +kernel
theorem dX9_sums_27 : decode cX9_sums 27 = .ok (.aload_n 0, 1) := by decide +kernel
theorem dX9_sums_28 : decode cX9_sums 28 = .ok (.getfield 65, 3) := by decide +kernel
theorem dX9_sums_31 : decode cX9_sums 31 = .ok (.iload 6, 2) := by decide +kernel
theorem dX9_sums_33 : decode cX9_sums 33 = .ok (.laload, 1) := by decide +kernel
theorem dX9_sums_34 : decode cX9_sums 34 = .ok (.aload_n 0, 1) := by decide +kernel
theorem dX9_sums_35 : decode cX9_sums 35 = .ok (.getfield 68, 3) := by decide +kernel
theorem dX9_sums_38 : decode cX9_sums 38 = .ok (.iload 6, 2) := by decide +kernel
theorem dX9_sums_40 : decode cX9_sums 40 = .ok (.laload, 1) := by decide +kernel
theorem dX9_sums_41 : decode cX9_sums 41 = .ok (.aload_n 0, 1) := by decide +kernel
theorem dX9_sums_42 : decode cX9_sums 42 = .ok (.getfield 56, 3) := by decide +kernel
theorem dX9_sums_45 : decode cX9_sums 45 = .ok (.iload 6, 2) := by decide +kernel
theorem dX9_sums_47 : decode cX9_sums 47 = .ok (.iaload, 1) := by decide +kernel
theorem dX9_sums_48 : decode cX9_sums 48 = .ok (.i2l, 1) := by decide +kernel
theorem dX9_sums_49 : decode cX9_sums 49 = .ok (.lconst 1, 1) := by decide +kernel
theorem dX9_sums_50 : decode cX9_sums 50 = .ok (.invokevirtual 208, 3) := by decide +kernel
theorem dX9_sums_53 : decode cX9_sums 53 = .ok (.goto 56, 3) := by decide +kernel
theorem dX9_sums_56 : decode cX9_sums 56 = .ok (.aload_n 0, 1) := by decide +kernel
theorem dX9_sums_57 : decode cX9_sums 57 = .ok (.aload_n 0, 1) := by decide +kernel
theorem dX9_sums_58 : decode cX9_sums 58 = .ok (.getfield 65, 3) := by decide +kernel
theorem dX9_sums_61 : decode cX9_sums 61 = .ok (.iload 6, 2) := by decide +kernel
theorem dX9_sums_63 : decode cX9_sums 63 = .ok (.laload, 1) := by decide +kernel
theorem dX9_sums_64 : decode cX9_sums 64 = .ok (.aload_n 0, 1) := by decide +kernel
theorem dX9_sums_65 : decode cX9_sums 65 = .ok (.getfield 68, 3) := by decide +kernel
theorem dX9_sums_68 : decode cX9_sums 68 = .ok (.iload 6, 2) := by decide +kernel
theorem dX9_sums_70 : decode cX9_sums 70 = .ok (.laload, 1) := by decide +kernel
theorem dX9_sums_71 : decode cX9_sums 71 = .ok (.aload_n 0, 1) := by decide +kernel
theorem dX9_sums_72 : decode cX9_sums 72 = .ok (.getfield 65, 3) := by decide +kernel
theorem dX9_sums_75 : decode cX9_sums 75 = .ok (.iload 6, 2) := by decide +kernel
theorem dX9_sums_77 : decode cX9_sums 77 = .ok (.laload, 1) := by decide +kernel
theorem dX9_sums_78 : decode cX9_sums 78 = .ok (.aload_n 0, 1) := by decide +kernel
theorem dX9_sums_79 : decode cX9_sums 79 = .ok (.getfield 68, 3) := by decide +kernel
theorem dX9_sums_82 : decode cX9_sums 82 = .ok (.iload 6, 2) := by decide +kernel
theorem dX9_sums_84 : decode cX9_sums 84 = .ok (.laload, 1) := by decide +kernel
theorem dX9_sums_85 : decode cX9_sums 85 = .ok (.invokevirtual 208, 3) := by decide +kernel
theorem dX9_sums_88 : decode cX9_sums 88 = .ok (.aload_n 0, 1) := by decide +kernel
theorem dX9_sums_89 : decode cX9_sums 89 = .ok (.aload_n 0, 1) := by decide +kernel
theorem dX9_sums_90 : decode cX9_sums 90 = .ok (.getfield 130, 3) := by decide +kernel
theorem dX9_sums_93 : decode cX9_sums 93 = .ok (.aload_n 0, 1) := by decide +kernel
theorem dX9_sums_94 : decode cX9_sums 94 = .ok (.getfield 134, 3) := by decide +kernel
theorem dX9_sums_97 : decode cX9_sums 97 = .ok (.aload_n 0, 1) := by decide +kernel
theorem dX9_sums_98 : decode cX9_sums 98 = .ok (.getfield 56, 3) := by decide +kernel
theorem dX9_sums_101 : decode cX9_sums 101 = .ok (.iload 6, 2) := by decide +kernel
theorem dX9_sums_103 : decode cX9_sums 103 = .ok (.iaload, 1) := by decide +kernel
theorem dX9_sums_104 : decode cX9_sums 104 = .ok (.i2l, 1) := by decide +kernel
theorem dX9_sums_105 : decode cX9_sums 105 = .ok (.lconst 1, 1) := by decide +kernel
theorem dX9_sums_106 : decode cX9_sums 106 = .ok (.invokevirtual 208, 3) := by decide +kernel
theorem dX9_sums_109 : decode cX9_sums 109 = .ok (.aload_n 0, 1) := by decide +kernel
theorem dX9_sums_110 : decode cX9_sums 110 = .ok (.lload_n 2, 1) := by decide +kernel
theorem dX9_sums_111 : decode cX9_sums 111 = .ok (.lload 4, 2) := by decide +kernel
theorem dX9_sums_113 : decode cX9_sums 113 = .ok (.aload_n 0, 1) := by decide +kernel
theorem dX9_sums_114 : decode cX9_sums 114 = .ok (.getfield 130, 3) := by decide +kernel
theorem dX9_sums_117 : decode cX9_sums 117 = .ok (.aload_n 0, 1) := by decide +kernel
theorem dX9_sums_118 : decode cX9_sums 118 = .ok (.getfield 134, 3) := by decide +kernel
theorem dX9_sums_121 : decode cX9_sums 121 = .ok (.invokevirtual 199, 3) := by decide +kernel
theorem dX9_sums_124 : decode cX9_sums 124 = .ok (.aload_n 0, 1) := by decide +kernel
theorem dX9_sums_125 : decode cX9_sums 125 = .ok (.getfield 130, 3) := by decide +kernel
theorem dX9_sums_128 : decode cX9_sums 128 = .ok (.lstore_n 2, 1) := by decide +kernel
theorem dX9_sums_129 : decode cX9_sums 129 = .ok (.aload_n 0, 1) := by decide +kernel
theorem dX9_sums_130 : decode cX9_sums 130 = .ok (.getfield 134, 3) := by decide +kernel
theorem dX9_sums_133 : decode cX9_sums 133 = .ok (.lstore 4, 2) := by decide +kernel
theorem dX9_sums_135 : decode cX9_sums 135 = .ok (.iinc 6 1, 3) := by decide +kernel
theorem dX9_sums_138 : decode cX9_sums 138 = .ok (.goto (-125), 3) := by decide +kernel
theorem dX9_sums_141 : decode cX9_sums 141 = .ok (.aload_n 0, 1) := by decide +kernel
theorem dX9_sums_142 : decode cX9_sums 142 = .ok (.lload_n 2, 1) := by decide +kernel
theorem dX9_sums_143 : decode cX9_sums 143 = .ok (.putfield 130, 3) := by decide +kernel
theorem dX9_sums_146 : decode cX9_sums 146 = .ok (.aload_n 0, 1) := by decide +kernel
theorem dX9_sums_147 : decode cX9_sums 147 = .ok (.lload 4, 2) := by decide +kernel
theorem dX9_sums_149 : decode cX9_sums 149 = .ok (.putfield 134, 3) := by decide +kernel
theorem dX9_sums_152 : decode cX9_sums 152 = .ok (.aload_n 0, 1) := by decide +kernel
theorem dX9_sums_153 : decode cX9_sums 153 = .ok (.getfield 126, 3) := by decide +kernel
theorem dX9_sums_156 : decode cX9_sums 156 = .ok (.ifCond .ne 7, 3) := by decide +kernel
theorem dX9_sums_159 : decode cX9_sums 159 = .ok (.iconst 1, 1) := by decide +kernel
theorem dX9_sums_160 : decode cX9_sums 160 = .ok (.goto 4, 3) := by decide +kernel
theorem dX9_sums_163 : decode cX9_sums 163 = .ok (.iconst 0, 1) := by decide +kernel
theorem dX9_sums_164 : decode cX9_sums 164 = .ok (.istore 6, 2) := by decide +kernel
theorem dX9_sums_166 : decode cX9_sums 166 = .ok (.aload_n 0, 1) := by decide +kernel
theorem dX9_sums_167 : decode cX9_sums 167 = .ok (.iconst 0, 1) := by decide +kernel
theorem dX9_sums_168 : decode cX9_sums 168 = .ok (.putfield 126, 3) := by decide +kernel
theorem dX9_sums_171 : decode cX9_sums 171 = .ok (.iload 6, 2) := by decide +kernel
theorem dX9_sums_173 : decode cX9_sums 173 = .ok (.ireturn, 1) := by decide +kernel
theorem dX9_push_0 : decode cX9_push 0 = .ok (.iload_n 1, 1) := by decide +kernel
theorem dX9_push_1 : decode cX9_push 1 = .ok (.i2l, 1) := by decide +kernel
theorem dX9_push_2 : decode cX9_push 2 = .ok (.lconst 0, 1) := by decide +kernel
theorem dX9_push_3 : decode cX9_push 3 = .ok (.lconst 1, 1) := by decide +kernel
theorem dX9_push_4 : decode cX9_push 4 = .ok (.invokestatic 266, 3) := by decide +kernel
theorem dX9_push_7 : decode cX9_push 7 = .ok (.ifCond .eq 10, 3) := by decide +kernel
theorem dX9_push_10 : decode cX9_push 10 = .ok (.iload_n 2, 1) := by decide +kernel
theorem dX9_push_11 : decode cX9_push 11 = .ok (.invokestatic 329, 3) := by decide +kernel
theorem dX9_push_14 : decode cX9_push 14 = .ok (.ifCond .ne 7, 3) := by decide +kernel
theorem dX9_push_17 : decode cX9_push 17 = .ok (.ldc2_w 124, 3) := by decide +kernel
theorem dX9_push_20 : decode cX9_push 20 = .ok (.lreturn, 1) := by decide +kernel
theorem dX9_push_21 : decode cX9_push 21 = .ok (.aload_n 0, 1) := by decide +kernel
theorem dX9_push_22 : decode cX9_push 22 = .ok (.invokevirtual 260, 3) := by decide +kernel
theorem dX9_push_25 : decode cX9_push 25 = .ok (.aload_n 0, 1) := by decide +kernel
theorem dX9_push_26 : decode cX9_push 26 = .ok (.iload_n 1, 1) := by decide +kernel
theorem dX9_push_27 : decode cX9_push 27 = .ok (.invokevirtual 334, 3) := by decide +kernel
theorem dX9_push_30 : decode cX9_push 30 = .ok (.ifCond .eq 21, 3) := by decide +kernel
theorem dX9_push_33 : decode cX9_push 33 = .ok (.iload_n 2, 1) := by decide +kernel
theorem dX9_push_34 : decode cX9_push 34 = .ok (.ifCond .ne 10, 3) := by decide +kernel
theorem dX9_push_37 : decode cX9_push 37 = .ok (.aload_n 0, 1) := by decide +kernel
theorem dX9_push_38 : decode cX9_push 38 = .ok (.getfield 130, 3) := by decide +kernel
theorem dX9_push_41 : decode cX9_push 41 = .ok (.goto 13, 3) := by decide +kernel
theorem dX9_push_44 : decode cX9_push 44 = .ok (.aload_n 0, 1) := by decide +kernel
theorem dX9_push_45 : decode cX9_push 45 = .ok (.getfield 134, 3) := by decide +kernel
theorem dX9_push_48 : decode cX9_push 48 = .ok (.goto 6, 3) := by decide +kernel
theorem dX9_push_51 : decode cX9_push 51 = .ok (.ldc2_w 124, 3) := by decide +kernel
theorem dX9_push_54 : decode cX9_push 54 = .ok (.lreturn, 1) := by decide +kernel
theorem dX9_where_0 : decode cX9_where 0 = .ok (.iload_n 1, 1) := by decide +kernel
theorem dX9_where_1 : decode cX9_where 1 = .ok (.ifCond .ge 5, 3) := by decide +kernel
theorem dX9_where_4 : decode cX9_where 4 = .ok (.iconst (-1), 1) := by decide +kernel
theorem dX9_where_5 : decode cX9_where 5 = .ok (.ireturn, 1) := by decide +kernel
theorem dX9_where_6 : decode cX9_where 6 = .ok (.aload_n 0, 1) := by decide +kernel
theorem dX9_where_7 : decode cX9_where 7 = .ok (.invokevirtual 289, 3) := by decide +kernel
theorem dX9_where_10 : decode cX9_where 10 = .ok (.iload_n 1, 1) := by decide +kernel
theorem dX9_where_11 : decode cX9_where 11 = .ok (.aload_n 0, 1) := by decide +kernel
theorem dX9_where_12 : decode cX9_where 12 = .ok (.getfield 244, 3) := by decide +kernel
theorem dX9_where_15 : decode cX9_where 15 = .ok (.if_icmp .ge 12, 3) := by decide +kernel
theorem dX9_where_18 : decode cX9_where 18 = .ok (.aload_n 0, 1) := by decide +kernel
theorem dX9_where_19 : decode cX9_where 19 = .ok (.getfield 77, 3) := by decide +kernel
theorem dX9_where_22 : decode cX9_where 22 = .ok (.iload_n 1, 1) := by decide +kernel
theorem dX9_where_23 : decode cX9_where 23 = .ok (.iaload, 1) := by decide +kernel
theorem dX9_where_24 : decode cX9_where 24 = .ok (.goto 5, 3) := by decide +kernel
theorem dX9_where_27 : decode cX9_where 27 = .ok (.bipush (-5), 2) := by decide +kernel
theorem dX9_where_29 : decode cX9_where 29 = .ok (.ireturn, 1) := by decide +kernel
theorem dX9_time_0 : decode cX9_time 0 = .ok (.iload_n 1, 1) := by decide +kernel
theorem dX9_time_1 : decode cX9_time 1 = .ok (.ifCond .lt 10, 3) := by decide +kernel
theorem dX9_time_4 : decode cX9_time 4 = .ok (.iload_n 2, 1) := by decide +kernel
theorem dX9_time_5 : decode cX9_time 5 = .ok (.invokestatic 329, 3) := by decide +kernel
theorem dX9_time_8 : decode cX9_time 8 = .ok (.ifCond .ne 7, 3) := by decide +kernel
theorem dX9_time_11 : decode cX9_time 11 = .ok (.ldc2_w 124, 3) := by decide +kernel
theorem dX9_time_14 : decode cX9_time 14 = .ok (.lreturn, 1) := by decide +kernel
theorem dX9_time_15 : decode cX9_time 15 = .ok (.aload_n 0, 1) := by decide +kernel
theorem dX9_time_16 : decode cX9_time 16 = .ok (.invokevirtual 289, 3) := by decide +kernel
theorem dX9_time_19 : decode cX9_time 19 = .ok (.iload_n 1, 1) := by decide +kernel
theorem dX9_time_20 : decode cX9_time 20 = .ok (.aload_n 0, 1) := by decide +kernel
theorem dX9_time_21 : decode cX9_time 21 = .ok (.getfield 244, 3) := by decide +kernel
theorem dX9_time_24 : decode cX9_time 24 = .ok (.if_icmp .ge 25, 3) := by decide +kernel
theorem dX9_time_27 : decode cX9_time 27 = .ok (.iload_n 2, 1) := by decide +kernel
theorem dX9_time_28 : decode cX9_time 28 = .ok (.ifCond .ne 12, 3) := by decide +kernel
theorem dX9_time_31 : decode cX9_time 31 = .ok (.aload_n 0, 1) := by decide +kernel
theorem dX9_time_32 : decode cX9_time 32 = .ok (.getfield 80, 3) := by decide +kernel
theorem dX9_time_35 : decode cX9_time 35 = .ok (.iload_n 1, 1) := by decide +kernel
theorem dX9_time_36 : decode cX9_time 36 = .ok (.laload, 1) := by decide +kernel
theorem dX9_time_37 : decode cX9_time 37 = .ok (.goto 15, 3) := by decide +kernel
theorem dX9_time_40 : decode cX9_time 40 = .ok (.aload_n 0, 1) := by decide +kernel
theorem dX9_time_41 : decode cX9_time 41 = .ok (.getfield 83, 3) := by decide +kernel
theorem dX9_time_44 : decode cX9_time 44 = .ok (.iload_n 1, 1) := by decide +kernel
theorem dX9_time_45 : decode cX9_time 45 = .ok (.laload, 1) := by decide +kernel
theorem dX9_time_46 : decode cX9_time 46 = .ok (.goto 6, 3) := by decide +kernel
theorem dX9_time_49 : decode cX9_time 49 = .ok (.ldc2_w 124, 3) := by decide +kernel
theorem dX9_time_52 : decode cX9_time 52 = .ok (.lreturn, 1) := by decide +kernel
theorem dX9_behind_0 : decode cX9_behind 0 = .ok (.aload_n 0, 1) := by decide +kernel
theorem dX9_behind_1 : decode cX9_behind 1 = .ok (.iload_n 1, 1) := by decide +kernel
theorem dX9_behind_2 : decode cX9_behind 2 = .ok (.invokevirtual 276, 3) := by decide +kernel
theorem dX9_behind_5 : decode cX9_behind 5 = .ok (.ifCond .eq 26, 3) := by decide +kernel
theorem dX9_behind_8 : decode cX9_behind 8 = .ok (.iload_n 2, 1) := by decide +kernel
theorem dX9_behind_9 : decode cX9_behind 9 = .ok (.iconst (-1), 1) := by decide +kernel
theorem dX9_behind_10 : decode cX9_behind 10 = .ok (.if_icmp .lt 21, 3) := by decide +kernel
theorem dX9_behind_13 : decode cX9_behind 13 = .ok (.iload_n 3, 1) := by decide +kernel
theorem dX9_behind_14 : decode cX9_behind 14 = .ok (.i2l, 1) := by decide +kernel
theorem dX9_behind_15 : decode cX9_behind 15 = .ok (.lconst 0, 1) := by decide +kernel
theorem dX9_behind_16 : decode cX9_behind 16 = .ok (.lconst 1, 1) := by decide +kernel
theorem dX9_behind_17 : decode cX9_behind 17 = .ok (.invokestatic 266, 3) := by decide +kernel
theorem dX9_behind_20 : decode cX9_behind 20 = .ok (.ifCond .eq 11, 3) := by decide +kernel
theorem dX9_behind_23 : decode cX9_behind 23 = .ok (.iload 4, 2) := by decide +kernel
theorem dX9_behind_25 : decode cX9_behind 25 = .ok (.invokestatic 329, 3) := by decide +kernel
theorem dX9_behind_28 : decode cX9_behind 28 = .ok (.ifCond .ne 7, 3) := by decide +kernel
theorem dX9_behind_31 : decode cX9_behind 31 = .ok (.ldc2_w 124, 3) := by decide +kernel
theorem dX9_behind_34 : decode cX9_behind 34 = .ok (.lreturn, 1) := by decide +kernel
theorem dX9_behind_35 : decode cX9_behind 35 = .ok (.aload_n 0, 1) := by decide +kernel
theorem dX9_behind_36 : decode cX9_behind 36 = .ok (.invokevirtual 289, 3) := by decide +kernel
theorem dX9_behind_39 : decode cX9_behind 39 = .ok (.iload_n 2, 1) := by decide +kernel
theorem dX9_behind_40 : decode cX9_behind 40 = .ok (.aload_n 0, 1) := by decide +kernel
theorem dX9_behind_41 : decode cX9_behind 41 = .ok (.getfield 244, 3) := by decide +kernel
theorem dX9_behind_44 : decode cX9_behind 44 = .ok (.if_icmp .lt 7, 3) := by decide +kernel
theorem dX9_behind_47 : decode cX9_behind 47 = .ok (.ldc2_w 124, 3) := by decide +kernel
theorem dX9_behind_50 : decode cX9_behind 50 = .ok (.lreturn, 1) := by decide +kernel
theorem dX9_behind_51 : decode cX9_behind 51 = .ok (.iload_n 2, 1) := by decide +kernel
theorem dX9_behind_52 : decode cX9_behind 52 = .ok (.ifCond .ge 12, 3) := by decide +kernel
theorem dX9_behind_55 : decode cX9_behind 55 = .ok (.aload_n 0, 1) := by decide +kernel
theorem dX9_behind_56 : decode cX9_behind 56 = .ok (.getfield 244, 3) := by decide +kernel
theorem dX9_behind_59 : decode cX9_behind 59 = .ok (.iconst 1, 1) := by decide +kernel
theorem dX9_behind_60 : decode cX9_behind 60 = .ok (.isub, 1) := by decide +kernel
theorem dX9_behind_61 : decode cX9_behind 61 = .ok (.goto 4, 3) := by decide +kernel
theorem dX9_behind_64 : decode cX9_behind 64 = .ok (.iload_n 2, 1) := by decide +kernel
theorem dX9_behind_65 : decode cX9_behind 65 = .ok (.istore 5, 2) := by decide +kernel
theorem dX9_behind_67 : decode cX9_behind 67 = .ok (.iload 5, 2) := by decide +kernel
theorem dX9_behind_69 : decode cX9_behind 69 = .ok (.ifCond .ge 12, 3) := by decide +kernel
theorem dX9_behind_72 : decode cX9_behind 72 = .ok (.aload_n 0, 1) := by decide +kernel
theorem dX9_behind_73 : decode cX9_behind 73 = .ok (.iload_n 1, 1) := by decide +kernel
theorem dX9_behind_74 : decode cX9_behind 74 = .ok (.iload_n 3, 1) := by decide +kernel
theorem dX9_behind_75 : decode cX9_behind 75 = .ok (.iload 4, 2) := by decide +kernel
theorem dX9_behind_77 : decode cX9_behind 77 = .ok (.invokevirtual 337, 3) := by decide +kernel
theorem dX9_behind_80 : decode cX9_behind 80 = .ok (.lreturn, 1) := by decide +kernel
theorem dX9_behind_81 : decode cX9_behind 81 = .ok (.bipush 12, 2) := by decide +kernel
theorem dX9_behind_83 : decode cX9_behind 83 = .ok (.iload 5, 2) := by decide +kernel
theorem dX9_behind_85 : decode cX9_behind 85 = .ok (.imul, 1) := by decide +kernel
theorem dX9_behind_86 : decode cX9_behind 86 = .ok (.bipush 6, 2) := by decide +kernel
theorem dX9_behind_88 : decode cX9_behind 88 = .ok (.iload_n 3, 1) := by decide +kernel
theorem dX9_behind_89 : decode cX9_behind 89 = .ok (.imul, 1) := by decide +kernel
theorem dX9_behind_90 : decode cX9_behind 90 = .ok (.iadd, 1) := by decide +kernel
theorem dX9_behind_91 : decode cX9_behind 91 = .ok (.iload_n 1, 1) := by decide +kernel
theorem dX9_behind_92 : decode cX9_behind 92 = .ok (.iadd, 1) := by decide +kernel
theorem dX9_behind_93 : decode cX9_behind 93 = .ok (.istore 6, 2) := by decide +kernel
theorem dX9_behind_95 : decode cX9_behind 95 = .ok (.iload 4, 2) := by decide +kernel
theorem dX9_behind_97 : decode cX9_behind 97 = .ok (.ifCond .ne 13, 3) := by decide +kernel
theorem dX9_behind_100 : decode cX9_behind 100 = .ok (.aload_n 0, 1) := by decide +kernel
theorem dX9_behind_101 : decode cX9_behind 101 = .ok (.getfield 86, 3) := by decide +kernel
theorem dX9_behind_104 : decode cX9_behind 104 = .ok (.iload 6, 2) := by decide +kernel
theorem dX9_behind_106 : decode cX9_behind 106 = .ok (.laload, 1) := by decide +kernel
theorem dX9_behind_107 : decode cX9_behind 107 = .ok (.goto 10, 3) := by decide +kernel
theorem dX9_behind_110 : decode cX9_behind 110 = .ok (.aload_n 0, 1) := by decide +kernel
theorem dX9_behind_111 : decode cX9_behind 111 = .ok (.getfield 89, 3) := by decide +kernel
theorem dX9_behind_114 : decode cX9_behind 114 = .ok (.iload 6, 2) := by decide +kernel
theorem dX9_behind_116 : decode cX9_behind 116 = .ok (.laload, 1) := by decide +kernel
theorem dX9_behind_117 : decode cX9_behind 117 = .ok (.lreturn, 1) := by decide +kernel
theorem dX9_then_0 : decode cX9_then 0 = .ok (.iload_n 1, 1) := by decide +kernel
theorem dX9_then_1 : decode cX9_then 1 = .ok (.i2l, 1) := by decide +kernel
theorem dX9_then_2 : decode cX9_then 2 = .ok (.lconst 0, 1) := by decide +kernel
theorem dX9_then_3 : decode cX9_then 3 = .ok (.lconst 1, 1) := by decide +kernel
theorem dX9_then_4 : decode cX9_then 4 = .ok (.invokestatic 266, 3) := by decide +kernel
theorem dX9_then_7 : decode cX9_then 7 = .ok (.ifCond .eq 10, 3) := by decide +kernel
theorem dX9_then_10 : decode cX9_then 10 = .ok (.iload_n 2, 1) := by decide +kernel
theorem dX9_then_11 : decode cX9_then 11 = .ok (.invokestatic 329, 3) := by decide +kernel
theorem dX9_then_14 : decode cX9_then 14 = .ok (.ifCond .ne 7, 3) := by decide +kernel
theorem dX9_then_17 : decode cX9_then 17 = .ok (.ldc2_w 124, 3) := by decide +kernel
theorem dX9_then_20 : decode cX9_then 20 = .ok (.lreturn, 1) := by decide +kernel
theorem dX9_then_21 : decode cX9_then 21 = .ok (.aload_n 0, 1) := by decide +kernel
theorem dX9_then_22 : decode cX9_then 22 = .ok (.invokevirtual 289, 3) := by decide +kernel
theorem dX9_then_25 : decode cX9_then 25 = .ok (.aload_n 0, 1) := by decide +kernel
theorem dX9_then_26 : decode cX9_then 26 = .ok (.iload_n 1, 1) := by decide +kernel
theorem dX9_then_27 : decode cX9_then 27 = .ok (.invokevirtual 334, 3) := by decide +kernel
theorem dX9_then_30 : decode cX9_then 30 = .ok (.ifCond .eq 21, 3) := by decide +kernel
theorem dX9_then_33 : decode cX9_then 33 = .ok (.iload_n 2, 1) := by decide +kernel
theorem dX9_then_34 : decode cX9_then 34 = .ok (.ifCond .ne 10, 3) := by decide +kernel
theorem dX9_then_37 : decode cX9_then 37 = .ok (.aload_n 0, 1) := by decide +kernel
theorem dX9_then_38 : decode cX9_then 38 = .ok (.getfield 130, 3) := by decide +kernel
theorem dX9_then_41 : decode cX9_then 41 = .ok (.goto 13, 3) := by decide +kernel
theorem dX9_then_44 : decode cX9_then 44 = .ok (.aload_n 0, 1) := by decide +kernel
theorem dX9_then_45 : decode cX9_then 45 = .ok (.getfield 134, 3) := by decide +kernel
theorem dX9_then_48 : decode cX9_then 48 = .ok (.goto 6, 3) := by decide +kernel
theorem dX9_then_51 : decode cX9_then 51 = .ok (.ldc2_w 124, 3) := by decide +kernel
theorem dX9_then_54 : decode cX9_then 54 = .ok (.lreturn, 1) := by decide +kernel
theorem dX9_isOf_0 : decode cX9_isOf 0 = .ok (.iload_n 0, 1) := by decide +kernel
theorem dX9_isOf_1 : decode cX9_isOf 1 = .ok (.ifCond .ne 15, 3) := by decide +kernel
theorem dX9_isOf_4 : decode cX9_isOf 4 = .ok (.iload_n 1, 1) := by decide +kernel
theorem dX9_isOf_5 : decode cX9_isOf 5 = .ok (.ifCond .ne 7, 3) := by decide +kernel
theorem dX9_isOf_8 : decode cX9_isOf 8 = .ok (.iconst 1, 1) := by decide +kernel
theorem dX9_isOf_9 : decode cX9_isOf 9 = .ok (.goto 43, 3) := by decide +kernel
theorem dX9_isOf_12 : decode cX9_isOf 12 = .ok (.iconst 0, 1) := by decide +kernel
theorem dX9_isOf_13 : decode cX9_isOf 13 = .ok (.goto 39, 3) := by decide +kernel
theorem dX9_isOf_16 : decode cX9_isOf 16 = .ok (.iload_n 0, 1) := by decide +kernel
theorem dX9_isOf_17 : decode cX9_isOf 17 = .ok (.bipush 9, 2) := by decide +kernel
theorem dX9_isOf_19 : decode cX9_isOf 19 = .ok (.if_icmp .ne 16, 3) := by decide +kernel
theorem dX9_isOf_22 : decode cX9_isOf 22 = .ok (.iload_n 1, 1) := by decide +kernel
theorem dX9_isOf_23 : decode cX9_isOf 23 = .ok (.iload_n 2, 1) := by decide +kernel
theorem dX9_isOf_24 : decode cX9_isOf 24 = .ok (.if_icmp .ne 7, 3) := by decide +kernel
theorem dX9_isOf_27 : decode cX9_isOf 27 = .ok (.iconst 1, 1) := by decide +kernel
theorem dX9_isOf_28 : decode cX9_isOf 28 = .ok (.goto 24, 3) := by decide +kernel
theorem dX9_isOf_31 : decode cX9_isOf 31 = .ok (.iconst 0, 1) := by decide +kernel
theorem dX9_isOf_32 : decode cX9_isOf 32 = .ok (.goto 20, 3) := by decide +kernel
theorem dX9_isOf_35 : decode cX9_isOf 35 = .ok (.iload_n 1, 1) := by decide +kernel
theorem dX9_isOf_36 : decode cX9_isOf 36 = .ok (.iload_n 0, 1) := by decide +kernel
theorem dX9_isOf_37 : decode cX9_isOf 37 = .ok (.if_icmp .eq 10, 3) := by decide +kernel
theorem dX9_isOf_40 : decode cX9_isOf 40 = .ok (.iload_n 1, 1) := by decide +kernel
theorem dX9_isOf_41 : decode cX9_isOf 41 = .ok (.iload_n 0, 1) := by decide +kernel
theorem dX9_isOf_42 : decode cX9_isOf 42 = .ok (.iconst 1, 1) := by decide +kernel
theorem dX9_isOf_43 : decode cX9_isOf 43 = .ok (.isub, 1) := by decide +kernel
theorem dX9_isOf_44 : decode cX9_isOf 44 = .ok (.if_icmp .ne 7, 3) := by decide +kernel
theorem dX9_isOf_47 : decode cX9_isOf 47 = .ok (.iconst 1, 1) := by decide +kernel
theorem dX9_isOf_48 : decode cX9_isOf 48 = .ok (.goto 4, 3) := by decide +kernel
theorem dX9_isOf_51 : decode cX9_isOf 51 = .ok (.iconst 0, 1) := by decide +kernel
theorem dX9_isOf_52 : decode cX9_isOf 52 = .ok (.ireturn, 1) := by decide +kernel
theorem dX9_often_0 : decode cX9_often 0 = .ok (.aload_n 0, 1) := by decide +kernel
theorem dX9_often_1 : decode cX9_often 1 = .ok (.iload_n 1, 1) := by decide +kernel
theorem dX9_often_2 : decode cX9_often 2 = .ok (.invokevirtual 276, 3) := by decide +kernel
theorem dX9_often_5 : decode cX9_often 5 = .ok (.ifCond .ne 5, 3) := by decide +kernel
theorem dX9_often_8 : decode cX9_often 8 = .ok (.iconst (-1), 1) := by decide +kernel
theorem dX9_often_9 : decode cX9_often 9 = .ok (.ireturn, 1) := by decide +kernel
theorem dX9_often_10 : decode cX9_often 10 = .ok (.aload_n 0, 1) := by decide +kernel
theorem dX9_often_11 : decode cX9_often 11 = .ok (.invokevirtual 289, 3) := by decide +kernel
theorem dX9_often_14 : decode cX9_often 14 = .ok (.iconst 0, 1) := by decide +kernel
theorem dX9_often_15 : decode cX9_often 15 = .ok (.istore_n 2, 1) := by decide +kernel
theorem dX9_often_16 : decode cX9_often 16 = .ok (.iconst 0, 1) := by decide +kernel
theorem dX9_often_17 : decode cX9_often 17 = .ok (.istore_n 3, 1) := by decide +kernel
theorem dX9_often_18 : decode cX9_often 18 = .ok (.iload_n 3, 1) := by decide +kernel
theorem dX9_often_19 : decode cX9_often 19 = .ok (.aload_n 0, 1) := by decide +kernel
theorem dX9_often_20 : decode cX9_often 20 = .ok (.getfield 244, 3) := by decide +kernel
theorem dX9_often_23 : decode cX9_often 23 = .ok (.if_icmp .ge 36, 3) := by decide +kernel
theorem dX9_often_26 : decode cX9_often 26 = .ok (.iload_n 2, 1) := by decide +kernel
theorem dX9_often_27 : decode cX9_often 27 = .ok (.aload_n 0, 1) := by decide +kernel
theorem dX9_often_28 : decode cX9_often 28 = .ok (.getfield 77, 3) := by decide +kernel
theorem dX9_often_31 : decode cX9_often 31 = .ok (.iload_n 3, 1) := by decide +kernel
theorem dX9_often_32 : decode cX9_often 32 = .ok (.iaload, 1) := by decide +kernel
theorem dX9_often_33 : decode cX9_often 33 = .ok (.iload_n 1, 1) := by decide +kernel
theorem dX9_often_34 : decode cX9_often 34 = .ok (.aload_n 0, 1) := by decide +kernel
theorem dX9_often_35 : decode cX9_often 35 = .ok (.getfield 181, 3) := by decide +kernel
theorem dX9_often_38 : decode cX9_often 38 = .ok (.iconst 1, 1) := by decide +kernel
theorem dX9_often_39 : decode cX9_often 39 = .ok (.isub, 1) := by decide +kernel
theorem dX9_often_40 : decode cX9_often 40 = .ok (.invokestatic 341, 3) := by decide +kernel
theorem dX9_often_43 : decode cX9_often 43 = .ok (.ifCond .eq 7, 3) := by decide +kernel
theorem dX9_often_46 : decode cX9_often 46 = .ok (.iconst 1, 1) := by decide +kernel
theorem dX9_often_47 : decode cX9_often 47 = .ok (.goto 4, 3) := by decide +kernel
theorem dX9_often_50 : decode cX9_often 50 = .ok (.iconst 0, 1) := by decide +kernel
theorem dX9_often_51 : decode cX9_often 51 = .ok (.iadd, 1) := by decide +kernel
theorem dX9_often_52 : decode cX9_often 52 = .ok (.istore_n 2, 1) := by decide +kernel
theorem dX9_often_53 : decode cX9_often 53 = .ok (.iinc 3 1, 3) := by decide +kernel
theorem dX9_often_56 : decode cX9_often 56 = .ok (.goto (-38), 3) := by decide +kernel
theorem dX9_often_59 : decode cX9_often 59 = .ok (.iload_n 2, 1) := by decide +kernel
theorem dX9_often_60 : decode cX9_often 60 = .ok (.ireturn, 1) := by decide +kernel
theorem dX9_upTo_0 : decode cX9_upTo 0 = .ok (.iconst 0, 1) := by decide +kernel
theorem dX9_upTo_1 : decode cX9_upTo 1 = .ok (.istore_n 2, 1) := by decide +kernel
theorem dX9_upTo_2 : decode cX9_upTo 2 = .ok (.iload_n 2, 1) := by decide +kernel
theorem dX9_upTo_3 : decode cX9_upTo 3 = .ok (.aload_n 0, 1) := by decide +kernel
theorem dX9_upTo_4 : decode cX9_upTo 4 = .ok (.getfield 244, 3) := by decide +kernel
theorem dX9_upTo_7 : decode cX9_upTo 7 = .ok (.if_icmp .ge 53, 3) := by decide +kernel
theorem dX9_upTo_10 : decode cX9_upTo 10 = .ok (.aload_n 0, 1) := by decide +kernel
theorem dX9_upTo_11 : decode cX9_upTo 11 = .ok (.iconst 0, 1) := by decide +kernel
theorem dX9_upTo_12 : decode cX9_upTo 12 = .ok (.putfield 126, 3) := by decide +kernel
theorem dX9_upTo_15 : decode cX9_upTo 15 = .ok (.aload_n 0, 1) := by decide +kernel
theorem dX9_upTo_16 : decode cX9_upTo 16 = .ok (.iload_n 1, 1) := by decide +kernel
theorem dX9_upTo_17 : decode cX9_upTo 17 = .ok (.i2l, 1) := by decide +kernel
theorem dX9_upTo_18 : decode cX9_upTo 18 = .ok (.lconst 1, 1) := by decide +kernel
theorem dX9_upTo_19 : decode cX9_upTo 19 = .ok (.aload_n 0, 1) := by decide +kernel
theorem dX9_upTo_20 : decode cX9_upTo 20 = .ok (.getfield 80, 3) := by decide +kernel
theorem dX9_upTo_23 : decode cX9_upTo 23 = .ok (.iload_n 2, 1) := by decide +kernel
theorem dX9_upTo_24 : decode cX9_upTo 24 = .ok (.laload, 1) := by decide +kernel
theorem dX9_upTo_25 : decode cX9_upTo 25 = .ok (.aload_n 0, 1) := by decide +kernel
theorem dX9_upTo_26 : decode cX9_upTo 26 = .ok (.getfield 83, 3) := by decide +kernel
theorem dX9_upTo_29 : decode cX9_upTo 29 = .ok (.iload_n 2, 1) := by decide +kernel
theorem dX9_upTo_30 : decode cX9_upTo 30 = .ok (.laload, 1) := by decide +kernel
theorem dX9_upTo_31 : decode cX9_upTo 31 = .ok (.invokevirtual 151, 3) := by decide +kernel
theorem dX9_upTo_34 : decode cX9_upTo 34 = .ok (.aload_n 0, 1) := by decide +kernel
theorem dX9_upTo_35 : decode cX9_upTo 35 = .ok (.getfield 126, 3) := by decide +kernel
theorem dX9_upTo_38 : decode cX9_upTo 38 = .ok (.ifCond .eq 5, 3) := by decide +kernel
theorem dX9_upTo_41 : decode cX9_upTo 41 = .ok (.iconst (-1), 1) := by decide +kernel
theorem dX9_upTo_42 : decode cX9_upTo 42 = .ok (.ireturn, 1) := by decide +kernel
theorem dX9_upTo_43 : decode cX9_upTo 43 = .ok (.aload_n 0, 1) := by decide +kernel
theorem dX9_upTo_44 : decode cX9_upTo 44 = .ok (.getfield 130, 3) := by decide +kernel
theorem dX9_upTo_47 : decode cX9_upTo 47 = .ok (.lconst 0, 1) := by decide +kernel
theorem dX9_upTo_48 : decode cX9_upTo 48 = .ok (.lcmp, 1) := by decide +kernel
theorem dX9_upTo_49 : decode cX9_upTo 49 = .ok (.ifCond .ge 5, 3) := by decide +kernel
theorem dX9_upTo_52 : decode cX9_upTo 52 = .ok (.iload_n 2, 1) := by decide +kernel
theorem dX9_upTo_53 : decode cX9_upTo 53 = .ok (.ireturn, 1) := by decide +kernel
theorem dX9_upTo_54 : decode cX9_upTo 54 = .ok (.iinc 2 1, 3) := by decide +kernel
theorem dX9_upTo_57 : decode cX9_upTo 57 = .ok (.goto (-55), 3) := by decide +kernel
theorem dX9_upTo_60 : decode cX9_upTo 60 = .ok (.aload_n 0, 1) := by decide +kernel
theorem dX9_upTo_61 : decode cX9_upTo 61 = .ok (.getfield 247, 3) := by decide +kernel
theorem dX9_upTo_64 : decode cX9_upTo 64 = .ok (.ifCond .ne 10, 3) := by decide +kernel
theorem dX9_upTo_67 : decode cX9_upTo 67 = .ok (.aload_n 0, 1) := by decide +kernel
theorem dX9_upTo_68 : decode cX9_upTo 68 = .ok (.getfield 244, 3) := by decide +kernel
theorem dX9_upTo_71 : decode cX9_upTo 71 = .ok (.goto 4, 3) := by decide +kernel
theorem dX9_upTo_74 : decode cX9_upTo 74 = .ok (.iconst (-1), 1) := by decide +kernel
theorem dX9_upTo_75 : decode cX9_upTo 75 = .ok (.ireturn, 1) := by decide +kernel
theorem dX9_at_0 : decode cX9_at 0 = .ok (.aload_n 0, 1) := by decide +kernel
theorem dX9_at_1 : decode cX9_at 1 = .ok (.iload_n 1, 1) := by decide +kernel
theorem dX9_at_2 : decode cX9_at 2 = .ok (.invokevirtual 276, 3) := by decide +kernel
theorem dX9_at_5 : decode cX9_at 5 = .ok (.ifCond .eq 22, 3) := by decide +kernel
theorem dX9_at_8 : decode cX9_at 8 = .ok (.iload_n 2, 1) := by decide +kernel
theorem dX9_at_9 : decode cX9_at 9 = .ok (.i2l, 1) := by decide +kernel
theorem dX9_at_10 : decode cX9_at 10 = .ok (.lconst 0, 1) := by decide +kernel
theorem dX9_at_11 : decode cX9_at 11 = .ok (.ldc2_w 270, 3) := by decide +kernel
theorem dX9_at_14 : decode cX9_at 14 = .ok (.invokestatic 266, 3) := by decide +kernel
theorem dX9_at_17 : decode cX9_at 17 = .ok (.ifCond .eq 10, 3) := by decide +kernel
theorem dX9_at_20 : decode cX9_at 20 = .ok (.iload_n 3, 1) := by decide +kernel
theorem dX9_at_21 : decode cX9_at 21 = .ok (.invokestatic 329, 3) := by decide +kernel
theorem dX9_at_24 : decode cX9_at 24 = .ok (.ifCond .ne 7, 3) := by decide +kernel
theorem dX9_at_27 : decode cX9_at 27 = .ok (.ldc2_w 124, 3) := by decide +kernel
theorem dX9_at_30 : decode cX9_at 30 = .ok (.lreturn, 1) := by decide +kernel
theorem dX9_at_31 : decode cX9_at 31 = .ok (.aload_n 0, 1) := by decide +kernel
theorem dX9_at_32 : decode cX9_at 32 = .ok (.invokevirtual 289, 3) := by decide +kernel
theorem dX9_at_35 : decode cX9_at 35 = .ok (.aload_n 0, 1) := by decide +kernel
theorem dX9_at_36 : decode cX9_at 36 = .ok (.iload_n 2, 1) := by decide +kernel
theorem dX9_at_37 : decode cX9_at 37 = .ok (.invokevirtual 345, 3) := by decide +kernel
theorem dX9_at_40 : decode cX9_at 40 = .ok (.istore 4, 2) := by decide +kernel
theorem dX9_at_42 : decode cX9_at 42 = .ok (.aload_n 0, 1) := by decide +kernel
theorem dX9_at_43 : decode cX9_at 43 = .ok (.iconst 0, 1) := by decide +kernel
theorem dX9_at_44 : decode cX9_at 44 = .ok (.putfield 126, 3) := by decide +kernel
theorem dX9_at_47 : decode cX9_at 47 = .ok (.iload 4, 2) := by decide +kernel
theorem dX9_at_49 : decode cX9_at 49 = .ok (.ifCond .ge 7, 3) := by decide +kernel
theorem dX9_at_52 : decode cX9_at 52 = .ok (.ldc2_w 124, 3) := by decide +kernel
theorem dX9_at_55 : decode cX9_at 55 = .ok (.lreturn, 1) := by decide +kernel
theorem dX9_at_56 : decode cX9_at 56 = .ok (.bipush 12, 2) := by decide +kernel
theorem dX9_at_58 : decode cX9_at 58 = .ok (.iload 4, 2) := by decide +kernel
theorem dX9_at_60 : decode cX9_at 60 = .ok (.iconst 1, 1) := by decide +kernel
theorem dX9_at_61 : decode cX9_at 61 = .ok (.isub, 1) := by decide +kernel
theorem dX9_at_62 : decode cX9_at 62 = .ok (.imul, 1) := by decide +kernel
theorem dX9_at_63 : decode cX9_at 63 = .ok (.iload_n 1, 1) := by decide +kernel
theorem dX9_at_64 : decode cX9_at 64 = .ok (.iadd, 1) := by decide +kernel
theorem dX9_at_65 : decode cX9_at 65 = .ok (.istore 5, 2) := by decide +kernel
theorem dX9_at_67 : decode cX9_at 67 = .ok (.aload_n 0, 1) := by decide +kernel
theorem dX9_at_68 : decode cX9_at 68 = .ok (.iload_n 2, 1) := by decide +kernel
theorem dX9_at_69 : decode cX9_at 69 = .ok (.i2l, 1) := by decide +kernel
theorem dX9_at_70 : decode cX9_at 70 = .ok (.lconst 1, 1) := by decide +kernel
theorem dX9_at_71 : decode cX9_at 71 = .ok (.iload 4, 2) := by decide +kernel
theorem dX9_at_73 : decode cX9_at 73 = .ok (.ifCond .ne 7, 3) := by decide +kernel
theorem dX9_at_76 : decode cX9_at 76 = .ok (.lconst 0, 1) := by decide +kernel
theorem dX9_at_77 : decode cX9_at 77 = .ok (.goto 12, 3) := by decide +kernel
theorem dX9_at_80 : decode cX9_at 80 = .ok (.aload_n 0, 1) := by decide +kernel
theorem dX9_at_81 : decode cX9_at 81 = .ok (.getfield 80, 3) := by decide +kernel
theorem dX9_at_84 : decode cX9_at 84 = .ok (.iload 4, 2) := by decide +kernel
theorem dX9_at_86 : decode cX9_at 86 = .ok (.iconst 1, 1) := by decide +kernel
theorem dX9_at_87 : decode cX9_at 87 = .ok (.isub, 1) := by decide +kernel
theorem dX9_at_88 : decode cX9_at 88 = .ok (.laload, 1) := by decide +kernel
theorem dX9_at_89 : decode cX9_at 89 = .ok (.iload 4, 2) := by decide +kernel
theorem dX9_at_91 : decode cX9_at 91 = .ok (.ifCond .ne 7, 3) := by decide +kernel
theorem dX9_at_94 : decode cX9_at 94 = .ok (.lconst 1, 1) := by decide +kernel
theorem dX9_at_95 : decode cX9_at 95 = .ok (.goto 12, 3) := by decide +kernel
theorem dX9_at_98 : decode cX9_at 98 = .ok (.aload_n 0, 1) := by decide +kernel
theorem dX9_at_99 : decode cX9_at 99 = .ok (.getfield 83, 3) := by decide +kernel
theorem dX9_at_102 : decode cX9_at 102 = .ok (.iload 4, 2) := by decide +kernel
theorem dX9_at_104 : decode cX9_at 104 = .ok (.iconst 1, 1) := by decide +kernel
theorem dX9_at_105 : decode cX9_at 105 = .ok (.isub, 1) := by decide +kernel
theorem dX9_at_106 : decode cX9_at 106 = .ok (.laload, 1) := by decide +kernel
theorem dX9_at_107 : decode cX9_at 107 = .ok (.invokevirtual 151, 3) := by decide +kernel
theorem dX9_at_110 : decode cX9_at 110 = .ok (.aload_n 0, 1) := by decide +kernel
theorem dX9_at_111 : decode cX9_at 111 = .ok (.iload 4, 2) := by decide +kernel
theorem dX9_at_113 : decode cX9_at 113 = .ok (.ifCond .ne 12, 3) := by decide +kernel
theorem dX9_at_116 : decode cX9_at 116 = .ok (.aload_n 0, 1) := by decide +kernel
theorem dX9_at_117 : decode cX9_at 117 = .ok (.getfield 32, 3) := by decide +kernel
theorem dX9_at_120 : decode cX9_at 120 = .ok (.iload_n 1, 1) := by decide +kernel
theorem dX9_at_121 : decode cX9_at 121 = .ok (.laload, 1) := by decide +kernel
theorem dX9_at_122 : decode cX9_at 122 = .ok (.goto 13, 3) := by decide +kernel
theorem dX9_at_125 : decode cX9_at 125 = .ok (.aload_n 0, 1) := by decide +kernel
theorem dX9_at_126 : decode cX9_at 126 = .ok (.getfield 86, 3) := by decide +kernel
theorem dX9_at_129 : decode cX9_at 129 = .ok (.iload 5, 2) := by decide +kernel
theorem dX9_at_131 : decode cX9_at 131 = .ok (.bipush 6, 2) := by decide +kernel
theorem dX9_at_133 : decode cX9_at 133 = .ok (.iadd, 1) := by decide +kernel
theorem dX9_at_134 : decode cX9_at 134 = .ok (.laload, 1) := by decide +kernel
theorem dX9_at_135 : decode cX9_at 135 = .ok (.iload 4, 2) := by decide +kernel
theorem dX9_at_137 : decode cX9_at 137 = .ok (.ifCond .ne 12, 3) := by decide +kernel
theorem dX9_at_140 : decode cX9_at 140 = .ok (.aload_n 0, 1) := by decide +kernel
theorem dX9_at_141 : decode cX9_at 141 = .ok (.getfield 35, 3) := by decide +kernel
theorem dX9_at_144 : decode cX9_at 144 = .ok (.iload_n 1, 1) := by decide +kernel
theorem dX9_at_145 : decode cX9_at 145 = .ok (.laload, 1) := by decide +kernel
theorem dX9_at_146 : decode cX9_at 146 = .ok (.goto 13, 3) := by decide +kernel
theorem dX9_at_149 : decode cX9_at 149 = .ok (.aload_n 0, 1) := by decide +kernel
theorem dX9_at_150 : decode cX9_at 150 = .ok (.getfield 89, 3) := by decide +kernel
theorem dX9_at_153 : decode cX9_at 153 = .ok (.iload 5, 2) := by decide +kernel
theorem dX9_at_155 : decode cX9_at 155 = .ok (.bipush 6, 2) := by decide +kernel
theorem dX9_at_157 : decode cX9_at 157 = .ok (.iadd, 1) := by decide +kernel
theorem dX9_at_158 : decode cX9_at 158 = .ok (.laload, 1) := by decide +kernel
theorem dX9_at_159 : decode cX9_at 159 = .ok (.aload_n 0, 1) := by decide +kernel
theorem dX9_at_160 : decode cX9_at 160 = .ok (.getfield 130, 3) := by decide +kernel
theorem dX9_at_163 : decode cX9_at 163 = .ok (.aload_n 0, 1) := by decide +kernel
theorem dX9_at_164 : decode cX9_at 164 = .ok (.getfield 134, 3) := by decide +kernel
theorem dX9_at_167 : decode cX9_at 167 = .ok (.invokevirtual 208, 3) := by decide +kernel
theorem dX9_at_170 : decode cX9_at 170 = .ok (.aload_n 0, 1) := by decide +kernel
theorem dX9_at_171 : decode cX9_at 171 = .ok (.iload 4, 2) := by decide +kernel
theorem dX9_at_173 : decode cX9_at 173 = .ok (.ifCond .ne 12, 3) := by decide +kernel
theorem dX9_at_176 : decode cX9_at 176 = .ok (.aload_n 0, 1) := by decide +kernel
theorem dX9_at_177 : decode cX9_at 177 = .ok (.getfield 25, 3) := by decide +kernel
theorem dX9_at_180 : decode cX9_at 180 = .ok (.iload_n 1, 1) := by decide +kernel
theorem dX9_at_181 : decode cX9_at 181 = .ok (.laload, 1) := by decide +kernel
theorem dX9_at_182 : decode cX9_at 182 = .ok (.goto 10, 3) := by decide +kernel
theorem dX9_at_185 : decode cX9_at 185 = .ok (.aload_n 0, 1) := by decide +kernel
theorem dX9_at_186 : decode cX9_at 186 = .ok (.getfield 86, 3) := by decide +kernel
theorem dX9_at_189 : decode cX9_at 189 = .ok (.iload 5, 2) := by decide +kernel
theorem dX9_at_191 : decode cX9_at 191 = .ok (.laload, 1) := by decide +kernel
theorem dX9_at_192 : decode cX9_at 192 = .ok (.iload 4, 2) := by decide +kernel
theorem dX9_at_194 : decode cX9_at 194 = .ok (.ifCond .ne 12, 3) := by decide +kernel
theorem dX9_at_197 : decode cX9_at 197 = .ok (.aload_n 0, 1) := by decide +kernel
theorem dX9_at_198 : decode cX9_at 198 = .ok (.getfield 29, 3) := by decide +kernel
theorem dX9_at_201 : decode cX9_at 201 = .ok (.iload_n 1, 1) := by decide +kernel
theorem dX9_at_202 : decode cX9_at 202 = .ok (.laload, 1) := by decide +kernel
theorem dX9_at_203 : decode cX9_at 203 = .ok (.goto 10, 3) := by decide +kernel
theorem dX9_at_206 : decode cX9_at 206 = .ok (.aload_n 0, 1) := by decide +kernel
theorem dX9_at_207 : decode cX9_at 207 = .ok (.getfield 89, 3) := by decide +kernel
theorem dX9_at_210 : decode cX9_at 210 = .ok (.iload 5, 2) := by decide +kernel
theorem dX9_at_212 : decode cX9_at 212 = .ok (.laload, 1) := by decide +kernel
theorem dX9_at_213 : decode cX9_at 213 = .ok (.aload_n 0, 1) := by decide +kernel
theorem dX9_at_214 : decode cX9_at 214 = .ok (.getfield 130, 3) := by decide +kernel
theorem dX9_at_217 : decode cX9_at 217 = .ok (.aload_n 0, 1) := by decide +kernel
theorem dX9_at_218 : decode cX9_at 218 = .ok (.getfield 134, 3) := by decide +kernel
theorem dX9_at_221 : decode cX9_at 221 = .ok (.invokevirtual 199, 3) := by decide +kernel
theorem dX9_at_224 : decode cX9_at 224 = .ok (.aload_n 0, 1) := by decide +kernel
theorem dX9_at_225 : decode cX9_at 225 = .ok (.getfield 126, 3) := by decide +kernel
theorem dX9_at_228 : decode cX9_at 228 = .ok (.ifCond .ne 7, 3) := by decide +kernel
theorem dX9_at_231 : decode cX9_at 231 = .ok (.iconst 1, 1) := by decide +kernel
theorem dX9_at_232 : decode cX9_at 232 = .ok (.goto 4, 3) := by decide +kernel
theorem dX9_at_235 : decode cX9_at 235 = .ok (.iconst 0, 1) := by decide +kernel
theorem dX9_at_236 : decode cX9_at 236 = .ok (.istore 6, 2) := by decide +kernel
theorem dX9_at_238 : decode cX9_at 238 = .ok (.aload_n 0, 1) := by decide +kernel
theorem dX9_at_239 : decode cX9_at 239 = .ok (.iconst 0, 1) := by decide +kernel
theorem dX9_at_240 : decode cX9_at 240 = .ok (.putfield 126, 3) := by decide +kernel
theorem dX9_at_243 : decode cX9_at 243 = .ok (.iload 6, 2) := by decide +kernel
theorem dX9_at_245 : decode cX9_at 245 = .ok (.ifCond .eq 21, 3) := by decide +kernel
theorem dX9_at_248 : decode cX9_at 248 = .ok (.iload_n 3, 1) := by decide +kernel
theorem dX9_at_249 : decode cX9_at 249 = .ok (.ifCond .ne 10, 3) := by decide +kernel
theorem dX9_at_252 : decode cX9_at 252 = .ok (.aload_n 0, 1) := by decide +kernel
theorem dX9_at_253 : decode cX9_at 253 = .ok (.getfield 130, 3) := by decide +kernel
theorem dX9_at_256 : decode cX9_at 256 = .ok (.goto 13, 3) := by decide +kernel
theorem dX9_at_259 : decode cX9_at 259 = .ok (.aload_n 0, 1) := by decide +kernel
theorem dX9_at_260 : decode cX9_at 260 = .ok (.getfield 134, 3) := by decide +kernel
theorem dX9_at_263 : decode cX9_at 263 = .ok (.goto 6, 3) := by decide +kernel
theorem dX9_at_266 : decode cX9_at 266 = .ok (.ldc2_w 124, 3) := by decide +kernel
theorem dX9_at_269 : decode cX9_at 269 = .ok (.lreturn, 1) := by decide +kernel
theorem dX9_isWhere_0 : decode cX9_isWhere 0 = .ok (.iload_n 0, 1) := by decide +kernel
theorem dX9_isWhere_1 : decode cX9_isWhere 1 = .ok (.i2l, 1) := by decide +kernel
theorem dX9_isWhere_2 : decode cX9_isWhere 2 = .ok (.lconst 0, 1) := by decide +kernel
theorem dX9_isWhere_3 : decode cX9_isWhere 3 = .ok (.ldc2_w 332, 3) := by decide +kernel
theorem dX9_isWhere_6 : decode cX9_isWhere 6 = .ok (.invokestatic 266, 3) := by decide +kernel
theorem dX9_isWhere_9 : decode cX9_isWhere 9 = .ok (.ifCond .ne 9, 3) := by decide +kernel
theorem dX9_isWhere_12 : decode cX9_isWhere 12 = .ok (.iload_n 0, 1) := by decide +kernel
theorem dX9_isWhere_13 : decode cX9_isWhere 13 = .ok (.bipush 9, 2) := by decide +kernel
theorem dX9_isWhere_15 : decode cX9_isWhere 15 = .ok (.if_icmp .ne 7, 3) := by decide +kernel
theorem dX9_isWhere_18 : decode cX9_isWhere 18 = .ok (.iconst 1, 1) := by decide +kernel
theorem dX9_isWhere_19 : decode cX9_isWhere 19 = .ok (.goto 4, 3) := by decide +kernel
theorem dX9_isWhere_22 : decode cX9_isWhere 22 = .ok (.iconst 0, 1) := by decide +kernel
theorem dX9_isWhere_23 : decode cX9_isWhere 23 = .ok (.ireturn, 1) := by decide +kernel
theorem dX9_see_0 : decode cX9_see 0 = .ok (.iload_n 1, 1) := by decide +kernel
theorem dX9_see_1 : decode cX9_see 1 = .ok (.iconst (-1), 1) := by decide +kernel
theorem dX9_see_2 : decode cX9_see 2 = .ok (.if_icmp .ne 10, 3) := by decide +kernel
theorem dX9_see_5 : decode cX9_see 5 = .ok (.aload_n 0, 1) := by decide +kernel
theorem dX9_see_6 : decode cX9_see 6 = .ok (.iconst 0, 1) := by decide +kernel
theorem dX9_see_7 : decode cX9_see 7 = .ok (.putfield 348, 3) := by decide +kernel
theorem dX9_see_10 : decode cX9_see 10 = .ok (.iconst 0, 1) := by decide +kernel
theorem dX9_see_11 : decode cX9_see 11 = .ok (.ireturn, 1) := by decide +kernel
theorem dX9_see_12 : decode cX9_see 12 = .ok (.iload_n 1, 1) := by decide +kernel
theorem dX9_see_13 : decode cX9_see 13 = .ok (.i2l, 1) := by decide +kernel
theorem dX9_see_14 : decode cX9_see 14 = .ok (.lconst 0, 1) := by decide +kernel
theorem dX9_see_15 : decode cX9_see 15 = .ok (.ldc2_w 351, 3) := by decide +kernel
theorem dX9_see_18 : decode cX9_see 18 = .ok (.invokestatic 266, 3) := by decide +kernel
theorem dX9_see_21 : decode cX9_see 21 = .ok (.ifCond .eq 10, 3) := by decide +kernel
theorem dX9_see_24 : decode cX9_see 24 = .ok (.iload_n 2, 1) := by decide +kernel
theorem dX9_see_25 : decode cX9_see 25 = .ok (.invokestatic 353, 3) := by decide +kernel
theorem dX9_see_28 : decode cX9_see 28 = .ok (.ifCond .ne 5, 3) := by decide +kernel
theorem dX9_see_31 : decode cX9_see 31 = .ok (.iconst (-1), 1) := by decide +kernel
theorem dX9_see_32 : decode cX9_see 32 = .ok (.ireturn, 1) := by decide +kernel
theorem dX9_see_33 : decode cX9_see 33 = .ok (.aload_n 0, 1) := by decide +kernel
theorem dX9_see_34 : decode cX9_see 34 = .ok (.getfield 348, 3) := by decide +kernel
theorem dX9_see_37 : decode cX9_see 37 = .ok (.iconst 5, 1) := by decide +kernel
theorem dX9_see_38 : decode cX9_see 38 = .ok (.if_icmp .ne 6, 3) := by decide +kernel
theorem dX9_see_41 : decode cX9_see 41 = .ok (.bipush (-4), 2) := by decide +kernel
theorem dX9_see_43 : decode cX9_see 43 = .ok (.ireturn, 1) := by decide +kernel
theorem dX9_see_44 : decode cX9_see 44 = .ok (.aload_n 0, 1) := by decide +kernel
theorem dX9_see_45 : decode cX9_see 45 = .ok (.getfield 38, 3) := by decide +kernel
theorem dX9_see_48 : decode cX9_see 48 = .ok (.aload_n 0, 1) := by decide +kernel
theorem dX9_see_49 : decode cX9_see 49 = .ok (.getfield 348, 3) := by decide +kernel
theorem dX9_see_52 : decode cX9_see 52 = .ok (.iload_n 1, 1) := by decide +kernel
theorem dX9_see_53 : decode cX9_see 53 = .ok (.iastore, 1) := by decide +kernel
theorem dX9_see_54 : decode cX9_see 54 = .ok (.aload_n 0, 1) := by decide +kernel
theorem dX9_see_55 : decode cX9_see 55 = .ok (.getfield 41, 3) := by decide +kernel
theorem dX9_see_58 : decode cX9_see 58 = .ok (.aload_n 0, 1) := by decide +kernel
theorem dX9_see_59 : decode cX9_see 59 = .ok (.getfield 348, 3) := by decide +kernel
theorem dX9_see_62 : decode cX9_see 62 = .ok (.iload_n 2, 1) := by decide +kernel
theorem dX9_see_63 : decode cX9_see 63 = .ok (.iastore, 1) := by decide +kernel
theorem dX9_see_64 : decode cX9_see 64 = .ok (.aload_n 0, 1) := by decide +kernel
theorem dX9_see_65 : decode cX9_see 65 = .ok (.dup, 1) := by decide +kernel
theorem dX9_see_66 : decode cX9_see 66 = .ok (.getfield 348, 3) := by decide +kernel
theorem dX9_see_69 : decode cX9_see 69 = .ok (.iconst 1, 1) := by decide +kernel
theorem dX9_see_70 : decode cX9_see 70 = .ok (.iadd, 1) := by decide +kernel
theorem dX9_see_71 : decode cX9_see 71 = .ok (.putfield 348, 3) := by decide +kernel
theorem dX9_see_74 : decode cX9_see 74 = .ok (.aload_n 0, 1) := by decide +kernel
theorem dX9_see_75 : decode cX9_see 75 = .ok (.getfield 348, 3) := by decide +kernel
theorem dX9_see_78 : decode cX9_see 78 = .ok (.ireturn, 1) := by decide +kernel
theorem dX9_isStruck_0 : decode cX9_isStruck 0 = .ok (.iload_n 1, 1) := by decide +kernel
theorem dX9_isStruck_1 : decode cX9_isStruck 1 = .ok (.aload_n 0, 1) := by decide +kernel
theorem dX9_isStruck_2 : decode cX9_isStruck 2 = .ok (.getfield 244, 3) := by decide +kernel
theorem dX9_isStruck_5 : decode cX9_isStruck 5 = .ok (.if_icmp .ge 17, 3) := by decide +kernel
theorem dX9_isStruck_8 : decode cX9_isStruck 8 = .ok (.aload_n 0, 1) := by decide +kernel
theorem dX9_isStruck_9 : decode cX9_isStruck 9 = .ok (.getfield 77, 3) := by decide +kernel
theorem dX9_isStruck_12 : decode cX9_isStruck 12 = .ok (.iload_n 1, 1) := by decide +kernel
theorem dX9_isStruck_13 : decode cX9_isStruck 13 = .ok (.iaload, 1) := by decide +kernel
theorem dX9_isStruck_14 : decode cX9_isStruck 14 = .ok (.iload_n 2, 1) := by decide +kernel
theorem dX9_isStruck_15 : decode cX9_isStruck 15 = .ok (.if_icmp .ne 7, 3) := by decide +kernel
theorem dX9_isStruck_18 : decode cX9_isStruck 18 = .ok (.iconst 1, 1) := by decide +kernel
theorem dX9_isStruck_19 : decode cX9_isStruck 19 = .ok (.goto 4, 3) := by decide +kernel
theorem dX9_isStruck_22 : decode cX9_isStruck 22 = .ok (.iconst 0, 1) := by decide +kernel
theorem dX9_isStruck_23 : decode cX9_isStruck 23 = .ok (.ireturn, 1) := by decide +kernel
theorem dX9_fits_0 : decode cX9_fits 0 = .ok (.aload_n 0, 1) := by decide +kernel
theorem dX9_fits_1 : decode cX9_fits 1 = .ok (.iload_n 1, 1) := by decide +kernel
theorem dX9_fits_2 : decode cX9_fits 2 = .ok (.invokevirtual 276, 3) := by decide +kernel
theorem dX9_fits_5 : decode cX9_fits 5 = .ok (.ifCond .eq 13, 3) := by decide +kernel
theorem dX9_fits_8 : decode cX9_fits 8 = .ok (.iload_n 2, 1) := by decide +kernel
theorem dX9_fits_9 : decode cX9_fits 9 = .ok (.i2l, 1) := by decide +kernel
theorem dX9_fits_10 : decode cX9_fits 10 = .ok (.lconst 0, 1) := by decide +kernel
theorem dX9_fits_11 : decode cX9_fits 11 = .ok (.lconst 1, 1) := by decide +kernel
theorem dX9_fits_12 : decode cX9_fits 12 = .ok (.invokestatic 266, 3) := by decide +kernel
theorem dX9_fits_15 : decode cX9_fits 15 = .ok (.ifCond .ne 5, 3) := by decide +kernel
theorem dX9_fits_18 : decode cX9_fits 18 = .ok (.iconst (-1), 1) := by decide +kernel
theorem dX9_fits_19 : decode cX9_fits 19 = .ok (.ireturn, 1) := by decide +kernel
theorem dX9_fits_20 : decode cX9_fits 20 = .ok (.iconst 0, 1) := by decide +kernel
theorem dX9_fits_21 : decode cX9_fits 21 = .ok (.istore_n 3, 1) := by decide +kernel
theorem dX9_fits_22 : decode cX9_fits 22 = .ok (.bipush (-10), 2) := by decide +kernel
theorem dX9_fits_24 : decode cX9_fits 24 = .ok (.istore 4, 2) := by decide +kernel
theorem dX9_fits_26 : decode cX9_fits 26 = .ok (.iconst 5, 1) := by decide +kernel
theorem dX9_fits_27 : decode cX9_fits 27 = .ok (.istore 5, 2) := by decide +kernel
theorem dX9_fits_29 : decode cX9_fits 29 = .ok (.iload 5, 2) := by decide +kernel
theorem dX9_fits_31 : decode cX9_fits 31 = .ok (.bipush (-5), 2) := by decide +kernel
theorem dX9_fits_33 : decode cX9_fits 33 = .ok (.if_icmp .lt 99, 3) := by decide +kernel
theorem dX9_fits_36 : decode cX9_fits 36 = .ok (.aload_n 0, 1) := by decide +kernel
theorem dX9_fits_37 : decode cX9_fits 37 = .ok (.invokevirtual 260, 3) := by decide +kernel
theorem dX9_fits_40 : decode cX9_fits 40 = .ok (.aload_n 0, 1) := by decide +kernel
theorem dX9_fits_41 : decode cX9_fits 41 = .ok (.iload_n 1, 1) := by decide +kernel
theorem dX9_fits_42 : decode cX9_fits 42 = .ok (.iload 5, 2) := by decide +kernel
theorem dX9_fits_44 : decode cX9_fits 44 = .ok (.i2l, 1) := by decide +kernel
theorem dX9_fits_45 : decode cX9_fits 45 = .ok (.lconst 1, 1) := by decide +kernel
theorem dX9_fits_46 : decode cX9_fits 46 = .ok (.invokevirtual 240, 3) := by decide +kernel
theorem dX9_fits_49 : decode cX9_fits 49 = .ok (.aload_n 0, 1) := by decide +kernel
theorem dX9_fits_50 : decode cX9_fits 50 = .ok (.bipush 20, 2) := by decide +kernel
theorem dX9_fits_52 : decode cX9_fits 52 = .ok (.invokevirtual 263, 3) := by decide +kernel
theorem dX9_fits_55 : decode cX9_fits 55 = .ok (.iconst 1, 1) := by decide +kernel
theorem dX9_fits_56 : decode cX9_fits 56 = .ok (.istore 6, 2) := by decide +kernel
theorem dX9_fits_58 : decode cX9_fits 58 = .ok (.iconst 0, 1) := by decide +kernel
theorem dX9_fits_59 : decode cX9_fits 59 = .ok (.istore 7, 2) := by decide +kernel
theorem dX9_fits_61 : decode cX9_fits 61 = .ok (.iload 7, 2) := by decide +kernel
theorem dX9_fits_63 : decode cX9_fits 63 = .ok (.aload_n 0, 1) := by decide +kernel
theorem dX9_fits_64 : decode cX9_fits 64 = .ok (.getfield 348, 3) := by decide +kernel
theorem dX9_fits_67 : decode cX9_fits 67 = .ok (.if_icmp .ge 32, 3) := by decide +kernel
theorem dX9_fits_70 : decode cX9_fits 70 = .ok (.iload 6, 2) := by decide +kernel
theorem dX9_fits_72 : decode cX9_fits 72 = .ok (.aload_n 0, 1) := by decide +kernel
theorem dX9_fits_73 : decode cX9_fits 73 = .ok (.aload_n 0, 1) := by decide +kernel
theorem dX9_fits_74 : decode cX9_fits 74 = .ok (.getfield 38, 3) := by decide +kernel
theorem dX9_fits_77 : decode cX9_fits 77 = .ok (.iload 7, 2) := by decide +kernel
theorem dX9_fits_79 : decode cX9_fits 79 = .ok (.iaload, 1) := by decide +kernel
theorem dX9_fits_80 : decode cX9_fits 80 = .ok (.aload_n 0, 1) := by decide +kernel
theorem dX9_fits_81 : decode cX9_fits 81 = .ok (.getfield 41, 3) := by decide +kernel
theorem dX9_fits_84 : decode cX9_fits 84 = .ok (.iload 7, 2) := by decide +kernel
theorem dX9_fits_86 : decode cX9_fits 86 = .ok (.iaload, 1) := by decide +kernel
theorem dX9_fits_87 : decode cX9_fits 87 = .ok (.invokevirtual 356, 3) := by decide +kernel
theorem dX9_fits_90 : decode cX9_fits 90 = .ok (.iand, 1) := by decide +kernel
theorem dX9_fits_91 : decode cX9_fits 91 = .ok (.istore 6, 2) := by decide +kernel
theorem dX9_fits_93 : decode cX9_fits 93 = .ok (.iinc 7 1, 3) := by decide +kernel
theorem dX9_fits_96 : decode cX9_fits 96 = .ok (.goto (-35), 3) := by decide +kernel
theorem dX9_fits_99 : decode cX9_fits 99 = .ok (.iload_n 3, 1) := by decide +kernel
theorem dX9_fits_100 : decode cX9_fits 100 = .ok (.iload 6, 2) := by decide +kernel
theorem dX9_fits_102 : decode cX9_fits 102 = .ok (.ifCond .eq 7, 3) := by decide +kernel
theorem dX9_fits_105 : decode cX9_fits 105 = .ok (.iconst 1, 1) := by decide +kernel
theorem dX9_fits_106 : decode cX9_fits 106 = .ok (.goto 4, 3) := by decide +kernel
theorem dX9_fits_109 : decode cX9_fits 109 = .ok (.iconst 0, 1) := by decide +kernel
theorem dX9_fits_110 : decode cX9_fits 110 = .ok (.iadd, 1) := by decide +kernel
theorem dX9_fits_111 : decode cX9_fits 111 = .ok (.istore_n 3, 1) := by decide +kernel
theorem dX9_fits_112 : decode cX9_fits 112 = .ok (.iload 6, 2) := by decide +kernel
theorem dX9_fits_114 : decode cX9_fits 114 = .ok (.ifCond .eq 8, 3) := by decide +kernel
theorem dX9_fits_117 : decode cX9_fits 117 = .ok (.iload 5, 2) := by decide +kernel
theorem dX9_fits_119 : decode cX9_fits 119 = .ok (.goto 5, 3) := by decide +kernel
theorem dX9_fits_122 : decode cX9_fits 122 = .ok (.iload 4, 2) := by decide +kernel
theorem dX9_fits_124 : decode cX9_fits 124 = .ok (.istore 4, 2) := by decide +kernel
theorem dX9_fits_126 : decode cX9_fits 126 = .ok (.iinc 5 (-1), 3) := by decide +kernel
theorem dX9_fits_129 : decode cX9_fits 129 = .ok (.goto (-100), 3) := by decide +kernel
theorem dX9_fits_132 : decode cX9_fits 132 = .ok (.iload_n 2, 1) := by decide +kernel
theorem dX9_fits_133 : decode cX9_fits 133 = .ok (.ifCond .ne 7, 3) := by decide +kernel
theorem dX9_fits_136 : decode cX9_fits 136 = .ok (.iload_n 3, 1) := by decide +kernel
theorem dX9_fits_137 : decode cX9_fits 137 = .ok (.goto 5, 3) := by decide +kernel
theorem dX9_fits_140 : decode cX9_fits 140 = .ok (.iload 4, 2) := by decide +kernel
theorem dX9_fits_142 : decode cX9_fits 142 = .ok (.ireturn, 1) := by decide +kernel
theorem dX9_common_0 : decode cX9_common 0 = .ok (.lload_n 0, 1) := by decide +kernel
theorem dX9_common_1 : decode cX9_common 1 = .ok (.lstore 4, 2) := by decide +kernel
theorem dX9_common_3 : decode cX9_common 3 = .ok (.lload_n 2, 1) := by decide +kernel
theorem dX9_common_4 : decode cX9_common 4 = .ok (.lstore 6, 2) := by decide +kernel
theorem dX9_common_6 : decode cX9_common 6 = .ok (.lload 6, 2) := by decide +kernel
theorem dX9_common_8 : decode cX9_common 8 = .ok (.lconst 0, 1) := by decide +kernel
theorem dX9_common_9 : decode cX9_common 9 = .ok (.lcmp, 1) := by decide +kernel
theorem dX9_common_10 : decode cX9_common 10 = .ok (.ifCond .eq 21, 3) := by decide +kernel
theorem dX9_common_13 : decode cX9_common 13 = .ok (.lload 4, 2) := by decide +kernel
theorem dX9_common_15 : decode cX9_common 15 = .ok (.lload 6, 2) := by decide +kernel
theorem dX9_common_17 : decode cX9_common 17 = .ok (.lrem, 1) := by decide +kernel
theorem dX9_common_18 : decode cX9_common 18 = .ok (.lstore 8, 2) := by decide +kernel
theorem dX9_common_20 : decode cX9_common 20 = .ok (.lload 6, 2) := by decide +kernel
theorem dX9_common_22 : decode cX9_common 22 = .ok (.lstore 4, 2) := by decide +kernel
theorem dX9_common_24 : decode cX9_common 24 = .ok (.lload 8, 2) := by decide +kernel
theorem dX9_common_26 : decode cX9_common 26 = .ok (.lstore 6, 2) := by decide +kernel
theorem dX9_common_28 : decode cX9_common 28 = .ok (.goto (-22), 3) := by decide +kernel
theorem dX9_common_31 : decode cX9_common 31 = .ok (.lload 4, 2) := by decide +kernel
theorem dX9_common_33 : decode cX9_common 33 = .ok (.lreturn, 1) := by decide +kernel
theorem dX9_odds_0 : decode cX9_odds 0 = .ok (.iload_n 1, 1) := by decide +kernel
theorem dX9_odds_1 : decode cX9_odds 1 = .ok (.i2l, 1) := by decide +kernel
theorem dX9_odds_2 : decode cX9_odds 2 = .ok (.lconst 0, 1) := by decide +kernel
theorem dX9_odds_3 : decode cX9_odds 3 = .ok (.ldc2_w 287, 3) := by decide +kernel
theorem dX9_odds_6 : decode cX9_odds 6 = .ok (.invokestatic 266, 3) := by decide +kernel
theorem dX9_odds_9 : decode cX9_odds 9 = .ok (.ifCond .eq 10, 3) := by decide +kernel
theorem dX9_odds_12 : decode cX9_odds 12 = .ok (.iload_n 2, 1) := by decide +kernel
theorem dX9_odds_13 : decode cX9_odds 13 = .ok (.invokestatic 329, 3) := by decide +kernel
theorem dX9_odds_16 : decode cX9_odds 16 = .ok (.ifCond .ne 7, 3) := by decide +kernel
theorem dX9_odds_19 : decode cX9_odds 19 = .ok (.ldc2_w 124, 3) := by decide +kernel
theorem dX9_odds_22 : decode cX9_odds 22 = .ok (.lreturn, 1) := by decide +kernel
theorem dX9_odds_23 : decode cX9_odds 23 = .ok (.iconst 0, 1) := by decide +kernel
theorem dX9_odds_24 : decode cX9_odds 24 = .ok (.istore_n 3, 1) := by decide +kernel
theorem dX9_odds_25 : decode cX9_odds 25 = .ok (.iconst 0, 1) := by decide +kernel
theorem dX9_odds_26 : decode cX9_odds 26 = .ok (.istore 4, 2) := by decide +kernel
theorem dX9_odds_28 : decode cX9_odds 28 = .ok (.iload 4, 2) := by decide +kernel
theorem dX9_odds_30 : decode cX9_odds 30 = .ok (.iconst 4, 1) := by decide +kernel
theorem dX9_odds_31 : decode cX9_odds 31 = .ok (.if_icmp .gt 41, 3) := by decide +kernel
theorem dX9_odds_34 : decode cX9_odds 34 = .ok (.aload_n 0, 1) := by decide +kernel
theorem dX9_odds_35 : decode cX9_odds 35 = .ok (.invokevirtual 260, 3) := by decide +kernel
theorem dX9_odds_38 : decode cX9_odds 38 = .ok (.aload_n 0, 1) := by decide +kernel
theorem dX9_odds_39 : decode cX9_odds 39 = .ok (.iload 4, 2) := by decide +kernel
theorem dX9_odds_41 : decode cX9_odds 41 = .ok (.putfield 159, 3) := by decide +kernel
theorem dX9_odds_44 : decode cX9_odds 44 = .ok (.aload_n 0, 1) := by decide +kernel
theorem dX9_odds_45 : decode cX9_odds 45 = .ok (.bipush 20, 2) := by decide +kernel
theorem dX9_odds_47 : decode cX9_odds 47 = .ok (.invokevirtual 263, 3) := by decide +kernel
theorem dX9_odds_50 : decode cX9_odds 50 = .ok (.iload_n 3, 1) := by decide +kernel
theorem dX9_odds_51 : decode cX9_odds 51 = .ok (.aload_n 0, 1) := by decide +kernel
theorem dX9_odds_52 : decode cX9_odds 52 = .ok (.getfield 244, 3) := by decide +kernel
theorem dX9_odds_55 : decode cX9_odds 55 = .ok (.iload_n 1, 1) := by decide +kernel
theorem dX9_odds_56 : decode cX9_odds 56 = .ok (.if_icmp .lt 7, 3) := by decide +kernel
theorem dX9_odds_59 : decode cX9_odds 59 = .ok (.iconst 1, 1) := by decide +kernel
theorem dX9_odds_60 : decode cX9_odds 60 = .ok (.goto 4, 3) := by decide +kernel
theorem dX9_odds_63 : decode cX9_odds 63 = .ok (.iconst 0, 1) := by decide +kernel
theorem dX9_odds_64 : decode cX9_odds 64 = .ok (.iadd, 1) := by decide +kernel
theorem dX9_odds_65 : decode cX9_odds 65 = .ok (.istore_n 3, 1) := by decide +kernel
theorem dX9_odds_66 : decode cX9_odds 66 = .ok (.iinc 4 1, 3) := by decide +kernel
theorem dX9_odds_69 : decode cX9_odds 69 = .ok (.goto (-41), 3) := by decide +kernel
theorem dX9_odds_72 : decode cX9_odds 72 = .ok (.iload_n 2, 1) := by decide +kernel
theorem dX9_odds_73 : decode cX9_odds 73 = .ok (.ifCond .ne 8, 3) := by decide +kernel
theorem dX9_odds_76 : decode cX9_odds 76 = .ok (.iload_n 3, 1) := by decide +kernel
theorem dX9_odds_77 : decode cX9_odds 77 = .ok (.i2l, 1) := by decide +kernel
theorem dX9_odds_78 : decode cX9_odds 78 = .ok (.goto 6, 3) := by decide +kernel
theorem dX9_odds_81 : decode cX9_odds 81 = .ok (.ldc2_w 332, 3) := by decide +kernel
theorem dX9_odds_84 : decode cX9_odds 84 = .ok (.iload_n 3, 1) := by decide +kernel
theorem dX9_odds_85 : decode cX9_odds 85 = .ok (.i2l, 1) := by decide +kernel
theorem dX9_odds_86 : decode cX9_odds 86 = .ok (.ldc2_w 332, 3) := by decide +kernel
theorem dX9_odds_89 : decode cX9_odds 89 = .ok (.invokestatic 360, 3) := by decide +kernel
theorem dX9_odds_92 : decode cX9_odds 92 = .ok (.ldiv, 1) := by decide +kernel
theorem dX9_odds_93 : decode cX9_odds 93 = .ok (.lreturn, 1) := by decide +kernel
theorem dX9_mean_0 : decode cX9_mean 0 = .ok (.iload_n 1, 1) := by decide +kernel
theorem dX9_mean_1 : decode cX9_mean 1 = .ok (.invokestatic 329, 3) := by decide +kernel
theorem dX9_mean_4 : decode cX9_mean 4 = .ok (.ifCond .eq 10, 3) := by decide +kernel
theorem dX9_mean_7 : decode cX9_mean 7 = .ok (.aload_n 0, 1) := by decide +kernel
theorem dX9_mean_8 : decode cX9_mean 8 = .ok (.getfield 181, 3) := by decide +kernel
theorem dX9_mean_11 : decode cX9_mean 11 = .ok (.ifCond .ne 7, 3) := by decide +kernel
theorem dX9_mean_14 : decode cX9_mean 14 = .ok (.ldc2_w 124, 3) := by decide +kernel
theorem dX9_mean_17 : decode cX9_mean 17 = .ok (.lreturn, 1) := by decide +kernel
theorem dX9_mean_18 : decode cX9_mean 18 = .ok (.iconst 0, 1) := by decide +kernel
theorem dX9_mean_19 : decode cX9_mean 19 = .ok (.istore_n 2, 1) := by decide +kernel
theorem dX9_mean_20 : decode cX9_mean 20 = .ok (.iconst 0, 1) := by decide +kernel
theorem dX9_mean_21 : decode cX9_mean 21 = .ok (.istore_n 3, 1) := by decide +kernel
theorem dX9_mean_22 : decode cX9_mean 22 = .ok (.iload_n 3, 1) := by decide +kernel
theorem dX9_mean_23 : decode cX9_mean 23 = .ok (.aload_n 0, 1) := by decide +kernel
theorem dX9_mean_24 : decode cX9_mean 24 = .ok (.getfield 181, 3) := by decide +kernel
theorem dX9_mean_27 : decode cX9_mean 27 = .ok (.if_icmp .ge 18, 3) := by decide +kernel
theorem dX9_mean_30 : decode cX9_mean 30 = .ok (.iload_n 2, 1) := by decide +kernel
theorem dX9_mean_31 : decode cX9_mean 31 = .ok (.aload_n 0, 1) := by decide +kernel
theorem dX9_mean_32 : decode cX9_mean 32 = .ok (.getfield 21, 3) := by decide +kernel
theorem dX9_mean_35 : decode cX9_mean 35 = .ok (.iload_n 3, 1) := by decide +kernel
theorem dX9_mean_36 : decode cX9_mean 36 = .ok (.iaload, 1) := by decide +kernel
theorem dX9_mean_37 : decode cX9_mean 37 = .ok (.iadd, 1) := by decide +kernel
theorem dX9_mean_38 : decode cX9_mean 38 = .ok (.istore_n 2, 1) := by decide +kernel
theorem dX9_mean_39 : decode cX9_mean 39 = .ok (.iinc 3 1, 3) := by decide +kernel
theorem dX9_mean_42 : decode cX9_mean 42 = .ok (.goto (-20), 3) := by decide +kernel
theorem dX9_mean_45 : decode cX9_mean 45 = .ok (.iload_n 1, 1) := by decide +kernel
theorem dX9_mean_46 : decode cX9_mean 46 = .ok (.ifCond .ne 7, 3) := by decide +kernel
theorem dX9_mean_49 : decode cX9_mean 49 = .ok (.iload_n 2, 1) := by decide +kernel
theorem dX9_mean_50 : decode cX9_mean 50 = .ok (.goto 7, 3) := by decide +kernel
theorem dX9_mean_53 : decode cX9_mean 53 = .ok (.aload_n 0, 1) := by decide +kernel
theorem dX9_mean_54 : decode cX9_mean 54 = .ok (.getfield 181, 3) := by decide +kernel
theorem dX9_mean_57 : decode cX9_mean 57 = .ok (.i2l, 1) := by decide +kernel
theorem dX9_mean_58 : decode cX9_mean 58 = .ok (.iload_n 2, 1) := by decide +kernel
theorem dX9_mean_59 : decode cX9_mean 59 = .ok (.i2l, 1) := by decide +kernel
theorem dX9_mean_60 : decode cX9_mean 60 = .ok (.aload_n 0, 1) := by decide +kernel
theorem dX9_mean_61 : decode cX9_mean 61 = .ok (.getfield 181, 3) := by decide +kernel
theorem dX9_mean_64 : decode cX9_mean 64 = .ok (.i2l, 1) := by decide +kernel
theorem dX9_mean_65 : decode cX9_mean 65 = .ok (.invokestatic 360, 3) := by decide +kernel
theorem dX9_mean_68 : decode cX9_mean 68 = .ok (.ldiv, 1) := by decide +kernel
theorem dX9_mean_69 : decode cX9_mean 69 = .ok (.lreturn, 1) := by decide +kernel
theorem dX9_event_0 : decode cX9_event 0 = .ok (.iload_n 1, 1) := by decide +kernel
theorem dX9_event_1 : decode cX9_event 1 = .ok (.iconst (-1), 1) := by decide +kernel
theorem dX9_event_2 : decode cX9_event 2 = .ok (.if_icmp .ne 10, 3) := by decide +kernel
theorem dX9_event_5 : decode cX9_event 5 = .ok (.aload_n 0, 1) := by decide +kernel
theorem dX9_event_6 : decode cX9_event 6 = .ok (.iconst 0, 1) := by decide +kernel
theorem dX9_event_7 : decode cX9_event 7 = .ok (.putfield 363, 3) := by decide +kernel
theorem dX9_event_10 : decode cX9_event 10 = .ok (.iconst 0, 1) := by decide +kernel
theorem dX9_event_11 : decode cX9_event 11 = .ok (.ireturn, 1) := by decide +kernel
theorem dX9_event_12 : decode cX9_event 12 = .ok (.iload_n 1, 1) := by decide +kernel
theorem dX9_event_13 : decode cX9_event 13 = .ok (.i2l, 1) := by decide +kernel
theorem dX9_event_14 : decode cX9_event 14 = .ok (.lconst 0, 1) := by decide +kernel
theorem dX9_event_15 : decode cX9_event 15 = .ok (.ldc2_w 366, 3) := by decide +kernel
theorem dX9_event_18 : decode cX9_event 18 = .ok (.invokestatic 266, 3) := by decide +kernel
theorem dX9_event_21 : decode cX9_event 21 = .ok (.ifCond .eq 15, 3) := by decide +kernel
theorem dX9_event_24 : decode cX9_event 24 = .ok (.iload_n 1, 1) := by decide +kernel
theorem dX9_event_25 : decode cX9_event 25 = .ok (.ifCond .ne 13, 3) := by decide +kernel
theorem dX9_event_28 : decode cX9_event 28 = .ok (.aload_n 0, 1) := by decide +kernel
theorem dX9_event_29 : decode cX9_event 29 = .ok (.iload_n 2, 1) := by decide +kernel
theorem dX9_event_30 : decode cX9_event 30 = .ok (.invokevirtual 276, 3) := by decide +kernel
theorem dX9_event_33 : decode cX9_event 33 = .ok (.ifCond .ne 5, 3) := by decide +kernel
theorem dX9_event_36 : decode cX9_event 36 = .ok (.iconst (-1), 1) := by decide +kernel
theorem dX9_event_37 : decode cX9_event 37 = .ok (.ireturn, 1) := by decide +kernel
theorem dX9_event_38 : decode cX9_event 38 = .ok (.iload_n 1, 1) := by decide +kernel
theorem dX9_event_39 : decode cX9_event 39 = .ok (.iconst 1, 1) := by decide +kernel
theorem dX9_event_40 : decode cX9_event 40 = .ok (.if_icmp .ne 7, 3) := by decide +kernel
theorem dX9_event_43 : decode cX9_event 43 = .ok (.iload_n 2, 1) := by decide +kernel
theorem dX9_event_44 : decode cX9_event 44 = .ok (.ifCond .ne 43, 3) := by decide +kernel
theorem dX9_event_47 : decode cX9_event 47 = .ok (.iload_n 1, 1) := by decide +kernel
theorem dX9_event_48 : decode cX9_event 48 = .ok (.iconst 2, 1) := by decide +kernel
theorem dX9_event_49 : decode cX9_event 49 = .ok (.if_icmp .ne 15, 3) := by decide +kernel
theorem dX9_event_52 : decode cX9_event 52 = .ok (.iload_n 2, 1) := by decide +kernel
theorem dX9_event_53 : decode cX9_event 53 = .ok (.i2l, 1) := by decide +kernel
theorem dX9_event_54 : decode cX9_event 54 = .ok (.lconst 0, 1) := by decide +kernel
theorem dX9_event_55 : decode cX9_event 55 = .ok (.ldc2_w 157, 3) := by decide +kernel
theorem dX9_event_58 : decode cX9_event 58 = .ok (.invokestatic 266, 3) := by decide +kernel
theorem dX9_event_61 : decode cX9_event 61 = .ok (.ifCond .eq 26, 3) := by decide +kernel
theorem dX9_event_64 : decode cX9_event 64 = .ok (.iload_n 1, 1) := by decide +kernel
theorem dX9_event_65 : decode cX9_event 65 = .ok (.iconst 3, 1) := by decide +kernel
theorem dX9_event_66 : decode cX9_event 66 = .ok (.if_icmp .ne 24, 3) := by decide +kernel
theorem dX9_event_69 : decode cX9_event 69 = .ok (.iload_n 2, 1) := by decide +kernel
theorem dX9_event_70 : decode cX9_event 70 = .ok (.i2l, 1) := by decide +kernel
theorem dX9_event_71 : decode cX9_event 71 = .ok (.lconst 0, 1) := by decide +kernel
theorem dX9_event_72 : decode cX9_event 72 = .ok (.ldc2_w 157, 3) := by decide +kernel
theorem dX9_event_75 : decode cX9_event 75 = .ok (.invokestatic 266, 3) := by decide +kernel
theorem dX9_event_78 : decode cX9_event 78 = .ok (.ifCond .ne 12, 3) := by decide +kernel
theorem dX9_event_81 : decode cX9_event 81 = .ok (.iload_n 2, 1) := by decide +kernel
theorem dX9_event_82 : decode cX9_event 82 = .ok (.bipush 9, 2) := by decide +kernel
theorem dX9_event_84 : decode cX9_event 84 = .ok (.if_icmp .eq 6, 3) := by decide +kernel
theorem dX9_event_87 : decode cX9_event 87 = .ok (.bipush (-2), 2) := by decide +kernel
theorem dX9_event_89 : decode cX9_event 89 = .ok (.ireturn, 1) := by decide +kernel
theorem dX9_event_90 : decode cX9_event 90 = .ok (.aload_n 0, 1) := by decide +kernel
theorem dX9_event_91 : decode cX9_event 91 = .ok (.getfield 363, 3) := by decide +kernel
theorem dX9_event_94 : decode cX9_event 94 = .ok (.bipush 8, 2) := by decide +kernel
theorem dX9_event_96 : decode cX9_event 96 = .ok (.if_icmp .ne 6, 3) := by decide +kernel
theorem dX9_event_99 : decode cX9_event 99 = .ok (.bipush (-4), 2) := by decide +kernel
theorem dX9_event_101 : decode cX9_event 101 = .ok (.ireturn, 1) := by decide +kernel
theorem dX9_event_102 : decode cX9_event 102 = .ok (.aload_n 0, 1) := by decide +kernel
theorem dX9_event_103 : decode cX9_event 103 = .ok (.getfield 44, 3) := by decide +kernel
theorem dX9_event_106 : decode cX9_event 106 = .ok (.aload_n 0, 1) := by decide +kernel
theorem dX9_event_107 : decode cX9_event 107 = .ok (.getfield 363, 3) := by decide +kernel
theorem dX9_event_110 : decode cX9_event 110 = .ok (.iload_n 1, 1) := by decide +kernel
theorem dX9_event_111 : decode cX9_event 111 = .ok (.iastore, 1) := by decide +kernel
theorem dX9_event_112 : decode cX9_event 112 = .ok (.aload_n 0, 1) := by decide +kernel
theorem dX9_event_113 : decode cX9_event 113 = .ok (.getfield 47, 3) := by decide +kernel
theorem dX9_event_116 : decode cX9_event 116 = .ok (.aload_n 0, 1) := by decide +kernel
theorem dX9_event_117 : decode cX9_event 117 = .ok (.getfield 363, 3) := by decide +kernel
theorem dX9_event_120 : decode cX9_event 120 = .ok (.iload_n 2, 1) := by decide +kernel
theorem dX9_event_121 : decode cX9_event 121 = .ok (.iastore, 1) := by decide +kernel
theorem dX9_event_122 : decode cX9_event 122 = .ok (.aload_n 0, 1) := by decide +kernel
theorem dX9_event_123 : decode cX9_event 123 = .ok (.dup, 1) := by decide +kernel
theorem dX9_event_124 : decode cX9_event 124 = .ok (.getfield 363, 3) := by decide +kernel
theorem dX9_event_127 : decode cX9_event 127 = .ok (.iconst 1, 1) := by decide +kernel
theorem dX9_event_128 : decode cX9_event 128 = .ok (.iadd, 1) := by decide +kernel
theorem dX9_event_129 : decode cX9_event 129 = .ok (.putfield 363, 3) := by decide +kernel
theorem dX9_event_132 : decode cX9_event 132 = .ok (.aload_n 0, 1) := by decide +kernel
theorem dX9_event_133 : decode cX9_event 133 = .ok (.getfield 363, 3) := by decide +kernel
theorem dX9_event_136 : decode cX9_event 136 = .ok (.ireturn, 1) := by decide +kernel
theorem dX9_happens_0 : decode cX9_happens 0 = .ok (.iload_n 1, 1) := by decide +kernel
theorem dX9_happens_1 : decode cX9_happens 1 = .ok (.ifCond .ne 18, 3) := by decide +kernel
theorem dX9_happens_4 : decode cX9_happens 4 = .ok (.iload_n 2, 1) := by decide +kernel
theorem dX9_happens_5 : decode cX9_happens 5 = .ok (.aload_n 0, 1) := by decide +kernel
theorem dX9_happens_6 : decode cX9_happens 6 = .ok (.getfield 181, 3) := by decide +kernel
theorem dX9_happens_9 : decode cX9_happens 9 = .ok (.if_icmp .ge 10, 3) := by decide +kernel
theorem dX9_happens_12 : decode cX9_happens 12 = .ok (.aload_n 0, 1) := by decide +kernel
theorem dX9_happens_13 : decode cX9_happens 13 = .ok (.iload_n 2, 1) := by decide +kernel
theorem dX9_happens_14 : decode cX9_happens 14 = .ok (.lconst 0, 1) := by decide +kernel
theorem dX9_happens_15 : decode cX9_happens 15 = .ok (.lconst 1, 1) := by decide +kernel
theorem dX9_happens_16 : decode cX9_happens 16 = .ok (.invokevirtual 240, 3) := by decide +kernel
theorem dX9_happens_19 : decode cX9_happens 19 = .ok (.iload_n 1, 1) := by decide +kernel
theorem dX9_happens_20 : decode cX9_happens 20 = .ok (.iconst 1, 1) := by decide +kernel
theorem dX9_happens_21 : decode cX9_happens 21 = .ok (.if_icmp .ne 50, 3) := by decide +kernel
theorem dX9_happens_24 : decode cX9_happens 24 = .ok (.iconst 0, 1) := by decide +kernel
theorem dX9_happens_25 : decode cX9_happens 25 = .ok (.istore_n 3, 1) := by decide +kernel
theorem dX9_happens_26 : decode cX9_happens 26 = .ok (.iload_n 3, 1) := by decide +kernel
theorem dX9_happens_27 : decode cX9_happens 27 = .ok (.aload_n 0, 1) := by decide +kernel
theorem dX9_happens_28 : decode cX9_happens 28 = .ok (.getfield 181, 3) := by decide +kernel
theorem dX9_happens_31 : decode cX9_happens 31 = .ok (.if_icmp .ge 40, 3) := by decide +kernel
theorem dX9_happens_34 : decode cX9_happens 34 = .ok (.aload_n 0, 1) := by decide +kernel
theorem dX9_happens_35 : decode cX9_happens 35 = .ok (.lconst 0, 1) := by decide +kernel
theorem dX9_happens_36 : decode cX9_happens 36 = .ok (.lconst 1, 1) := by decide +kernel
theorem dX9_happens_37 : decode cX9_happens 37 = .ok (.aload_n 0, 1) := by decide +kernel
theorem dX9_happens_38 : decode cX9_happens 38 = .ok (.getfield 65, 3) := by decide +kernel
theorem dX9_happens_41 : decode cX9_happens 41 = .ok (.iload_n 3, 1) := by decide +kernel
theorem dX9_happens_42 : decode cX9_happens 42 = .ok (.laload, 1) := by decide +kernel
theorem dX9_happens_43 : decode cX9_happens 43 = .ok (.aload_n 0, 1) := by decide +kernel
theorem dX9_happens_44 : decode cX9_happens 44 = .ok (.getfield 68, 3) := by decide +kernel
theorem dX9_happens_47 : decode cX9_happens 47 = .ok (.iload_n 3, 1) := by decide +kernel
theorem dX9_happens_48 : decode cX9_happens 48 = .ok (.laload, 1) := by decide +kernel
theorem dX9_happens_49 : decode cX9_happens 49 = .ok (.invokevirtual 151, 3) := by decide +kernel
theorem dX9_happens_52 : decode cX9_happens 52 = .ok (.aload_n 0, 1) := by decide +kernel
theorem dX9_happens_53 : decode cX9_happens 53 = .ok (.iload_n 3, 1) := by decide +kernel
theorem dX9_happens_54 : decode cX9_happens 54 = .ok (.aload_n 0, 1) := by decide +kernel
theorem dX9_happens_55 : decode cX9_happens 55 = .ok (.getfield 130, 3) := by decide +kernel
theorem dX9_happens_58 : decode cX9_happens 58 = .ok (.aload_n 0, 1) := by decide +kernel
theorem dX9_happens_59 : decode cX9_happens 59 = .ok (.getfield 134, 3) := by decide +kernel
theorem dX9_happens_62 : decode cX9_happens 62 = .ok (.invokevirtual 240, 3) := by decide +kernel
theorem dX9_happens_65 : decode cX9_happens 65 = .ok (.iinc 3 1, 3) := by decide +kernel
theorem dX9_happens_68 : decode cX9_happens 68 = .ok (.goto (-42), 3) := by decide +kernel
theorem dX9_happens_71 : decode cX9_happens 71 = .ok (.iload_n 1, 1) := by decide +kernel
theorem dX9_happens_72 : decode cX9_happens 72 = .ok (.iconst 2, 1) := by decide +kernel
theorem dX9_happens_73 : decode cX9_happens 73 = .ok (.if_icmp .ne 8, 3) := by decide +kernel
theorem dX9_happens_76 : decode cX9_happens 76 = .ok (.aload_n 0, 1) := by decide +kernel
theorem dX9_happens_77 : decode cX9_happens 77 = .ok (.iload_n 2, 1) := by decide +kernel
theorem dX9_happens_78 : decode cX9_happens 78 = .ok (.putfield 159, 3) := by decide +kernel
theorem dX9_happens_81 : decode cX9_happens 81 = .ok (.iload_n 1, 1) := by decide +kernel
theorem dX9_happens_82 : decode cX9_happens 82 = .ok (.iconst 3, 1) := by decide +kernel
theorem dX9_happens_83 : decode cX9_happens 83 = .ok (.if_icmp .ne 63, 3) := by decide +kernel
theorem dX9_happens_86 : decode cX9_happens 86 = .ok (.aload_n 0, 1) := by decide +kernel
theorem dX9_happens_87 : decode cX9_happens 87 = .ok (.aload_n 0, 1) := by decide +kernel
theorem dX9_happens_88 : decode cX9_happens 88 = .ok (.iconst 0, 1) := by decide +kernel
theorem dX9_happens_89 : decode cX9_happens 89 = .ok (.invokevirtual 280, 3) := by decide +kernel
theorem dX9_happens_92 : decode cX9_happens 92 = .ok (.ifCond .eq 10, 3) := by decide +kernel
theorem dX9_happens_95 : decode cX9_happens 95 = .ok (.aload_n 0, 1) := by decide +kernel
theorem dX9_happens_96 : decode cX9_happens 96 = .ok (.getfield 162, 3) := by decide +kernel
theorem dX9_happens_99 : decode cX9_happens 99 = .ok (.goto 14, 3) := by decide +kernel
theorem dX9_happens_102 : decode cX9_happens 102 = .ok (.iload_n 2, 1) := by decide +kernel
theorem dX9_happens_103 : decode cX9_happens 103 = .ok (.bipush 9, 2) := by decide +kernel
theorem dX9_happens_105 : decode cX9_happens 105 = .ok (.if_icmp .ne 7, 3) := by decide +kernel
theorem dX9_happens_108 : decode cX9_happens 108 = .ok (.iconst (-1), 1) := by decide +kernel
theorem dX9_happens_109 : decode cX9_happens 109 = .ok (.goto 4, 3) := by decide +kernel
theorem dX9_happens_112 : decode cX9_happens 112 = .ok (.iload_n 2, 1) := by decide +kernel
theorem dX9_happens_113 : decode cX9_happens 113 = .ok (.putfield 162, 3) := by decide +kernel
theorem dX9_happens_116 : decode cX9_happens 116 = .ok (.aload_n 0, 1) := by decide +kernel
theorem dX9_happens_117 : decode cX9_happens 117 = .ok (.aload_n 0, 1) := by decide +kernel
theorem dX9_happens_118 : decode cX9_happens 118 = .ok (.iconst 1, 1) := by decide +kernel
theorem dX9_happens_119 : decode cX9_happens 119 = .ok (.invokevirtual 280, 3) := by decide +kernel
theorem dX9_happens_122 : decode cX9_happens 122 = .ok (.ifCond .eq 10, 3) := by decide +kernel
theorem dX9_happens_125 : decode cX9_happens 125 = .ok (.aload_n 0, 1) := by decide +kernel
theorem dX9_happens_126 : decode cX9_happens 126 = .ok (.getfield 165, 3) := by decide +kernel
theorem dX9_happens_129 : decode cX9_happens 129 = .ok (.goto 14, 3) := by decide +kernel
theorem dX9_happens_132 : decode cX9_happens 132 = .ok (.iload_n 2, 1) := by decide +kernel
theorem dX9_happens_133 : decode cX9_happens 133 = .ok (.bipush 9, 2) := by decide +kernel
theorem dX9_happens_135 : decode cX9_happens 135 = .ok (.if_icmp .ne 7, 3) := by decide +kernel
theorem dX9_happens_138 : decode cX9_happens 138 = .ok (.iconst (-1), 1) := by decide +kernel
theorem dX9_happens_139 : decode cX9_happens 139 = .ok (.goto 4, 3) := by decide +kernel
theorem dX9_happens_142 : decode cX9_happens 142 = .ok (.iload_n 2, 1) := by decide +kernel
theorem dX9_happens_143 : decode cX9_happens 143 = .ok (.putfield 165, 3) := by decide +kernel
theorem dX9_happens_146 : decode cX9_happens 146 = .ok (.return_, 1) := by decide +kernel
theorem dX9_after_0 : decode cX9_after 0 = .ok (.iload_n 1, 1) := by decide +kernel
theorem dX9_after_1 : decode cX9_after 1 = .ok (.i2l, 1) := by decide +kernel
theorem dX9_after_2 : decode cX9_after 2 = .ok (.lconst 0, 1) := by decide +kernel
theorem dX9_after_3 : decode cX9_after 3 = .ok (.ldc2_w 155, 3) := by decide +kernel
theorem dX9_after_6 : decode cX9_after 6 = .ok (.invokestatic 266, 3) := by decide +kernel
theorem dX9_after_9 : decode cX9_after 9 = .ok (.ifCond .ne 5, 3) := by decide +kernel
theorem dX9_after_12 : decode cX9_after 12 = .ok (.iconst (-1), 1) := by decide +kernel
theorem dX9_after_13 : decode cX9_after 13 = .ok (.ireturn, 1) := by decide +kernel
theorem dX9_after_14 : decode cX9_after 14 = .ok (.aload_n 0, 1) := by decide +kernel
theorem dX9_after_15 : decode cX9_after 15 = .ok (.invokevirtual 260, 3) := by decide +kernel
theorem dX9_after_18 : decode cX9_after 18 = .ok (.aload_n 0, 1) := by decide +kernel
theorem dX9_after_19 : decode cX9_after 19 = .ok (.iconst 0, 1) := by decide +kernel
theorem dX9_after_20 : decode cX9_after 20 = .ok (.putfield 126, 3) := by decide +kernel
theorem dX9_after_23 : decode cX9_after 23 = .ok (.iconst 0, 1) := by decide +kernel
theorem dX9_after_24 : decode cX9_after 24 = .ok (.istore_n 2, 1) := by decide +kernel
theorem dX9_after_25 : decode cX9_after 25 = .ok (.iload_n 2, 1) := by decide +kernel
theorem dX9_after_26 : decode cX9_after 26 = .ok (.aload_n 0, 1) := by decide +kernel
theorem dX9_after_27 : decode cX9_after 27 = .ok (.getfield 363, 3) := by decide +kernel
theorem dX9_after_30 : decode cX9_after 30 = .ok (.if_icmp .ge 25, 3) := by decide +kernel
theorem dX9_after_33 : decode cX9_after 33 = .ok (.aload_n 0, 1) := by decide +kernel
theorem dX9_after_34 : decode cX9_after 34 = .ok (.aload_n 0, 1) := by decide +kernel
theorem dX9_after_35 : decode cX9_after 35 = .ok (.getfield 44, 3) := by decide +kernel
theorem dX9_after_38 : decode cX9_after 38 = .ok (.iload_n 2, 1) := by decide +kernel
theorem dX9_after_39 : decode cX9_after 39 = .ok (.iaload, 1) := by decide +kernel
theorem dX9_after_40 : decode cX9_after 40 = .ok (.aload_n 0, 1) := by decide +kernel
theorem dX9_after_41 : decode cX9_after 41 = .ok (.getfield 47, 3) := by decide +kernel
theorem dX9_after_44 : decode cX9_after 44 = .ok (.iload_n 2, 1) := by decide +kernel
theorem dX9_after_45 : decode cX9_after 45 = .ok (.iaload, 1) := by decide +kernel
theorem dX9_after_46 : decode cX9_after 46 = .ok (.invokevirtual 368, 3) := by decide +kernel
theorem dX9_after_49 : decode cX9_after 49 = .ok (.iinc 2 1, 3) := by decide +kernel
theorem dX9_after_52 : decode cX9_after 52 = .ok (.goto (-27), 3) := by decide +kernel
theorem dX9_after_55 : decode cX9_after 55 = .ok (.aload_n 0, 1) := by decide +kernel
theorem dX9_after_56 : decode cX9_after 56 = .ok (.bipush 20, 2) := by decide +kernel
theorem dX9_after_58 : decode cX9_after 58 = .ok (.invokevirtual 263, 3) := by decide +kernel
theorem dX9_after_61 : decode cX9_after 61 = .ok (.iload_n 1, 1) := by decide +kernel
theorem dX9_after_62 : decode cX9_after 62 = .ok (.ifCond .ne 10, 3) := by decide +kernel
theorem dX9_after_65 : decode cX9_after 65 = .ok (.aload_n 0, 1) := by decide +kernel
theorem dX9_after_66 : decode cX9_after 66 = .ok (.getfield 244, 3) := by decide +kernel
theorem dX9_after_69 : decode cX9_after 69 = .ok (.goto 33, 3) := by decide +kernel
theorem dX9_after_72 : decode cX9_after 72 = .ok (.iload_n 1, 1) := by decide +kernel
theorem dX9_after_73 : decode cX9_after 73 = .ok (.iconst 1, 1) := by decide +kernel
theorem dX9_after_74 : decode cX9_after 74 = .ok (.if_icmp .ne 10, 3) := by decide +kernel
theorem dX9_after_77 : decode cX9_after 77 = .ok (.aload_n 0, 1) := by decide +kernel
theorem dX9_after_78 : decode cX9_after 78 = .ok (.getfield 247, 3) := by decide +kernel
theorem dX9_after_81 : decode cX9_after 81 = .ok (.goto 21, 3) := by decide +kernel
theorem dX9_after_84 : decode cX9_after 84 = .ok (.aload_n 0, 1) := by decide +kernel
theorem dX9_after_85 : decode cX9_after 85 = .ok (.getfield 244, 3) := by decide +kernel
theorem dX9_after_88 : decode cX9_after 88 = .ok (.ifCond .le 12, 3) := by decide +kernel
theorem dX9_after_91 : decode cX9_after 91 = .ok (.aload_n 0, 1) := by decide +kernel
theorem dX9_after_92 : decode cX9_after 92 = .ok (.getfield 77, 3) := by decide +kernel
theorem dX9_after_95 : decode cX9_after 95 = .ok (.iconst 0, 1) := by decide +kernel
theorem dX9_after_96 : decode cX9_after 96 = .ok (.iaload, 1) := by decide +kernel
theorem dX9_after_97 : decode cX9_after 97 = .ok (.goto 5, 3) := by decide +kernel
theorem dX9_after_100 : decode cX9_after 100 = .ok (.bipush (-5), 2) := by decide +kernel
theorem dX9_after_102 : decode cX9_after 102 = .ok (.ireturn, 1) := by decide +kernel
theorem dX9_book_0 : decode cX9_book 0 = .ok (.iload_n 1, 1) := by decide +kernel
theorem dX9_book_1 : decode cX9_book 1 = .ok (.iconst (-1), 1) := by decide +kernel
theorem dX9_book_2 : decode cX9_book 2 = .ok (.if_icmp .ne 10, 3) := by decide +kernel
theorem dX9_book_5 : decode cX9_book 5 = .ok (.aload_n 0, 1) := by decide +kernel
theorem dX9_book_6 : decode cX9_book 6 = .ok (.iconst 0, 1) := by decide +kernel
theorem dX9_book_7 : decode cX9_book 7 = .ok (.putfield 371, 3) := by decide +kernel
theorem dX9_book_10 : decode cX9_book 10 = .ok (.iconst 0, 1) := by decide +kernel
theorem dX9_book_11 : decode cX9_book 11 = .ok (.ireturn, 1) := by decide +kernel
theorem dX9_book_12 : decode cX9_book 12 = .ok (.iload_n 1, 1) := by decide +kernel
theorem dX9_book_13 : decode cX9_book 13 = .ok (.i2l, 1) := by decide +kernel
theorem dX9_book_14 : decode cX9_book 14 = .ok (.lconst 0, 1) := by decide +kernel
theorem dX9_book_15 : decode cX9_book 15 = .ok (.ldc2_w 351, 3) := by decide +kernel
theorem dX9_book_18 : decode cX9_book 18 = .ok (.invokestatic 266, 3) := by decide +kernel
theorem dX9_book_21 : decode cX9_book 21 = .ok (.ifCond .eq 10, 3) := by decide +kernel
theorem dX9_book_24 : decode cX9_book 24 = .ok (.iload_n 2, 1) := by decide +kernel
theorem dX9_book_25 : decode cX9_book 25 = .ok (.invokestatic 353, 3) := by decide +kernel
theorem dX9_book_28 : decode cX9_book 28 = .ok (.ifCond .ne 5, 3) := by decide +kernel
theorem dX9_book_31 : decode cX9_book 31 = .ok (.iconst (-1), 1) := by decide +kernel
theorem dX9_book_32 : decode cX9_book 32 = .ok (.ireturn, 1) := by decide +kernel
theorem dX9_book_33 : decode cX9_book 33 = .ok (.aload_n 0, 1) := by decide +kernel
theorem dX9_book_34 : decode cX9_book 34 = .ok (.getfield 371, 3) := by decide +kernel
theorem dX9_book_37 : decode cX9_book 37 = .ok (.bipush 8, 2) := by decide +kernel
theorem dX9_book_39 : decode cX9_book 39 = .ok (.if_icmp .ne 6, 3) := by decide +kernel
theorem dX9_book_42 : decode cX9_book 42 = .ok (.bipush (-4), 2) := by decide +kernel
theorem dX9_book_44 : decode cX9_book 44 = .ok (.ireturn, 1) := by decide +kernel
theorem dX9_book_45 : decode cX9_book 45 = .ok (.aload_n 0, 1) := by decide +kernel
theorem dX9_book_46 : decode cX9_book 46 = .ok (.getfield 50, 3) := by decide +kernel
theorem dX9_book_49 : decode cX9_book 49 = .ok (.aload_n 0, 1) := by decide +kernel
theorem dX9_book_50 : decode cX9_book 50 = .ok (.getfield 371, 3) := by decide +kernel
theorem dX9_book_53 : decode cX9_book 53 = .ok (.iload_n 1, 1) := by decide +kernel
theorem dX9_book_54 : decode cX9_book 54 = .ok (.iastore, 1) := by decide +kernel
theorem dX9_book_55 : decode cX9_book 55 = .ok (.aload_n 0, 1) := by decide +kernel
theorem dX9_book_56 : decode cX9_book 56 = .ok (.getfield 53, 3) := by decide +kernel
theorem dX9_book_59 : decode cX9_book 59 = .ok (.aload_n 0, 1) := by decide +kernel
theorem dX9_book_60 : decode cX9_book 60 = .ok (.getfield 371, 3) := by decide +kernel
theorem dX9_book_63 : decode cX9_book 63 = .ok (.iload_n 2, 1) := by decide +kernel
theorem dX9_book_64 : decode cX9_book 64 = .ok (.iastore, 1) := by decide +kernel
theorem dX9_book_65 : decode cX9_book 65 = .ok (.aload_n 0, 1) := by decide +kernel
theorem dX9_book_66 : decode cX9_book 66 = .ok (.dup, 1) := by decide +kernel
theorem dX9_book_67 : decode cX9_book 67 = .ok (.getfield 371, 3) := by decide +kernel
theorem dX9_book_70 : decode cX9_book 70 = .ok (.iconst 1, 1) := by decide +kernel
theorem dX9_book_71 : decode cX9_book 71 = .ok (.iadd, 1) := by decide +kernel
theorem dX9_book_72 : decode cX9_book 72 = .ok (.putfield 371, 3) := by decide +kernel
theorem dX9_book_75 : decode cX9_book 75 = .ok (.aload_n 0, 1) := by decide +kernel
theorem dX9_book_76 : decode cX9_book 76 = .ok (.getfield 371, 3) := by decide +kernel
theorem dX9_book_79 : decode cX9_book 79 = .ok (.ireturn, 1) := by decide +kernel
theorem dX9_looked_0 : decode cX9_looked 0 = .ok (.aload_n 0, 1) := by decide +kernel
theorem dX9_looked_1 : decode cX9_looked 1 = .ok (.invokevirtual 289, 3) := by decide +kernel
theorem dX9_looked_4 : decode cX9_looked 4 = .ok (.iconst 0, 1) := by decide +kernel
theorem dX9_looked_5 : decode cX9_looked 5 = .ok (.istore_n 1, 1) := by decide +kernel
theorem dX9_looked_6 : decode cX9_looked 6 = .ok (.iload_n 1, 1) := by decide +kernel
theorem dX9_looked_7 : decode cX9_looked 7 = .ok (.aload_n 0, 1) := by decide +kernel
theorem dX9_looked_8 : decode cX9_looked 8 = .ok (.getfield 371, 3) := by decide +kernel
theorem dX9_looked_11 : decode cX9_looked 11 = .ok (.if_icmp .ge 30, 3) := by decide +kernel
theorem dX9_looked_14 : decode cX9_looked 14 = .ok (.aload_n 0, 1) := by decide +kernel
theorem dX9_looked_15 : decode cX9_looked 15 = .ok (.aload_n 0, 1) := by decide +kernel
theorem dX9_looked_16 : decode cX9_looked 16 = .ok (.getfield 50, 3) := by decide +kernel
theorem dX9_looked_19 : decode cX9_looked 19 = .ok (.iload_n 1, 1) := by decide +kernel
theorem dX9_looked_20 : decode cX9_looked 20 = .ok (.iaload, 1) := by decide +kernel
theorem dX9_looked_21 : decode cX9_looked 21 = .ok (.aload_n 0, 1) := by decide +kernel
theorem dX9_looked_22 : decode cX9_looked 22 = .ok (.getfield 53, 3) := by decide +kernel
theorem dX9_looked_25 : decode cX9_looked 25 = .ok (.iload_n 1, 1) := by decide +kernel
theorem dX9_looked_26 : decode cX9_looked 26 = .ok (.iaload, 1) := by decide +kernel
theorem dX9_looked_27 : decode cX9_looked 27 = .ok (.invokevirtual 356, 3) := by decide +kernel
theorem dX9_looked_30 : decode cX9_looked 30 = .ok (.ifCond .ne 5, 3) := by decide +kernel
theorem dX9_looked_33 : decode cX9_looked 33 = .ok (.iload_n 1, 1) := by decide +kernel
theorem dX9_looked_34 : decode cX9_looked 34 = .ok (.ireturn, 1) := by decide +kernel
theorem dX9_looked_35 : decode cX9_looked 35 = .ok (.iinc 1 1, 3) := by decide +kernel
theorem dX9_looked_38 : decode cX9_looked 38 = .ok (.goto (-32), 3) := by decide +kernel
theorem dX9_looked_41 : decode cX9_looked 41 = .ok (.bipush (-5), 2) := by decide +kernel
theorem dX9_looked_43 : decode cX9_looked 43 = .ok (.ireturn, 1) := by decide +kernel
theorem dX9_isTape_0 : decode cX9_isTape 0 = .ok (.iload_n 0, 1) := by decide +kernel
theorem dX9_isTape_1 : decode cX9_isTape 1 = .ok (.i2l, 1) := by decide +kernel
theorem dX9_isTape_2 : decode cX9_isTape 2 = .ok (.lconst 0, 1) := by decide +kernel
theorem dX9_isTape_3 : decode cX9_isTape 3 = .ok (.ldc2_w 332, 3) := by decide +kernel
theorem dX9_isTape_6 : decode cX9_isTape 6 = .ok (.invokestatic 266, 3) := by decide +kernel
theorem dX9_isTape_9 : decode cX9_isTape 9 = .ok (.ireturn, 1) := by decide +kernel
theorem dX9_judge_0 : decode cX9_judge 0 = .ok (.iload_n 1, 1) := by decide +kernel
theorem dX9_judge_1 : decode cX9_judge 1 = .ok (.invokestatic 374, 3) := by decide +kernel
theorem dX9_judge_4 : decode cX9_judge 4 = .ok (.ifCond .ne 5, 3) := by decide +kernel
theorem dX9_judge_7 : decode cX9_judge 7 = .ok (.iconst (-1), 1) := by decide +kernel
theorem dX9_judge_8 : decode cX9_judge 8 = .ok (.ireturn, 1) := by decide +kernel
theorem dX9_judge_9 : decode cX9_judge 9 = .ok (.aload_n 0, 1) := by decide +kernel
theorem dX9_judge_10 : decode cX9_judge 10 = .ok (.getfield 107, 3) := by decide +kernel
theorem dX9_judge_13 : decode cX9_judge 13 = .ok (.iload_n 1, 1) := by decide +kernel
theorem dX9_judge_14 : decode cX9_judge 14 = .ok (.iaload, 1) := by decide +kernel
theorem dX9_judge_15 : decode cX9_judge 15 = .ok (.ifCond .le 6, 3) := by decide +kernel
theorem dX9_judge_18 : decode cX9_judge 18 = .ok (.bipush (-12), 2) := by decide +kernel
theorem dX9_judge_20 : decode cX9_judge 20 = .ok (.ireturn, 1) := by decide +kernel
theorem dX9_judge_21 : decode cX9_judge 21 = .ok (.aload_n 0, 1) := by decide +kernel
theorem dX9_judge_22 : decode cX9_judge 22 = .ok (.invokevirtual 289, 3) := by decide +kernel
theorem dX9_judge_25 : decode cX9_judge 25 = .ok (.iconst 0, 1) := by decide +kernel
theorem dX9_judge_26 : decode cX9_judge 26 = .ok (.istore_n 3, 1) := by decide +kernel
theorem dX9_judge_27 : decode cX9_judge 27 = .ok (.iload_n 3, 1) := by decide +kernel
theorem dX9_judge_28 : decode cX9_judge 28 = .ok (.aload_n 0, 1) := by decide +kernel
theorem dX9_judge_29 : decode cX9_judge 29 = .ok (.getfield 244, 3) := by decide +kernel
theorem dX9_judge_32 : decode cX9_judge 32 = .ok (.if_icmp .ge 60, 3) := by decide +kernel
theorem dX9_judge_35 : decode cX9_judge 35 = .ok (.iload_n 2, 1) := by decide +kernel
theorem dX9_judge_36 : decode cX9_judge 36 = .ok (.ifCond .lt 19, 3) := by decide +kernel
theorem dX9_judge_39 : decode cX9_judge 39 = .ok (.iload_n 2, 1) := by decide +kernel
theorem dX9_judge_40 : decode cX9_judge 40 = .ok (.i2l, 1) := by decide +kernel
theorem dX9_judge_41 : decode cX9_judge 41 = .ok (.iload_n 3, 1) := by decide +kernel
theorem dX9_judge_42 : decode cX9_judge 42 = .ok (.i2l, 1) := by decide +kernel
theorem dX9_judge_43 : decode cX9_judge 43 = .ok (.ladd, 1) := by decide +kernel
theorem dX9_judge_44 : decode cX9_judge 44 = .ok (.aload_n 0, 1) := by decide +kernel
theorem dX9_judge_45 : decode cX9_judge 45 = .ok (.getfield 110, 3) := by decide +kernel
theorem dX9_judge_48 : decode cX9_judge 48 = .ok (.iload_n 1, 1) := by decide +kernel
theorem dX9_judge_49 : decode cX9_judge 49 = .ok (.iaload, 1) := by decide +kernel
theorem dX9_judge_50 : decode cX9_judge 50 = .ok (.i2l, 1) := by decide +kernel
theorem dX9_judge_51 : decode cX9_judge 51 = .ok (.lcmp, 1) := by decide +kernel
theorem dX9_judge_52 : decode cX9_judge 52 = .ok (.ifCond .lt 8, 3) := by decide +kernel
theorem dX9_judge_55 : decode cX9_judge 55 = .ok (.bipush 100, 2) := by decide +kernel
theorem dX9_judge_57 : decode cX9_judge 57 = .ok (.iload_n 3, 1) := by decide +kernel
theorem dX9_judge_58 : decode cX9_judge 58 = .ok (.iadd, 1) := by decide +kernel
theorem dX9_judge_59 : decode cX9_judge 59 = .ok (.ireturn, 1) := by decide +kernel
theorem dX9_judge_60 : decode cX9_judge 60 = .ok (.aload_n 0, 1) := by decide +kernel
theorem dX9_judge_61 : decode cX9_judge 61 = .ok (.getfield 113, 3) := by decide +kernel
theorem dX9_judge_64 : decode cX9_judge 64 = .ok (.bipush 60, 2) := by decide +kernel
theorem dX9_judge_66 : decode cX9_judge 66 = .ok (.iload_n 1, 1) := by decide +kernel
theorem dX9_judge_67 : decode cX9_judge 67 = .ok (.imul, 1) := by decide +kernel
theorem dX9_judge_68 : decode cX9_judge 68 = .ok (.iload_n 2, 1) := by decide +kernel
theorem dX9_judge_69 : decode cX9_judge 69 = .ok (.iadd, 1) := by decide +kernel
theorem dX9_judge_70 : decode cX9_judge 70 = .ok (.iload_n 3, 1) := by decide +kernel
theorem dX9_judge_71 : decode cX9_judge 71 = .ok (.iadd, 1) := by decide +kernel
theorem dX9_judge_72 : decode cX9_judge 72 = .ok (.laload, 1) := by decide +kernel
theorem dX9_judge_73 : decode cX9_judge 73 = .ok (.aload_n 0, 1) := by decide +kernel
theorem dX9_judge_74 : decode cX9_judge 74 = .ok (.getfield 77, 3) := by decide +kernel
theorem dX9_judge_77 : decode cX9_judge 77 = .ok (.iload_n 3, 1) := by decide +kernel
theorem dX9_judge_78 : decode cX9_judge 78 = .ok (.iaload, 1) := by decide +kernel
theorem dX9_judge_79 : decode cX9_judge 79 = .ok (.i2l, 1) := by decide +kernel
theorem dX9_judge_80 : decode cX9_judge 80 = .ok (.lcmp, 1) := by decide +kernel
theorem dX9_judge_81 : decode cX9_judge 81 = .ok (.ifCond .eq 5, 3) := by decide +kernel
theorem dX9_judge_84 : decode cX9_judge 84 = .ok (.iload_n 3, 1) := by decide +kernel
theorem dX9_judge_85 : decode cX9_judge 85 = .ok (.ireturn, 1) := by decide +kernel
theorem dX9_judge_86 : decode cX9_judge 86 = .ok (.iinc 3 1, 3) := by decide +kernel
theorem dX9_judge_89 : decode cX9_judge 89 = .ok (.goto (-62), 3) := by decide +kernel
theorem dX9_judge_92 : decode cX9_judge 92 = .ok (.bipush (-5), 2) := by decide +kernel
theorem dX9_judge_94 : decode cX9_judge 94 = .ok (.ireturn, 1) := by decide +kernel
theorem dX9_tape_0 : decode cX9_tape 0 = .ok (.iload_n 1, 1) := by decide +kernel
theorem dX9_tape_1 : decode cX9_tape 1 = .ok (.invokestatic 374, 3) := by decide +kernel
theorem dX9_tape_4 : decode cX9_tape 4 = .ok (.ifCond .ne 5, 3) := by decide +kernel
theorem dX9_tape_7 : decode cX9_tape 7 = .ok (.iconst (-1), 1) := by decide +kernel
theorem dX9_tape_8 : decode cX9_tape 8 = .ok (.ireturn, 1) := by decide +kernel
theorem dX9_tape_9 : decode cX9_tape 9 = .ok (.iload_n 2, 1) := by decide +kernel
theorem dX9_tape_10 : decode cX9_tape 10 = .ok (.i2l, 1) := by decide +kernel
theorem dX9_tape_11 : decode cX9_tape 11 = .ok (.ldc2_w 122, 3) := by decide +kernel
theorem dX9_tape_14 : decode cX9_tape 14 = .ok (.ldc2_w 157, 3) := by decide +kernel
theorem dX9_tape_17 : decode cX9_tape 17 = .ok (.invokestatic 266, 3) := by decide +kernel
theorem dX9_tape_20 : decode cX9_tape 20 = .ok (.ifCond .eq 13, 3) := by decide +kernel
theorem dX9_tape_23 : decode cX9_tape 23 = .ok (.iload_n 2, 1) := by decide +kernel
theorem dX9_tape_24 : decode cX9_tape 24 = .ok (.ifCond .lt 12, 3) := by decide +kernel
theorem dX9_tape_27 : decode cX9_tape 27 = .ok (.iload_n 3, 1) := by decide +kernel
theorem dX9_tape_28 : decode cX9_tape 28 = .ok (.bipush 60, 2) := by decide +kernel
theorem dX9_tape_30 : decode cX9_tape 30 = .ok (.if_icmp .le 6, 3) := by decide +kernel
theorem dX9_tape_33 : decode cX9_tape 33 = .ok (.bipush (-2), 2) := by decide +kernel
theorem dX9_tape_35 : decode cX9_tape 35 = .ok (.ireturn, 1) := by decide +kernel
theorem dX9_tape_36 : decode cX9_tape 36 = .ok (.iload_n 2, 1) := by decide +kernel
theorem dX9_tape_37 : decode cX9_tape 37 = .ok (.ifCond .lt 10, 3) := by decide +kernel
theorem dX9_tape_40 : decode cX9_tape 40 = .ok (.iload_n 3, 1) := by decide +kernel
theorem dX9_tape_41 : decode cX9_tape 41 = .ok (.ifCond .ge 6, 3) := by decide +kernel
theorem dX9_tape_44 : decode cX9_tape 44 = .ok (.bipush (-14), 2) := by decide +kernel
theorem dX9_tape_46 : decode cX9_tape 46 = .ok (.ireturn, 1) := by decide +kernel
theorem dX9_tape_47 : decode cX9_tape 47 = .ok (.aload_n 0, 1) := by decide +kernel
theorem dX9_tape_48 : decode cX9_tape 48 = .ok (.getfield 107, 3) := by decide +kernel
theorem dX9_tape_51 : decode cX9_tape 51 = .ok (.iload_n 1, 1) := by decide +kernel
theorem dX9_tape_52 : decode cX9_tape 52 = .ok (.iload_n 2, 1) := by decide +kernel
theorem dX9_tape_53 : decode cX9_tape 53 = .ok (.iastore, 1) := by decide +kernel
theorem dX9_tape_54 : decode cX9_tape 54 = .ok (.aload_n 0, 1) := by decide +kernel
theorem dX9_tape_55 : decode cX9_tape 55 = .ok (.getfield 110, 3) := by decide +kernel
theorem dX9_tape_58 : decode cX9_tape 58 = .ok (.iload_n 1, 1) := by decide +kernel
theorem dX9_tape_59 : decode cX9_tape 59 = .ok (.iload_n 2, 1) := by decide +kernel
theorem dX9_tape_60 : decode cX9_tape 60 = .ok (.ifCond .ge 7, 3) := by decide +kernel
theorem dX9_tape_63 : decode cX9_tape 63 = .ok (.iconst 0, 1) := by decide +kernel
theorem dX9_tape_64 : decode cX9_tape 64 = .ok (.goto 4, 3) := by decide +kernel
theorem dX9_tape_67 : decode cX9_tape 67 = .ok (.iload_n 3, 1) := by decide +kernel
theorem dX9_tape_68 : decode cX9_tape 68 = .ok (.iastore, 1) := by decide +kernel
theorem dX9_tape_69 : decode cX9_tape 69 = .ok (.iconst 0, 1) := by decide +kernel
theorem dX9_tape_70 : decode cX9_tape 70 = .ok (.istore 4, 2) := by decide +kernel
theorem dX9_tape_72 : decode cX9_tape 72 = .ok (.iload 4, 2) := by decide +kernel
theorem dX9_tape_74 : decode cX9_tape 74 = .ok (.bipush 60, 2) := by decide +kernel
theorem dX9_tape_76 : decode cX9_tape 76 = .ok (.if_icmp .ge 22, 3) := by decide +kernel
theorem dX9_tape_79 : decode cX9_tape 79 = .ok (.aload_n 0, 1) := by decide +kernel
theorem dX9_tape_80 : decode cX9_tape 80 = .ok (.getfield 113, 3) := by decide +kernel
theorem dX9_tape_83 : decode cX9_tape 83 = .ok (.bipush 60, 2) := by decide +kernel
theorem dX9_tape_85 : decode cX9_tape 85 = .ok (.iload_n 1, 1) := by decide +kernel
theorem dX9_tape_86 : decode cX9_tape 86 = .ok (.imul, 1) := by decide +kernel
theorem dX9_tape_87 : decode cX9_tape 87 = .ok (.iload 4, 2) := by decide +kernel
theorem dX9_tape_89 : decode cX9_tape 89 = .ok (.iadd, 1) := by decide +kernel
theorem dX9_tape_90 : decode cX9_tape 90 = .ok (.lconst 0, 1) := by decide +kernel
theorem dX9_tape_91 : decode cX9_tape 91 = .ok (.lastore, 1) := by decide +kernel
theorem dX9_tape_92 : decode cX9_tape 92 = .ok (.iinc 4 1, 3) := by decide +kernel
theorem dX9_tape_95 : decode cX9_tape 95 = .ok (.goto (-23), 3) := by decide +kernel
theorem dX9_tape_98 : decode cX9_tape 98 = .ok (.iconst 1, 1) := by decide +kernel
theorem dX9_tape_99 : decode cX9_tape 99 = .ok (.ireturn, 1) := by decide +kernel
theorem dX9_item_0 : decode cX9_item 0 = .ok (.iload_n 1, 1) := by decide +kernel
theorem dX9_item_1 : decode cX9_item 1 = .ok (.invokestatic 374, 3) := by decide +kernel
theorem dX9_item_4 : decode cX9_item 4 = .ok (.ifCond .ne 5, 3) := by decide +kernel
theorem dX9_item_7 : decode cX9_item 7 = .ok (.iconst (-1), 1) := by decide +kernel
theorem dX9_item_8 : decode cX9_item 8 = .ok (.ireturn, 1) := by decide +kernel
theorem dX9_item_9 : decode cX9_item 9 = .ok (.aload_n 0, 1) := by decide +kernel
theorem dX9_item_10 : decode cX9_item 10 = .ok (.getfield 107, 3) := by decide +kernel
theorem dX9_item_13 : decode cX9_item 13 = .ok (.iload_n 1, 1) := by decide +kernel
theorem dX9_item_14 : decode cX9_item 14 = .ok (.iaload, 1) := by decide +kernel
theorem dX9_item_15 : decode cX9_item 15 = .ok (.ifCond .ge 6, 3) := by decide +kernel
theorem dX9_item_18 : decode cX9_item 18 = .ok (.bipush (-11), 2) := by decide +kernel
theorem dX9_item_20 : decode cX9_item 20 = .ok (.ireturn, 1) := by decide +kernel
theorem dX9_item_21 : decode cX9_item 21 = .ok (.iload_n 2, 1) := by decide +kernel
theorem dX9_item_22 : decode cX9_item 22 = .ok (.i2l, 1) := by decide +kernel
theorem dX9_item_23 : decode cX9_item 23 = .ok (.lconst 0, 1) := by decide +kernel
theorem dX9_item_24 : decode cX9_item 24 = .ok (.aload_n 0, 1) := by decide +kernel
theorem dX9_item_25 : decode cX9_item 25 = .ok (.getfield 110, 3) := by decide +kernel
theorem dX9_item_28 : decode cX9_item 28 = .ok (.iload_n 1, 1) := by decide +kernel
theorem dX9_item_29 : decode cX9_item 29 = .ok (.iaload, 1) := by decide +kernel
theorem dX9_item_30 : decode cX9_item 30 = .ok (.iconst 1, 1) := by decide +kernel
theorem dX9_item_31 : decode cX9_item 31 = .ok (.isub, 1) := by decide +kernel
theorem dX9_item_32 : decode cX9_item 32 = .ok (.i2l, 1) := by decide +kernel
theorem dX9_item_33 : decode cX9_item 33 = .ok (.invokestatic 266, 3) := by decide +kernel
theorem dX9_item_36 : decode cX9_item 36 = .ok (.ifCond .ne 6, 3) := by decide +kernel
theorem dX9_item_39 : decode cX9_item 39 = .ok (.bipush (-13), 2) := by decide +kernel
theorem dX9_item_41 : decode cX9_item 41 = .ok (.ireturn, 1) := by decide +kernel
theorem dX9_item_42 : decode cX9_item 42 = .ok (.aload_n 0, 1) := by decide +kernel
theorem dX9_item_43 : decode cX9_item 43 = .ok (.getfield 107, 3) := by decide +kernel
theorem dX9_item_46 : decode cX9_item 46 = .ok (.iload_n 1, 1) := by decide +kernel
theorem dX9_item_47 : decode cX9_item 47 = .ok (.iaload, 1) := by decide +kernel
theorem dX9_item_48 : decode cX9_item 48 = .ok (.istore 5, 2) := by decide +kernel
theorem dX9_item_50 : decode cX9_item 50 = .ok (.aload_n 0, 1) := by decide +kernel
theorem dX9_item_51 : decode cX9_item 51 = .ok (.getfield 113, 3) := by decide +kernel
theorem dX9_item_54 : decode cX9_item 54 = .ok (.bipush 60, 2) := by decide +kernel
theorem dX9_item_56 : decode cX9_item 56 = .ok (.iload_n 1, 1) := by decide +kernel
theorem dX9_item_57 : decode cX9_item 57 = .ok (.imul, 1) := by decide +kernel
theorem dX9_item_58 : decode cX9_item 58 = .ok (.iload_n 2, 1) := by decide +kernel
theorem dX9_item_59 : decode cX9_item 59 = .ok (.iadd, 1) := by decide +kernel
theorem dX9_item_60 : decode cX9_item 60 = .ok (.iload 5, 2) := by decide +kernel
theorem dX9_item_62 : decode cX9_item 62 = .ok (.ifCond .ne 10, 3) := by decide +kernel
theorem dX9_item_65 : decode cX9_item 65 = .ok (.lload_n 3, 1) := by decide +kernel
theorem dX9_item_66 : decode cX9_item 66 = .ok (.l2i, 1) := by decide +kernel
theorem dX9_item_67 : decode cX9_item 67 = .ok (.i2b, 1) := by decide +kernel
theorem dX9_item_68 : decode cX9_item 68 = .ok (.i2l, 1) := by decide +kernel
theorem dX9_item_69 : decode cX9_item 69 = .ok (.goto 49, 3) := by decide +kernel
theorem dX9_item_72 : decode cX9_item 72 = .ok (.iload 5, 2) := by decide +kernel
theorem dX9_item_74 : decode cX9_item 74 = .ok (.iconst 1, 1) := by decide +kernel
theorem dX9_item_75 : decode cX9_item 75 = .ok (.if_icmp .ne 10, 3) := by decide +kernel
theorem dX9_item_78 : decode cX9_item 78 = .ok (.lload_n 3, 1) := by decide +kernel
theorem dX9_item_79 : decode cX9_item 79 = .ok (.l2i, 1) := by decide +kernel
theorem dX9_item_80 : decode cX9_item 80 = .ok (.i2s, 1) := by decide +kernel
theorem dX9_item_81 : decode cX9_item 81 = .ok (.i2l, 1) := by decide +kernel
theorem dX9_item_82 : decode cX9_item 82 = .ok (.goto 36, 3) := by decide +kernel
theorem dX9_item_85 : decode cX9_item 85 = .ok (.iload 5, 2) := by decide +kernel
theorem dX9_item_87 : decode cX9_item 87 = .ok (.iconst 2, 1) := by decide +kernel
theorem dX9_item_88 : decode cX9_item 88 = .ok (.if_icmp .ne 9, 3) := by decide +kernel
theorem dX9_item_91 : decode cX9_item 91 = .ok (.lload_n 3, 1) := by decide +kernel
theorem dX9_item_92 : decode cX9_item 92 = .ok (.l2i, 1) := by decide +kernel
theorem dX9_item_93 : decode cX9_item 93 = .ok (.i2l, 1) := by decide +kernel
theorem dX9_item_94 : decode cX9_item 94 = .ok (.goto 24, 3) := by decide +kernel
theorem dX9_item_97 : decode cX9_item 97 = .ok (.iload 5, 2) := by decide +kernel
theorem dX9_item_99 : decode cX9_item 99 = .ok (.iconst 3, 1) := by decide +kernel
theorem dX9_item_100 : decode cX9_item 100 = .ok (.if_icmp .ne 7, 3) := by decide +kernel
theorem dX9_item_103 : decode cX9_item 103 = .ok (.lload_n 3, 1) := by decide +kernel
theorem dX9_item_104 : decode cX9_item 104 = .ok (.goto 14, 3) := by decide +kernel
theorem dX9_item_107 : decode cX9_item 107 = .ok (.lload_n 3, 1) := by decide +kernel
theorem dX9_item_108 : decode cX9_item 108 = .ok (.lconst 0, 1) := by decide +kernel
theorem dX9_item_109 : decode cX9_item 109 = .ok (.lcmp, 1) := by decide +kernel
theorem dX9_item_110 : decode cX9_item 110 = .ok (.ifCond .eq 7, 3) := by decide +kernel
theorem dX9_item_113 : decode cX9_item 113 = .ok (.lconst 1, 1) := by decide +kernel
theorem dX9_item_114 : decode cX9_item 114 = .ok (.goto 4, 3) := by decide +kernel
theorem dX9_item_117 : decode cX9_item 117 = .ok (.lconst 0, 1) := by decide +kernel
theorem dX9_item_118 : decode cX9_item 118 = .ok (.lastore, 1) := by decide +kernel
theorem dX9_item_119 : decode cX9_item 119 = .ok (.iconst 1, 1) := by decide +kernel
theorem dX9_item_120 : decode cX9_item 120 = .ok (.ireturn, 1) := by decide +kernel
theorem dX9_peek_0 : decode cX9_peek 0 = .ok (.iload_n 1, 1) := by decide +kernel
theorem dX9_peek_1 : decode cX9_peek 1 = .ok (.invokestatic 374, 3) := by decide +kernel
theorem dX9_peek_4 : decode cX9_peek 4 = .ok (.ifCond .eq 35, 3) := by decide +kernel
theorem dX9_peek_7 : decode cX9_peek 7 = .ok (.iload_n 2, 1) := by decide +kernel
theorem dX9_peek_8 : decode cX9_peek 8 = .ok (.i2l, 1) := by decide +kernel
theorem dX9_peek_9 : decode cX9_peek 9 = .ok (.lconst 0, 1) := by decide +kernel
theorem dX9_peek_10 : decode cX9_peek 10 = .ok (.aload_n 0, 1) := by decide +kernel
theorem dX9_peek_11 : decode cX9_peek 11 = .ok (.getfield 110, 3) := by decide +kernel
theorem dX9_peek_14 : decode cX9_peek 14 = .ok (.iload_n 1, 1) := by decide +kernel
theorem dX9_peek_15 : decode cX9_peek 15 = .ok (.iaload, 1) := by decide +kernel
theorem dX9_peek_16 : decode cX9_peek 16 = .ok (.iconst 1, 1) := by decide +kernel
theorem dX9_peek_17 : decode cX9_peek 17 = .ok (.isub, 1) := by decide +kernel
theorem dX9_peek_18 : decode cX9_peek 18 = .ok (.i2l, 1) := by decide +kernel
theorem dX9_peek_19 : decode cX9_peek 19 = .ok (.invokestatic 266, 3) := by decide +kernel
theorem dX9_peek_22 : decode cX9_peek 22 = .ok (.ifCond .eq 17, 3) := by decide +kernel
theorem dX9_peek_25 : decode cX9_peek 25 = .ok (.aload_n 0, 1) := by decide +kernel
theorem dX9_peek_26 : decode cX9_peek 26 = .ok (.getfield 113, 3) := by decide +kernel
theorem dX9_peek_29 : decode cX9_peek 29 = .ok (.bipush 60, 2) := by decide +kernel
theorem dX9_peek_31 : decode cX9_peek 31 = .ok (.iload_n 1, 1) := by decide +kernel
theorem dX9_peek_32 : decode cX9_peek 32 = .ok (.imul, 1) := by decide +kernel
theorem dX9_peek_33 : decode cX9_peek 33 = .ok (.iload_n 2, 1) := by decide +kernel
theorem dX9_peek_34 : decode cX9_peek 34 = .ok (.iadd, 1) := by decide +kernel
theorem dX9_peek_35 : decode cX9_peek 35 = .ok (.laload, 1) := by decide +kernel
theorem dX9_peek_36 : decode cX9_peek 36 = .ok (.goto 6, 3) := by decide +kernel
theorem dX9_peek_39 : decode cX9_peek 39 = .ok (.ldc2_w 124, 3) := by decide +kernel
theorem dX9_peek_42 : decode cX9_peek 42 = .ok (.lreturn, 1) := by decide +kernel
theorem dX9_shift_0 : decode cX9_shift 0 = .ok (.iload_n 1, 1) := by decide +kernel
theorem dX9_shift_1 : decode cX9_shift 1 = .ok (.invokestatic 374, 3) := by decide +kernel
theorem dX9_shift_4 : decode cX9_shift 4 = .ok (.ifCond .eq 10, 3) := by decide +kernel
theorem dX9_shift_7 : decode cX9_shift 7 = .ok (.iload_n 3, 1) := by decide +kernel
theorem dX9_shift_8 : decode cX9_shift 8 = .ok (.invokestatic 374, 3) := by decide +kernel
theorem dX9_shift_11 : decode cX9_shift 11 = .ok (.ifCond .ne 5, 3) := by decide +kernel
theorem dX9_shift_14 : decode cX9_shift 14 = .ok (.iconst (-1), 1) := by decide +kernel
theorem dX9_shift_15 : decode cX9_shift 15 = .ok (.ireturn, 1) := by decide +kernel
theorem dX9_shift_16 : decode cX9_shift 16 = .ok (.aload_n 0, 1) := by decide +kernel
theorem dX9_shift_17 : decode cX9_shift 17 = .ok (.getfield 107, 3) := by decide +kernel
theorem dX9_shift_20 : decode cX9_shift 20 = .ok (.iload_n 1, 1) := by decide +kernel
theorem dX9_shift_21 : decode cX9_shift 21 = .ok (.iaload, 1) := by decide +kernel
theorem dX9_shift_22 : decode cX9_shift 22 = .ok (.ifCond .lt 12, 3) := by decide +kernel
theorem dX9_shift_25 : decode cX9_shift 25 = .ok (.aload_n 0, 1) := by decide +kernel
theorem dX9_shift_26 : decode cX9_shift 26 = .ok (.getfield 107, 3) := by decide +kernel
theorem dX9_shift_29 : decode cX9_shift 29 = .ok (.iload_n 3, 1) := by decide +kernel
theorem dX9_shift_30 : decode cX9_shift 30 = .ok (.iaload, 1) := by decide +kernel
theorem dX9_shift_31 : decode cX9_shift 31 = .ok (.ifCond .ge 6, 3) := by decide +kernel
theorem dX9_shift_34 : decode cX9_shift 34 = .ok (.bipush (-11), 2) := by decide +kernel
theorem dX9_shift_36 : decode cX9_shift 36 = .ok (.ireturn, 1) := by decide +kernel
theorem dX9_shift_37 : decode cX9_shift 37 = .ok (.aload_n 0, 1) := by decide +kernel
theorem dX9_shift_38 : decode cX9_shift 38 = .ok (.getfield 107, 3) := by decide +kernel
theorem dX9_shift_41 : decode cX9_shift 41 = .ok (.iload_n 1, 1) := by decide +kernel
theorem dX9_shift_42 : decode cX9_shift 42 = .ok (.iaload, 1) := by decide +kernel
theorem dX9_shift_43 : decode cX9_shift 43 = .ok (.aload_n 0, 1) := by decide +kernel
theorem dX9_shift_44 : decode cX9_shift 44 = .ok (.getfield 107, 3) := by decide +kernel
theorem dX9_shift_47 : decode cX9_shift 47 = .ok (.iload_n 3, 1) := by decide +kernel
theorem dX9_shift_48 : decode cX9_shift 48 = .ok (.iaload, 1) := by decide +kernel
theorem dX9_shift_49 : decode cX9_shift 49 = .ok (.if_icmp .eq 6, 3) := by decide +kernel
theorem dX9_shift_52 : decode cX9_shift 52 = .ok (.bipush (-12), 2) := by decide +kernel
theorem dX9_shift_54 : decode cX9_shift 54 = .ok (.ireturn, 1) := by decide +kernel
theorem dX9_shift_55 : decode cX9_shift 55 = .ok (.iload 5, 2) := by decide +kernel
theorem dX9_shift_57 : decode cX9_shift 57 = .ok (.ifCond .lt 39, 3) := by decide +kernel
theorem dX9_shift_60 : decode cX9_shift 60 = .ok (.iload_n 2, 1) := by decide +kernel
theorem dX9_shift_61 : decode cX9_shift 61 = .ok (.ifCond .lt 35, 3) := by decide +kernel
theorem dX9_shift_64 : decode cX9_shift 64 = .ok (.iload 4, 2) := by decide +kernel
theorem dX9_shift_66 : decode cX9_shift 66 = .ok (.ifCond .lt 30, 3) := by decide +kernel
theorem dX9_shift_69 : decode cX9_shift 69 = .ok (.iload 5, 2) := by decide +kernel
theorem dX9_shift_71 : decode cX9_shift 71 = .ok (.aload_n 0, 1) := by decide +kernel
theorem dX9_shift_72 : decode cX9_shift 72 = .ok (.getfield 110, 3) := by decide +kernel
theorem dX9_shift_75 : decode cX9_shift 75 = .ok (.iload_n 1, 1) := by decide +kernel
theorem dX9_shift_76 : decode cX9_shift 76 = .ok (.iaload, 1) := by decide +kernel
theorem dX9_shift_77 : decode cX9_shift 77 = .ok (.iload_n 2, 1) := by decide +kernel
theorem dX9_shift_78 : decode cX9_shift 78 = .ok (.isub, 1) := by decide +kernel
theorem dX9_shift_79 : decode cX9_shift 79 = .ok (.if_icmp .gt 17, 3) := by decide +kernel
theorem dX9_shift_82 : decode cX9_shift 82 = .ok (.iload 5, 2) := by decide +kernel
theorem dX9_shift_84 : decode cX9_shift 84 = .ok (.aload_n 0, 1) := by decide +kernel
theorem dX9_shift_85 : decode cX9_shift 85 = .ok (.getfield 110, 3) := by decide +kernel
theorem dX9_shift_88 : decode cX9_shift 88 = .ok (.iload_n 3, 1) := by decide +kernel
theorem dX9_shift_89 : decode cX9_shift 89 = .ok (.iaload, 1) := by decide +kernel
theorem dX9_shift_90 : decode cX9_shift 90 = .ok (.iload 4, 2) := by decide +kernel
theorem dX9_shift_92 : decode cX9_shift 92 = .ok (.isub, 1) := by decide +kernel
theorem dX9_shift_93 : decode cX9_shift 93 = .ok (.if_icmp .le 6, 3) := by decide +kernel
theorem dX9_shift_96 : decode cX9_shift 96 = .ok (.bipush (-13), 2) := by decide +kernel
theorem dX9_shift_98 : decode cX9_shift 98 = .ok (.ireturn, 1) := by decide +kernel
theorem dX9_shift_99 : decode cX9_shift 99 = .ok (.iconst 0, 1) := by decide +kernel
theorem dX9_shift_100 : decode cX9_shift 100 = .ok (.istore 6, 2) := by decide +kernel
theorem dX9_shift_102 : decode cX9_shift 102 = .ok (.iload 6, 2) := by decide +kernel
theorem dX9_shift_104 : decode cX9_shift 104 = .ok (.iload 5, 2) := by decide +kernel
theorem dX9_shift_106 : decode cX9_shift 106 = .ok (.if_icmp .ge 30, 3) := by decide +kernel
theorem dX9_shift_109 : decode cX9_shift 109 = .ok (.aload_n 0, 1) := by decide +kernel
theorem dX9_shift_110 : decode cX9_shift 110 = .ok (.getfield 116, 3) := by decide +kernel
theorem dX9_shift_113 : decode cX9_shift 113 = .ok (.iload 6, 2) := by decide +kernel
theorem dX9_shift_115 : decode cX9_shift 115 = .ok (.aload_n 0, 1) := by decide +kernel
theorem dX9_shift_116 : decode cX9_shift 116 = .ok (.getfield 113, 3) := by decide +kernel
theorem dX9_shift_119 : decode cX9_shift 119 = .ok (.bipush 60, 2) := by decide +kernel
theorem dX9_shift_121 : decode cX9_shift 121 = .ok (.iload_n 1, 1) := by decide +kernel
theorem dX9_shift_122 : decode cX9_shift 122 = .ok (.imul, 1) := by decide +kernel
theorem dX9_shift_123 : decode cX9_shift 123 = .ok (.iload_n 2, 1) := by decide +kernel
theorem dX9_shift_124 : decode cX9_shift 124 = .ok (.iadd, 1) := by decide +kernel
theorem dX9_shift_125 : decode cX9_shift 125 = .ok (.iload 6, 2) := by decide +kernel
theorem dX9_shift_127 : decode cX9_shift 127 = .ok (.iadd, 1) := by decide +kernel
theorem dX9_shift_128 : decode cX9_shift 128 = .ok (.laload, 1) := by decide +kernel
theorem dX9_shift_129 : decode cX9_shift 129 = .ok (.lastore, 1) := by decide +kernel
theorem dX9_shift_130 : decode cX9_shift 130 = .ok (.iinc 6 1, 3) := by decide +kernel
theorem dX9_shift_133 : decode cX9_shift 133 = .ok (.goto (-31), 3) := by decide +kernel
theorem dX9_shift_136 : decode cX9_shift 136 = .ok (.iconst 0, 1) := by decide +kernel
theorem dX9_shift_137 : decode cX9_shift 137 = .ok (.istore 6, 2) := by decide +kernel
theorem dX9_shift_139 : decode cX9_shift 139 = .ok (.iload 6, 2) := by decide +kernel
theorem dX9_shift_141 : decode cX9_shift 141 = .ok (.iload 5, 2) := by decide +kernel
theorem dX9_shift_143 : decode cX9_shift 143 = .ok (.if_icmp .ge 31, 3) := by decide +kernel
theorem dX9_shift_146 : decode cX9_shift 146 = .ok (.aload_n 0, 1) := by decide +kernel
theorem dX9_shift_147 : decode cX9_shift 147 = .ok (.getfield 113, 3) := by decide +kernel
theorem dX9_shift_150 : decode cX9_shift 150 = .ok (.bipush 60, 2) := by decide +kernel
theorem dX9_shift_152 : decode cX9_shift 152 = .ok (.iload_n 3, 1) := by decide +kernel
theorem dX9_shift_153 : decode cX9_shift 153 = .ok (.imul, 1) := by decide +kernel
theorem dX9_shift_154 : decode cX9_shift 154 = .ok (.iload 4, 2) := by decide +kernel
theorem dX9_shift_156 : decode cX9_shift 156 = .ok (.iadd, 1) := by decide +kernel
theorem dX9_shift_157 : decode cX9_shift 157 = .ok (.iload 6, 2) := by decide +kernel
theorem dX9_shift_159 : decode cX9_shift 159 = .ok (.iadd, 1) := by decide +kernel
theorem dX9_shift_160 : decode cX9_shift 160 = .ok (.aload_n 0, 1) := by decide +kernel
theorem dX9_shift_161 : decode cX9_shift 161 = .ok (.getfield 116, 3) := by decide +kernel
theorem dX9_shift_164 : decode cX9_shift 164 = .ok (.iload 6, 2) := by decide +kernel
theorem dX9_shift_166 : decode cX9_shift 166 = .ok (.laload, 1) := by decide +kernel
theorem dX9_shift_167 : decode cX9_shift 167 = .ok (.lastore, 1) := by decide +kernel
theorem dX9_shift_168 : decode cX9_shift 168 = .ok (.iinc 6 1, 3) := by decide +kernel
theorem dX9_shift_171 : decode cX9_shift 171 = .ok (.goto (-32), 3) := by decide +kernel
theorem dX9_shift_174 : decode cX9_shift 174 = .ok (.iload 5, 2) := by decide +kernel
theorem dX9_shift_176 : decode cX9_shift 176 = .ok (.ireturn, 1) := by decide +kernel
theorem dX9_carries_0 : decode cX9_carries 0 = .ok (.iconst 0, 1) := by decide +kernel
theorem dX9_carries_1 : decode cX9_carries 1 = .ok (.istore 5, 2) := by decide +kernel
theorem dX9_carries_3 : decode cX9_carries 3 = .ok (.iload 5, 2) := by decide +kernel
theorem dX9_carries_5 : decode cX9_carries 5 = .ok (.iload_n 2, 1) := by decide +kernel
theorem dX9_carries_6 : decode cX9_carries 6 = .ok (.if_icmp .ge 45, 3) := by decide +kernel
theorem dX9_carries_9 : decode cX9_carries 9 = .ok (.iload 4, 2) := by decide +kernel
theorem dX9_carries_11 : decode cX9_carries 11 = .ok (.ifCond .eq 20, 3) := by decide +kernel
theorem dX9_carries_14 : decode cX9_carries 14 = .ok (.aload_n 1, 1) := by decide +kernel
theorem dX9_carries_15 : decode cX9_carries 15 = .ok (.iload 5, 2) := by decide +kernel
theorem dX9_carries_17 : decode cX9_carries 17 = .ok (.aload_n 0, 1) := by decide +kernel
theorem dX9_carries_18 : decode cX9_carries 18 = .ok (.getfield 119, 3) := by decide +kernel
theorem dX9_carries_21 : decode cX9_carries 21 = .ok (.iload_n 3, 1) := by decide +kernel
theorem dX9_carries_22 : decode cX9_carries 22 = .ok (.iload 5, 2) := by decide +kernel
theorem dX9_carries_24 : decode cX9_carries 24 = .ok (.iadd, 1) := by decide +kernel
theorem dX9_carries_25 : decode cX9_carries 25 = .ok (.laload, 1) := by decide +kernel
theorem dX9_carries_26 : decode cX9_carries 26 = .ok (.l2i, 1) := by decide +kernel
theorem dX9_carries_27 : decode cX9_carries 27 = .ok (.iastore, 1) := by decide +kernel
theorem dX9_carries_28 : decode cX9_carries 28 = .ok (.goto 17, 3) := by decide +kernel
theorem dX9_carries_31 : decode cX9_carries 31 = .ok (.aload_n 0, 1) := by decide +kernel
theorem dX9_carries_32 : decode cX9_carries 32 = .ok (.getfield 119, 3) := by decide +kernel
theorem dX9_carries_35 : decode cX9_carries 35 = .ok (.iload_n 3, 1) := by decide +kernel
theorem dX9_carries_36 : decode cX9_carries 36 = .ok (.iload 5, 2) := by decide +kernel
theorem dX9_carries_38 : decode cX9_carries 38 = .ok (.iadd, 1) := by decide +kernel
theorem dX9_carries_39 : decode cX9_carries 39 = .ok (.aload_n 1, 1) := by decide +kernel
theorem dX9_carries_40 : decode cX9_carries 40 = .ok (.iload 5, 2) := by decide +kernel
theorem dX9_carries_42 : decode cX9_carries 42 = .ok (.iaload, 1) := by decide +kernel
theorem dX9_carries_43 : decode cX9_carries 43 = .ok (.i2l, 1) := by decide +kernel
theorem dX9_carries_44 : decode cX9_carries 44 = .ok (.lastore, 1) := by decide +kernel
theorem dX9_carries_45 : decode cX9_carries 45 = .ok (.iinc 5 1, 3) := by decide +kernel
theorem dX9_carries_48 : decode cX9_carries 48 = .ok (.goto (-45), 3) := by decide +kernel
theorem dX9_carries_51 : decode cX9_carries 51 = .ok (.iload_n 3, 1) := by decide +kernel
theorem dX9_carries_52 : decode cX9_carries 52 = .ok (.iload_n 2, 1) := by decide +kernel
theorem dX9_carries_53 : decode cX9_carries 53 = .ok (.iadd, 1) := by decide +kernel
theorem dX9_carries_54 : decode cX9_carries 54 = .ok (.ireturn, 1) := by decide +kernel
theorem dX9_carriesLongs_0 : decode cX9_carriesLongs 0 = .ok (.iconst 0, 1) := by decide +kernel
theorem dX9_carriesLongs_1 : decode cX9_carriesLongs 1 = .ok (.istore 4, 2) := by decide +kernel
theorem dX9_carriesLongs_3 : decode cX9_carriesLongs 3 = .ok (.iload 4, 2) := by decide +kernel
theorem dX9_carriesLongs_5 : decode cX9_carriesLongs 5 = .ok (.bipush 6, 2) := by decide +kernel
theorem dX9_carriesLongs_7 : decode cX9_carriesLongs 7 = .ok (.if_icmp .ge 42, 3) := by decide +kernel
theorem dX9_carriesLongs_10 : decode cX9_carriesLongs 10 = .ok (.iload_n 3, 1) := by decide +kernel
theorem dX9_carriesLongs_11 : decode cX9_carriesLongs 11 = .ok (.ifCond .eq 19, 3) := by decide +kernel
theorem dX9_carriesLongs_14 : decode cX9_carriesLongs 14 = .ok (.aload_n 1, 1) := by decide +kernel
theorem dX9_carriesLongs_15 : decode cX9_carriesLongs 15 = .ok (.iload 4, 2) := by decide +kernel
theorem dX9_carriesLongs_17 : decode cX9_carriesLongs 17 = .ok (.aload_n 0, 1) := by decide +kernel
theorem dX9_carriesLongs_18 : decode cX9_carriesLongs 18 = .ok (.getfield 119, 3) := by decide +kernel
theorem dX9_carriesLongs_21 : decode cX9_carriesLongs 21 = .ok (.iload_n 2, 1) := by decide +kernel
theorem dX9_carriesLongs_22 : decode cX9_carriesLongs 22 = .ok (.iload 4, 2) := by decide +kernel
theorem dX9_carriesLongs_24 : decode cX9_carriesLongs 24 = .ok (.iadd, 1) := by decide +kernel
theorem dX9_carriesLongs_25 : decode cX9_carriesLongs 25 = .ok (.laload, 1) := by decide +kernel
theorem dX9_carriesLongs_26 : decode cX9_carriesLongs 26 = .ok (.lastore, 1) := by decide +kernel
theorem dX9_carriesLongs_27 : decode cX9_carriesLongs 27 = .ok (.goto 16, 3) := by decide +kernel
theorem dX9_carriesLongs_30 : decode cX9_carriesLongs 30 = .ok (.aload_n 0, 1) := by decide +kernel
theorem dX9_carriesLongs_31 : decode cX9_carriesLongs 31 = .ok (.getfield 119, 3) := by decide +kernel
theorem dX9_carriesLongs_34 : decode cX9_carriesLongs 34 = .ok (.iload_n 2, 1) := by decide +kernel
theorem dX9_carriesLongs_35 : decode cX9_carriesLongs 35 = .ok (.iload 4, 2) := by decide +kernel
theorem dX9_carriesLongs_37 : decode cX9_carriesLongs 37 = .ok (.iadd, 1) := by decide +kernel
theorem dX9_carriesLongs_38 : decode cX9_carriesLongs 38 = .ok (.aload_n 1, 1) := by decide +kernel
theorem dX9_carriesLongs_39 : decode cX9_carriesLongs 39 = .ok (.iload 4, 2) := by decide +kernel
theorem dX9_carriesLongs_41 : decode cX9_carriesLongs 41 = .ok (.laload, 1) := by decide +kernel
theorem dX9_carriesLongs_42 : decode cX9_carriesLongs 42 = .ok (.lastore, 1) := by decide +kernel
theorem dX9_carriesLongs_43 : decode cX9_carriesLongs 43 = .ok (.iinc 4 1, 3) := by decide +kernel
theorem dX9_carriesLongs_46 : decode cX9_carriesLongs 46 = .ok (.goto (-43), 3) := by decide +kernel
theorem dX9_carriesLongs_49 : decode cX9_carriesLongs 49 = .ok (.iload_n 2, 1) := by decide +kernel
theorem dX9_carriesLongs_50 : decode cX9_carriesLongs 50 = .ok (.bipush 6, 2) := by decide +kernel
theorem dX9_carriesLongs_52 : decode cX9_carriesLongs 52 = .ok (.iadd, 1) := by decide +kernel
theorem dX9_carriesLongs_53 : decode cX9_carriesLongs 53 = .ok (.ireturn, 1) := by decide +kernel
theorem dX9_carriesAll_0 : decode cX9_carriesAll 0 = .ok (.aload_n 0, 1) := by decide +kernel
theorem dX9_carriesAll_1 : decode cX9_carriesAll 1 = .ok (.aload_n 0, 1) := by decide +kernel
theorem dX9_carriesAll_2 : decode cX9_carriesAll 2 = .ok (.getfield 21, 3) := by decide +kernel
theorem dX9_carriesAll_5 : decode cX9_carriesAll 5 = .ok (.bipush 6, 2) := by decide +kernel
theorem dX9_carriesAll_7 : decode cX9_carriesAll 7 = .ok (.bipush 7, 2) := by decide +kernel
theorem dX9_carriesAll_9 : decode cX9_carriesAll 9 = .ok (.iload_n 1, 1) := by decide +kernel
theorem dX9_carriesAll_10 : decode cX9_carriesAll 10 = .ok (.invokevirtual 377, 3) := by decide +kernel
theorem dX9_carriesAll_13 : decode cX9_carriesAll 13 = .ok (.istore_n 2, 1) := by decide +kernel
theorem dX9_carriesAll_14 : decode cX9_carriesAll 14 = .ok (.aload_n 0, 1) := by decide +kernel
theorem dX9_carriesAll_15 : decode cX9_carriesAll 15 = .ok (.aload_n 0, 1) := by decide +kernel
theorem dX9_carriesAll_16 : decode cX9_carriesAll 16 = .ok (.getfield 25, 3) := by decide +kernel
theorem dX9_carriesAll_19 : decode cX9_carriesAll 19 = .ok (.iload_n 2, 1) := by decide +kernel
theorem dX9_carriesAll_20 : decode cX9_carriesAll 20 = .ok (.iload_n 1, 1) := by decide +kernel
theorem dX9_carriesAll_21 : decode cX9_carriesAll 21 = .ok (.invokevirtual 381, 3) := by decide +kernel
theorem dX9_carriesAll_24 : decode cX9_carriesAll 24 = .ok (.istore_n 2, 1) := by decide +kernel
theorem dX9_carriesAll_25 : decode cX9_carriesAll 25 = .ok (.aload_n 0, 1) := by decide +kernel
theorem dX9_carriesAll_26 : decode cX9_carriesAll 26 = .ok (.aload_n 0, 1) := by decide +kernel
theorem dX9_carriesAll_27 : decode cX9_carriesAll 27 = .ok (.getfield 29, 3) := by decide +kernel
theorem dX9_carriesAll_30 : decode cX9_carriesAll 30 = .ok (.iload_n 2, 1) := by decide +kernel
theorem dX9_carriesAll_31 : decode cX9_carriesAll 31 = .ok (.iload_n 1, 1) := by decide +kernel
theorem dX9_carriesAll_32 : decode cX9_carriesAll 32 = .ok (.invokevirtual 381, 3) := by decide +kernel
theorem dX9_carriesAll_35 : decode cX9_carriesAll 35 = .ok (.istore_n 2, 1) := by decide +kernel
theorem dX9_carriesAll_36 : decode cX9_carriesAll 36 = .ok (.aload_n 0, 1) := by decide +kernel
theorem dX9_carriesAll_37 : decode cX9_carriesAll 37 = .ok (.aload_n 0, 1) := by decide +kernel
theorem dX9_carriesAll_38 : decode cX9_carriesAll 38 = .ok (.getfield 32, 3) := by decide +kernel
theorem dX9_carriesAll_41 : decode cX9_carriesAll 41 = .ok (.iload_n 2, 1) := by decide +kernel
theorem dX9_carriesAll_42 : decode cX9_carriesAll 42 = .ok (.iload_n 1, 1) := by decide +kernel
theorem dX9_carriesAll_43 : decode cX9_carriesAll 43 = .ok (.invokevirtual 381, 3) := by decide +kernel
theorem dX9_carriesAll_46 : decode cX9_carriesAll 46 = .ok (.istore_n 2, 1) := by decide +kernel
theorem dX9_carriesAll_47 : decode cX9_carriesAll 47 = .ok (.aload_n 0, 1) := by decide +kernel
theorem dX9_carriesAll_48 : decode cX9_carriesAll 48 = .ok (.aload_n 0, 1) := by decide +kernel
theorem dX9_carriesAll_49 : decode cX9_carriesAll 49 = .ok (.getfield 35, 3) := by decide +kernel
theorem dX9_carriesAll_52 : decode cX9_carriesAll 52 = .ok (.iload_n 2, 1) := by decide +kernel
theorem dX9_carriesAll_53 : decode cX9_carriesAll 53 = .ok (.iload_n 1, 1) := by decide +kernel
theorem dX9_carriesAll_54 : decode cX9_carriesAll 54 = .ok (.invokevirtual 381, 3) := by decide +kernel
theorem dX9_carriesAll_57 : decode cX9_carriesAll 57 = .ok (.istore_n 2, 1) := by decide +kernel
theorem dX9_carriesAll_58 : decode cX9_carriesAll 58 = .ok (.aload_n 0, 1) := by decide +kernel
theorem dX9_carriesAll_59 : decode cX9_carriesAll 59 = .ok (.aload_n 0, 1) := by decide +kernel
theorem dX9_carriesAll_60 : decode cX9_carriesAll 60 = .ok (.getfield 38, 3) := by decide +kernel
theorem dX9_carriesAll_63 : decode cX9_carriesAll 63 = .ok (.iconst 5, 1) := by decide +kernel
theorem dX9_carriesAll_64 : decode cX9_carriesAll 64 = .ok (.iload_n 2, 1) := by decide +kernel
theorem dX9_carriesAll_65 : decode cX9_carriesAll 65 = .ok (.iload_n 1, 1) := by decide +kernel
theorem dX9_carriesAll_66 : decode cX9_carriesAll 66 = .ok (.invokevirtual 377, 3) := by decide +kernel
theorem dX9_carriesAll_69 : decode cX9_carriesAll 69 = .ok (.istore_n 2, 1) := by decide +kernel
theorem dX9_carriesAll_70 : decode cX9_carriesAll 70 = .ok (.aload_n 0, 1) := by decide +kernel
theorem dX9_carriesAll_71 : decode cX9_carriesAll 71 = .ok (.aload_n 0, 1) := by decide +kernel
theorem dX9_carriesAll_72 : decode cX9_carriesAll 72 = .ok (.getfield 41, 3) := by decide +kernel
theorem dX9_carriesAll_75 : decode cX9_carriesAll 75 = .ok (.iconst 5, 1) := by decide +kernel
theorem dX9_carriesAll_76 : decode cX9_carriesAll 76 = .ok (.iload_n 2, 1) := by decide +kernel
theorem dX9_carriesAll_77 : decode cX9_carriesAll 77 = .ok (.iload_n 1, 1) := by decide +kernel
theorem dX9_carriesAll_78 : decode cX9_carriesAll 78 = .ok (.invokevirtual 377, 3) := by decide +kernel
theorem dX9_carriesAll_81 : decode cX9_carriesAll 81 = .ok (.istore_n 2, 1) := by decide +kernel
theorem dX9_carriesAll_82 : decode cX9_carriesAll 82 = .ok (.aload_n 0, 1) := by decide +kernel
theorem dX9_carriesAll_83 : decode cX9_carriesAll 83 = .ok (.aload_n 0, 1) := by decide +kernel
theorem dX9_carriesAll_84 : decode cX9_carriesAll 84 = .ok (.getfield 44, 3) := by decide +kernel
theorem dX9_carriesAll_87 : decode cX9_carriesAll 87 = .ok (.bipush 8, 2) := by decide +kernel
theorem dX9_carriesAll_89 : decode cX9_carriesAll 89 = .ok (.iload_n 2, 1) := by decide +kernel
theorem dX9_carriesAll_90 : decode cX9_carriesAll 90 = .ok (.iload_n 1, 1) := by decide +kernel
theorem dX9_carriesAll_91 : decode cX9_carriesAll 91 = .ok (.invokevirtual 377, 3) := by decide +kernel
theorem dX9_carriesAll_94 : decode cX9_carriesAll 94 = .ok (.istore_n 2, 1) := by decide +kernel
theorem dX9_carriesAll_95 : decode cX9_carriesAll 95 = .ok (.aload_n 0, 1) := by decide +kernel
theorem dX9_carriesAll_96 : decode cX9_carriesAll 96 = .ok (.aload_n 0, 1) := by decide +kernel
theorem dX9_carriesAll_97 : decode cX9_carriesAll 97 = .ok (.getfield 47, 3) := by decide +kernel
theorem dX9_carriesAll_100 : decode cX9_carriesAll 100 = .ok (.bipush 8, 2) := by decide +kernel
theorem dX9_carriesAll_102 : decode cX9_carriesAll 102 = .ok (.iload_n 2, 1) := by decide +kernel
theorem dX9_carriesAll_103 : decode cX9_carriesAll 103 = .ok (.iload_n 1, 1) := by decide +kernel
theorem dX9_carriesAll_104 : decode cX9_carriesAll 104 = .ok (.invokevirtual 377, 3) := by decide +kernel
theorem dX9_carriesAll_107 : decode cX9_carriesAll 107 = .ok (.istore_n 2, 1) := by decide +kernel
theorem dX9_carriesAll_108 : decode cX9_carriesAll 108 = .ok (.iconst 0, 1) := by decide +kernel
theorem dX9_carriesAll_109 : decode cX9_carriesAll 109 = .ok (.istore_n 3, 1) := by decide +kernel
theorem dX9_carriesAll_110 : decode cX9_carriesAll 110 = .ok (.iload_n 3, 1) := by decide +kernel
theorem dX9_carriesAll_111 : decode cX9_carriesAll 111 = .ok (.bipush 8, 2) := by decide +kernel
theorem dX9_carriesAll_113 : decode cX9_carriesAll 113 = .ok (.if_icmp .ge 81, 3) := by decide +kernel
theorem dX9_carriesAll_116 : decode cX9_carriesAll 116 = .ok (.iload_n 1, 1) := by decide +kernel
theorem dX9_carriesAll_117 : decode cX9_carriesAll 117 = .ok (.ifCond .eq 44, 3) := by decide +kernel
theorem dX9_carriesAll_120 : decode cX9_carriesAll 120 = .ok (.aload_n 0, 1) := by decide +kernel
theorem dX9_carriesAll_121 : decode cX9_carriesAll 121 = .ok (.getfield 50, 3) := by decide +kernel
theorem dX9_carriesAll_124 : decode cX9_carriesAll 124 = .ok (.iload_n 3, 1) := by decide +kernel
theorem dX9_carriesAll_125 : decode cX9_carriesAll 125 = .ok (.aload_n 0, 1) := by decide +kernel
theorem dX9_carriesAll_126 : decode cX9_carriesAll 126 = .ok (.getfield 119, 3) := by decide +kernel
theorem dX9_carriesAll_129 : decode cX9_carriesAll 129 = .ok (.iload_n 2, 1) := by decide +kernel
theorem dX9_carriesAll_130 : decode cX9_carriesAll 130 = .ok (.iload_n 3, 1) := by decide +kernel
theorem dX9_carriesAll_131 : decode cX9_carriesAll 131 = .ok (.iadd, 1) := by decide +kernel
theorem dX9_carriesAll_132 : decode cX9_carriesAll 132 = .ok (.laload, 1) := by decide +kernel
theorem dX9_carriesAll_133 : decode cX9_carriesAll 133 = .ok (.ldc2_w 385, 3) := by decide +kernel
theorem dX9_carriesAll_136 : decode cX9_carriesAll 136 = .ok (.ldiv, 1) := by decide +kernel
theorem dX9_carriesAll_137 : decode cX9_carriesAll 137 = .ok (.l2i, 1) := by decide +kernel
theorem dX9_carriesAll_138 : decode cX9_carriesAll 138 = .ok (.iastore, 1) := by decide +kernel
theorem dX9_carriesAll_139 : decode cX9_carriesAll 139 = .ok (.aload_n 0, 1) := by decide +kernel
theorem dX9_carriesAll_140 : decode cX9_carriesAll 140 = .ok (.getfield 53, 3) := by decide +kernel
theorem dX9_carriesAll_143 : decode cX9_carriesAll 143 = .ok (.iload_n 3, 1) := by decide +kernel
theorem dX9_carriesAll_144 : decode cX9_carriesAll 144 = .ok (.aload_n 0, 1) := by decide +kernel
theorem dX9_carriesAll_145 : decode cX9_carriesAll 145 = .ok (.getfield 119, 3) := by decide +kernel
theorem dX9_carriesAll_148 : decode cX9_carriesAll 148 = .ok (.iload_n 2, 1) := by decide +kernel
theorem dX9_carriesAll_149 : decode cX9_carriesAll 149 = .ok (.iload_n 3, 1) := by decide +kernel
theorem dX9_carriesAll_150 : decode cX9_carriesAll 150 = .ok (.iadd, 1) := by decide +kernel
theorem dX9_carriesAll_151 : decode cX9_carriesAll 151 = .ok (.laload, 1) := by decide +kernel
theorem dX9_carriesAll_152 : decode cX9_carriesAll 152 = .ok (.ldc2_w 385, 3) := by decide +kernel
theorem dX9_carriesAll_155 : decode cX9_carriesAll 155 = .ok (.lrem, 1) := by decide +kernel
theorem dX9_carriesAll_156 : decode cX9_carriesAll 156 = .ok (.l2i, 1) := by decide +kernel
theorem dX9_carriesAll_157 : decode cX9_carriesAll 157 = .ok (.iastore, 1) := by decide +kernel
theorem dX9_carriesAll_158 : decode cX9_carriesAll 158 = .ok (.goto 30, 3) := by decide +kernel
theorem dX9_carriesAll_161 : decode cX9_carriesAll 161 = .ok (.aload_n 0, 1) := by decide +kernel
theorem dX9_carriesAll_162 : decode cX9_carriesAll 162 = .ok (.getfield 119, 3) := by decide +kernel
theorem dX9_carriesAll_165 : decode cX9_carriesAll 165 = .ok (.iload_n 2, 1) := by decide +kernel
theorem dX9_carriesAll_166 : decode cX9_carriesAll 166 = .ok (.iload_n 3, 1) := by decide +kernel
theorem dX9_carriesAll_167 : decode cX9_carriesAll 167 = .ok (.iadd, 1) := by decide +kernel
theorem dX9_carriesAll_168 : decode cX9_carriesAll 168 = .ok (.ldc2_w 385, 3) := by decide +kernel
theorem dX9_carriesAll_171 : decode cX9_carriesAll 171 = .ok (.aload_n 0, 1) := by decide +kernel
theorem dX9_carriesAll_172 : decode cX9_carriesAll 172 = .ok (.getfield 50, 3) := by decide +kernel
theorem dX9_carriesAll_175 : decode cX9_carriesAll 175 = .ok (.iload_n 3, 1) := by decide +kernel
theorem dX9_carriesAll_176 : decode cX9_carriesAll 176 = .ok (.iaload, 1) := by decide +kernel
theorem dX9_carriesAll_177 : decode cX9_carriesAll 177 = .ok (.i2l, 1) := by decide +kernel
theorem dX9_carriesAll_178 : decode cX9_carriesAll 178 = .ok (.lmul, 1) := by decide +kernel
theorem dX9_carriesAll_179 : decode cX9_carriesAll 179 = .ok (.aload_n 0, 1) := by decide +kernel
theorem dX9_carriesAll_180 : decode cX9_carriesAll 180 = .ok (.getfield 53, 3) := by decide +kernel
theorem dX9_carriesAll_183 : decode cX9_carriesAll 183 = .ok (.iload_n 3, 1) := by decide +kernel
theorem dX9_carriesAll_184 : decode cX9_carriesAll 184 = .ok (.iaload, 1) := by decide +kernel
theorem dX9_carriesAll_185 : decode cX9_carriesAll 185 = .ok (.i2l, 1) := by decide +kernel
theorem dX9_carriesAll_186 : decode cX9_carriesAll 186 = .ok (.ladd, 1) := by decide +kernel
theorem dX9_carriesAll_187 : decode cX9_carriesAll 187 = .ok (.lastore, 1) := by decide +kernel
theorem dX9_carriesAll_188 : decode cX9_carriesAll 188 = .ok (.iinc 3 1, 3) := by decide +kernel
theorem dX9_carriesAll_191 : decode cX9_carriesAll 191 = .ok (.goto (-81), 3) := by decide +kernel
theorem dX9_carriesAll_194 : decode cX9_carriesAll 194 = .ok (.return_, 1) := by decide +kernel
theorem dX9_image_0 : decode cX9_image 0 = .ok (.aload_n 0, 1) := by decide +kernel
theorem dX9_image_1 : decode cX9_image 1 = .ok (.getfield 119, 3) := by decide +kernel
theorem dX9_image_4 : decode cX9_image 4 = .ok (.iconst 0, 1) := by decide +kernel
theorem dX9_image_5 : decode cX9_image 5 = .ok (.aload_n 0, 1) := by decide +kernel
theorem dX9_image_6 : decode cX9_image 6 = .ok (.getfield 181, 3) := by decide +kernel
theorem dX9_image_9 : decode cX9_image 9 = .ok (.i2l, 1) := by decide +kernel
theorem dX9_image_10 : decode cX9_image 10 = .ok (.lastore, 1) := by decide +kernel
theorem dX9_image_11 : decode cX9_image 11 = .ok (.aload_n 0, 1) := by decide +kernel
theorem dX9_image_12 : decode cX9_image 12 = .ok (.getfield 119, 3) := by decide +kernel
theorem dX9_image_15 : decode cX9_image 15 = .ok (.iconst 1, 1) := by decide +kernel
theorem dX9_image_16 : decode cX9_image 16 = .ok (.aload_n 0, 1) := by decide +kernel
theorem dX9_image_17 : decode cX9_image 17 = .ok (.getfield 9, 3) := by decide +kernel
theorem dX9_image_20 : decode cX9_image 20 = .ok (.i2l, 1) := by decide +kernel
theorem dX9_image_21 : decode cX9_image 21 = .ok (.lastore, 1) := by decide +kernel
theorem dX9_image_22 : decode cX9_image 22 = .ok (.aload_n 0, 1) := by decide +kernel
theorem dX9_image_23 : decode cX9_image 23 = .ok (.getfield 119, 3) := by decide +kernel
theorem dX9_image_26 : decode cX9_image 26 = .ok (.iconst 2, 1) := by decide +kernel
theorem dX9_image_27 : decode cX9_image 27 = .ok (.aload_n 0, 1) := by decide +kernel
theorem dX9_image_28 : decode cX9_image 28 = .ok (.getfield 15, 3) := by decide +kernel
theorem dX9_image_31 : decode cX9_image 31 = .ok (.i2l, 1) := by decide +kernel
theorem dX9_image_32 : decode cX9_image 32 = .ok (.lastore, 1) := by decide +kernel
theorem dX9_image_33 : decode cX9_image 33 = .ok (.aload_n 0, 1) := by decide +kernel
theorem dX9_image_34 : decode cX9_image 34 = .ok (.getfield 119, 3) := by decide +kernel
theorem dX9_image_37 : decode cX9_image 37 = .ok (.iconst 3, 1) := by decide +kernel
theorem dX9_image_38 : decode cX9_image 38 = .ok (.aload_n 0, 1) := by decide +kernel
theorem dX9_image_39 : decode cX9_image 39 = .ok (.getfield 18, 3) := by decide +kernel
theorem dX9_image_42 : decode cX9_image 42 = .ok (.i2l, 1) := by decide +kernel
theorem dX9_image_43 : decode cX9_image 43 = .ok (.lastore, 1) := by decide +kernel
theorem dX9_image_44 : decode cX9_image 44 = .ok (.aload_n 0, 1) := by decide +kernel
theorem dX9_image_45 : decode cX9_image 45 = .ok (.getfield 119, 3) := by decide +kernel
theorem dX9_image_48 : decode cX9_image 48 = .ok (.iconst 4, 1) := by decide +kernel
theorem dX9_image_49 : decode cX9_image 49 = .ok (.aload_n 0, 1) := by decide +kernel
theorem dX9_image_50 : decode cX9_image 50 = .ok (.getfield 348, 3) := by decide +kernel
theorem dX9_image_53 : decode cX9_image 53 = .ok (.i2l, 1) := by decide +kernel
theorem dX9_image_54 : decode cX9_image 54 = .ok (.lastore, 1) := by decide +kernel
theorem dX9_image_55 : decode cX9_image 55 = .ok (.aload_n 0, 1) := by decide +kernel
theorem dX9_image_56 : decode cX9_image 56 = .ok (.getfield 119, 3) := by decide +kernel
theorem dX9_image_59 : decode cX9_image 59 = .ok (.iconst 5, 1) := by decide +kernel
theorem dX9_image_60 : decode cX9_image 60 = .ok (.aload_n 0, 1) := by decide +kernel
theorem dX9_image_61 : decode cX9_image 61 = .ok (.getfield 363, 3) := by decide +kernel
theorem dX9_image_64 : decode cX9_image 64 = .ok (.i2l, 1) := by decide +kernel
theorem dX9_image_65 : decode cX9_image 65 = .ok (.lastore, 1) := by decide +kernel
theorem dX9_image_66 : decode cX9_image 66 = .ok (.aload_n 0, 1) := by decide +kernel
theorem dX9_image_67 : decode cX9_image 67 = .ok (.getfield 119, 3) := by decide +kernel
theorem dX9_image_70 : decode cX9_image 70 = .ok (.bipush 6, 2) := by decide +kernel
theorem dX9_image_72 : decode cX9_image 72 = .ok (.aload_n 0, 1) := by decide +kernel
theorem dX9_image_73 : decode cX9_image 73 = .ok (.getfield 371, 3) := by decide +kernel
theorem dX9_image_76 : decode cX9_image 76 = .ok (.i2l, 1) := by decide +kernel
theorem dX9_image_77 : decode cX9_image 77 = .ok (.lastore, 1) := by decide +kernel
theorem dX9_image_78 : decode cX9_image 78 = .ok (.aload_n 0, 1) := by decide +kernel
theorem dX9_image_79 : decode cX9_image 79 = .ok (.iconst 0, 1) := by decide +kernel
theorem dX9_image_80 : decode cX9_image 80 = .ok (.invokevirtual 387, 3) := by decide +kernel
theorem dX9_image_83 : decode cX9_image 83 = .ok (.aload_n 0, 1) := by decide +kernel
theorem dX9_image_84 : decode cX9_image 84 = .ok (.iconst 1, 1) := by decide +kernel
theorem dX9_image_85 : decode cX9_image 85 = .ok (.putfield 391, 3) := by decide +kernel
theorem dX9_image_88 : decode cX9_image 88 = .ok (.aload_n 0, 1) := by decide +kernel
theorem dX9_image_89 : decode cX9_image 89 = .ok (.getfield 181, 3) := by decide +kernel
theorem dX9_image_92 : decode cX9_image 92 = .ok (.ireturn, 1) := by decide +kernel
theorem dX9_undo_0 : decode cX9_undo 0 = .ok (.aload_n 0, 1) := by decide +kernel
theorem dX9_undo_1 : decode cX9_undo 1 = .ok (.getfield 391, 3) := by decide +kernel
theorem dX9_undo_4 : decode cX9_undo 4 = .ok (.ifCond .ne 6, 3) := by decide +kernel
theorem dX9_undo_7 : decode cX9_undo 7 = .ok (.bipush (-3), 2) := by decide +kernel
theorem dX9_undo_9 : decode cX9_undo 9 = .ok (.ireturn, 1) := by decide +kernel
theorem dX9_undo_10 : decode cX9_undo 10 = .ok (.aload_n 0, 1) := by decide +kernel
theorem dX9_undo_11 : decode cX9_undo 11 = .ok (.aload_n 0, 1) := by decide +kernel
theorem dX9_undo_12 : decode cX9_undo 12 = .ok (.getfield 119, 3) := by decide +kernel
theorem dX9_undo_15 : decode cX9_undo 15 = .ok (.iconst 0, 1) := by decide +kernel
theorem dX9_undo_16 : decode cX9_undo 16 = .ok (.laload, 1) := by decide +kernel
theorem dX9_undo_17 : decode cX9_undo 17 = .ok (.l2i, 1) := by decide +kernel
theorem dX9_undo_18 : decode cX9_undo 18 = .ok (.putfield 181, 3) := by decide +kernel
theorem dX9_undo_21 : decode cX9_undo 21 = .ok (.aload_n 0, 1) := by decide +kernel
theorem dX9_undo_22 : decode cX9_undo 22 = .ok (.aload_n 0, 1) := by decide +kernel
theorem dX9_undo_23 : decode cX9_undo 23 = .ok (.getfield 119, 3) := by decide +kernel
theorem dX9_undo_26 : decode cX9_undo 26 = .ok (.iconst 1, 1) := by decide +kernel
theorem dX9_undo_27 : decode cX9_undo 27 = .ok (.laload, 1) := by decide +kernel
theorem dX9_undo_28 : decode cX9_undo 28 = .ok (.l2i, 1) := by decide +kernel
theorem dX9_undo_29 : decode cX9_undo 29 = .ok (.putfield 9, 3) := by decide +kernel
theorem dX9_undo_32 : decode cX9_undo 32 = .ok (.aload_n 0, 1) := by decide +kernel
theorem dX9_undo_33 : decode cX9_undo 33 = .ok (.aload_n 0, 1) := by decide +kernel
theorem dX9_undo_34 : decode cX9_undo 34 = .ok (.getfield 119, 3) := by decide +kernel
theorem dX9_undo_37 : decode cX9_undo 37 = .ok (.iconst 2, 1) := by decide +kernel
theorem dX9_undo_38 : decode cX9_undo 38 = .ok (.laload, 1) := by decide +kernel
theorem dX9_undo_39 : decode cX9_undo 39 = .ok (.l2i, 1) := by decide +kernel
theorem dX9_undo_40 : decode cX9_undo 40 = .ok (.putfield 15, 3) := by decide +kernel
theorem dX9_undo_43 : decode cX9_undo 43 = .ok (.aload_n 0, 1) := by decide +kernel
theorem dX9_undo_44 : decode cX9_undo 44 = .ok (.aload_n 0, 1) := by decide +kernel
theorem dX9_undo_45 : decode cX9_undo 45 = .ok (.getfield 119, 3) := by decide +kernel
theorem dX9_undo_48 : decode cX9_undo 48 = .ok (.iconst 3, 1) := by decide +kernel
theorem dX9_undo_49 : decode cX9_undo 49 = .ok (.laload, 1) := by decide +kernel
theorem dX9_undo_50 : decode cX9_undo 50 = .ok (.l2i, 1) := by decide +kernel
theorem dX9_undo_51 : decode cX9_undo 51 = .ok (.putfield 18, 3) := by decide +kernel
theorem dX9_undo_54 : decode cX9_undo 54 = .ok (.aload_n 0, 1) := by decide +kernel
theorem dX9_undo_55 : decode cX9_undo 55 = .ok (.aload_n 0, 1) := by decide +kernel
theorem dX9_undo_56 : decode cX9_undo 56 = .ok (.getfield 119, 3) := by decide +kernel
theorem dX9_undo_59 : decode cX9_undo 59 = .ok (.iconst 4, 1) := by decide +kernel
theorem dX9_undo_60 : decode cX9_undo 60 = .ok (.laload, 1) := by decide +kernel
theorem dX9_undo_61 : decode cX9_undo 61 = .ok (.l2i, 1) := by decide +kernel
theorem dX9_undo_62 : decode cX9_undo 62 = .ok (.putfield 348, 3) := by decide +kernel
theorem dX9_undo_65 : decode cX9_undo 65 = .ok (.aload_n 0, 1) := by decide +kernel
theorem dX9_undo_66 : decode cX9_undo 66 = .ok (.aload_n 0, 1) := by decide +kernel
theorem dX9_undo_67 : decode cX9_undo 67 = .ok (.getfield 119, 3) := by decide +kernel
theorem dX9_undo_70 : decode cX9_undo 70 = .ok (.iconst 5, 1) := by decide +kernel
theorem dX9_undo_71 : decode cX9_undo 71 = .ok (.laload, 1) := by decide +kernel
theorem dX9_undo_72 : decode cX9_undo 72 = .ok (.l2i, 1) := by decide +kernel
theorem dX9_undo_73 : decode cX9_undo 73 = .ok (.putfield 363, 3) := by decide +kernel
theorem dX9_undo_76 : decode cX9_undo 76 = .ok (.aload_n 0, 1) := by decide +kernel
theorem dX9_undo_77 : decode cX9_undo 77 = .ok (.aload_n 0, 1) := by decide +kernel
theorem dX9_undo_78 : decode cX9_undo 78 = .ok (.getfield 119, 3) := by decide +kernel
theorem dX9_undo_81 : decode cX9_undo 81 = .ok (.bipush 6, 2) := by decide +kernel
theorem dX9_undo_83 : decode cX9_undo 83 = .ok (.laload, 1) := by decide +kernel
theorem dX9_undo_84 : decode cX9_undo 84 = .ok (.l2i, 1) := by decide +kernel
theorem dX9_undo_85 : decode cX9_undo 85 = .ok (.putfield 371, 3) := by decide +kernel
theorem dX9_undo_88 : decode cX9_undo 88 = .ok (.aload_n 0, 1) := by decide +kernel
theorem dX9_undo_89 : decode cX9_undo 89 = .ok (.iconst 1, 1) := by decide +kernel
theorem dX9_undo_90 : decode cX9_undo 90 = .ok (.invokevirtual 387, 3) := by decide +kernel
theorem dX9_undo_93 : decode cX9_undo 93 = .ok (.aload_n 0, 1) := by decide +kernel
theorem dX9_undo_94 : decode cX9_undo 94 = .ok (.getfield 181, 3) := by decide +kernel
theorem dX9_undo_97 : decode cX9_undo 97 = .ok (.ireturn, 1) := by decide +kernel
theorem dX9_count_0 : decode cX9_count 0 = .ok (.iload_n 1, 1) := by decide +kernel
theorem dX9_count_1 : decode cX9_count 1 = .ok (.tableswitch 51 0 3 #[31, 36, 41, 46], 31) := by decide +kernel
theorem dX9_count_32 : decode cX9_count 32 = .ok (.aload_n 0, 1) := by decide +kernel
theorem dX9_count_33 : decode cX9_count 33 = .ok (.getfield 348, 3) := by decide +kernel
theorem dX9_count_36 : decode cX9_count 36 = .ok (.ireturn, 1) := by decide +kernel
theorem dX9_count_37 : decode cX9_count 37 = .ok (.aload_n 0, 1) := by decide +kernel
theorem dX9_count_38 : decode cX9_count 38 = .ok (.getfield 363, 3) := by decide +kernel
theorem dX9_count_41 : decode cX9_count 41 = .ok (.ireturn, 1) := by decide +kernel
theorem dX9_count_42 : decode cX9_count 42 = .ok (.aload_n 0, 1) := by decide +kernel
theorem dX9_count_43 : decode cX9_count 43 = .ok (.getfield 371, 3) := by decide +kernel
theorem dX9_count_46 : decode cX9_count 46 = .ok (.ireturn, 1) := by decide +kernel
theorem dX9_count_47 : decode cX9_count 47 = .ok (.aload_n 0, 1) := by decide +kernel
theorem dX9_count_48 : decode cX9_count 48 = .ok (.getfield 294, 3) := by decide +kernel
theorem dX9_count_51 : decode cX9_count 51 = .ok (.ireturn, 1) := by decide +kernel
theorem dX9_count_52 : decode cX9_count 52 = .ok (.bipush (-2), 2) := by decide +kernel
theorem dX9_count_54 : decode cX9_count 54 = .ok (.ireturn, 1) := by decide +kernel
