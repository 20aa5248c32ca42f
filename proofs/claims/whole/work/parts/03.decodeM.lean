theorem dX10_in_0 : decode cX10_in 0 = .ok (.iload_n 0, 1) := by decide +kernel
theorem dX10_in_1 : decode cX10_in 1 = .ok (.iload_n 1, 1) := by decide +kernel
theorem dX10_in_2 : decode cX10_in 2 = .ok (.if_icmp .lt 12, 3) := by decide +kernel
theorem dX10_in_5 : decode cX10_in 5 = .ok (.iload_n 0, 1) := by decide +kernel
theorem dX10_in_6 : decode cX10_in 6 = .ok (.iload_n 2, 1) := by decide +kernel
theorem dX10_in_7 : decode cX10_in 7 = .ok (.if_icmp .gt 7, 3) := by decide +kernel
theorem dX10_in_10 : decode cX10_in 10 = .ok (.iconst 1, 1) := by decide +kernel
theorem dX10_in_11 : decode cX10_in 11 = .ok (.goto 4, 3) := by decide +kernel
theorem dX10_in_14 : decode cX10_in 14 = .ok (.iconst 0, 1) := by decide +kernel
theorem dX10_in_15 : decode cX10_in 15 = .ok (.ireturn, 1) := by decide +kernel
theorem dX10_init_0 : decode cX10_init 0 = .ok (.aload_n 0, 1) := by decide +kernel
theorem dX10_init_1 : decode cX10_init 1 = .ok (.invokespecial 1, 3) := by decide +kernel
theorem dX10_init_4 : decode cX10_init 4 = .ok (.aload_n 0, 1) := by decide +kernel
theorem dX10_init_5 : decode cX10_init 5 = .ok (.bipush 50, 2) := by decide +kernel
theorem dX10_init_7 : decode cX10_init 7 = .ok (.newarray .int, 2) := by decide +kernel
theorem dX10_init_9 : decode cX10_init 9 = .ok (.putfield 9, 3) := by decide +kernel
theorem dX10_init_12 : decode cX10_init 12 = .ok (.aload_n 0, 1) := by decide +kernel
theorem dX10_init_13 : decode cX10_init 13 = .ok (.sipush 1000, 3) := by decide +kernel
theorem dX10_init_16 : decode cX10_init 16 = .ok (.newarray .int, 2) := by decide +kernel
theorem dX10_init_18 : decode cX10_init 18 = .ok (.putfield 13, 3) := by decide +kernel
theorem dX10_init_21 : decode cX10_init 21 = .ok (.aload_n 0, 1) := by decide +kernel
theorem dX10_init_22 : decode cX10_init 22 = .ok (.bipush 20, 2) := by decide +kernel
theorem dX10_init_24 : decode cX10_init 24 = .ok (.newarray .int, 2) := by decide +kernel
theorem dX10_init_26 : decode cX10_init 26 = .ok (.putfield 16, 3) := by decide +kernel
theorem dX10_init_29 : decode cX10_init 29 = .ok (.aload_n 0, 1) := by decide +kernel
theorem dX10_init_30 : decode cX10_init 30 = .ok (.bipush 60, 2) := by decide +kernel
theorem dX10_init_32 : decode cX10_init 32 = .ok (.newarray .int, 2) := by decide +kernel
theorem dX10_init_34 : decode cX10_init 34 = .ok (.putfield 19, 3) := by decide +kernel
theorem dX10_init_37 : decode cX10_init 37 = .ok (.aload_n 0, 1) := by decide +kernel
theorem dX10_init_38 : decode cX10_init 38 = .ok (.bipush 60, 2) := by decide +kernel
theorem dX10_init_40 : decode cX10_init 40 = .ok (.newarray .int, 2) := by decide +kernel
theorem dX10_init_42 : decode cX10_init 42 = .ok (.putfield 22, 3) := by decide +kernel
theorem dX10_init_45 : decode cX10_init 45 = .ok (.aload_n 0, 1) := by decide +kernel
theorem dX10_init_46 : decode cX10_init 46 = .ok (.bipush 60, 2) := by decide +kernel
theorem dX10_init_48 : decode cX10_init 48 = .ok (.newarray .int, 2) := by decide +kernel
theorem dX10_init_50 : decode cX10_init 50 = .ok (.putfield 25, 3) := by decide +kernel
theorem dX10_init_53 : decode cX10_init 53 = .ok (.aload_n 0, 1) := by decide +kernel
theorem dX10_init_54 : decode cX10_init 54 = .ok (.bipush 60, 2) := by decide +kernel
theorem dX10_init_56 : decode cX10_init 56 = .ok (.newarray .int, 2) := by decide +kernel
theorem dX10_init_58 : decode cX10_init 58 = .ok (.putfield 28, 3) := by decide +kernel
theorem dX10_init_61 : decode cX10_init 61 = .ok (.aload_n 0, 1) := by decide +kernel
theorem dX10_init_62 : decode cX10_init 62 = .ok (.bipush 60, 2) := by decide +kernel
theorem dX10_init_64 : decode cX10_init 64 = .ok (.newarray .int, 2) := by decide +kernel
theorem dX10_init_66 : decode cX10_init 66 = .ok (.putfield 31, 3) := by decide +kernel
theorem dX10_init_69 : decode cX10_init 69 = .ok (.aload_n 0, 1) := by decide +kernel
theorem dX10_init_70 : decode cX10_init 70 = .ok (.bipush 60, 2) := by decide +kernel
theorem dX10_init_72 : decode cX10_init 72 = .ok (.newarray .int, 2) := by decide +kernel
theorem dX10_init_74 : decode cX10_init 74 = .ok (.putfield 34, 3) := by decide +kernel
theorem dX10_init_77 : decode cX10_init 77 = .ok (.aload_n 0, 1) := by decide +kernel
theorem dX10_init_78 : decode cX10_init 78 = .ok (.bipush 60, 2) := by decide +kernel
theorem dX10_init_80 : decode cX10_init 80 = .ok (.newarray .int, 2) := by decide +kernel
theorem dX10_init_82 : decode cX10_init 82 = .ok (.putfield 37, 3) := by decide +kernel
theorem dX10_init_85 : decode cX10_init 85 = .ok (.aload_n 0, 1) := by decide +kernel
theorem dX10_init_86 : decode cX10_init 86 = .ok (.bipush 60, 2) := by decide +kernel
theorem dX10_init_88 : decode cX10_init 88 = .ok (.newarray .int, 2) := by decide +kernel
theorem dX10_init_90 : decode cX10_init 90 = .ok (.putfield 40, 3) := by decide +kernel
theorem dX10_init_93 : decode cX10_init 93 = .ok (.aload_n 0, 1) := by decide +kernel
theorem dX10_init_94 : decode cX10_init 94 = .ok (.sipush 1200, 3) := by decide +kernel
theorem dX10_init_97 : decode cX10_init 97 = .ok (.newarray .boolean, 2) := by decide +kernel
theorem dX10_init_99 : decode cX10_init 99 = .ok (.putfield 43, 3) := by decide +kernel
theorem dX10_init_102 : decode cX10_init 102 = .ok (.aload_n 0, 1) := by decide +kernel
theorem dX10_init_103 : decode cX10_init 103 = .ok (.sipush 300, 3) := by decide +kernel
theorem dX10_init_106 : decode cX10_init 106 = .ok (.newarray .int, 2) := by decide +kernel
theorem dX10_init_108 : decode cX10_init 108 = .ok (.putfield 47, 3) := by decide +kernel
theorem dX10_init_111 : decode cX10_init 111 = .ok (.aload_n 0, 1) := by decide +kernel
theorem dX10_init_112 : decode cX10_init 112 = .ok (.sipush 300, 3) := by decide +kernel
theorem dX10_init_115 : decode cX10_init 115 = .ok (.newarray .int, 2) := by decide +kernel
theorem dX10_init_117 : decode cX10_init 117 = .ok (.putfield 50, 3) := by decide +kernel
theorem dX10_init_120 : decode cX10_init 120 = .ok (.aload_n 0, 1) := by decide +kernel
theorem dX10_init_121 : decode cX10_init 121 = .ok (.sipush 300, 3) := by decide +kernel
theorem dX10_init_124 : decode cX10_init 124 = .ok (.newarray .int, 2) := by decide +kernel
theorem dX10_init_126 : decode cX10_init 126 = .ok (.putfield 53, 3) := by decide +kernel
theorem dX10_init_129 : decode cX10_init 129 = .ok (.aload_n 0, 1) := by decide +kernel
theorem dX10_init_130 : decode cX10_init 130 = .ok (.sipush 300, 3) := by decide +kernel
theorem dX10_init_133 : decode cX10_init 133 = .ok (.newarray .int, 2) := by decide +kernel
theorem dX10_init_135 : decode cX10_init 135 = .ok (.putfield 56, 3) := by decide +kernel
theorem dX10_init_138 : decode cX10_init 138 = .ok (.aload_n 0, 1) := by decide +kernel
theorem dX10_init_139 : decode cX10_init 139 = .ok (.bipush 13, 2) := by decide +kernel
theorem dX10_init_141 : decode cX10_init 141 = .ok (.newarray .int, 2) := by decide +kernel
theorem dX10_init_143 : decode cX10_init 143 = .ok (.putfield 59, 3) := by decide +kernel
theorem dX10_init_146 : decode cX10_init 146 = .ok (.aload_n 0, 1) := by decide +kernel
theorem dX10_init_147 : decode cX10_init 147 = .ok (.sipush 26013, 3) := by decide +kernel
theorem dX10_init_150 : decode cX10_init 150 = .ok (.newarray .boolean, 2) := by decide +kernel
theorem dX10_init_152 : decode cX10_init 152 = .ok (.putfield 62, 3) := by decide +kernel
theorem dX10_init_155 : decode cX10_init 155 = .ok (.aload_n 0, 1) := by decide +kernel
theorem dX10_init_156 : decode cX10_init 156 = .ok (.bipush 100, 2) := by decide +kernel
theorem dX10_init_158 : decode cX10_init 158 = .ok (.newarray .int, 2) := by decide +kernel
theorem dX10_init_160 : decode cX10_init 160 = .ok (.putfield 65, 3) := by decide +kernel
theorem dX10_init_163 : decode cX10_init 163 = .ok (.aload_n 0, 1) := by decide +kernel
theorem dX10_init_164 : decode cX10_init 164 = .ok (.sipush 240, 3) := by decide +kernel
theorem dX10_init_167 : decode cX10_init 167 = .ok (.newarray .int, 2) := by decide +kernel
theorem dX10_init_169 : decode cX10_init 169 = .ok (.putfield 68, 3) := by decide +kernel
theorem dX10_init_172 : decode cX10_init 172 = .ok (.aload_n 0, 1) := by decide +kernel
theorem dX10_init_173 : decode cX10_init 173 = .ok (.sipush 240, 3) := by decide +kernel
theorem dX10_init_176 : decode cX10_init 176 = .ok (.newarray .int, 2) := by decide +kernel
theorem dX10_init_178 : decode cX10_init 178 = .ok (.putfield 71, 3) := by decide +kernel
theorem dX10_init_181 : decode cX10_init 181 = .ok (.aload_n 0, 1) := by decide +kernel
theorem dX10_init_182 : decode cX10_init 182 = .ok (.bipush 120, 2) := by decide +kernel
theorem dX10_init_184 : decode cX10_init 184 = .ok (.newarray .boolean, 2) := by decide +kernel
theorem dX10_init_186 : decode cX10_init 186 = .ok (.putfield 74, 3) := by decide +kernel
theorem dX10_init_189 : decode cX10_init 189 = .ok (.iconst 1, 1) := by decide +kernel
theorem dX10_init_190 : decode cX10_init 190 = .ok (.istore_n 1, 1) := by decide +kernel
theorem dX10_init_191 : decode cX10_init 191 = .ok (.iload_n 1, 1) := by decide +kernel
theorem dX10_init_192 : decode cX10_init 192 = .ok (.bipush 13, 2) := by decide +kernel
theorem dX10_init_194 : decode cX10_init 194 = .ok (.if_icmp .ge 16, 3) := by decide +kernel
theorem dX10_init_197 : decode cX10_init 197 = .ok (.aload_n 0, 1) := by decide +kernel
theorem dX10_init_198 : decode cX10_init 198 = .ok (.getfield 59, 3) := by decide +kernel
theorem dX10_init_201 : decode cX10_init 201 = .ok (.iload_n 1, 1) := by decide +kernel
theorem dX10_init_202 : decode cX10_init 202 = .ok (.iconst 2, 1) := by decide +kernel
theorem dX10_init_203 : decode cX10_init 203 = .ok (.iastore, 1) := by decide +kernel
theorem dX10_init_204 : decode cX10_init 204 = .ok (.iinc 1 1, 3) := by decide +kernel
theorem dX10_init_207 : decode cX10_init 207 = .ok (.goto (-16), 3) := by decide +kernel
theorem dX10_init_210 : decode cX10_init 210 = .ok (.return_, 1) := by decide +kernel
theorem dX10_days_0 : decode cX10_days 0 = .ok (.iload_n 1, 1) := by decide +kernel
theorem dX10_days_1 : decode cX10_days 1 = .ok (.iconst 0, 1) := by decide +kernel
theorem dX10_days_2 : decode cX10_days 2 = .ok (.sipush 1000, 3) := by decide +kernel
theorem dX10_days_5 : decode cX10_days 5 = .ok (.invokestatic 77, 3) := by decide +kernel
theorem dX10_days_8 : decode cX10_days 8 = .ok (.ifCond .eq 15, 3) := by decide +kernel
theorem dX10_days_11 : decode cX10_days 11 = .ok (.aload_n 0, 1) := by decide +kernel
theorem dX10_days_12 : decode cX10_days 12 = .ok (.getfield 81, 3) := by decide +kernel
theorem dX10_days_15 : decode cX10_days 15 = .ok (.iload_n 1, 1) := by decide +kernel
theorem dX10_days_16 : decode cX10_days 16 = .ok (.iadd, 1) := by decide +kernel
theorem dX10_days_17 : decode cX10_days 17 = .ok (.sipush 2000, 3) := by decide +kernel
theorem dX10_days_20 : decode cX10_days 20 = .ok (.if_icmp .le 5, 3) := by decide +kernel
theorem dX10_days_23 : decode cX10_days 23 = .ok (.iconst (-1), 1) := by decide +kernel
theorem dX10_days_24 : decode cX10_days 24 = .ok (.ireturn, 1) := by decide +kernel
theorem dX10_days_25 : decode cX10_days 25 = .ok (.aload_n 0, 1) := by decide +kernel
theorem dX10_days_26 : decode cX10_days 26 = .ok (.dup, 1) := by decide +kernel
theorem dX10_days_27 : decode cX10_days 27 = .ok (.getfield 81, 3) := by decide +kernel
theorem dX10_days_30 : decode cX10_days 30 = .ok (.iload_n 1, 1) := by decide +kernel
theorem dX10_days_31 : decode cX10_days 31 = .ok (.iadd, 1) := by decide +kernel
theorem dX10_days_32 : decode cX10_days 32 = .ok (.putfield 81, 3) := by decide +kernel
theorem dX10_days_35 : decode cX10_days 35 = .ok (.aload_n 0, 1) := by decide +kernel
theorem dX10_days_36 : decode cX10_days 36 = .ok (.getfield 81, 3) := by decide +kernel
theorem dX10_days_39 : decode cX10_days 39 = .ok (.ireturn, 1) := by decide +kernel
theorem dX10_ballot_0 : decode cX10_ballot 0 = .ok (.iload_n 1, 1) := by decide +kernel
theorem dX10_ballot_1 : decode cX10_ballot 1 = .ok (.iconst 1, 1) := by decide +kernel
theorem dX10_ballot_2 : decode cX10_ballot 2 = .ok (.bipush 20, 2) := by decide +kernel
theorem dX10_ballot_4 : decode cX10_ballot 4 = .ok (.invokestatic 77, 3) := by decide +kernel
theorem dX10_ballot_7 : decode cX10_ballot 7 = .ok (.ifCond .eq 32, 3) := by decide +kernel
theorem dX10_ballot_10 : decode cX10_ballot 10 = .ok (.iload_n 2, 1) := by decide +kernel
theorem dX10_ballot_11 : decode cX10_ballot 11 = .ok (.iconst 0, 1) := by decide +kernel
theorem dX10_ballot_12 : decode cX10_ballot 12 = .ok (.iload_n 1, 1) := by decide +kernel
theorem dX10_ballot_13 : decode cX10_ballot 13 = .ok (.invokestatic 77, 3) := by decide +kernel
theorem dX10_ballot_16 : decode cX10_ballot 16 = .ok (.ifCond .eq 23, 3) := by decide +kernel
theorem dX10_ballot_19 : decode cX10_ballot 19 = .ok (.iload_n 3, 1) := by decide +kernel
theorem dX10_ballot_20 : decode cX10_ballot 20 = .ok (.iconst 0, 1) := by decide +kernel
theorem dX10_ballot_21 : decode cX10_ballot 21 = .ok (.iload_n 1, 1) := by decide +kernel
theorem dX10_ballot_22 : decode cX10_ballot 22 = .ok (.iload_n 2, 1) := by decide +kernel
theorem dX10_ballot_23 : decode cX10_ballot 23 = .ok (.isub, 1) := by decide +kernel
theorem dX10_ballot_24 : decode cX10_ballot 24 = .ok (.invokestatic 77, 3) := by decide +kernel
theorem dX10_ballot_27 : decode cX10_ballot 27 = .ok (.ifCond .eq 12, 3) := by decide +kernel
theorem dX10_ballot_30 : decode cX10_ballot 30 = .ok (.aload_n 0, 1) := by decide +kernel
theorem dX10_ballot_31 : decode cX10_ballot 31 = .ok (.getfield 85, 3) := by decide +kernel
theorem dX10_ballot_34 : decode cX10_ballot 34 = .ok (.bipush 50, 2) := by decide +kernel
theorem dX10_ballot_36 : decode cX10_ballot 36 = .ok (.if_icmp .ne 5, 3) := by decide +kernel
theorem dX10_ballot_39 : decode cX10_ballot 39 = .ok (.iconst (-1), 1) := by decide +kernel
theorem dX10_ballot_40 : decode cX10_ballot 40 = .ok (.ireturn, 1) := by decide +kernel
theorem dX10_ballot_41 : decode cX10_ballot 41 = .ok (.aload_n 0, 1) := by decide +kernel
theorem dX10_ballot_42 : decode cX10_ballot 42 = .ok (.iload_n 1, 1) := by decide +kernel
theorem dX10_ballot_43 : decode cX10_ballot 43 = .ok (.invokevirtual 88, 3) := by decide +kernel
theorem dX10_ballot_46 : decode cX10_ballot 46 = .ok (.astore 6, 2) := by decide +kernel
theorem dX10_ballot_48 : decode cX10_ballot 48 = .ok (.lload 4, 2) := by decide +kernel
theorem dX10_ballot_50 : decode cX10_ballot 50 = .ok (.lstore 7, 2) := by decide +kernel
theorem dX10_ballot_52 : decode cX10_ballot 52 = .ok (.iconst 0, 1) := by decide +kernel
theorem dX10_ballot_53 : decode cX10_ballot 53 = .ok (.istore 9, 2) := by decide +kernel
theorem dX10_ballot_55 : decode cX10_ballot 55 = .ok (.iload 9, 2) := by decide +kernel
theorem dX10_ballot_57 : decode cX10_ballot 57 = .ok (.iload_n 1, 1) := by decide +kernel
theorem dX10_ballot_58 : decode cX10_ballot 58 = .ok (.if_icmp .ge 113, 3) := by decide +kernel
theorem dX10_ballot_61 : decode cX10_ballot 61 = .ok (.lload 7, 2) := by decide +kernel
theorem dX10_ballot_63 : decode cX10_ballot 63 = .ok (.ldc2_w 92, 3) := by decide +kernel
theorem dX10_ballot_66 : decode cX10_ballot 66 = .ok (.lmul, 1) := by decide +kernel
theorem dX10_ballot_67 : decode cX10_ballot 67 = .ok (.ldc2_w 94, 3) := by decide +kernel
theorem dX10_ballot_70 : decode cX10_ballot 70 = .ok (.ladd, 1) := by decide +kernel
theorem dX10_ballot_71 : decode cX10_ballot 71 = .ok (.lstore 7, 2) := by decide +kernel
theorem dX10_ballot_73 : decode cX10_ballot 73 = .ok (.lload 7, 2) := by decide +kernel
theorem dX10_ballot_75 : decode cX10_ballot 75 = .ok (.bipush 33, 2) := by decide +kernel
theorem dX10_ballot_77 : decode cX10_ballot 77 = .ok (.lushr, 1) := by decide +kernel
theorem dX10_ballot_78 : decode cX10_ballot 78 = .ok (.iload_n 1, 1) := by decide +kernel
theorem dX10_ballot_79 : decode cX10_ballot 79 = .ok (.iload 9, 2) := by decide +kernel
theorem dX10_ballot_81 : decode cX10_ballot 81 = .ok (.isub, 1) := by decide +kernel
theorem dX10_ballot_82 : decode cX10_ballot 82 = .ok (.i2l, 1) := by decide +kernel
theorem dX10_ballot_83 : decode cX10_ballot 83 = .ok (.lrem, 1) := by decide +kernel
theorem dX10_ballot_84 : decode cX10_ballot 84 = .ok (.l2i, 1) := by decide +kernel
theorem dX10_ballot_85 : decode cX10_ballot 85 = .ok (.istore 10, 2) := by decide +kernel
theorem dX10_ballot_87 : decode cX10_ballot 87 = .ok (.aload 6, 2) := by decide +kernel
theorem dX10_ballot_89 : decode cX10_ballot 89 = .ok (.iload 10, 2) := by decide +kernel
theorem dX10_ballot_91 : decode cX10_ballot 91 = .ok (.iaload, 1) := by decide +kernel
theorem dX10_ballot_92 : decode cX10_ballot 92 = .ok (.istore 11, 2) := by decide +kernel
theorem dX10_ballot_94 : decode cX10_ballot 94 = .ok (.iload 10, 2) := by decide +kernel
theorem dX10_ballot_96 : decode cX10_ballot 96 = .ok (.istore 12, 2) := by decide +kernel
theorem dX10_ballot_98 : decode cX10_ballot 98 = .ok (.iload 12, 2) := by decide +kernel
theorem dX10_ballot_100 : decode cX10_ballot 100 = .ok (.iload_n 1, 1) := by decide +kernel
theorem dX10_ballot_101 : decode cX10_ballot 101 = .ok (.iload 9, 2) := by decide +kernel
theorem dX10_ballot_103 : decode cX10_ballot 103 = .ok (.isub, 1) := by decide +kernel
theorem dX10_ballot_104 : decode cX10_ballot 104 = .ok (.iconst 1, 1) := by decide +kernel
theorem dX10_ballot_105 : decode cX10_ballot 105 = .ok (.isub, 1) := by decide +kernel
theorem dX10_ballot_106 : decode cX10_ballot 106 = .ok (.if_icmp .ge 21, 3) := by decide +kernel
theorem dX10_ballot_109 : decode cX10_ballot 109 = .ok (.aload 6, 2) := by decide +kernel
theorem dX10_ballot_111 : decode cX10_ballot 111 = .ok (.iload 12, 2) := by decide +kernel
theorem dX10_ballot_113 : decode cX10_ballot 113 = .ok (.aload 6, 2) := by decide +kernel
theorem dX10_ballot_115 : decode cX10_ballot 115 = .ok (.iload 12, 2) := by decide +kernel
theorem dX10_ballot_117 : decode cX10_ballot 117 = .ok (.iconst 1, 1) := by decide +kernel
theorem dX10_ballot_118 : decode cX10_ballot 118 = .ok (.iadd, 1) := by decide +kernel
theorem dX10_ballot_119 : decode cX10_ballot 119 = .ok (.iaload, 1) := by decide +kernel
theorem dX10_ballot_120 : decode cX10_ballot 120 = .ok (.iastore, 1) := by decide +kernel
theorem dX10_ballot_121 : decode cX10_ballot 121 = .ok (.iinc 12 1, 3) := by decide +kernel
theorem dX10_ballot_124 : decode cX10_ballot 124 = .ok (.goto (-26), 3) := by decide +kernel
theorem dX10_ballot_127 : decode cX10_ballot 127 = .ok (.aload_n 0, 1) := by decide +kernel
theorem dX10_ballot_128 : decode cX10_ballot 128 = .ok (.getfield 13, 3) := by decide +kernel
theorem dX10_ballot_131 : decode cX10_ballot 131 = .ok (.bipush 20, 2) := by decide +kernel
theorem dX10_ballot_133 : decode cX10_ballot 133 = .ok (.aload_n 0, 1) := by decide +kernel
theorem dX10_ballot_134 : decode cX10_ballot 134 = .ok (.getfield 85, 3) := by decide +kernel
theorem dX10_ballot_137 : decode cX10_ballot 137 = .ok (.imul, 1) := by decide +kernel
theorem dX10_ballot_138 : decode cX10_ballot 138 = .ok (.iload 9, 2) := by decide +kernel
theorem dX10_ballot_140 : decode cX10_ballot 140 = .ok (.iadd, 1) := by decide +kernel
theorem dX10_ballot_141 : decode cX10_ballot 141 = .ok (.iload 11, 2) := by decide +kernel
theorem dX10_ballot_143 : decode cX10_ballot 143 = .ok (.iload_n 2, 1) := by decide +kernel
theorem dX10_ballot_144 : decode cX10_ballot 144 = .ok (.if_icmp .ge 7, 3) := by decide +kernel
theorem dX10_ballot_147 : decode cX10_ballot 147 = .ok (.iconst 0, 1) := by decide +kernel
theorem dX10_ballot_148 : decode cX10_ballot 148 = .ok (.goto 16, 3) := by decide +kernel
theorem dX10_ballot_151 : decode cX10_ballot 151 = .ok (.iload 11, 2) := by decide +kernel
theorem dX10_ballot_153 : decode cX10_ballot 153 = .ok (.iload_n 2, 1) := by decide +kernel
theorem dX10_ballot_154 : decode cX10_ballot 154 = .ok (.iload_n 3, 1) := by decide +kernel
theorem dX10_ballot_155 : decode cX10_ballot 155 = .ok (.iadd, 1) := by decide +kernel
theorem dX10_ballot_156 : decode cX10_ballot 156 = .ok (.if_icmp .ge 7, 3) := by decide +kernel
theorem dX10_ballot_159 : decode cX10_ballot 159 = .ok (.iconst 1, 1) := by decide +kernel
theorem dX10_ballot_160 : decode cX10_ballot 160 = .ok (.goto 4, 3) := by decide +kernel
theorem dX10_ballot_163 : decode cX10_ballot 163 = .ok (.iconst 2, 1) := by decide +kernel
theorem dX10_ballot_164 : decode cX10_ballot 164 = .ok (.iastore, 1) := by decide +kernel
theorem dX10_ballot_165 : decode cX10_ballot 165 = .ok (.iinc 9 1, 3) := by decide +kernel
theorem dX10_ballot_168 : decode cX10_ballot 168 = .ok (.goto (-113), 3) := by decide +kernel
theorem dX10_ballot_171 : decode cX10_ballot 171 = .ok (.aload_n 0, 1) := by decide +kernel
theorem dX10_ballot_172 : decode cX10_ballot 172 = .ok (.getfield 9, 3) := by decide +kernel
theorem dX10_ballot_175 : decode cX10_ballot 175 = .ok (.aload_n 0, 1) := by decide +kernel
theorem dX10_ballot_176 : decode cX10_ballot 176 = .ok (.getfield 85, 3) := by decide +kernel
theorem dX10_ballot_179 : decode cX10_ballot 179 = .ok (.iload_n 1, 1) := by decide +kernel
theorem dX10_ballot_180 : decode cX10_ballot 180 = .ok (.iastore, 1) := by decide +kernel
theorem dX10_ballot_181 : decode cX10_ballot 181 = .ok (.aload_n 0, 1) := by decide +kernel
theorem dX10_ballot_182 : decode cX10_ballot 182 = .ok (.dup, 1) := by decide +kernel
theorem dX10_ballot_183 : decode cX10_ballot 183 = .ok (.getfield 85, 3) := by decide +kernel
theorem dX10_ballot_186 : decode cX10_ballot 186 = .ok (.iconst 1, 1) := by decide +kernel
theorem dX10_ballot_187 : decode cX10_ballot 187 = .ok (.iadd, 1) := by decide +kernel
theorem dX10_ballot_188 : decode cX10_ballot 188 = .ok (.putfield 85, 3) := by decide +kernel
theorem dX10_ballot_191 : decode cX10_ballot 191 = .ok (.aload_n 0, 1) := by decide +kernel
theorem dX10_ballot_192 : decode cX10_ballot 192 = .ok (.getfield 85, 3) := by decide +kernel
theorem dX10_ballot_195 : decode cX10_ballot 195 = .ok (.iconst 1, 1) := by decide +kernel
theorem dX10_ballot_196 : decode cX10_ballot 196 = .ok (.isub, 1) := by decide +kernel
theorem dX10_ballot_197 : decode cX10_ballot 197 = .ok (.ireturn, 1) := by decide +kernel
theorem dX10_lineOf_0 : decode cX10_lineOf 0 = .ok (.iconst 0, 1) := by decide +kernel
theorem dX10_lineOf_1 : decode cX10_lineOf 1 = .ok (.istore_n 2, 1) := by decide +kernel
theorem dX10_lineOf_2 : decode cX10_lineOf 2 = .ok (.iload_n 2, 1) := by decide +kernel
theorem dX10_lineOf_3 : decode cX10_lineOf 3 = .ok (.iload_n 1, 1) := by decide +kernel
theorem dX10_lineOf_4 : decode cX10_lineOf 4 = .ok (.if_icmp .ge 16, 3) := by decide +kernel
theorem dX10_lineOf_7 : decode cX10_lineOf 7 = .ok (.aload_n 0, 1) := by decide +kernel
theorem dX10_lineOf_8 : decode cX10_lineOf 8 = .ok (.getfield 16, 3) := by decide +kernel
theorem dX10_lineOf_11 : decode cX10_lineOf 11 = .ok (.iload_n 2, 1) := by decide +kernel
theorem dX10_lineOf_12 : decode cX10_lineOf 12 = .ok (.iload_n 2, 1) := by decide +kernel
theorem dX10_lineOf_13 : decode cX10_lineOf 13 = .ok (.iastore, 1) := by decide +kernel
theorem dX10_lineOf_14 : decode cX10_lineOf 14 = .ok (.iinc 2 1, 3) := by decide +kernel
theorem dX10_lineOf_17 : decode cX10_lineOf 17 = .ok (.goto (-15), 3) := by decide +kernel
theorem dX10_lineOf_20 : decode cX10_lineOf 20 = .ok (.aload_n 0, 1) := by decide +kernel
theorem dX10_lineOf_21 : decode cX10_lineOf 21 = .ok (.getfield 16, 3) := by decide +kernel
theorem dX10_lineOf_24 : decode cX10_lineOf 24 = .ok (.areturn, 1) := by decide +kernel
theorem dX10_isWoman_0 : decode cX10_isWoman 0 = .ok (.iload_n 1, 1) := by decide +kernel
theorem dX10_isWoman_1 : decode cX10_isWoman 1 = .ok (.iconst 0, 1) := by decide +kernel
theorem dX10_isWoman_2 : decode cX10_isWoman 2 = .ok (.aload_n 0, 1) := by decide +kernel
theorem dX10_isWoman_3 : decode cX10_isWoman 3 = .ok (.getfield 85, 3) := by decide +kernel
theorem dX10_isWoman_6 : decode cX10_isWoman 6 = .ok (.iconst 1, 1) := by decide +kernel
theorem dX10_isWoman_7 : decode cX10_isWoman 7 = .ok (.isub, 1) := by decide +kernel
theorem dX10_isWoman_8 : decode cX10_isWoman 8 = .ok (.invokestatic 77, 3) := by decide +kernel
theorem dX10_isWoman_11 : decode cX10_isWoman 11 = .ok (.ifCond .eq 23, 3) := by decide +kernel
theorem dX10_isWoman_14 : decode cX10_isWoman 14 = .ok (.iload_n 2, 1) := by decide +kernel
theorem dX10_isWoman_15 : decode cX10_isWoman 15 = .ok (.iconst 0, 1) := by decide +kernel
theorem dX10_isWoman_16 : decode cX10_isWoman 16 = .ok (.aload_n 0, 1) := by decide +kernel
theorem dX10_isWoman_17 : decode cX10_isWoman 17 = .ok (.getfield 9, 3) := by decide +kernel
theorem dX10_isWoman_20 : decode cX10_isWoman 20 = .ok (.iload_n 1, 1) := by decide +kernel
theorem dX10_isWoman_21 : decode cX10_isWoman 21 = .ok (.iaload, 1) := by decide +kernel
theorem dX10_isWoman_22 : decode cX10_isWoman 22 = .ok (.iconst 1, 1) := by decide +kernel
theorem dX10_isWoman_23 : decode cX10_isWoman 23 = .ok (.isub, 1) := by decide +kernel
theorem dX10_isWoman_24 : decode cX10_isWoman 24 = .ok (.invokestatic 77, 3) := by decide +kernel
theorem dX10_isWoman_27 : decode cX10_isWoman 27 = .ok (.ifCond .eq 7, 3) := by decide +kernel
theorem dX10_isWoman_30 : decode cX10_isWoman 30 = .ok (.iconst 1, 1) := by decide +kernel
theorem dX10_isWoman_31 : decode cX10_isWoman 31 = .ok (.goto 4, 3) := by decide +kernel
theorem dX10_isWoman_34 : decode cX10_isWoman 34 = .ok (.iconst 0, 1) := by decide +kernel
theorem dX10_isWoman_35 : decode cX10_isWoman 35 = .ok (.ireturn, 1) := by decide +kernel
theorem dX10_ball_0 : decode cX10_ball 0 = .ok (.aload_n 0, 1) := by decide +kernel
theorem dX10_ball_1 : decode cX10_ball 1 = .ok (.iload_n 1, 1) := by decide +kernel
theorem dX10_ball_2 : decode cX10_ball 2 = .ok (.iload_n 2, 1) := by decide +kernel
theorem dX10_ball_3 : decode cX10_ball 3 = .ok (.invokevirtual 96, 3) := by decide +kernel
theorem dX10_ball_6 : decode cX10_ball 6 = .ok (.ifCond .eq 17, 3) := by decide +kernel
theorem dX10_ball_9 : decode cX10_ball 9 = .ok (.aload_n 0, 1) := by decide +kernel
theorem dX10_ball_10 : decode cX10_ball 10 = .ok (.getfield 13, 3) := by decide +kernel
theorem dX10_ball_13 : decode cX10_ball 13 = .ok (.bipush 20, 2) := by decide +kernel
theorem dX10_ball_15 : decode cX10_ball 15 = .ok (.iload_n 1, 1) := by decide +kernel
theorem dX10_ball_16 : decode cX10_ball 16 = .ok (.imul, 1) := by decide +kernel
theorem dX10_ball_17 : decode cX10_ball 17 = .ok (.iload_n 2, 1) := by decide +kernel
theorem dX10_ball_18 : decode cX10_ball 18 = .ok (.iadd, 1) := by decide +kernel
theorem dX10_ball_19 : decode cX10_ball 19 = .ok (.iaload, 1) := by decide +kernel
theorem dX10_ball_20 : decode cX10_ball 20 = .ok (.goto 4, 3) := by decide +kernel
theorem dX10_ball_23 : decode cX10_ball 23 = .ok (.iconst (-1), 1) := by decide +kernel
theorem dX10_ball_24 : decode cX10_ball 24 = .ok (.ireturn, 1) := by decide +kernel
theorem dX10_away_0 : decode cX10_away 0 = .ok (.aload_n 0, 1) := by decide +kernel
theorem dX10_away_1 : decode cX10_away 1 = .ok (.iload_n 1, 1) := by decide +kernel
theorem dX10_away_2 : decode cX10_away 2 = .ok (.iload_n 2, 1) := by decide +kernel
theorem dX10_away_3 : decode cX10_away 3 = .ok (.invokevirtual 96, 3) := by decide +kernel
theorem dX10_away_6 : decode cX10_away 6 = .ok (.ifCond .eq 17, 3) := by decide +kernel
theorem dX10_away_9 : decode cX10_away 9 = .ok (.aload_n 0, 1) := by decide +kernel
theorem dX10_away_10 : decode cX10_away 10 = .ok (.getfield 13, 3) := by decide +kernel
theorem dX10_away_13 : decode cX10_away 13 = .ok (.bipush 20, 2) := by decide +kernel
theorem dX10_away_15 : decode cX10_away 15 = .ok (.iload_n 1, 1) := by decide +kernel
theorem dX10_away_16 : decode cX10_away 16 = .ok (.imul, 1) := by decide +kernel
theorem dX10_away_17 : decode cX10_away 17 = .ok (.iload_n 2, 1) := by decide +kernel
theorem dX10_away_18 : decode cX10_away 18 = .ok (.iadd, 1) := by decide +kernel
theorem dX10_away_19 : decode cX10_away 19 = .ok (.iaload, 1) := by decide +kernel
theorem dX10_away_20 : decode cX10_away 20 = .ok (.ifCond .eq 6, 3) := by decide +kernel
theorem dX10_away_23 : decode cX10_away 23 = .ok (.bipush (-2), 2) := by decide +kernel
theorem dX10_away_25 : decode cX10_away 25 = .ok (.ireturn, 1) := by decide +kernel
theorem dX10_away_26 : decode cX10_away 26 = .ok (.aload_n 0, 1) := by decide +kernel
theorem dX10_away_27 : decode cX10_away 27 = .ok (.getfield 13, 3) := by decide +kernel
theorem dX10_away_30 : decode cX10_away 30 = .ok (.bipush 20, 2) := by decide +kernel
theorem dX10_away_32 : decode cX10_away 32 = .ok (.iload_n 1, 1) := by decide +kernel
theorem dX10_away_33 : decode cX10_away 33 = .ok (.imul, 1) := by decide +kernel
theorem dX10_away_34 : decode cX10_away 34 = .ok (.iload_n 2, 1) := by decide +kernel
theorem dX10_away_35 : decode cX10_away 35 = .ok (.iadd, 1) := by decide +kernel
theorem dX10_away_36 : decode cX10_away 36 = .ok (.iconst 3, 1) := by decide +kernel
theorem dX10_away_37 : decode cX10_away 37 = .ok (.iastore, 1) := by decide +kernel
theorem dX10_away_38 : decode cX10_away 38 = .ok (.iconst 0, 1) := by decide +kernel
theorem dX10_away_39 : decode cX10_away 39 = .ok (.istore_n 3, 1) := by decide +kernel
theorem dX10_away_40 : decode cX10_away 40 = .ok (.iload_n 3, 1) := by decide +kernel
theorem dX10_away_41 : decode cX10_away 41 = .ok (.aload_n 0, 1) := by decide +kernel
theorem dX10_away_42 : decode cX10_away 42 = .ok (.getfield 9, 3) := by decide +kernel
theorem dX10_away_45 : decode cX10_away 45 = .ok (.iload_n 1, 1) := by decide +kernel
theorem dX10_away_46 : decode cX10_away 46 = .ok (.iaload, 1) := by decide +kernel
theorem dX10_away_47 : decode cX10_away 47 = .ok (.if_icmp .ge 38, 3) := by decide +kernel
theorem dX10_away_50 : decode cX10_away 50 = .ok (.aload_n 0, 1) := by decide +kernel
theorem dX10_away_51 : decode cX10_away 51 = .ok (.getfield 13, 3) := by decide +kernel
theorem dX10_away_54 : decode cX10_away 54 = .ok (.bipush 20, 2) := by decide +kernel
theorem dX10_away_56 : decode cX10_away 56 = .ok (.iload_n 1, 1) := by decide +kernel
theorem dX10_away_57 : decode cX10_away 57 = .ok (.imul, 1) := by decide +kernel
theorem dX10_away_58 : decode cX10_away 58 = .ok (.iload_n 3, 1) := by decide +kernel
theorem dX10_away_59 : decode cX10_away 59 = .ok (.iadd, 1) := by decide +kernel
theorem dX10_away_60 : decode cX10_away 60 = .ok (.iaload, 1) := by decide +kernel
theorem dX10_away_61 : decode cX10_away 61 = .ok (.iconst 1, 1) := by decide +kernel
theorem dX10_away_62 : decode cX10_away 62 = .ok (.if_icmp .ne 17, 3) := by decide +kernel
theorem dX10_away_65 : decode cX10_away 65 = .ok (.aload_n 0, 1) := by decide +kernel
theorem dX10_away_66 : decode cX10_away 66 = .ok (.getfield 13, 3) := by decide +kernel
theorem dX10_away_69 : decode cX10_away 69 = .ok (.bipush 20, 2) := by decide +kernel
theorem dX10_away_71 : decode cX10_away 71 = .ok (.iload_n 1, 1) := by decide +kernel
theorem dX10_away_72 : decode cX10_away 72 = .ok (.imul, 1) := by decide +kernel
theorem dX10_away_73 : decode cX10_away 73 = .ok (.iload_n 3, 1) := by decide +kernel
theorem dX10_away_74 : decode cX10_away 74 = .ok (.iadd, 1) := by decide +kernel
theorem dX10_away_75 : decode cX10_away 75 = .ok (.iconst 0, 1) := by decide +kernel
theorem dX10_away_76 : decode cX10_away 76 = .ok (.iastore, 1) := by decide +kernel
theorem dX10_away_77 : decode cX10_away 77 = .ok (.iload_n 3, 1) := by decide +kernel
theorem dX10_away_78 : decode cX10_away 78 = .ok (.ireturn, 1) := by decide +kernel
theorem dX10_away_79 : decode cX10_away 79 = .ok (.iinc 3 1, 3) := by decide +kernel
theorem dX10_away_82 : decode cX10_away 82 = .ok (.goto (-42), 3) := by decide +kernel
theorem dX10_away_85 : decode cX10_away 85 = .ok (.iconst (-1), 1) := by decide +kernel
theorem dX10_away_86 : decode cX10_away 86 = .ok (.ireturn, 1) := by decide +kernel
theorem dX10_leave_0 : decode cX10_leave 0 = .ok (.aload_n 0, 1) := by decide +kernel
theorem dX10_leave_1 : decode cX10_leave 1 = .ok (.iload_n 1, 1) := by decide +kernel
theorem dX10_leave_2 : decode cX10_leave 2 = .ok (.iload_n 2, 1) := by decide +kernel
theorem dX10_leave_3 : decode cX10_leave 3 = .ok (.invokevirtual 96, 3) := by decide +kernel
theorem dX10_leave_6 : decode cX10_leave 6 = .ok (.ifCond .eq 68, 3) := by decide +kernel
theorem dX10_leave_9 : decode cX10_leave 9 = .ok (.aload_n 0, 1) := by decide +kernel
theorem dX10_leave_10 : decode cX10_leave 10 = .ok (.getfield 13, 3) := by decide +kernel
theorem dX10_leave_13 : decode cX10_leave 13 = .ok (.bipush 20, 2) := by decide +kernel
theorem dX10_leave_15 : decode cX10_leave 15 = .ok (.iload_n 1, 1) := by decide +kernel
theorem dX10_leave_16 : decode cX10_leave 16 = .ok (.imul, 1) := by decide +kernel
theorem dX10_leave_17 : decode cX10_leave 17 = .ok (.iload_n 2, 1) := by decide +kernel
theorem dX10_leave_18 : decode cX10_leave 18 = .ok (.iadd, 1) := by decide +kernel
theorem dX10_leave_19 : decode cX10_leave 19 = .ok (.iaload, 1) := by decide +kernel
theorem dX10_leave_20 : decode cX10_leave 20 = .ok (.ifCond .ne 54, 3) := by decide +kernel
theorem dX10_leave_23 : decode cX10_leave 23 = .ok (.iload_n 3, 1) := by decide +kernel
theorem dX10_leave_24 : decode cX10_leave 24 = .ok (.iconst 0, 1) := by decide +kernel
theorem dX10_leave_25 : decode cX10_leave 25 = .ok (.iconst 1, 1) := by decide +kernel
theorem dX10_leave_26 : decode cX10_leave 26 = .ok (.invokestatic 77, 3) := by decide +kernel
theorem dX10_leave_29 : decode cX10_leave 29 = .ok (.ifCond .eq 45, 3) := by decide +kernel
theorem dX10_leave_32 : decode cX10_leave 32 = .ok (.iload 4, 2) := by decide +kernel
theorem dX10_leave_34 : decode cX10_leave 34 = .ok (.iconst 0, 1) := by decide +kernel
theorem dX10_leave_35 : decode cX10_leave 35 = .ok (.bipush 9, 2) := by decide +kernel
theorem dX10_leave_37 : decode cX10_leave 37 = .ok (.invokestatic 77, 3) := by decide +kernel
theorem dX10_leave_40 : decode cX10_leave 40 = .ok (.ifCond .eq 34, 3) := by decide +kernel
theorem dX10_leave_43 : decode cX10_leave 43 = .ok (.iload 5, 2) := by decide +kernel
theorem dX10_leave_45 : decode cX10_leave 45 = .ok (.iconst 0, 1) := by decide +kernel
theorem dX10_leave_46 : decode cX10_leave 46 = .ok (.ldc 100, 2) := by decide +kernel
theorem dX10_leave_48 : decode cX10_leave 48 = .ok (.invokestatic 77, 3) := by decide +kernel
theorem dX10_leave_51 : decode cX10_leave 51 = .ok (.ifCond .eq 23, 3) := by decide +kernel
theorem dX10_leave_54 : decode cX10_leave 54 = .ok (.iload 6, 2) := by decide +kernel
theorem dX10_leave_56 : decode cX10_leave 56 = .ok (.iconst 0, 1) := by decide +kernel
theorem dX10_leave_57 : decode cX10_leave 57 = .ok (.ldc 100, 2) := by decide +kernel
theorem dX10_leave_59 : decode cX10_leave 59 = .ok (.invokestatic 77, 3) := by decide +kernel
theorem dX10_leave_62 : decode cX10_leave 62 = .ok (.ifCond .eq 12, 3) := by decide +kernel
theorem dX10_leave_65 : decode cX10_leave 65 = .ok (.aload_n 0, 1) := by decide +kernel
theorem dX10_leave_66 : decode cX10_leave 66 = .ok (.getfield 101, 3) := by decide +kernel
theorem dX10_leave_69 : decode cX10_leave 69 = .ok (.bipush 60, 2) := by decide +kernel
theorem dX10_leave_71 : decode cX10_leave 71 = .ok (.if_icmp .ne 5, 3) := by decide +kernel
theorem dX10_leave_74 : decode cX10_leave 74 = .ok (.iconst (-1), 1) := by decide +kernel
theorem dX10_leave_75 : decode cX10_leave 75 = .ok (.ireturn, 1) := by decide +kernel
theorem dX10_leave_76 : decode cX10_leave 76 = .ok (.aload_n 0, 1) := by decide +kernel
theorem dX10_leave_77 : decode cX10_leave 77 = .ok (.getfield 13, 3) := by decide +kernel
theorem dX10_leave_80 : decode cX10_leave 80 = .ok (.bipush 20, 2) := by decide +kernel
theorem dX10_leave_82 : decode cX10_leave 82 = .ok (.iload_n 1, 1) := by decide +kernel
theorem dX10_leave_83 : decode cX10_leave 83 = .ok (.imul, 1) := by decide +kernel
theorem dX10_leave_84 : decode cX10_leave 84 = .ok (.iload_n 2, 1) := by decide +kernel
theorem dX10_leave_85 : decode cX10_leave 85 = .ok (.iadd, 1) := by decide +kernel
theorem dX10_leave_86 : decode cX10_leave 86 = .ok (.iconst 4, 1) := by decide +kernel
theorem dX10_leave_87 : decode cX10_leave 87 = .ok (.iastore, 1) := by decide +kernel
theorem dX10_leave_88 : decode cX10_leave 88 = .ok (.aload_n 0, 1) := by decide +kernel
theorem dX10_leave_89 : decode cX10_leave 89 = .ok (.getfield 19, 3) := by decide +kernel
theorem dX10_leave_92 : decode cX10_leave 92 = .ok (.aload_n 0, 1) := by decide +kernel
theorem dX10_leave_93 : decode cX10_leave 93 = .ok (.getfield 101, 3) := by decide +kernel
theorem dX10_leave_96 : decode cX10_leave 96 = .ok (.aload_n 0, 1) := by decide +kernel
theorem dX10_leave_97 : decode cX10_leave 97 = .ok (.getfield 81, 3) := by decide +kernel
theorem dX10_leave_100 : decode cX10_leave 100 = .ok (.iastore, 1) := by decide +kernel
theorem dX10_leave_101 : decode cX10_leave 101 = .ok (.aload_n 0, 1) := by decide +kernel
theorem dX10_leave_102 : decode cX10_leave 102 = .ok (.getfield 22, 3) := by decide +kernel
theorem dX10_leave_105 : decode cX10_leave 105 = .ok (.aload_n 0, 1) := by decide +kernel
theorem dX10_leave_106 : decode cX10_leave 106 = .ok (.getfield 101, 3) := by decide +kernel
theorem dX10_leave_109 : decode cX10_leave 109 = .ok (.iload_n 3, 1) := by decide +kernel
theorem dX10_leave_110 : decode cX10_leave 110 = .ok (.iastore, 1) := by decide +kernel
theorem dX10_leave_111 : decode cX10_leave 111 = .ok (.aload_n 0, 1) := by decide +kernel
theorem dX10_leave_112 : decode cX10_leave 112 = .ok (.getfield 25, 3) := by decide +kernel
theorem dX10_leave_115 : decode cX10_leave 115 = .ok (.aload_n 0, 1) := by decide +kernel
theorem dX10_leave_116 : decode cX10_leave 116 = .ok (.getfield 101, 3) := by decide +kernel
theorem dX10_leave_119 : decode cX10_leave 119 = .ok (.iload 4, 2) := by decide +kernel
theorem dX10_leave_121 : decode cX10_leave 121 = .ok (.iastore, 1) := by decide +kernel
theorem dX10_leave_122 : decode cX10_leave 122 = .ok (.aload_n 0, 1) := by decide +kernel
theorem dX10_leave_123 : decode cX10_leave 123 = .ok (.getfield 28, 3) := by decide +kernel
theorem dX10_leave_126 : decode cX10_leave 126 = .ok (.aload_n 0, 1) := by decide +kernel
theorem dX10_leave_127 : decode cX10_leave 127 = .ok (.getfield 101, 3) := by decide +kernel
theorem dX10_leave_130 : decode cX10_leave 130 = .ok (.iload 5, 2) := by decide +kernel
theorem dX10_leave_132 : decode cX10_leave 132 = .ok (.iastore, 1) := by decide +kernel
theorem dX10_leave_133 : decode cX10_leave 133 = .ok (.aload_n 0, 1) := by decide +kernel
theorem dX10_leave_134 : decode cX10_leave 134 = .ok (.getfield 31, 3) := by decide +kernel
theorem dX10_leave_137 : decode cX10_leave 137 = .ok (.aload_n 0, 1) := by decide +kernel
theorem dX10_leave_138 : decode cX10_leave 138 = .ok (.getfield 101, 3) := by decide +kernel
theorem dX10_leave_141 : decode cX10_leave 141 = .ok (.iload 6, 2) := by decide +kernel
theorem dX10_leave_143 : decode cX10_leave 143 = .ok (.iastore, 1) := by decide +kernel
theorem dX10_leave_144 : decode cX10_leave 144 = .ok (.aload_n 0, 1) := by decide +kernel
theorem dX10_leave_145 : decode cX10_leave 145 = .ok (.getfield 34, 3) := by decide +kernel
theorem dX10_leave_148 : decode cX10_leave 148 = .ok (.aload_n 0, 1) := by decide +kernel
theorem dX10_leave_149 : decode cX10_leave 149 = .ok (.getfield 101, 3) := by decide +kernel
theorem dX10_leave_152 : decode cX10_leave 152 = .ok (.iload_n 1, 1) := by decide +kernel
theorem dX10_leave_153 : decode cX10_leave 153 = .ok (.iastore, 1) := by decide +kernel
theorem dX10_leave_154 : decode cX10_leave 154 = .ok (.aload_n 0, 1) := by decide +kernel
theorem dX10_leave_155 : decode cX10_leave 155 = .ok (.getfield 37, 3) := by decide +kernel
theorem dX10_leave_158 : decode cX10_leave 158 = .ok (.aload_n 0, 1) := by decide +kernel
theorem dX10_leave_159 : decode cX10_leave 159 = .ok (.getfield 101, 3) := by decide +kernel
theorem dX10_leave_162 : decode cX10_leave 162 = .ok (.iload_n 2, 1) := by decide +kernel
theorem dX10_leave_163 : decode cX10_leave 163 = .ok (.iastore, 1) := by decide +kernel
theorem dX10_leave_164 : decode cX10_leave 164 = .ok (.aload_n 0, 1) := by decide +kernel
theorem dX10_leave_165 : decode cX10_leave 165 = .ok (.dup, 1) := by decide +kernel
theorem dX10_leave_166 : decode cX10_leave 166 = .ok (.getfield 101, 3) := by decide +kernel
theorem dX10_leave_169 : decode cX10_leave 169 = .ok (.iconst 1, 1) := by decide +kernel
theorem dX10_leave_170 : decode cX10_leave 170 = .ok (.iadd, 1) := by decide +kernel
theorem dX10_leave_171 : decode cX10_leave 171 = .ok (.putfield 101, 3) := by decide +kernel
theorem dX10_leave_174 : decode cX10_leave 174 = .ok (.aload_n 0, 1) := by decide +kernel
theorem dX10_leave_175 : decode cX10_leave 175 = .ok (.getfield 101, 3) := by decide +kernel
theorem dX10_leave_178 : decode cX10_leave 178 = .ok (.iconst 1, 1) := by decide +kernel
theorem dX10_leave_179 : decode cX10_leave 179 = .ok (.isub, 1) := by decide +kernel
theorem dX10_leave_180 : decode cX10_leave 180 = .ok (.ireturn, 1) := by decide +kernel
theorem dX10_isChild_0 : decode cX10_isChild 0 = .ok (.iload_n 1, 1) := by decide +kernel
theorem dX10_isChild_1 : decode cX10_isChild 1 = .ok (.iconst 0, 1) := by decide +kernel
theorem dX10_isChild_2 : decode cX10_isChild 2 = .ok (.aload_n 0, 1) := by decide +kernel
theorem dX10_isChild_3 : decode cX10_isChild 3 = .ok (.getfield 101, 3) := by decide +kernel
theorem dX10_isChild_6 : decode cX10_isChild 6 = .ok (.iconst 1, 1) := by decide +kernel
theorem dX10_isChild_7 : decode cX10_isChild 7 = .ok (.isub, 1) := by decide +kernel
theorem dX10_isChild_8 : decode cX10_isChild 8 = .ok (.invokestatic 77, 3) := by decide +kernel
theorem dX10_isChild_11 : decode cX10_isChild 11 = .ok (.ireturn, 1) := by decide +kernel
theorem dX10_where_0 : decode cX10_where 0 = .ok (.iconst 0, 1) := by decide +kernel
theorem dX10_where_1 : decode cX10_where 1 = .ok (.istore 4, 2) := by decide +kernel
theorem dX10_where_3 : decode cX10_where 3 = .ok (.iconst (-1), 1) := by decide +kernel
theorem dX10_where_4 : decode cX10_where 4 = .ok (.istore 5, 2) := by decide +kernel
theorem dX10_where_6 : decode cX10_where 6 = .ok (.iconst 0, 1) := by decide +kernel
theorem dX10_where_7 : decode cX10_where 7 = .ok (.istore 6, 2) := by decide +kernel
theorem dX10_where_9 : decode cX10_where 9 = .ok (.iload 6, 2) := by decide +kernel
theorem dX10_where_11 : decode cX10_where 11 = .ok (.aload_n 0, 1) := by decide +kernel
theorem dX10_where_12 : decode cX10_where 12 = .ok (.getfield 104, 3) := by decide +kernel
theorem dX10_where_15 : decode cX10_where 15 = .ok (.if_icmp .ge 72, 3) := by decide +kernel
theorem dX10_where_18 : decode cX10_where 18 = .ok (.aload_n 0, 1) := by decide +kernel
theorem dX10_where_19 : decode cX10_where 19 = .ok (.getfield 47, 3) := by decide +kernel
theorem dX10_where_22 : decode cX10_where 22 = .ok (.iload 6, 2) := by decide +kernel
theorem dX10_where_24 : decode cX10_where 24 = .ok (.iaload, 1) := by decide +kernel
theorem dX10_where_25 : decode cX10_where 25 = .ok (.iload_n 1, 1) := by decide +kernel
theorem dX10_where_26 : decode cX10_where 26 = .ok (.if_icmp .ne 55, 3) := by decide +kernel
theorem dX10_where_29 : decode cX10_where 29 = .ok (.aload_n 0, 1) := by decide +kernel
theorem dX10_where_30 : decode cX10_where 30 = .ok (.getfield 56, 3) := by decide +kernel
theorem dX10_where_33 : decode cX10_where 33 = .ok (.iload 6, 2) := by decide +kernel
theorem dX10_where_35 : decode cX10_where 35 = .ok (.iaload, 1) := by decide +kernel
theorem dX10_where_36 : decode cX10_where 36 = .ok (.iload_n 3, 1) := by decide +kernel
theorem dX10_where_37 : decode cX10_where 37 = .ok (.if_icmp .gt 44, 3) := by decide +kernel
theorem dX10_where_40 : decode cX10_where 40 = .ok (.aload_n 0, 1) := by decide +kernel
theorem dX10_where_41 : decode cX10_where 41 = .ok (.getfield 53, 3) := by decide +kernel
theorem dX10_where_44 : decode cX10_where 44 = .ok (.iload 6, 2) := by decide +kernel
theorem dX10_where_46 : decode cX10_where 46 = .ok (.iaload, 1) := by decide +kernel
theorem dX10_where_47 : decode cX10_where 47 = .ok (.iload_n 2, 1) := by decide +kernel
theorem dX10_where_48 : decode cX10_where 48 = .ok (.if_icmp .gt 33, 3) := by decide +kernel
theorem dX10_where_51 : decode cX10_where 51 = .ok (.aload_n 0, 1) := by decide +kernel
theorem dX10_where_52 : decode cX10_where 52 = .ok (.getfield 53, 3) := by decide +kernel
theorem dX10_where_55 : decode cX10_where 55 = .ok (.iload 6, 2) := by decide +kernel
theorem dX10_where_57 : decode cX10_where 57 = .ok (.iaload, 1) := by decide +kernel
theorem dX10_where_58 : decode cX10_where 58 = .ok (.iload 5, 2) := by decide +kernel
theorem dX10_where_60 : decode cX10_where 60 = .ok (.if_icmp .lt 21, 3) := by decide +kernel
theorem dX10_where_63 : decode cX10_where 63 = .ok (.aload_n 0, 1) := by decide +kernel
theorem dX10_where_64 : decode cX10_where 64 = .ok (.getfield 50, 3) := by decide +kernel
theorem dX10_where_67 : decode cX10_where 67 = .ok (.iload 6, 2) := by decide +kernel
theorem dX10_where_69 : decode cX10_where 69 = .ok (.iaload, 1) := by decide +kernel
theorem dX10_where_70 : decode cX10_where 70 = .ok (.istore 4, 2) := by decide +kernel
theorem dX10_where_72 : decode cX10_where 72 = .ok (.aload_n 0, 1) := by decide +kernel
theorem dX10_where_73 : decode cX10_where 73 = .ok (.getfield 53, 3) := by decide +kernel
theorem dX10_where_76 : decode cX10_where 76 = .ok (.iload 6, 2) := by decide +kernel
theorem dX10_where_78 : decode cX10_where 78 = .ok (.iaload, 1) := by decide +kernel
theorem dX10_where_79 : decode cX10_where 79 = .ok (.istore 5, 2) := by decide +kernel
theorem dX10_where_81 : decode cX10_where 81 = .ok (.iinc 6 1, 3) := by decide +kernel
theorem dX10_where_84 : decode cX10_where 84 = .ok (.goto (-75), 3) := by decide +kernel
theorem dX10_where_87 : decode cX10_where 87 = .ok (.iload 4, 2) := by decide +kernel
theorem dX10_where_89 : decode cX10_where 89 = .ok (.ireturn, 1) := by decide +kernel
theorem dX10_isThere_0 : decode cX10_isThere 0 = .ok (.aload_n 0, 1) := by decide +kernel
theorem dX10_isThere_1 : decode cX10_isThere 1 = .ok (.getfield 19, 3) := by decide +kernel
theorem dX10_isThere_4 : decode cX10_isThere 4 = .ok (.iload_n 1, 1) := by decide +kernel
theorem dX10_isThere_5 : decode cX10_isThere 5 = .ok (.iaload, 1) := by decide +kernel
theorem dX10_isThere_6 : decode cX10_isThere 6 = .ok (.iload_n 2, 1) := by decide +kernel
theorem dX10_isThere_7 : decode cX10_isThere 7 = .ok (.if_icmp .gt 17, 3) := by decide +kernel
theorem dX10_isThere_10 : decode cX10_isThere 10 = .ok (.aload_n 0, 1) := by decide +kernel
theorem dX10_isThere_11 : decode cX10_isThere 11 = .ok (.getfield 19, 3) := by decide +kernel
theorem dX10_isThere_14 : decode cX10_isThere 14 = .ok (.iload_n 1, 1) := by decide +kernel
theorem dX10_isThere_15 : decode cX10_isThere 15 = .ok (.iaload, 1) := by decide +kernel
theorem dX10_isThere_16 : decode cX10_isThere 16 = .ok (.iload_n 3, 1) := by decide +kernel
theorem dX10_isThere_17 : decode cX10_isThere 17 = .ok (.if_icmp .gt 7, 3) := by decide +kernel
theorem dX10_isThere_20 : decode cX10_isThere 20 = .ok (.iconst 1, 1) := by decide +kernel
theorem dX10_isThere_21 : decode cX10_isThere 21 = .ok (.goto 4, 3) := by decide +kernel
theorem dX10_isThere_24 : decode cX10_isThere 24 = .ok (.iconst 0, 1) := by decide +kernel
theorem dX10_isThere_25 : decode cX10_isThere 25 = .ok (.ireturn, 1) := by decide +kernel
theorem dX10_manyAt_0 : decode cX10_manyAt 0 = .ok (.iconst 0, 1) := by decide +kernel
theorem dX10_manyAt_1 : decode cX10_manyAt 1 = .ok (.istore 4, 2) := by decide +kernel
theorem dX10_manyAt_3 : decode cX10_manyAt 3 = .ok (.iconst 0, 1) := by decide +kernel
theorem dX10_manyAt_4 : decode cX10_manyAt 4 = .ok (.istore 5, 2) := by decide +kernel
theorem dX10_manyAt_6 : decode cX10_manyAt 6 = .ok (.iload 5, 2) := by decide +kernel
theorem dX10_manyAt_8 : decode cX10_manyAt 8 = .ok (.aload_n 0, 1) := by decide +kernel
theorem dX10_manyAt_9 : decode cX10_manyAt 9 = .ok (.getfield 101, 3) := by decide +kernel
theorem dX10_manyAt_12 : decode cX10_manyAt 12 = .ok (.if_icmp .ge 42, 3) := by decide +kernel
theorem dX10_manyAt_15 : decode cX10_manyAt 15 = .ok (.iload 4, 2) := by decide +kernel
theorem dX10_manyAt_17 : decode cX10_manyAt 17 = .ok (.aload_n 0, 1) := by decide +kernel
theorem dX10_manyAt_18 : decode cX10_manyAt 18 = .ok (.iload 5, 2) := by decide +kernel
theorem dX10_manyAt_20 : decode cX10_manyAt 20 = .ok (.iload_n 2, 1) := by decide +kernel
theorem dX10_manyAt_21 : decode cX10_manyAt 21 = .ok (.iload_n 3, 1) := by decide +kernel
theorem dX10_manyAt_22 : decode cX10_manyAt 22 = .ok (.invokevirtual 107, 3) := by decide +kernel
theorem dX10_manyAt_25 : decode cX10_manyAt 25 = .ok (.ifCond .eq 19, 3) := by decide +kernel
theorem dX10_manyAt_28 : decode cX10_manyAt 28 = .ok (.aload_n 0, 1) := by decide +kernel
theorem dX10_manyAt_29 : decode cX10_manyAt 29 = .ok (.iload 5, 2) := by decide +kernel
theorem dX10_manyAt_31 : decode cX10_manyAt 31 = .ok (.iload_n 2, 1) := by decide +kernel
theorem dX10_manyAt_32 : decode cX10_manyAt 32 = .ok (.iload_n 3, 1) := by decide +kernel
theorem dX10_manyAt_33 : decode cX10_manyAt 33 = .ok (.invokevirtual 110, 3) := by decide +kernel
theorem dX10_manyAt_36 : decode cX10_manyAt 36 = .ok (.iload_n 1, 1) := by decide +kernel
theorem dX10_manyAt_37 : decode cX10_manyAt 37 = .ok (.if_icmp .ne 7, 3) := by decide +kernel
theorem dX10_manyAt_40 : decode cX10_manyAt 40 = .ok (.iconst 1, 1) := by decide +kernel
theorem dX10_manyAt_41 : decode cX10_manyAt 41 = .ok (.goto 4, 3) := by decide +kernel
theorem dX10_manyAt_44 : decode cX10_manyAt 44 = .ok (.iconst 0, 1) := by decide +kernel
theorem dX10_manyAt_45 : decode cX10_manyAt 45 = .ok (.iadd, 1) := by decide +kernel
theorem dX10_manyAt_46 : decode cX10_manyAt 46 = .ok (.istore 4, 2) := by decide +kernel
theorem dX10_manyAt_48 : decode cX10_manyAt 48 = .ok (.iinc 5 1, 3) := by decide +kernel
theorem dX10_manyAt_51 : decode cX10_manyAt 51 = .ok (.goto (-45), 3) := by decide +kernel
theorem dX10_manyAt_54 : decode cX10_manyAt 54 = .ok (.iload 4, 2) := by decide +kernel
theorem dX10_manyAt_56 : decode cX10_manyAt 56 = .ok (.ireturn, 1) := by decide +kernel
theorem dX10_hasRoom_0 : decode cX10_hasRoom 0 = .ok (.iload_n 2, 1) := by decide +kernel
theorem dX10_hasRoom_1 : decode cX10_hasRoom 1 = .ok (.istore 4, 2) := by decide +kernel
theorem dX10_hasRoom_3 : decode cX10_hasRoom 3 = .ok (.iload 4, 2) := by decide +kernel
theorem dX10_hasRoom_5 : decode cX10_hasRoom 5 = .ok (.aload_n 0, 1) := by decide +kernel
theorem dX10_hasRoom_6 : decode cX10_hasRoom 6 = .ok (.getfield 81, 3) := by decide +kernel
theorem dX10_hasRoom_9 : decode cX10_hasRoom 9 = .ok (.if_icmp .gt 44, 3) := by decide +kernel
theorem dX10_hasRoom_12 : decode cX10_hasRoom 12 = .ok (.iload 4, 2) := by decide +kernel
theorem dX10_hasRoom_14 : decode cX10_hasRoom 14 = .ok (.iload_n 2, 1) := by decide +kernel
theorem dX10_hasRoom_15 : decode cX10_hasRoom 15 = .ok (.if_icmp .le 15, 3) := by decide +kernel
theorem dX10_hasRoom_18 : decode cX10_hasRoom 18 = .ok (.aload_n 0, 1) := by decide +kernel
theorem dX10_hasRoom_19 : decode cX10_hasRoom 19 = .ok (.iload 4, 2) := by decide +kernel
theorem dX10_hasRoom_21 : decode cX10_hasRoom 21 = .ok (.invokevirtual 114, 3) := by decide +kernel
theorem dX10_hasRoom_24 : decode cX10_hasRoom 24 = .ok (.ifCond .ne 6, 3) := by decide +kernel
theorem dX10_hasRoom_27 : decode cX10_hasRoom 27 = .ok (.goto 20, 3) := by decide +kernel
theorem dX10_hasRoom_30 : decode cX10_hasRoom 30 = .ok (.aload_n 0, 1) := by decide +kernel
theorem dX10_hasRoom_31 : decode cX10_hasRoom 31 = .ok (.iload_n 1, 1) := by decide +kernel
theorem dX10_hasRoom_32 : decode cX10_hasRoom 32 = .ok (.iload 4, 2) := by decide +kernel
theorem dX10_hasRoom_34 : decode cX10_hasRoom 34 = .ok (.aload_n 0, 1) := by decide +kernel
theorem dX10_hasRoom_35 : decode cX10_hasRoom 35 = .ok (.getfield 81, 3) := by decide +kernel
theorem dX10_hasRoom_38 : decode cX10_hasRoom 38 = .ok (.invokevirtual 118, 3) := by decide +kernel
theorem dX10_hasRoom_41 : decode cX10_hasRoom 41 = .ok (.iload_n 3, 1) := by decide +kernel
theorem dX10_hasRoom_42 : decode cX10_hasRoom 42 = .ok (.if_icmp .le 5, 3) := by decide +kernel
theorem dX10_hasRoom_45 : decode cX10_hasRoom 45 = .ok (.iconst 0, 1) := by decide +kernel
theorem dX10_hasRoom_46 : decode cX10_hasRoom 46 = .ok (.ireturn, 1) := by decide +kernel
theorem dX10_hasRoom_47 : decode cX10_hasRoom 47 = .ok (.iinc 4 1, 3) := by decide +kernel
theorem dX10_hasRoom_50 : decode cX10_hasRoom 50 = .ok (.goto (-47), 3) := by decide +kernel
theorem dX10_hasRoom_53 : decode cX10_hasRoom 53 = .ok (.iconst 1, 1) := by decide +kernel
theorem dX10_hasRoom_54 : decode cX10_hasRoom 54 = .ok (.ireturn, 1) := by decide +kernel
theorem dX10_changesOn_0 : decode cX10_changesOn 0 = .ok (.iconst 0, 1) := by decide +kernel
theorem dX10_changesOn_1 : decode cX10_changesOn 1 = .ok (.istore_n 2, 1) := by decide +kernel
theorem dX10_changesOn_2 : decode cX10_changesOn 2 = .ok (.iload_n 2, 1) := by decide +kernel
theorem dX10_changesOn_3 : decode cX10_changesOn 3 = .ok (.aload_n 0, 1) := by decide +kernel
theorem dX10_changesOn_4 : decode cX10_changesOn 4 = .ok (.getfield 104, 3) := by decide +kernel
theorem dX10_changesOn_7 : decode cX10_changesOn 7 = .ok (.if_icmp .ge 21, 3) := by decide +kernel
theorem dX10_changesOn_10 : decode cX10_changesOn 10 = .ok (.aload_n 0, 1) := by decide +kernel
theorem dX10_changesOn_11 : decode cX10_changesOn 11 = .ok (.getfield 53, 3) := by decide +kernel
theorem dX10_changesOn_14 : decode cX10_changesOn 14 = .ok (.iload_n 2, 1) := by decide +kernel
theorem dX10_changesOn_15 : decode cX10_changesOn 15 = .ok (.iaload, 1) := by decide +kernel
theorem dX10_changesOn_16 : decode cX10_changesOn 16 = .ok (.iload_n 1, 1) := by decide +kernel
theorem dX10_changesOn_17 : decode cX10_changesOn 17 = .ok (.if_icmp .ne 5, 3) := by decide +kernel
theorem dX10_changesOn_20 : decode cX10_changesOn 20 = .ok (.iconst 1, 1) := by decide +kernel
theorem dX10_changesOn_21 : decode cX10_changesOn 21 = .ok (.ireturn, 1) := by decide +kernel
theorem dX10_changesOn_22 : decode cX10_changesOn 22 = .ok (.iinc 2 1, 3) := by decide +kernel
theorem dX10_changesOn_25 : decode cX10_changesOn 25 = .ok (.goto (-23), 3) := by decide +kernel
theorem dX10_changesOn_28 : decode cX10_changesOn 28 = .ok (.iconst 0, 1) := by decide +kernel
theorem dX10_changesOn_29 : decode cX10_changesOn 29 = .ok (.istore_n 2, 1) := by decide +kernel
theorem dX10_changesOn_30 : decode cX10_changesOn 30 = .ok (.iload_n 2, 1) := by decide +kernel
theorem dX10_changesOn_31 : decode cX10_changesOn 31 = .ok (.aload_n 0, 1) := by decide +kernel
theorem dX10_changesOn_32 : decode cX10_changesOn 32 = .ok (.getfield 101, 3) := by decide +kernel
theorem dX10_changesOn_35 : decode cX10_changesOn 35 = .ok (.if_icmp .ge 21, 3) := by decide +kernel
theorem dX10_changesOn_38 : decode cX10_changesOn 38 = .ok (.aload_n 0, 1) := by decide +kernel
theorem dX10_changesOn_39 : decode cX10_changesOn 39 = .ok (.getfield 19, 3) := by decide +kernel
theorem dX10_changesOn_42 : decode cX10_changesOn 42 = .ok (.iload_n 2, 1) := by decide +kernel
theorem dX10_changesOn_43 : decode cX10_changesOn 43 = .ok (.iaload, 1) := by decide +kernel
theorem dX10_changesOn_44 : decode cX10_changesOn 44 = .ok (.iload_n 1, 1) := by decide +kernel
theorem dX10_changesOn_45 : decode cX10_changesOn 45 = .ok (.if_icmp .ne 5, 3) := by decide +kernel
theorem dX10_changesOn_48 : decode cX10_changesOn 48 = .ok (.iconst 1, 1) := by decide +kernel
theorem dX10_changesOn_49 : decode cX10_changesOn 49 = .ok (.ireturn, 1) := by decide +kernel
theorem dX10_changesOn_50 : decode cX10_changesOn 50 = .ok (.iinc 2 1, 3) := by decide +kernel
theorem dX10_changesOn_53 : decode cX10_changesOn 53 = .ok (.goto (-23), 3) := by decide +kernel
theorem dX10_changesOn_56 : decode cX10_changesOn 56 = .ok (.iconst 0, 1) := by decide +kernel
theorem dX10_changesOn_57 : decode cX10_changesOn 57 = .ok (.ireturn, 1) := by decide +kernel
theorem dX10_beds_0 : decode cX10_beds 0 = .ok (.iload_n 1, 1) := by decide +kernel
theorem dX10_beds_1 : decode cX10_beds 1 = .ok (.iconst 1, 1) := by decide +kernel
theorem dX10_beds_2 : decode cX10_beds 2 = .ok (.bipush 12, 2) := by decide +kernel
theorem dX10_beds_4 : decode cX10_beds 4 = .ok (.invokestatic 77, 3) := by decide +kernel
theorem dX10_beds_7 : decode cX10_beds 7 = .ok (.ifCond .eq 22, 3) := by decide +kernel
theorem dX10_beds_10 : decode cX10_beds 10 = .ok (.iload_n 2, 1) := by decide +kernel
theorem dX10_beds_11 : decode cX10_beds 11 = .ok (.iconst 1, 1) := by decide +kernel
theorem dX10_beds_12 : decode cX10_beds 12 = .ok (.iconst 3, 1) := by decide +kernel
theorem dX10_beds_13 : decode cX10_beds 13 = .ok (.invokestatic 77, 3) := by decide +kernel
theorem dX10_beds_16 : decode cX10_beds 16 = .ok (.ifCond .eq 13, 3) := by decide +kernel
theorem dX10_beds_19 : decode cX10_beds 19 = .ok (.aload_n 0, 1) := by decide +kernel
theorem dX10_beds_20 : decode cX10_beds 20 = .ok (.iload_n 1, 1) := by decide +kernel
theorem dX10_beds_21 : decode cX10_beds 21 = .ok (.iconst 0, 1) := by decide +kernel
theorem dX10_beds_22 : decode cX10_beds 22 = .ok (.iload_n 2, 1) := by decide +kernel
theorem dX10_beds_23 : decode cX10_beds 23 = .ok (.invokevirtual 121, 3) := by decide +kernel
theorem dX10_beds_26 : decode cX10_beds 26 = .ok (.ifCond .ne 5, 3) := by decide +kernel
theorem dX10_beds_29 : decode cX10_beds 29 = .ok (.iconst 0, 1) := by decide +kernel
theorem dX10_beds_30 : decode cX10_beds 30 = .ok (.ireturn, 1) := by decide +kernel
theorem dX10_beds_31 : decode cX10_beds 31 = .ok (.aload_n 0, 1) := by decide +kernel
theorem dX10_beds_32 : decode cX10_beds 32 = .ok (.getfield 59, 3) := by decide +kernel
theorem dX10_beds_35 : decode cX10_beds 35 = .ok (.iload_n 1, 1) := by decide +kernel
theorem dX10_beds_36 : decode cX10_beds 36 = .ok (.iload_n 2, 1) := by decide +kernel
theorem dX10_beds_37 : decode cX10_beds 37 = .ok (.iastore, 1) := by decide +kernel
theorem dX10_beds_38 : decode cX10_beds 38 = .ok (.iconst 1, 1) := by decide +kernel
theorem dX10_beds_39 : decode cX10_beds 39 = .ok (.ireturn, 1) := by decide +kernel
theorem dX10_move_0 : decode cX10_move 0 = .ok (.aload_n 0, 1) := by decide +kernel
theorem dX10_move_1 : decode cX10_move 1 = .ok (.iload_n 1, 1) := by decide +kernel
theorem dX10_move_2 : decode cX10_move 2 = .ok (.invokevirtual 124, 3) := by decide +kernel
theorem dX10_move_5 : decode cX10_move 5 = .ok (.ifCond .eq 40, 3) := by decide +kernel
theorem dX10_move_8 : decode cX10_move 8 = .ok (.iload_n 2, 1) := by decide +kernel
theorem dX10_move_9 : decode cX10_move 9 = .ok (.iconst 0, 1) := by decide +kernel
theorem dX10_move_10 : decode cX10_move 10 = .ok (.bipush 15, 2) := by decide +kernel
theorem dX10_move_12 : decode cX10_move 12 = .ok (.invokestatic 77, 3) := by decide +kernel
theorem dX10_move_15 : decode cX10_move 15 = .ok (.ifCond .eq 30, 3) := by decide +kernel
theorem dX10_move_18 : decode cX10_move 18 = .ok (.iload_n 3, 1) := by decide +kernel
theorem dX10_move_19 : decode cX10_move 19 = .ok (.aload_n 0, 1) := by decide +kernel
theorem dX10_move_20 : decode cX10_move 20 = .ok (.getfield 19, 3) := by decide +kernel
theorem dX10_move_23 : decode cX10_move 23 = .ok (.iload_n 1, 1) := by decide +kernel
theorem dX10_move_24 : decode cX10_move 24 = .ok (.iaload, 1) := by decide +kernel
theorem dX10_move_25 : decode cX10_move 25 = .ok (.aload_n 0, 1) := by decide +kernel
theorem dX10_move_26 : decode cX10_move 26 = .ok (.getfield 81, 3) := by decide +kernel
theorem dX10_move_29 : decode cX10_move 29 = .ok (.invokestatic 77, 3) := by decide +kernel
theorem dX10_move_32 : decode cX10_move 32 = .ok (.ifCond .eq 13, 3) := by decide +kernel
theorem dX10_move_35 : decode cX10_move 35 = .ok (.aload_n 0, 1) := by decide +kernel
theorem dX10_move_36 : decode cX10_move 36 = .ok (.getfield 104, 3) := by decide +kernel
theorem dX10_move_39 : decode cX10_move 39 = .ok (.sipush 300, 3) := by decide +kernel
theorem dX10_move_42 : decode cX10_move 42 = .ok (.if_icmp .ne 5, 3) := by decide +kernel
theorem dX10_move_45 : decode cX10_move 45 = .ok (.iconst 0, 1) := by decide +kernel
theorem dX10_move_46 : decode cX10_move 46 = .ok (.ireturn, 1) := by decide +kernel
theorem dX10_move_47 : decode cX10_move 47 = .ok (.aload_n 0, 1) := by decide +kernel
theorem dX10_move_48 : decode cX10_move 48 = .ok (.iload_n 1, 1) := by decide +kernel
theorem dX10_move_49 : decode cX10_move 49 = .ok (.iload_n 3, 1) := by decide +kernel
theorem dX10_move_50 : decode cX10_move 50 = .ok (.aload_n 0, 1) := by decide +kernel
theorem dX10_move_51 : decode cX10_move 51 = .ok (.getfield 81, 3) := by decide +kernel
theorem dX10_move_54 : decode cX10_move 54 = .ok (.invokevirtual 110, 3) := by decide +kernel
theorem dX10_move_57 : decode cX10_move 57 = .ok (.istore 4, 2) := by decide +kernel
theorem dX10_move_59 : decode cX10_move 59 = .ok (.iload 4, 2) := by decide +kernel
theorem dX10_move_61 : decode cX10_move 61 = .ok (.bipush 14, 2) := by decide +kernel
theorem dX10_move_63 : decode cX10_move 63 = .ok (.if_icmp .eq 10, 3) := by decide +kernel
theorem dX10_move_66 : decode cX10_move 66 = .ok (.iload 4, 2) := by decide +kernel
theorem dX10_move_68 : decode cX10_move 68 = .ok (.bipush 15, 2) := by decide +kernel
theorem dX10_move_70 : decode cX10_move 70 = .ok (.if_icmp .ne 5, 3) := by decide +kernel
theorem dX10_move_73 : decode cX10_move 73 = .ok (.iconst 0, 1) := by decide +kernel
theorem dX10_move_74 : decode cX10_move 74 = .ok (.ireturn, 1) := by decide +kernel
theorem dX10_move_75 : decode cX10_move 75 = .ok (.aload_n 0, 1) := by decide +kernel
theorem dX10_move_76 : decode cX10_move 76 = .ok (.getfield 47, 3) := by decide +kernel
theorem dX10_move_79 : decode cX10_move 79 = .ok (.aload_n 0, 1) := by decide +kernel
theorem dX10_move_80 : decode cX10_move 80 = .ok (.getfield 104, 3) := by decide +kernel
theorem dX10_move_83 : decode cX10_move 83 = .ok (.iload_n 1, 1) := by decide +kernel
theorem dX10_move_84 : decode cX10_move 84 = .ok (.iastore, 1) := by decide +kernel
theorem dX10_move_85 : decode cX10_move 85 = .ok (.aload_n 0, 1) := by decide +kernel
theorem dX10_move_86 : decode cX10_move 86 = .ok (.getfield 50, 3) := by decide +kernel
theorem dX10_move_89 : decode cX10_move 89 = .ok (.aload_n 0, 1) := by decide +kernel
theorem dX10_move_90 : decode cX10_move 90 = .ok (.getfield 104, 3) := by decide +kernel
theorem dX10_move_93 : decode cX10_move 93 = .ok (.iload_n 2, 1) := by decide +kernel
theorem dX10_move_94 : decode cX10_move 94 = .ok (.iastore, 1) := by decide +kernel
theorem dX10_move_95 : decode cX10_move 95 = .ok (.aload_n 0, 1) := by decide +kernel
theorem dX10_move_96 : decode cX10_move 96 = .ok (.getfield 53, 3) := by decide +kernel
theorem dX10_move_99 : decode cX10_move 99 = .ok (.aload_n 0, 1) := by decide +kernel
theorem dX10_move_100 : decode cX10_move 100 = .ok (.getfield 104, 3) := by decide +kernel
theorem dX10_move_103 : decode cX10_move 103 = .ok (.iload_n 3, 1) := by decide +kernel
theorem dX10_move_104 : decode cX10_move 104 = .ok (.iastore, 1) := by decide +kernel
theorem dX10_move_105 : decode cX10_move 105 = .ok (.aload_n 0, 1) := by decide +kernel
theorem dX10_move_106 : decode cX10_move 106 = .ok (.getfield 56, 3) := by decide +kernel
theorem dX10_move_109 : decode cX10_move 109 = .ok (.aload_n 0, 1) := by decide +kernel
theorem dX10_move_110 : decode cX10_move 110 = .ok (.getfield 104, 3) := by decide +kernel
theorem dX10_move_113 : decode cX10_move 113 = .ok (.aload_n 0, 1) := by decide +kernel
theorem dX10_move_114 : decode cX10_move 114 = .ok (.getfield 81, 3) := by decide +kernel
theorem dX10_move_117 : decode cX10_move 117 = .ok (.iastore, 1) := by decide +kernel
theorem dX10_move_118 : decode cX10_move 118 = .ok (.aload_n 0, 1) := by decide +kernel
theorem dX10_move_119 : decode cX10_move 119 = .ok (.dup, 1) := by decide +kernel
theorem dX10_move_120 : decode cX10_move 120 = .ok (.getfield 104, 3) := by decide +kernel
theorem dX10_move_123 : decode cX10_move 123 = .ok (.iconst 1, 1) := by decide +kernel
theorem dX10_move_124 : decode cX10_move 124 = .ok (.iadd, 1) := by decide +kernel
theorem dX10_move_125 : decode cX10_move 125 = .ok (.putfield 104, 3) := by decide +kernel
theorem dX10_move_128 : decode cX10_move 128 = .ok (.iload_n 2, 1) := by decide +kernel
theorem dX10_move_129 : decode cX10_move 129 = .ok (.iconst 1, 1) := by decide +kernel
theorem dX10_move_130 : decode cX10_move 130 = .ok (.bipush 12, 2) := by decide +kernel
theorem dX10_move_132 : decode cX10_move 132 = .ok (.invokestatic 77, 3) := by decide +kernel
theorem dX10_move_135 : decode cX10_move 135 = .ok (.ifCond .eq 30, 3) := by decide +kernel
theorem dX10_move_138 : decode cX10_move 138 = .ok (.aload_n 0, 1) := by decide +kernel
theorem dX10_move_139 : decode cX10_move 139 = .ok (.iload_n 2, 1) := by decide +kernel
theorem dX10_move_140 : decode cX10_move 140 = .ok (.iload_n 3, 1) := by decide +kernel
theorem dX10_move_141 : decode cX10_move 141 = .ok (.aload_n 0, 1) := by decide +kernel
theorem dX10_move_142 : decode cX10_move 142 = .ok (.getfield 59, 3) := by decide +kernel
theorem dX10_move_145 : decode cX10_move 145 = .ok (.iload_n 2, 1) := by decide +kernel
theorem dX10_move_146 : decode cX10_move 146 = .ok (.iaload, 1) := by decide +kernel
theorem dX10_move_147 : decode cX10_move 147 = .ok (.invokevirtual 121, 3) := by decide +kernel
theorem dX10_move_150 : decode cX10_move 150 = .ok (.ifCond .ne 15, 3) := by decide +kernel
theorem dX10_move_153 : decode cX10_move 153 = .ok (.aload_n 0, 1) := by decide +kernel
theorem dX10_move_154 : decode cX10_move 154 = .ok (.dup, 1) := by decide +kernel
theorem dX10_move_155 : decode cX10_move 155 = .ok (.getfield 104, 3) := by decide +kernel
theorem dX10_move_158 : decode cX10_move 158 = .ok (.iconst 1, 1) := by decide +kernel
theorem dX10_move_159 : decode cX10_move 159 = .ok (.isub, 1) := by decide +kernel
theorem dX10_move_160 : decode cX10_move 160 = .ok (.putfield 104, 3) := by decide +kernel
theorem dX10_move_163 : decode cX10_move 163 = .ok (.iconst 0, 1) := by decide +kernel
theorem dX10_move_164 : decode cX10_move 164 = .ok (.ireturn, 1) := by decide +kernel
theorem dX10_move_165 : decode cX10_move 165 = .ok (.iconst 1, 1) := by decide +kernel
theorem dX10_move_166 : decode cX10_move 166 = .ok (.ireturn, 1) := by decide +kernel
theorem dX10_areDays_0 : decode cX10_areDays 0 = .ok (.iload_n 1, 1) := by decide +kernel
theorem dX10_areDays_1 : decode cX10_areDays 1 = .ok (.iconst 0, 1) := by decide +kernel
theorem dX10_areDays_2 : decode cX10_areDays 2 = .ok (.aload_n 0, 1) := by decide +kernel
theorem dX10_areDays_3 : decode cX10_areDays 3 = .ok (.getfield 81, 3) := by decide +kernel
theorem dX10_areDays_6 : decode cX10_areDays 6 = .ok (.invokestatic 77, 3) := by decide +kernel
theorem dX10_areDays_9 : decode cX10_areDays 9 = .ok (.ifCond .eq 19, 3) := by decide +kernel
theorem dX10_areDays_12 : decode cX10_areDays 12 = .ok (.iload_n 2, 1) := by decide +kernel
theorem dX10_areDays_13 : decode cX10_areDays 13 = .ok (.iconst 0, 1) := by decide +kernel
theorem dX10_areDays_14 : decode cX10_areDays 14 = .ok (.aload_n 0, 1) := by decide +kernel
theorem dX10_areDays_15 : decode cX10_areDays 15 = .ok (.getfield 81, 3) := by decide +kernel
theorem dX10_areDays_18 : decode cX10_areDays 18 = .ok (.invokestatic 77, 3) := by decide +kernel
theorem dX10_areDays_21 : decode cX10_areDays 21 = .ok (.ifCond .eq 7, 3) := by decide +kernel
theorem dX10_areDays_24 : decode cX10_areDays 24 = .ok (.iconst 1, 1) := by decide +kernel
theorem dX10_areDays_25 : decode cX10_areDays 25 = .ok (.goto 4, 3) := by decide +kernel
theorem dX10_areDays_28 : decode cX10_areDays 28 = .ok (.iconst 0, 1) := by decide +kernel
theorem dX10_areDays_29 : decode cX10_areDays 29 = .ok (.ireturn, 1) := by decide +kernel
theorem dX10_place_0 : decode cX10_place 0 = .ok (.aload_n 0, 1) := by decide +kernel
theorem dX10_place_1 : decode cX10_place 1 = .ok (.iload_n 1, 1) := by decide +kernel
theorem dX10_place_2 : decode cX10_place 2 = .ok (.invokevirtual 124, 3) := by decide +kernel
theorem dX10_place_5 : decode cX10_place 5 = .ok (.ifCond .eq 32, 3) := by decide +kernel
theorem dX10_place_8 : decode cX10_place 8 = .ok (.aload_n 0, 1) := by decide +kernel
theorem dX10_place_9 : decode cX10_place 9 = .ok (.iload_n 2, 1) := by decide +kernel
theorem dX10_place_10 : decode cX10_place 10 = .ok (.iload_n 3, 1) := by decide +kernel
theorem dX10_place_11 : decode cX10_place 11 = .ok (.invokevirtual 127, 3) := by decide +kernel
theorem dX10_place_14 : decode cX10_place 14 = .ok (.ifCond .eq 23, 3) := by decide +kernel
theorem dX10_place_17 : decode cX10_place 17 = .ok (.aload_n 0, 1) := by decide +kernel
theorem dX10_place_18 : decode cX10_place 18 = .ok (.iload_n 1, 1) := by decide +kernel
theorem dX10_place_19 : decode cX10_place 19 = .ok (.iload_n 2, 1) := by decide +kernel
theorem dX10_place_20 : decode cX10_place 20 = .ok (.iload_n 3, 1) := by decide +kernel
theorem dX10_place_21 : decode cX10_place 21 = .ok (.invokevirtual 107, 3) := by decide +kernel
theorem dX10_place_24 : decode cX10_place 24 = .ok (.ifCond .eq 13, 3) := by decide +kernel
theorem dX10_place_27 : decode cX10_place 27 = .ok (.aload_n 0, 1) := by decide +kernel
theorem dX10_place_28 : decode cX10_place 28 = .ok (.iload_n 1, 1) := by decide +kernel
theorem dX10_place_29 : decode cX10_place 29 = .ok (.iload_n 2, 1) := by decide +kernel
theorem dX10_place_30 : decode cX10_place 30 = .ok (.iload_n 3, 1) := by decide +kernel
theorem dX10_place_31 : decode cX10_place 31 = .ok (.invokevirtual 110, 3) := by decide +kernel
theorem dX10_place_34 : decode cX10_place 34 = .ok (.goto 4, 3) := by decide +kernel
theorem dX10_place_37 : decode cX10_place 37 = .ok (.iconst (-1), 1) := by decide +kernel
theorem dX10_place_38 : decode cX10_place 38 = .ok (.ireturn, 1) := by decide +kernel
theorem dX10_many_0 : decode cX10_many 0 = .ok (.iload_n 1, 1) := by decide +kernel
theorem dX10_many_1 : decode cX10_many 1 = .ok (.iconst 0, 1) := by decide +kernel
theorem dX10_many_2 : decode cX10_many 2 = .ok (.bipush 15, 2) := by decide +kernel
theorem dX10_many_4 : decode cX10_many 4 = .ok (.invokestatic 77, 3) := by decide +kernel
theorem dX10_many_7 : decode cX10_many 7 = .ok (.ifCond .eq 22, 3) := by decide +kernel
theorem dX10_many_10 : decode cX10_many 10 = .ok (.aload_n 0, 1) := by decide +kernel
theorem dX10_many_11 : decode cX10_many 11 = .ok (.iload_n 2, 1) := by decide +kernel
theorem dX10_many_12 : decode cX10_many 12 = .ok (.iload_n 3, 1) := by decide +kernel
theorem dX10_many_13 : decode cX10_many 13 = .ok (.invokevirtual 127, 3) := by decide +kernel
theorem dX10_many_16 : decode cX10_many 16 = .ok (.ifCond .eq 13, 3) := by decide +kernel
theorem dX10_many_19 : decode cX10_many 19 = .ok (.aload_n 0, 1) := by decide +kernel
theorem dX10_many_20 : decode cX10_many 20 = .ok (.iload_n 1, 1) := by decide +kernel
theorem dX10_many_21 : decode cX10_many 21 = .ok (.iload_n 2, 1) := by decide +kernel
theorem dX10_many_22 : decode cX10_many 22 = .ok (.iload_n 3, 1) := by decide +kernel
theorem dX10_many_23 : decode cX10_many 23 = .ok (.invokevirtual 118, 3) := by decide +kernel
theorem dX10_many_26 : decode cX10_many 26 = .ok (.goto 4, 3) := by decide +kernel
theorem dX10_many_29 : decode cX10_many 29 = .ok (.iconst (-1), 1) := by decide +kernel
theorem dX10_many_30 : decode cX10_many 30 = .ok (.ireturn, 1) := by decide +kernel
theorem dX10_look_0 : decode cX10_look 0 = .ok (.iload_n 1, 1) := by decide +kernel
theorem dX10_look_1 : decode cX10_look 1 = .ok (.iconst 1, 1) := by decide +kernel
theorem dX10_look_2 : decode cX10_look 2 = .ok (.bipush 12, 2) := by decide +kernel
theorem dX10_look_4 : decode cX10_look 4 = .ok (.invokestatic 77, 3) := by decide +kernel
theorem dX10_look_7 : decode cX10_look 7 = .ok (.ifCond .eq 21, 3) := by decide +kernel
theorem dX10_look_10 : decode cX10_look 10 = .ok (.aload_n 0, 1) := by decide +kernel
theorem dX10_look_11 : decode cX10_look 11 = .ok (.getfield 62, 3) := by decide +kernel
theorem dX10_look_14 : decode cX10_look 14 = .ok (.sipush 2001, 3) := by decide +kernel
theorem dX10_look_17 : decode cX10_look 17 = .ok (.iload_n 1, 1) := by decide +kernel
theorem dX10_look_18 : decode cX10_look 18 = .ok (.imul, 1) := by decide +kernel
theorem dX10_look_19 : decode cX10_look 19 = .ok (.aload_n 0, 1) := by decide +kernel
theorem dX10_look_20 : decode cX10_look 20 = .ok (.getfield 81, 3) := by decide +kernel
theorem dX10_look_23 : decode cX10_look 23 = .ok (.iadd, 1) := by decide +kernel
theorem dX10_look_24 : decode cX10_look 24 = .ok (.baload, 1) := by decide +kernel
theorem dX10_look_25 : decode cX10_look 25 = .ok (.ifCond .eq 5, 3) := by decide +kernel
theorem dX10_look_28 : decode cX10_look 28 = .ok (.iconst 0, 1) := by decide +kernel
theorem dX10_look_29 : decode cX10_look 29 = .ok (.ireturn, 1) := by decide +kernel
theorem dX10_look_30 : decode cX10_look 30 = .ok (.aload_n 0, 1) := by decide +kernel
theorem dX10_look_31 : decode cX10_look 31 = .ok (.getfield 62, 3) := by decide +kernel
theorem dX10_look_34 : decode cX10_look 34 = .ok (.sipush 2001, 3) := by decide +kernel
theorem dX10_look_37 : decode cX10_look 37 = .ok (.iload_n 1, 1) := by decide +kernel
theorem dX10_look_38 : decode cX10_look 38 = .ok (.imul, 1) := by decide +kernel
theorem dX10_look_39 : decode cX10_look 39 = .ok (.aload_n 0, 1) := by decide +kernel
theorem dX10_look_40 : decode cX10_look 40 = .ok (.getfield 81, 3) := by decide +kernel
theorem dX10_look_43 : decode cX10_look 43 = .ok (.iadd, 1) := by decide +kernel
theorem dX10_look_44 : decode cX10_look 44 = .ok (.iconst 1, 1) := by decide +kernel
theorem dX10_look_45 : decode cX10_look 45 = .ok (.bastore, 1) := by decide +kernel
theorem dX10_look_46 : decode cX10_look 46 = .ok (.aload_n 0, 1) := by decide +kernel
theorem dX10_look_47 : decode cX10_look 47 = .ok (.dup, 1) := by decide +kernel
theorem dX10_look_48 : decode cX10_look 48 = .ok (.getfield 130, 3) := by decide +kernel
theorem dX10_look_51 : decode cX10_look 51 = .ok (.iconst 1, 1) := by decide +kernel
theorem dX10_look_52 : decode cX10_look 52 = .ok (.iadd, 1) := by decide +kernel
theorem dX10_look_53 : decode cX10_look 53 = .ok (.putfield 130, 3) := by decide +kernel
theorem dX10_look_56 : decode cX10_look 56 = .ok (.iconst 1, 1) := by decide +kernel
theorem dX10_look_57 : decode cX10_look 57 = .ok (.ireturn, 1) := by decide +kernel
theorem dX10_isSeen_0 : decode cX10_isSeen 0 = .ok (.bipush 7, 2) := by decide +kernel
theorem dX10_isSeen_2 : decode cX10_isSeen 2 = .ok (.iload_n 2, 1) := by decide +kernel
theorem dX10_isSeen_3 : decode cX10_isSeen 3 = .ok (.imul, 1) := by decide +kernel
theorem dX10_isSeen_4 : decode cX10_isSeen 4 = .ok (.istore 4, 2) := by decide +kernel
theorem dX10_isSeen_6 : decode cX10_isSeen 6 = .ok (.iload 4, 2) := by decide +kernel
theorem dX10_isSeen_8 : decode cX10_isSeen 8 = .ok (.iload_n 3, 1) := by decide +kernel
theorem dX10_isSeen_9 : decode cX10_isSeen 9 = .ok (.bipush 7, 2) := by decide +kernel
theorem dX10_isSeen_11 : decode cX10_isSeen 11 = .ok (.iload_n 2, 1) := by decide +kernel
theorem dX10_isSeen_12 : decode cX10_isSeen 12 = .ok (.imul, 1) := by decide +kernel
theorem dX10_isSeen_13 : decode cX10_isSeen 13 = .ok (.bipush 6, 2) := by decide +kernel
theorem dX10_isSeen_15 : decode cX10_isSeen 15 = .ok (.iadd, 1) := by decide +kernel
theorem dX10_isSeen_16 : decode cX10_isSeen 16 = .ok (.invokestatic 133, 3) := by decide +kernel
theorem dX10_isSeen_19 : decode cX10_isSeen 19 = .ok (.if_icmp .gt 27, 3) := by decide +kernel
theorem dX10_isSeen_22 : decode cX10_isSeen 22 = .ok (.aload_n 0, 1) := by decide +kernel
theorem dX10_isSeen_23 : decode cX10_isSeen 23 = .ok (.getfield 62, 3) := by decide +kernel
theorem dX10_isSeen_26 : decode cX10_isSeen 26 = .ok (.sipush 2001, 3) := by decide +kernel
theorem dX10_isSeen_29 : decode cX10_isSeen 29 = .ok (.iload_n 1, 1) := by decide +kernel
theorem dX10_isSeen_30 : decode cX10_isSeen 30 = .ok (.imul, 1) := by decide +kernel
theorem dX10_isSeen_31 : decode cX10_isSeen 31 = .ok (.iload 4, 2) := by decide +kernel
theorem dX10_isSeen_33 : decode cX10_isSeen 33 = .ok (.iadd, 1) := by decide +kernel
theorem dX10_isSeen_34 : decode cX10_isSeen 34 = .ok (.baload, 1) := by decide +kernel
theorem dX10_isSeen_35 : decode cX10_isSeen 35 = .ok (.ifCond .eq 5, 3) := by decide +kernel
theorem dX10_isSeen_38 : decode cX10_isSeen 38 = .ok (.iconst 1, 1) := by decide +kernel
theorem dX10_isSeen_39 : decode cX10_isSeen 39 = .ok (.ireturn, 1) := by decide +kernel
theorem dX10_isSeen_40 : decode cX10_isSeen 40 = .ok (.iinc 4 1, 3) := by decide +kernel
theorem dX10_isSeen_43 : decode cX10_isSeen 43 = .ok (.goto (-37), 3) := by decide +kernel
theorem dX10_isSeen_46 : decode cX10_isSeen 46 = .ok (.iconst 0, 1) := by decide +kernel
theorem dX10_isSeen_47 : decode cX10_isSeen 47 = .ok (.ireturn, 1) := by decide +kernel
theorem dX10_daysWith_0 : decode cX10_daysWith 0 = .ok (.iconst 0, 1) := by decide +kernel
theorem dX10_daysWith_1 : decode cX10_daysWith 1 = .ok (.istore 6, 2) := by decide +kernel
theorem dX10_daysWith_3 : decode cX10_daysWith 3 = .ok (.iload_n 2, 1) := by decide +kernel
theorem dX10_daysWith_4 : decode cX10_daysWith 4 = .ok (.istore 7, 2) := by decide +kernel
theorem dX10_daysWith_6 : decode cX10_daysWith 6 = .ok (.iload 7, 2) := by decide +kernel
theorem dX10_daysWith_8 : decode cX10_daysWith 8 = .ok (.iload_n 3, 1) := by decide +kernel
theorem dX10_daysWith_9 : decode cX10_daysWith 9 = .ok (.if_icmp .gt 112, 3) := by decide +kernel
theorem dX10_daysWith_12 : decode cX10_daysWith 12 = .ok (.bipush 7, 2) := by decide +kernel
theorem dX10_daysWith_14 : decode cX10_daysWith 14 = .ok (.iload 7, 2) := by decide +kernel
theorem dX10_daysWith_16 : decode cX10_daysWith 16 = .ok (.imul, 1) := by decide +kernel
theorem dX10_daysWith_17 : decode cX10_daysWith 17 = .ok (.iload 4, 2) := by decide +kernel
theorem dX10_daysWith_19 : decode cX10_daysWith 19 = .ok (.if_icmp .gt 102, 3) := by decide +kernel
theorem dX10_daysWith_22 : decode cX10_daysWith 22 = .ok (.aload_n 0, 1) := by decide +kernel
theorem dX10_daysWith_23 : decode cX10_daysWith 23 = .ok (.iload_n 1, 1) := by decide +kernel
theorem dX10_daysWith_24 : decode cX10_daysWith 24 = .ok (.iload 7, 2) := by decide +kernel
theorem dX10_daysWith_26 : decode cX10_daysWith 26 = .ok (.iload 4, 2) := by decide +kernel
theorem dX10_daysWith_28 : decode cX10_daysWith 28 = .ok (.invokevirtual 139, 3) := by decide +kernel
theorem dX10_daysWith_31 : decode cX10_daysWith 31 = .ok (.iload 5, 2) := by decide +kernel
theorem dX10_daysWith_33 : decode cX10_daysWith 33 = .ok (.if_icmp .eq 6, 3) := by decide +kernel
theorem dX10_daysWith_36 : decode cX10_daysWith 36 = .ok (.goto 79, 3) := by decide +kernel
theorem dX10_daysWith_39 : decode cX10_daysWith 39 = .ok (.iconst 0, 1) := by decide +kernel
theorem dX10_daysWith_40 : decode cX10_daysWith 40 = .ok (.istore 8, 2) := by decide +kernel
theorem dX10_daysWith_42 : decode cX10_daysWith 42 = .ok (.bipush 7, 2) := by decide +kernel
theorem dX10_daysWith_44 : decode cX10_daysWith 44 = .ok (.iload 7, 2) := by decide +kernel
theorem dX10_daysWith_46 : decode cX10_daysWith 46 = .ok (.imul, 1) := by decide +kernel
theorem dX10_daysWith_47 : decode cX10_daysWith 47 = .ok (.istore 9, 2) := by decide +kernel
theorem dX10_daysWith_49 : decode cX10_daysWith 49 = .ok (.iload 9, 2) := by decide +kernel
theorem dX10_daysWith_51 : decode cX10_daysWith 51 = .ok (.iload 4, 2) := by decide +kernel
theorem dX10_daysWith_53 : decode cX10_daysWith 53 = .ok (.bipush 7, 2) := by decide +kernel
theorem dX10_daysWith_55 : decode cX10_daysWith 55 = .ok (.iload 7, 2) := by decide +kernel
theorem dX10_daysWith_57 : decode cX10_daysWith 57 = .ok (.imul, 1) := by decide +kernel
theorem dX10_daysWith_58 : decode cX10_daysWith 58 = .ok (.bipush 6, 2) := by decide +kernel
theorem dX10_daysWith_60 : decode cX10_daysWith 60 = .ok (.iadd, 1) := by decide +kernel
theorem dX10_daysWith_61 : decode cX10_daysWith 61 = .ok (.invokestatic 133, 3) := by decide +kernel
theorem dX10_daysWith_64 : decode cX10_daysWith 64 = .ok (.if_icmp .gt 51, 3) := by decide +kernel
theorem dX10_daysWith_67 : decode cX10_daysWith 67 = .ok (.iload 9, 2) := by decide +kernel
theorem dX10_daysWith_69 : decode cX10_daysWith 69 = .ok (.bipush 7, 2) := by decide +kernel
theorem dX10_daysWith_71 : decode cX10_daysWith 71 = .ok (.iload 7, 2) := by decide +kernel
theorem dX10_daysWith_73 : decode cX10_daysWith 73 = .ok (.imul, 1) := by decide +kernel
theorem dX10_daysWith_74 : decode cX10_daysWith 74 = .ok (.if_icmp .eq 12, 3) := by decide +kernel
theorem dX10_daysWith_77 : decode cX10_daysWith 77 = .ok (.aload_n 0, 1) := by decide +kernel
theorem dX10_daysWith_78 : decode cX10_daysWith 78 = .ok (.iload 9, 2) := by decide +kernel
theorem dX10_daysWith_80 : decode cX10_daysWith 80 = .ok (.invokevirtual 114, 3) := by decide +kernel
theorem dX10_daysWith_83 : decode cX10_daysWith 83 = .ok (.ifCond .eq 15, 3) := by decide +kernel
theorem dX10_daysWith_86 : decode cX10_daysWith 86 = .ok (.aload_n 0, 1) := by decide +kernel
theorem dX10_daysWith_87 : decode cX10_daysWith 87 = .ok (.iload_n 1, 1) := by decide +kernel
theorem dX10_daysWith_88 : decode cX10_daysWith 88 = .ok (.iload 9, 2) := by decide +kernel
theorem dX10_daysWith_90 : decode cX10_daysWith 90 = .ok (.iload 4, 2) := by decide +kernel
theorem dX10_daysWith_92 : decode cX10_daysWith 92 = .ok (.invokevirtual 118, 3) := by decide +kernel
theorem dX10_daysWith_95 : decode cX10_daysWith 95 = .ok (.goto 5, 3) := by decide +kernel
theorem dX10_daysWith_98 : decode cX10_daysWith 98 = .ok (.iload 8, 2) := by decide +kernel
theorem dX10_daysWith_100 : decode cX10_daysWith 100 = .ok (.istore 8, 2) := by decide +kernel
theorem dX10_daysWith_102 : decode cX10_daysWith 102 = .ok (.iload 6, 2) := by decide +kernel
theorem dX10_daysWith_104 : decode cX10_daysWith 104 = .ok (.iload 8, 2) := by decide +kernel
theorem dX10_daysWith_106 : decode cX10_daysWith 106 = .ok (.iadd, 1) := by decide +kernel
theorem dX10_daysWith_107 : decode cX10_daysWith 107 = .ok (.istore 6, 2) := by decide +kernel
theorem dX10_daysWith_109 : decode cX10_daysWith 109 = .ok (.iinc 9 1, 3) := by decide +kernel
theorem dX10_daysWith_112 : decode cX10_daysWith 112 = .ok (.goto (-63), 3) := by decide +kernel
theorem dX10_daysWith_115 : decode cX10_daysWith 115 = .ok (.iinc 7 1, 3) := by decide +kernel
theorem dX10_daysWith_118 : decode cX10_daysWith 118 = .ok (.goto (-112), 3) := by decide +kernel
theorem dX10_daysWith_121 : decode cX10_daysWith 121 = .ok (.iload 6, 2) := by decide +kernel
theorem dX10_daysWith_123 : decode cX10_daysWith 123 = .ok (.ireturn, 1) := by decide +kernel
theorem dX10_areWeeks_0 : decode cX10_areWeeks 0 = .ok (.iload_n 1, 1) := by decide +kernel
theorem dX10_areWeeks_1 : decode cX10_areWeeks 1 = .ok (.iconst 1, 1) := by decide +kernel
theorem dX10_areWeeks_2 : decode cX10_areWeeks 2 = .ok (.bipush 12, 2) := by decide +kernel
theorem dX10_areWeeks_4 : decode cX10_areWeeks 4 = .ok (.invokestatic 77, 3) := by decide +kernel
theorem dX10_areWeeks_7 : decode cX10_areWeeks 7 = .ok (.ifCond .eq 42, 3) := by decide +kernel
theorem dX10_areWeeks_10 : decode cX10_areWeeks 10 = .ok (.iload_n 2, 1) := by decide +kernel
theorem dX10_areWeeks_11 : decode cX10_areWeeks 11 = .ok (.iconst 0, 1) := by decide +kernel
theorem dX10_areWeeks_12 : decode cX10_areWeeks 12 = .ok (.sipush 300, 3) := by decide +kernel
theorem dX10_areWeeks_15 : decode cX10_areWeeks 15 = .ok (.invokestatic 77, 3) := by decide +kernel
theorem dX10_areWeeks_18 : decode cX10_areWeeks 18 = .ok (.ifCond .eq 31, 3) := by decide +kernel
theorem dX10_areWeeks_21 : decode cX10_areWeeks 21 = .ok (.iload_n 3, 1) := by decide +kernel
theorem dX10_areWeeks_22 : decode cX10_areWeeks 22 = .ok (.iload_n 2, 1) := by decide +kernel
theorem dX10_areWeeks_23 : decode cX10_areWeeks 23 = .ok (.sipush 300, 3) := by decide +kernel
theorem dX10_areWeeks_26 : decode cX10_areWeeks 26 = .ok (.invokestatic 77, 3) := by decide +kernel
theorem dX10_areWeeks_29 : decode cX10_areWeeks 29 = .ok (.ifCond .eq 20, 3) := by decide +kernel
theorem dX10_areWeeks_32 : decode cX10_areWeeks 32 = .ok (.iload 4, 2) := by decide +kernel
theorem dX10_areWeeks_34 : decode cX10_areWeeks 34 = .ok (.iconst 0, 1) := by decide +kernel
theorem dX10_areWeeks_35 : decode cX10_areWeeks 35 = .ok (.aload_n 0, 1) := by decide +kernel
theorem dX10_areWeeks_36 : decode cX10_areWeeks 36 = .ok (.getfield 81, 3) := by decide +kernel
theorem dX10_areWeeks_39 : decode cX10_areWeeks 39 = .ok (.invokestatic 77, 3) := by decide +kernel
theorem dX10_areWeeks_42 : decode cX10_areWeeks 42 = .ok (.ifCond .eq 7, 3) := by decide +kernel
theorem dX10_areWeeks_45 : decode cX10_areWeeks 45 = .ok (.iconst 1, 1) := by decide +kernel
theorem dX10_areWeeks_46 : decode cX10_areWeeks 46 = .ok (.goto 4, 3) := by decide +kernel
theorem dX10_areWeeks_49 : decode cX10_areWeeks 49 = .ok (.iconst 0, 1) := by decide +kernel
theorem dX10_areWeeks_50 : decode cX10_areWeeks 50 = .ok (.ireturn, 1) := by decide +kernel
theorem dX10_pay_0 : decode cX10_pay 0 = .ok (.aload_n 0, 1) := by decide +kernel
theorem dX10_pay_1 : decode cX10_pay 1 = .ok (.iload_n 1, 1) := by decide +kernel
theorem dX10_pay_2 : decode cX10_pay 2 = .ok (.iload_n 2, 1) := by decide +kernel
theorem dX10_pay_3 : decode cX10_pay 3 = .ok (.iload_n 3, 1) := by decide +kernel
theorem dX10_pay_4 : decode cX10_pay 4 = .ok (.iload 4, 2) := by decide +kernel
theorem dX10_pay_6 : decode cX10_pay 6 = .ok (.invokevirtual 142, 3) := by decide +kernel
theorem dX10_pay_9 : decode cX10_pay 9 = .ok (.ifCond .eq 18, 3) := by decide +kernel
theorem dX10_pay_12 : decode cX10_pay 12 = .ok (.iconst 2, 1) := by decide +kernel
theorem dX10_pay_13 : decode cX10_pay 13 = .ok (.aload_n 0, 1) := by decide +kernel
theorem dX10_pay_14 : decode cX10_pay 14 = .ok (.iload_n 1, 1) := by decide +kernel
theorem dX10_pay_15 : decode cX10_pay 15 = .ok (.iload_n 2, 1) := by decide +kernel
theorem dX10_pay_16 : decode cX10_pay 16 = .ok (.iload_n 3, 1) := by decide +kernel
theorem dX10_pay_17 : decode cX10_pay 17 = .ok (.iload 4, 2) := by decide +kernel
theorem dX10_pay_19 : decode cX10_pay 19 = .ok (.iconst 1, 1) := by decide +kernel
theorem dX10_pay_20 : decode cX10_pay 20 = .ok (.invokevirtual 146, 3) := by decide +kernel
theorem dX10_pay_23 : decode cX10_pay 23 = .ok (.imul, 1) := by decide +kernel
theorem dX10_pay_24 : decode cX10_pay 24 = .ok (.goto 4, 3) := by decide +kernel
theorem dX10_pay_27 : decode cX10_pay 27 = .ok (.iconst (-1), 1) := by decide +kernel
theorem dX10_pay_28 : decode cX10_pay 28 = .ok (.ireturn, 1) := by decide +kernel
theorem dX10_gap_0 : decode cX10_gap 0 = .ok (.aload_n 0, 1) := by decide +kernel
theorem dX10_gap_1 : decode cX10_gap 1 = .ok (.iload_n 1, 1) := by decide +kernel
theorem dX10_gap_2 : decode cX10_gap 2 = .ok (.iload_n 2, 1) := by decide +kernel
theorem dX10_gap_3 : decode cX10_gap 3 = .ok (.iload_n 3, 1) := by decide +kernel
theorem dX10_gap_4 : decode cX10_gap 4 = .ok (.iload 4, 2) := by decide +kernel
theorem dX10_gap_6 : decode cX10_gap 6 = .ok (.invokevirtual 142, 3) := by decide +kernel
theorem dX10_gap_9 : decode cX10_gap 9 = .ok (.ifCond .eq 16, 3) := by decide +kernel
theorem dX10_gap_12 : decode cX10_gap 12 = .ok (.aload_n 0, 1) := by decide +kernel
theorem dX10_gap_13 : decode cX10_gap 13 = .ok (.iload_n 1, 1) := by decide +kernel
theorem dX10_gap_14 : decode cX10_gap 14 = .ok (.iload_n 2, 1) := by decide +kernel
theorem dX10_gap_15 : decode cX10_gap 15 = .ok (.iload_n 3, 1) := by decide +kernel
theorem dX10_gap_16 : decode cX10_gap 16 = .ok (.iload 4, 2) := by decide +kernel
theorem dX10_gap_18 : decode cX10_gap 18 = .ok (.iconst 0, 1) := by decide +kernel
theorem dX10_gap_19 : decode cX10_gap 19 = .ok (.invokevirtual 146, 3) := by decide +kernel
theorem dX10_gap_22 : decode cX10_gap 22 = .ok (.goto 4, 3) := by decide +kernel
theorem dX10_gap_25 : decode cX10_gap 25 = .ok (.iconst (-1), 1) := by decide +kernel
theorem dX10_gap_26 : decode cX10_gap 26 = .ok (.ireturn, 1) := by decide +kernel
theorem dX10_third_0 : decode cX10_third 0 = .ok (.iload_n 0, 1) := by decide +kernel
theorem dX10_third_1 : decode cX10_third 1 = .ok (.iconst 3, 1) := by decide +kernel
theorem dX10_third_2 : decode cX10_third 2 = .ok (.iload_n 1, 1) := by decide +kernel
theorem dX10_third_3 : decode cX10_third 3 = .ok (.imul, 1) := by decide +kernel
theorem dX10_third_4 : decode cX10_third 4 = .ok (.ishr, 1) := by decide +kernel
theorem dX10_third_5 : decode cX10_third 5 = .ok (.bipush 7, 2) := by decide +kernel
theorem dX10_third_7 : decode cX10_third 7 = .ok (.iand, 1) := by decide +kernel
theorem dX10_third_8 : decode cX10_third 8 = .ok (.ireturn, 1) := by decide +kernel
theorem dX10_offBy_0 : decode cX10_offBy 0 = .ok (.iconst 0, 1) := by decide +kernel
theorem dX10_offBy_1 : decode cX10_offBy 1 = .ok (.istore 5, 2) := by decide +kernel
theorem dX10_offBy_3 : decode cX10_offBy 3 = .ok (.iconst 0, 1) := by decide +kernel
theorem dX10_offBy_4 : decode cX10_offBy 4 = .ok (.istore 6, 2) := by decide +kernel
theorem dX10_offBy_6 : decode cX10_offBy 6 = .ok (.iload 6, 2) := by decide +kernel
theorem dX10_offBy_8 : decode cX10_offBy 8 = .ok (.bipush 8, 2) := by decide +kernel
theorem dX10_offBy_10 : decode cX10_offBy 10 = .ok (.if_icmp .ge 91, 3) := by decide +kernel
theorem dX10_offBy_13 : decode cX10_offBy 13 = .ok (.iload 4, 2) := by decide +kernel
theorem dX10_offBy_15 : decode cX10_offBy 15 = .ok (.ifCond .eq 11, 3) := by decide +kernel
theorem dX10_offBy_18 : decode cX10_offBy 18 = .ok (.bipush 7, 2) := by decide +kernel
theorem dX10_offBy_20 : decode cX10_offBy 20 = .ok (.iload 6, 2) := by decide +kernel
theorem dX10_offBy_22 : decode cX10_offBy 22 = .ok (.isub, 1) := by decide +kernel
theorem dX10_offBy_23 : decode cX10_offBy 23 = .ok (.goto 5, 3) := by decide +kernel
theorem dX10_offBy_26 : decode cX10_offBy 26 = .ok (.iload 6, 2) := by decide +kernel
theorem dX10_offBy_28 : decode cX10_offBy 28 = .ok (.istore 7, 2) := by decide +kernel
theorem dX10_offBy_30 : decode cX10_offBy 30 = .ok (.aload_n 0, 1) := by decide +kernel
theorem dX10_offBy_31 : decode cX10_offBy 31 = .ok (.getfield 28, 3) := by decide +kernel
theorem dX10_offBy_34 : decode cX10_offBy 34 = .ok (.iload_n 1, 1) := by decide +kernel
theorem dX10_offBy_35 : decode cX10_offBy 35 = .ok (.iaload, 1) := by decide +kernel
theorem dX10_offBy_36 : decode cX10_offBy 36 = .ok (.iload 6, 2) := by decide +kernel
theorem dX10_offBy_38 : decode cX10_offBy 38 = .ok (.invokestatic 150, 3) := by decide +kernel
theorem dX10_offBy_41 : decode cX10_offBy 41 = .ok (.iload_n 2, 1) := by decide +kernel
theorem dX10_offBy_42 : decode cX10_offBy 42 = .ok (.iload 7, 2) := by decide +kernel
theorem dX10_offBy_44 : decode cX10_offBy 44 = .ok (.invokestatic 150, 3) := by decide +kernel
theorem dX10_offBy_47 : decode cX10_offBy 47 = .ok (.iadd, 1) := by decide +kernel
theorem dX10_offBy_48 : decode cX10_offBy 48 = .ok (.bipush 7, 2) := by decide +kernel
theorem dX10_offBy_50 : decode cX10_offBy 50 = .ok (.if_icmp .ne 27, 3) := by decide +kernel
theorem dX10_offBy_53 : decode cX10_offBy 53 = .ok (.aload_n 0, 1) := by decide +kernel
theorem dX10_offBy_54 : decode cX10_offBy 54 = .ok (.getfield 31, 3) := by decide +kernel
theorem dX10_offBy_57 : decode cX10_offBy 57 = .ok (.iload_n 1, 1) := by decide +kernel
theorem dX10_offBy_58 : decode cX10_offBy 58 = .ok (.iaload, 1) := by decide +kernel
theorem dX10_offBy_59 : decode cX10_offBy 59 = .ok (.iload 6, 2) := by decide +kernel
theorem dX10_offBy_61 : decode cX10_offBy 61 = .ok (.invokestatic 150, 3) := by decide +kernel
theorem dX10_offBy_64 : decode cX10_offBy 64 = .ok (.iload_n 3, 1) := by decide +kernel
theorem dX10_offBy_65 : decode cX10_offBy 65 = .ok (.iload 7, 2) := by decide +kernel
theorem dX10_offBy_67 : decode cX10_offBy 67 = .ok (.invokestatic 150, 3) := by decide +kernel
theorem dX10_offBy_70 : decode cX10_offBy 70 = .ok (.if_icmp .ne 7, 3) := by decide +kernel
theorem dX10_offBy_73 : decode cX10_offBy 73 = .ok (.iconst 1, 1) := by decide +kernel
theorem dX10_offBy_74 : decode cX10_offBy 74 = .ok (.goto 4, 3) := by decide +kernel
theorem dX10_offBy_77 : decode cX10_offBy 77 = .ok (.iconst 0, 1) := by decide +kernel
theorem dX10_offBy_78 : decode cX10_offBy 78 = .ok (.istore 8, 2) := by decide +kernel
theorem dX10_offBy_80 : decode cX10_offBy 80 = .ok (.iload 5, 2) := by decide +kernel
theorem dX10_offBy_82 : decode cX10_offBy 82 = .ok (.iload 8, 2) := by decide +kernel
theorem dX10_offBy_84 : decode cX10_offBy 84 = .ok (.ifCond .eq 7, 3) := by decide +kernel
theorem dX10_offBy_87 : decode cX10_offBy 87 = .ok (.iconst 0, 1) := by decide +kernel
theorem dX10_offBy_88 : decode cX10_offBy 88 = .ok (.goto 4, 3) := by decide +kernel
theorem dX10_offBy_91 : decode cX10_offBy 91 = .ok (.iconst 1, 1) := by decide +kernel
theorem dX10_offBy_92 : decode cX10_offBy 92 = .ok (.iadd, 1) := by decide +kernel
theorem dX10_offBy_93 : decode cX10_offBy 93 = .ok (.istore 5, 2) := by decide +kernel
theorem dX10_offBy_95 : decode cX10_offBy 95 = .ok (.iinc 6 1, 3) := by decide +kernel
theorem dX10_offBy_98 : decode cX10_offBy 98 = .ok (.goto (-92), 3) := by decide +kernel
theorem dX10_offBy_101 : decode cX10_offBy 101 = .ok (.iload 5, 2) := by decide +kernel
theorem dX10_offBy_103 : decode cX10_offBy 103 = .ok (.ireturn, 1) := by decide +kernel
theorem dX10_offOf_0 : decode cX10_offOf 0 = .ok (.aload_n 0, 1) := by decide +kernel
theorem dX10_offOf_1 : decode cX10_offOf 1 = .ok (.iload_n 1, 1) := by decide +kernel
theorem dX10_offOf_2 : decode cX10_offOf 2 = .ok (.iload_n 2, 1) := by decide +kernel
theorem dX10_offOf_3 : decode cX10_offOf 3 = .ok (.iload_n 3, 1) := by decide +kernel
theorem dX10_offOf_4 : decode cX10_offOf 4 = .ok (.iconst 0, 1) := by decide +kernel
theorem dX10_offOf_5 : decode cX10_offOf 5 = .ok (.invokevirtual 153, 3) := by decide +kernel
theorem dX10_offOf_8 : decode cX10_offOf 8 = .ok (.aload_n 0, 1) := by decide +kernel
theorem dX10_offOf_9 : decode cX10_offOf 9 = .ok (.iload_n 1, 1) := by decide +kernel
theorem dX10_offOf_10 : decode cX10_offOf 10 = .ok (.iload_n 2, 1) := by decide +kernel
theorem dX10_offOf_11 : decode cX10_offOf 11 = .ok (.iload_n 3, 1) := by decide +kernel
theorem dX10_offOf_12 : decode cX10_offOf 12 = .ok (.iconst 1, 1) := by decide +kernel
theorem dX10_offOf_13 : decode cX10_offOf 13 = .ok (.invokevirtual 153, 3) := by decide +kernel
theorem dX10_offOf_16 : decode cX10_offOf 16 = .ok (.invokestatic 133, 3) := by decide +kernel
theorem dX10_offOf_19 : decode cX10_offOf 19 = .ok (.ireturn, 1) := by decide +kernel
theorem dX10_off_0 : decode cX10_off 0 = .ok (.aload_n 0, 1) := by decide +kernel
theorem dX10_off_1 : decode cX10_off 1 = .ok (.iload_n 1, 1) := by decide +kernel
theorem dX10_off_2 : decode cX10_off 2 = .ok (.invokevirtual 124, 3) := by decide +kernel
theorem dX10_off_5 : decode cX10_off 5 = .ok (.ifCond .eq 33, 3) := by decide +kernel
theorem dX10_off_8 : decode cX10_off 8 = .ok (.iload_n 2, 1) := by decide +kernel
theorem dX10_off_9 : decode cX10_off 9 = .ok (.iconst 0, 1) := by decide +kernel
theorem dX10_off_10 : decode cX10_off 10 = .ok (.ldc 100, 2) := by decide +kernel
theorem dX10_off_12 : decode cX10_off 12 = .ok (.invokestatic 77, 3) := by decide +kernel
theorem dX10_off_15 : decode cX10_off 15 = .ok (.ifCond .eq 23, 3) := by decide +kernel
theorem dX10_off_18 : decode cX10_off 18 = .ok (.iload_n 3, 1) := by decide +kernel
theorem dX10_off_19 : decode cX10_off 19 = .ok (.iconst 0, 1) := by decide +kernel
theorem dX10_off_20 : decode cX10_off 20 = .ok (.ldc 100, 2) := by decide +kernel
theorem dX10_off_22 : decode cX10_off 22 = .ok (.invokestatic 77, 3) := by decide +kernel
theorem dX10_off_25 : decode cX10_off 25 = .ok (.ifCond .eq 13, 3) := by decide +kernel
theorem dX10_off_28 : decode cX10_off 28 = .ok (.aload_n 0, 1) := by decide +kernel
theorem dX10_off_29 : decode cX10_off 29 = .ok (.iload_n 1, 1) := by decide +kernel
theorem dX10_off_30 : decode cX10_off 30 = .ok (.iload_n 2, 1) := by decide +kernel
theorem dX10_off_31 : decode cX10_off 31 = .ok (.iload_n 3, 1) := by decide +kernel
theorem dX10_off_32 : decode cX10_off 32 = .ok (.invokevirtual 157, 3) := by decide +kernel
theorem dX10_off_35 : decode cX10_off 35 = .ok (.goto 4, 3) := by decide +kernel
theorem dX10_off_38 : decode cX10_off 38 = .ok (.iconst (-1), 1) := by decide +kernel
theorem dX10_off_39 : decode cX10_off 39 = .ok (.ireturn, 1) := by decide +kernel
theorem dX10_feed_0 : decode cX10_feed 0 = .ok (.iconst 0, 1) := by decide +kernel
theorem dX10_feed_1 : decode cX10_feed 1 = .ok (.istore_n 2, 1) := by decide +kernel
theorem dX10_feed_2 : decode cX10_feed 2 = .ok (.iconst 0, 1) := by decide +kernel
theorem dX10_feed_3 : decode cX10_feed 3 = .ok (.istore_n 3, 1) := by decide +kernel
theorem dX10_feed_4 : decode cX10_feed 4 = .ok (.iload_n 3, 1) := by decide +kernel
theorem dX10_feed_5 : decode cX10_feed 5 = .ok (.iconst 4, 1) := by decide +kernel
theorem dX10_feed_6 : decode cX10_feed 6 = .ok (.if_icmp .ge 30, 3) := by decide +kernel
theorem dX10_feed_9 : decode cX10_feed 9 = .ok (.iload_n 2, 1) := by decide +kernel
theorem dX10_feed_10 : decode cX10_feed 10 = .ok (.iload_n 1, 1) := by decide +kernel
theorem dX10_feed_11 : decode cX10_feed 11 = .ok (.bipush 8, 2) := by decide +kernel
theorem dX10_feed_13 : decode cX10_feed 13 = .ok (.iload_n 3, 1) := by decide +kernel
theorem dX10_feed_14 : decode cX10_feed 14 = .ok (.imul, 1) := by decide +kernel
theorem dX10_feed_15 : decode cX10_feed 15 = .ok (.ishr, 1) := by decide +kernel
theorem dX10_feed_16 : decode cX10_feed 16 = .ok (.sipush 255, 3) := by decide +kernel
theorem dX10_feed_19 : decode cX10_feed 19 = .ok (.iand, 1) := by decide +kernel
theorem dX10_feed_20 : decode cX10_feed 20 = .ok (.ifCond .eq 7, 3) := by decide +kernel
theorem dX10_feed_23 : decode cX10_feed 23 = .ok (.iconst 1, 1) := by decide +kernel
theorem dX10_feed_24 : decode cX10_feed 24 = .ok (.goto 4, 3) := by decide +kernel
theorem dX10_feed_27 : decode cX10_feed 27 = .ok (.iconst 0, 1) := by decide +kernel
theorem dX10_feed_28 : decode cX10_feed 28 = .ok (.iadd, 1) := by decide +kernel
theorem dX10_feed_29 : decode cX10_feed 29 = .ok (.istore_n 2, 1) := by decide +kernel
theorem dX10_feed_30 : decode cX10_feed 30 = .ok (.iinc 3 1, 3) := by decide +kernel
theorem dX10_feed_33 : decode cX10_feed 33 = .ok (.goto (-29), 3) := by decide +kernel
theorem dX10_feed_36 : decode cX10_feed 36 = .ok (.aload_n 0, 1) := by decide +kernel
theorem dX10_feed_37 : decode cX10_feed 37 = .ok (.getfield 160, 3) := by decide +kernel
theorem dX10_feed_40 : decode cX10_feed 40 = .ok (.iload_n 2, 1) := by decide +kernel
theorem dX10_feed_41 : decode cX10_feed 41 = .ok (.iadd, 1) := by decide +kernel
theorem dX10_feed_42 : decode cX10_feed 42 = .ok (.bipush 100, 2) := by decide +kernel
theorem dX10_feed_44 : decode cX10_feed 44 = .ok (.if_icmp .le 5, 3) := by decide +kernel
theorem dX10_feed_47 : decode cX10_feed 47 = .ok (.iconst (-1), 1) := by decide +kernel
theorem dX10_feed_48 : decode cX10_feed 48 = .ok (.ireturn, 1) := by decide +kernel
theorem dX10_feed_49 : decode cX10_feed 49 = .ok (.iconst 3, 1) := by decide +kernel
theorem dX10_feed_50 : decode cX10_feed 50 = .ok (.istore_n 3, 1) := by decide +kernel
theorem dX10_feed_51 : decode cX10_feed 51 = .ok (.iload_n 3, 1) := by decide +kernel
theorem dX10_feed_52 : decode cX10_feed 52 = .ok (.ifCond .lt 47, 3) := by decide +kernel
theorem dX10_feed_55 : decode cX10_feed 55 = .ok (.iload_n 1, 1) := by decide +kernel
theorem dX10_feed_56 : decode cX10_feed 56 = .ok (.bipush 8, 2) := by decide +kernel
theorem dX10_feed_58 : decode cX10_feed 58 = .ok (.iload_n 3, 1) := by decide +kernel
theorem dX10_feed_59 : decode cX10_feed 59 = .ok (.imul, 1) := by decide +kernel
theorem dX10_feed_60 : decode cX10_feed 60 = .ok (.ishr, 1) := by decide +kernel
theorem dX10_feed_61 : decode cX10_feed 61 = .ok (.sipush 255, 3) := by decide +kernel
theorem dX10_feed_64 : decode cX10_feed 64 = .ok (.iand, 1) := by decide +kernel
theorem dX10_feed_65 : decode cX10_feed 65 = .ok (.istore 4, 2) := by decide +kernel
theorem dX10_feed_67 : decode cX10_feed 67 = .ok (.iload 4, 2) := by decide +kernel
theorem dX10_feed_69 : decode cX10_feed 69 = .ok (.ifCond .eq 24, 3) := by decide +kernel
theorem dX10_feed_72 : decode cX10_feed 72 = .ok (.aload_n 0, 1) := by decide +kernel
theorem dX10_feed_73 : decode cX10_feed 73 = .ok (.getfield 65, 3) := by decide +kernel
theorem dX10_feed_76 : decode cX10_feed 76 = .ok (.aload_n 0, 1) := by decide +kernel
theorem dX10_feed_77 : decode cX10_feed 77 = .ok (.getfield 160, 3) := by decide +kernel
theorem dX10_feed_80 : decode cX10_feed 80 = .ok (.iload 4, 2) := by decide +kernel
theorem dX10_feed_82 : decode cX10_feed 82 = .ok (.iastore, 1) := by decide +kernel
theorem dX10_feed_83 : decode cX10_feed 83 = .ok (.aload_n 0, 1) := by decide +kernel
theorem dX10_feed_84 : decode cX10_feed 84 = .ok (.dup, 1) := by decide +kernel
theorem dX10_feed_85 : decode cX10_feed 85 = .ok (.getfield 160, 3) := by decide +kernel
theorem dX10_feed_88 : decode cX10_feed 88 = .ok (.iconst 1, 1) := by decide +kernel
theorem dX10_feed_89 : decode cX10_feed 89 = .ok (.iadd, 1) := by decide +kernel
theorem dX10_feed_90 : decode cX10_feed 90 = .ok (.putfield 160, 3) := by decide +kernel
theorem dX10_feed_93 : decode cX10_feed 93 = .ok (.iinc 3 (-1), 3) := by decide +kernel
theorem dX10_feed_96 : decode cX10_feed 96 = .ok (.goto (-45), 3) := by decide +kernel
theorem dX10_feed_99 : decode cX10_feed 99 = .ok (.aload_n 0, 1) := by decide +kernel
theorem dX10_feed_100 : decode cX10_feed 100 = .ok (.getfield 160, 3) := by decide +kernel
theorem dX10_feed_103 : decode cX10_feed 103 = .ok (.ireturn, 1) := by decide +kernel
theorem dX10_end_0 : decode cX10_end 0 = .ok (.iload_n 1, 1) := by decide +kernel
theorem dX10_end_1 : decode cX10_end 1 = .ok (.ifCond .lt 11, 3) := by decide +kernel
theorem dX10_end_4 : decode cX10_end 4 = .ok (.iload_n 1, 1) := by decide +kernel
theorem dX10_end_5 : decode cX10_end 5 = .ok (.aload_n 0, 1) := by decide +kernel
theorem dX10_end_6 : decode cX10_end 6 = .ok (.getfield 160, 3) := by decide +kernel
theorem dX10_end_9 : decode cX10_end 9 = .ok (.if_icmp .le 5, 3) := by decide +kernel
theorem dX10_end_12 : decode cX10_end 12 = .ok (.iconst 0, 1) := by decide +kernel
theorem dX10_end_13 : decode cX10_end 13 = .ok (.ireturn, 1) := by decide +kernel
theorem dX10_end_14 : decode cX10_end 14 = .ok (.aload_n 0, 1) := by decide +kernel
theorem dX10_end_15 : decode cX10_end 15 = .ok (.iload_n 1, 1) := by decide +kernel
theorem dX10_end_16 : decode cX10_end 16 = .ok (.putfield 160, 3) := by decide +kernel
theorem dX10_end_19 : decode cX10_end 19 = .ok (.iconst 1, 1) := by decide +kernel
theorem dX10_end_20 : decode cX10_end 20 = .ok (.ireturn, 1) := by decide +kernel
theorem dX10_peek_0 : decode cX10_peek 0 = .ok (.aload_n 0, 1) := by decide +kernel
theorem dX10_peek_1 : decode cX10_peek 1 = .ok (.getfield 163, 3) := by decide +kernel
theorem dX10_peek_4 : decode cX10_peek 4 = .ok (.aload_n 0, 1) := by decide +kernel
theorem dX10_peek_5 : decode cX10_peek 5 = .ok (.getfield 160, 3) := by decide +kernel
theorem dX10_peek_8 : decode cX10_peek 8 = .ok (.if_icmp .ge 30, 3) := by decide +kernel
theorem dX10_peek_11 : decode cX10_peek 11 = .ok (.aload_n 0, 1) := by decide +kernel
theorem dX10_peek_12 : decode cX10_peek 12 = .ok (.getfield 65, 3) := by decide +kernel
theorem dX10_peek_15 : decode cX10_peek 15 = .ok (.aload_n 0, 1) := by decide +kernel
theorem dX10_peek_16 : decode cX10_peek 16 = .ok (.getfield 163, 3) := by decide +kernel
theorem dX10_peek_19 : decode cX10_peek 19 = .ok (.iaload, 1) := by decide +kernel
theorem dX10_peek_20 : decode cX10_peek 20 = .ok (.bipush 32, 2) := by decide +kernel
theorem dX10_peek_22 : decode cX10_peek 22 = .ok (.if_icmp .ne 16, 3) := by decide +kernel
theorem dX10_peek_25 : decode cX10_peek 25 = .ok (.aload_n 0, 1) := by decide +kernel
theorem dX10_peek_26 : decode cX10_peek 26 = .ok (.dup, 1) := by decide +kernel
theorem dX10_peek_27 : decode cX10_peek 27 = .ok (.getfield 163, 3) := by decide +kernel
theorem dX10_peek_30 : decode cX10_peek 30 = .ok (.iconst 1, 1) := by decide +kernel
theorem dX10_peek_31 : decode cX10_peek 31 = .ok (.iadd, 1) := by decide +kernel
theorem dX10_peek_32 : decode cX10_peek 32 = .ok (.putfield 163, 3) := by decide +kernel
theorem dX10_peek_35 : decode cX10_peek 35 = .ok (.goto (-35), 3) := by decide +kernel
theorem dX10_peek_38 : decode cX10_peek 38 = .ok (.aload_n 0, 1) := by decide +kernel
theorem dX10_peek_39 : decode cX10_peek 39 = .ok (.getfield 163, 3) := by decide +kernel
theorem dX10_peek_42 : decode cX10_peek 42 = .ok (.aload_n 0, 1) := by decide +kernel
theorem dX10_peek_43 : decode cX10_peek 43 = .ok (.getfield 160, 3) := by decide +kernel
theorem dX10_peek_46 : decode cX10_peek 46 = .ok (.if_icmp .ge 15, 3) := by decide +kernel
theorem dX10_peek_49 : decode cX10_peek 49 = .ok (.aload_n 0, 1) := by decide +kernel
theorem dX10_peek_50 : decode cX10_peek 50 = .ok (.getfield 65, 3) := by decide +kernel
theorem dX10_peek_53 : decode cX10_peek 53 = .ok (.aload_n 0, 1) := by decide +kernel
theorem dX10_peek_54 : decode cX10_peek 54 = .ok (.getfield 163, 3) := by decide +kernel
theorem dX10_peek_57 : decode cX10_peek 57 = .ok (.iaload, 1) := by decide +kernel
theorem dX10_peek_58 : decode cX10_peek 58 = .ok (.goto 4, 3) := by decide +kernel
theorem dX10_peek_61 : decode cX10_peek 61 = .ok (.iconst (-1), 1) := by decide +kernel
theorem dX10_peek_62 : decode cX10_peek 62 = .ok (.ireturn, 1) := by decide +kernel
theorem dX10_fail_0 : decode cX10_fail 0 = .ok (.aload_n 0, 1) := by decide +kernel
theorem dX10_fail_1 : decode cX10_fail 1 = .ok (.aload_n 0, 1) := by decide +kernel
theorem dX10_fail_2 : decode cX10_fail 2 = .ok (.getfield 166, 3) := by decide +kernel
theorem dX10_fail_5 : decode cX10_fail 5 = .ok (.iconst (-1), 1) := by decide +kernel
theorem dX10_fail_6 : decode cX10_fail 6 = .ok (.if_icmp .ne 10, 3) := by decide +kernel
theorem dX10_fail_9 : decode cX10_fail 9 = .ok (.aload_n 0, 1) := by decide +kernel
theorem dX10_fail_10 : decode cX10_fail 10 = .ok (.getfield 163, 3) := by decide +kernel
theorem dX10_fail_13 : decode cX10_fail 13 = .ok (.goto 7, 3) := by decide +kernel
theorem dX10_fail_16 : decode cX10_fail 16 = .ok (.aload_n 0, 1) := by decide +kernel
theorem dX10_fail_17 : decode cX10_fail 17 = .ok (.getfield 166, 3) := by decide +kernel
theorem dX10_fail_20 : decode cX10_fail 20 = .ok (.putfield 166, 3) := by decide +kernel
theorem dX10_fail_23 : decode cX10_fail 23 = .ok (.return_, 1) := by decide +kernel
theorem dX10_say_0 : decode cX10_say 0 = .ok (.aload_n 0, 1) := by decide +kernel
theorem dX10_say_1 : decode cX10_say 1 = .ok (.getfield 71, 3) := by decide +kernel
theorem dX10_say_4 : decode cX10_say 4 = .ok (.aload_n 0, 1) := by decide +kernel
theorem dX10_say_5 : decode cX10_say 5 = .ok (.getfield 169, 3) := by decide +kernel
theorem dX10_say_8 : decode cX10_say 8 = .ok (.iload_n 1, 1) := by decide +kernel
theorem dX10_say_9 : decode cX10_say 9 = .ok (.iastore, 1) := by decide +kernel
theorem dX10_say_10 : decode cX10_say 10 = .ok (.aload_n 0, 1) := by decide +kernel
theorem dX10_say_11 : decode cX10_say 11 = .ok (.dup, 1) := by decide +kernel
theorem dX10_say_12 : decode cX10_say 12 = .ok (.getfield 169, 3) := by decide +kernel
theorem dX10_say_15 : decode cX10_say 15 = .ok (.iconst 1, 1) := by decide +kernel
theorem dX10_say_16 : decode cX10_say 16 = .ok (.iadd, 1) := by decide +kernel
theorem dX10_say_17 : decode cX10_say 17 = .ok (.putfield 169, 3) := by decide +kernel
theorem dX10_say_20 : decode cX10_say 20 = .ok (.return_, 1) := by decide +kernel
theorem dX10_unit_0 : decode cX10_unit 0 = .ok (.aload_n 0, 1) := by decide +kernel
theorem dX10_unit_1 : decode cX10_unit 1 = .ok (.invokevirtual 172, 3) := by decide +kernel
theorem dX10_unit_4 : decode cX10_unit 4 = .ok (.istore_n 1, 1) := by decide +kernel
theorem dX10_unit_5 : decode cX10_unit 5 = .ok (.iload_n 1, 1) := by decide +kernel
theorem dX10_unit_6 : decode cX10_unit 6 = .ok (.bipush 40, 2) := by decide +kernel
theorem dX10_unit_8 : decode cX10_unit 8 = .ok (.if_icmp .ne 78, 3) := by decide +kernel
theorem dX10_unit_11 : decode cX10_unit 11 = .ok (.aload_n 0, 1) := by decide +kernel
theorem dX10_unit_12 : decode cX10_unit 12 = .ok (.getfield 176, 3) := by decide +kernel
theorem dX10_unit_15 : decode cX10_unit 15 = .ok (.bipush 8, 2) := by decide +kernel
theorem dX10_unit_17 : decode cX10_unit 17 = .ok (.if_icmp .ge 69, 3) := by decide +kernel
theorem dX10_unit_20 : decode cX10_unit 20 = .ok (.aload_n 0, 1) := by decide +kernel
theorem dX10_unit_21 : decode cX10_unit 21 = .ok (.dup, 1) := by decide +kernel
theorem dX10_unit_22 : decode cX10_unit 22 = .ok (.getfield 176, 3) := by decide +kernel
theorem dX10_unit_25 : decode cX10_unit 25 = .ok (.iconst 1, 1) := by decide +kernel
theorem dX10_unit_26 : decode cX10_unit 26 = .ok (.iadd, 1) := by decide +kernel
theorem dX10_unit_27 : decode cX10_unit 27 = .ok (.putfield 176, 3) := by decide +kernel
theorem dX10_unit_30 : decode cX10_unit 30 = .ok (.aload_n 0, 1) := by decide +kernel
theorem dX10_unit_31 : decode cX10_unit 31 = .ok (.dup, 1) := by decide +kernel
theorem dX10_unit_32 : decode cX10_unit 32 = .ok (.getfield 163, 3) := by decide +kernel
theorem dX10_unit_35 : decode cX10_unit 35 = .ok (.iconst 1, 1) := by decide +kernel
theorem dX10_unit_36 : decode cX10_unit 36 = .ok (.iadd, 1) := by decide +kernel
theorem dX10_unit_37 : decode cX10_unit 37 = .ok (.putfield 163, 3) := by decide +kernel
theorem dX10_unit_40 : decode cX10_unit 40 = .ok (.aload_n 0, 1) := by decide +kernel
theorem dX10_unit_41 : decode cX10_unit 41 = .ok (.invokevirtual 179, 3) := by decide +kernel
theorem dX10_unit_44 : decode cX10_unit 44 = .ok (.aload_n 0, 1) := by decide +kernel
theorem dX10_unit_45 : decode cX10_unit 45 = .ok (.getfield 166, 3) := by decide +kernel
theorem dX10_unit_48 : decode cX10_unit 48 = .ok (.iconst (-1), 1) := by decide +kernel
theorem dX10_unit_49 : decode cX10_unit 49 = .ok (.if_icmp .ne 16, 3) := by decide +kernel
theorem dX10_unit_52 : decode cX10_unit 52 = .ok (.aload_n 0, 1) := by decide +kernel
theorem dX10_unit_53 : decode cX10_unit 53 = .ok (.invokevirtual 172, 3) := by decide +kernel
theorem dX10_unit_56 : decode cX10_unit 56 = .ok (.bipush 41, 2) := by decide +kernel
theorem dX10_unit_58 : decode cX10_unit 58 = .ok (.if_icmp .eq 7, 3) := by decide +kernel
theorem dX10_unit_61 : decode cX10_unit 61 = .ok (.aload_n 0, 1) := by decide +kernel
theorem dX10_unit_62 : decode cX10_unit 62 = .ok (.invokevirtual 182, 3) := by decide +kernel
theorem dX10_unit_65 : decode cX10_unit 65 = .ok (.aload_n 0, 1) := by decide +kernel
theorem dX10_unit_66 : decode cX10_unit 66 = .ok (.dup, 1) := by decide +kernel
theorem dX10_unit_67 : decode cX10_unit 67 = .ok (.getfield 163, 3) := by decide +kernel
theorem dX10_unit_70 : decode cX10_unit 70 = .ok (.iconst 1, 1) := by decide +kernel
theorem dX10_unit_71 : decode cX10_unit 71 = .ok (.iadd, 1) := by decide +kernel
theorem dX10_unit_72 : decode cX10_unit 72 = .ok (.putfield 163, 3) := by decide +kernel
theorem dX10_unit_75 : decode cX10_unit 75 = .ok (.aload_n 0, 1) := by decide +kernel
theorem dX10_unit_76 : decode cX10_unit 76 = .ok (.dup, 1) := by decide +kernel
theorem dX10_unit_77 : decode cX10_unit 77 = .ok (.getfield 176, 3) := by decide +kernel
theorem dX10_unit_80 : decode cX10_unit 80 = .ok (.iconst 1, 1) := by decide +kernel
theorem dX10_unit_81 : decode cX10_unit 81 = .ok (.isub, 1) := by decide +kernel
theorem dX10_unit_82 : decode cX10_unit 82 = .ok (.putfield 176, 3) := by decide +kernel
theorem dX10_unit_85 : decode cX10_unit 85 = .ok (.return_, 1) := by decide +kernel
theorem dX10_unit_86 : decode cX10_unit 86 = .ok (.iload_n 1, 1) := by decide +kernel
theorem dX10_unit_87 : decode cX10_unit 87 = .ok (.bipush 111, 2) := by decide +kernel
theorem dX10_unit_89 : decode cX10_unit 89 = .ok (.if_icmp .eq 32, 3) := by decide +kernel
theorem dX10_unit_92 : decode cX10_unit 92 = .ok (.iload_n 1, 1) := by decide +kernel
theorem dX10_unit_93 : decode cX10_unit 93 = .ok (.bipush 102, 2) := by decide +kernel
theorem dX10_unit_95 : decode cX10_unit 95 = .ok (.if_icmp .eq 26, 3) := by decide +kernel
theorem dX10_unit_98 : decode cX10_unit 98 = .ok (.iload_n 1, 1) := by decide +kernel
theorem dX10_unit_99 : decode cX10_unit 99 = .ok (.bipush 119, 2) := by decide +kernel
theorem dX10_unit_101 : decode cX10_unit 101 = .ok (.if_icmp .eq 20, 3) := by decide +kernel
theorem dX10_unit_104 : decode cX10_unit 104 = .ok (.iload_n 1, 1) := by decide +kernel
theorem dX10_unit_105 : decode cX10_unit 105 = .ok (.bipush 99, 2) := by decide +kernel
theorem dX10_unit_107 : decode cX10_unit 107 = .ok (.if_icmp .eq 14, 3) := by decide +kernel
theorem dX10_unit_110 : decode cX10_unit 110 = .ok (.iload_n 1, 1) := by decide +kernel
theorem dX10_unit_111 : decode cX10_unit 111 = .ok (.bipush 100, 2) := by decide +kernel
theorem dX10_unit_113 : decode cX10_unit 113 = .ok (.if_icmp .eq 8, 3) := by decide +kernel
theorem dX10_unit_116 : decode cX10_unit 116 = .ok (.aload_n 0, 1) := by decide +kernel
theorem dX10_unit_117 : decode cX10_unit 117 = .ok (.invokevirtual 182, 3) := by decide +kernel
theorem dX10_unit_120 : decode cX10_unit 120 = .ok (.return_, 1) := by decide +kernel
theorem dX10_unit_121 : decode cX10_unit 121 = .ok (.aload_n 0, 1) := by decide +kernel
theorem dX10_unit_122 : decode cX10_unit 122 = .ok (.dup, 1) := by decide +kernel
theorem dX10_unit_123 : decode cX10_unit 123 = .ok (.getfield 163, 3) := by decide +kernel
theorem dX10_unit_126 : decode cX10_unit 126 = .ok (.iconst 1, 1) := by decide +kernel
theorem dX10_unit_127 : decode cX10_unit 127 = .ok (.iadd, 1) := by decide +kernel
theorem dX10_unit_128 : decode cX10_unit 128 = .ok (.putfield 163, 3) := by decide +kernel
theorem dX10_unit_131 : decode cX10_unit 131 = .ok (.aload_n 0, 1) := by decide +kernel
theorem dX10_unit_132 : decode cX10_unit 132 = .ok (.invokevirtual 172, 3) := by decide +kernel
theorem dX10_unit_135 : decode cX10_unit 135 = .ok (.istore_n 2, 1) := by decide +kernel
theorem dX10_unit_136 : decode cX10_unit 136 = .ok (.iload_n 2, 1) := by decide +kernel
theorem dX10_unit_137 : decode cX10_unit 137 = .ok (.bipush 61, 2) := by decide +kernel
theorem dX10_unit_139 : decode cX10_unit 139 = .ok (.if_icmp .eq 20, 3) := by decide +kernel
theorem dX10_unit_142 : decode cX10_unit 142 = .ok (.iload_n 2, 1) := by decide +kernel
theorem dX10_unit_143 : decode cX10_unit 143 = .ok (.bipush 60, 2) := by decide +kernel
theorem dX10_unit_145 : decode cX10_unit 145 = .ok (.if_icmp .eq 14, 3) := by decide +kernel
theorem dX10_unit_148 : decode cX10_unit 148 = .ok (.iload_n 2, 1) := by decide +kernel
theorem dX10_unit_149 : decode cX10_unit 149 = .ok (.bipush 62, 2) := by decide +kernel
theorem dX10_unit_151 : decode cX10_unit 151 = .ok (.if_icmp .eq 8, 3) := by decide +kernel
theorem dX10_unit_154 : decode cX10_unit 154 = .ok (.aload_n 0, 1) := by decide +kernel
theorem dX10_unit_155 : decode cX10_unit 155 = .ok (.invokevirtual 182, 3) := by decide +kernel
theorem dX10_unit_158 : decode cX10_unit 158 = .ok (.return_, 1) := by decide +kernel
theorem dX10_unit_159 : decode cX10_unit 159 = .ok (.aload_n 0, 1) := by decide +kernel
theorem dX10_unit_160 : decode cX10_unit 160 = .ok (.dup, 1) := by decide +kernel
theorem dX10_unit_161 : decode cX10_unit 161 = .ok (.getfield 163, 3) := by decide +kernel
theorem dX10_unit_164 : decode cX10_unit 164 = .ok (.iconst 1, 1) := by decide +kernel
theorem dX10_unit_165 : decode cX10_unit 165 = .ok (.iadd, 1) := by decide +kernel
theorem dX10_unit_166 : decode cX10_unit 166 = .ok (.putfield 163, 3) := by decide +kernel
theorem dX10_unit_169 : decode cX10_unit 169 = .ok (.aload_n 0, 1) := by decide +kernel
theorem dX10_unit_170 : decode cX10_unit 170 = .ok (.invokevirtual 172, 3) := by decide +kernel
theorem dX10_unit_173 : decode cX10_unit 173 = .ok (.istore_n 3, 1) := by decide +kernel
theorem dX10_unit_174 : decode cX10_unit 174 = .ok (.iload_n 3, 1) := by decide +kernel
theorem dX10_unit_175 : decode cX10_unit 175 = .ok (.bipush 48, 2) := by decide +kernel
theorem dX10_unit_177 : decode cX10_unit 177 = .ok (.if_icmp .lt 9, 3) := by decide +kernel
theorem dX10_unit_180 : decode cX10_unit 180 = .ok (.iload_n 3, 1) := by decide +kernel
theorem dX10_unit_181 : decode cX10_unit 181 = .ok (.bipush 57, 2) := by decide +kernel
theorem dX10_unit_183 : decode cX10_unit 183 = .ok (.if_icmp .le 8, 3) := by decide +kernel
theorem dX10_unit_186 : decode cX10_unit 186 = .ok (.aload_n 0, 1) := by decide +kernel
theorem dX10_unit_187 : decode cX10_unit 187 = .ok (.invokevirtual 182, 3) := by decide +kernel
theorem dX10_unit_190 : decode cX10_unit 190 = .ok (.return_, 1) := by decide +kernel
theorem dX10_unit_191 : decode cX10_unit 191 = .ok (.iconst 0, 1) := by decide +kernel
theorem dX10_unit_192 : decode cX10_unit 192 = .ok (.istore 4, 2) := by decide +kernel
theorem dX10_unit_194 : decode cX10_unit 194 = .ok (.iconst 0, 1) := by decide +kernel
theorem dX10_unit_195 : decode cX10_unit 195 = .ok (.istore 5, 2) := by decide +kernel
theorem dX10_unit_197 : decode cX10_unit 197 = .ok (.aload_n 0, 1) := by decide +kernel
theorem dX10_unit_198 : decode cX10_unit 198 = .ok (.getfield 163, 3) := by decide +kernel
theorem dX10_unit_201 : decode cX10_unit 201 = .ok (.aload_n 0, 1) := by decide +kernel
theorem dX10_unit_202 : decode cX10_unit 202 = .ok (.getfield 160, 3) := by decide +kernel
theorem dX10_unit_205 : decode cX10_unit 205 = .ok (.if_icmp .ge 78, 3) := by decide +kernel
theorem dX10_unit_208 : decode cX10_unit 208 = .ok (.aload_n 0, 1) := by decide +kernel
theorem dX10_unit_209 : decode cX10_unit 209 = .ok (.getfield 65, 3) := by decide +kernel
theorem dX10_unit_212 : decode cX10_unit 212 = .ok (.aload_n 0, 1) := by decide +kernel
theorem dX10_unit_213 : decode cX10_unit 213 = .ok (.getfield 163, 3) := by decide +kernel
theorem dX10_unit_216 : decode cX10_unit 216 = .ok (.iaload, 1) := by decide +kernel
theorem dX10_unit_217 : decode cX10_unit 217 = .ok (.bipush 48, 2) := by decide +kernel
theorem dX10_unit_219 : decode cX10_unit 219 = .ok (.if_icmp .lt 64, 3) := by decide +kernel
theorem dX10_unit_222 : decode cX10_unit 222 = .ok (.aload_n 0, 1) := by decide +kernel
theorem dX10_unit_223 : decode cX10_unit 223 = .ok (.getfield 65, 3) := by decide +kernel
theorem dX10_unit_226 : decode cX10_unit 226 = .ok (.aload_n 0, 1) := by decide +kernel
theorem dX10_unit_227 : decode cX10_unit 227 = .ok (.getfield 163, 3) := by decide +kernel
theorem dX10_unit_230 : decode cX10_unit 230 = .ok (.iaload, 1) := by decide +kernel
theorem dX10_unit_231 : decode cX10_unit 231 = .ok (.bipush 57, 2) := by decide +kernel
theorem dX10_unit_233 : decode cX10_unit 233 = .ok (.if_icmp .gt 50, 3) := by decide +kernel
theorem dX10_unit_236 : decode cX10_unit 236 = .ok (.iload 5, 2) := by decide +kernel
theorem dX10_unit_238 : decode cX10_unit 238 = .ok (.iconst 4, 1) := by decide +kernel
theorem dX10_unit_239 : decode cX10_unit 239 = .ok (.if_icmp .ne 8, 3) := by decide +kernel
theorem dX10_unit_242 : decode cX10_unit 242 = .ok (.aload_n 0, 1) := by decide +kernel
theorem dX10_unit_243 : decode cX10_unit 243 = .ok (.invokevirtual 182, 3) := by decide +kernel
theorem dX10_unit_246 : decode cX10_unit 246 = .ok (.return_, 1) := by decide +kernel
theorem dX10_unit_247 : decode cX10_unit 247 = .ok (.bipush 10, 2) := by decide +kernel
theorem dX10_unit_249 : decode cX10_unit 249 = .ok (.iload 4, 2) := by decide +kernel
theorem dX10_unit_251 : decode cX10_unit 251 = .ok (.imul, 1) := by decide +kernel
theorem dX10_unit_252 : decode cX10_unit 252 = .ok (.aload_n 0, 1) := by decide +kernel
theorem dX10_unit_253 : decode cX10_unit 253 = .ok (.getfield 65, 3) := by decide +kernel
theorem dX10_unit_256 : decode cX10_unit 256 = .ok (.aload_n 0, 1) := by decide +kernel
theorem dX10_unit_257 : decode cX10_unit 257 = .ok (.getfield 163, 3) := by decide +kernel
theorem dX10_unit_260 : decode cX10_unit 260 = .ok (.iaload, 1) := by decide +kernel
theorem dX10_unit_261 : decode cX10_unit 261 = .ok (.iadd, 1) := by decide +kernel
theorem dX10_unit_262 : decode cX10_unit 262 = .ok (.bipush 48, 2) := by decide +kernel
theorem dX10_unit_264 : decode cX10_unit 264 = .ok (.isub, 1) := by decide +kernel
theorem dX10_unit_265 : decode cX10_unit 265 = .ok (.istore 4, 2) := by decide +kernel
theorem dX10_unit_267 : decode cX10_unit 267 = .ok (.iinc 5 1, 3) := by decide +kernel
theorem dX10_unit_270 : decode cX10_unit 270 = .ok (.aload_n 0, 1) := by decide +kernel
theorem dX10_unit_271 : decode cX10_unit 271 = .ok (.dup, 1) := by decide +kernel
theorem dX10_unit_272 : decode cX10_unit 272 = .ok (.getfield 163, 3) := by decide +kernel
theorem dX10_unit_275 : decode cX10_unit 275 = .ok (.iconst 1, 1) := by decide +kernel
theorem dX10_unit_276 : decode cX10_unit 276 = .ok (.iadd, 1) := by decide +kernel
theorem dX10_unit_277 : decode cX10_unit 277 = .ok (.putfield 163, 3) := by decide +kernel
theorem dX10_unit_280 : decode cX10_unit 280 = .ok (.goto (-83), 3) := by decide +kernel
theorem dX10_unit_283 : decode cX10_unit 283 = .ok (.aload_n 0, 1) := by decide +kernel
theorem dX10_unit_284 : decode cX10_unit 284 = .ok (.iconst 0, 1) := by decide +kernel
theorem dX10_unit_285 : decode cX10_unit 285 = .ok (.invokevirtual 185, 3) := by decide +kernel
theorem dX10_unit_288 : decode cX10_unit 288 = .ok (.aload_n 0, 1) := by decide +kernel
theorem dX10_unit_289 : decode cX10_unit 289 = .ok (.iload_n 1, 1) := by decide +kernel
theorem dX10_unit_290 : decode cX10_unit 290 = .ok (.invokevirtual 185, 3) := by decide +kernel
theorem dX10_unit_293 : decode cX10_unit 293 = .ok (.aload_n 0, 1) := by decide +kernel
theorem dX10_unit_294 : decode cX10_unit 294 = .ok (.iload_n 2, 1) := by decide +kernel
theorem dX10_unit_295 : decode cX10_unit 295 = .ok (.invokevirtual 185, 3) := by decide +kernel
theorem dX10_unit_298 : decode cX10_unit 298 = .ok (.aload_n 0, 1) := by decide +kernel
theorem dX10_unit_299 : decode cX10_unit 299 = .ok (.iload 4, 2) := by decide +kernel
theorem dX10_unit_301 : decode cX10_unit 301 = .ok (.invokevirtual 185, 3) := by decide +kernel
theorem dX10_unit_304 : decode cX10_unit 304 = .ok (.return_, 1) := by decide +kernel
theorem dX10_part_0 : decode cX10_part 0 = .ok (.aload_n 0, 1) := by decide +kernel
theorem dX10_part_1 : decode cX10_part 1 = .ok (.invokevirtual 189, 3) := by decide +kernel
theorem dX10_part_4 : decode cX10_part 4 = .ok (.aload_n 0, 1) := by decide +kernel
theorem dX10_part_5 : decode cX10_part 5 = .ok (.getfield 166, 3) := by decide +kernel
theorem dX10_part_8 : decode cX10_part 8 = .ok (.iconst (-1), 1) := by decide +kernel
theorem dX10_part_9 : decode cX10_part 9 = .ok (.if_icmp .ne 34, 3) := by decide +kernel
theorem dX10_part_12 : decode cX10_part 12 = .ok (.aload_n 0, 1) := by decide +kernel
theorem dX10_part_13 : decode cX10_part 13 = .ok (.invokevirtual 172, 3) := by decide +kernel
theorem dX10_part_16 : decode cX10_part 16 = .ok (.bipush 38, 2) := by decide +kernel
theorem dX10_part_18 : decode cX10_part 18 = .ok (.if_icmp .ne 25, 3) := by decide +kernel
theorem dX10_part_21 : decode cX10_part 21 = .ok (.aload_n 0, 1) := by decide +kernel
theorem dX10_part_22 : decode cX10_part 22 = .ok (.dup, 1) := by decide +kernel
theorem dX10_part_23 : decode cX10_part 23 = .ok (.getfield 163, 3) := by decide +kernel
theorem dX10_part_26 : decode cX10_part 26 = .ok (.iconst 1, 1) := by decide +kernel
theorem dX10_part_27 : decode cX10_part 27 = .ok (.iadd, 1) := by decide +kernel
theorem dX10_part_28 : decode cX10_part 28 = .ok (.putfield 163, 3) := by decide +kernel
theorem dX10_part_31 : decode cX10_part 31 = .ok (.aload_n 0, 1) := by decide +kernel
theorem dX10_part_32 : decode cX10_part 32 = .ok (.invokevirtual 189, 3) := by decide +kernel
theorem dX10_part_35 : decode cX10_part 35 = .ok (.aload_n 0, 1) := by decide +kernel
theorem dX10_part_36 : decode cX10_part 36 = .ok (.iconst 1, 1) := by decide +kernel
theorem dX10_part_37 : decode cX10_part 37 = .ok (.invokevirtual 185, 3) := by decide +kernel
theorem dX10_part_40 : decode cX10_part 40 = .ok (.goto (-36), 3) := by decide +kernel
theorem dX10_part_43 : decode cX10_part 43 = .ok (.return_, 1) := by decide +kernel
theorem dX10_tests_0 : decode cX10_tests 0 = .ok (.aload_n 0, 1) := by decide +kernel
theorem dX10_tests_1 : decode cX10_tests 1 = .ok (.invokevirtual 192, 3) := by decide +kernel
theorem dX10_tests_4 : decode cX10_tests 4 = .ok (.aload_n 0, 1) := by decide +kernel
theorem dX10_tests_5 : decode cX10_tests 5 = .ok (.getfield 166, 3) := by decide +kernel
theorem dX10_tests_8 : decode cX10_tests 8 = .ok (.iconst (-1), 1) := by decide +kernel
theorem dX10_tests_9 : decode cX10_tests 9 = .ok (.if_icmp .ne 34, 3) := by decide +kernel
theorem dX10_tests_12 : decode cX10_tests 12 = .ok (.aload_n 0, 1) := by decide +kernel
theorem dX10_tests_13 : decode cX10_tests 13 = .ok (.invokevirtual 172, 3) := by decide +kernel
theorem dX10_tests_16 : decode cX10_tests 16 = .ok (.bipush 124, 2) := by decide +kernel
theorem dX10_tests_18 : decode cX10_tests 18 = .ok (.if_icmp .ne 25, 3) := by decide +kernel
theorem dX10_tests_21 : decode cX10_tests 21 = .ok (.aload_n 0, 1) := by decide +kernel
theorem dX10_tests_22 : decode cX10_tests 22 = .ok (.dup, 1) := by decide +kernel
theorem dX10_tests_23 : decode cX10_tests 23 = .ok (.getfield 163, 3) := by decide +kernel
theorem dX10_tests_26 : decode cX10_tests 26 = .ok (.iconst 1, 1) := by decide +kernel
theorem dX10_tests_27 : decode cX10_tests 27 = .ok (.iadd, 1) := by decide +kernel
theorem dX10_tests_28 : decode cX10_tests 28 = .ok (.putfield 163, 3) := by decide +kernel
theorem dX10_tests_31 : decode cX10_tests 31 = .ok (.aload_n 0, 1) := by decide +kernel
theorem dX10_tests_32 : decode cX10_tests 32 = .ok (.invokevirtual 192, 3) := by decide +kernel
theorem dX10_tests_35 : decode cX10_tests 35 = .ok (.aload_n 0, 1) := by decide +kernel
theorem dX10_tests_36 : decode cX10_tests 36 = .ok (.iconst 2, 1) := by decide +kernel
theorem dX10_tests_37 : decode cX10_tests 37 = .ok (.invokevirtual 185, 3) := by decide +kernel
theorem dX10_tests_40 : decode cX10_tests 40 = .ok (.goto (-36), 3) := by decide +kernel
theorem dX10_tests_43 : decode cX10_tests 43 = .ok (.return_, 1) := by decide +kernel
theorem dX10_fault_0 : decode cX10_fault 0 = .ok (.aload_n 0, 1) := by decide +kernel
theorem dX10_fault_1 : decode cX10_fault 1 = .ok (.iconst 0, 1) := by decide +kernel
theorem dX10_fault_2 : decode cX10_fault 2 = .ok (.putfield 163, 3) := by decide +kernel
theorem dX10_fault_5 : decode cX10_fault 5 = .ok (.aload_n 0, 1) := by decide +kernel
theorem dX10_fault_6 : decode cX10_fault 6 = .ok (.iconst (-1), 1) := by decide +kernel
theorem dX10_fault_7 : decode cX10_fault 7 = .ok (.putfield 166, 3) := by decide +kernel
theorem dX10_fault_10 : decode cX10_fault 10 = .ok (.aload_n 0, 1) := by decide +kernel
theorem dX10_fault_11 : decode cX10_fault 11 = .ok (.iconst 0, 1) := by decide +kernel
theorem dX10_fault_12 : decode cX10_fault 12 = .ok (.putfield 176, 3) := by decide +kernel
theorem dX10_fault_15 : decode cX10_fault 15 = .ok (.aload_n 0, 1) := by decide +kernel
theorem dX10_fault_16 : decode cX10_fault 16 = .ok (.iconst 0, 1) := by decide +kernel
theorem dX10_fault_17 : decode cX10_fault 17 = .ok (.putfield 169, 3) := by decide +kernel
theorem dX10_fault_20 : decode cX10_fault 20 = .ok (.aload_n 0, 1) := by decide +kernel
theorem dX10_fault_21 : decode cX10_fault 21 = .ok (.invokevirtual 179, 3) := by decide +kernel
theorem dX10_fault_24 : decode cX10_fault 24 = .ok (.aload_n 0, 1) := by decide +kernel
theorem dX10_fault_25 : decode cX10_fault 25 = .ok (.getfield 166, 3) := by decide +kernel
theorem dX10_fault_28 : decode cX10_fault 28 = .ok (.iconst (-1), 1) := by decide +kernel
theorem dX10_fault_29 : decode cX10_fault 29 = .ok (.if_icmp .ne 15, 3) := by decide +kernel
theorem dX10_fault_32 : decode cX10_fault 32 = .ok (.aload_n 0, 1) := by decide +kernel
theorem dX10_fault_33 : decode cX10_fault 33 = .ok (.invokevirtual 172, 3) := by decide +kernel
theorem dX10_fault_36 : decode cX10_fault 36 = .ok (.iconst (-1), 1) := by decide +kernel
theorem dX10_fault_37 : decode cX10_fault 37 = .ok (.if_icmp .eq 7, 3) := by decide +kernel
theorem dX10_fault_40 : decode cX10_fault 40 = .ok (.aload_n 0, 1) := by decide +kernel
theorem dX10_fault_41 : decode cX10_fault 41 = .ok (.invokevirtual 182, 3) := by decide +kernel
theorem dX10_fault_44 : decode cX10_fault 44 = .ok (.aload_n 0, 1) := by decide +kernel
theorem dX10_fault_45 : decode cX10_fault 45 = .ok (.getfield 166, 3) := by decide +kernel
theorem dX10_fault_48 : decode cX10_fault 48 = .ok (.ireturn, 1) := by decide +kernel
theorem dX10_rule_0 : decode cX10_rule 0 = .ok (.aload_n 0, 1) := by decide +kernel
theorem dX10_rule_1 : decode cX10_rule 1 = .ok (.invokevirtual 195, 3) := by decide +kernel
theorem dX10_rule_4 : decode cX10_rule 4 = .ok (.iconst (-1), 1) := by decide +kernel
theorem dX10_rule_5 : decode cX10_rule 5 = .ok (.if_icmp .eq 5, 3) := by decide +kernel
theorem dX10_rule_8 : decode cX10_rule 8 = .ok (.iconst 0, 1) := by decide +kernel
theorem dX10_rule_9 : decode cX10_rule 9 = .ok (.ireturn, 1) := by decide +kernel
theorem dX10_rule_10 : decode cX10_rule 10 = .ok (.aload_n 0, 1) := by decide +kernel
theorem dX10_rule_11 : decode cX10_rule 11 = .ok (.iconst 3, 1) := by decide +kernel
theorem dX10_rule_12 : decode cX10_rule 12 = .ok (.invokevirtual 185, 3) := by decide +kernel
theorem dX10_rule_15 : decode cX10_rule 15 = .ok (.iconst 0, 1) := by decide +kernel
theorem dX10_rule_16 : decode cX10_rule 16 = .ok (.istore_n 1, 1) := by decide +kernel
theorem dX10_rule_17 : decode cX10_rule 17 = .ok (.iload_n 1, 1) := by decide +kernel
theorem dX10_rule_18 : decode cX10_rule 18 = .ok (.aload_n 0, 1) := by decide +kernel
theorem dX10_rule_19 : decode cX10_rule 19 = .ok (.getfield 169, 3) := by decide +kernel
theorem dX10_rule_22 : decode cX10_rule 22 = .ok (.if_icmp .ge 21, 3) := by decide +kernel
theorem dX10_rule_25 : decode cX10_rule 25 = .ok (.aload_n 0, 1) := by decide +kernel
theorem dX10_rule_26 : decode cX10_rule 26 = .ok (.getfield 68, 3) := by decide +kernel
theorem dX10_rule_29 : decode cX10_rule 29 = .ok (.iload_n 1, 1) := by decide +kernel
theorem dX10_rule_30 : decode cX10_rule 30 = .ok (.aload_n 0, 1) := by decide +kernel
theorem dX10_rule_31 : decode cX10_rule 31 = .ok (.getfield 71, 3) := by decide +kernel
theorem dX10_rule_34 : decode cX10_rule 34 = .ok (.iload_n 1, 1) := by decide +kernel
theorem dX10_rule_35 : decode cX10_rule 35 = .ok (.iaload, 1) := by decide +kernel
theorem dX10_rule_36 : decode cX10_rule 36 = .ok (.iastore, 1) := by decide +kernel
theorem dX10_rule_37 : decode cX10_rule 37 = .ok (.iinc 1 1, 3) := by decide +kernel
theorem dX10_rule_40 : decode cX10_rule 40 = .ok (.goto (-23), 3) := by decide +kernel
theorem dX10_rule_43 : decode cX10_rule 43 = .ok (.aload_n 0, 1) := by decide +kernel
theorem dX10_rule_44 : decode cX10_rule 44 = .ok (.dup, 1) := by decide +kernel
theorem dX10_rule_45 : decode cX10_rule 45 = .ok (.getfield 198, 3) := by decide +kernel
theorem dX10_rule_48 : decode cX10_rule 48 = .ok (.iconst 1, 1) := by decide +kernel
theorem dX10_rule_49 : decode cX10_rule 49 = .ok (.iadd, 1) := by decide +kernel
theorem dX10_rule_50 : decode cX10_rule 50 = .ok (.putfield 198, 3) := by decide +kernel
theorem dX10_rule_53 : decode cX10_rule 53 = .ok (.aload_n 0, 1) := by decide +kernel
theorem dX10_rule_54 : decode cX10_rule 54 = .ok (.iconst 0, 1) := by decide +kernel
theorem dX10_rule_55 : decode cX10_rule 55 = .ok (.putfield 160, 3) := by decide +kernel
theorem dX10_rule_58 : decode cX10_rule 58 = .ok (.iconst 1, 1) := by decide +kernel
theorem dX10_rule_59 : decode cX10_rule 59 = .ok (.ireturn, 1) := by decide +kernel
theorem dX10_holds_0 : decode cX10_holds 0 = .ok (.iconst 0, 1) := by decide +kernel
theorem dX10_holds_1 : decode cX10_holds 1 = .ok (.istore 6, 2) := by decide +kernel
theorem dX10_holds_3 : decode cX10_holds 3 = .ok (.iconst 0, 1) := by decide +kernel
theorem dX10_holds_4 : decode cX10_holds 4 = .ok (.istore 7, 2) := by decide +kernel
theorem dX10_holds_6 : decode cX10_holds 6 = .ok (.aload_n 0, 1) := by decide +kernel
theorem dX10_holds_7 : decode cX10_holds 7 = .ok (.getfield 68, 3) := by decide +kernel
theorem dX10_holds_10 : decode cX10_holds 10 = .ok (.iload 6, 2) := by decide +kernel
theorem dX10_holds_12 : decode cX10_holds 12 = .ok (.iaload, 1) := by decide +kernel
theorem dX10_holds_13 : decode cX10_holds 13 = .ok (.iconst 3, 1) := by decide +kernel
theorem dX10_holds_14 : decode cX10_holds 14 = .ok (.if_icmp .eq 256, 3) := by decide +kernel
theorem dX10_holds_17 : decode cX10_holds 17 = .ok (.aload_n 0, 1) := by decide +kernel
theorem dX10_holds_18 : decode cX10_holds 18 = .ok (.getfield 68, 3) := by decide +kernel
theorem dX10_holds_21 : decode cX10_holds 21 = .ok (.iload 6, 2) := by decide +kernel
theorem dX10_holds_23 : decode cX10_holds 23 = .ok (.iaload, 1) := by decide +kernel
theorem dX10_holds_24 : decode cX10_holds 24 = .ok (.ifCond .ne 160, 3) := by decide +kernel
theorem dX10_holds_27 : decode cX10_holds 27 = .ok (.aload_n 0, 1) := by decide +kernel
theorem dX10_holds_28 : decode cX10_holds 28 = .ok (.getfield 68, 3) := by decide +kernel
theorem dX10_holds_31 : decode cX10_holds 31 = .ok (.iload 6, 2) := by decide +kernel
theorem dX10_holds_33 : decode cX10_holds 33 = .ok (.iconst 1, 1) := by decide +kernel
theorem dX10_holds_34 : decode cX10_holds 34 = .ok (.iadd, 1) := by decide +kernel
theorem dX10_holds_35 : decode cX10_holds 35 = .ok (.iaload, 1) := by decide +kernel
theorem dX10_holds_36 : decode cX10_holds 36 = .ok (.istore 8, 2) := by decide +kernel
theorem dX10_holds_38 : decode cX10_holds 38 = .ok (.iload 8, 2) := by decide +kernel
theorem dX10_holds_40 : decode cX10_holds 40 = .ok (.bipush 111, 2) := by decide +kernel
theorem dX10_holds_42 : decode cX10_holds 42 = .ok (.if_icmp .ne 7, 3) := by decide +kernel
theorem dX10_holds_45 : decode cX10_holds 45 = .ok (.iload_n 1, 1) := by decide +kernel
theorem dX10_holds_46 : decode cX10_holds 46 = .ok (.goto 39, 3) := by decide +kernel
theorem dX10_holds_49 : decode cX10_holds 49 = .ok (.iload 8, 2) := by decide +kernel
theorem dX10_holds_51 : decode cX10_holds 51 = .ok (.bipush 102, 2) := by decide +kernel
theorem dX10_holds_53 : decode cX10_holds 53 = .ok (.if_icmp .ne 7, 3) := by decide +kernel
theorem dX10_holds_56 : decode cX10_holds 56 = .ok (.iload_n 2, 1) := by decide +kernel
theorem dX10_holds_57 : decode cX10_holds 57 = .ok (.goto 28, 3) := by decide +kernel
theorem dX10_holds_60 : decode cX10_holds 60 = .ok (.iload 8, 2) := by decide +kernel
theorem dX10_holds_62 : decode cX10_holds 62 = .ok (.bipush 119, 2) := by decide +kernel
theorem dX10_holds_64 : decode cX10_holds 64 = .ok (.if_icmp .ne 7, 3) := by decide +kernel
theorem dX10_holds_67 : decode cX10_holds 67 = .ok (.iload_n 3, 1) := by decide +kernel
theorem dX10_holds_68 : decode cX10_holds 68 = .ok (.goto 17, 3) := by decide +kernel
theorem dX10_holds_71 : decode cX10_holds 71 = .ok (.iload 8, 2) := by decide +kernel
theorem dX10_holds_73 : decode cX10_holds 73 = .ok (.bipush 99, 2) := by decide +kernel
theorem dX10_holds_75 : decode cX10_holds 75 = .ok (.if_icmp .ne 8, 3) := by decide +kernel
theorem dX10_holds_78 : decode cX10_holds 78 = .ok (.iload 4, 2) := by decide +kernel
theorem dX10_holds_80 : decode cX10_holds 80 = .ok (.goto 5, 3) := by decide +kernel
theorem dX10_holds_83 : decode cX10_holds 83 = .ok (.iload 5, 2) := by decide +kernel
theorem dX10_holds_85 : decode cX10_holds 85 = .ok (.istore 9, 2) := by decide +kernel
theorem dX10_holds_87 : decode cX10_holds 87 = .ok (.aload_n 0, 1) := by decide +kernel
theorem dX10_holds_88 : decode cX10_holds 88 = .ok (.getfield 68, 3) := by decide +kernel
theorem dX10_holds_91 : decode cX10_holds 91 = .ok (.iload 6, 2) := by decide +kernel
theorem dX10_holds_93 : decode cX10_holds 93 = .ok (.iconst 3, 1) := by decide +kernel
theorem dX10_holds_94 : decode cX10_holds 94 = .ok (.iadd, 1) := by decide +kernel
theorem dX10_holds_95 : decode cX10_holds 95 = .ok (.iaload, 1) := by decide +kernel
theorem dX10_holds_96 : decode cX10_holds 96 = .ok (.istore 10, 2) := by decide +kernel
theorem dX10_holds_98 : decode cX10_holds 98 = .ok (.aload_n 0, 1) := by decide +kernel
theorem dX10_holds_99 : decode cX10_holds 99 = .ok (.getfield 74, 3) := by decide +kernel
theorem dX10_holds_102 : decode cX10_holds 102 = .ok (.iload 7, 2) := by decide +kernel
theorem dX10_holds_104 : decode cX10_holds 104 = .ok (.aload_n 0, 1) := by decide +kernel
theorem dX10_holds_105 : decode cX10_holds 105 = .ok (.getfield 68, 3) := by decide +kernel
theorem dX10_holds_108 : decode cX10_holds 108 = .ok (.iload 6, 2) := by decide +kernel
theorem dX10_holds_110 : decode cX10_holds 110 = .ok (.iconst 2, 1) := by decide +kernel
theorem dX10_holds_111 : decode cX10_holds 111 = .ok (.iadd, 1) := by decide +kernel
theorem dX10_holds_112 : decode cX10_holds 112 = .ok (.iaload, 1) := by decide +kernel
theorem dX10_holds_113 : decode cX10_holds 113 = .ok (.bipush 61, 2) := by decide +kernel
theorem dX10_holds_115 : decode cX10_holds 115 = .ok (.if_icmp .ne 18, 3) := by decide +kernel
theorem dX10_holds_118 : decode cX10_holds 118 = .ok (.iload 9, 2) := by decide +kernel
theorem dX10_holds_120 : decode cX10_holds 120 = .ok (.iload 10, 2) := by decide +kernel
theorem dX10_holds_122 : decode cX10_holds 122 = .ok (.if_icmp .ne 7, 3) := by decide +kernel
theorem dX10_holds_125 : decode cX10_holds 125 = .ok (.iconst 1, 1) := by decide +kernel
theorem dX10_holds_126 : decode cX10_holds 126 = .ok (.goto 48, 3) := by decide +kernel
theorem dX10_holds_129 : decode cX10_holds 129 = .ok (.iconst 0, 1) := by decide +kernel
theorem dX10_holds_130 : decode cX10_holds 130 = .ok (.goto 44, 3) := by decide +kernel
theorem dX10_holds_133 : decode cX10_holds 133 = .ok (.aload_n 0, 1) := by decide +kernel
theorem dX10_holds_134 : decode cX10_holds 134 = .ok (.getfield 68, 3) := by decide +kernel
theorem dX10_holds_137 : decode cX10_holds 137 = .ok (.iload 6, 2) := by decide +kernel
theorem dX10_holds_139 : decode cX10_holds 139 = .ok (.iconst 2, 1) := by decide +kernel
theorem dX10_holds_140 : decode cX10_holds 140 = .ok (.iadd, 1) := by decide +kernel
theorem dX10_holds_141 : decode cX10_holds 141 = .ok (.iaload, 1) := by decide +kernel
theorem dX10_holds_142 : decode cX10_holds 142 = .ok (.bipush 60, 2) := by decide +kernel
theorem dX10_holds_144 : decode cX10_holds 144 = .ok (.if_icmp .ne 18, 3) := by decide +kernel
theorem dX10_holds_147 : decode cX10_holds 147 = .ok (.iload 9, 2) := by decide +kernel
theorem dX10_holds_149 : decode cX10_holds 149 = .ok (.iload 10, 2) := by decide +kernel
theorem dX10_holds_151 : decode cX10_holds 151 = .ok (.if_icmp .ge 7, 3) := by decide +kernel
theorem dX10_holds_154 : decode cX10_holds 154 = .ok (.iconst 1, 1) := by decide +kernel
theorem dX10_holds_155 : decode cX10_holds 155 = .ok (.goto 19, 3) := by decide +kernel
theorem dX10_holds_158 : decode cX10_holds 158 = .ok (.iconst 0, 1) := by decide +kernel
theorem dX10_holds_159 : decode cX10_holds 159 = .ok (.goto 15, 3) := by decide +kernel
theorem dX10_holds_162 : decode cX10_holds 162 = .ok (.iload 9, 2) := by decide +kernel
theorem dX10_holds_164 : decode cX10_holds 164 = .ok (.iload 10, 2) := by decide +kernel
theorem dX10_holds_166 : decode cX10_holds 166 = .ok (.if_icmp .le 7, 3) := by decide +kernel
theorem dX10_holds_169 : decode cX10_holds 169 = .ok (.iconst 1, 1) := by decide +kernel
theorem dX10_holds_170 : decode cX10_holds 170 = .ok (.goto 4, 3) := by decide +kernel
theorem dX10_holds_173 : decode cX10_holds 173 = .ok (.iconst 0, 1) := by decide +kernel
theorem dX10_holds_174 : decode cX10_holds 174 = .ok (.bastore, 1) := by decide +kernel
theorem dX10_holds_175 : decode cX10_holds 175 = .ok (.iinc 7 1, 3) := by decide +kernel
theorem dX10_holds_178 : decode cX10_holds 178 = .ok (.iinc 6 4, 3) := by decide +kernel
theorem dX10_holds_181 : decode cX10_holds 181 = .ok (.goto (-175), 3) := by decide +kernel
theorem dX10_holds_184 : decode cX10_holds 184 = .ok (.iinc 7 (-1), 3) := by decide +kernel
theorem dX10_holds_187 : decode cX10_holds 187 = .ok (.aload_n 0, 1) := by decide +kernel
theorem dX10_holds_188 : decode cX10_holds 188 = .ok (.getfield 74, 3) := by decide +kernel
theorem dX10_holds_191 : decode cX10_holds 191 = .ok (.iload 7, 2) := by decide +kernel
theorem dX10_holds_193 : decode cX10_holds 193 = .ok (.iconst 1, 1) := by decide +kernel
theorem dX10_holds_194 : decode cX10_holds 194 = .ok (.isub, 1) := by decide +kernel
theorem dX10_holds_195 : decode cX10_holds 195 = .ok (.aload_n 0, 1) := by decide +kernel
theorem dX10_holds_196 : decode cX10_holds 196 = .ok (.getfield 68, 3) := by decide +kernel
theorem dX10_holds_199 : decode cX10_holds 199 = .ok (.iload 6, 2) := by decide +kernel
theorem dX10_holds_201 : decode cX10_holds 201 = .ok (.iaload, 1) := by decide +kernel
theorem dX10_holds_202 : decode cX10_holds 202 = .ok (.iconst 1, 1) := by decide +kernel
theorem dX10_holds_203 : decode cX10_holds 203 = .ok (.if_icmp .ne 33, 3) := by decide +kernel
theorem dX10_holds_206 : decode cX10_holds 206 = .ok (.aload_n 0, 1) := by decide +kernel
theorem dX10_holds_207 : decode cX10_holds 207 = .ok (.getfield 74, 3) := by decide +kernel
theorem dX10_holds_210 : decode cX10_holds 210 = .ok (.iload 7, 2) := by decide +kernel
theorem dX10_holds_212 : decode cX10_holds 212 = .ok (.iconst 1, 1) := by decide +kernel
theorem dX10_holds_213 : decode cX10_holds 213 = .ok (.isub, 1) := by decide +kernel
theorem dX10_holds_214 : decode cX10_holds 214 = .ok (.baload, 1) := by decide +kernel
theorem dX10_holds_215 : decode cX10_holds 215 = .ok (.ifCond .eq 17, 3) := by decide +kernel
theorem dX10_holds_218 : decode cX10_holds 218 = .ok (.aload_n 0, 1) := by decide +kernel
theorem dX10_holds_219 : decode cX10_holds 219 = .ok (.getfield 74, 3) := by decide +kernel
theorem dX10_holds_222 : decode cX10_holds 222 = .ok (.iload 7, 2) := by decide +kernel
theorem dX10_holds_224 : decode cX10_holds 224 = .ok (.baload, 1) := by decide +kernel
theorem dX10_holds_225 : decode cX10_holds 225 = .ok (.ifCond .eq 7, 3) := by decide +kernel
theorem dX10_holds_228 : decode cX10_holds 228 = .ok (.iconst 1, 1) := by decide +kernel
theorem dX10_holds_229 : decode cX10_holds 229 = .ok (.goto 34, 3) := by decide +kernel
theorem dX10_holds_232 : decode cX10_holds 232 = .ok (.iconst 0, 1) := by decide +kernel
theorem dX10_holds_233 : decode cX10_holds 233 = .ok (.goto 30, 3) := by decide +kernel
theorem dX10_holds_236 : decode cX10_holds 236 = .ok (.aload_n 0, 1) := by decide +kernel
theorem dX10_holds_237 : decode cX10_holds 237 = .ok (.getfield 74, 3) := by decide +kernel
theorem dX10_holds_240 : decode cX10_holds 240 = .ok (.iload 7, 2) := by decide +kernel
theorem dX10_holds_242 : decode cX10_holds 242 = .ok (.iconst 1, 1) := by decide +kernel
theorem dX10_holds_243 : decode cX10_holds 243 = .ok (.isub, 1) := by decide +kernel
theorem dX10_holds_244 : decode cX10_holds 244 = .ok (.baload, 1) := by decide +kernel
theorem dX10_holds_245 : decode cX10_holds 245 = .ok (.ifCond .ne 13, 3) := by decide +kernel
theorem dX10_holds_248 : decode cX10_holds 248 = .ok (.aload_n 0, 1) := by decide +kernel
theorem dX10_holds_249 : decode cX10_holds 249 = .ok (.getfield 74, 3) := by decide +kernel
theorem dX10_holds_252 : decode cX10_holds 252 = .ok (.iload 7, 2) := by decide +kernel
theorem dX10_holds_254 : decode cX10_holds 254 = .ok (.baload, 1) := by decide +kernel
theorem dX10_holds_255 : decode cX10_holds 255 = .ok (.ifCond .eq 7, 3) := by decide +kernel
theorem dX10_holds_258 : decode cX10_holds 258 = .ok (.iconst 1, 1) := by decide +kernel
theorem dX10_holds_259 : decode cX10_holds 259 = .ok (.goto 4, 3) := by decide +kernel
theorem dX10_holds_262 : decode cX10_holds 262 = .ok (.iconst 0, 1) := by decide +kernel
theorem dX10_holds_263 : decode cX10_holds 263 = .ok (.bastore, 1) := by decide +kernel
theorem dX10_holds_264 : decode cX10_holds 264 = .ok (.iinc 6 1, 3) := by decide +kernel
theorem dX10_holds_267 : decode cX10_holds 267 = .ok (.goto (-261), 3) := by decide +kernel
theorem dX10_holds_270 : decode cX10_holds 270 = .ok (.aload_n 0, 1) := by decide +kernel
theorem dX10_holds_271 : decode cX10_holds 271 = .ok (.getfield 74, 3) := by decide +kernel
theorem dX10_holds_274 : decode cX10_holds 274 = .ok (.iconst 0, 1) := by decide +kernel
theorem dX10_holds_275 : decode cX10_holds 275 = .ok (.baload, 1) := by decide +kernel
theorem dX10_holds_276 : decode cX10_holds 276 = .ok (.ireturn, 1) := by decide +kernel
theorem dX10_isOpen_0 : decode cX10_isOpen 0 = .ok (.aload_n 0, 1) := by decide +kernel
theorem dX10_isOpen_1 : decode cX10_isOpen 1 = .ok (.iload_n 1, 1) := by decide +kernel
theorem dX10_isOpen_2 : decode cX10_isOpen 2 = .ok (.aload_n 0, 1) := by decide +kernel
theorem dX10_isOpen_3 : decode cX10_isOpen 3 = .ok (.getfield 81, 3) := by decide +kernel
theorem dX10_isOpen_6 : decode cX10_isOpen 6 = .ok (.aload_n 0, 1) := by decide +kernel
theorem dX10_isOpen_7 : decode cX10_isOpen 7 = .ok (.getfield 81, 3) := by decide +kernel
theorem dX10_isOpen_10 : decode cX10_isOpen 10 = .ok (.invokevirtual 110, 3) := by decide +kernel
theorem dX10_isOpen_13 : decode cX10_isOpen 13 = .ok (.istore_n 2, 1) := by decide +kernel
theorem dX10_isOpen_14 : decode cX10_isOpen 14 = .ok (.iload_n 2, 1) := by decide +kernel
theorem dX10_isOpen_15 : decode cX10_isOpen 15 = .ok (.bipush 14, 2) := by decide +kernel
theorem dX10_isOpen_17 : decode cX10_isOpen 17 = .ok (.if_icmp .eq 13, 3) := by decide +kernel
theorem dX10_isOpen_20 : decode cX10_isOpen 20 = .ok (.iload_n 2, 1) := by decide +kernel
theorem dX10_isOpen_21 : decode cX10_isOpen 21 = .ok (.bipush 15, 2) := by decide +kernel
theorem dX10_isOpen_23 : decode cX10_isOpen 23 = .ok (.if_icmp .eq 7, 3) := by decide +kernel
theorem dX10_isOpen_26 : decode cX10_isOpen 26 = .ok (.iconst 1, 1) := by decide +kernel
theorem dX10_isOpen_27 : decode cX10_isOpen 27 = .ok (.goto 4, 3) := by decide +kernel
theorem dX10_isOpen_30 : decode cX10_isOpen 30 = .ok (.iconst 0, 1) := by decide +kernel
theorem dX10_isOpen_31 : decode cX10_isOpen 31 = .ok (.ireturn, 1) := by decide +kernel
theorem dX10_agreeing_0 : decode cX10_agreeing 0 = .ok (.aload_n 0, 1) := by decide +kernel
theorem dX10_agreeing_1 : decode cX10_agreeing 1 = .ok (.getfield 19, 3) := by decide +kernel
theorem dX10_agreeing_4 : decode cX10_agreeing 4 = .ok (.iload_n 1, 1) := by decide +kernel
theorem dX10_agreeing_5 : decode cX10_agreeing 5 = .ok (.iaload, 1) := by decide +kernel
theorem dX10_agreeing_6 : decode cX10_agreeing 6 = .ok (.iload_n 2, 1) := by decide +kernel
theorem dX10_agreeing_7 : decode cX10_agreeing 7 = .ok (.iload_n 3, 1) := by decide +kernel
theorem dX10_agreeing_8 : decode cX10_agreeing 8 = .ok (.invokestatic 77, 3) := by decide +kernel
theorem dX10_agreeing_11 : decode cX10_agreeing 11 = .ok (.ifCond .eq 7, 3) := by decide +kernel
theorem dX10_agreeing_14 : decode cX10_agreeing 14 = .ok (.iconst 1, 1) := by decide +kernel
theorem dX10_agreeing_15 : decode cX10_agreeing 15 = .ok (.goto 4, 3) := by decide +kernel
theorem dX10_agreeing_18 : decode cX10_agreeing 18 = .ok (.iconst 0, 1) := by decide +kernel
theorem dX10_agreeing_19 : decode cX10_agreeing 19 = .ok (.iload 4, 2) := by decide +kernel
theorem dX10_agreeing_21 : decode cX10_agreeing 21 = .ok (.aload_n 0, 1) := by decide +kernel
theorem dX10_agreeing_22 : decode cX10_agreeing 22 = .ok (.getfield 22, 3) := by decide +kernel
theorem dX10_agreeing_25 : decode cX10_agreeing 25 = .ok (.iload_n 1, 1) := by decide +kernel
theorem dX10_agreeing_26 : decode cX10_agreeing 26 = .ok (.iaload, 1) := by decide +kernel
theorem dX10_agreeing_27 : decode cX10_agreeing 27 = .ok (.if_icmp .ne 7, 3) := by decide +kernel
theorem dX10_agreeing_30 : decode cX10_agreeing 30 = .ok (.iconst 1, 1) := by decide +kernel
theorem dX10_agreeing_31 : decode cX10_agreeing 31 = .ok (.goto 4, 3) := by decide +kernel
theorem dX10_agreeing_34 : decode cX10_agreeing 34 = .ok (.iconst 0, 1) := by decide +kernel
theorem dX10_agreeing_35 : decode cX10_agreeing 35 = .ok (.iadd, 1) := by decide +kernel
theorem dX10_agreeing_36 : decode cX10_agreeing 36 = .ok (.iload 5, 2) := by decide +kernel
theorem dX10_agreeing_38 : decode cX10_agreeing 38 = .ok (.aload_n 0, 1) := by decide +kernel
theorem dX10_agreeing_39 : decode cX10_agreeing 39 = .ok (.getfield 25, 3) := by decide +kernel
theorem dX10_agreeing_42 : decode cX10_agreeing 42 = .ok (.iload_n 1, 1) := by decide +kernel
theorem dX10_agreeing_43 : decode cX10_agreeing 43 = .ok (.iaload, 1) := by decide +kernel
theorem dX10_agreeing_44 : decode cX10_agreeing 44 = .ok (.if_icmp .ne 7, 3) := by decide +kernel
theorem dX10_agreeing_47 : decode cX10_agreeing 47 = .ok (.iconst 1, 1) := by decide +kernel
theorem dX10_agreeing_48 : decode cX10_agreeing 48 = .ok (.goto 4, 3) := by decide +kernel
theorem dX10_agreeing_51 : decode cX10_agreeing 51 = .ok (.iconst 0, 1) := by decide +kernel
theorem dX10_agreeing_52 : decode cX10_agreeing 52 = .ok (.iadd, 1) := by decide +kernel
theorem dX10_agreeing_53 : decode cX10_agreeing 53 = .ok (.ireturn, 1) := by decide +kernel
theorem dX10_claim_0 : decode cX10_claim 0 = .ok (.iload_n 1, 1) := by decide +kernel
theorem dX10_claim_1 : decode cX10_claim 1 = .ok (.iconst 0, 1) := by decide +kernel
theorem dX10_claim_2 : decode cX10_claim 2 = .ok (.ldc 100, 2) := by decide +kernel
theorem dX10_claim_4 : decode cX10_claim 4 = .ok (.invokestatic 77, 3) := by decide +kernel
theorem dX10_claim_7 : decode cX10_claim 7 = .ok (.ifCond .eq 61, 3) := by decide +kernel
theorem dX10_claim_10 : decode cX10_claim 10 = .ok (.iload_n 2, 1) := by decide +kernel
theorem dX10_claim_11 : decode cX10_claim 11 = .ok (.iconst 0, 1) := by decide +kernel
theorem dX10_claim_12 : decode cX10_claim 12 = .ok (.ldc 100, 2) := by decide +kernel
theorem dX10_claim_14 : decode cX10_claim 14 = .ok (.invokestatic 77, 3) := by decide +kernel
theorem dX10_claim_17 : decode cX10_claim 17 = .ok (.ifCond .eq 51, 3) := by decide +kernel
theorem dX10_claim_20 : decode cX10_claim 20 = .ok (.iload_n 3, 1) := by decide +kernel
theorem dX10_claim_21 : decode cX10_claim 21 = .ok (.iconst 0, 1) := by decide +kernel
theorem dX10_claim_22 : decode cX10_claim 22 = .ok (.sipush 2000, 3) := by decide +kernel
theorem dX10_claim_25 : decode cX10_claim 25 = .ok (.invokestatic 77, 3) := by decide +kernel
theorem dX10_claim_28 : decode cX10_claim 28 = .ok (.ifCond .eq 40, 3) := by decide +kernel
theorem dX10_claim_31 : decode cX10_claim 31 = .ok (.iload 4, 2) := by decide +kernel
theorem dX10_claim_33 : decode cX10_claim 33 = .ok (.iload_n 3, 1) := by decide +kernel
theorem dX10_claim_34 : decode cX10_claim 34 = .ok (.sipush 2000, 3) := by decide +kernel
theorem dX10_claim_37 : decode cX10_claim 37 = .ok (.invokestatic 77, 3) := by decide +kernel
theorem dX10_claim_40 : decode cX10_claim 40 = .ok (.ifCond .eq 28, 3) := by decide +kernel
theorem dX10_claim_43 : decode cX10_claim 43 = .ok (.iload 5, 2) := by decide +kernel
theorem dX10_claim_45 : decode cX10_claim 45 = .ok (.iconst (-1), 1) := by decide +kernel
theorem dX10_claim_46 : decode cX10_claim 46 = .ok (.iconst 1, 1) := by decide +kernel
theorem dX10_claim_47 : decode cX10_claim 47 = .ok (.invokestatic 77, 3) := by decide +kernel
theorem dX10_claim_50 : decode cX10_claim 50 = .ok (.ifCond .eq 18, 3) := by decide +kernel
theorem dX10_claim_53 : decode cX10_claim 53 = .ok (.iload 6, 2) := by decide +kernel
theorem dX10_claim_55 : decode cX10_claim 55 = .ok (.iconst (-1), 1) := by decide +kernel
theorem dX10_claim_56 : decode cX10_claim 56 = .ok (.bipush 9, 2) := by decide +kernel
theorem dX10_claim_58 : decode cX10_claim 58 = .ok (.invokestatic 77, 3) := by decide +kernel
theorem dX10_claim_61 : decode cX10_claim 61 = .ok (.ifCond .eq 7, 3) := by decide +kernel
theorem dX10_claim_64 : decode cX10_claim 64 = .ok (.iconst 1, 1) := by decide +kernel
theorem dX10_claim_65 : decode cX10_claim 65 = .ok (.goto 4, 3) := by decide +kernel
theorem dX10_claim_68 : decode cX10_claim 68 = .ok (.iconst 0, 1) := by decide +kernel
theorem dX10_claim_69 : decode cX10_claim 69 = .ok (.istore 7, 2) := by decide +kernel
theorem dX10_claim_71 : decode cX10_claim 71 = .ok (.iload 7, 2) := by decide +kernel
theorem dX10_claim_73 : decode cX10_claim 73 = .ok (.ifCond .ne 6, 3) := by decide +kernel
theorem dX10_claim_76 : decode cX10_claim 76 = .ok (.bipush (-3), 2) := by decide +kernel
theorem dX10_claim_78 : decode cX10_claim 78 = .ok (.ireturn, 1) := by decide +kernel
theorem dX10_claim_79 : decode cX10_claim 79 = .ok (.aload_n 0, 1) := by decide +kernel
theorem dX10_claim_80 : decode cX10_claim 80 = .ok (.getfield 198, 3) := by decide +kernel
theorem dX10_claim_83 : decode cX10_claim 83 = .ok (.ifCond .ne 5, 3) := by decide +kernel
theorem dX10_claim_86 : decode cX10_claim 86 = .ok (.iconst (-1), 1) := by decide +kernel
theorem dX10_claim_87 : decode cX10_claim 87 = .ok (.ireturn, 1) := by decide +kernel
theorem dX10_claim_88 : decode cX10_claim 88 = .ok (.iconst 1, 1) := by decide +kernel
theorem dX10_claim_89 : decode cX10_claim 89 = .ok (.iload 5, 2) := by decide +kernel
theorem dX10_claim_91 : decode cX10_claim 91 = .ok (.iconst (-1), 1) := by decide +kernel
theorem dX10_claim_92 : decode cX10_claim 92 = .ok (.if_icmp .ne 7, 3) := by decide +kernel
theorem dX10_claim_95 : decode cX10_claim 95 = .ok (.iconst 0, 1) := by decide +kernel
theorem dX10_claim_96 : decode cX10_claim 96 = .ok (.goto 4, 3) := by decide +kernel
theorem dX10_claim_99 : decode cX10_claim 99 = .ok (.iconst 1, 1) := by decide +kernel
theorem dX10_claim_100 : decode cX10_claim 100 = .ok (.iadd, 1) := by decide +kernel
theorem dX10_claim_101 : decode cX10_claim 101 = .ok (.iload 6, 2) := by decide +kernel
theorem dX10_claim_103 : decode cX10_claim 103 = .ok (.iconst (-1), 1) := by decide +kernel
theorem dX10_claim_104 : decode cX10_claim 104 = .ok (.if_icmp .ne 7, 3) := by decide +kernel
theorem dX10_claim_107 : decode cX10_claim 107 = .ok (.iconst 0, 1) := by decide +kernel
theorem dX10_claim_108 : decode cX10_claim 108 = .ok (.goto 4, 3) := by decide +kernel
theorem dX10_claim_111 : decode cX10_claim 111 = .ok (.iconst 1, 1) := by decide +kernel
theorem dX10_claim_112 : decode cX10_claim 112 = .ok (.iadd, 1) := by decide +kernel
theorem dX10_claim_113 : decode cX10_claim 113 = .ok (.istore 8, 2) := by decide +kernel
theorem dX10_claim_115 : decode cX10_claim 115 = .ok (.iconst 0, 1) := by decide +kernel
theorem dX10_claim_116 : decode cX10_claim 116 = .ok (.istore 9, 2) := by decide +kernel
theorem dX10_claim_118 : decode cX10_claim 118 = .ok (.iconst 0, 1) := by decide +kernel
theorem dX10_claim_119 : decode cX10_claim 119 = .ok (.istore 10, 2) := by decide +kernel
theorem dX10_claim_121 : decode cX10_claim 121 = .ok (.iload 10, 2) := by decide +kernel
theorem dX10_claim_123 : decode cX10_claim 123 = .ok (.aload_n 0, 1) := by decide +kernel
theorem dX10_claim_124 : decode cX10_claim 124 = .ok (.getfield 101, 3) := by decide +kernel
theorem dX10_claim_127 : decode cX10_claim 127 = .ok (.if_icmp .ge 46, 3) := by decide +kernel
theorem dX10_claim_130 : decode cX10_claim 130 = .ok (.iload 9, 2) := by decide +kernel
theorem dX10_claim_132 : decode cX10_claim 132 = .ok (.aload_n 0, 1) := by decide +kernel
theorem dX10_claim_133 : decode cX10_claim 133 = .ok (.iload 10, 2) := by decide +kernel
theorem dX10_claim_135 : decode cX10_claim 135 = .ok (.invokevirtual 201, 3) := by decide +kernel
theorem dX10_claim_138 : decode cX10_claim 138 = .ok (.ifCond .eq 25, 3) := by decide +kernel
theorem dX10_claim_141 : decode cX10_claim 141 = .ok (.aload_n 0, 1) := by decide +kernel
theorem dX10_claim_142 : decode cX10_claim 142 = .ok (.iload 10, 2) := by decide +kernel
theorem dX10_claim_144 : decode cX10_claim 144 = .ok (.iload_n 3, 1) := by decide +kernel
theorem dX10_claim_145 : decode cX10_claim 145 = .ok (.iload 4, 2) := by decide +kernel
theorem dX10_claim_147 : decode cX10_claim 147 = .ok (.iload 5, 2) := by decide +kernel
theorem dX10_claim_149 : decode cX10_claim 149 = .ok (.iload 6, 2) := by decide +kernel
theorem dX10_claim_151 : decode cX10_claim 151 = .ok (.invokevirtual 204, 3) := by decide +kernel
theorem dX10_claim_154 : decode cX10_claim 154 = .ok (.iload 8, 2) := by decide +kernel
theorem dX10_claim_156 : decode cX10_claim 156 = .ok (.if_icmp .ne 7, 3) := by decide +kernel
theorem dX10_claim_159 : decode cX10_claim 159 = .ok (.iconst 1, 1) := by decide +kernel
theorem dX10_claim_160 : decode cX10_claim 160 = .ok (.goto 4, 3) := by decide +kernel
theorem dX10_claim_163 : decode cX10_claim 163 = .ok (.iconst 0, 1) := by decide +kernel
theorem dX10_claim_164 : decode cX10_claim 164 = .ok (.iadd, 1) := by decide +kernel
theorem dX10_claim_165 : decode cX10_claim 165 = .ok (.istore 9, 2) := by decide +kernel
theorem dX10_claim_167 : decode cX10_claim 167 = .ok (.iinc 10 1, 3) := by decide +kernel
theorem dX10_claim_170 : decode cX10_claim 170 = .ok (.goto (-49), 3) := by decide +kernel
theorem dX10_claim_173 : decode cX10_claim 173 = .ok (.iconst (-1), 1) := by decide +kernel
theorem dX10_claim_174 : decode cX10_claim 174 = .ok (.istore 10, 2) := by decide +kernel
theorem dX10_claim_176 : decode cX10_claim 176 = .ok (.iconst 0, 1) := by decide +kernel
theorem dX10_claim_177 : decode cX10_claim 177 = .ok (.istore 11, 2) := by decide +kernel
theorem dX10_claim_179 : decode cX10_claim 179 = .ok (.iload 11, 2) := by decide +kernel
theorem dX10_claim_181 : decode cX10_claim 181 = .ok (.aload_n 0, 1) := by decide +kernel
theorem dX10_claim_182 : decode cX10_claim 182 = .ok (.getfield 101, 3) := by decide +kernel
theorem dX10_claim_185 : decode cX10_claim 185 = .ok (.if_icmp .ge 82, 3) := by decide +kernel
theorem dX10_claim_188 : decode cX10_claim 188 = .ok (.aload_n 0, 1) := by decide +kernel
theorem dX10_claim_189 : decode cX10_claim 189 = .ok (.iload 11, 2) := by decide +kernel
theorem dX10_claim_191 : decode cX10_claim 191 = .ok (.iload_n 3, 1) := by decide +kernel
theorem dX10_claim_192 : decode cX10_claim 192 = .ok (.iload 4, 2) := by decide +kernel
theorem dX10_claim_194 : decode cX10_claim 194 = .ok (.iload 5, 2) := by decide +kernel
theorem dX10_claim_196 : decode cX10_claim 196 = .ok (.iload 6, 2) := by decide +kernel
theorem dX10_claim_198 : decode cX10_claim 198 = .ok (.invokevirtual 204, 3) := by decide +kernel
theorem dX10_claim_201 : decode cX10_claim 201 = .ok (.istore 12, 2) := by decide +kernel
theorem dX10_claim_203 : decode cX10_claim 203 = .ok (.aload_n 0, 1) := by decide +kernel
theorem dX10_claim_204 : decode cX10_claim 204 = .ok (.iload 11, 2) := by decide +kernel
theorem dX10_claim_206 : decode cX10_claim 206 = .ok (.invokevirtual 201, 3) := by decide +kernel
theorem dX10_claim_209 : decode cX10_claim 209 = .ok (.ifCond .eq 52, 3) := by decide +kernel
theorem dX10_claim_212 : decode cX10_claim 212 = .ok (.aload_n 0, 1) := by decide +kernel
theorem dX10_claim_213 : decode cX10_claim 213 = .ok (.aload_n 0, 1) := by decide +kernel
theorem dX10_claim_214 : decode cX10_claim 214 = .ok (.iload 11, 2) := by decide +kernel
theorem dX10_claim_216 : decode cX10_claim 216 = .ok (.iload_n 1, 1) := by decide +kernel
theorem dX10_claim_217 : decode cX10_claim 217 = .ok (.iload_n 2, 1) := by decide +kernel
theorem dX10_claim_218 : decode cX10_claim 218 = .ok (.invokevirtual 157, 3) := by decide +kernel
theorem dX10_claim_221 : decode cX10_claim 221 = .ok (.iload 12, 2) := by decide +kernel
theorem dX10_claim_223 : decode cX10_claim 223 = .ok (.iload 8, 2) := by decide +kernel
theorem dX10_claim_225 : decode cX10_claim 225 = .ok (.iload 12, 2) := by decide +kernel
theorem dX10_claim_227 : decode cX10_claim 227 = .ok (.isub, 1) := by decide +kernel
theorem dX10_claim_228 : decode cX10_claim 228 = .ok (.iload 9, 2) := by decide +kernel
theorem dX10_claim_230 : decode cX10_claim 230 = .ok (.aload_n 0, 1) := by decide +kernel
theorem dX10_claim_231 : decode cX10_claim 231 = .ok (.getfield 81, 3) := by decide +kernel
theorem dX10_claim_234 : decode cX10_claim 234 = .ok (.aload_n 0, 1) := by decide +kernel
theorem dX10_claim_235 : decode cX10_claim 235 = .ok (.getfield 19, 3) := by decide +kernel
theorem dX10_claim_238 : decode cX10_claim 238 = .ok (.iload 11, 2) := by decide +kernel
theorem dX10_claim_240 : decode cX10_claim 240 = .ok (.iaload, 1) := by decide +kernel
theorem dX10_claim_241 : decode cX10_claim 241 = .ok (.isub, 1) := by decide +kernel
theorem dX10_claim_242 : decode cX10_claim 242 = .ok (.invokevirtual 208, 3) := by decide +kernel
theorem dX10_claim_245 : decode cX10_claim 245 = .ok (.ifCond .eq 16, 3) := by decide +kernel
theorem dX10_claim_248 : decode cX10_claim 248 = .ok (.iload 10, 2) := by decide +kernel
theorem dX10_claim_250 : decode cX10_claim 250 = .ok (.iconst (-1), 1) := by decide +kernel
theorem dX10_claim_251 : decode cX10_claim 251 = .ok (.if_icmp .eq 6, 3) := by decide +kernel
theorem dX10_claim_254 : decode cX10_claim 254 = .ok (.bipush (-2), 2) := by decide +kernel
theorem dX10_claim_256 : decode cX10_claim 256 = .ok (.ireturn, 1) := by decide +kernel
theorem dX10_claim_257 : decode cX10_claim 257 = .ok (.iload 11, 2) := by decide +kernel
theorem dX10_claim_259 : decode cX10_claim 259 = .ok (.istore 10, 2) := by decide +kernel
theorem dX10_claim_261 : decode cX10_claim 261 = .ok (.iinc 11 1, 3) := by decide +kernel
theorem dX10_claim_264 : decode cX10_claim 264 = .ok (.goto (-85), 3) := by decide +kernel
theorem dX10_claim_267 : decode cX10_claim 267 = .ok (.iload 10, 2) := by decide +kernel
theorem dX10_claim_269 : decode cX10_claim 269 = .ok (.ireturn, 1) := by decide +kernel
theorem dX10_name_0 : decode cX10_name 0 = .ok (.aload_n 0, 1) := by decide +kernel
theorem dX10_name_1 : decode cX10_name 1 = .ok (.iload_n 1, 1) := by decide +kernel
theorem dX10_name_2 : decode cX10_name 2 = .ok (.invokevirtual 124, 3) := by decide +kernel
theorem dX10_name_5 : decode cX10_name 5 = .ok (.ifCond .eq 22, 3) := by decide +kernel
theorem dX10_name_8 : decode cX10_name 8 = .ok (.iload_n 2, 1) := by decide +kernel
theorem dX10_name_9 : decode cX10_name 9 = .ok (.iconst 1, 1) := by decide +kernel
theorem dX10_name_10 : decode cX10_name 10 = .ok (.ldc 212, 2) := by decide +kernel
theorem dX10_name_12 : decode cX10_name 12 = .ok (.invokestatic 77, 3) := by decide +kernel
theorem dX10_name_15 : decode cX10_name 15 = .ok (.ifCond .eq 12, 3) := by decide +kernel
theorem dX10_name_18 : decode cX10_name 18 = .ok (.aload_n 0, 1) := by decide +kernel
theorem dX10_name_19 : decode cX10_name 19 = .ok (.getfield 40, 3) := by decide +kernel
theorem dX10_name_22 : decode cX10_name 22 = .ok (.iload_n 1, 1) := by decide +kernel
theorem dX10_name_23 : decode cX10_name 23 = .ok (.iaload, 1) := by decide +kernel
theorem dX10_name_24 : decode cX10_name 24 = .ok (.ifCond .eq 5, 3) := by decide +kernel
theorem dX10_name_27 : decode cX10_name 27 = .ok (.iconst 0, 1) := by decide +kernel
theorem dX10_name_28 : decode cX10_name 28 = .ok (.ireturn, 1) := by decide +kernel
theorem dX10_name_29 : decode cX10_name 29 = .ok (.aload_n 0, 1) := by decide +kernel
theorem dX10_name_30 : decode cX10_name 30 = .ok (.getfield 40, 3) := by decide +kernel
theorem dX10_name_33 : decode cX10_name 33 = .ok (.iload_n 1, 1) := by decide +kernel
theorem dX10_name_34 : decode cX10_name 34 = .ok (.iload_n 2, 1) := by decide +kernel
theorem dX10_name_35 : decode cX10_name 35 = .ok (.iastore, 1) := by decide +kernel
theorem dX10_name_36 : decode cX10_name 36 = .ok (.iconst 1, 1) := by decide +kernel
theorem dX10_name_37 : decode cX10_name 37 = .ok (.ireturn, 1) := by decide +kernel
theorem dX10_areBoth_0 : decode cX10_areBoth 0 = .ok (.iload_n 1, 1) := by decide +kernel
theorem dX10_areBoth_1 : decode cX10_areBoth 1 = .ok (.iconst 0, 1) := by decide +kernel
theorem dX10_areBoth_2 : decode cX10_areBoth 2 = .ok (.bipush 19, 2) := by decide +kernel
theorem dX10_areBoth_4 : decode cX10_areBoth 4 = .ok (.invokestatic 77, 3) := by decide +kernel
theorem dX10_areBoth_7 : decode cX10_areBoth 7 = .ok (.ifCond .eq 15, 3) := by decide +kernel
theorem dX10_areBoth_10 : decode cX10_areBoth 10 = .ok (.aload_n 0, 1) := by decide +kernel
theorem dX10_areBoth_11 : decode cX10_areBoth 11 = .ok (.iload_n 2, 1) := by decide +kernel
theorem dX10_areBoth_12 : decode cX10_areBoth 12 = .ok (.invokevirtual 124, 3) := by decide +kernel
theorem dX10_areBoth_15 : decode cX10_areBoth 15 = .ok (.ifCond .eq 7, 3) := by decide +kernel
theorem dX10_areBoth_18 : decode cX10_areBoth 18 = .ok (.iconst 1, 1) := by decide +kernel
theorem dX10_areBoth_19 : decode cX10_areBoth 19 = .ok (.goto 4, 3) := by decide +kernel
theorem dX10_areBoth_22 : decode cX10_areBoth 22 = .ok (.iconst 0, 1) := by decide +kernel
theorem dX10_areBoth_23 : decode cX10_areBoth 23 = .ok (.ireturn, 1) := by decide +kernel
theorem dX10_allow_0 : decode cX10_allow 0 = .ok (.aload_n 0, 1) := by decide +kernel
theorem dX10_allow_1 : decode cX10_allow 1 = .ok (.iload_n 1, 1) := by decide +kernel
theorem dX10_allow_2 : decode cX10_allow 2 = .ok (.iload_n 2, 1) := by decide +kernel
theorem dX10_allow_3 : decode cX10_allow 3 = .ok (.invokevirtual 213, 3) := by decide +kernel
theorem dX10_allow_6 : decode cX10_allow 6 = .ok (.ifCond .eq 18, 3) := by decide +kernel
theorem dX10_allow_9 : decode cX10_allow 9 = .ok (.aload_n 0, 1) := by decide +kernel
theorem dX10_allow_10 : decode cX10_allow 10 = .ok (.getfield 43, 3) := by decide +kernel
theorem dX10_allow_13 : decode cX10_allow 13 = .ok (.bipush 20, 2) := by decide +kernel
theorem dX10_allow_15 : decode cX10_allow 15 = .ok (.iload_n 2, 1) := by decide +kernel
theorem dX10_allow_16 : decode cX10_allow 16 = .ok (.imul, 1) := by decide +kernel
theorem dX10_allow_17 : decode cX10_allow 17 = .ok (.iload_n 1, 1) := by decide +kernel
theorem dX10_allow_18 : decode cX10_allow 18 = .ok (.iadd, 1) := by decide +kernel
theorem dX10_allow_19 : decode cX10_allow 19 = .ok (.baload, 1) := by decide +kernel
theorem dX10_allow_20 : decode cX10_allow 20 = .ok (.iload_n 3, 1) := by decide +kernel
theorem dX10_allow_21 : decode cX10_allow 21 = .ok (.if_icmp .ne 5, 3) := by decide +kernel
theorem dX10_allow_24 : decode cX10_allow 24 = .ok (.iconst 0, 1) := by decide +kernel
theorem dX10_allow_25 : decode cX10_allow 25 = .ok (.ireturn, 1) := by decide +kernel
theorem dX10_allow_26 : decode cX10_allow 26 = .ok (.aload_n 0, 1) := by decide +kernel
theorem dX10_allow_27 : decode cX10_allow 27 = .ok (.getfield 43, 3) := by decide +kernel
theorem dX10_allow_30 : decode cX10_allow 30 = .ok (.bipush 20, 2) := by decide +kernel
theorem dX10_allow_32 : decode cX10_allow 32 = .ok (.iload_n 2, 1) := by decide +kernel
theorem dX10_allow_33 : decode cX10_allow 33 = .ok (.imul, 1) := by decide +kernel
theorem dX10_allow_34 : decode cX10_allow 34 = .ok (.iload_n 1, 1) := by decide +kernel
theorem dX10_allow_35 : decode cX10_allow 35 = .ok (.iadd, 1) := by decide +kernel
theorem dX10_allow_36 : decode cX10_allow 36 = .ok (.iload_n 3, 1) := by decide +kernel
theorem dX10_allow_37 : decode cX10_allow 37 = .ok (.bastore, 1) := by decide +kernel
theorem dX10_allow_38 : decode cX10_allow 38 = .ok (.iconst 1, 1) := by decide +kernel
theorem dX10_allow_39 : decode cX10_allow 39 = .ok (.ireturn, 1) := by decide +kernel
theorem dX10_ask_0 : decode cX10_ask 0 = .ok (.aload_n 0, 1) := by decide +kernel
theorem dX10_ask_1 : decode cX10_ask 1 = .ok (.iload_n 1, 1) := by decide +kernel
theorem dX10_ask_2 : decode cX10_ask 2 = .ok (.iload_n 2, 1) := by decide +kernel
theorem dX10_ask_3 : decode cX10_ask 3 = .ok (.invokevirtual 213, 3) := by decide +kernel
theorem dX10_ask_6 : decode cX10_ask 6 = .ok (.ifCond .eq 30, 3) := by decide +kernel
theorem dX10_ask_9 : decode cX10_ask 9 = .ok (.aload_n 0, 1) := by decide +kernel
theorem dX10_ask_10 : decode cX10_ask 10 = .ok (.getfield 43, 3) := by decide +kernel
theorem dX10_ask_13 : decode cX10_ask 13 = .ok (.bipush 20, 2) := by decide +kernel
theorem dX10_ask_15 : decode cX10_ask 15 = .ok (.iload_n 2, 1) := by decide +kernel
theorem dX10_ask_16 : decode cX10_ask 16 = .ok (.imul, 1) := by decide +kernel
theorem dX10_ask_17 : decode cX10_ask 17 = .ok (.iload_n 1, 1) := by decide +kernel
theorem dX10_ask_18 : decode cX10_ask 18 = .ok (.iadd, 1) := by decide +kernel
theorem dX10_ask_19 : decode cX10_ask 19 = .ok (.baload, 1) := by decide +kernel
theorem dX10_ask_20 : decode cX10_ask 20 = .ok (.ifCond .eq 12, 3) := by decide +kernel
theorem dX10_ask_23 : decode cX10_ask 23 = .ok (.aload_n 0, 1) := by decide +kernel
theorem dX10_ask_24 : decode cX10_ask 24 = .ok (.getfield 40, 3) := by decide +kernel
theorem dX10_ask_27 : decode cX10_ask 27 = .ok (.iload_n 2, 1) := by decide +kernel
theorem dX10_ask_28 : decode cX10_ask 28 = .ok (.iaload, 1) := by decide +kernel
theorem dX10_ask_29 : decode cX10_ask 29 = .ok (.goto 8, 3) := by decide +kernel
theorem dX10_ask_32 : decode cX10_ask 32 = .ok (.iconst 0, 1) := by decide +kernel
theorem dX10_ask_33 : decode cX10_ask 33 = .ok (.goto 4, 3) := by decide +kernel
theorem dX10_ask_36 : decode cX10_ask 36 = .ok (.iconst (-1), 1) := by decide +kernel
theorem dX10_ask_37 : decode cX10_ask 37 = .ok (.ireturn, 1) := by decide +kernel
theorem dX10_guess_0 : decode cX10_guess 0 = .ok (.aload_n 0, 1) := by decide +kernel
theorem dX10_guess_1 : decode cX10_guess 1 = .ok (.iload_n 1, 1) := by decide +kernel
theorem dX10_guess_2 : decode cX10_guess 2 = .ok (.iload_n 2, 1) := by decide +kernel
theorem dX10_guess_3 : decode cX10_guess 3 = .ok (.invokevirtual 213, 3) := by decide +kernel
theorem dX10_guess_6 : decode cX10_guess 6 = .ok (.ifCond .eq 13, 3) := by decide +kernel
theorem dX10_guess_9 : decode cX10_guess 9 = .ok (.iload_n 3, 1) := by decide +kernel
theorem dX10_guess_10 : decode cX10_guess 10 = .ok (.iconst 1, 1) := by decide +kernel
theorem dX10_guess_11 : decode cX10_guess 11 = .ok (.ldc 212, 2) := by decide +kernel
theorem dX10_guess_13 : decode cX10_guess 13 = .ok (.invokestatic 77, 3) := by decide +kernel
theorem dX10_guess_16 : decode cX10_guess 16 = .ok (.ifCond .ne 5, 3) := by decide +kernel
theorem dX10_guess_19 : decode cX10_guess 19 = .ok (.iconst (-1), 1) := by decide +kernel
theorem dX10_guess_20 : decode cX10_guess 20 = .ok (.ireturn, 1) := by decide +kernel
theorem dX10_guess_21 : decode cX10_guess 21 = .ok (.aload_n 0, 1) := by decide +kernel
theorem dX10_guess_22 : decode cX10_guess 22 = .ok (.getfield 43, 3) := by decide +kernel
theorem dX10_guess_25 : decode cX10_guess 25 = .ok (.bipush 20, 2) := by decide +kernel
theorem dX10_guess_27 : decode cX10_guess 27 = .ok (.iload_n 2, 1) := by decide +kernel
theorem dX10_guess_28 : decode cX10_guess 28 = .ok (.imul, 1) := by decide +kernel
theorem dX10_guess_29 : decode cX10_guess 29 = .ok (.iload_n 1, 1) := by decide +kernel
theorem dX10_guess_30 : decode cX10_guess 30 = .ok (.iadd, 1) := by decide +kernel
theorem dX10_guess_31 : decode cX10_guess 31 = .ok (.baload, 1) := by decide +kernel
theorem dX10_guess_32 : decode cX10_guess 32 = .ok (.ifCond .eq 17, 3) := by decide +kernel
theorem dX10_guess_35 : decode cX10_guess 35 = .ok (.aload_n 0, 1) := by decide +kernel
theorem dX10_guess_36 : decode cX10_guess 36 = .ok (.getfield 40, 3) := by decide +kernel
theorem dX10_guess_39 : decode cX10_guess 39 = .ok (.iload_n 2, 1) := by decide +kernel
theorem dX10_guess_40 : decode cX10_guess 40 = .ok (.iaload, 1) := by decide +kernel
theorem dX10_guess_41 : decode cX10_guess 41 = .ok (.iload_n 3, 1) := by decide +kernel
theorem dX10_guess_42 : decode cX10_guess 42 = .ok (.if_icmp .ne 7, 3) := by decide +kernel
theorem dX10_guess_45 : decode cX10_guess 45 = .ok (.iconst 1, 1) := by decide +kernel
theorem dX10_guess_46 : decode cX10_guess 46 = .ok (.goto 4, 3) := by decide +kernel
theorem dX10_guess_49 : decode cX10_guess 49 = .ok (.iconst 0, 1) := by decide +kernel
theorem dX10_guess_50 : decode cX10_guess 50 = .ok (.ireturn, 1) := by decide +kernel
theorem dX10_told_0 : decode cX10_told 0 = .ok (.aload_n 0, 1) := by decide +kernel
theorem dX10_told_1 : decode cX10_told 1 = .ok (.iload_n 1, 1) := by decide +kernel
theorem dX10_told_2 : decode cX10_told 2 = .ok (.invokevirtual 124, 3) := by decide +kernel
theorem dX10_told_5 : decode cX10_told 5 = .ok (.ifCond .ne 5, 3) := by decide +kernel
theorem dX10_told_8 : decode cX10_told 8 = .ok (.iconst (-1), 1) := by decide +kernel
theorem dX10_told_9 : decode cX10_told 9 = .ok (.ireturn, 1) := by decide +kernel
theorem dX10_told_10 : decode cX10_told 10 = .ok (.iconst 0, 1) := by decide +kernel
theorem dX10_told_11 : decode cX10_told 11 = .ok (.istore_n 3, 1) := by decide +kernel
theorem dX10_told_12 : decode cX10_told 12 = .ok (.iconst 0, 1) := by decide +kernel
theorem dX10_told_13 : decode cX10_told 13 = .ok (.istore 4, 2) := by decide +kernel
theorem dX10_told_15 : decode cX10_told 15 = .ok (.iload 4, 2) := by decide +kernel
theorem dX10_told_17 : decode cX10_told 17 = .ok (.aload_n 0, 1) := by decide +kernel
theorem dX10_told_18 : decode cX10_told 18 = .ok (.getfield 104, 3) := by decide +kernel
theorem dX10_told_21 : decode cX10_told 21 = .ok (.if_icmp .ge 28, 3) := by decide +kernel
theorem dX10_told_24 : decode cX10_told 24 = .ok (.iload_n 3, 1) := by decide +kernel
theorem dX10_told_25 : decode cX10_told 25 = .ok (.aload_n 0, 1) := by decide +kernel
theorem dX10_told_26 : decode cX10_told 26 = .ok (.getfield 47, 3) := by decide +kernel
theorem dX10_told_29 : decode cX10_told 29 = .ok (.iload 4, 2) := by decide +kernel
theorem dX10_told_31 : decode cX10_told 31 = .ok (.iaload, 1) := by decide +kernel
theorem dX10_told_32 : decode cX10_told 32 = .ok (.iload_n 1, 1) := by decide +kernel
theorem dX10_told_33 : decode cX10_told 33 = .ok (.if_icmp .ne 7, 3) := by decide +kernel
theorem dX10_told_36 : decode cX10_told 36 = .ok (.iconst 1, 1) := by decide +kernel
theorem dX10_told_37 : decode cX10_told 37 = .ok (.goto 4, 3) := by decide +kernel
theorem dX10_told_40 : decode cX10_told 40 = .ok (.iconst 0, 1) := by decide +kernel
theorem dX10_told_41 : decode cX10_told 41 = .ok (.iadd, 1) := by decide +kernel
theorem dX10_told_42 : decode cX10_told 42 = .ok (.istore_n 3, 1) := by decide +kernel
theorem dX10_told_43 : decode cX10_told 43 = .ok (.iinc 4 1, 3) := by decide +kernel
theorem dX10_told_46 : decode cX10_told 46 = .ok (.goto (-31), 3) := by decide +kernel
theorem dX10_told_49 : decode cX10_told 49 = .ok (.iload_n 2, 1) := by decide +kernel
theorem dX10_told_50 : decode cX10_told 50 = .ok (.tableswitch 97 0 7 #[46, 53, 60, 67, 74, 81, 88, 95], 46) := by decide +kernel
theorem dX10_told_96 : decode cX10_told 96 = .ok (.aload_n 0, 1) := by decide +kernel
theorem dX10_told_97 : decode cX10_told 97 = .ok (.getfield 19, 3) := by decide +kernel
theorem dX10_told_100 : decode cX10_told 100 = .ok (.iload_n 1, 1) := by decide +kernel
theorem dX10_told_101 : decode cX10_told 101 = .ok (.iaload, 1) := by decide +kernel
theorem dX10_told_102 : decode cX10_told 102 = .ok (.ireturn, 1) := by decide +kernel
theorem dX10_told_103 : decode cX10_told 103 = .ok (.aload_n 0, 1) := by decide +kernel
theorem dX10_told_104 : decode cX10_told 104 = .ok (.getfield 22, 3) := by decide +kernel
theorem dX10_told_107 : decode cX10_told 107 = .ok (.iload_n 1, 1) := by decide +kernel
theorem dX10_told_108 : decode cX10_told 108 = .ok (.iaload, 1) := by decide +kernel
theorem dX10_told_109 : decode cX10_told 109 = .ok (.ireturn, 1) := by decide +kernel
theorem dX10_told_110 : decode cX10_told 110 = .ok (.aload_n 0, 1) := by decide +kernel
theorem dX10_told_111 : decode cX10_told 111 = .ok (.getfield 25, 3) := by decide +kernel
theorem dX10_told_114 : decode cX10_told 114 = .ok (.iload_n 1, 1) := by decide +kernel
theorem dX10_told_115 : decode cX10_told 115 = .ok (.iaload, 1) := by decide +kernel
theorem dX10_told_116 : decode cX10_told 116 = .ok (.ireturn, 1) := by decide +kernel
theorem dX10_told_117 : decode cX10_told 117 = .ok (.aload_n 0, 1) := by decide +kernel
theorem dX10_told_118 : decode cX10_told 118 = .ok (.getfield 28, 3) := by decide +kernel
theorem dX10_told_121 : decode cX10_told 121 = .ok (.iload_n 1, 1) := by decide +kernel
theorem dX10_told_122 : decode cX10_told 122 = .ok (.iaload, 1) := by decide +kernel
theorem dX10_told_123 : decode cX10_told 123 = .ok (.ireturn, 1) := by decide +kernel
theorem dX10_told_124 : decode cX10_told 124 = .ok (.aload_n 0, 1) := by decide +kernel
theorem dX10_told_125 : decode cX10_told 125 = .ok (.getfield 31, 3) := by decide +kernel
theorem dX10_told_128 : decode cX10_told 128 = .ok (.iload_n 1, 1) := by decide +kernel
theorem dX10_told_129 : decode cX10_told 129 = .ok (.iaload, 1) := by decide +kernel
theorem dX10_told_130 : decode cX10_told 130 = .ok (.ireturn, 1) := by decide +kernel
theorem dX10_told_131 : decode cX10_told 131 = .ok (.aload_n 0, 1) := by decide +kernel
theorem dX10_told_132 : decode cX10_told 132 = .ok (.getfield 34, 3) := by decide +kernel
theorem dX10_told_135 : decode cX10_told 135 = .ok (.iload_n 1, 1) := by decide +kernel
theorem dX10_told_136 : decode cX10_told 136 = .ok (.iaload, 1) := by decide +kernel
theorem dX10_told_137 : decode cX10_told 137 = .ok (.ireturn, 1) := by decide +kernel
theorem dX10_told_138 : decode cX10_told 138 = .ok (.aload_n 0, 1) := by decide +kernel
theorem dX10_told_139 : decode cX10_told 139 = .ok (.getfield 37, 3) := by decide +kernel
theorem dX10_told_142 : decode cX10_told 142 = .ok (.iload_n 1, 1) := by decide +kernel
theorem dX10_told_143 : decode cX10_told 143 = .ok (.iaload, 1) := by decide +kernel
theorem dX10_told_144 : decode cX10_told 144 = .ok (.ireturn, 1) := by decide +kernel
theorem dX10_told_145 : decode cX10_told 145 = .ok (.iload_n 3, 1) := by decide +kernel
theorem dX10_told_146 : decode cX10_told 146 = .ok (.ireturn, 1) := by decide +kernel
theorem dX10_told_147 : decode cX10_told 147 = .ok (.iconst (-1), 1) := by decide +kernel
theorem dX10_told_148 : decode cX10_told 148 = .ok (.ireturn, 1) := by decide +kernel
theorem dX10_count_0 : decode cX10_count 0 = .ok (.iload_n 1, 1) := by decide +kernel
theorem dX10_count_1 : decode cX10_count 1 = .ok (.tableswitch 96 0 7 #[47, 52, 57, 62, 67, 72, 77, 82], 47) := by decide +kernel
theorem dX10_count_48 : decode cX10_count 48 = .ok (.aload_n 0, 1) := by decide +kernel
theorem dX10_count_49 : decode cX10_count 49 = .ok (.getfield 81, 3) := by decide +kernel
theorem dX10_count_52 : decode cX10_count 52 = .ok (.ireturn, 1) := by decide +kernel
theorem dX10_count_53 : decode cX10_count 53 = .ok (.aload_n 0, 1) := by decide +kernel
theorem dX10_count_54 : decode cX10_count 54 = .ok (.getfield 101, 3) := by decide +kernel
theorem dX10_count_57 : decode cX10_count 57 = .ok (.ireturn, 1) := by decide +kernel
theorem dX10_count_58 : decode cX10_count 58 = .ok (.aload_n 0, 1) := by decide +kernel
theorem dX10_count_59 : decode cX10_count 59 = .ok (.getfield 85, 3) := by decide +kernel
theorem dX10_count_62 : decode cX10_count 62 = .ok (.ireturn, 1) := by decide +kernel
theorem dX10_count_63 : decode cX10_count 63 = .ok (.aload_n 0, 1) := by decide +kernel
theorem dX10_count_64 : decode cX10_count 64 = .ok (.getfield 104, 3) := by decide +kernel
theorem dX10_count_67 : decode cX10_count 67 = .ok (.ireturn, 1) := by decide +kernel
theorem dX10_count_68 : decode cX10_count 68 = .ok (.aload_n 0, 1) := by decide +kernel
theorem dX10_count_69 : decode cX10_count 69 = .ok (.getfield 130, 3) := by decide +kernel
theorem dX10_count_72 : decode cX10_count 72 = .ok (.ireturn, 1) := by decide +kernel
theorem dX10_count_73 : decode cX10_count 73 = .ok (.aload_n 0, 1) := by decide +kernel
theorem dX10_count_74 : decode cX10_count 74 = .ok (.getfield 160, 3) := by decide +kernel
theorem dX10_count_77 : decode cX10_count 77 = .ok (.ireturn, 1) := by decide +kernel
theorem dX10_count_78 : decode cX10_count 78 = .ok (.aload_n 0, 1) := by decide +kernel
theorem dX10_count_79 : decode cX10_count 79 = .ok (.getfield 198, 3) := by decide +kernel
theorem dX10_count_82 : decode cX10_count 82 = .ok (.ireturn, 1) := by decide +kernel
theorem dX10_count_83 : decode cX10_count 83 = .ok (.aload_n 0, 1) := by decide +kernel
theorem dX10_count_84 : decode cX10_count 84 = .ok (.iconst 0, 1) := by decide +kernel
theorem dX10_count_85 : decode cX10_count 85 = .ok (.aload_n 0, 1) := by decide +kernel
theorem dX10_count_86 : decode cX10_count 86 = .ok (.getfield 81, 3) := by decide +kernel
theorem dX10_count_89 : decode cX10_count 89 = .ok (.aload_n 0, 1) := by decide +kernel
theorem dX10_count_90 : decode cX10_count 90 = .ok (.getfield 81, 3) := by decide +kernel
theorem dX10_count_93 : decode cX10_count 93 = .ok (.invokevirtual 118, 3) := by decide +kernel
theorem dX10_count_96 : decode cX10_count 96 = .ok (.ireturn, 1) := by decide +kernel
theorem dX10_count_97 : decode cX10_count 97 = .ok (.iconst (-1), 1) := by decide +kernel
theorem dX10_count_98 : decode cX10_count 98 = .ok (.ireturn, 1) := by decide +kernel
theorem dJ9_max_7cf53_0 : decode cJ9_max_7cf53 0 = .ok (.iload_n 0, 1) := by decide +kernel
theorem dJ9_max_7cf53_1 : decode cJ9_max_7cf53 1 = .ok (.iload_n 1, 1) := by decide +kernel
theorem dJ9_max_7cf53_2 : decode cJ9_max_7cf53 2 = .ok (.if_icmp .lt 7, 3) := by decide +kernel
theorem dJ9_max_7cf53_5 : decode cJ9_max_7cf53 5 = .ok (.iload_n 0, 1) := by decide +kernel
theorem dJ9_max_7cf53_6 : decode cJ9_max_7cf53 6 = .ok (.goto 4, 3) := by decide +kernel
theorem dJ9_max_7cf53_9 : decode cJ9_max_7cf53 9 = .ok (.iload_n 1, 1) := by decide +kernel
theorem dJ9_max_7cf53_10 : decode cJ9_max_7cf53 10 = .ok (.ireturn, 1) := by decide +kernel
theorem dJ9_min_7cf53_0 : decode cJ9_min_7cf53 0 = .ok (.iload_n 0, 1) := by decide +kernel
theorem dJ9_min_7cf53_1 : decode cJ9_min_7cf53 1 = .ok (.iload_n 1, 1) := by decide +kernel
theorem dJ9_min_7cf53_2 : decode cJ9_min_7cf53 2 = .ok (.if_icmp .gt 7, 3) := by decide +kernel
theorem dJ9_min_7cf53_5 : decode cJ9_min_7cf53 5 = .ok (.iload_n 0, 1) := by decide +kernel
theorem dJ9_min_7cf53_6 : decode cJ9_min_7cf53 6 = .ok (.goto 4, 3) := by decide +kernel
theorem dJ9_min_7cf53_9 : decode cJ9_min_7cf53 9 = .ok (.iload_n 1, 1) := by decide +kernel
theorem dJ9_min_7cf53_10 : decode cJ9_min_7cf53 10 = .ok (.ireturn, 1) := by decide +kernel
