theorem dX7_init_0 : decode cX7_init 0 = .ok (.aload_n 0, 1) := by decide +kernel
theorem dX7_init_1 : decode cX7_init 1 = .ok (.invokespecial 1, 3) := by decide +kernel
theorem dX7_init_4 : decode cX7_init 4 = .ok (.aload_n 0, 1) := by decide +kernel
theorem dX7_init_5 : decode cX7_init 5 = .ok (.bipush 50, 2) := by decide +kernel
theorem dX7_init_7 : decode cX7_init 7 = .ok (.newarray .int, 2) := by decide +kernel
theorem dX7_init_9 : decode cX7_init 9 = .ok (.putfield 9, 3) := by decide +kernel
theorem dX7_init_12 : decode cX7_init 12 = .ok (.aload_n 0, 1) := by decide +kernel
theorem dX7_init_13 : decode cX7_init 13 = .ok (.bipush 50, 2) := by decide +kernel
theorem dX7_init_15 : decode cX7_init 15 = .ok (.newarray .int, 2) := by decide +kernel
theorem dX7_init_17 : decode cX7_init 17 = .ok (.putfield 13, 3) := by decide +kernel
theorem dX7_init_20 : decode cX7_init 20 = .ok (.aload_n 0, 1) := by decide +kernel
theorem dX7_init_21 : decode cX7_init 21 = .ok (.bipush 50, 2) := by decide +kernel
theorem dX7_init_23 : decode cX7_init 23 = .ok (.newarray .int, 2) := by decide +kernel
theorem dX7_init_25 : decode cX7_init 25 = .ok (.putfield 16, 3) := by decide +kernel
theorem dX7_init_28 : decode cX7_init 28 = .ok (.aload_n 0, 1) := by decide +kernel
theorem dX7_init_29 : decode cX7_init 29 = .ok (.bipush 8, 2) := by decide +kernel
theorem dX7_init_31 : decode cX7_init 31 = .ok (.newarray .int, 2) := by decide +kernel
theorem dX7_init_33 : decode cX7_init 33 = .ok (.putfield 19, 3) := by decide +kernel
theorem dX7_init_36 : decode cX7_init 36 = .ok (.aload_n 0, 1) := by decide +kernel
theorem dX7_init_37 : decode cX7_init 37 = .ok (.sipush 350, 3) := by decide +kernel
theorem dX7_init_40 : decode cX7_init 40 = .ok (.newarray .int, 2) := by decide +kernel
theorem dX7_init_42 : decode cX7_init 42 = .ok (.putfield 22, 3) := by decide +kernel
theorem dX7_init_45 : decode cX7_init 45 = .ok (.aload_n 0, 1) := by decide +kernel
theorem dX7_init_46 : decode cX7_init 46 = .ok (.bipush 6, 2) := by decide +kernel
theorem dX7_init_48 : decode cX7_init 48 = .ok (.newarray .int, 2) := by decide +kernel
theorem dX7_init_50 : decode cX7_init 50 = .ok (.putfield 25, 3) := by decide +kernel
theorem dX7_init_53 : decode cX7_init 53 = .ok (.aload_n 0, 1) := by decide +kernel
theorem dX7_init_54 : decode cX7_init 54 = .ok (.bipush 6, 2) := by decide +kernel
theorem dX7_init_56 : decode cX7_init 56 = .ok (.newarray .int, 2) := by decide +kernel
theorem dX7_init_58 : decode cX7_init 58 = .ok (.putfield 28, 3) := by decide +kernel
theorem dX7_init_61 : decode cX7_init 61 = .ok (.aload_n 0, 1) := by decide +kernel
theorem dX7_init_62 : decode cX7_init 62 = .ok (.bipush 120, 2) := by decide +kernel
theorem dX7_init_64 : decode cX7_init 64 = .ok (.newarray .int, 2) := by decide +kernel
theorem dX7_init_66 : decode cX7_init 66 = .ok (.putfield 31, 3) := by decide +kernel
theorem dX7_init_69 : decode cX7_init 69 = .ok (.aload_n 0, 1) := by decide +kernel
theorem dX7_init_70 : decode cX7_init 70 = .ok (.bipush 7, 2) := by decide +kernel
theorem dX7_init_72 : decode cX7_init 72 = .ok (.anewarray 34, 3) := by decide +kernel
theorem dX7_init_75 : decode cX7_init 75 = .ok (.dup, 1) := by decide +kernel
theorem dX7_init_76 : decode cX7_init 76 = .ok (.iconst 0, 1) := by decide +kernel
theorem dX7_init_77 : decode cX7_init 77 = .ok (.ldc 36, 2) := by decide +kernel
theorem dX7_init_79 : decode cX7_init 79 = .ok (.aastore, 1) := by decide +kernel
theorem dX7_init_80 : decode cX7_init 80 = .ok (.dup, 1) := by decide +kernel
theorem dX7_init_81 : decode cX7_init 81 = .ok (.iconst 1, 1) := by decide +kernel
theorem dX7_init_82 : decode cX7_init 82 = .ok (.ldc 38, 2) := by decide +kernel
theorem dX7_init_84 : decode cX7_init 84 = .ok (.aastore, 1) := by decide +kernel
theorem dX7_init_85 : decode cX7_init 85 = .ok (.dup, 1) := by decide +kernel
theorem dX7_init_86 : decode cX7_init 86 = .ok (.iconst 2, 1) := by decide +kernel
theorem dX7_init_87 : decode cX7_init 87 = .ok (.ldc 40, 2) := by decide +kernel
theorem dX7_init_89 : decode cX7_init 89 = .ok (.aastore, 1) := by decide +kernel
theorem dX7_init_90 : decode cX7_init 90 = .ok (.dup, 1) := by decide +kernel
theorem dX7_init_91 : decode cX7_init 91 = .ok (.iconst 3, 1) := by decide +kernel
theorem dX7_init_92 : decode cX7_init 92 = .ok (.ldc 42, 2) := by decide +kernel
theorem dX7_init_94 : decode cX7_init 94 = .ok (.aastore, 1) := by decide +kernel
theorem dX7_init_95 : decode cX7_init 95 = .ok (.dup, 1) := by decide +kernel
theorem dX7_init_96 : decode cX7_init 96 = .ok (.iconst 4, 1) := by decide +kernel
theorem dX7_init_97 : decode cX7_init 97 = .ok (.ldc 44, 2) := by decide +kernel
theorem dX7_init_99 : decode cX7_init 99 = .ok (.aastore, 1) := by decide +kernel
theorem dX7_init_100 : decode cX7_init 100 = .ok (.dup, 1) := by decide +kernel
theorem dX7_init_101 : decode cX7_init 101 = .ok (.iconst 5, 1) := by decide +kernel
theorem dX7_init_102 : decode cX7_init 102 = .ok (.ldc 46, 2) := by decide +kernel
theorem dX7_init_104 : decode cX7_init 104 = .ok (.aastore, 1) := by decide +kernel
theorem dX7_init_105 : decode cX7_init 105 = .ok (.dup, 1) := by decide +kernel
theorem dX7_init_106 : decode cX7_init 106 = .ok (.bipush 6, 2) := by decide +kernel
theorem dX7_init_108 : decode cX7_init 108 = .ok (.ldc 48, 2) := by decide +kernel
theorem dX7_init_110 : decode cX7_init 110 = .ok (.aastore, 1) := by decide +kernel
theorem dX7_init_111 : decode cX7_init 111 = .ok (.putfield 50, 3) := by decide +kernel
theorem dX7_init_114 : decode cX7_init 114 = .ok (.aload_n 0, 1) := by decide +kernel
theorem dX7_init_115 : decode cX7_init 115 = .ok (.sipush 360, 3) := by decide +kernel
theorem dX7_init_118 : decode cX7_init 118 = .ok (.newarray .int, 2) := by decide +kernel
theorem dX7_init_120 : decode cX7_init 120 = .ok (.putfield 54, 3) := by decide +kernel
theorem dX7_init_123 : decode cX7_init 123 = .ok (.aload_n 0, 1) := by decide +kernel
theorem dX7_init_124 : decode cX7_init 124 = .ok (.iconst 4, 1) := by decide +kernel
theorem dX7_init_125 : decode cX7_init 125 = .ok (.newarray .int, 2) := by decide +kernel
theorem dX7_init_127 : decode cX7_init 127 = .ok (.putfield 57, 3) := by decide +kernel
theorem dX7_init_130 : decode cX7_init 130 = .ok (.aload_n 0, 1) := by decide +kernel
theorem dX7_init_131 : decode cX7_init 131 = .ok (.iconst 4, 1) := by decide +kernel
theorem dX7_init_132 : decode cX7_init 132 = .ok (.newarray .int, 2) := by decide +kernel
theorem dX7_init_134 : decode cX7_init 134 = .ok (.putfield 60, 3) := by decide +kernel
theorem dX7_init_137 : decode cX7_init 137 = .ok (.aload_n 0, 1) := by decide +kernel
theorem dX7_init_138 : decode cX7_init 138 = .ok (.sipush 160, 3) := by decide +kernel
theorem dX7_init_141 : decode cX7_init 141 = .ok (.newarray .int, 2) := by decide +kernel
theorem dX7_init_143 : decode cX7_init 143 = .ok (.putfield 63, 3) := by decide +kernel
theorem dX7_init_146 : decode cX7_init 146 = .ok (.aload_n 0, 1) := by decide +kernel
theorem dX7_init_147 : decode cX7_init 147 = .ok (.bipush 40, 2) := by decide +kernel
theorem dX7_init_149 : decode cX7_init 149 = .ok (.newarray .int, 2) := by decide +kernel
theorem dX7_init_151 : decode cX7_init 151 = .ok (.putfield 66, 3) := by decide +kernel
theorem dX7_init_154 : decode cX7_init 154 = .ok (.aload_n 0, 1) := by decide +kernel
theorem dX7_init_155 : decode cX7_init 155 = .ok (.getfield 9, 3) := by decide +kernel
theorem dX7_init_158 : decode cX7_init 158 = .ok (.iconst 2, 1) := by decide +kernel
theorem dX7_init_159 : decode cX7_init 159 = .ok (.iconst 1, 1) := by decide +kernel
theorem dX7_init_160 : decode cX7_init 160 = .ok (.iastore, 1) := by decide +kernel
theorem dX7_init_161 : decode cX7_init 161 = .ok (.iconst 0, 1) := by decide +kernel
theorem dX7_init_162 : decode cX7_init 162 = .ok (.istore_n 1, 1) := by decide +kernel
theorem dX7_init_163 : decode cX7_init 163 = .ok (.iload_n 1, 1) := by decide +kernel
theorem dX7_init_164 : decode cX7_init 164 = .ok (.bipush 12, 2) := by decide +kernel
theorem dX7_init_166 : decode cX7_init 166 = .ok (.if_icmp .ge 20, 3) := by decide +kernel
theorem dX7_init_169 : decode cX7_init 169 = .ok (.aload_n 0, 1) := by decide +kernel
theorem dX7_init_170 : decode cX7_init 170 = .ok (.getfield 9, 3) := by decide +kernel
theorem dX7_init_173 : decode cX7_init 173 = .ok (.bipush 14, 2) := by decide +kernel
theorem dX7_init_175 : decode cX7_init 175 = .ok (.iload_n 1, 1) := by decide +kernel
theorem dX7_init_176 : decode cX7_init 176 = .ok (.iadd, 1) := by decide +kernel
theorem dX7_init_177 : decode cX7_init 177 = .ok (.bipush 50, 2) := by decide +kernel
theorem dX7_init_179 : decode cX7_init 179 = .ok (.iastore, 1) := by decide +kernel
theorem dX7_init_180 : decode cX7_init 180 = .ok (.iinc 1 1, 3) := by decide +kernel
theorem dX7_init_183 : decode cX7_init 183 = .ok (.goto (-20), 3) := by decide +kernel
theorem dX7_init_186 : decode cX7_init 186 = .ok (.iconst 0, 1) := by decide +kernel
theorem dX7_init_187 : decode cX7_init 187 = .ok (.istore_n 1, 1) := by decide +kernel
theorem dX7_init_188 : decode cX7_init 188 = .ok (.iload_n 1, 1) := by decide +kernel
theorem dX7_init_189 : decode cX7_init 189 = .ok (.bipush 10, 2) := by decide +kernel
theorem dX7_init_191 : decode cX7_init 191 = .ok (.if_icmp .ge 18, 3) := by decide +kernel
theorem dX7_init_194 : decode cX7_init 194 = .ok (.aload_n 0, 1) := by decide +kernel
theorem dX7_init_195 : decode cX7_init 195 = .ok (.getfield 9, 3) := by decide +kernel
theorem dX7_init_198 : decode cX7_init 198 = .ok (.iconst 4, 1) := by decide +kernel
theorem dX7_init_199 : decode cX7_init 199 = .ok (.iload_n 1, 1) := by decide +kernel
theorem dX7_init_200 : decode cX7_init 200 = .ok (.iadd, 1) := by decide +kernel
theorem dX7_init_201 : decode cX7_init 201 = .ok (.iconst (-1), 1) := by decide +kernel
theorem dX7_init_202 : decode cX7_init 202 = .ok (.iastore, 1) := by decide +kernel
theorem dX7_init_203 : decode cX7_init 203 = .ok (.iinc 1 1, 3) := by decide +kernel
theorem dX7_init_206 : decode cX7_init 206 = .ok (.goto (-18), 3) := by decide +kernel
theorem dX7_init_209 : decode cX7_init 209 = .ok (.return_, 1) := by decide +kernel
theorem dX7_finding_0 : decode cX7_finding 0 = .ok (.aload_n 0, 1) := by decide +kernel
theorem dX7_finding_1 : decode cX7_finding 1 = .ok (.getfield 19, 3) := by decide +kernel
theorem dX7_finding_4 : decode cX7_finding 4 = .ok (.ldc 69, 2) := by decide +kernel
theorem dX7_finding_6 : decode cX7_finding 6 = .ok (.iload_n 1, 1) := by decide +kernel
theorem dX7_finding_7 : decode cX7_finding 7 = .ok (.isub, 1) := by decide +kernel
theorem dX7_finding_8 : decode cX7_finding 8 = .ok (.iconst 1, 1) := by decide +kernel
theorem dX7_finding_9 : decode cX7_finding 9 = .ok (.iadd, 1) := by decide +kernel
theorem dX7_finding_10 : decode cX7_finding 10 = .ok (.dup2, 1) := by decide +kernel
theorem dX7_finding_11 : decode cX7_finding 11 = .ok (.iaload, 1) := by decide +kernel
theorem dX7_finding_12 : decode cX7_finding 12 = .ok (.iconst 1, 1) := by decide +kernel
theorem dX7_finding_13 : decode cX7_finding 13 = .ok (.iadd, 1) := by decide +kernel
theorem dX7_finding_14 : decode cX7_finding 14 = .ok (.iastore, 1) := by decide +kernel
theorem dX7_finding_15 : decode cX7_finding 15 = .ok (.aload_n 0, 1) := by decide +kernel
theorem dX7_finding_16 : decode cX7_finding 16 = .ok (.getfield 19, 3) := by decide +kernel
theorem dX7_finding_19 : decode cX7_finding 19 = .ok (.iconst 0, 1) := by decide +kernel
theorem dX7_finding_20 : decode cX7_finding 20 = .ok (.dup2, 1) := by decide +kernel
theorem dX7_finding_21 : decode cX7_finding 21 = .ok (.iaload, 1) := by decide +kernel
theorem dX7_finding_22 : decode cX7_finding 22 = .ok (.iconst 1, 1) := by decide +kernel
theorem dX7_finding_23 : decode cX7_finding 23 = .ok (.iadd, 1) := by decide +kernel
theorem dX7_finding_24 : decode cX7_finding 24 = .ok (.iastore, 1) := by decide +kernel
theorem dX7_finding_25 : decode cX7_finding 25 = .ok (.iload_n 1, 1) := by decide +kernel
theorem dX7_finding_26 : decode cX7_finding 26 = .ok (.ireturn, 1) := by decide +kernel
theorem dX7_within_0 : decode cX7_within 0 = .ok (.iload_n 0, 1) := by decide +kernel
theorem dX7_within_1 : decode cX7_within 1 = .ok (.iload_n 1, 1) := by decide +kernel
theorem dX7_within_2 : decode cX7_within 2 = .ok (.if_icmp .lt 12, 3) := by decide +kernel
theorem dX7_within_5 : decode cX7_within 5 = .ok (.iload_n 0, 1) := by decide +kernel
theorem dX7_within_6 : decode cX7_within 6 = .ok (.iload_n 2, 1) := by decide +kernel
theorem dX7_within_7 : decode cX7_within 7 = .ok (.if_icmp .gt 7, 3) := by decide +kernel
theorem dX7_within_10 : decode cX7_within 10 = .ok (.iconst 1, 1) := by decide +kernel
theorem dX7_within_11 : decode cX7_within 11 = .ok (.goto 4, 3) := by decide +kernel
theorem dX7_within_14 : decode cX7_within 14 = .ok (.iconst 0, 1) := by decide +kernel
theorem dX7_within_15 : decode cX7_within 15 = .ok (.ireturn, 1) := by decide +kernel
theorem dX7_become_0 : decode cX7_become 0 = .ok (.aload_n 0, 1) := by decide +kernel
theorem dX7_become_1 : decode cX7_become 1 = .ok (.getfield 9, 3) := by decide +kernel
theorem dX7_become_4 : decode cX7_become 4 = .ok (.iload_n 1, 1) := by decide +kernel
theorem dX7_become_5 : decode cX7_become 5 = .ok (.iaload, 1) := by decide +kernel
theorem dX7_become_6 : decode cX7_become 6 = .ok (.istore_n 3, 1) := by decide +kernel
theorem dX7_become_7 : decode cX7_become 7 = .ok (.aload_n 0, 1) := by decide +kernel
theorem dX7_become_8 : decode cX7_become 8 = .ok (.getfield 9, 3) := by decide +kernel
theorem dX7_become_11 : decode cX7_become 11 = .ok (.iload_n 1, 1) := by decide +kernel
theorem dX7_become_12 : decode cX7_become 12 = .ok (.iload_n 2, 1) := by decide +kernel
theorem dX7_become_13 : decode cX7_become 13 = .ok (.iastore, 1) := by decide +kernel
theorem dX7_become_14 : decode cX7_become 14 = .ok (.iload_n 3, 1) := by decide +kernel
theorem dX7_become_15 : decode cX7_become 15 = .ok (.ireturn, 1) := by decide +kernel
theorem dX7_copyRow_0 : decode cX7_copyRow 0 = .ok (.iconst 0, 1) := by decide +kernel
theorem dX7_copyRow_1 : decode cX7_copyRow 1 = .ok (.istore_n 2, 1) := by decide +kernel
theorem dX7_copyRow_2 : decode cX7_copyRow 2 = .ok (.iload_n 2, 1) := by decide +kernel
theorem dX7_copyRow_3 : decode cX7_copyRow 3 = .ok (.bipush 50, 2) := by decide +kernel
theorem dX7_copyRow_5 : decode cX7_copyRow 5 = .ok (.if_icmp .ge 15, 3) := by decide +kernel
theorem dX7_copyRow_8 : decode cX7_copyRow 8 = .ok (.aload_n 1, 1) := by decide +kernel
theorem dX7_copyRow_9 : decode cX7_copyRow 9 = .ok (.iload_n 2, 1) := by decide +kernel
theorem dX7_copyRow_10 : decode cX7_copyRow 10 = .ok (.aload_n 0, 1) := by decide +kernel
theorem dX7_copyRow_11 : decode cX7_copyRow 11 = .ok (.iload_n 2, 1) := by decide +kernel
theorem dX7_copyRow_12 : decode cX7_copyRow 12 = .ok (.iaload, 1) := by decide +kernel
theorem dX7_copyRow_13 : decode cX7_copyRow 13 = .ok (.iastore, 1) := by decide +kernel
theorem dX7_copyRow_14 : decode cX7_copyRow 14 = .ok (.iinc 2 1, 3) := by decide +kernel
theorem dX7_copyRow_17 : decode cX7_copyRow 17 = .ok (.goto (-15), 3) := by decide +kernel
theorem dX7_copyRow_20 : decode cX7_copyRow 20 = .ok (.return_, 1) := by decide +kernel
theorem dX7_putBack_0 : decode cX7_putBack 0 = .ok (.aload_n 0, 1) := by decide +kernel
theorem dX7_putBack_1 : decode cX7_putBack 1 = .ok (.getfield 16, 3) := by decide +kernel
theorem dX7_putBack_4 : decode cX7_putBack 4 = .ok (.aload_n 0, 1) := by decide +kernel
theorem dX7_putBack_5 : decode cX7_putBack 5 = .ok (.getfield 9, 3) := by decide +kernel
theorem dX7_putBack_8 : decode cX7_putBack 8 = .ok (.invokestatic 70, 3) := by decide +kernel
theorem dX7_putBack_11 : decode cX7_putBack 11 = .ok (.iload_n 1, 1) := by decide +kernel
theorem dX7_putBack_12 : decode cX7_putBack 12 = .ok (.ireturn, 1) := by decide +kernel
theorem dX7_orNone_0 : decode cX7_orNone 0 = .ok (.iload_n 1, 1) := by decide +kernel
theorem dX7_orNone_1 : decode cX7_orNone 1 = .ok (.ifCond .ge 12, 3) := by decide +kernel
theorem dX7_orNone_4 : decode cX7_orNone 4 = .ok (.aload_n 0, 1) := by decide +kernel
theorem dX7_orNone_5 : decode cX7_orNone 5 = .ok (.ldc 74, 2) := by decide +kernel
theorem dX7_orNone_7 : decode cX7_orNone 7 = .ok (.invokevirtual 75, 3) := by decide +kernel
theorem dX7_orNone_10 : decode cX7_orNone 10 = .ok (.goto 4, 3) := by decide +kernel
theorem dX7_orNone_13 : decode cX7_orNone 13 = .ok (.iload_n 1, 1) := by decide +kernel
theorem dX7_orNone_14 : decode cX7_orNone 14 = .ok (.ireturn, 1) := by decide +kernel
theorem dX7_has_0 : decode cX7_has 0 = .ok (.iload_n 0, 1) := by decide +kernel
theorem dX7_has_1 : decode cX7_has 1 = .ok (.iload_n 1, 1) := by decide +kernel
theorem dX7_has_2 : decode cX7_has 2 = .ok (.ishr, 1) := by decide +kernel
theorem dX7_has_3 : decode cX7_has 3 = .ok (.iconst 1, 1) := by decide +kernel
theorem dX7_has_4 : decode cX7_has 4 = .ok (.iand, 1) := by decide +kernel
theorem dX7_has_5 : decode cX7_has 5 = .ok (.iconst 1, 1) := by decide +kernel
theorem dX7_has_6 : decode cX7_has 6 = .ok (.if_icmp .ne 7, 3) := by decide +kernel
theorem dX7_has_9 : decode cX7_has 9 = .ok (.iconst 1, 1) := by decide +kernel
theorem dX7_has_10 : decode cX7_has 10 = .ok (.goto 4, 3) := by decide +kernel
theorem dX7_has_13 : decode cX7_has 13 = .ok (.iconst 0, 1) := by decide +kernel
theorem dX7_has_14 : decode cX7_has 14 = .ok (.ireturn, 1) := by decide +kernel
theorem dX7_bits_0 : decode cX7_bits 0 = .ok (.iconst 0, 1) := by decide +kernel
theorem dX7_bits_1 : decode cX7_bits 1 = .ok (.istore_n 1, 1) := by decide +kernel
theorem dX7_bits_2 : decode cX7_bits 2 = .ok (.iload_n 0, 1) := by decide +kernel
theorem dX7_bits_3 : decode cX7_bits 3 = .ok (.istore_n 2, 1) := by decide +kernel
theorem dX7_bits_4 : decode cX7_bits 4 = .ok (.iload_n 2, 1) := by decide +kernel
theorem dX7_bits_5 : decode cX7_bits 5 = .ok (.ifCond .eq 15, 3) := by decide +kernel
theorem dX7_bits_8 : decode cX7_bits 8 = .ok (.iinc 1 1, 3) := by decide +kernel
theorem dX7_bits_11 : decode cX7_bits 11 = .ok (.iload_n 2, 1) := by decide +kernel
theorem dX7_bits_12 : decode cX7_bits 12 = .ok (.iload_n 2, 1) := by decide +kernel
theorem dX7_bits_13 : decode cX7_bits 13 = .ok (.iconst 1, 1) := by decide +kernel
theorem dX7_bits_14 : decode cX7_bits 14 = .ok (.isub, 1) := by decide +kernel
theorem dX7_bits_15 : decode cX7_bits 15 = .ok (.iand, 1) := by decide +kernel
theorem dX7_bits_16 : decode cX7_bits 16 = .ok (.istore_n 2, 1) := by decide +kernel
theorem dX7_bits_17 : decode cX7_bits 17 = .ok (.goto (-13), 3) := by decide +kernel
theorem dX7_bits_20 : decode cX7_bits 20 = .ok (.iload_n 1, 1) := by decide +kernel
theorem dX7_bits_21 : decode cX7_bits 21 = .ok (.ireturn, 1) := by decide +kernel
theorem dX7_held_0 : decode cX7_held 0 = .ok (.iconst 0, 1) := by decide +kernel
theorem dX7_held_1 : decode cX7_held 1 = .ok (.bipush 99, 2) := by decide +kernel
theorem dX7_held_3 : decode cX7_held 3 = .ok (.iload_n 0, 1) := by decide +kernel
theorem dX7_held_4 : decode cX7_held 4 = .ok (.invokestatic 79, 3) := by decide +kernel
theorem dX7_held_7 : decode cX7_held 7 = .ok (.invokestatic 85, 3) := by decide +kernel
theorem dX7_held_10 : decode cX7_held 10 = .ok (.ireturn, 1) := by decide +kernel
theorem dX7_isPlank_0 : decode cX7_isPlank 0 = .ok (.iload_n 0, 1) := by decide +kernel
theorem dX7_isPlank_1 : decode cX7_isPlank 1 = .ok (.iconst 0, 1) := by decide +kernel
theorem dX7_isPlank_2 : decode cX7_isPlank 2 = .ok (.bipush 11, 2) := by decide +kernel
theorem dX7_isPlank_4 : decode cX7_isPlank 4 = .ok (.invokestatic 88, 3) := by decide +kernel
theorem dX7_isPlank_7 : decode cX7_isPlank 7 = .ok (.ireturn, 1) := by decide +kernel
theorem dX7_isGait_0 : decode cX7_isGait 0 = .ok (.iload_n 0, 1) := by decide +kernel
theorem dX7_isGait_1 : decode cX7_isGait 1 = .ok (.iconst 0, 1) := by decide +kernel
theorem dX7_isGait_2 : decode cX7_isGait 2 = .ok (.bipush 99, 2) := by decide +kernel
theorem dX7_isGait_4 : decode cX7_isGait 4 = .ok (.invokestatic 88, 3) := by decide +kernel
theorem dX7_isGait_7 : decode cX7_isGait 7 = .ok (.ireturn, 1) := by decide +kernel
theorem dX7_isWalker_0 : decode cX7_isWalker 0 = .ok (.iload_n 1, 1) := by decide +kernel
theorem dX7_isWalker_1 : decode cX7_isWalker 1 = .ok (.iconst 0, 1) := by decide +kernel
theorem dX7_isWalker_2 : decode cX7_isWalker 2 = .ok (.aload_n 0, 1) := by decide +kernel
theorem dX7_isWalker_3 : decode cX7_isWalker 3 = .ok (.getfield 9, 3) := by decide +kernel
theorem dX7_isWalker_6 : decode cX7_isWalker 6 = .ok (.iconst 1, 1) := by decide +kernel
theorem dX7_isWalker_7 : decode cX7_isWalker 7 = .ok (.iaload, 1) := by decide +kernel
theorem dX7_isWalker_8 : decode cX7_isWalker 8 = .ok (.iconst 1, 1) := by decide +kernel
theorem dX7_isWalker_9 : decode cX7_isWalker 9 = .ok (.isub, 1) := by decide +kernel
theorem dX7_isWalker_10 : decode cX7_isWalker 10 = .ok (.invokestatic 88, 3) := by decide +kernel
theorem dX7_isWalker_13 : decode cX7_isWalker 13 = .ok (.ireturn, 1) := by decide +kernel
theorem dX7_isKind_0 : decode cX7_isKind 0 = .ok (.iload_n 0, 1) := by decide +kernel
theorem dX7_isKind_1 : decode cX7_isKind 1 = .ok (.iconst 0, 1) := by decide +kernel
theorem dX7_isKind_2 : decode cX7_isKind 2 = .ok (.bipush 6, 2) := by decide +kernel
theorem dX7_isKind_4 : decode cX7_isKind 4 = .ok (.invokestatic 88, 3) := by decide +kernel
theorem dX7_isKind_7 : decode cX7_isKind 7 = .ok (.ireturn, 1) := by decide +kernel
theorem dX7_place_0 : decode cX7_place 0 = .ok (.bipush 26, 2) := by decide +kernel
theorem dX7_place_2 : decode cX7_place 2 = .ok (.iconst 4, 1) := by decide +kernel
theorem dX7_place_3 : decode cX7_place 3 = .ok (.iload_n 0, 1) := by decide +kernel
theorem dX7_place_4 : decode cX7_place 4 = .ok (.imul, 1) := by decide +kernel
theorem dX7_place_5 : decode cX7_place 5 = .ok (.iadd, 1) := by decide +kernel
theorem dX7_place_6 : decode cX7_place 6 = .ok (.iload_n 1, 1) := by decide +kernel
theorem dX7_place_7 : decode cX7_place 7 = .ok (.iadd, 1) := by decide +kernel
theorem dX7_place_8 : decode cX7_place 8 = .ok (.ireturn, 1) := by decide +kernel
theorem dX7_walkerIs_0 : decode cX7_walkerIs 0 = .ok (.aload_n 0, 1) := by decide +kernel
theorem dX7_walkerIs_1 : decode cX7_walkerIs 1 = .ok (.getfield 9, 3) := by decide +kernel
theorem dX7_walkerIs_4 : decode cX7_walkerIs 4 = .ok (.iload_n 1, 1) := by decide +kernel
theorem dX7_walkerIs_5 : decode cX7_walkerIs 5 = .ok (.iload_n 2, 1) := by decide +kernel
theorem dX7_walkerIs_6 : decode cX7_walkerIs 6 = .ok (.invokestatic 92, 3) := by decide +kernel
theorem dX7_walkerIs_9 : decode cX7_walkerIs 9 = .ok (.iaload, 1) := by decide +kernel
theorem dX7_walkerIs_10 : decode cX7_walkerIs 10 = .ok (.ireturn, 1) := by decide +kernel
theorem dX7_plank_0 : decode cX7_plank 0 = .ok (.iload_n 1, 1) := by decide +kernel
theorem dX7_plank_1 : decode cX7_plank 1 = .ok (.invokestatic 95, 3) := by decide +kernel
theorem dX7_plank_4 : decode cX7_plank 4 = .ok (.ifCond .eq 22, 3) := by decide +kernel
theorem dX7_plank_7 : decode cX7_plank 7 = .ok (.iload_n 2, 1) := by decide +kernel
theorem dX7_plank_8 : decode cX7_plank 8 = .ok (.invokestatic 99, 3) := by decide +kernel
theorem dX7_plank_11 : decode cX7_plank 11 = .ok (.ifCond .eq 15, 3) := by decide +kernel
theorem dX7_plank_14 : decode cX7_plank 14 = .ok (.aload_n 0, 1) := by decide +kernel
theorem dX7_plank_15 : decode cX7_plank 15 = .ok (.bipush 14, 2) := by decide +kernel
theorem dX7_plank_17 : decode cX7_plank 17 = .ok (.iload_n 1, 1) := by decide +kernel
theorem dX7_plank_18 : decode cX7_plank 18 = .ok (.iadd, 1) := by decide +kernel
theorem dX7_plank_19 : decode cX7_plank 19 = .ok (.iload_n 2, 1) := by decide +kernel
theorem dX7_plank_20 : decode cX7_plank 20 = .ok (.invokevirtual 102, 3) := by decide +kernel
theorem dX7_plank_23 : decode cX7_plank 23 = .ok (.goto 9, 3) := by decide +kernel
theorem dX7_plank_26 : decode cX7_plank 26 = .ok (.aload_n 0, 1) := by decide +kernel
theorem dX7_plank_27 : decode cX7_plank 27 = .ok (.ldc 69, 2) := by decide +kernel
theorem dX7_plank_29 : decode cX7_plank 29 = .ok (.invokevirtual 75, 3) := by decide +kernel
theorem dX7_plank_32 : decode cX7_plank 32 = .ok (.ireturn, 1) := by decide +kernel
theorem dX7_keeps_0 : decode cX7_keeps 0 = .ok (.iload_n 1, 1) := by decide +kernel
theorem dX7_keeps_1 : decode cX7_keeps 1 = .ok (.invokestatic 95, 3) := by decide +kernel
theorem dX7_keeps_4 : decode cX7_keeps 4 = .ok (.ifCond .eq 15, 3) := by decide +kernel
theorem dX7_keeps_7 : decode cX7_keeps 7 = .ok (.aload_n 0, 1) := by decide +kernel
theorem dX7_keeps_8 : decode cX7_keeps 8 = .ok (.getfield 9, 3) := by decide +kernel
theorem dX7_keeps_11 : decode cX7_keeps 11 = .ok (.bipush 14, 2) := by decide +kernel
theorem dX7_keeps_13 : decode cX7_keeps 13 = .ok (.iload_n 1, 1) := by decide +kernel
theorem dX7_keeps_14 : decode cX7_keeps 14 = .ok (.iadd, 1) := by decide +kernel
theorem dX7_keeps_15 : decode cX7_keeps 15 = .ok (.iaload, 1) := by decide +kernel
theorem dX7_keeps_16 : decode cX7_keeps 16 = .ok (.goto 9, 3) := by decide +kernel
theorem dX7_keeps_19 : decode cX7_keeps 19 = .ok (.aload_n 0, 1) := by decide +kernel
theorem dX7_keeps_20 : decode cX7_keeps 20 = .ok (.ldc 69, 2) := by decide +kernel
theorem dX7_keeps_22 : decode cX7_keeps 22 = .ok (.invokevirtual 75, 3) := by decide +kernel
theorem dX7_keeps_25 : decode cX7_keeps 25 = .ok (.ireturn, 1) := by decide +kernel
theorem dX7_comes_0 : decode cX7_comes 0 = .ok (.aload_n 0, 1) := by decide +kernel
theorem dX7_comes_1 : decode cX7_comes 1 = .ok (.getfield 9, 3) := by decide +kernel
theorem dX7_comes_4 : decode cX7_comes 4 = .ok (.iconst 1, 1) := by decide +kernel
theorem dX7_comes_5 : decode cX7_comes 5 = .ok (.iaload, 1) := by decide +kernel
theorem dX7_comes_6 : decode cX7_comes 6 = .ok (.istore 4, 2) := by decide +kernel
theorem dX7_comes_8 : decode cX7_comes 8 = .ok (.aload_n 0, 1) := by decide +kernel
theorem dX7_comes_9 : decode cX7_comes 9 = .ok (.getfield 9, 3) := by decide +kernel
theorem dX7_comes_12 : decode cX7_comes 12 = .ok (.iload 4, 2) := by decide +kernel
theorem dX7_comes_14 : decode cX7_comes 14 = .ok (.iconst 0, 1) := by decide +kernel
theorem dX7_comes_15 : decode cX7_comes 15 = .ok (.invokestatic 92, 3) := by decide +kernel
theorem dX7_comes_18 : decode cX7_comes 18 = .ok (.iload_n 1, 1) := by decide +kernel
theorem dX7_comes_19 : decode cX7_comes 19 = .ok (.iastore, 1) := by decide +kernel
theorem dX7_comes_20 : decode cX7_comes 20 = .ok (.aload_n 0, 1) := by decide +kernel
theorem dX7_comes_21 : decode cX7_comes 21 = .ok (.getfield 9, 3) := by decide +kernel
theorem dX7_comes_24 : decode cX7_comes 24 = .ok (.iload 4, 2) := by decide +kernel
theorem dX7_comes_26 : decode cX7_comes 26 = .ok (.iconst 1, 1) := by decide +kernel
theorem dX7_comes_27 : decode cX7_comes 27 = .ok (.invokestatic 92, 3) := by decide +kernel
theorem dX7_comes_30 : decode cX7_comes 30 = .ok (.iload_n 2, 1) := by decide +kernel
theorem dX7_comes_31 : decode cX7_comes 31 = .ok (.iastore, 1) := by decide +kernel
theorem dX7_comes_32 : decode cX7_comes 32 = .ok (.aload_n 0, 1) := by decide +kernel
theorem dX7_comes_33 : decode cX7_comes 33 = .ok (.getfield 9, 3) := by decide +kernel
theorem dX7_comes_36 : decode cX7_comes 36 = .ok (.iload 4, 2) := by decide +kernel
theorem dX7_comes_38 : decode cX7_comes 38 = .ok (.iconst 2, 1) := by decide +kernel
theorem dX7_comes_39 : decode cX7_comes 39 = .ok (.invokestatic 92, 3) := by decide +kernel
theorem dX7_comes_42 : decode cX7_comes 42 = .ok (.iload_n 3, 1) := by decide +kernel
theorem dX7_comes_43 : decode cX7_comes 43 = .ok (.iastore, 1) := by decide +kernel
theorem dX7_comes_44 : decode cX7_comes 44 = .ok (.aload_n 0, 1) := by decide +kernel
theorem dX7_comes_45 : decode cX7_comes 45 = .ok (.getfield 9, 3) := by decide +kernel
theorem dX7_comes_48 : decode cX7_comes 48 = .ok (.iload 4, 2) := by decide +kernel
theorem dX7_comes_50 : decode cX7_comes 50 = .ok (.iconst 3, 1) := by decide +kernel
theorem dX7_comes_51 : decode cX7_comes 51 = .ok (.invokestatic 92, 3) := by decide +kernel
theorem dX7_comes_54 : decode cX7_comes 54 = .ok (.iconst 0, 1) := by decide +kernel
theorem dX7_comes_55 : decode cX7_comes 55 = .ok (.iastore, 1) := by decide +kernel
theorem dX7_comes_56 : decode cX7_comes 56 = .ok (.aload_n 0, 1) := by decide +kernel
theorem dX7_comes_57 : decode cX7_comes 57 = .ok (.getfield 9, 3) := by decide +kernel
theorem dX7_comes_60 : decode cX7_comes 60 = .ok (.iconst 1, 1) := by decide +kernel
theorem dX7_comes_61 : decode cX7_comes 61 = .ok (.dup2, 1) := by decide +kernel
theorem dX7_comes_62 : decode cX7_comes 62 = .ok (.iaload, 1) := by decide +kernel
theorem dX7_comes_63 : decode cX7_comes 63 = .ok (.iconst 1, 1) := by decide +kernel
theorem dX7_comes_64 : decode cX7_comes 64 = .ok (.iadd, 1) := by decide +kernel
theorem dX7_comes_65 : decode cX7_comes 65 = .ok (.iastore, 1) := by decide +kernel
theorem dX7_comes_66 : decode cX7_comes 66 = .ok (.iload 4, 2) := by decide +kernel
theorem dX7_comes_68 : decode cX7_comes 68 = .ok (.ireturn, 1) := by decide +kernel
theorem dX7_walker_0 : decode cX7_walker 0 = .ok (.iload_n 1, 1) := by decide +kernel
theorem dX7_walker_1 : decode cX7_walker 1 = .ok (.invokestatic 105, 3) := by decide +kernel
theorem dX7_walker_4 : decode cX7_walker 4 = .ok (.ifCond .eq 10, 3) := by decide +kernel
theorem dX7_walker_7 : decode cX7_walker 7 = .ok (.iload_n 2, 1) := by decide +kernel
theorem dX7_walker_8 : decode cX7_walker 8 = .ok (.invokestatic 99, 3) := by decide +kernel
theorem dX7_walker_11 : decode cX7_walker 11 = .ok (.ifCond .ne 10, 3) := by decide +kernel
theorem dX7_walker_14 : decode cX7_walker 14 = .ok (.aload_n 0, 1) := by decide +kernel
theorem dX7_walker_15 : decode cX7_walker 15 = .ok (.ldc 69, 2) := by decide +kernel
theorem dX7_walker_17 : decode cX7_walker 17 = .ok (.invokevirtual 75, 3) := by decide +kernel
theorem dX7_walker_20 : decode cX7_walker 20 = .ok (.ireturn, 1) := by decide +kernel
theorem dX7_walker_21 : decode cX7_walker 21 = .ok (.aload_n 0, 1) := by decide +kernel
theorem dX7_walker_22 : decode cX7_walker 22 = .ok (.getfield 9, 3) := by decide +kernel
theorem dX7_walker_25 : decode cX7_walker 25 = .ok (.iconst 1, 1) := by decide +kernel
theorem dX7_walker_26 : decode cX7_walker 26 = .ok (.iaload, 1) := by decide +kernel
theorem dX7_walker_27 : decode cX7_walker 27 = .ok (.bipush 6, 2) := by decide +kernel
theorem dX7_walker_29 : decode cX7_walker 29 = .ok (.if_icmp .ne 12, 3) := by decide +kernel
theorem dX7_walker_32 : decode cX7_walker 32 = .ok (.aload_n 0, 1) := by decide +kernel
theorem dX7_walker_33 : decode cX7_walker 33 = .ok (.ldc 108, 2) := by decide +kernel
theorem dX7_walker_35 : decode cX7_walker 35 = .ok (.invokevirtual 75, 3) := by decide +kernel
theorem dX7_walker_38 : decode cX7_walker 38 = .ok (.goto 11, 3) := by decide +kernel
theorem dX7_walker_41 : decode cX7_walker 41 = .ok (.aload_n 0, 1) := by decide +kernel
theorem dX7_walker_42 : decode cX7_walker 42 = .ok (.iload_n 1, 1) := by decide +kernel
theorem dX7_walker_43 : decode cX7_walker 43 = .ok (.iload_n 2, 1) := by decide +kernel
theorem dX7_walker_44 : decode cX7_walker 44 = .ok (.bipush 30, 2) := by decide +kernel
theorem dX7_walker_46 : decode cX7_walker 46 = .ok (.invokevirtual 109, 3) := by decide +kernel
theorem dX7_walker_49 : decode cX7_walker 49 = .ok (.ireturn, 1) := by decide +kernel
theorem dX7_bears_0 : decode cX7_bears 0 = .ok (.aload_n 0, 1) := by decide +kernel
theorem dX7_bears_1 : decode cX7_bears 1 = .ok (.iload_n 1, 1) := by decide +kernel
theorem dX7_bears_2 : decode cX7_bears 2 = .ok (.iconst 2, 1) := by decide +kernel
theorem dX7_bears_3 : decode cX7_bears 3 = .ok (.invokevirtual 113, 3) := by decide +kernel
theorem dX7_bears_6 : decode cX7_bears 6 = .ok (.istore_n 2, 1) := by decide +kernel
theorem dX7_bears_7 : decode cX7_bears 7 = .ok (.iconst 0, 1) := by decide +kernel
theorem dX7_bears_8 : decode cX7_bears 8 = .ok (.iload_n 2, 1) := by decide +kernel
theorem dX7_bears_9 : decode cX7_bears 9 = .ok (.bipush 10, 2) := by decide +kernel
theorem dX7_bears_11 : decode cX7_bears 11 = .ok (.isub, 1) := by decide +kernel
theorem dX7_bears_12 : decode cX7_bears 12 = .ok (.invokestatic 85, 3) := by decide +kernel
theorem dX7_bears_15 : decode cX7_bears 15 = .ok (.istore_n 3, 1) := by decide +kernel
theorem dX7_bears_16 : decode cX7_bears 16 = .ok (.aload_n 0, 1) := by decide +kernel
theorem dX7_bears_17 : decode cX7_bears 17 = .ok (.iload_n 1, 1) := by decide +kernel
theorem dX7_bears_18 : decode cX7_bears 18 = .ok (.iconst 0, 1) := by decide +kernel
theorem dX7_bears_19 : decode cX7_bears 19 = .ok (.invokevirtual 113, 3) := by decide +kernel
theorem dX7_bears_22 : decode cX7_bears 22 = .ok (.tableswitch 79 1 6 #[38, 49, 51, 56, 76, 42], 38) := by decide +kernel
theorem dX7_bears_60 : decode cX7_bears 60 = .ok (.iload_n 2, 1) := by decide +kernel
theorem dX7_bears_61 : decode cX7_bears 61 = .ok (.iconst 2, 1) := by decide +kernel
theorem dX7_bears_62 : decode cX7_bears 62 = .ok (.idiv, 1) := by decide +kernel
theorem dX7_bears_63 : decode cX7_bears 63 = .ok (.ireturn, 1) := by decide +kernel
theorem dX7_bears_64 : decode cX7_bears 64 = .ok (.iload_n 2, 1) := by decide +kernel
theorem dX7_bears_65 : decode cX7_bears 65 = .ok (.iconst 2, 1) := by decide +kernel
theorem dX7_bears_66 : decode cX7_bears 66 = .ok (.idiv, 1) := by decide +kernel
theorem dX7_bears_67 : decode cX7_bears 67 = .ok (.bipush 40, 2) := by decide +kernel
theorem dX7_bears_69 : decode cX7_bears 69 = .ok (.iadd, 1) := by decide +kernel
theorem dX7_bears_70 : decode cX7_bears 70 = .ok (.ireturn, 1) := by decide +kernel
theorem dX7_bears_71 : decode cX7_bears 71 = .ok (.iload_n 3, 1) := by decide +kernel
theorem dX7_bears_72 : decode cX7_bears 72 = .ok (.ireturn, 1) := by decide +kernel
theorem dX7_bears_73 : decode cX7_bears 73 = .ok (.iload_n 3, 1) := by decide +kernel
theorem dX7_bears_74 : decode cX7_bears 74 = .ok (.bipush 20, 2) := by decide +kernel
theorem dX7_bears_76 : decode cX7_bears 76 = .ok (.iadd, 1) := by decide +kernel
theorem dX7_bears_77 : decode cX7_bears 77 = .ok (.ireturn, 1) := by decide +kernel
theorem dX7_bears_78 : decode cX7_bears 78 = .ok (.aload_n 0, 1) := by decide +kernel
theorem dX7_bears_79 : decode cX7_bears 79 = .ok (.getfield 9, 3) := by decide +kernel
theorem dX7_bears_82 : decode cX7_bears 82 = .ok (.iconst 3, 1) := by decide +kernel
theorem dX7_bears_83 : decode cX7_bears 83 = .ok (.iaload, 1) := by decide +kernel
theorem dX7_bears_84 : decode cX7_bears 84 = .ok (.iconst 1, 1) := by decide +kernel
theorem dX7_bears_85 : decode cX7_bears 85 = .ok (.if_icmp .ne 8, 3) := by decide +kernel
theorem dX7_bears_88 : decode cX7_bears 88 = .ok (.bipush 99, 2) := by decide +kernel
theorem dX7_bears_90 : decode cX7_bears 90 = .ok (.goto 7, 3) := by decide +kernel
theorem dX7_bears_93 : decode cX7_bears 93 = .ok (.iload_n 3, 1) := by decide +kernel
theorem dX7_bears_94 : decode cX7_bears 94 = .ok (.bipush 20, 2) := by decide +kernel
theorem dX7_bears_96 : decode cX7_bears 96 = .ok (.iadd, 1) := by decide +kernel
theorem dX7_bears_97 : decode cX7_bears 97 = .ok (.ireturn, 1) := by decide +kernel
theorem dX7_bears_98 : decode cX7_bears 98 = .ok (.bipush 99, 2) := by decide +kernel
theorem dX7_bears_100 : decode cX7_bears 100 = .ok (.ireturn, 1) := by decide +kernel
theorem dX7_bears_101 : decode cX7_bears 101 = .ok (.iload_n 2, 1) := by decide +kernel
theorem dX7_bears_102 : decode cX7_bears 102 = .ok (.ireturn, 1) := by decide +kernel
theorem dX7_doesFall_0 : decode cX7_doesFall 0 = .ok (.aload_n 0, 1) := by decide +kernel
theorem dX7_doesFall_1 : decode cX7_doesFall 1 = .ok (.iload_n 1, 1) := by decide +kernel
theorem dX7_doesFall_2 : decode cX7_doesFall 2 = .ok (.iconst 1, 1) := by decide +kernel
theorem dX7_doesFall_3 : decode cX7_doesFall 3 = .ok (.invokevirtual 113, 3) := by decide +kernel
theorem dX7_doesFall_6 : decode cX7_doesFall 6 = .ok (.aload_n 0, 1) := by decide +kernel
theorem dX7_doesFall_7 : decode cX7_doesFall 7 = .ok (.getfield 9, 3) := by decide +kernel
theorem dX7_doesFall_10 : decode cX7_doesFall 10 = .ok (.bipush 14, 2) := by decide +kernel
theorem dX7_doesFall_12 : decode cX7_doesFall 12 = .ok (.iload_n 2, 1) := by decide +kernel
theorem dX7_doesFall_13 : decode cX7_doesFall 13 = .ok (.iadd, 1) := by decide +kernel
theorem dX7_doesFall_14 : decode cX7_doesFall 14 = .ok (.iaload, 1) := by decide +kernel
theorem dX7_doesFall_15 : decode cX7_doesFall 15 = .ok (.isub, 1) := by decide +kernel
theorem dX7_doesFall_16 : decode cX7_doesFall 16 = .ok (.invokestatic 116, 3) := by decide +kernel
theorem dX7_doesFall_19 : decode cX7_doesFall 19 = .ok (.aload_n 0, 1) := by decide +kernel
theorem dX7_doesFall_20 : decode cX7_doesFall 20 = .ok (.iload_n 1, 1) := by decide +kernel
theorem dX7_doesFall_21 : decode cX7_doesFall 21 = .ok (.invokevirtual 119, 3) := by decide +kernel
theorem dX7_doesFall_24 : decode cX7_doesFall 24 = .ok (.if_icmp .le 7, 3) := by decide +kernel
theorem dX7_doesFall_27 : decode cX7_doesFall 27 = .ok (.iconst 1, 1) := by decide +kernel
theorem dX7_doesFall_28 : decode cX7_doesFall 28 = .ok (.goto 4, 3) := by decide +kernel
theorem dX7_doesFall_31 : decode cX7_doesFall 31 = .ok (.iconst 0, 1) := by decide +kernel
theorem dX7_doesFall_32 : decode cX7_doesFall 32 = .ok (.ireturn, 1) := by decide +kernel
theorem dX7_fallsOn_0 : decode cX7_fallsOn 0 = .ok (.iconst 0, 1) := by decide +kernel
theorem dX7_fallsOn_1 : decode cX7_fallsOn 1 = .ok (.istore_n 2, 1) := by decide +kernel
theorem dX7_fallsOn_2 : decode cX7_fallsOn 2 = .ok (.iconst 0, 1) := by decide +kernel
theorem dX7_fallsOn_3 : decode cX7_fallsOn 3 = .ok (.istore_n 3, 1) := by decide +kernel
theorem dX7_fallsOn_4 : decode cX7_fallsOn 4 = .ok (.iload_n 3, 1) := by decide +kernel
theorem dX7_fallsOn_5 : decode cX7_fallsOn 5 = .ok (.bipush 12, 2) := by decide +kernel
theorem dX7_fallsOn_7 : decode cX7_fallsOn 7 = .ok (.if_icmp .ge 28, 3) := by decide +kernel
theorem dX7_fallsOn_10 : decode cX7_fallsOn 10 = .ok (.iload_n 2, 1) := by decide +kernel
theorem dX7_fallsOn_11 : decode cX7_fallsOn 11 = .ok (.aload_n 0, 1) := by decide +kernel
theorem dX7_fallsOn_12 : decode cX7_fallsOn 12 = .ok (.iload_n 1, 1) := by decide +kernel
theorem dX7_fallsOn_13 : decode cX7_fallsOn 13 = .ok (.iload_n 3, 1) := by decide +kernel
theorem dX7_fallsOn_14 : decode cX7_fallsOn 14 = .ok (.invokevirtual 122, 3) := by decide +kernel
theorem dX7_fallsOn_17 : decode cX7_fallsOn 17 = .ok (.ifCond .eq 9, 3) := by decide +kernel
theorem dX7_fallsOn_20 : decode cX7_fallsOn 20 = .ok (.iconst 1, 1) := by decide +kernel
theorem dX7_fallsOn_21 : decode cX7_fallsOn 21 = .ok (.iload_n 3, 1) := by decide +kernel
theorem dX7_fallsOn_22 : decode cX7_fallsOn 22 = .ok (.ishl, 1) := by decide +kernel
theorem dX7_fallsOn_23 : decode cX7_fallsOn 23 = .ok (.goto 4, 3) := by decide +kernel
theorem dX7_fallsOn_26 : decode cX7_fallsOn 26 = .ok (.iconst 0, 1) := by decide +kernel
theorem dX7_fallsOn_27 : decode cX7_fallsOn 27 = .ok (.ior, 1) := by decide +kernel
theorem dX7_fallsOn_28 : decode cX7_fallsOn 28 = .ok (.istore_n 2, 1) := by decide +kernel
theorem dX7_fallsOn_29 : decode cX7_fallsOn 29 = .ok (.iinc 3 1, 3) := by decide +kernel
theorem dX7_fallsOn_32 : decode cX7_fallsOn 32 = .ok (.goto (-28), 3) := by decide +kernel
theorem dX7_fallsOn_35 : decode cX7_fallsOn 35 = .ok (.iload_n 2, 1) := by decide +kernel
theorem dX7_fallsOn_36 : decode cX7_fallsOn 36 = .ok (.ireturn, 1) := by decide +kernel
theorem dX7_of_0 : decode cX7_of 0 = .ok (.aload_n 0, 1) := by decide +kernel
theorem dX7_of_1 : decode cX7_of 1 = .ok (.iload_n 1, 1) := by decide +kernel
theorem dX7_of_2 : decode cX7_of 2 = .ok (.invokevirtual 126, 3) := by decide +kernel
theorem dX7_of_5 : decode cX7_of 5 = .ok (.ifCond .eq 12, 3) := by decide +kernel
theorem dX7_of_8 : decode cX7_of 8 = .ok (.iload_n 2, 1) := by decide +kernel
theorem dX7_of_9 : decode cX7_of 9 = .ok (.iconst 0, 1) := by decide +kernel
theorem dX7_of_10 : decode cX7_of 10 = .ok (.iconst 5, 1) := by decide +kernel
theorem dX7_of_11 : decode cX7_of 11 = .ok (.invokestatic 88, 3) := by decide +kernel
theorem dX7_of_14 : decode cX7_of 14 = .ok (.ifCond .ne 10, 3) := by decide +kernel
theorem dX7_of_17 : decode cX7_of 17 = .ok (.aload_n 0, 1) := by decide +kernel
theorem dX7_of_18 : decode cX7_of 18 = .ok (.ldc 69, 2) := by decide +kernel
theorem dX7_of_20 : decode cX7_of 20 = .ok (.invokevirtual 75, 3) := by decide +kernel
theorem dX7_of_23 : decode cX7_of 23 = .ok (.ireturn, 1) := by decide +kernel
theorem dX7_of_24 : decode cX7_of 24 = .ok (.iload_n 2, 1) := by decide +kernel
theorem dX7_of_25 : decode cX7_of 25 = .ok (.iconst 4, 1) := by decide +kernel
theorem dX7_of_26 : decode cX7_of 26 = .ok (.if_icmp .ne 11, 3) := by decide +kernel
theorem dX7_of_29 : decode cX7_of 29 = .ok (.aload_n 0, 1) := by decide +kernel
theorem dX7_of_30 : decode cX7_of 30 = .ok (.iload_n 1, 1) := by decide +kernel
theorem dX7_of_31 : decode cX7_of 31 = .ok (.invokevirtual 119, 3) := by decide +kernel
theorem dX7_of_34 : decode cX7_of 34 = .ok (.goto 22, 3) := by decide +kernel
theorem dX7_of_37 : decode cX7_of 37 = .ok (.iload_n 2, 1) := by decide +kernel
theorem dX7_of_38 : decode cX7_of 38 = .ok (.iconst 5, 1) := by decide +kernel
theorem dX7_of_39 : decode cX7_of 39 = .ok (.if_icmp .ne 11, 3) := by decide +kernel
theorem dX7_of_42 : decode cX7_of 42 = .ok (.aload_n 0, 1) := by decide +kernel
theorem dX7_of_43 : decode cX7_of 43 = .ok (.iload_n 1, 1) := by decide +kernel
theorem dX7_of_44 : decode cX7_of 44 = .ok (.invokevirtual 129, 3) := by decide +kernel
theorem dX7_of_47 : decode cX7_of 47 = .ok (.goto 9, 3) := by decide +kernel
theorem dX7_of_50 : decode cX7_of 50 = .ok (.aload_n 0, 1) := by decide +kernel
theorem dX7_of_51 : decode cX7_of 51 = .ok (.iload_n 1, 1) := by decide +kernel
theorem dX7_of_52 : decode cX7_of 52 = .ok (.iload_n 2, 1) := by decide +kernel
theorem dX7_of_53 : decode cX7_of 53 = .ok (.invokevirtual 113, 3) := by decide +kernel
theorem dX7_of_56 : decode cX7_of 56 = .ok (.ireturn, 1) := by decide +kernel
theorem dX7_mayBe_0 : decode cX7_mayBe 0 = .ok (.iload_n 0, 1) := by decide +kernel
theorem dX7_mayBe_1 : decode cX7_mayBe 1 = .ok (.tableswitch 50 0 3 #[31, 36, 36, 41], 31) := by decide +kernel
theorem dX7_mayBe_32 : decode cX7_mayBe 32 = .ok (.iload_n 1, 1) := by decide +kernel
theorem dX7_mayBe_33 : decode cX7_mayBe 33 = .ok (.invokestatic 105, 3) := by decide +kernel
theorem dX7_mayBe_36 : decode cX7_mayBe 36 = .ok (.ireturn, 1) := by decide +kernel
theorem dX7_mayBe_37 : decode cX7_mayBe 37 = .ok (.iload_n 1, 1) := by decide +kernel
theorem dX7_mayBe_38 : decode cX7_mayBe 38 = .ok (.invokestatic 99, 3) := by decide +kernel
theorem dX7_mayBe_41 : decode cX7_mayBe 41 = .ok (.ireturn, 1) := by decide +kernel
theorem dX7_mayBe_42 : decode cX7_mayBe 42 = .ok (.iload_n 1, 1) := by decide +kernel
theorem dX7_mayBe_43 : decode cX7_mayBe 43 = .ok (.iconst 0, 1) := by decide +kernel
theorem dX7_mayBe_44 : decode cX7_mayBe 44 = .ok (.sipush 9999, 3) := by decide +kernel
theorem dX7_mayBe_47 : decode cX7_mayBe 47 = .ok (.invokestatic 88, 3) := by decide +kernel
theorem dX7_mayBe_50 : decode cX7_mayBe 50 = .ok (.ireturn, 1) := by decide +kernel
theorem dX7_mayBe_51 : decode cX7_mayBe 51 = .ok (.iconst 0, 1) := by decide +kernel
theorem dX7_mayBe_52 : decode cX7_mayBe 52 = .ok (.ireturn, 1) := by decide +kernel
theorem dX7_change_0 : decode cX7_change 0 = .ok (.aload_n 0, 1) := by decide +kernel
theorem dX7_change_1 : decode cX7_change 1 = .ok (.iload_n 1, 1) := by decide +kernel
theorem dX7_change_2 : decode cX7_change 2 = .ok (.invokevirtual 126, 3) := by decide +kernel
theorem dX7_change_5 : decode cX7_change 5 = .ok (.ifCond .eq 24, 3) := by decide +kernel
theorem dX7_change_8 : decode cX7_change 8 = .ok (.iload_n 2, 1) := by decide +kernel
theorem dX7_change_9 : decode cX7_change 9 = .ok (.iload_n 3, 1) := by decide +kernel
theorem dX7_change_10 : decode cX7_change 10 = .ok (.invokestatic 132, 3) := by decide +kernel
theorem dX7_change_13 : decode cX7_change 13 = .ok (.ifCond .eq 16, 3) := by decide +kernel
theorem dX7_change_16 : decode cX7_change 16 = .ok (.aload_n 0, 1) := by decide +kernel
theorem dX7_change_17 : decode cX7_change 17 = .ok (.iload_n 1, 1) := by decide +kernel
theorem dX7_change_18 : decode cX7_change 18 = .ok (.iload_n 2, 1) := by decide +kernel
theorem dX7_change_19 : decode cX7_change 19 = .ok (.invokestatic 92, 3) := by decide +kernel
theorem dX7_change_22 : decode cX7_change 22 = .ok (.iload_n 3, 1) := by decide +kernel
theorem dX7_change_23 : decode cX7_change 23 = .ok (.invokevirtual 102, 3) := by decide +kernel
theorem dX7_change_26 : decode cX7_change 26 = .ok (.goto 9, 3) := by decide +kernel
theorem dX7_change_29 : decode cX7_change 29 = .ok (.aload_n 0, 1) := by decide +kernel
theorem dX7_change_30 : decode cX7_change 30 = .ok (.ldc 69, 2) := by decide +kernel
theorem dX7_change_32 : decode cX7_change 32 = .ok (.invokevirtual 75, 3) := by decide +kernel
theorem dX7_change_35 : decode cX7_change 35 = .ok (.ireturn, 1) := by decide +kernel
theorem dX7_night_0 : decode cX7_night 0 = .ok (.iload_n 1, 1) := by decide +kernel
theorem dX7_night_1 : decode cX7_night 1 = .ok (.iconst 0, 1) := by decide +kernel
theorem dX7_night_2 : decode cX7_night 2 = .ok (.iconst 1, 1) := by decide +kernel
theorem dX7_night_3 : decode cX7_night 3 = .ok (.invokestatic 88, 3) := by decide +kernel
theorem dX7_night_6 : decode cX7_night 6 = .ok (.ifCond .eq 12, 3) := by decide +kernel
theorem dX7_night_9 : decode cX7_night 9 = .ok (.aload_n 0, 1) := by decide +kernel
theorem dX7_night_10 : decode cX7_night 10 = .ok (.iconst 3, 1) := by decide +kernel
theorem dX7_night_11 : decode cX7_night 11 = .ok (.iload_n 1, 1) := by decide +kernel
theorem dX7_night_12 : decode cX7_night 12 = .ok (.invokevirtual 102, 3) := by decide +kernel
theorem dX7_night_15 : decode cX7_night 15 = .ok (.goto 9, 3) := by decide +kernel
theorem dX7_night_18 : decode cX7_night 18 = .ok (.aload_n 0, 1) := by decide +kernel
theorem dX7_night_19 : decode cX7_night 19 = .ok (.ldc 69, 2) := by decide +kernel
theorem dX7_night_21 : decode cX7_night 21 = .ok (.invokevirtual 75, 3) := by decide +kernel
theorem dX7_night_24 : decode cX7_night 24 = .ok (.ireturn, 1) := by decide +kernel
theorem dX7_changedBy_0 : decode cX7_changedBy 0 = .ok (.iload_n 2, 1) := by decide +kernel
theorem dX7_changedBy_1 : decode cX7_changedBy 1 = .ok (.iload_n 1, 1) := by decide +kernel
theorem dX7_changedBy_2 : decode cX7_changedBy 2 = .ok (.isub, 1) := by decide +kernel
theorem dX7_changedBy_3 : decode cX7_changedBy 3 = .ok (.istore_n 3, 1) := by decide +kernel
theorem dX7_changedBy_4 : decode cX7_changedBy 4 = .ok (.iload_n 0, 1) := by decide +kernel
theorem dX7_changedBy_5 : decode cX7_changedBy 5 = .ok (.tableswitch 75 0 5 #[39, 43, 75, 47, 54, 61], 39) := by decide +kernel
theorem dX7_changedBy_44 : decode cX7_changedBy 44 = .ok (.iload_n 3, 1) := by decide +kernel
theorem dX7_changedBy_45 : decode cX7_changedBy 45 = .ok (.iconst 4, 1) := by decide +kernel
theorem dX7_changedBy_46 : decode cX7_changedBy 46 = .ok (.idiv, 1) := by decide +kernel
theorem dX7_changedBy_47 : decode cX7_changedBy 47 = .ok (.ireturn, 1) := by decide +kernel
theorem dX7_changedBy_48 : decode cX7_changedBy 48 = .ok (.iload_n 3, 1) := by decide +kernel
theorem dX7_changedBy_49 : decode cX7_changedBy 49 = .ok (.iconst 2, 1) := by decide +kernel
theorem dX7_changedBy_50 : decode cX7_changedBy 50 = .ok (.idiv, 1) := by decide +kernel
theorem dX7_changedBy_51 : decode cX7_changedBy 51 = .ok (.ireturn, 1) := by decide +kernel
theorem dX7_changedBy_52 : decode cX7_changedBy 52 = .ok (.iload_n 3, 1) := by decide +kernel
theorem dX7_changedBy_53 : decode cX7_changedBy 53 = .ok (.bipush 10, 2) := by decide +kernel
theorem dX7_changedBy_55 : decode cX7_changedBy 55 = .ok (.idiv, 1) := by decide +kernel
theorem dX7_changedBy_56 : decode cX7_changedBy 56 = .ok (.iconst 1, 1) := by decide +kernel
theorem dX7_changedBy_57 : decode cX7_changedBy 57 = .ok (.iadd, 1) := by decide +kernel
theorem dX7_changedBy_58 : decode cX7_changedBy 58 = .ok (.ireturn, 1) := by decide +kernel
theorem dX7_changedBy_59 : decode cX7_changedBy 59 = .ok (.iload_n 3, 1) := by decide +kernel
theorem dX7_changedBy_60 : decode cX7_changedBy 60 = .ok (.bipush 10, 2) := by decide +kernel
theorem dX7_changedBy_62 : decode cX7_changedBy 62 = .ok (.idiv, 1) := by decide +kernel
theorem dX7_changedBy_63 : decode cX7_changedBy 63 = .ok (.iconst 1, 1) := by decide +kernel
theorem dX7_changedBy_64 : decode cX7_changedBy 64 = .ok (.isub, 1) := by decide +kernel
theorem dX7_changedBy_65 : decode cX7_changedBy 65 = .ok (.ireturn, 1) := by decide +kernel
theorem dX7_changedBy_66 : decode cX7_changedBy 66 = .ok (.bipush (-5), 2) := by decide +kernel
theorem dX7_changedBy_68 : decode cX7_changedBy 68 = .ok (.iconst 5, 1) := by decide +kernel
theorem dX7_changedBy_69 : decode cX7_changedBy 69 = .ok (.bipush 20, 2) := by decide +kernel
theorem dX7_changedBy_71 : decode cX7_changedBy 71 = .ok (.iload_n 1, 1) := by decide +kernel
theorem dX7_changedBy_72 : decode cX7_changedBy 72 = .ok (.isub, 1) := by decide +kernel
theorem dX7_changedBy_73 : decode cX7_changedBy 73 = .ok (.invokestatic 79, 3) := by decide +kernel
theorem dX7_changedBy_76 : decode cX7_changedBy 76 = .ok (.invokestatic 85, 3) := by decide +kernel
theorem dX7_changedBy_79 : decode cX7_changedBy 79 = .ok (.ireturn, 1) := by decide +kernel
theorem dX7_changedBy_80 : decode cX7_changedBy 80 = .ok (.iconst 0, 1) := by decide +kernel
theorem dX7_changedBy_81 : decode cX7_changedBy 81 = .ok (.ireturn, 1) := by decide +kernel
theorem dX7_keptOf_0 : decode cX7_keptOf 0 = .ok (.iload_n 0, 1) := by decide +kernel
theorem dX7_keptOf_1 : decode cX7_keptOf 1 = .ok (.tableswitch 56 1 5 #[35, 39, 45, 45, 53], 35) := by decide +kernel
theorem dX7_keptOf_36 : decode cX7_keptOf 36 = .ok (.iload_n 1, 1) := by decide +kernel
theorem dX7_keptOf_37 : decode cX7_keptOf 37 = .ok (.iconst 5, 1) := by decide +kernel
theorem dX7_keptOf_38 : decode cX7_keptOf 38 = .ok (.iadd, 1) := by decide +kernel
theorem dX7_keptOf_39 : decode cX7_keptOf 39 = .ok (.ireturn, 1) := by decide +kernel
theorem dX7_keptOf_40 : decode cX7_keptOf 40 = .ok (.iload_n 1, 1) := by decide +kernel
theorem dX7_keptOf_41 : decode cX7_keptOf 41 = .ok (.iload_n 2, 1) := by decide +kernel
theorem dX7_keptOf_42 : decode cX7_keptOf 42 = .ok (.iadd, 1) := by decide +kernel
theorem dX7_keptOf_43 : decode cX7_keptOf 43 = .ok (.iconst 2, 1) := by decide +kernel
theorem dX7_keptOf_44 : decode cX7_keptOf 44 = .ok (.idiv, 1) := by decide +kernel
theorem dX7_keptOf_45 : decode cX7_keptOf 45 = .ok (.ireturn, 1) := by decide +kernel
theorem dX7_keptOf_46 : decode cX7_keptOf 46 = .ok (.iload_n 1, 1) := by decide +kernel
theorem dX7_keptOf_47 : decode cX7_keptOf 47 = .ok (.iload_n 2, 1) := by decide +kernel
theorem dX7_keptOf_48 : decode cX7_keptOf 48 = .ok (.iadd, 1) := by decide +kernel
theorem dX7_keptOf_49 : decode cX7_keptOf 49 = .ok (.iconst 2, 1) := by decide +kernel
theorem dX7_keptOf_50 : decode cX7_keptOf 50 = .ok (.idiv, 1) := by decide +kernel
theorem dX7_keptOf_51 : decode cX7_keptOf 51 = .ok (.iconst 3, 1) := by decide +kernel
theorem dX7_keptOf_52 : decode cX7_keptOf 52 = .ok (.iadd, 1) := by decide +kernel
theorem dX7_keptOf_53 : decode cX7_keptOf 53 = .ok (.ireturn, 1) := by decide +kernel
theorem dX7_keptOf_54 : decode cX7_keptOf 54 = .ok (.bipush 20, 2) := by decide +kernel
theorem dX7_keptOf_56 : decode cX7_keptOf 56 = .ok (.ireturn, 1) := by decide +kernel
theorem dX7_keptOf_57 : decode cX7_keptOf 57 = .ok (.iload_n 1, 1) := by decide +kernel
theorem dX7_keptOf_58 : decode cX7_keptOf 58 = .ok (.ireturn, 1) := by decide +kernel
theorem dX7_crosses_0 : decode cX7_crosses 0 = .ok (.aload_n 0, 1) := by decide +kernel
theorem dX7_crosses_1 : decode cX7_crosses 1 = .ok (.iload_n 1, 1) := by decide +kernel
theorem dX7_crosses_2 : decode cX7_crosses 2 = .ok (.iconst 0, 1) := by decide +kernel
theorem dX7_crosses_3 : decode cX7_crosses 3 = .ok (.invokevirtual 113, 3) := by decide +kernel
theorem dX7_crosses_6 : decode cX7_crosses 6 = .ok (.istore_n 2, 1) := by decide +kernel
theorem dX7_crosses_7 : decode cX7_crosses 7 = .ok (.aload_n 0, 1) := by decide +kernel
theorem dX7_crosses_8 : decode cX7_crosses 8 = .ok (.iload_n 1, 1) := by decide +kernel
theorem dX7_crosses_9 : decode cX7_crosses 9 = .ok (.iconst 1, 1) := by decide +kernel
theorem dX7_crosses_10 : decode cX7_crosses 10 = .ok (.invokevirtual 113, 3) := by decide +kernel
theorem dX7_crosses_13 : decode cX7_crosses 13 = .ok (.istore_n 3, 1) := by decide +kernel
theorem dX7_crosses_14 : decode cX7_crosses 14 = .ok (.iconst 0, 1) := by decide +kernel
theorem dX7_crosses_15 : decode cX7_crosses 15 = .ok (.istore 4, 2) := by decide +kernel
theorem dX7_crosses_17 : decode cX7_crosses 17 = .ok (.iload 4, 2) := by decide +kernel
theorem dX7_crosses_19 : decode cX7_crosses 19 = .ok (.bipush 12, 2) := by decide +kernel
theorem dX7_crosses_21 : decode cX7_crosses 21 = .ok (.if_icmp .ge 84, 3) := by decide +kernel
theorem dX7_crosses_24 : decode cX7_crosses 24 = .ok (.aload_n 0, 1) := by decide +kernel
theorem dX7_crosses_25 : decode cX7_crosses 25 = .ok (.iload_n 1, 1) := by decide +kernel
theorem dX7_crosses_26 : decode cX7_crosses 26 = .ok (.iload 4, 2) := by decide +kernel
theorem dX7_crosses_28 : decode cX7_crosses 28 = .ok (.invokevirtual 122, 3) := by decide +kernel
theorem dX7_crosses_31 : decode cX7_crosses 31 = .ok (.ifCond .ne 74, 3) := by decide +kernel
theorem dX7_crosses_34 : decode cX7_crosses 34 = .ok (.aload_n 0, 1) := by decide +kernel
theorem dX7_crosses_35 : decode cX7_crosses 35 = .ok (.iload_n 1, 1) := by decide +kernel
theorem dX7_crosses_36 : decode cX7_crosses 36 = .ok (.iconst 1, 1) := by decide +kernel
theorem dX7_crosses_37 : decode cX7_crosses 37 = .ok (.invokevirtual 113, 3) := by decide +kernel
theorem dX7_crosses_40 : decode cX7_crosses 40 = .ok (.istore 5, 2) := by decide +kernel
theorem dX7_crosses_42 : decode cX7_crosses 42 = .ok (.aload_n 0, 1) := by decide +kernel
theorem dX7_crosses_43 : decode cX7_crosses 43 = .ok (.getfield 9, 3) := by decide +kernel
theorem dX7_crosses_46 : decode cX7_crosses 46 = .ok (.bipush 14, 2) := by decide +kernel
theorem dX7_crosses_48 : decode cX7_crosses 48 = .ok (.iload 4, 2) := by decide +kernel
theorem dX7_crosses_50 : decode cX7_crosses 50 = .ok (.iadd, 1) := by decide +kernel
theorem dX7_crosses_51 : decode cX7_crosses 51 = .ok (.iaload, 1) := by decide +kernel
theorem dX7_crosses_52 : decode cX7_crosses 52 = .ok (.istore 6, 2) := by decide +kernel
theorem dX7_crosses_54 : decode cX7_crosses 54 = .ok (.aload_n 0, 1) := by decide +kernel
theorem dX7_crosses_55 : decode cX7_crosses 55 = .ok (.getfield 9, 3) := by decide +kernel
theorem dX7_crosses_58 : decode cX7_crosses 58 = .ok (.iload_n 1, 1) := by decide +kernel
theorem dX7_crosses_59 : decode cX7_crosses 59 = .ok (.iconst 1, 1) := by decide +kernel
theorem dX7_crosses_60 : decode cX7_crosses 60 = .ok (.invokestatic 92, 3) := by decide +kernel
theorem dX7_crosses_63 : decode cX7_crosses 63 = .ok (.iload 5, 2) := by decide +kernel
theorem dX7_crosses_65 : decode cX7_crosses 65 = .ok (.iload_n 2, 1) := by decide +kernel
theorem dX7_crosses_66 : decode cX7_crosses 66 = .ok (.iload 5, 2) := by decide +kernel
theorem dX7_crosses_68 : decode cX7_crosses 68 = .ok (.iload 6, 2) := by decide +kernel
theorem dX7_crosses_70 : decode cX7_crosses 70 = .ok (.invokestatic 135, 3) := by decide +kernel
theorem dX7_crosses_73 : decode cX7_crosses 73 = .ok (.iadd, 1) := by decide +kernel
theorem dX7_crosses_74 : decode cX7_crosses 74 = .ok (.invokestatic 138, 3) := by decide +kernel
theorem dX7_crosses_77 : decode cX7_crosses 77 = .ok (.iastore, 1) := by decide +kernel
theorem dX7_crosses_78 : decode cX7_crosses 78 = .ok (.aload_n 0, 1) := by decide +kernel
theorem dX7_crosses_79 : decode cX7_crosses 79 = .ok (.getfield 9, 3) := by decide +kernel
theorem dX7_crosses_82 : decode cX7_crosses 82 = .ok (.bipush 14, 2) := by decide +kernel
theorem dX7_crosses_84 : decode cX7_crosses 84 = .ok (.iload 4, 2) := by decide +kernel
theorem dX7_crosses_86 : decode cX7_crosses 86 = .ok (.iadd, 1) := by decide +kernel
theorem dX7_crosses_87 : decode cX7_crosses 87 = .ok (.iload_n 2, 1) := by decide +kernel
theorem dX7_crosses_88 : decode cX7_crosses 88 = .ok (.iload 5, 2) := by decide +kernel
theorem dX7_crosses_90 : decode cX7_crosses 90 = .ok (.iload 6, 2) := by decide +kernel
theorem dX7_crosses_92 : decode cX7_crosses 92 = .ok (.invokestatic 141, 3) := by decide +kernel
theorem dX7_crosses_95 : decode cX7_crosses 95 = .ok (.invokestatic 138, 3) := by decide +kernel
theorem dX7_crosses_98 : decode cX7_crosses 98 = .ok (.iastore, 1) := by decide +kernel
theorem dX7_crosses_99 : decode cX7_crosses 99 = .ok (.iinc 4 1, 3) := by decide +kernel
theorem dX7_crosses_102 : decode cX7_crosses 102 = .ok (.goto (-85), 3) := by decide +kernel
theorem dX7_crosses_105 : decode cX7_crosses 105 = .ok (.iload 4, 2) := by decide +kernel
theorem dX7_crosses_107 : decode cX7_crosses 107 = .ok (.bipush 12, 2) := by decide +kernel
theorem dX7_crosses_109 : decode cX7_crosses 109 = .ok (.if_icmp .ge 38, 3) := by decide +kernel
theorem dX7_crosses_112 : decode cX7_crosses 112 = .ok (.aload_n 0, 1) := by decide +kernel
theorem dX7_crosses_113 : decode cX7_crosses 113 = .ok (.getfield 9, 3) := by decide +kernel
theorem dX7_crosses_116 : decode cX7_crosses 116 = .ok (.iload_n 1, 1) := by decide +kernel
theorem dX7_crosses_117 : decode cX7_crosses 117 = .ok (.iconst 1, 1) := by decide +kernel
theorem dX7_crosses_118 : decode cX7_crosses 118 = .ok (.invokestatic 92, 3) := by decide +kernel
theorem dX7_crosses_121 : decode cX7_crosses 121 = .ok (.iload_n 3, 1) := by decide +kernel
theorem dX7_crosses_122 : decode cX7_crosses 122 = .ok (.iastore, 1) := by decide +kernel
theorem dX7_crosses_123 : decode cX7_crosses 123 = .ok (.aload_n 0, 1) := by decide +kernel
theorem dX7_crosses_124 : decode cX7_crosses 124 = .ok (.getfield 9, 3) := by decide +kernel
theorem dX7_crosses_127 : decode cX7_crosses 127 = .ok (.iload_n 1, 1) := by decide +kernel
theorem dX7_crosses_128 : decode cX7_crosses 128 = .ok (.iconst 3, 1) := by decide +kernel
theorem dX7_crosses_129 : decode cX7_crosses 129 = .ok (.invokestatic 92, 3) := by decide +kernel
theorem dX7_crosses_132 : decode cX7_crosses 132 = .ok (.sipush 9999, 3) := by decide +kernel
theorem dX7_crosses_135 : decode cX7_crosses 135 = .ok (.aload_n 0, 1) := by decide +kernel
theorem dX7_crosses_136 : decode cX7_crosses 136 = .ok (.iload_n 1, 1) := by decide +kernel
theorem dX7_crosses_137 : decode cX7_crosses 137 = .ok (.iconst 3, 1) := by decide +kernel
theorem dX7_crosses_138 : decode cX7_crosses 138 = .ok (.invokevirtual 113, 3) := by decide +kernel
theorem dX7_crosses_141 : decode cX7_crosses 141 = .ok (.iconst 1, 1) := by decide +kernel
theorem dX7_crosses_142 : decode cX7_crosses 142 = .ok (.iadd, 1) := by decide +kernel
theorem dX7_crosses_143 : decode cX7_crosses 143 = .ok (.invokestatic 79, 3) := by decide +kernel
theorem dX7_crosses_146 : decode cX7_crosses 146 = .ok (.iastore, 1) := by decide +kernel
theorem dX7_crosses_147 : decode cX7_crosses 147 = .ok (.aload_n 0, 1) := by decide +kernel
theorem dX7_crosses_148 : decode cX7_crosses 148 = .ok (.getfield 9, 3) := by decide +kernel
theorem dX7_crosses_151 : decode cX7_crosses 151 = .ok (.iconst 0, 1) := by decide +kernel
theorem dX7_crosses_152 : decode cX7_crosses 152 = .ok (.dup2, 1) := by decide +kernel
theorem dX7_crosses_153 : decode cX7_crosses 153 = .ok (.iaload, 1) := by decide +kernel
theorem dX7_crosses_154 : decode cX7_crosses 154 = .ok (.iconst 1, 1) := by decide +kernel
theorem dX7_crosses_155 : decode cX7_crosses 155 = .ok (.iadd, 1) := by decide +kernel
theorem dX7_crosses_156 : decode cX7_crosses 156 = .ok (.iastore, 1) := by decide +kernel
theorem dX7_crosses_157 : decode cX7_crosses 157 = .ok (.iload 4, 2) := by decide +kernel
theorem dX7_crosses_159 : decode cX7_crosses 159 = .ok (.ireturn, 1) := by decide +kernel
theorem dX7_cross_0 : decode cX7_cross 0 = .ok (.aload_n 0, 1) := by decide +kernel
theorem dX7_cross_1 : decode cX7_cross 1 = .ok (.iload_n 1, 1) := by decide +kernel
theorem dX7_cross_2 : decode cX7_cross 2 = .ok (.invokevirtual 126, 3) := by decide +kernel
theorem dX7_cross_5 : decode cX7_cross 5 = .ok (.ifCond .ne 10, 3) := by decide +kernel
theorem dX7_cross_8 : decode cX7_cross 8 = .ok (.aload_n 0, 1) := by decide +kernel
theorem dX7_cross_9 : decode cX7_cross 9 = .ok (.ldc 69, 2) := by decide +kernel
theorem dX7_cross_11 : decode cX7_cross 11 = .ok (.invokevirtual 75, 3) := by decide +kernel
theorem dX7_cross_14 : decode cX7_cross 14 = .ok (.ireturn, 1) := by decide +kernel
theorem dX7_cross_15 : decode cX7_cross 15 = .ok (.aload_n 0, 1) := by decide +kernel
theorem dX7_cross_16 : decode cX7_cross 16 = .ok (.getfield 9, 3) := by decide +kernel
theorem dX7_cross_19 : decode cX7_cross 19 = .ok (.iconst 0, 1) := by decide +kernel
theorem dX7_cross_20 : decode cX7_cross 20 = .ok (.iaload, 1) := by decide +kernel
theorem dX7_cross_21 : decode cX7_cross 21 = .ok (.ldc 144, 2) := by decide +kernel
theorem dX7_cross_23 : decode cX7_cross 23 = .ok (.if_icmp .ne 12, 3) := by decide +kernel
theorem dX7_cross_26 : decode cX7_cross 26 = .ok (.aload_n 0, 1) := by decide +kernel
theorem dX7_cross_27 : decode cX7_cross 27 = .ok (.ldc 145, 2) := by decide +kernel
theorem dX7_cross_29 : decode cX7_cross 29 = .ok (.invokevirtual 75, 3) := by decide +kernel
theorem dX7_cross_32 : decode cX7_cross 32 = .ok (.goto 8, 3) := by decide +kernel
theorem dX7_cross_35 : decode cX7_cross 35 = .ok (.aload_n 0, 1) := by decide +kernel
theorem dX7_cross_36 : decode cX7_cross 36 = .ok (.iload_n 1, 1) := by decide +kernel
theorem dX7_cross_37 : decode cX7_cross 37 = .ok (.invokevirtual 146, 3) := by decide +kernel
theorem dX7_cross_40 : decode cX7_cross 40 = .ok (.ireturn, 1) := by decide +kernel
theorem dX7_isSet_0 : decode cX7_isSet 0 = .ok (.iload_n 1, 1) := by decide +kernel
theorem dX7_isSet_1 : decode cX7_isSet 1 = .ok (.iconst 0, 1) := by decide +kernel
theorem dX7_isSet_2 : decode cX7_isSet 2 = .ok (.iconst 1, 1) := by decide +kernel
theorem dX7_isSet_3 : decode cX7_isSet 3 = .ok (.aload_n 0, 1) := by decide +kernel
theorem dX7_isSet_4 : decode cX7_isSet 4 = .ok (.getfield 9, 3) := by decide +kernel
theorem dX7_isSet_7 : decode cX7_isSet 7 = .ok (.iconst 1, 1) := by decide +kernel
theorem dX7_isSet_8 : decode cX7_isSet 8 = .ok (.iaload, 1) := by decide +kernel
theorem dX7_isSet_9 : decode cX7_isSet 9 = .ok (.ishl, 1) := by decide +kernel
theorem dX7_isSet_10 : decode cX7_isSet 10 = .ok (.iconst 1, 1) := by decide +kernel
theorem dX7_isSet_11 : decode cX7_isSet 11 = .ok (.isub, 1) := by decide +kernel
theorem dX7_isSet_12 : decode cX7_isSet 12 = .ok (.invokestatic 88, 3) := by decide +kernel
theorem dX7_isSet_15 : decode cX7_isSet 15 = .ok (.ireturn, 1) := by decide +kernel
theorem dX7_crowd_0 : decode cX7_crowd 0 = .ok (.aload_n 0, 1) := by decide +kernel
theorem dX7_crowd_1 : decode cX7_crowd 1 = .ok (.iload_n 1, 1) := by decide +kernel
theorem dX7_crowd_2 : decode cX7_crowd 2 = .ok (.invokevirtual 149, 3) := by decide +kernel
theorem dX7_crowd_5 : decode cX7_crowd 5 = .ok (.ifCond .ne 10, 3) := by decide +kernel
theorem dX7_crowd_8 : decode cX7_crowd 8 = .ok (.aload_n 0, 1) := by decide +kernel
theorem dX7_crowd_9 : decode cX7_crowd 9 = .ok (.ldc 69, 2) := by decide +kernel
theorem dX7_crowd_11 : decode cX7_crowd 11 = .ok (.invokevirtual 75, 3) := by decide +kernel
theorem dX7_crowd_14 : decode cX7_crowd 14 = .ok (.ireturn, 1) := by decide +kernel
theorem dX7_crowd_15 : decode cX7_crowd 15 = .ok (.aload_n 0, 1) := by decide +kernel
theorem dX7_crowd_16 : decode cX7_crowd 16 = .ok (.getfield 9, 3) := by decide +kernel
theorem dX7_crowd_19 : decode cX7_crowd 19 = .ok (.iconst 0, 1) := by decide +kernel
theorem dX7_crowd_20 : decode cX7_crowd 20 = .ok (.iaload, 1) := by decide +kernel
theorem dX7_crowd_21 : decode cX7_crowd 21 = .ok (.iload_n 1, 1) := by decide +kernel
theorem dX7_crowd_22 : decode cX7_crowd 22 = .ok (.invokestatic 152, 3) := by decide +kernel
theorem dX7_crowd_25 : decode cX7_crowd 25 = .ok (.iadd, 1) := by decide +kernel
theorem dX7_crowd_26 : decode cX7_crowd 26 = .ok (.ldc 144, 2) := by decide +kernel
theorem dX7_crowd_28 : decode cX7_crowd 28 = .ok (.if_icmp .le 10, 3) := by decide +kernel
theorem dX7_crowd_31 : decode cX7_crowd 31 = .ok (.aload_n 0, 1) := by decide +kernel
theorem dX7_crowd_32 : decode cX7_crowd 32 = .ok (.ldc 145, 2) := by decide +kernel
theorem dX7_crowd_34 : decode cX7_crowd 34 = .ok (.invokevirtual 75, 3) := by decide +kernel
theorem dX7_crowd_37 : decode cX7_crowd 37 = .ok (.ireturn, 1) := by decide +kernel
theorem dX7_crowd_38 : decode cX7_crowd 38 = .ok (.iconst 0, 1) := by decide +kernel
theorem dX7_crowd_39 : decode cX7_crowd 39 = .ok (.istore_n 2, 1) := by decide +kernel
theorem dX7_crowd_40 : decode cX7_crowd 40 = .ok (.iconst 0, 1) := by decide +kernel
theorem dX7_crowd_41 : decode cX7_crowd 41 = .ok (.istore_n 3, 1) := by decide +kernel
theorem dX7_crowd_42 : decode cX7_crowd 42 = .ok (.iload_n 3, 1) := by decide +kernel
theorem dX7_crowd_43 : decode cX7_crowd 43 = .ok (.aload_n 0, 1) := by decide +kernel
theorem dX7_crowd_44 : decode cX7_crowd 44 = .ok (.getfield 9, 3) := by decide +kernel
theorem dX7_crowd_47 : decode cX7_crowd 47 = .ok (.iconst 1, 1) := by decide +kernel
theorem dX7_crowd_48 : decode cX7_crowd 48 = .ok (.iaload, 1) := by decide +kernel
theorem dX7_crowd_49 : decode cX7_crowd 49 = .ok (.if_icmp .ge 35, 3) := by decide +kernel
theorem dX7_crowd_52 : decode cX7_crowd 52 = .ok (.iload_n 2, 1) := by decide +kernel
theorem dX7_crowd_53 : decode cX7_crowd 53 = .ok (.iload_n 1, 1) := by decide +kernel
theorem dX7_crowd_54 : decode cX7_crowd 54 = .ok (.iload_n 3, 1) := by decide +kernel
theorem dX7_crowd_55 : decode cX7_crowd 55 = .ok (.invokestatic 155, 3) := by decide +kernel
theorem dX7_crowd_58 : decode cX7_crowd 58 = .ok (.ifCond .eq 17, 3) := by decide +kernel
theorem dX7_crowd_61 : decode cX7_crowd 61 = .ok (.aload_n 0, 1) := by decide +kernel
theorem dX7_crowd_62 : decode cX7_crowd 62 = .ok (.iload_n 3, 1) := by decide +kernel
theorem dX7_crowd_63 : decode cX7_crowd 63 = .ok (.invokevirtual 146, 3) := by decide +kernel
theorem dX7_crowd_66 : decode cX7_crowd 66 = .ok (.bipush 12, 2) := by decide +kernel
theorem dX7_crowd_68 : decode cX7_crowd 68 = .ok (.if_icmp .ge 7, 3) := by decide +kernel
theorem dX7_crowd_71 : decode cX7_crowd 71 = .ok (.iconst 1, 1) := by decide +kernel
theorem dX7_crowd_72 : decode cX7_crowd 72 = .ok (.goto 4, 3) := by decide +kernel
theorem dX7_crowd_75 : decode cX7_crowd 75 = .ok (.iconst 0, 1) := by decide +kernel
theorem dX7_crowd_76 : decode cX7_crowd 76 = .ok (.iadd, 1) := by decide +kernel
theorem dX7_crowd_77 : decode cX7_crowd 77 = .ok (.istore_n 2, 1) := by decide +kernel
theorem dX7_crowd_78 : decode cX7_crowd 78 = .ok (.iinc 3 1, 3) := by decide +kernel
theorem dX7_crowd_81 : decode cX7_crowd 81 = .ok (.goto (-39), 3) := by decide +kernel
theorem dX7_crowd_84 : decode cX7_crowd 84 = .ok (.iload_n 2, 1) := by decide +kernel
theorem dX7_crowd_85 : decode cX7_crowd 85 = .ok (.ireturn, 1) := by decide +kernel
theorem dX7_sumOf_0 : decode cX7_sumOf 0 = .ok (.iconst 0, 1) := by decide +kernel
theorem dX7_sumOf_1 : decode cX7_sumOf 1 = .ok (.istore_n 2, 1) := by decide +kernel
theorem dX7_sumOf_2 : decode cX7_sumOf 2 = .ok (.iconst 0, 1) := by decide +kernel
theorem dX7_sumOf_3 : decode cX7_sumOf 3 = .ok (.istore_n 3, 1) := by decide +kernel
theorem dX7_sumOf_4 : decode cX7_sumOf 4 = .ok (.iload_n 3, 1) := by decide +kernel
theorem dX7_sumOf_5 : decode cX7_sumOf 5 = .ok (.aload_n 0, 1) := by decide +kernel
theorem dX7_sumOf_6 : decode cX7_sumOf 6 = .ok (.getfield 9, 3) := by decide +kernel
theorem dX7_sumOf_9 : decode cX7_sumOf 9 = .ok (.iconst 1, 1) := by decide +kernel
theorem dX7_sumOf_10 : decode cX7_sumOf 10 = .ok (.iaload, 1) := by decide +kernel
theorem dX7_sumOf_11 : decode cX7_sumOf 11 = .ok (.if_icmp .ge 18, 3) := by decide +kernel
theorem dX7_sumOf_14 : decode cX7_sumOf 14 = .ok (.iload_n 2, 1) := by decide +kernel
theorem dX7_sumOf_15 : decode cX7_sumOf 15 = .ok (.aload_n 0, 1) := by decide +kernel
theorem dX7_sumOf_16 : decode cX7_sumOf 16 = .ok (.iload_n 3, 1) := by decide +kernel
theorem dX7_sumOf_17 : decode cX7_sumOf 17 = .ok (.iload_n 1, 1) := by decide +kernel
theorem dX7_sumOf_18 : decode cX7_sumOf 18 = .ok (.invokevirtual 113, 3) := by decide +kernel
theorem dX7_sumOf_21 : decode cX7_sumOf 21 = .ok (.iadd, 1) := by decide +kernel
theorem dX7_sumOf_22 : decode cX7_sumOf 22 = .ok (.istore_n 2, 1) := by decide +kernel
theorem dX7_sumOf_23 : decode cX7_sumOf 23 = .ok (.iinc 3 1, 3) := by decide +kernel
theorem dX7_sumOf_26 : decode cX7_sumOf 26 = .ok (.goto (-22), 3) := by decide +kernel
theorem dX7_sumOf_29 : decode cX7_sumOf 29 = .ok (.iload_n 2, 1) := by decide +kernel
theorem dX7_sumOf_30 : decode cX7_sumOf 30 = .ok (.ireturn, 1) := by decide +kernel
theorem dX7_keptAll_0 : decode cX7_keptAll 0 = .ok (.iconst 0, 1) := by decide +kernel
theorem dX7_keptAll_1 : decode cX7_keptAll 1 = .ok (.istore_n 1, 1) := by decide +kernel
theorem dX7_keptAll_2 : decode cX7_keptAll 2 = .ok (.iconst 0, 1) := by decide +kernel
theorem dX7_keptAll_3 : decode cX7_keptAll 3 = .ok (.istore_n 2, 1) := by decide +kernel
theorem dX7_keptAll_4 : decode cX7_keptAll 4 = .ok (.iload_n 2, 1) := by decide +kernel
theorem dX7_keptAll_5 : decode cX7_keptAll 5 = .ok (.bipush 12, 2) := by decide +kernel
theorem dX7_keptAll_7 : decode cX7_keptAll 7 = .ok (.if_icmp .ge 21, 3) := by decide +kernel
theorem dX7_keptAll_10 : decode cX7_keptAll 10 = .ok (.iload_n 1, 1) := by decide +kernel
theorem dX7_keptAll_11 : decode cX7_keptAll 11 = .ok (.aload_n 0, 1) := by decide +kernel
theorem dX7_keptAll_12 : decode cX7_keptAll 12 = .ok (.getfield 9, 3) := by decide +kernel
theorem dX7_keptAll_15 : decode cX7_keptAll 15 = .ok (.bipush 14, 2) := by decide +kernel
theorem dX7_keptAll_17 : decode cX7_keptAll 17 = .ok (.iload_n 2, 1) := by decide +kernel
theorem dX7_keptAll_18 : decode cX7_keptAll 18 = .ok (.iadd, 1) := by decide +kernel
theorem dX7_keptAll_19 : decode cX7_keptAll 19 = .ok (.iaload, 1) := by decide +kernel
theorem dX7_keptAll_20 : decode cX7_keptAll 20 = .ok (.iadd, 1) := by decide +kernel
theorem dX7_keptAll_21 : decode cX7_keptAll 21 = .ok (.istore_n 1, 1) := by decide +kernel
theorem dX7_keptAll_22 : decode cX7_keptAll 22 = .ok (.iinc 2 1, 3) := by decide +kernel
theorem dX7_keptAll_25 : decode cX7_keptAll 25 = .ok (.goto (-21), 3) := by decide +kernel
theorem dX7_keptAll_28 : decode cX7_keptAll 28 = .ok (.iload_n 1, 1) := by decide +kernel
theorem dX7_keptAll_29 : decode cX7_keptAll 29 = .ok (.ireturn, 1) := by decide +kernel
theorem dX7_wouldCross_0 : decode cX7_wouldCross 0 = .ok (.aload_n 0, 1) := by decide +kernel
theorem dX7_wouldCross_1 : decode cX7_wouldCross 1 = .ok (.getfield 9, 3) := by decide +kernel
theorem dX7_wouldCross_4 : decode cX7_wouldCross 4 = .ok (.aload_n 0, 1) := by decide +kernel
theorem dX7_wouldCross_5 : decode cX7_wouldCross 5 = .ok (.getfield 16, 3) := by decide +kernel
theorem dX7_wouldCross_8 : decode cX7_wouldCross 8 = .ok (.invokestatic 70, 3) := by decide +kernel
theorem dX7_wouldCross_11 : decode cX7_wouldCross 11 = .ok (.aload_n 0, 1) := by decide +kernel
theorem dX7_wouldCross_12 : decode cX7_wouldCross 12 = .ok (.aload_n 0, 1) := by decide +kernel
theorem dX7_wouldCross_13 : decode cX7_wouldCross 13 = .ok (.iload_n 1, 1) := by decide +kernel
theorem dX7_wouldCross_14 : decode cX7_wouldCross 14 = .ok (.invokevirtual 146, 3) := by decide +kernel
theorem dX7_wouldCross_17 : decode cX7_wouldCross 17 = .ok (.invokevirtual 158, 3) := by decide +kernel
theorem dX7_wouldCross_20 : decode cX7_wouldCross 20 = .ok (.ireturn, 1) := by decide +kernel
theorem dX7_wouldFall_0 : decode cX7_wouldFall 0 = .ok (.iconst 0, 1) := by decide +kernel
theorem dX7_wouldFall_1 : decode cX7_wouldFall 1 = .ok (.istore_n 1, 1) := by decide +kernel
theorem dX7_wouldFall_2 : decode cX7_wouldFall 2 = .ok (.iconst 0, 1) := by decide +kernel
theorem dX7_wouldFall_3 : decode cX7_wouldFall 3 = .ok (.istore_n 2, 1) := by decide +kernel
theorem dX7_wouldFall_4 : decode cX7_wouldFall 4 = .ok (.iload_n 2, 1) := by decide +kernel
theorem dX7_wouldFall_5 : decode cX7_wouldFall 5 = .ok (.aload_n 0, 1) := by decide +kernel
theorem dX7_wouldFall_6 : decode cX7_wouldFall 6 = .ok (.getfield 9, 3) := by decide +kernel
theorem dX7_wouldFall_9 : decode cX7_wouldFall 9 = .ok (.iconst 1, 1) := by decide +kernel
theorem dX7_wouldFall_10 : decode cX7_wouldFall 10 = .ok (.iaload, 1) := by decide +kernel
theorem dX7_wouldFall_11 : decode cX7_wouldFall 11 = .ok (.if_icmp .ge 29, 3) := by decide +kernel
theorem dX7_wouldFall_14 : decode cX7_wouldFall 14 = .ok (.iload_n 1, 1) := by decide +kernel
theorem dX7_wouldFall_15 : decode cX7_wouldFall 15 = .ok (.aload_n 0, 1) := by decide +kernel
theorem dX7_wouldFall_16 : decode cX7_wouldFall 16 = .ok (.iload_n 2, 1) := by decide +kernel
theorem dX7_wouldFall_17 : decode cX7_wouldFall 17 = .ok (.invokevirtual 161, 3) := by decide +kernel
theorem dX7_wouldFall_20 : decode cX7_wouldFall 20 = .ok (.bipush 12, 2) := by decide +kernel
theorem dX7_wouldFall_22 : decode cX7_wouldFall 22 = .ok (.if_icmp .ge 9, 3) := by decide +kernel
theorem dX7_wouldFall_25 : decode cX7_wouldFall 25 = .ok (.iconst 1, 1) := by decide +kernel
theorem dX7_wouldFall_26 : decode cX7_wouldFall 26 = .ok (.iload_n 2, 1) := by decide +kernel
theorem dX7_wouldFall_27 : decode cX7_wouldFall 27 = .ok (.ishl, 1) := by decide +kernel
theorem dX7_wouldFall_28 : decode cX7_wouldFall 28 = .ok (.goto 4, 3) := by decide +kernel
theorem dX7_wouldFall_31 : decode cX7_wouldFall 31 = .ok (.iconst 0, 1) := by decide +kernel
theorem dX7_wouldFall_32 : decode cX7_wouldFall 32 = .ok (.ior, 1) := by decide +kernel
theorem dX7_wouldFall_33 : decode cX7_wouldFall 33 = .ok (.istore_n 1, 1) := by decide +kernel
theorem dX7_wouldFall_34 : decode cX7_wouldFall 34 = .ok (.iinc 2 1, 3) := by decide +kernel
theorem dX7_wouldFall_37 : decode cX7_wouldFall 37 = .ok (.goto (-33), 3) := by decide +kernel
theorem dX7_wouldFall_40 : decode cX7_wouldFall 40 = .ok (.iload_n 1, 1) := by decide +kernel
theorem dX7_wouldFall_41 : decode cX7_wouldFall 41 = .ok (.ireturn, 1) := by decide +kernel
theorem dX7_now_0 : decode cX7_now 0 = .ok (.iload_n 1, 1) := by decide +kernel
theorem dX7_now_1 : decode cX7_now 1 = .ok (.tableswitch 75 0 5 #[39, 46, 51, 56, 63, 69], 39) := by decide +kernel
theorem dX7_now_40 : decode cX7_now 40 = .ok (.aload_n 0, 1) := by decide +kernel
theorem dX7_now_41 : decode cX7_now 41 = .ok (.getfield 9, 3) := by decide +kernel
theorem dX7_now_44 : decode cX7_now 44 = .ok (.iconst 0, 1) := by decide +kernel
theorem dX7_now_45 : decode cX7_now 45 = .ok (.iaload, 1) := by decide +kernel
theorem dX7_now_46 : decode cX7_now 46 = .ok (.ireturn, 1) := by decide +kernel
theorem dX7_now_47 : decode cX7_now 47 = .ok (.aload_n 0, 1) := by decide +kernel
theorem dX7_now_48 : decode cX7_now 48 = .ok (.invokevirtual 164, 3) := by decide +kernel
theorem dX7_now_51 : decode cX7_now 51 = .ok (.ireturn, 1) := by decide +kernel
theorem dX7_now_52 : decode cX7_now 52 = .ok (.aload_n 0, 1) := by decide +kernel
theorem dX7_now_53 : decode cX7_now 53 = .ok (.invokevirtual 168, 3) := by decide +kernel
theorem dX7_now_56 : decode cX7_now 56 = .ok (.ireturn, 1) := by decide +kernel
theorem dX7_now_57 : decode cX7_now 57 = .ok (.aload_n 0, 1) := by decide +kernel
theorem dX7_now_58 : decode cX7_now 58 = .ok (.getfield 9, 3) := by decide +kernel
theorem dX7_now_61 : decode cX7_now 61 = .ok (.iconst 3, 1) := by decide +kernel
theorem dX7_now_62 : decode cX7_now 62 = .ok (.iaload, 1) := by decide +kernel
theorem dX7_now_63 : decode cX7_now 63 = .ok (.ireturn, 1) := by decide +kernel
theorem dX7_now_64 : decode cX7_now 64 = .ok (.aload_n 0, 1) := by decide +kernel
theorem dX7_now_65 : decode cX7_now 65 = .ok (.iconst 3, 1) := by decide +kernel
theorem dX7_now_66 : decode cX7_now 66 = .ok (.invokevirtual 171, 3) := by decide +kernel
theorem dX7_now_69 : decode cX7_now 69 = .ok (.ireturn, 1) := by decide +kernel
theorem dX7_now_70 : decode cX7_now 70 = .ok (.aload_n 0, 1) := by decide +kernel
theorem dX7_now_71 : decode cX7_now 71 = .ok (.iconst 1, 1) := by decide +kernel
theorem dX7_now_72 : decode cX7_now 72 = .ok (.invokevirtual 171, 3) := by decide +kernel
theorem dX7_now_75 : decode cX7_now 75 = .ok (.ireturn, 1) := by decide +kernel
theorem dX7_now_76 : decode cX7_now 76 = .ok (.aload_n 0, 1) := by decide +kernel
theorem dX7_now_77 : decode cX7_now 77 = .ok (.ldc 69, 2) := by decide +kernel
theorem dX7_now_79 : decode cX7_now 79 = .ok (.invokevirtual 75, 3) := by decide +kernel
theorem dX7_now_82 : decode cX7_now 82 = .ok (.ireturn, 1) := by decide +kernel
theorem dX7_would_0 : decode cX7_would 0 = .ok (.aload_n 0, 1) := by decide +kernel
theorem dX7_would_1 : decode cX7_would 1 = .ok (.iload_n 1, 1) := by decide +kernel
theorem dX7_would_2 : decode cX7_would 2 = .ok (.invokevirtual 126, 3) := by decide +kernel
theorem dX7_would_5 : decode cX7_would 5 = .ok (.ifCond .eq 11, 3) := by decide +kernel
theorem dX7_would_8 : decode cX7_would 8 = .ok (.aload_n 0, 1) := by decide +kernel
theorem dX7_would_9 : decode cX7_would 9 = .ok (.iload_n 1, 1) := by decide +kernel
theorem dX7_would_10 : decode cX7_would 10 = .ok (.invokevirtual 161, 3) := by decide +kernel
theorem dX7_would_13 : decode cX7_would 13 = .ok (.goto 9, 3) := by decide +kernel
theorem dX7_would_16 : decode cX7_would 16 = .ok (.aload_n 0, 1) := by decide +kernel
theorem dX7_would_17 : decode cX7_would 17 = .ok (.ldc 69, 2) := by decide +kernel
theorem dX7_would_19 : decode cX7_would 19 = .ok (.invokevirtual 75, 3) := by decide +kernel
theorem dX7_would_22 : decode cX7_would 22 = .ok (.ireturn, 1) := by decide +kernel
theorem dX7_behind_0 : decode cX7_behind 0 = .ok (.aload_n 0, 1) := by decide +kernel
theorem dX7_behind_1 : decode cX7_behind 1 = .ok (.getfield 9, 3) := by decide +kernel
theorem dX7_behind_4 : decode cX7_behind 4 = .ok (.aload_n 0, 1) := by decide +kernel
theorem dX7_behind_5 : decode cX7_behind 5 = .ok (.getfield 16, 3) := by decide +kernel
theorem dX7_behind_8 : decode cX7_behind 8 = .ok (.invokestatic 70, 3) := by decide +kernel
theorem dX7_behind_11 : decode cX7_behind 11 = .ok (.aload_n 0, 1) := by decide +kernel
theorem dX7_behind_12 : decode cX7_behind 12 = .ok (.iload_n 1, 1) := by decide +kernel
theorem dX7_behind_13 : decode cX7_behind 13 = .ok (.invokevirtual 146, 3) := by decide +kernel
theorem dX7_behind_16 : decode cX7_behind 16 = .ok (.istore_n 3, 1) := by decide +kernel
theorem dX7_behind_17 : decode cX7_behind 17 = .ok (.aload_n 0, 1) := by decide +kernel
theorem dX7_behind_18 : decode cX7_behind 18 = .ok (.iload_n 3, 1) := by decide +kernel
theorem dX7_behind_19 : decode cX7_behind 19 = .ok (.ifCond .ge 7, 3) := by decide +kernel
theorem dX7_behind_22 : decode cX7_behind 22 = .ok (.iload_n 3, 1) := by decide +kernel
theorem dX7_behind_23 : decode cX7_behind 23 = .ok (.goto 9, 3) := by decide +kernel
theorem dX7_behind_26 : decode cX7_behind 26 = .ok (.aload_n 0, 1) := by decide +kernel
theorem dX7_behind_27 : decode cX7_behind 27 = .ok (.getfield 9, 3) := by decide +kernel
theorem dX7_behind_30 : decode cX7_behind 30 = .ok (.iload_n 2, 1) := by decide +kernel
theorem dX7_behind_31 : decode cX7_behind 31 = .ok (.iaload, 1) := by decide +kernel
theorem dX7_behind_32 : decode cX7_behind 32 = .ok (.invokevirtual 158, 3) := by decide +kernel
theorem dX7_behind_35 : decode cX7_behind 35 = .ok (.ireturn, 1) := by decide +kernel
theorem dX7_becomes_0 : decode cX7_becomes 0 = .ok (.aload_n 0, 1) := by decide +kernel
theorem dX7_becomes_1 : decode cX7_becomes 1 = .ok (.iload_n 1, 1) := by decide +kernel
theorem dX7_becomes_2 : decode cX7_becomes 2 = .ok (.invokevirtual 126, 3) := by decide +kernel
theorem dX7_becomes_5 : decode cX7_becomes 5 = .ok (.ifCond .eq 16, 3) := by decide +kernel
theorem dX7_becomes_8 : decode cX7_becomes 8 = .ok (.aload_n 0, 1) := by decide +kernel
theorem dX7_becomes_9 : decode cX7_becomes 9 = .ok (.iload_n 1, 1) := by decide +kernel
theorem dX7_becomes_10 : decode cX7_becomes 10 = .ok (.iload_n 1, 1) := by decide +kernel
theorem dX7_becomes_11 : decode cX7_becomes 11 = .ok (.iconst 1, 1) := by decide +kernel
theorem dX7_becomes_12 : decode cX7_becomes 12 = .ok (.invokestatic 92, 3) := by decide +kernel
theorem dX7_becomes_15 : decode cX7_becomes 15 = .ok (.invokevirtual 174, 3) := by decide +kernel
theorem dX7_becomes_18 : decode cX7_becomes 18 = .ok (.goto 9, 3) := by decide +kernel
theorem dX7_becomes_21 : decode cX7_becomes 21 = .ok (.aload_n 0, 1) := by decide +kernel
theorem dX7_becomes_22 : decode cX7_becomes 22 = .ok (.ldc 69, 2) := by decide +kernel
theorem dX7_becomes_24 : decode cX7_becomes 24 = .ok (.invokevirtual 75, 3) := by decide +kernel
theorem dX7_becomes_27 : decode cX7_becomes 27 = .ok (.ireturn, 1) := by decide +kernel
theorem dX7_leaves_0 : decode cX7_leaves 0 = .ok (.aload_n 0, 1) := by decide +kernel
theorem dX7_leaves_1 : decode cX7_leaves 1 = .ok (.iload_n 1, 1) := by decide +kernel
theorem dX7_leaves_2 : decode cX7_leaves 2 = .ok (.invokevirtual 126, 3) := by decide +kernel
theorem dX7_leaves_5 : decode cX7_leaves 5 = .ok (.ifCond .eq 22, 3) := by decide +kernel
theorem dX7_leaves_8 : decode cX7_leaves 8 = .ok (.iload_n 2, 1) := by decide +kernel
theorem dX7_leaves_9 : decode cX7_leaves 9 = .ok (.invokestatic 95, 3) := by decide +kernel
theorem dX7_leaves_12 : decode cX7_leaves 12 = .ok (.ifCond .eq 15, 3) := by decide +kernel
theorem dX7_leaves_15 : decode cX7_leaves 15 = .ok (.aload_n 0, 1) := by decide +kernel
theorem dX7_leaves_16 : decode cX7_leaves 16 = .ok (.iload_n 1, 1) := by decide +kernel
theorem dX7_leaves_17 : decode cX7_leaves 17 = .ok (.bipush 14, 2) := by decide +kernel
theorem dX7_leaves_19 : decode cX7_leaves 19 = .ok (.iload_n 2, 1) := by decide +kernel
theorem dX7_leaves_20 : decode cX7_leaves 20 = .ok (.iadd, 1) := by decide +kernel
theorem dX7_leaves_21 : decode cX7_leaves 21 = .ok (.invokevirtual 174, 3) := by decide +kernel
theorem dX7_leaves_24 : decode cX7_leaves 24 = .ok (.goto 9, 3) := by decide +kernel
theorem dX7_leaves_27 : decode cX7_leaves 27 = .ok (.aload_n 0, 1) := by decide +kernel
theorem dX7_leaves_28 : decode cX7_leaves 28 = .ok (.ldc 69, 2) := by decide +kernel
theorem dX7_leaves_30 : decode cX7_leaves 30 = .ok (.invokevirtual 75, 3) := by decide +kernel
theorem dX7_leaves_33 : decode cX7_leaves 33 = .ok (.ireturn, 1) := by decide +kernel
theorem dX7_areTwo_0 : decode cX7_areTwo 0 = .ok (.aload_n 0, 1) := by decide +kernel
theorem dX7_areTwo_1 : decode cX7_areTwo 1 = .ok (.iload_n 1, 1) := by decide +kernel
theorem dX7_areTwo_2 : decode cX7_areTwo 2 = .ok (.invokevirtual 126, 3) := by decide +kernel
theorem dX7_areTwo_5 : decode cX7_areTwo 5 = .ok (.ifCond .eq 20, 3) := by decide +kernel
theorem dX7_areTwo_8 : decode cX7_areTwo 8 = .ok (.aload_n 0, 1) := by decide +kernel
theorem dX7_areTwo_9 : decode cX7_areTwo 9 = .ok (.iload_n 2, 1) := by decide +kernel
theorem dX7_areTwo_10 : decode cX7_areTwo 10 = .ok (.invokevirtual 126, 3) := by decide +kernel
theorem dX7_areTwo_13 : decode cX7_areTwo 13 = .ok (.ifCond .eq 12, 3) := by decide +kernel
theorem dX7_areTwo_16 : decode cX7_areTwo 16 = .ok (.iload_n 1, 1) := by decide +kernel
theorem dX7_areTwo_17 : decode cX7_areTwo 17 = .ok (.iload_n 2, 1) := by decide +kernel
theorem dX7_areTwo_18 : decode cX7_areTwo 18 = .ok (.if_icmp .eq 7, 3) := by decide +kernel
theorem dX7_areTwo_21 : decode cX7_areTwo 21 = .ok (.iconst 1, 1) := by decide +kernel
theorem dX7_areTwo_22 : decode cX7_areTwo 22 = .ok (.goto 4, 3) := by decide +kernel
theorem dX7_areTwo_25 : decode cX7_areTwo 25 = .ok (.iconst 0, 1) := by decide +kernel
theorem dX7_areTwo_26 : decode cX7_areTwo 26 = .ok (.ireturn, 1) := by decide +kernel
theorem dX7_after_0 : decode cX7_after 0 = .ok (.aload_n 0, 1) := by decide +kernel
theorem dX7_after_1 : decode cX7_after 1 = .ok (.iload_n 1, 1) := by decide +kernel
theorem dX7_after_2 : decode cX7_after 2 = .ok (.iload_n 2, 1) := by decide +kernel
theorem dX7_after_3 : decode cX7_after 3 = .ok (.invokevirtual 177, 3) := by decide +kernel
theorem dX7_after_6 : decode cX7_after 6 = .ok (.ifCond .ne 10, 3) := by decide +kernel
theorem dX7_after_9 : decode cX7_after 9 = .ok (.aload_n 0, 1) := by decide +kernel
theorem dX7_after_10 : decode cX7_after 10 = .ok (.ldc 69, 2) := by decide +kernel
theorem dX7_after_12 : decode cX7_after 12 = .ok (.invokevirtual 75, 3) := by decide +kernel
theorem dX7_after_15 : decode cX7_after 15 = .ok (.ireturn, 1) := by decide +kernel
theorem dX7_after_16 : decode cX7_after 16 = .ok (.aload_n 0, 1) := by decide +kernel
theorem dX7_after_17 : decode cX7_after 17 = .ok (.getfield 9, 3) := by decide +kernel
theorem dX7_after_20 : decode cX7_after 20 = .ok (.aload_n 0, 1) := by decide +kernel
theorem dX7_after_21 : decode cX7_after 21 = .ok (.getfield 16, 3) := by decide +kernel
theorem dX7_after_24 : decode cX7_after 24 = .ok (.invokestatic 70, 3) := by decide +kernel
theorem dX7_after_27 : decode cX7_after 27 = .ok (.aload_n 0, 1) := by decide +kernel
theorem dX7_after_28 : decode cX7_after 28 = .ok (.iload_n 2, 1) := by decide +kernel
theorem dX7_after_29 : decode cX7_after 29 = .ok (.invokevirtual 146, 3) := by decide +kernel
theorem dX7_after_32 : decode cX7_after 32 = .ok (.istore_n 3, 1) := by decide +kernel
theorem dX7_after_33 : decode cX7_after 33 = .ok (.aload_n 0, 1) := by decide +kernel
theorem dX7_after_34 : decode cX7_after 34 = .ok (.iload_n 3, 1) := by decide +kernel
theorem dX7_after_35 : decode cX7_after 35 = .ok (.ifCond .ge 7, 3) := by decide +kernel
theorem dX7_after_38 : decode cX7_after 38 = .ok (.iload_n 3, 1) := by decide +kernel
theorem dX7_after_39 : decode cX7_after 39 = .ok (.goto 8, 3) := by decide +kernel
theorem dX7_after_42 : decode cX7_after 42 = .ok (.aload_n 0, 1) := by decide +kernel
theorem dX7_after_43 : decode cX7_after 43 = .ok (.iload_n 1, 1) := by decide +kernel
theorem dX7_after_44 : decode cX7_after 44 = .ok (.invokevirtual 146, 3) := by decide +kernel
theorem dX7_after_47 : decode cX7_after 47 = .ok (.invokevirtual 158, 3) := by decide +kernel
theorem dX7_after_50 : decode cX7_after 50 = .ok (.ireturn, 1) := by decide +kernel
theorem dX7_often_0 : decode cX7_often 0 = .ok (.aload_n 0, 1) := by decide +kernel
theorem dX7_often_1 : decode cX7_often 1 = .ok (.iload_n 1, 1) := by decide +kernel
theorem dX7_often_2 : decode cX7_often 2 = .ok (.invokevirtual 126, 3) := by decide +kernel
theorem dX7_often_5 : decode cX7_often 5 = .ok (.ifCond .ne 10, 3) := by decide +kernel
theorem dX7_often_8 : decode cX7_often 8 = .ok (.aload_n 0, 1) := by decide +kernel
theorem dX7_often_9 : decode cX7_often 9 = .ok (.ldc 69, 2) := by decide +kernel
theorem dX7_often_11 : decode cX7_often 11 = .ok (.invokevirtual 75, 3) := by decide +kernel
theorem dX7_often_14 : decode cX7_often 14 = .ok (.ireturn, 1) := by decide +kernel
theorem dX7_often_15 : decode cX7_often 15 = .ok (.aload_n 0, 1) := by decide +kernel
theorem dX7_often_16 : decode cX7_often 16 = .ok (.getfield 9, 3) := by decide +kernel
theorem dX7_often_19 : decode cX7_often 19 = .ok (.aload_n 0, 1) := by decide +kernel
theorem dX7_often_20 : decode cX7_often 20 = .ok (.getfield 16, 3) := by decide +kernel
theorem dX7_often_23 : decode cX7_often 23 = .ok (.invokestatic 70, 3) := by decide +kernel
theorem dX7_often_26 : decode cX7_often 26 = .ok (.iconst 0, 1) := by decide +kernel
theorem dX7_often_27 : decode cX7_often 27 = .ok (.istore_n 2, 1) := by decide +kernel
theorem dX7_often_28 : decode cX7_often 28 = .ok (.iload_n 2, 1) := by decide +kernel
theorem dX7_often_29 : decode cX7_often 29 = .ok (.bipush 60, 2) := by decide +kernel
theorem dX7_often_31 : decode cX7_often 31 = .ok (.if_icmp .ge 19, 3) := by decide +kernel
theorem dX7_often_34 : decode cX7_often 34 = .ok (.aload_n 0, 1) := by decide +kernel
theorem dX7_often_35 : decode cX7_often 35 = .ok (.iload_n 1, 1) := by decide +kernel
theorem dX7_often_36 : decode cX7_often 36 = .ok (.invokevirtual 146, 3) := by decide +kernel
theorem dX7_often_39 : decode cX7_often 39 = .ok (.bipush 12, 2) := by decide +kernel
theorem dX7_often_41 : decode cX7_often 41 = .ok (.if_icmp .ne 9, 3) := by decide +kernel
theorem dX7_often_44 : decode cX7_often 44 = .ok (.iinc 2 1, 3) := by decide +kernel
theorem dX7_often_47 : decode cX7_often 47 = .ok (.goto (-19), 3) := by decide +kernel
theorem dX7_often_50 : decode cX7_often 50 = .ok (.aload_n 0, 1) := by decide +kernel
theorem dX7_often_51 : decode cX7_often 51 = .ok (.iload_n 2, 1) := by decide +kernel
theorem dX7_often_52 : decode cX7_often 52 = .ok (.invokevirtual 158, 3) := by decide +kernel
theorem dX7_often_55 : decode cX7_often 55 = .ok (.ireturn, 1) := by decide +kernel
theorem dX7_crossing_0 : decode cX7_crossing 0 = .ok (.aload_n 0, 1) := by decide +kernel
theorem dX7_crossing_1 : decode cX7_crossing 1 = .ok (.getfield 9, 3) := by decide +kernel
theorem dX7_crossing_4 : decode cX7_crossing 4 = .ok (.iload_n 2, 1) := by decide +kernel
theorem dX7_crossing_5 : decode cX7_crossing 5 = .ok (.iaload, 1) := by decide +kernel
theorem dX7_crossing_6 : decode cX7_crossing 6 = .ok (.istore 4, 2) := by decide +kernel
theorem dX7_crossing_8 : decode cX7_crossing 8 = .ok (.iconst 0, 1) := by decide +kernel
theorem dX7_crossing_9 : decode cX7_crossing 9 = .ok (.istore 5, 2) := by decide +kernel
theorem dX7_crossing_11 : decode cX7_crossing 11 = .ok (.iconst 0, 1) := by decide +kernel
theorem dX7_crossing_12 : decode cX7_crossing 12 = .ok (.istore 6, 2) := by decide +kernel
theorem dX7_crossing_14 : decode cX7_crossing 14 = .ok (.iload 6, 2) := by decide +kernel
theorem dX7_crossing_16 : decode cX7_crossing 16 = .ok (.iload_n 3, 1) := by decide +kernel
theorem dX7_crossing_17 : decode cX7_crossing 17 = .ok (.if_icmp .ge 37, 3) := by decide +kernel
theorem dX7_crossing_20 : decode cX7_crossing 20 = .ok (.aload_n 0, 1) := by decide +kernel
theorem dX7_crossing_21 : decode cX7_crossing 21 = .ok (.getfield 9, 3) := by decide +kernel
theorem dX7_crossing_24 : decode cX7_crossing 24 = .ok (.iload_n 2, 1) := by decide +kernel
theorem dX7_crossing_25 : decode cX7_crossing 25 = .ok (.iload 6, 2) := by decide +kernel
theorem dX7_crossing_27 : decode cX7_crossing 27 = .ok (.iastore, 1) := by decide +kernel
theorem dX7_crossing_28 : decode cX7_crossing 28 = .ok (.iload 5, 2) := by decide +kernel
theorem dX7_crossing_30 : decode cX7_crossing 30 = .ok (.aload_n 0, 1) := by decide +kernel
theorem dX7_crossing_31 : decode cX7_crossing 31 = .ok (.iload_n 1, 1) := by decide +kernel
theorem dX7_crossing_32 : decode cX7_crossing 32 = .ok (.invokevirtual 161, 3) := by decide +kernel
theorem dX7_crossing_35 : decode cX7_crossing 35 = .ok (.bipush 12, 2) := by decide +kernel
theorem dX7_crossing_37 : decode cX7_crossing 37 = .ok (.if_icmp .ne 7, 3) := by decide +kernel
theorem dX7_crossing_40 : decode cX7_crossing 40 = .ok (.iconst 1, 1) := by decide +kernel
theorem dX7_crossing_41 : decode cX7_crossing 41 = .ok (.goto 4, 3) := by decide +kernel
theorem dX7_crossing_44 : decode cX7_crossing 44 = .ok (.iconst 0, 1) := by decide +kernel
theorem dX7_crossing_45 : decode cX7_crossing 45 = .ok (.iadd, 1) := by decide +kernel
theorem dX7_crossing_46 : decode cX7_crossing 46 = .ok (.istore 5, 2) := by decide +kernel
theorem dX7_crossing_48 : decode cX7_crossing 48 = .ok (.iinc 6 1, 3) := by decide +kernel
theorem dX7_crossing_51 : decode cX7_crossing 51 = .ok (.goto (-37), 3) := by decide +kernel
theorem dX7_crossing_54 : decode cX7_crossing 54 = .ok (.aload_n 0, 1) := by decide +kernel
theorem dX7_crossing_55 : decode cX7_crossing 55 = .ok (.getfield 9, 3) := by decide +kernel
theorem dX7_crossing_58 : decode cX7_crossing 58 = .ok (.iload_n 2, 1) := by decide +kernel
theorem dX7_crossing_59 : decode cX7_crossing 59 = .ok (.iload 4, 2) := by decide +kernel
theorem dX7_crossing_61 : decode cX7_crossing 61 = .ok (.iastore, 1) := by decide +kernel
theorem dX7_crossing_62 : decode cX7_crossing 62 = .ok (.iload 5, 2) := by decide +kernel
theorem dX7_crossing_64 : decode cX7_crossing 64 = .ok (.ireturn, 1) := by decide +kernel
theorem dX7_leastCrossing_0 : decode cX7_leastCrossing 0 = .ok (.aload_n 0, 1) := by decide +kernel
theorem dX7_leastCrossing_1 : decode cX7_leastCrossing 1 = .ok (.getfield 9, 3) := by decide +kernel
theorem dX7_leastCrossing_4 : decode cX7_leastCrossing 4 = .ok (.iload_n 2, 1) := by decide +kernel
theorem dX7_leastCrossing_5 : decode cX7_leastCrossing 5 = .ok (.iaload, 1) := by decide +kernel
theorem dX7_leastCrossing_6 : decode cX7_leastCrossing 6 = .ok (.istore 4, 2) := by decide +kernel
theorem dX7_leastCrossing_8 : decode cX7_leastCrossing 8 = .ok (.iconst (-1), 1) := by decide +kernel
theorem dX7_leastCrossing_9 : decode cX7_leastCrossing 9 = .ok (.istore 5, 2) := by decide +kernel
theorem dX7_leastCrossing_11 : decode cX7_leastCrossing 11 = .ok (.iload_n 3, 1) := by decide +kernel
theorem dX7_leastCrossing_12 : decode cX7_leastCrossing 12 = .ok (.iconst 1, 1) := by decide +kernel
theorem dX7_leastCrossing_13 : decode cX7_leastCrossing 13 = .ok (.isub, 1) := by decide +kernel
theorem dX7_leastCrossing_14 : decode cX7_leastCrossing 14 = .ok (.istore 6, 2) := by decide +kernel
theorem dX7_leastCrossing_16 : decode cX7_leastCrossing 16 = .ok (.iload 6, 2) := by decide +kernel
theorem dX7_leastCrossing_18 : decode cX7_leastCrossing 18 = .ok (.ifCond .lt 36, 3) := by decide +kernel
theorem dX7_leastCrossing_21 : decode cX7_leastCrossing 21 = .ok (.aload_n 0, 1) := by decide +kernel
theorem dX7_leastCrossing_22 : decode cX7_leastCrossing 22 = .ok (.getfield 9, 3) := by decide +kernel
theorem dX7_leastCrossing_25 : decode cX7_leastCrossing 25 = .ok (.iload_n 2, 1) := by decide +kernel
theorem dX7_leastCrossing_26 : decode cX7_leastCrossing 26 = .ok (.iload 6, 2) := by decide +kernel
theorem dX7_leastCrossing_28 : decode cX7_leastCrossing 28 = .ok (.iastore, 1) := by decide +kernel
theorem dX7_leastCrossing_29 : decode cX7_leastCrossing 29 = .ok (.aload_n 0, 1) := by decide +kernel
theorem dX7_leastCrossing_30 : decode cX7_leastCrossing 30 = .ok (.iload_n 1, 1) := by decide +kernel
theorem dX7_leastCrossing_31 : decode cX7_leastCrossing 31 = .ok (.invokevirtual 161, 3) := by decide +kernel
theorem dX7_leastCrossing_34 : decode cX7_leastCrossing 34 = .ok (.bipush 12, 2) := by decide +kernel
theorem dX7_leastCrossing_36 : decode cX7_leastCrossing 36 = .ok (.if_icmp .ne 8, 3) := by decide +kernel
theorem dX7_leastCrossing_39 : decode cX7_leastCrossing 39 = .ok (.iload 6, 2) := by decide +kernel
theorem dX7_leastCrossing_41 : decode cX7_leastCrossing 41 = .ok (.goto 5, 3) := by decide +kernel
theorem dX7_leastCrossing_44 : decode cX7_leastCrossing 44 = .ok (.iload 5, 2) := by decide +kernel
theorem dX7_leastCrossing_46 : decode cX7_leastCrossing 46 = .ok (.istore 5, 2) := by decide +kernel
theorem dX7_leastCrossing_48 : decode cX7_leastCrossing 48 = .ok (.iinc 6 (-1), 3) := by decide +kernel
theorem dX7_leastCrossing_51 : decode cX7_leastCrossing 51 = .ok (.goto (-35), 3) := by decide +kernel
theorem dX7_leastCrossing_54 : decode cX7_leastCrossing 54 = .ok (.aload_n 0, 1) := by decide +kernel
theorem dX7_leastCrossing_55 : decode cX7_leastCrossing 55 = .ok (.getfield 9, 3) := by decide +kernel
theorem dX7_leastCrossing_58 : decode cX7_leastCrossing 58 = .ok (.iload_n 2, 1) := by decide +kernel
theorem dX7_leastCrossing_59 : decode cX7_leastCrossing 59 = .ok (.iload 4, 2) := by decide +kernel
theorem dX7_leastCrossing_61 : decode cX7_leastCrossing 61 = .ok (.iastore, 1) := by decide +kernel
theorem dX7_leastCrossing_62 : decode cX7_leastCrossing 62 = .ok (.iload 5, 2) := by decide +kernel
theorem dX7_leastCrossing_64 : decode cX7_leastCrossing 64 = .ok (.ireturn, 1) := by decide +kernel
theorem dX7_balanceFor_0 : decode cX7_balanceFor 0 = .ok (.aload_n 0, 1) := by decide +kernel
theorem dX7_balanceFor_1 : decode cX7_balanceFor 1 = .ok (.iload_n 1, 1) := by decide +kernel
theorem dX7_balanceFor_2 : decode cX7_balanceFor 2 = .ok (.invokevirtual 126, 3) := by decide +kernel
theorem dX7_balanceFor_5 : decode cX7_balanceFor 5 = .ok (.ifCond .eq 22, 3) := by decide +kernel
theorem dX7_balanceFor_8 : decode cX7_balanceFor 8 = .ok (.aload_n 0, 1) := by decide +kernel
theorem dX7_balanceFor_9 : decode cX7_balanceFor 9 = .ok (.aload_n 0, 1) := by decide +kernel
theorem dX7_balanceFor_10 : decode cX7_balanceFor 10 = .ok (.iload_n 1, 1) := by decide +kernel
theorem dX7_balanceFor_11 : decode cX7_balanceFor 11 = .ok (.iload_n 1, 1) := by decide +kernel
theorem dX7_balanceFor_12 : decode cX7_balanceFor 12 = .ok (.iconst 2, 1) := by decide +kernel
theorem dX7_balanceFor_13 : decode cX7_balanceFor 13 = .ok (.invokestatic 92, 3) := by decide +kernel
theorem dX7_balanceFor_16 : decode cX7_balanceFor 16 = .ok (.bipush 100, 2) := by decide +kernel
theorem dX7_balanceFor_18 : decode cX7_balanceFor 18 = .ok (.invokevirtual 180, 3) := by decide +kernel
theorem dX7_balanceFor_21 : decode cX7_balanceFor 21 = .ok (.invokevirtual 183, 3) := by decide +kernel
theorem dX7_balanceFor_24 : decode cX7_balanceFor 24 = .ok (.goto 9, 3) := by decide +kernel
theorem dX7_balanceFor_27 : decode cX7_balanceFor 27 = .ok (.aload_n 0, 1) := by decide +kernel
theorem dX7_balanceFor_28 : decode cX7_balanceFor 28 = .ok (.ldc 69, 2) := by decide +kernel
theorem dX7_balanceFor_30 : decode cX7_balanceFor 30 = .ok (.invokevirtual 75, 3) := by decide +kernel
theorem dX7_balanceFor_33 : decode cX7_balanceFor 33 = .ok (.ireturn, 1) := by decide +kernel
theorem dX7_gaits_0 : decode cX7_gaits 0 = .ok (.aload_n 0, 1) := by decide +kernel
theorem dX7_gaits_1 : decode cX7_gaits 1 = .ok (.iload_n 1, 1) := by decide +kernel
theorem dX7_gaits_2 : decode cX7_gaits 2 = .ok (.invokevirtual 126, 3) := by decide +kernel
theorem dX7_gaits_5 : decode cX7_gaits 5 = .ok (.ifCond .eq 18, 3) := by decide +kernel
theorem dX7_gaits_8 : decode cX7_gaits 8 = .ok (.aload_n 0, 1) := by decide +kernel
theorem dX7_gaits_9 : decode cX7_gaits 9 = .ok (.iload_n 1, 1) := by decide +kernel
theorem dX7_gaits_10 : decode cX7_gaits 10 = .ok (.iload_n 1, 1) := by decide +kernel
theorem dX7_gaits_11 : decode cX7_gaits 11 = .ok (.iconst 1, 1) := by decide +kernel
theorem dX7_gaits_12 : decode cX7_gaits 12 = .ok (.invokestatic 92, 3) := by decide +kernel
theorem dX7_gaits_15 : decode cX7_gaits 15 = .ok (.bipush 100, 2) := by decide +kernel
theorem dX7_gaits_17 : decode cX7_gaits 17 = .ok (.invokevirtual 186, 3) := by decide +kernel
theorem dX7_gaits_20 : decode cX7_gaits 20 = .ok (.goto 9, 3) := by decide +kernel
theorem dX7_gaits_23 : decode cX7_gaits 23 = .ok (.aload_n 0, 1) := by decide +kernel
theorem dX7_gaits_24 : decode cX7_gaits 24 = .ok (.ldc 69, 2) := by decide +kernel
theorem dX7_gaits_26 : decode cX7_gaits 26 = .ok (.invokevirtual 75, 3) := by decide +kernel
theorem dX7_gaits_29 : decode cX7_gaits 29 = .ok (.ireturn, 1) := by decide +kernel
theorem dX7_gaitFor_0 : decode cX7_gaitFor 0 = .ok (.aload_n 0, 1) := by decide +kernel
theorem dX7_gaitFor_1 : decode cX7_gaitFor 1 = .ok (.iload_n 1, 1) := by decide +kernel
theorem dX7_gaitFor_2 : decode cX7_gaitFor 2 = .ok (.invokevirtual 126, 3) := by decide +kernel
theorem dX7_gaitFor_5 : decode cX7_gaitFor 5 = .ok (.ifCond .eq 22, 3) := by decide +kernel
theorem dX7_gaitFor_8 : decode cX7_gaitFor 8 = .ok (.aload_n 0, 1) := by decide +kernel
theorem dX7_gaitFor_9 : decode cX7_gaitFor 9 = .ok (.aload_n 0, 1) := by decide +kernel
theorem dX7_gaitFor_10 : decode cX7_gaitFor 10 = .ok (.iload_n 1, 1) := by decide +kernel
theorem dX7_gaitFor_11 : decode cX7_gaitFor 11 = .ok (.iload_n 1, 1) := by decide +kernel
theorem dX7_gaitFor_12 : decode cX7_gaitFor 12 = .ok (.iconst 1, 1) := by decide +kernel
theorem dX7_gaitFor_13 : decode cX7_gaitFor 13 = .ok (.invokestatic 92, 3) := by decide +kernel
theorem dX7_gaitFor_16 : decode cX7_gaitFor 16 = .ok (.bipush 100, 2) := by decide +kernel
theorem dX7_gaitFor_18 : decode cX7_gaitFor 18 = .ok (.invokevirtual 180, 3) := by decide +kernel
theorem dX7_gaitFor_21 : decode cX7_gaitFor 21 = .ok (.invokevirtual 183, 3) := by decide +kernel
theorem dX7_gaitFor_24 : decode cX7_gaitFor 24 = .ok (.goto 9, 3) := by decide +kernel
theorem dX7_gaitFor_27 : decode cX7_gaitFor 27 = .ok (.aload_n 0, 1) := by decide +kernel
theorem dX7_gaitFor_28 : decode cX7_gaitFor 28 = .ok (.ldc 69, 2) := by decide +kernel
theorem dX7_gaitFor_30 : decode cX7_gaitFor 30 = .ok (.invokevirtual 75, 3) := by decide +kernel
theorem dX7_gaitFor_33 : decode cX7_gaitFor 33 = .ok (.ireturn, 1) := by decide +kernel
theorem dX7_kindsFor_0 : decode cX7_kindsFor 0 = .ok (.aload_n 0, 1) := by decide +kernel
theorem dX7_kindsFor_1 : decode cX7_kindsFor 1 = .ok (.iload_n 1, 1) := by decide +kernel
theorem dX7_kindsFor_2 : decode cX7_kindsFor 2 = .ok (.invokevirtual 126, 3) := by decide +kernel
theorem dX7_kindsFor_5 : decode cX7_kindsFor 5 = .ok (.ifCond .ne 10, 3) := by decide +kernel
theorem dX7_kindsFor_8 : decode cX7_kindsFor 8 = .ok (.aload_n 0, 1) := by decide +kernel
theorem dX7_kindsFor_9 : decode cX7_kindsFor 9 = .ok (.ldc 69, 2) := by decide +kernel
theorem dX7_kindsFor_11 : decode cX7_kindsFor 11 = .ok (.invokevirtual 75, 3) := by decide +kernel
theorem dX7_kindsFor_14 : decode cX7_kindsFor 14 = .ok (.ireturn, 1) := by decide +kernel
theorem dX7_kindsFor_15 : decode cX7_kindsFor 15 = .ok (.aload_n 0, 1) := by decide +kernel
theorem dX7_kindsFor_16 : decode cX7_kindsFor 16 = .ok (.iload_n 1, 1) := by decide +kernel
theorem dX7_kindsFor_17 : decode cX7_kindsFor 17 = .ok (.iconst 0, 1) := by decide +kernel
theorem dX7_kindsFor_18 : decode cX7_kindsFor 18 = .ok (.invokevirtual 113, 3) := by decide +kernel
theorem dX7_kindsFor_21 : decode cX7_kindsFor 21 = .ok (.istore_n 2, 1) := by decide +kernel
theorem dX7_kindsFor_22 : decode cX7_kindsFor 22 = .ok (.iconst 0, 1) := by decide +kernel
theorem dX7_kindsFor_23 : decode cX7_kindsFor 23 = .ok (.istore_n 3, 1) := by decide +kernel
theorem dX7_kindsFor_24 : decode cX7_kindsFor 24 = .ok (.iconst 0, 1) := by decide +kernel
theorem dX7_kindsFor_25 : decode cX7_kindsFor 25 = .ok (.istore 4, 2) := by decide +kernel
theorem dX7_kindsFor_27 : decode cX7_kindsFor 27 = .ok (.iload 4, 2) := by decide +kernel
theorem dX7_kindsFor_29 : decode cX7_kindsFor 29 = .ok (.bipush 6, 2) := by decide +kernel
theorem dX7_kindsFor_31 : decode cX7_kindsFor 31 = .ok (.if_icmp .gt 42, 3) := by decide +kernel
theorem dX7_kindsFor_34 : decode cX7_kindsFor 34 = .ok (.aload_n 0, 1) := by decide +kernel
theorem dX7_kindsFor_35 : decode cX7_kindsFor 35 = .ok (.getfield 9, 3) := by decide +kernel
theorem dX7_kindsFor_38 : decode cX7_kindsFor 38 = .ok (.iload_n 1, 1) := by decide +kernel
theorem dX7_kindsFor_39 : decode cX7_kindsFor 39 = .ok (.iconst 0, 1) := by decide +kernel
theorem dX7_kindsFor_40 : decode cX7_kindsFor 40 = .ok (.invokestatic 92, 3) := by decide +kernel
theorem dX7_kindsFor_43 : decode cX7_kindsFor 43 = .ok (.iload 4, 2) := by decide +kernel
theorem dX7_kindsFor_45 : decode cX7_kindsFor 45 = .ok (.iastore, 1) := by decide +kernel
theorem dX7_kindsFor_46 : decode cX7_kindsFor 46 = .ok (.iload_n 3, 1) := by decide +kernel
theorem dX7_kindsFor_47 : decode cX7_kindsFor 47 = .ok (.aload_n 0, 1) := by decide +kernel
theorem dX7_kindsFor_48 : decode cX7_kindsFor 48 = .ok (.iload_n 1, 1) := by decide +kernel
theorem dX7_kindsFor_49 : decode cX7_kindsFor 49 = .ok (.invokevirtual 161, 3) := by decide +kernel
theorem dX7_kindsFor_52 : decode cX7_kindsFor 52 = .ok (.bipush 12, 2) := by decide +kernel
theorem dX7_kindsFor_54 : decode cX7_kindsFor 54 = .ok (.if_icmp .ne 10, 3) := by decide +kernel
theorem dX7_kindsFor_57 : decode cX7_kindsFor 57 = .ok (.iconst 1, 1) := by decide +kernel
theorem dX7_kindsFor_58 : decode cX7_kindsFor 58 = .ok (.iload 4, 2) := by decide +kernel
theorem dX7_kindsFor_60 : decode cX7_kindsFor 60 = .ok (.ishl, 1) := by decide +kernel
theorem dX7_kindsFor_61 : decode cX7_kindsFor 61 = .ok (.goto 4, 3) := by decide +kernel
theorem dX7_kindsFor_64 : decode cX7_kindsFor 64 = .ok (.iconst 0, 1) := by decide +kernel
theorem dX7_kindsFor_65 : decode cX7_kindsFor 65 = .ok (.ior, 1) := by decide +kernel
theorem dX7_kindsFor_66 : decode cX7_kindsFor 66 = .ok (.istore_n 3, 1) := by decide +kernel
theorem dX7_kindsFor_67 : decode cX7_kindsFor 67 = .ok (.iinc 4 1, 3) := by decide +kernel
theorem dX7_kindsFor_70 : decode cX7_kindsFor 70 = .ok (.goto (-43), 3) := by decide +kernel
theorem dX7_kindsFor_73 : decode cX7_kindsFor 73 = .ok (.aload_n 0, 1) := by decide +kernel
theorem dX7_kindsFor_74 : decode cX7_kindsFor 74 = .ok (.getfield 9, 3) := by decide +kernel
theorem dX7_kindsFor_77 : decode cX7_kindsFor 77 = .ok (.iload_n 1, 1) := by decide +kernel
theorem dX7_kindsFor_78 : decode cX7_kindsFor 78 = .ok (.iconst 0, 1) := by decide +kernel
theorem dX7_kindsFor_79 : decode cX7_kindsFor 79 = .ok (.invokestatic 92, 3) := by decide +kernel
theorem dX7_kindsFor_82 : decode cX7_kindsFor 82 = .ok (.iload_n 2, 1) := by decide +kernel
theorem dX7_kindsFor_83 : decode cX7_kindsFor 83 = .ok (.iastore, 1) := by decide +kernel
theorem dX7_kindsFor_84 : decode cX7_kindsFor 84 = .ok (.iload_n 3, 1) := by decide +kernel
theorem dX7_kindsFor_85 : decode cX7_kindsFor 85 = .ok (.ireturn, 1) := by decide +kernel
theorem dX7_lay0_0 : decode cX7_lay0 0 = .ok (.iconst 0, 1) := by decide +kernel
theorem dX7_lay0_1 : decode cX7_lay0 1 = .ok (.istore_n 2, 1) := by decide +kernel
theorem dX7_lay0_2 : decode cX7_lay0 2 = .ok (.iload_n 2, 1) := by decide +kernel
theorem dX7_lay0_3 : decode cX7_lay0 3 = .ok (.bipush 50, 2) := by decide +kernel
theorem dX7_lay0_5 : decode cX7_lay0 5 = .ok (.if_icmp .ge 26, 3) := by decide +kernel
theorem dX7_lay0_8 : decode cX7_lay0 8 = .ok (.aload_n 0, 1) := by decide +kernel
theorem dX7_lay0_9 : decode cX7_lay0 9 = .ok (.getfield 22, 3) := by decide +kernel
theorem dX7_lay0_12 : decode cX7_lay0 12 = .ok (.bipush 50, 2) := by decide +kernel
theorem dX7_lay0_14 : decode cX7_lay0 14 = .ok (.iload_n 1, 1) := by decide +kernel
theorem dX7_lay0_15 : decode cX7_lay0 15 = .ok (.imul, 1) := by decide +kernel
theorem dX7_lay0_16 : decode cX7_lay0 16 = .ok (.iload_n 2, 1) := by decide +kernel
theorem dX7_lay0_17 : decode cX7_lay0 17 = .ok (.iadd, 1) := by decide +kernel
theorem dX7_lay0_18 : decode cX7_lay0 18 = .ok (.aload_n 0, 1) := by decide +kernel
theorem dX7_lay0_19 : decode cX7_lay0 19 = .ok (.getfield 9, 3) := by decide +kernel
theorem dX7_lay0_22 : decode cX7_lay0 22 = .ok (.iload_n 2, 1) := by decide +kernel
theorem dX7_lay0_23 : decode cX7_lay0 23 = .ok (.iaload, 1) := by decide +kernel
theorem dX7_lay0_24 : decode cX7_lay0 24 = .ok (.iastore, 1) := by decide +kernel
theorem dX7_lay0_25 : decode cX7_lay0 25 = .ok (.iinc 2 1, 3) := by decide +kernel
theorem dX7_lay0_28 : decode cX7_lay0 28 = .ok (.goto (-26), 3) := by decide +kernel
theorem dX7_lay0_31 : decode cX7_lay0 31 = .ok (.return_, 1) := by decide +kernel
theorem dX7_layBack_0 : decode cX7_layBack 0 = .ok (.iconst 0, 1) := by decide +kernel
theorem dX7_layBack_1 : decode cX7_layBack 1 = .ok (.istore_n 2, 1) := by decide +kernel
theorem dX7_layBack_2 : decode cX7_layBack 2 = .ok (.iload_n 2, 1) := by decide +kernel
theorem dX7_layBack_3 : decode cX7_layBack 3 = .ok (.bipush 50, 2) := by decide +kernel
theorem dX7_layBack_5 : decode cX7_layBack 5 = .ok (.if_icmp .ge 26, 3) := by decide +kernel
theorem dX7_layBack_8 : decode cX7_layBack 8 = .ok (.aload_n 0, 1) := by decide +kernel
theorem dX7_layBack_9 : decode cX7_layBack 9 = .ok (.getfield 9, 3) := by decide +kernel
theorem dX7_layBack_12 : decode cX7_layBack 12 = .ok (.iload_n 2, 1) := by decide +kernel
theorem dX7_layBack_13 : decode cX7_layBack 13 = .ok (.aload_n 0, 1) := by decide +kernel
theorem dX7_layBack_14 : decode cX7_layBack 14 = .ok (.getfield 22, 3) := by decide +kernel
theorem dX7_layBack_17 : decode cX7_layBack 17 = .ok (.bipush 50, 2) := by decide +kernel
theorem dX7_layBack_19 : decode cX7_layBack 19 = .ok (.iload_n 1, 1) := by decide +kernel
theorem dX7_layBack_20 : decode cX7_layBack 20 = .ok (.imul, 1) := by decide +kernel
theorem dX7_layBack_21 : decode cX7_layBack 21 = .ok (.iload_n 2, 1) := by decide +kernel
theorem dX7_layBack_22 : decode cX7_layBack 22 = .ok (.iadd, 1) := by decide +kernel
theorem dX7_layBack_23 : decode cX7_layBack 23 = .ok (.iaload, 1) := by decide +kernel
theorem dX7_layBack_24 : decode cX7_layBack 24 = .ok (.iastore, 1) := by decide +kernel
theorem dX7_layBack_25 : decode cX7_layBack 25 = .ok (.iinc 2 1, 3) := by decide +kernel
theorem dX7_layBack_28 : decode cX7_layBack 28 = .ok (.goto (-26), 3) := by decide +kernel
theorem dX7_layBack_31 : decode cX7_layBack 31 = .ok (.return_, 1) := by decide +kernel
theorem dX7_goThrough_0 : decode cX7_goThrough 0 = .ok (.iload_n 1, 1) := by decide +kernel
theorem dX7_goThrough_1 : decode cX7_goThrough 1 = .ok (.ifCond .ne 62, 3) := by decide +kernel
theorem dX7_goThrough_4 : decode cX7_goThrough 4 = .ok (.iconst 0, 1) := by decide +kernel
theorem dX7_goThrough_5 : decode cX7_goThrough 5 = .ok (.istore 5, 2) := by decide +kernel
theorem dX7_goThrough_7 : decode cX7_goThrough 7 = .ok (.iload 5, 2) := by decide +kernel
theorem dX7_goThrough_9 : decode cX7_goThrough 9 = .ok (.iload_n 2, 1) := by decide +kernel
theorem dX7_goThrough_10 : decode cX7_goThrough 10 = .ok (.if_icmp .ge 30, 3) := by decide +kernel
theorem dX7_goThrough_13 : decode cX7_goThrough 13 = .ok (.aload_n 0, 1) := by decide +kernel
theorem dX7_goThrough_14 : decode cX7_goThrough 14 = .ok (.getfield 189, 3) := by decide +kernel
theorem dX7_goThrough_17 : decode cX7_goThrough 17 = .ok (.ifCond .ne 23, 3) := by decide +kernel
theorem dX7_goThrough_20 : decode cX7_goThrough 20 = .ok (.aload_n 0, 1) := by decide +kernel
theorem dX7_goThrough_21 : decode cX7_goThrough 21 = .ok (.getfield 28, 3) := by decide +kernel
theorem dX7_goThrough_24 : decode cX7_goThrough 24 = .ok (.iload 5, 2) := by decide +kernel
theorem dX7_goThrough_26 : decode cX7_goThrough 26 = .ok (.aload_n 0, 1) := by decide +kernel
theorem dX7_goThrough_27 : decode cX7_goThrough 27 = .ok (.getfield 25, 3) := by decide +kernel
theorem dX7_goThrough_30 : decode cX7_goThrough 30 = .ok (.iload 5, 2) := by decide +kernel
theorem dX7_goThrough_32 : decode cX7_goThrough 32 = .ok (.iaload, 1) := by decide +kernel
theorem dX7_goThrough_33 : decode cX7_goThrough 33 = .ok (.iastore, 1) := by decide +kernel
theorem dX7_goThrough_34 : decode cX7_goThrough 34 = .ok (.iinc 5 1, 3) := by decide +kernel
theorem dX7_goThrough_37 : decode cX7_goThrough 37 = .ok (.goto (-30), 3) := by decide +kernel
theorem dX7_goThrough_40 : decode cX7_goThrough 40 = .ok (.aload_n 0, 1) := by decide +kernel
theorem dX7_goThrough_41 : decode cX7_goThrough 41 = .ok (.dup, 1) := by decide +kernel
theorem dX7_goThrough_42 : decode cX7_goThrough 42 = .ok (.getfield 189, 3) := by decide +kernel
theorem dX7_goThrough_45 : decode cX7_goThrough 45 = .ok (.iconst 1, 1) := by decide +kernel
theorem dX7_goThrough_46 : decode cX7_goThrough 46 = .ok (.iadd, 1) := by decide +kernel
theorem dX7_goThrough_47 : decode cX7_goThrough 47 = .ok (.putfield 189, 3) := by decide +kernel
theorem dX7_goThrough_50 : decode cX7_goThrough 50 = .ok (.aload_n 0, 1) := by decide +kernel
theorem dX7_goThrough_51 : decode cX7_goThrough 51 = .ok (.aload_n 0, 1) := by decide +kernel
theorem dX7_goThrough_52 : decode cX7_goThrough 52 = .ok (.getfield 193, 3) := by decide +kernel
theorem dX7_goThrough_55 : decode cX7_goThrough 55 = .ok (.iload_n 3, 1) := by decide +kernel
theorem dX7_goThrough_56 : decode cX7_goThrough 56 = .ok (.invokestatic 79, 3) := by decide +kernel
theorem dX7_goThrough_59 : decode cX7_goThrough 59 = .ok (.putfield 193, 3) := by decide +kernel
theorem dX7_goThrough_62 : decode cX7_goThrough 62 = .ok (.return_, 1) := by decide +kernel
theorem dX7_goThrough_63 : decode cX7_goThrough 63 = .ok (.aload_n 0, 1) := by decide +kernel
theorem dX7_goThrough_64 : decode cX7_goThrough 64 = .ok (.iload_n 2, 1) := by decide +kernel
theorem dX7_goThrough_65 : decode cX7_goThrough 65 = .ok (.invokevirtual 196, 3) := by decide +kernel
theorem dX7_goThrough_68 : decode cX7_goThrough 68 = .ok (.iconst 0, 1) := by decide +kernel
theorem dX7_goThrough_69 : decode cX7_goThrough 69 = .ok (.istore 5, 2) := by decide +kernel
theorem dX7_goThrough_71 : decode cX7_goThrough 71 = .ok (.iload 5, 2) := by decide +kernel
theorem dX7_goThrough_73 : decode cX7_goThrough 73 = .ok (.aload_n 0, 1) := by decide +kernel
theorem dX7_goThrough_74 : decode cX7_goThrough 74 = .ok (.getfield 9, 3) := by decide +kernel
theorem dX7_goThrough_77 : decode cX7_goThrough 77 = .ok (.iconst 1, 1) := by decide +kernel
theorem dX7_goThrough_78 : decode cX7_goThrough 78 = .ok (.iaload, 1) := by decide +kernel
theorem dX7_goThrough_79 : decode cX7_goThrough 79 = .ok (.if_icmp .ge 77, 3) := by decide +kernel
theorem dX7_goThrough_82 : decode cX7_goThrough 82 = .ok (.iload_n 1, 1) := by decide +kernel
theorem dX7_goThrough_83 : decode cX7_goThrough 83 = .ok (.iload 5, 2) := by decide +kernel
theorem dX7_goThrough_85 : decode cX7_goThrough 85 = .ok (.invokestatic 155, 3) := by decide +kernel
theorem dX7_goThrough_88 : decode cX7_goThrough 88 = .ok (.ifCond .eq 62, 3) := by decide +kernel
theorem dX7_goThrough_91 : decode cX7_goThrough 91 = .ok (.aload_n 0, 1) := by decide +kernel
theorem dX7_goThrough_92 : decode cX7_goThrough 92 = .ok (.getfield 25, 3) := by decide +kernel
theorem dX7_goThrough_95 : decode cX7_goThrough 95 = .ok (.iload_n 2, 1) := by decide +kernel
theorem dX7_goThrough_96 : decode cX7_goThrough 96 = .ok (.iload 5, 2) := by decide +kernel
theorem dX7_goThrough_98 : decode cX7_goThrough 98 = .ok (.iastore, 1) := by decide +kernel
theorem dX7_goThrough_99 : decode cX7_goThrough 99 = .ok (.iload_n 3, 1) := by decide +kernel
theorem dX7_goThrough_100 : decode cX7_goThrough 100 = .ok (.aload_n 0, 1) := by decide +kernel
theorem dX7_goThrough_101 : decode cX7_goThrough 101 = .ok (.iload 5, 2) := by decide +kernel
theorem dX7_goThrough_103 : decode cX7_goThrough 103 = .ok (.invokevirtual 146, 3) := by decide +kernel
theorem dX7_goThrough_106 : decode cX7_goThrough 106 = .ok (.bipush 12, 2) := by decide +kernel
theorem dX7_goThrough_108 : decode cX7_goThrough 108 = .ok (.if_icmp .ge 7, 3) := by decide +kernel
theorem dX7_goThrough_111 : decode cX7_goThrough 111 = .ok (.iconst 1, 1) := by decide +kernel
theorem dX7_goThrough_112 : decode cX7_goThrough 112 = .ok (.goto 4, 3) := by decide +kernel
theorem dX7_goThrough_115 : decode cX7_goThrough 115 = .ok (.iconst 0, 1) := by decide +kernel
theorem dX7_goThrough_116 : decode cX7_goThrough 116 = .ok (.iadd, 1) := by decide +kernel
theorem dX7_goThrough_117 : decode cX7_goThrough 117 = .ok (.istore 6, 2) := by decide +kernel
theorem dX7_goThrough_119 : decode cX7_goThrough 119 = .ok (.iload 6, 2) := by decide +kernel
theorem dX7_goThrough_121 : decode cX7_goThrough 121 = .ok (.iload 4, 2) := by decide +kernel
theorem dX7_goThrough_123 : decode cX7_goThrough 123 = .ok (.if_icmp .gt 22, 3) := by decide +kernel
theorem dX7_goThrough_126 : decode cX7_goThrough 126 = .ok (.aload_n 0, 1) := by decide +kernel
theorem dX7_goThrough_127 : decode cX7_goThrough 127 = .ok (.iload_n 1, 1) := by decide +kernel
theorem dX7_goThrough_128 : decode cX7_goThrough 128 = .ok (.iconst 1, 1) := by decide +kernel
theorem dX7_goThrough_129 : decode cX7_goThrough 129 = .ok (.iload 5, 2) := by decide +kernel
theorem dX7_goThrough_131 : decode cX7_goThrough 131 = .ok (.ishl, 1) := by decide +kernel
theorem dX7_goThrough_132 : decode cX7_goThrough 132 = .ok (.iconst (-1), 1) := by decide +kernel
theorem dX7_goThrough_133 : decode cX7_goThrough 133 = .ok (.ixor, 1) := by decide +kernel
theorem dX7_goThrough_134 : decode cX7_goThrough 134 = .ok (.iand, 1) := by decide +kernel
theorem dX7_goThrough_135 : decode cX7_goThrough 135 = .ok (.iload_n 2, 1) := by decide +kernel
theorem dX7_goThrough_136 : decode cX7_goThrough 136 = .ok (.iconst 1, 1) := by decide +kernel
theorem dX7_goThrough_137 : decode cX7_goThrough 137 = .ok (.iadd, 1) := by decide +kernel
theorem dX7_goThrough_138 : decode cX7_goThrough 138 = .ok (.iload 6, 2) := by decide +kernel
theorem dX7_goThrough_140 : decode cX7_goThrough 140 = .ok (.iload 4, 2) := by decide +kernel
theorem dX7_goThrough_142 : decode cX7_goThrough 142 = .ok (.invokevirtual 200, 3) := by decide +kernel
theorem dX7_goThrough_145 : decode cX7_goThrough 145 = .ok (.aload_n 0, 1) := by decide +kernel
theorem dX7_goThrough_146 : decode cX7_goThrough 146 = .ok (.iload_n 2, 1) := by decide +kernel
theorem dX7_goThrough_147 : decode cX7_goThrough 147 = .ok (.invokevirtual 204, 3) := by decide +kernel
theorem dX7_goThrough_150 : decode cX7_goThrough 150 = .ok (.iinc 5 1, 3) := by decide +kernel
theorem dX7_goThrough_153 : decode cX7_goThrough 153 = .ok (.goto (-82), 3) := by decide +kernel
theorem dX7_goThrough_156 : decode cX7_goThrough 156 = .ok (.return_, 1) := by decide +kernel
theorem dX7_findOrders_0 : decode cX7_findOrders 0 = .ok (.aload_n 0, 1) := by decide +kernel
theorem dX7_findOrders_1 : decode cX7_findOrders 1 = .ok (.iconst 0, 1) := by decide +kernel
theorem dX7_findOrders_2 : decode cX7_findOrders 2 = .ok (.putfield 189, 3) := by decide +kernel
theorem dX7_findOrders_5 : decode cX7_findOrders 5 = .ok (.aload_n 0, 1) := by decide +kernel
theorem dX7_findOrders_6 : decode cX7_findOrders 6 = .ok (.bipush 6, 2) := by decide +kernel
theorem dX7_findOrders_8 : decode cX7_findOrders 8 = .ok (.putfield 193, 3) := by decide +kernel
theorem dX7_findOrders_11 : decode cX7_findOrders 11 = .ok (.aload_n 0, 1) := by decide +kernel
theorem dX7_findOrders_12 : decode cX7_findOrders 12 = .ok (.iload_n 1, 1) := by decide +kernel
theorem dX7_findOrders_13 : decode cX7_findOrders 13 = .ok (.iconst 0, 1) := by decide +kernel
theorem dX7_findOrders_14 : decode cX7_findOrders 14 = .ok (.iconst 0, 1) := by decide +kernel
theorem dX7_findOrders_15 : decode cX7_findOrders 15 = .ok (.iload_n 2, 1) := by decide +kernel
theorem dX7_findOrders_16 : decode cX7_findOrders 16 = .ok (.invokevirtual 200, 3) := by decide +kernel
theorem dX7_findOrders_19 : decode cX7_findOrders 19 = .ok (.return_, 1) := by decide +kernel
theorem dX7_order_0 : decode cX7_order 0 = .ok (.aload_n 0, 1) := by decide +kernel
theorem dX7_order_1 : decode cX7_order 1 = .ok (.iload_n 1, 1) := by decide +kernel
theorem dX7_order_2 : decode cX7_order 2 = .ok (.invokevirtual 149, 3) := by decide +kernel
theorem dX7_order_5 : decode cX7_order 5 = .ok (.ifCond .eq 17, 3) := by decide +kernel
theorem dX7_order_8 : decode cX7_order 8 = .ok (.iload_n 2, 1) := by decide +kernel
theorem dX7_order_9 : decode cX7_order 9 = .ok (.iconst 0, 1) := by decide +kernel
theorem dX7_order_10 : decode cX7_order 10 = .ok (.iload_n 1, 1) := by decide +kernel
theorem dX7_order_11 : decode cX7_order 11 = .ok (.invokestatic 152, 3) := by decide +kernel
theorem dX7_order_14 : decode cX7_order 14 = .ok (.iconst 1, 1) := by decide +kernel
theorem dX7_order_15 : decode cX7_order 15 = .ok (.isub, 1) := by decide +kernel
theorem dX7_order_16 : decode cX7_order 16 = .ok (.invokestatic 88, 3) := by decide +kernel
theorem dX7_order_19 : decode cX7_order 19 = .ok (.ifCond .ne 10, 3) := by decide +kernel
theorem dX7_order_22 : decode cX7_order 22 = .ok (.aload_n 0, 1) := by decide +kernel
theorem dX7_order_23 : decode cX7_order 23 = .ok (.ldc 69, 2) := by decide +kernel
theorem dX7_order_25 : decode cX7_order 25 = .ok (.invokevirtual 75, 3) := by decide +kernel
theorem dX7_order_28 : decode cX7_order 28 = .ok (.ireturn, 1) := by decide +kernel
theorem dX7_order_29 : decode cX7_order 29 = .ok (.aload_n 0, 1) := by decide +kernel
theorem dX7_order_30 : decode cX7_order 30 = .ok (.iload_n 1, 1) := by decide +kernel
theorem dX7_order_31 : decode cX7_order 31 = .ok (.iconst 0, 1) := by decide +kernel
theorem dX7_order_32 : decode cX7_order 32 = .ok (.invokevirtual 207, 3) := by decide +kernel
theorem dX7_order_35 : decode cX7_order 35 = .ok (.aload_n 0, 1) := by decide +kernel
theorem dX7_order_36 : decode cX7_order 36 = .ok (.getfield 189, 3) := by decide +kernel
theorem dX7_order_39 : decode cX7_order 39 = .ok (.ifCond .ne 12, 3) := by decide +kernel
theorem dX7_order_42 : decode cX7_order 42 = .ok (.aload_n 0, 1) := by decide +kernel
theorem dX7_order_43 : decode cX7_order 43 = .ok (.ldc 74, 2) := by decide +kernel
theorem dX7_order_45 : decode cX7_order 45 = .ok (.invokevirtual 75, 3) := by decide +kernel
theorem dX7_order_48 : decode cX7_order 48 = .ok (.goto 9, 3) := by decide +kernel
theorem dX7_order_51 : decode cX7_order 51 = .ok (.aload_n 0, 1) := by decide +kernel
theorem dX7_order_52 : decode cX7_order 52 = .ok (.getfield 28, 3) := by decide +kernel
theorem dX7_order_55 : decode cX7_order 55 = .ok (.iload_n 2, 1) := by decide +kernel
theorem dX7_order_56 : decode cX7_order 56 = .ok (.iaload, 1) := by decide +kernel
theorem dX7_order_57 : decode cX7_order 57 = .ok (.ireturn, 1) := by decide +kernel
theorem dX7_orders_0 : decode cX7_orders 0 = .ok (.aload_n 0, 1) := by decide +kernel
theorem dX7_orders_1 : decode cX7_orders 1 = .ok (.iload_n 1, 1) := by decide +kernel
theorem dX7_orders_2 : decode cX7_orders 2 = .ok (.invokevirtual 149, 3) := by decide +kernel
theorem dX7_orders_5 : decode cX7_orders 5 = .ok (.ifCond .ne 10, 3) := by decide +kernel
theorem dX7_orders_8 : decode cX7_orders 8 = .ok (.aload_n 0, 1) := by decide +kernel
theorem dX7_orders_9 : decode cX7_orders 9 = .ok (.ldc 69, 2) := by decide +kernel
theorem dX7_orders_11 : decode cX7_orders 11 = .ok (.invokevirtual 75, 3) := by decide +kernel
theorem dX7_orders_14 : decode cX7_orders 14 = .ok (.ireturn, 1) := by decide +kernel
theorem dX7_orders_15 : decode cX7_orders 15 = .ok (.aload_n 0, 1) := by decide +kernel
theorem dX7_orders_16 : decode cX7_orders 16 = .ok (.iload_n 1, 1) := by decide +kernel
theorem dX7_orders_17 : decode cX7_orders 17 = .ok (.iconst 0, 1) := by decide +kernel
theorem dX7_orders_18 : decode cX7_orders 18 = .ok (.invokevirtual 207, 3) := by decide +kernel
theorem dX7_orders_21 : decode cX7_orders 21 = .ok (.aload_n 0, 1) := by decide +kernel
theorem dX7_orders_22 : decode cX7_orders 22 = .ok (.getfield 189, 3) := by decide +kernel
theorem dX7_orders_25 : decode cX7_orders 25 = .ok (.ireturn, 1) := by decide +kernel
theorem dX7_fewest_0 : decode cX7_fewest 0 = .ok (.aload_n 0, 1) := by decide +kernel
theorem dX7_fewest_1 : decode cX7_fewest 1 = .ok (.iload_n 1, 1) := by decide +kernel
theorem dX7_fewest_2 : decode cX7_fewest 2 = .ok (.invokevirtual 149, 3) := by decide +kernel
theorem dX7_fewest_5 : decode cX7_fewest 5 = .ok (.ifCond .ne 10, 3) := by decide +kernel
theorem dX7_fewest_8 : decode cX7_fewest 8 = .ok (.aload_n 0, 1) := by decide +kernel
theorem dX7_fewest_9 : decode cX7_fewest 9 = .ok (.ldc 69, 2) := by decide +kernel
theorem dX7_fewest_11 : decode cX7_fewest 11 = .ok (.invokevirtual 75, 3) := by decide +kernel
theorem dX7_fewest_14 : decode cX7_fewest 14 = .ok (.ireturn, 1) := by decide +kernel
theorem dX7_fewest_15 : decode cX7_fewest 15 = .ok (.aload_n 0, 1) := by decide +kernel
theorem dX7_fewest_16 : decode cX7_fewest 16 = .ok (.iload_n 1, 1) := by decide +kernel
theorem dX7_fewest_17 : decode cX7_fewest 17 = .ok (.bipush 6, 2) := by decide +kernel
theorem dX7_fewest_19 : decode cX7_fewest 19 = .ok (.invokevirtual 207, 3) := by decide +kernel
theorem dX7_fewest_22 : decode cX7_fewest 22 = .ok (.aload_n 0, 1) := by decide +kernel
theorem dX7_fewest_23 : decode cX7_fewest 23 = .ok (.getfield 193, 3) := by decide +kernel
theorem dX7_fewest_26 : decode cX7_fewest 26 = .ok (.ireturn, 1) := by decide +kernel
theorem dX7_most_0 : decode cX7_most 0 = .ok (.iconst 0, 1) := by decide +kernel
theorem dX7_most_1 : decode cX7_most 1 = .ok (.istore_n 1, 1) := by decide +kernel
theorem dX7_most_2 : decode cX7_most 2 = .ok (.iconst 0, 1) := by decide +kernel
theorem dX7_most_3 : decode cX7_most 3 = .ok (.istore_n 2, 1) := by decide +kernel
theorem dX7_most_4 : decode cX7_most 4 = .ok (.iload_n 2, 1) := by decide +kernel
theorem dX7_most_5 : decode cX7_most 5 = .ok (.iconst 1, 1) := by decide +kernel
theorem dX7_most_6 : decode cX7_most 6 = .ok (.aload_n 0, 1) := by decide +kernel
theorem dX7_most_7 : decode cX7_most 7 = .ok (.getfield 9, 3) := by decide +kernel
theorem dX7_most_10 : decode cX7_most 10 = .ok (.iconst 1, 1) := by decide +kernel
theorem dX7_most_11 : decode cX7_most 11 = .ok (.iaload, 1) := by decide +kernel
theorem dX7_most_12 : decode cX7_most 12 = .ok (.ishl, 1) := by decide +kernel
theorem dX7_most_13 : decode cX7_most 13 = .ok (.if_icmp .ge 39, 3) := by decide +kernel
theorem dX7_most_16 : decode cX7_most 16 = .ok (.iload_n 2, 1) := by decide +kernel
theorem dX7_most_17 : decode cX7_most 17 = .ok (.invokestatic 152, 3) := by decide +kernel
theorem dX7_most_20 : decode cX7_most 20 = .ok (.iload_n 1, 1) := by decide +kernel
theorem dX7_most_21 : decode cX7_most 21 = .ok (.invokestatic 152, 3) := by decide +kernel
theorem dX7_most_24 : decode cX7_most 24 = .ok (.if_icmp .le 22, 3) := by decide +kernel
theorem dX7_most_27 : decode cX7_most 27 = .ok (.aload_n 0, 1) := by decide +kernel
theorem dX7_most_28 : decode cX7_most 28 = .ok (.iload_n 2, 1) := by decide +kernel
theorem dX7_most_29 : decode cX7_most 29 = .ok (.iconst 0, 1) := by decide +kernel
theorem dX7_most_30 : decode cX7_most 30 = .ok (.invokevirtual 207, 3) := by decide +kernel
theorem dX7_most_33 : decode cX7_most 33 = .ok (.aload_n 0, 1) := by decide +kernel
theorem dX7_most_34 : decode cX7_most 34 = .ok (.getfield 189, 3) := by decide +kernel
theorem dX7_most_37 : decode cX7_most 37 = .ok (.ifCond .le 7, 3) := by decide +kernel
theorem dX7_most_40 : decode cX7_most 40 = .ok (.iload_n 2, 1) := by decide +kernel
theorem dX7_most_41 : decode cX7_most 41 = .ok (.goto 4, 3) := by decide +kernel
theorem dX7_most_44 : decode cX7_most 44 = .ok (.iload_n 1, 1) := by decide +kernel
theorem dX7_most_45 : decode cX7_most 45 = .ok (.istore_n 1, 1) := by decide +kernel
theorem dX7_most_46 : decode cX7_most 46 = .ok (.iinc 2 1, 3) := by decide +kernel
theorem dX7_most_49 : decode cX7_most 49 = .ok (.goto (-45), 3) := by decide +kernel
theorem dX7_most_52 : decode cX7_most 52 = .ok (.iload_n 1, 1) := by decide +kernel
theorem dX7_most_53 : decode cX7_most 53 = .ok (.ireturn, 1) := by decide +kernel
theorem dX7_layNew_0 : decode cX7_layNew 0 = .ok (.iconst 0, 1) := by decide +kernel
theorem dX7_layNew_1 : decode cX7_layNew 1 = .ok (.istore_n 2, 1) := by decide +kernel
theorem dX7_layNew_2 : decode cX7_layNew 2 = .ok (.iload_n 2, 1) := by decide +kernel
theorem dX7_layNew_3 : decode cX7_layNew 3 = .ok (.bipush 12, 2) := by decide +kernel
theorem dX7_layNew_5 : decode cX7_layNew 5 = .ok (.if_icmp .ge 40, 3) := by decide +kernel
theorem dX7_layNew_8 : decode cX7_layNew 8 = .ok (.aload_n 0, 1) := by decide +kernel
theorem dX7_layNew_9 : decode cX7_layNew 9 = .ok (.getfield 9, 3) := by decide +kernel
theorem dX7_layNew_12 : decode cX7_layNew 12 = .ok (.bipush 14, 2) := by decide +kernel
theorem dX7_layNew_14 : decode cX7_layNew 14 = .ok (.iload_n 2, 1) := by decide +kernel
theorem dX7_layNew_15 : decode cX7_layNew 15 = .ok (.iadd, 1) := by decide +kernel
theorem dX7_layNew_16 : decode cX7_layNew 16 = .ok (.iload_n 1, 1) := by decide +kernel
theorem dX7_layNew_17 : decode cX7_layNew 17 = .ok (.iload_n 2, 1) := by decide +kernel
theorem dX7_layNew_18 : decode cX7_layNew 18 = .ok (.invokestatic 155, 3) := by decide +kernel
theorem dX7_layNew_21 : decode cX7_layNew 21 = .ok (.ifCond .eq 8, 3) := by decide +kernel
theorem dX7_layNew_24 : decode cX7_layNew 24 = .ok (.bipush 50, 2) := by decide +kernel
theorem dX7_layNew_26 : decode cX7_layNew 26 = .ok (.goto 12, 3) := by decide +kernel
theorem dX7_layNew_29 : decode cX7_layNew 29 = .ok (.aload_n 0, 1) := by decide +kernel
theorem dX7_layNew_30 : decode cX7_layNew 30 = .ok (.getfield 9, 3) := by decide +kernel
theorem dX7_layNew_33 : decode cX7_layNew 33 = .ok (.bipush 14, 2) := by decide +kernel
theorem dX7_layNew_35 : decode cX7_layNew 35 = .ok (.iload_n 2, 1) := by decide +kernel
theorem dX7_layNew_36 : decode cX7_layNew 36 = .ok (.iadd, 1) := by decide +kernel
theorem dX7_layNew_37 : decode cX7_layNew 37 = .ok (.iaload, 1) := by decide +kernel
theorem dX7_layNew_38 : decode cX7_layNew 38 = .ok (.iastore, 1) := by decide +kernel
theorem dX7_layNew_39 : decode cX7_layNew 39 = .ok (.iinc 2 1, 3) := by decide +kernel
theorem dX7_layNew_42 : decode cX7_layNew 42 = .ok (.goto (-40), 3) := by decide +kernel
theorem dX7_layNew_45 : decode cX7_layNew 45 = .ok (.return_, 1) := by decide +kernel
theorem dX7_lay_0 : decode cX7_lay 0 = .ok (.aload_n 0, 1) := by decide +kernel
theorem dX7_lay_1 : decode cX7_lay 1 = .ok (.iload_n 1, 1) := by decide +kernel
theorem dX7_lay_2 : decode cX7_lay 2 = .ok (.invokevirtual 126, 3) := by decide +kernel
theorem dX7_lay_5 : decode cX7_lay 5 = .ok (.ifCond .ne 10, 3) := by decide +kernel
theorem dX7_lay_8 : decode cX7_lay 8 = .ok (.aload_n 0, 1) := by decide +kernel
theorem dX7_lay_9 : decode cX7_lay 9 = .ok (.ldc 69, 2) := by decide +kernel
theorem dX7_lay_11 : decode cX7_lay 11 = .ok (.invokevirtual 75, 3) := by decide +kernel
theorem dX7_lay_14 : decode cX7_lay 14 = .ok (.ireturn, 1) := by decide +kernel
theorem dX7_lay_15 : decode cX7_lay 15 = .ok (.iconst (-1), 1) := by decide +kernel
theorem dX7_lay_16 : decode cX7_lay 16 = .ok (.istore_n 2, 1) := by decide +kernel
theorem dX7_lay_17 : decode cX7_lay 17 = .ok (.iconst 0, 1) := by decide +kernel
theorem dX7_lay_18 : decode cX7_lay 18 = .ok (.istore_n 3, 1) := by decide +kernel
theorem dX7_lay_19 : decode cX7_lay 19 = .ok (.iload_n 3, 1) := by decide +kernel
theorem dX7_lay_20 : decode cX7_lay 20 = .ok (.sipush 4096, 3) := by decide +kernel
theorem dX7_lay_23 : decode cX7_lay 23 = .ok (.if_icmp .ge 68, 3) := by decide +kernel
theorem dX7_lay_26 : decode cX7_lay 26 = .ok (.iload_n 3, 1) := by decide +kernel
theorem dX7_lay_27 : decode cX7_lay 27 = .ok (.invokestatic 152, 3) := by decide +kernel
theorem dX7_lay_30 : decode cX7_lay 30 = .ok (.iconst 3, 1) := by decide +kernel
theorem dX7_lay_31 : decode cX7_lay 31 = .ok (.if_icmp .gt 54, 3) := by decide +kernel
theorem dX7_lay_34 : decode cX7_lay 34 = .ok (.iload_n 2, 1) := by decide +kernel
theorem dX7_lay_35 : decode cX7_lay 35 = .ok (.ifCond .lt 14, 3) := by decide +kernel
theorem dX7_lay_38 : decode cX7_lay 38 = .ok (.iload_n 3, 1) := by decide +kernel
theorem dX7_lay_39 : decode cX7_lay 39 = .ok (.invokestatic 152, 3) := by decide +kernel
theorem dX7_lay_42 : decode cX7_lay 42 = .ok (.iload_n 2, 1) := by decide +kernel
theorem dX7_lay_43 : decode cX7_lay 43 = .ok (.invokestatic 152, 3) := by decide +kernel
theorem dX7_lay_46 : decode cX7_lay 46 = .ok (.if_icmp .ge 39, 3) := by decide +kernel
theorem dX7_lay_49 : decode cX7_lay 49 = .ok (.aload_n 0, 1) := by decide +kernel
theorem dX7_lay_50 : decode cX7_lay 50 = .ok (.getfield 9, 3) := by decide +kernel
theorem dX7_lay_53 : decode cX7_lay 53 = .ok (.aload_n 0, 1) := by decide +kernel
theorem dX7_lay_54 : decode cX7_lay 54 = .ok (.getfield 16, 3) := by decide +kernel
theorem dX7_lay_57 : decode cX7_lay 57 = .ok (.invokestatic 70, 3) := by decide +kernel
theorem dX7_lay_60 : decode cX7_lay 60 = .ok (.aload_n 0, 1) := by decide +kernel
theorem dX7_lay_61 : decode cX7_lay 61 = .ok (.iload_n 3, 1) := by decide +kernel
theorem dX7_lay_62 : decode cX7_lay 62 = .ok (.invokevirtual 211, 3) := by decide +kernel
theorem dX7_lay_65 : decode cX7_lay 65 = .ok (.aload_n 0, 1) := by decide +kernel
theorem dX7_lay_66 : decode cX7_lay 66 = .ok (.aload_n 0, 1) := by decide +kernel
theorem dX7_lay_67 : decode cX7_lay 67 = .ok (.iload_n 1, 1) := by decide +kernel
theorem dX7_lay_68 : decode cX7_lay 68 = .ok (.invokevirtual 146, 3) := by decide +kernel
theorem dX7_lay_71 : decode cX7_lay 71 = .ok (.bipush 12, 2) := by decide +kernel
theorem dX7_lay_73 : decode cX7_lay 73 = .ok (.if_icmp .ne 7, 3) := by decide +kernel
theorem dX7_lay_76 : decode cX7_lay 76 = .ok (.iload_n 3, 1) := by decide +kernel
theorem dX7_lay_77 : decode cX7_lay 77 = .ok (.goto 4, 3) := by decide +kernel
theorem dX7_lay_80 : decode cX7_lay 80 = .ok (.iload_n 2, 1) := by decide +kernel
theorem dX7_lay_81 : decode cX7_lay 81 = .ok (.invokevirtual 158, 3) := by decide +kernel
theorem dX7_lay_84 : decode cX7_lay 84 = .ok (.istore_n 2, 1) := by decide +kernel
theorem dX7_lay_85 : decode cX7_lay 85 = .ok (.iinc 3 1, 3) := by decide +kernel
theorem dX7_lay_88 : decode cX7_lay 88 = .ok (.goto (-69), 3) := by decide +kernel
theorem dX7_lay_91 : decode cX7_lay 91 = .ok (.aload_n 0, 1) := by decide +kernel
theorem dX7_lay_92 : decode cX7_lay 92 = .ok (.iload_n 2, 1) := by decide +kernel
theorem dX7_lay_93 : decode cX7_lay 93 = .ok (.invokevirtual 183, 3) := by decide +kernel
theorem dX7_lay_96 : decode cX7_lay 96 = .ok (.ireturn, 1) := by decide +kernel
theorem dX7_best_0 : decode cX7_best 0 = .ok (.iconst 0, 1) := by decide +kernel
theorem dX7_best_1 : decode cX7_best 1 = .ok (.istore_n 1, 1) := by decide +kernel
theorem dX7_best_2 : decode cX7_best 2 = .ok (.bipush 7, 2) := by decide +kernel
theorem dX7_best_4 : decode cX7_best 4 = .ok (.istore_n 2, 1) := by decide +kernel
theorem dX7_best_5 : decode cX7_best 5 = .ok (.iconst 0, 1) := by decide +kernel
theorem dX7_best_6 : decode cX7_best 6 = .ok (.istore_n 3, 1) := by decide +kernel
theorem dX7_best_7 : decode cX7_best 7 = .ok (.iload_n 3, 1) := by decide +kernel
theorem dX7_best_8 : decode cX7_best 8 = .ok (.bipush 12, 2) := by decide +kernel
theorem dX7_best_10 : decode cX7_best 10 = .ok (.if_icmp .ge 60, 3) := by decide +kernel
theorem dX7_best_13 : decode cX7_best 13 = .ok (.aload_n 0, 1) := by decide +kernel
theorem dX7_best_14 : decode cX7_best 14 = .ok (.bipush 14, 2) := by decide +kernel
theorem dX7_best_16 : decode cX7_best 16 = .ok (.iload_n 3, 1) := by decide +kernel
theorem dX7_best_17 : decode cX7_best 17 = .ok (.iadd, 1) := by decide +kernel
theorem dX7_best_18 : decode cX7_best 18 = .ok (.bipush 50, 2) := by decide +kernel
theorem dX7_best_20 : decode cX7_best 20 = .ok (.invokevirtual 102, 3) := by decide +kernel
theorem dX7_best_23 : decode cX7_best 23 = .ok (.istore 4, 2) := by decide +kernel
theorem dX7_best_25 : decode cX7_best 25 = .ok (.aload_n 0, 1) := by decide +kernel
theorem dX7_best_26 : decode cX7_best 26 = .ok (.invokevirtual 168, 3) := by decide +kernel
theorem dX7_best_29 : decode cX7_best 29 = .ok (.invokestatic 152, 3) := by decide +kernel
theorem dX7_best_32 : decode cX7_best 32 = .ok (.istore 5, 2) := by decide +kernel
theorem dX7_best_34 : decode cX7_best 34 = .ok (.aload_n 0, 1) := by decide +kernel
theorem dX7_best_35 : decode cX7_best 35 = .ok (.getfield 9, 3) := by decide +kernel
theorem dX7_best_38 : decode cX7_best 38 = .ok (.bipush 14, 2) := by decide +kernel
theorem dX7_best_40 : decode cX7_best 40 = .ok (.iload_n 3, 1) := by decide +kernel
theorem dX7_best_41 : decode cX7_best 41 = .ok (.iadd, 1) := by decide +kernel
theorem dX7_best_42 : decode cX7_best 42 = .ok (.iload 4, 2) := by decide +kernel
theorem dX7_best_44 : decode cX7_best 44 = .ok (.iastore, 1) := by decide +kernel
theorem dX7_best_45 : decode cX7_best 45 = .ok (.iload 5, 2) := by decide +kernel
theorem dX7_best_47 : decode cX7_best 47 = .ok (.iload_n 2, 1) := by decide +kernel
theorem dX7_best_48 : decode cX7_best 48 = .ok (.if_icmp .ge 7, 3) := by decide +kernel
theorem dX7_best_51 : decode cX7_best 51 = .ok (.iload_n 3, 1) := by decide +kernel
theorem dX7_best_52 : decode cX7_best 52 = .ok (.goto 4, 3) := by decide +kernel
theorem dX7_best_55 : decode cX7_best 55 = .ok (.iload_n 1, 1) := by decide +kernel
theorem dX7_best_56 : decode cX7_best 56 = .ok (.istore_n 1, 1) := by decide +kernel
theorem dX7_best_57 : decode cX7_best 57 = .ok (.iload_n 2, 1) := by decide +kernel
theorem dX7_best_58 : decode cX7_best 58 = .ok (.iload 5, 2) := by decide +kernel
theorem dX7_best_60 : decode cX7_best 60 = .ok (.invokestatic 79, 3) := by decide +kernel
theorem dX7_best_63 : decode cX7_best 63 = .ok (.istore_n 2, 1) := by decide +kernel
theorem dX7_best_64 : decode cX7_best 64 = .ok (.iinc 3 1, 3) := by decide +kernel
theorem dX7_best_67 : decode cX7_best 67 = .ok (.goto (-60), 3) := by decide +kernel
theorem dX7_best_70 : decode cX7_best 70 = .ok (.iload_n 1, 1) := by decide +kernel
theorem dX7_best_71 : decode cX7_best 71 = .ok (.ireturn, 1) := by decide +kernel
theorem dX7_unlikeOf_0 : decode cX7_unlikeOf 0 = .ok (.iconst 0, 1) := by decide +kernel
theorem dX7_unlikeOf_1 : decode cX7_unlikeOf 1 = .ok (.istore_n 3, 1) := by decide +kernel
theorem dX7_unlikeOf_2 : decode cX7_unlikeOf 2 = .ok (.iconst 0, 1) := by decide +kernel
theorem dX7_unlikeOf_3 : decode cX7_unlikeOf 3 = .ok (.istore 4, 2) := by decide +kernel
theorem dX7_unlikeOf_5 : decode cX7_unlikeOf 5 = .ok (.iload 4, 2) := by decide +kernel
theorem dX7_unlikeOf_7 : decode cX7_unlikeOf 7 = .ok (.bipush 12, 2) := by decide +kernel
theorem dX7_unlikeOf_9 : decode cX7_unlikeOf 9 = .ok (.if_icmp .ge 36, 3) := by decide +kernel
theorem dX7_unlikeOf_12 : decode cX7_unlikeOf 12 = .ok (.iload_n 3, 1) := by decide +kernel
theorem dX7_unlikeOf_13 : decode cX7_unlikeOf 13 = .ok (.aload_n 0, 1) := by decide +kernel
theorem dX7_unlikeOf_14 : decode cX7_unlikeOf 14 = .ok (.iload_n 1, 1) := by decide +kernel
theorem dX7_unlikeOf_15 : decode cX7_unlikeOf 15 = .ok (.bipush 14, 2) := by decide +kernel
theorem dX7_unlikeOf_17 : decode cX7_unlikeOf 17 = .ok (.iload 4, 2) := by decide +kernel
theorem dX7_unlikeOf_19 : decode cX7_unlikeOf 19 = .ok (.iadd, 1) := by decide +kernel
theorem dX7_unlikeOf_20 : decode cX7_unlikeOf 20 = .ok (.invokevirtual 174, 3) := by decide +kernel
theorem dX7_unlikeOf_23 : decode cX7_unlikeOf 23 = .ok (.aload_n 0, 1) := by decide +kernel
theorem dX7_unlikeOf_24 : decode cX7_unlikeOf 24 = .ok (.iload_n 2, 1) := by decide +kernel
theorem dX7_unlikeOf_25 : decode cX7_unlikeOf 25 = .ok (.bipush 14, 2) := by decide +kernel
theorem dX7_unlikeOf_27 : decode cX7_unlikeOf 27 = .ok (.iload 4, 2) := by decide +kernel
theorem dX7_unlikeOf_29 : decode cX7_unlikeOf 29 = .ok (.iadd, 1) := by decide +kernel
theorem dX7_unlikeOf_30 : decode cX7_unlikeOf 30 = .ok (.invokevirtual 174, 3) := by decide +kernel
theorem dX7_unlikeOf_33 : decode cX7_unlikeOf 33 = .ok (.isub, 1) := by decide +kernel
theorem dX7_unlikeOf_34 : decode cX7_unlikeOf 34 = .ok (.invokestatic 116, 3) := by decide +kernel
theorem dX7_unlikeOf_37 : decode cX7_unlikeOf 37 = .ok (.iadd, 1) := by decide +kernel
theorem dX7_unlikeOf_38 : decode cX7_unlikeOf 38 = .ok (.istore_n 3, 1) := by decide +kernel
theorem dX7_unlikeOf_39 : decode cX7_unlikeOf 39 = .ok (.iinc 4 1, 3) := by decide +kernel
theorem dX7_unlikeOf_42 : decode cX7_unlikeOf 42 = .ok (.goto (-37), 3) := by decide +kernel
theorem dX7_unlikeOf_45 : decode cX7_unlikeOf 45 = .ok (.iload_n 3, 1) := by decide +kernel
theorem dX7_unlikeOf_46 : decode cX7_unlikeOf 46 = .ok (.ireturn, 1) := by decide +kernel
theorem dX7_unlike_0 : decode cX7_unlike 0 = .ok (.aload_n 0, 1) := by decide +kernel
theorem dX7_unlike_1 : decode cX7_unlike 1 = .ok (.iload_n 1, 1) := by decide +kernel
theorem dX7_unlike_2 : decode cX7_unlike 2 = .ok (.iload_n 2, 1) := by decide +kernel
theorem dX7_unlike_3 : decode cX7_unlike 3 = .ok (.invokevirtual 177, 3) := by decide +kernel
theorem dX7_unlike_6 : decode cX7_unlike 6 = .ok (.ifCond .eq 12, 3) := by decide +kernel
theorem dX7_unlike_9 : decode cX7_unlike 9 = .ok (.aload_n 0, 1) := by decide +kernel
theorem dX7_unlike_10 : decode cX7_unlike 10 = .ok (.iload_n 1, 1) := by decide +kernel
theorem dX7_unlike_11 : decode cX7_unlike 11 = .ok (.iload_n 2, 1) := by decide +kernel
theorem dX7_unlike_12 : decode cX7_unlike 12 = .ok (.invokevirtual 214, 3) := by decide +kernel
theorem dX7_unlike_15 : decode cX7_unlike 15 = .ok (.goto 9, 3) := by decide +kernel
theorem dX7_unlike_18 : decode cX7_unlike 18 = .ok (.aload_n 0, 1) := by decide +kernel
theorem dX7_unlike_19 : decode cX7_unlike 19 = .ok (.ldc 69, 2) := by decide +kernel
theorem dX7_unlike_21 : decode cX7_unlike 21 = .ok (.invokevirtual 75, 3) := by decide +kernel
theorem dX7_unlike_24 : decode cX7_unlike 24 = .ok (.ireturn, 1) := by decide +kernel
theorem dX7_taken_0 : decode cX7_taken 0 = .ok (.aload_n 0, 1) := by decide +kernel
theorem dX7_taken_1 : decode cX7_taken 1 = .ok (.iload_n 1, 1) := by decide +kernel
theorem dX7_taken_2 : decode cX7_taken 2 = .ok (.invokevirtual 126, 3) := by decide +kernel
theorem dX7_taken_5 : decode cX7_taken 5 = .ok (.ifCond .ne 10, 3) := by decide +kernel
theorem dX7_taken_8 : decode cX7_taken 8 = .ok (.aload_n 0, 1) := by decide +kernel
theorem dX7_taken_9 : decode cX7_taken 9 = .ok (.ldc 69, 2) := by decide +kernel
theorem dX7_taken_11 : decode cX7_taken 11 = .ok (.invokevirtual 75, 3) := by decide +kernel
theorem dX7_taken_14 : decode cX7_taken 14 = .ok (.ireturn, 1) := by decide +kernel
theorem dX7_taken_15 : decode cX7_taken 15 = .ok (.iconst (-1), 1) := by decide +kernel
theorem dX7_taken_16 : decode cX7_taken 16 = .ok (.istore_n 2, 1) := by decide +kernel
theorem dX7_taken_17 : decode cX7_taken 17 = .ok (.ldc 219, 2) := by decide +kernel
theorem dX7_taken_19 : decode cX7_taken 19 = .ok (.istore_n 3, 1) := by decide +kernel
theorem dX7_taken_20 : decode cX7_taken 20 = .ok (.iconst 0, 1) := by decide +kernel
theorem dX7_taken_21 : decode cX7_taken 21 = .ok (.istore 4, 2) := by decide +kernel
theorem dX7_taken_23 : decode cX7_taken 23 = .ok (.iload 4, 2) := by decide +kernel
theorem dX7_taken_25 : decode cX7_taken 25 = .ok (.aload_n 0, 1) := by decide +kernel
theorem dX7_taken_26 : decode cX7_taken 26 = .ok (.getfield 9, 3) := by decide +kernel
theorem dX7_taken_29 : decode cX7_taken 29 = .ok (.iconst 1, 1) := by decide +kernel
theorem dX7_taken_30 : decode cX7_taken 30 = .ok (.iaload, 1) := by decide +kernel
theorem dX7_taken_31 : decode cX7_taken 31 = .ok (.if_icmp .ge 49, 3) := by decide +kernel
theorem dX7_taken_34 : decode cX7_taken 34 = .ok (.iload 4, 2) := by decide +kernel
theorem dX7_taken_36 : decode cX7_taken 36 = .ok (.iload_n 1, 1) := by decide +kernel
theorem dX7_taken_37 : decode cX7_taken 37 = .ok (.if_icmp .ne 8, 3) := by decide +kernel
theorem dX7_taken_40 : decode cX7_taken 40 = .ok (.ldc 219, 2) := by decide +kernel
theorem dX7_taken_42 : decode cX7_taken 42 = .ok (.goto 10, 3) := by decide +kernel
theorem dX7_taken_45 : decode cX7_taken 45 = .ok (.aload_n 0, 1) := by decide +kernel
theorem dX7_taken_46 : decode cX7_taken 46 = .ok (.iload_n 1, 1) := by decide +kernel
theorem dX7_taken_47 : decode cX7_taken 47 = .ok (.iload 4, 2) := by decide +kernel
theorem dX7_taken_49 : decode cX7_taken 49 = .ok (.invokevirtual 214, 3) := by decide +kernel
theorem dX7_taken_52 : decode cX7_taken 52 = .ok (.istore 5, 2) := by decide +kernel
theorem dX7_taken_54 : decode cX7_taken 54 = .ok (.iload 5, 2) := by decide +kernel
theorem dX7_taken_56 : decode cX7_taken 56 = .ok (.iload_n 3, 1) := by decide +kernel
theorem dX7_taken_57 : decode cX7_taken 57 = .ok (.if_icmp .ge 8, 3) := by decide +kernel
theorem dX7_taken_60 : decode cX7_taken 60 = .ok (.iload 4, 2) := by decide +kernel
theorem dX7_taken_62 : decode cX7_taken 62 = .ok (.goto 4, 3) := by decide +kernel
theorem dX7_taken_65 : decode cX7_taken 65 = .ok (.iload_n 2, 1) := by decide +kernel
theorem dX7_taken_66 : decode cX7_taken 66 = .ok (.istore_n 2, 1) := by decide +kernel
theorem dX7_taken_67 : decode cX7_taken 67 = .ok (.iload_n 3, 1) := by decide +kernel
theorem dX7_taken_68 : decode cX7_taken 68 = .ok (.iload 5, 2) := by decide +kernel
theorem dX7_taken_70 : decode cX7_taken 70 = .ok (.invokestatic 79, 3) := by decide +kernel
theorem dX7_taken_73 : decode cX7_taken 73 = .ok (.istore_n 3, 1) := by decide +kernel
theorem dX7_taken_74 : decode cX7_taken 74 = .ok (.iinc 4 1, 3) := by decide +kernel
theorem dX7_taken_77 : decode cX7_taken 77 = .ok (.goto (-54), 3) := by decide +kernel
theorem dX7_taken_80 : decode cX7_taken 80 = .ok (.aload_n 0, 1) := by decide +kernel
theorem dX7_taken_81 : decode cX7_taken 81 = .ok (.iload_n 2, 1) := by decide +kernel
theorem dX7_taken_82 : decode cX7_taken 82 = .ok (.invokevirtual 183, 3) := by decide +kernel
theorem dX7_taken_85 : decode cX7_taken 85 = .ok (.ireturn, 1) := by decide +kernel
theorem dX7_lacks_0 : decode cX7_lacks 0 = .ok (.iload_n 1, 1) := by decide +kernel
theorem dX7_lacks_1 : decode cX7_lacks 1 = .ok (.invokestatic 220, 3) := by decide +kernel
theorem dX7_lacks_4 : decode cX7_lacks 4 = .ok (.ifCond .ne 8, 3) := by decide +kernel
theorem dX7_lacks_7 : decode cX7_lacks 7 = .ok (.ldc 69, 2) := by decide +kernel
theorem dX7_lacks_9 : decode cX7_lacks 9 = .ok (.goto 18, 3) := by decide +kernel
theorem dX7_lacks_12 : decode cX7_lacks 12 = .ok (.aload_n 0, 1) := by decide +kernel
theorem dX7_lacks_13 : decode cX7_lacks 13 = .ok (.getfield 57, 3) := by decide +kernel
theorem dX7_lacks_16 : decode cX7_lacks 16 = .ok (.iload_n 1, 1) := by decide +kernel
theorem dX7_lacks_17 : decode cX7_lacks 17 = .ok (.iaload, 1) := by decide +kernel
theorem dX7_lacks_18 : decode cX7_lacks 18 = .ok (.ifCond .ne 8, 3) := by decide +kernel
theorem dX7_lacks_21 : decode cX7_lacks 21 = .ok (.ldc 223, 2) := by decide +kernel
theorem dX7_lacks_23 : decode cX7_lacks 23 = .ok (.goto 4, 3) := by decide +kernel
theorem dX7_lacks_26 : decode cX7_lacks 26 = .ok (.iconst 0, 1) := by decide +kernel
theorem dX7_lacks_27 : decode cX7_lacks 27 = .ok (.ireturn, 1) := by decide +kernel
theorem dX7_lacksFor_0 : decode cX7_lacksFor 0 = .ok (.aload_n 0, 1) := by decide +kernel
theorem dX7_lacksFor_1 : decode cX7_lacksFor 1 = .ok (.iload_n 1, 1) := by decide +kernel
theorem dX7_lacksFor_2 : decode cX7_lacksFor 2 = .ok (.invokevirtual 224, 3) := by decide +kernel
theorem dX7_lacksFor_5 : decode cX7_lacksFor 5 = .ok (.ifCond .eq 11, 3) := by decide +kernel
theorem dX7_lacksFor_8 : decode cX7_lacksFor 8 = .ok (.aload_n 0, 1) := by decide +kernel
theorem dX7_lacksFor_9 : decode cX7_lacksFor 9 = .ok (.iload_n 1, 1) := by decide +kernel
theorem dX7_lacksFor_10 : decode cX7_lacksFor 10 = .ok (.invokevirtual 224, 3) := by decide +kernel
theorem dX7_lacksFor_13 : decode cX7_lacksFor 13 = .ok (.goto 33, 3) := by decide +kernel
theorem dX7_lacksFor_16 : decode cX7_lacksFor 16 = .ok (.aload_n 0, 1) := by decide +kernel
theorem dX7_lacksFor_17 : decode cX7_lacksFor 17 = .ok (.iload_n 2, 1) := by decide +kernel
theorem dX7_lacksFor_18 : decode cX7_lacksFor 18 = .ok (.invokevirtual 126, 3) := by decide +kernel
theorem dX7_lacksFor_21 : decode cX7_lacksFor 21 = .ok (.ifCond .ne 8, 3) := by decide +kernel
theorem dX7_lacksFor_24 : decode cX7_lacksFor 24 = .ok (.ldc 69, 2) := by decide +kernel
theorem dX7_lacksFor_26 : decode cX7_lacksFor 26 = .ok (.goto 20, 3) := by decide +kernel
theorem dX7_lacksFor_29 : decode cX7_lacksFor 29 = .ok (.aload_n 0, 1) := by decide +kernel
theorem dX7_lacksFor_30 : decode cX7_lacksFor 30 = .ok (.getfield 60, 3) := by decide +kernel
theorem dX7_lacksFor_33 : decode cX7_lacksFor 33 = .ok (.iload_n 1, 1) := by decide +kernel
theorem dX7_lacksFor_34 : decode cX7_lacksFor 34 = .ok (.iaload, 1) := by decide +kernel
theorem dX7_lacksFor_35 : decode cX7_lacksFor 35 = .ok (.bipush 12, 2) := by decide +kernel
theorem dX7_lacksFor_37 : decode cX7_lacksFor 37 = .ok (.if_icmp .le 8, 3) := by decide +kernel
theorem dX7_lacksFor_40 : decode cX7_lacksFor 40 = .ok (.ldc 145, 2) := by decide +kernel
theorem dX7_lacksFor_42 : decode cX7_lacksFor 42 = .ok (.goto 4, 3) := by decide +kernel
theorem dX7_lacksFor_45 : decode cX7_lacksFor 45 = .ok (.iconst 0, 1) := by decide +kernel
theorem dX7_lacksFor_46 : decode cX7_lacksFor 46 = .ok (.ireturn, 1) := by decide +kernel
theorem dX7_swaysSo_0 : decode cX7_swaysSo 0 = .ok (.aload_n 0, 1) := by decide +kernel
theorem dX7_swaysSo_1 : decode cX7_swaysSo 1 = .ok (.getfield 9, 3) := by decide +kernel
theorem dX7_swaysSo_4 : decode cX7_swaysSo 4 = .ok (.aload_n 0, 1) := by decide +kernel
theorem dX7_swaysSo_5 : decode cX7_swaysSo 5 = .ok (.getfield 16, 3) := by decide +kernel
theorem dX7_swaysSo_8 : decode cX7_swaysSo 8 = .ok (.invokestatic 70, 3) := by decide +kernel
theorem dX7_swaysSo_11 : decode cX7_swaysSo 11 = .ok (.aload_n 0, 1) := by decide +kernel
theorem dX7_swaysSo_12 : decode cX7_swaysSo 12 = .ok (.iload_n 2, 1) := by decide +kernel
theorem dX7_swaysSo_13 : decode cX7_swaysSo 13 = .ok (.invokevirtual 146, 3) := by decide +kernel
theorem dX7_swaysSo_16 : decode cX7_swaysSo 16 = .ok (.istore_n 3, 1) := by decide +kernel
theorem dX7_swaysSo_17 : decode cX7_swaysSo 17 = .ok (.iload_n 3, 1) := by decide +kernel
theorem dX7_swaysSo_18 : decode cX7_swaysSo 18 = .ok (.ifCond .lt 7, 3) := by decide +kernel
theorem dX7_swaysSo_21 : decode cX7_swaysSo 21 = .ok (.iconst 1, 1) := by decide +kernel
theorem dX7_swaysSo_22 : decode cX7_swaysSo 22 = .ok (.goto 4, 3) := by decide +kernel
theorem dX7_swaysSo_25 : decode cX7_swaysSo 25 = .ok (.iconst 0, 1) := by decide +kernel
theorem dX7_swaysSo_26 : decode cX7_swaysSo 26 = .ok (.istore 4, 2) := by decide +kernel
theorem dX7_swaysSo_28 : decode cX7_swaysSo 28 = .ok (.iconst 0, 1) := by decide +kernel
theorem dX7_swaysSo_29 : decode cX7_swaysSo 29 = .ok (.istore 5, 2) := by decide +kernel
theorem dX7_swaysSo_31 : decode cX7_swaysSo 31 = .ok (.iload 5, 2) := by decide +kernel
theorem dX7_swaysSo_33 : decode cX7_swaysSo 33 = .ok (.aload_n 0, 1) := by decide +kernel
theorem dX7_swaysSo_34 : decode cX7_swaysSo 34 = .ok (.getfield 60, 3) := by decide +kernel
theorem dX7_swaysSo_37 : decode cX7_swaysSo 37 = .ok (.iload_n 1, 1) := by decide +kernel
theorem dX7_swaysSo_38 : decode cX7_swaysSo 38 = .ok (.iaload, 1) := by decide +kernel
theorem dX7_swaysSo_39 : decode cX7_swaysSo 39 = .ok (.if_icmp .ge 56, 3) := by decide +kernel
theorem dX7_swaysSo_42 : decode cX7_swaysSo 42 = .ok (.aload_n 0, 1) := by decide +kernel
theorem dX7_swaysSo_43 : decode cX7_swaysSo 43 = .ok (.getfield 63, 3) := by decide +kernel
theorem dX7_swaysSo_46 : decode cX7_swaysSo 46 = .ok (.bipush 40, 2) := by decide +kernel
theorem dX7_swaysSo_48 : decode cX7_swaysSo 48 = .ok (.iload_n 1, 1) := by decide +kernel
theorem dX7_swaysSo_49 : decode cX7_swaysSo 49 = .ok (.imul, 1) := by decide +kernel
theorem dX7_swaysSo_50 : decode cX7_swaysSo 50 = .ok (.iload 5, 2) := by decide +kernel
theorem dX7_swaysSo_52 : decode cX7_swaysSo 52 = .ok (.iadd, 1) := by decide +kernel
theorem dX7_swaysSo_53 : decode cX7_swaysSo 53 = .ok (.iaload, 1) := by decide +kernel
theorem dX7_swaysSo_54 : decode cX7_swaysSo 54 = .ok (.istore 6, 2) := by decide +kernel
theorem dX7_swaysSo_56 : decode cX7_swaysSo 56 = .ok (.iload 4, 2) := by decide +kernel
theorem dX7_swaysSo_58 : decode cX7_swaysSo 58 = .ok (.ifCond .eq 28, 3) := by decide +kernel
theorem dX7_swaysSo_61 : decode cX7_swaysSo 61 = .ok (.iload 6, 2) := by decide +kernel
theorem dX7_swaysSo_63 : decode cX7_swaysSo 63 = .ok (.iconst (-1), 1) := by decide +kernel
theorem dX7_swaysSo_64 : decode cX7_swaysSo 64 = .ok (.if_icmp .eq 18, 3) := by decide +kernel
theorem dX7_swaysSo_67 : decode cX7_swaysSo 67 = .ok (.iload 6, 2) := by decide +kernel
theorem dX7_swaysSo_69 : decode cX7_swaysSo 69 = .ok (.aload_n 0, 1) := by decide +kernel
theorem dX7_swaysSo_70 : decode cX7_swaysSo 70 = .ok (.getfield 9, 3) := by decide +kernel
theorem dX7_swaysSo_73 : decode cX7_swaysSo 73 = .ok (.bipush 14, 2) := by decide +kernel
theorem dX7_swaysSo_75 : decode cX7_swaysSo 75 = .ok (.iload 5, 2) := by decide +kernel
theorem dX7_swaysSo_77 : decode cX7_swaysSo 77 = .ok (.iadd, 1) := by decide +kernel
theorem dX7_swaysSo_78 : decode cX7_swaysSo 78 = .ok (.iaload, 1) := by decide +kernel
theorem dX7_swaysSo_79 : decode cX7_swaysSo 79 = .ok (.if_icmp .ne 7, 3) := by decide +kernel
theorem dX7_swaysSo_82 : decode cX7_swaysSo 82 = .ok (.iconst 1, 1) := by decide +kernel
theorem dX7_swaysSo_83 : decode cX7_swaysSo 83 = .ok (.goto 4, 3) := by decide +kernel
theorem dX7_swaysSo_86 : decode cX7_swaysSo 86 = .ok (.iconst 0, 1) := by decide +kernel
theorem dX7_swaysSo_87 : decode cX7_swaysSo 87 = .ok (.istore 4, 2) := by decide +kernel
theorem dX7_swaysSo_89 : decode cX7_swaysSo 89 = .ok (.iinc 5 1, 3) := by decide +kernel
theorem dX7_swaysSo_92 : decode cX7_swaysSo 92 = .ok (.goto (-61), 3) := by decide +kernel
theorem dX7_swaysSo_95 : decode cX7_swaysSo 95 = .ok (.aload_n 0, 1) := by decide +kernel
theorem dX7_swaysSo_96 : decode cX7_swaysSo 96 = .ok (.getfield 16, 3) := by decide +kernel
theorem dX7_swaysSo_99 : decode cX7_swaysSo 99 = .ok (.aload_n 0, 1) := by decide +kernel
theorem dX7_swaysSo_100 : decode cX7_swaysSo 100 = .ok (.getfield 9, 3) := by decide +kernel
theorem dX7_swaysSo_103 : decode cX7_swaysSo 103 = .ok (.invokestatic 70, 3) := by decide +kernel
theorem dX7_swaysSo_106 : decode cX7_swaysSo 106 = .ok (.iload 4, 2) := by decide +kernel
theorem dX7_swaysSo_108 : decode cX7_swaysSo 108 = .ok (.ireturn, 1) := by decide +kernel
theorem dX7_fitting_0 : decode cX7_fitting 0 = .ok (.iload_n 2, 1) := by decide +kernel
theorem dX7_fitting_1 : decode cX7_fitting 1 = .ok (.iconst 1, 1) := by decide +kernel
theorem dX7_fitting_2 : decode cX7_fitting 2 = .ok (.invokestatic 92, 3) := by decide +kernel
theorem dX7_fitting_5 : decode cX7_fitting 5 = .ok (.istore_n 3, 1) := by decide +kernel
theorem dX7_fitting_6 : decode cX7_fitting 6 = .ok (.aload_n 0, 1) := by decide +kernel
theorem dX7_fitting_7 : decode cX7_fitting 7 = .ok (.getfield 9, 3) := by decide +kernel
theorem dX7_fitting_10 : decode cX7_fitting 10 = .ok (.iload_n 3, 1) := by decide +kernel
theorem dX7_fitting_11 : decode cX7_fitting 11 = .ok (.iaload, 1) := by decide +kernel
theorem dX7_fitting_12 : decode cX7_fitting 12 = .ok (.istore 4, 2) := by decide +kernel
theorem dX7_fitting_14 : decode cX7_fitting 14 = .ok (.iconst (-1), 1) := by decide +kernel
theorem dX7_fitting_15 : decode cX7_fitting 15 = .ok (.istore 5, 2) := by decide +kernel
theorem dX7_fitting_17 : decode cX7_fitting 17 = .ok (.aload_n 0, 1) := by decide +kernel
theorem dX7_fitting_18 : decode cX7_fitting 18 = .ok (.iconst 0, 1) := by decide +kernel
theorem dX7_fitting_19 : decode cX7_fitting 19 = .ok (.putfield 227, 3) := by decide +kernel
theorem dX7_fitting_22 : decode cX7_fitting 22 = .ok (.bipush 99, 2) := by decide +kernel
theorem dX7_fitting_24 : decode cX7_fitting 24 = .ok (.istore 6, 2) := by decide +kernel
theorem dX7_fitting_26 : decode cX7_fitting 26 = .ok (.iload 6, 2) := by decide +kernel
theorem dX7_fitting_28 : decode cX7_fitting 28 = .ok (.ifCond .lt 58, 3) := by decide +kernel
theorem dX7_fitting_31 : decode cX7_fitting 31 = .ok (.aload_n 0, 1) := by decide +kernel
theorem dX7_fitting_32 : decode cX7_fitting 32 = .ok (.getfield 9, 3) := by decide +kernel
theorem dX7_fitting_35 : decode cX7_fitting 35 = .ok (.iload_n 3, 1) := by decide +kernel
theorem dX7_fitting_36 : decode cX7_fitting 36 = .ok (.iload 6, 2) := by decide +kernel
theorem dX7_fitting_38 : decode cX7_fitting 38 = .ok (.iastore, 1) := by decide +kernel
theorem dX7_fitting_39 : decode cX7_fitting 39 = .ok (.aload_n 0, 1) := by decide +kernel
theorem dX7_fitting_40 : decode cX7_fitting 40 = .ok (.iload_n 1, 1) := by decide +kernel
theorem dX7_fitting_41 : decode cX7_fitting 41 = .ok (.iload_n 2, 1) := by decide +kernel
theorem dX7_fitting_42 : decode cX7_fitting 42 = .ok (.invokevirtual 230, 3) := by decide +kernel
theorem dX7_fitting_45 : decode cX7_fitting 45 = .ok (.istore 7, 2) := by decide +kernel
theorem dX7_fitting_47 : decode cX7_fitting 47 = .ok (.iload 7, 2) := by decide +kernel
theorem dX7_fitting_49 : decode cX7_fitting 49 = .ok (.ifCond .eq 8, 3) := by decide +kernel
theorem dX7_fitting_52 : decode cX7_fitting 52 = .ok (.iload 6, 2) := by decide +kernel
theorem dX7_fitting_54 : decode cX7_fitting 54 = .ok (.goto 5, 3) := by decide +kernel
theorem dX7_fitting_57 : decode cX7_fitting 57 = .ok (.iload 5, 2) := by decide +kernel
theorem dX7_fitting_59 : decode cX7_fitting 59 = .ok (.istore 5, 2) := by decide +kernel
theorem dX7_fitting_61 : decode cX7_fitting 61 = .ok (.aload_n 0, 1) := by decide +kernel
theorem dX7_fitting_62 : decode cX7_fitting 62 = .ok (.dup, 1) := by decide +kernel
theorem dX7_fitting_63 : decode cX7_fitting 63 = .ok (.getfield 227, 3) := by decide +kernel
theorem dX7_fitting_66 : decode cX7_fitting 66 = .ok (.iload 7, 2) := by decide +kernel
theorem dX7_fitting_68 : decode cX7_fitting 68 = .ok (.ifCond .eq 7, 3) := by decide +kernel
theorem dX7_fitting_71 : decode cX7_fitting 71 = .ok (.iconst 1, 1) := by decide +kernel
theorem dX7_fitting_72 : decode cX7_fitting 72 = .ok (.goto 4, 3) := by decide +kernel
theorem dX7_fitting_75 : decode cX7_fitting 75 = .ok (.iconst 0, 1) := by decide +kernel
theorem dX7_fitting_76 : decode cX7_fitting 76 = .ok (.iadd, 1) := by decide +kernel
theorem dX7_fitting_77 : decode cX7_fitting 77 = .ok (.putfield 227, 3) := by decide +kernel
theorem dX7_fitting_80 : decode cX7_fitting 80 = .ok (.iinc 6 (-1), 3) := by decide +kernel
theorem dX7_fitting_83 : decode cX7_fitting 83 = .ok (.goto (-57), 3) := by decide +kernel
theorem dX7_fitting_86 : decode cX7_fitting 86 = .ok (.aload_n 0, 1) := by decide +kernel
theorem dX7_fitting_87 : decode cX7_fitting 87 = .ok (.getfield 9, 3) := by decide +kernel
theorem dX7_fitting_90 : decode cX7_fitting 90 = .ok (.iload_n 3, 1) := by decide +kernel
theorem dX7_fitting_91 : decode cX7_fitting 91 = .ok (.iload 4, 2) := by decide +kernel
theorem dX7_fitting_93 : decode cX7_fitting 93 = .ok (.iastore, 1) := by decide +kernel
theorem dX7_fitting_94 : decode cX7_fitting 94 = .ok (.iload 5, 2) := by decide +kernel
theorem dX7_fitting_96 : decode cX7_fitting 96 = .ok (.ireturn, 1) := by decide +kernel
theorem dX7_fits_0 : decode cX7_fits 0 = .ok (.aload_n 0, 1) := by decide +kernel
theorem dX7_fits_1 : decode cX7_fits 1 = .ok (.iload_n 1, 1) := by decide +kernel
theorem dX7_fits_2 : decode cX7_fits 2 = .ok (.iload_n 2, 1) := by decide +kernel
theorem dX7_fits_3 : decode cX7_fits 3 = .ok (.invokevirtual 233, 3) := by decide +kernel
theorem dX7_fits_6 : decode cX7_fits 6 = .ok (.ifCond .eq 14, 3) := by decide +kernel
theorem dX7_fits_9 : decode cX7_fits 9 = .ok (.aload_n 0, 1) := by decide +kernel
theorem dX7_fits_10 : decode cX7_fits 10 = .ok (.aload_n 0, 1) := by decide +kernel
theorem dX7_fits_11 : decode cX7_fits 11 = .ok (.iload_n 1, 1) := by decide +kernel
theorem dX7_fits_12 : decode cX7_fits 12 = .ok (.iload_n 2, 1) := by decide +kernel
theorem dX7_fits_13 : decode cX7_fits 13 = .ok (.invokevirtual 233, 3) := by decide +kernel
theorem dX7_fits_16 : decode cX7_fits 16 = .ok (.invokevirtual 75, 3) := by decide +kernel
theorem dX7_fits_19 : decode cX7_fits 19 = .ok (.ireturn, 1) := by decide +kernel
theorem dX7_fits_20 : decode cX7_fits 20 = .ok (.aload_n 0, 1) := by decide +kernel
theorem dX7_fits_21 : decode cX7_fits 21 = .ok (.iload_n 1, 1) := by decide +kernel
theorem dX7_fits_22 : decode cX7_fits 22 = .ok (.iload_n 2, 1) := by decide +kernel
theorem dX7_fits_23 : decode cX7_fits 23 = .ok (.invokevirtual 236, 3) := by decide +kernel
theorem dX7_fits_26 : decode cX7_fits 26 = .ok (.istore_n 3, 1) := by decide +kernel
theorem dX7_fits_27 : decode cX7_fits 27 = .ok (.iload_n 3, 1) := by decide +kernel
theorem dX7_fits_28 : decode cX7_fits 28 = .ok (.ifCond .ge 7, 3) := by decide +kernel
theorem dX7_fits_31 : decode cX7_fits 31 = .ok (.iconst 0, 1) := by decide +kernel
theorem dX7_fits_32 : decode cX7_fits 32 = .ok (.goto 7, 3) := by decide +kernel
theorem dX7_fits_35 : decode cX7_fits 35 = .ok (.aload_n 0, 1) := by decide +kernel
theorem dX7_fits_36 : decode cX7_fits 36 = .ok (.getfield 227, 3) := by decide +kernel
theorem dX7_fits_39 : decode cX7_fits 39 = .ok (.ireturn, 1) := by decide +kernel
theorem dX7_gait_0 : decode cX7_gait 0 = .ok (.aload_n 0, 1) := by decide +kernel
theorem dX7_gait_1 : decode cX7_gait 1 = .ok (.iload_n 1, 1) := by decide +kernel
theorem dX7_gait_2 : decode cX7_gait 2 = .ok (.iload_n 2, 1) := by decide +kernel
theorem dX7_gait_3 : decode cX7_gait 3 = .ok (.invokevirtual 233, 3) := by decide +kernel
theorem dX7_gait_6 : decode cX7_gait 6 = .ok (.ifCond .eq 16, 3) := by decide +kernel
theorem dX7_gait_9 : decode cX7_gait 9 = .ok (.aload_n 0, 1) := by decide +kernel
theorem dX7_gait_10 : decode cX7_gait 10 = .ok (.aload_n 0, 1) := by decide +kernel
theorem dX7_gait_11 : decode cX7_gait 11 = .ok (.iload_n 1, 1) := by decide +kernel
theorem dX7_gait_12 : decode cX7_gait 12 = .ok (.iload_n 2, 1) := by decide +kernel
theorem dX7_gait_13 : decode cX7_gait 13 = .ok (.invokevirtual 233, 3) := by decide +kernel
theorem dX7_gait_16 : decode cX7_gait 16 = .ok (.invokevirtual 75, 3) := by decide +kernel
theorem dX7_gait_19 : decode cX7_gait 19 = .ok (.goto 13, 3) := by decide +kernel
theorem dX7_gait_22 : decode cX7_gait 22 = .ok (.aload_n 0, 1) := by decide +kernel
theorem dX7_gait_23 : decode cX7_gait 23 = .ok (.aload_n 0, 1) := by decide +kernel
theorem dX7_gait_24 : decode cX7_gait 24 = .ok (.iload_n 1, 1) := by decide +kernel
theorem dX7_gait_25 : decode cX7_gait 25 = .ok (.iload_n 2, 1) := by decide +kernel
theorem dX7_gait_26 : decode cX7_gait 26 = .ok (.invokevirtual 236, 3) := by decide +kernel
theorem dX7_gait_29 : decode cX7_gait 29 = .ok (.invokevirtual 183, 3) := by decide +kernel
theorem dX7_gait_32 : decode cX7_gait 32 = .ok (.ireturn, 1) := by decide +kernel
theorem dX7_who_0 : decode cX7_who 0 = .ok (.aload_n 0, 1) := by decide +kernel
theorem dX7_who_1 : decode cX7_who 1 = .ok (.iload_n 1, 1) := by decide +kernel
theorem dX7_who_2 : decode cX7_who 2 = .ok (.invokevirtual 224, 3) := by decide +kernel
theorem dX7_who_5 : decode cX7_who 5 = .ok (.ifCond .ne 14, 3) := by decide +kernel
theorem dX7_who_8 : decode cX7_who 8 = .ok (.aload_n 0, 1) := by decide +kernel
theorem dX7_who_9 : decode cX7_who 9 = .ok (.getfield 60, 3) := by decide +kernel
theorem dX7_who_12 : decode cX7_who 12 = .ok (.iload_n 1, 1) := by decide +kernel
theorem dX7_who_13 : decode cX7_who 13 = .ok (.iaload, 1) := by decide +kernel
theorem dX7_who_14 : decode cX7_who 14 = .ok (.bipush 12, 2) := by decide +kernel
theorem dX7_who_16 : decode cX7_who 16 = .ok (.if_icmp .le 26, 3) := by decide +kernel
theorem dX7_who_19 : decode cX7_who 19 = .ok (.aload_n 0, 1) := by decide +kernel
theorem dX7_who_20 : decode cX7_who 20 = .ok (.aload_n 0, 1) := by decide +kernel
theorem dX7_who_21 : decode cX7_who 21 = .ok (.iload_n 1, 1) := by decide +kernel
theorem dX7_who_22 : decode cX7_who 22 = .ok (.invokevirtual 224, 3) := by decide +kernel
theorem dX7_who_25 : decode cX7_who 25 = .ok (.ifCond .eq 11, 3) := by decide +kernel
theorem dX7_who_28 : decode cX7_who 28 = .ok (.aload_n 0, 1) := by decide +kernel
theorem dX7_who_29 : decode cX7_who 29 = .ok (.iload_n 1, 1) := by decide +kernel
theorem dX7_who_30 : decode cX7_who 30 = .ok (.invokevirtual 224, 3) := by decide +kernel
theorem dX7_who_33 : decode cX7_who 33 = .ok (.goto 5, 3) := by decide +kernel
theorem dX7_who_36 : decode cX7_who 36 = .ok (.ldc 145, 2) := by decide +kernel
theorem dX7_who_38 : decode cX7_who 38 = .ok (.invokevirtual 75, 3) := by decide +kernel
theorem dX7_who_41 : decode cX7_who 41 = .ok (.ireturn, 1) := by decide +kernel
theorem dX7_who_42 : decode cX7_who 42 = .ok (.iconst 0, 1) := by decide +kernel
theorem dX7_who_43 : decode cX7_who 43 = .ok (.istore_n 2, 1) := by decide +kernel
theorem dX7_who_44 : decode cX7_who 44 = .ok (.iconst 0, 1) := by decide +kernel
theorem dX7_who_45 : decode cX7_who 45 = .ok (.istore_n 3, 1) := by decide +kernel
theorem dX7_who_46 : decode cX7_who 46 = .ok (.iload_n 3, 1) := by decide +kernel
theorem dX7_who_47 : decode cX7_who 47 = .ok (.aload_n 0, 1) := by decide +kernel
theorem dX7_who_48 : decode cX7_who 48 = .ok (.getfield 9, 3) := by decide +kernel
theorem dX7_who_51 : decode cX7_who 51 = .ok (.iconst 1, 1) := by decide +kernel
theorem dX7_who_52 : decode cX7_who 52 = .ok (.iaload, 1) := by decide +kernel
theorem dX7_who_53 : decode cX7_who 53 = .ok (.if_icmp .ge 28, 3) := by decide +kernel
theorem dX7_who_56 : decode cX7_who 56 = .ok (.iload_n 2, 1) := by decide +kernel
theorem dX7_who_57 : decode cX7_who 57 = .ok (.aload_n 0, 1) := by decide +kernel
theorem dX7_who_58 : decode cX7_who 58 = .ok (.iload_n 1, 1) := by decide +kernel
theorem dX7_who_59 : decode cX7_who 59 = .ok (.iload_n 3, 1) := by decide +kernel
theorem dX7_who_60 : decode cX7_who 60 = .ok (.invokevirtual 230, 3) := by decide +kernel
theorem dX7_who_63 : decode cX7_who 63 = .ok (.ifCond .eq 9, 3) := by decide +kernel
theorem dX7_who_66 : decode cX7_who 66 = .ok (.iconst 1, 1) := by decide +kernel
theorem dX7_who_67 : decode cX7_who 67 = .ok (.iload_n 3, 1) := by decide +kernel
theorem dX7_who_68 : decode cX7_who 68 = .ok (.ishl, 1) := by decide +kernel
theorem dX7_who_69 : decode cX7_who 69 = .ok (.goto 4, 3) := by decide +kernel
theorem dX7_who_72 : decode cX7_who 72 = .ok (.iconst 0, 1) := by decide +kernel
theorem dX7_who_73 : decode cX7_who 73 = .ok (.ior, 1) := by decide +kernel
theorem dX7_who_74 : decode cX7_who 74 = .ok (.istore_n 2, 1) := by decide +kernel
theorem dX7_who_75 : decode cX7_who 75 = .ok (.iinc 3 1, 3) := by decide +kernel
theorem dX7_who_78 : decode cX7_who 78 = .ok (.goto (-32), 3) := by decide +kernel
theorem dX7_who_81 : decode cX7_who 81 = .ok (.iload_n 2, 1) := by decide +kernel
theorem dX7_who_82 : decode cX7_who 82 = .ok (.ireturn, 1) := by decide +kernel
theorem dX7_drawn_0 : decode cX7_drawn 0 = .ok (.aload_n 0, 1) := by decide +kernel
theorem dX7_drawn_1 : decode cX7_drawn 1 = .ok (.getfield 9, 3) := by decide +kernel
theorem dX7_drawn_4 : decode cX7_drawn 4 = .ok (.iconst 2, 1) := by decide +kernel
theorem dX7_drawn_5 : decode cX7_drawn 5 = .ok (.aload_n 0, 1) := by decide +kernel
theorem dX7_drawn_6 : decode cX7_drawn 6 = .ok (.getfield 9, 3) := by decide +kernel
theorem dX7_drawn_9 : decode cX7_drawn 9 = .ok (.iconst 2, 1) := by decide +kernel
theorem dX7_drawn_10 : decode cX7_drawn 10 = .ok (.iaload, 1) := by decide +kernel
theorem dX7_drawn_11 : decode cX7_drawn 11 = .ok (.ldc 239, 2) := by decide +kernel
theorem dX7_drawn_13 : decode cX7_drawn 13 = .ok (.imul, 1) := by decide +kernel
theorem dX7_drawn_14 : decode cX7_drawn 14 = .ok (.sipush 12345, 3) := by decide +kernel
theorem dX7_drawn_17 : decode cX7_drawn 17 = .ok (.iadd, 1) := by decide +kernel
theorem dX7_drawn_18 : decode cX7_drawn 18 = .ok (.iastore, 1) := by decide +kernel
theorem dX7_drawn_19 : decode cX7_drawn 19 = .ok (.aload_n 0, 1) := by decide +kernel
theorem dX7_drawn_20 : decode cX7_drawn 20 = .ok (.getfield 9, 3) := by decide +kernel
theorem dX7_drawn_23 : decode cX7_drawn 23 = .ok (.iconst 2, 1) := by decide +kernel
theorem dX7_drawn_24 : decode cX7_drawn 24 = .ok (.iaload, 1) := by decide +kernel
theorem dX7_drawn_25 : decode cX7_drawn 25 = .ok (.bipush 8, 2) := by decide +kernel
theorem dX7_drawn_27 : decode cX7_drawn 27 = .ok (.iushr, 1) := by decide +kernel
theorem dX7_drawn_28 : decode cX7_drawn 28 = .ok (.ireturn, 1) := by decide +kernel
theorem dX7_strangers_0 : decode cX7_strangers 0 = .ok (.iload_n 1, 1) := by decide +kernel
theorem dX7_strangers_1 : decode cX7_strangers 1 = .ok (.iconst 1, 1) := by decide +kernel
theorem dX7_strangers_2 : decode cX7_strangers 2 = .ok (.bipush 20, 2) := by decide +kernel
theorem dX7_strangers_4 : decode cX7_strangers 4 = .ok (.invokestatic 88, 3) := by decide +kernel
theorem dX7_strangers_7 : decode cX7_strangers 7 = .ok (.ifCond .ne 10, 3) := by decide +kernel
theorem dX7_strangers_10 : decode cX7_strangers 10 = .ok (.aload_n 0, 1) := by decide +kernel
theorem dX7_strangers_11 : decode cX7_strangers 11 = .ok (.ldc 69, 2) := by decide +kernel
theorem dX7_strangers_13 : decode cX7_strangers 13 = .ok (.invokevirtual 75, 3) := by decide +kernel
theorem dX7_strangers_16 : decode cX7_strangers 16 = .ok (.ireturn, 1) := by decide +kernel
theorem dX7_strangers_17 : decode cX7_strangers 17 = .ok (.iconst 0, 1) := by decide +kernel
theorem dX7_strangers_18 : decode cX7_strangers 18 = .ok (.istore_n 2, 1) := by decide +kernel
theorem dX7_strangers_19 : decode cX7_strangers 19 = .ok (.iload_n 2, 1) := by decide +kernel
theorem dX7_strangers_20 : decode cX7_strangers 20 = .ok (.iload_n 1, 1) := by decide +kernel
theorem dX7_strangers_21 : decode cX7_strangers 21 = .ok (.if_icmp .ge 33, 3) := by decide +kernel
theorem dX7_strangers_24 : decode cX7_strangers 24 = .ok (.aload_n 0, 1) := by decide +kernel
theorem dX7_strangers_25 : decode cX7_strangers 25 = .ok (.invokevirtual 240, 3) := by decide +kernel
theorem dX7_strangers_28 : decode cX7_strangers 28 = .ok (.bipush 12, 2) := by decide +kernel
theorem dX7_strangers_30 : decode cX7_strangers 30 = .ok (.irem, 1) := by decide +kernel
theorem dX7_strangers_31 : decode cX7_strangers 31 = .ok (.istore_n 3, 1) := by decide +kernel
theorem dX7_strangers_32 : decode cX7_strangers 32 = .ok (.aload_n 0, 1) := by decide +kernel
theorem dX7_strangers_33 : decode cX7_strangers 33 = .ok (.getfield 9, 3) := by decide +kernel
theorem dX7_strangers_36 : decode cX7_strangers 36 = .ok (.bipush 14, 2) := by decide +kernel
theorem dX7_strangers_38 : decode cX7_strangers 38 = .ok (.iload_n 3, 1) := by decide +kernel
theorem dX7_strangers_39 : decode cX7_strangers 39 = .ok (.iadd, 1) := by decide +kernel
theorem dX7_strangers_40 : decode cX7_strangers 40 = .ok (.aload_n 0, 1) := by decide +kernel
theorem dX7_strangers_41 : decode cX7_strangers 41 = .ok (.invokevirtual 240, 3) := by decide +kernel
theorem dX7_strangers_44 : decode cX7_strangers 44 = .ok (.bipush 100, 2) := by decide +kernel
theorem dX7_strangers_46 : decode cX7_strangers 46 = .ok (.irem, 1) := by decide +kernel
theorem dX7_strangers_47 : decode cX7_strangers 47 = .ok (.iastore, 1) := by decide +kernel
theorem dX7_strangers_48 : decode cX7_strangers 48 = .ok (.iinc 2 1, 3) := by decide +kernel
theorem dX7_strangers_51 : decode cX7_strangers 51 = .ok (.goto (-32), 3) := by decide +kernel
theorem dX7_strangers_54 : decode cX7_strangers 54 = .ok (.aload_n 0, 1) := by decide +kernel
theorem dX7_strangers_55 : decode cX7_strangers 55 = .ok (.invokevirtual 164, 3) := by decide +kernel
theorem dX7_strangers_58 : decode cX7_strangers 58 = .ok (.ireturn, 1) := by decide +kernel
theorem dX7_odds_0 : decode cX7_odds 0 = .ok (.aload_n 0, 1) := by decide +kernel
theorem dX7_odds_1 : decode cX7_odds 1 = .ok (.iload_n 1, 1) := by decide +kernel
theorem dX7_odds_2 : decode cX7_odds 2 = .ok (.invokevirtual 126, 3) := by decide +kernel
theorem dX7_odds_5 : decode cX7_odds 5 = .ok (.ifCond .eq 22, 3) := by decide +kernel
theorem dX7_odds_8 : decode cX7_odds 8 = .ok (.iload_n 2, 1) := by decide +kernel
theorem dX7_odds_9 : decode cX7_odds 9 = .ok (.iconst 0, 1) := by decide +kernel
theorem dX7_odds_10 : decode cX7_odds 10 = .ok (.bipush 14, 2) := by decide +kernel
theorem dX7_odds_12 : decode cX7_odds 12 = .ok (.invokestatic 88, 3) := by decide +kernel
theorem dX7_odds_15 : decode cX7_odds 15 = .ok (.ifCond .eq 12, 3) := by decide +kernel
theorem dX7_odds_18 : decode cX7_odds 18 = .ok (.iload_n 3, 1) := by decide +kernel
theorem dX7_odds_19 : decode cX7_odds 19 = .ok (.iconst 0, 1) := by decide +kernel
theorem dX7_odds_20 : decode cX7_odds 20 = .ok (.iconst 1, 1) := by decide +kernel
theorem dX7_odds_21 : decode cX7_odds 21 = .ok (.invokestatic 88, 3) := by decide +kernel
theorem dX7_odds_24 : decode cX7_odds 24 = .ok (.ifCond .ne 11, 3) := by decide +kernel
theorem dX7_odds_27 : decode cX7_odds 27 = .ok (.aload_n 0, 1) := by decide +kernel
theorem dX7_odds_28 : decode cX7_odds 28 = .ok (.ldc 69, 2) := by decide +kernel
theorem dX7_odds_30 : decode cX7_odds 30 = .ok (.invokevirtual 75, 3) := by decide +kernel
theorem dX7_odds_33 : decode cX7_odds 33 = .ok (.i2l, 1) := by decide +kernel
theorem dX7_odds_34 : decode cX7_odds 34 = .ok (.lreturn, 1) := by decide +kernel
theorem dX7_odds_35 : decode cX7_odds 35 = .ok (.bipush 12, 2) := by decide +kernel
theorem dX7_odds_37 : decode cX7_odds 37 = .ok (.aload_n 0, 1) := by decide +kernel
theorem dX7_odds_38 : decode cX7_odds 38 = .ok (.iload_n 1, 1) := by decide +kernel
theorem dX7_odds_39 : decode cX7_odds 39 = .ok (.invokevirtual 129, 3) := by decide +kernel
theorem dX7_odds_42 : decode cX7_odds 42 = .ok (.invokestatic 152, 3) := by decide +kernel
theorem dX7_odds_45 : decode cX7_odds 45 = .ok (.isub, 1) := by decide +kernel
theorem dX7_odds_46 : decode cX7_odds 46 = .ok (.istore 4, 2) := by decide +kernel
theorem dX7_odds_48 : decode cX7_odds 48 = .ok (.bipush 12, 2) := by decide +kernel
theorem dX7_odds_50 : decode cX7_odds 50 = .ok (.istore 5, 2) := by decide +kernel
theorem dX7_odds_52 : decode cX7_odds 52 = .ok (.iload 4, 2) := by decide +kernel
theorem dX7_odds_54 : decode cX7_odds 54 = .ok (.istore 6, 2) := by decide +kernel
theorem dX7_odds_56 : decode cX7_odds 56 = .ok (.iload 6, 2) := by decide +kernel
theorem dX7_odds_58 : decode cX7_odds 58 = .ok (.ifCond .eq 21, 3) := by decide +kernel
theorem dX7_odds_61 : decode cX7_odds 61 = .ok (.iload 5, 2) := by decide +kernel
theorem dX7_odds_63 : decode cX7_odds 63 = .ok (.iload 6, 2) := by decide +kernel
theorem dX7_odds_65 : decode cX7_odds 65 = .ok (.irem, 1) := by decide +kernel
theorem dX7_odds_66 : decode cX7_odds 66 = .ok (.istore 7, 2) := by decide +kernel
theorem dX7_odds_68 : decode cX7_odds 68 = .ok (.iload 6, 2) := by decide +kernel
theorem dX7_odds_70 : decode cX7_odds 70 = .ok (.istore 5, 2) := by decide +kernel
theorem dX7_odds_72 : decode cX7_odds 72 = .ok (.iload 7, 2) := by decide +kernel
theorem dX7_odds_74 : decode cX7_odds 74 = .ok (.istore 6, 2) := by decide +kernel
theorem dX7_odds_76 : decode cX7_odds 76 = .ok (.goto (-20), 3) := by decide +kernel
theorem dX7_odds_79 : decode cX7_odds 79 = .ok (.lconst 1, 1) := by decide +kernel
theorem dX7_odds_80 : decode cX7_odds 80 = .ok (.lstore 7, 2) := by decide +kernel
theorem dX7_odds_82 : decode cX7_odds 82 = .ok (.iconst 0, 1) := by decide +kernel
theorem dX7_odds_83 : decode cX7_odds 83 = .ok (.istore 9, 2) := by decide +kernel
theorem dX7_odds_85 : decode cX7_odds 85 = .ok (.iload 9, 2) := by decide +kernel
theorem dX7_odds_87 : decode cX7_odds 87 = .ok (.iload_n 2, 1) := by decide +kernel
theorem dX7_odds_88 : decode cX7_odds 88 = .ok (.if_icmp .ge 29, 3) := by decide +kernel
theorem dX7_odds_91 : decode cX7_odds 91 = .ok (.lload 7, 2) := by decide +kernel
theorem dX7_odds_93 : decode cX7_odds 93 = .ok (.iload_n 3, 1) := by decide +kernel
theorem dX7_odds_94 : decode cX7_odds 94 = .ok (.ifCond .ne 8, 3) := by decide +kernel
theorem dX7_odds_97 : decode cX7_odds 97 = .ok (.iload 4, 2) := by decide +kernel
theorem dX7_odds_99 : decode cX7_odds 99 = .ok (.goto 5, 3) := by decide +kernel
theorem dX7_odds_102 : decode cX7_odds 102 = .ok (.bipush 12, 2) := by decide +kernel
theorem dX7_odds_104 : decode cX7_odds 104 = .ok (.iload 5, 2) := by decide +kernel
theorem dX7_odds_106 : decode cX7_odds 106 = .ok (.idiv, 1) := by decide +kernel
theorem dX7_odds_107 : decode cX7_odds 107 = .ok (.i2l, 1) := by decide +kernel
theorem dX7_odds_108 : decode cX7_odds 108 = .ok (.lmul, 1) := by decide +kernel
theorem dX7_odds_109 : decode cX7_odds 109 = .ok (.lstore 7, 2) := by decide +kernel
theorem dX7_odds_111 : decode cX7_odds 111 = .ok (.iinc 9 1, 3) := by decide +kernel
theorem dX7_odds_114 : decode cX7_odds 114 = .ok (.goto (-29), 3) := by decide +kernel
theorem dX7_odds_117 : decode cX7_odds 117 = .ok (.lload 7, 2) := by decide +kernel
theorem dX7_odds_119 : decode cX7_odds 119 = .ok (.lreturn, 1) := by decide +kernel
theorem dX7_seed_0 : decode cX7_seed 0 = .ok (.aload_n 0, 1) := by decide +kernel
theorem dX7_seed_1 : decode cX7_seed 1 = .ok (.iconst 2, 1) := by decide +kernel
theorem dX7_seed_2 : decode cX7_seed 2 = .ok (.iload_n 1, 1) := by decide +kernel
theorem dX7_seed_3 : decode cX7_seed 3 = .ok (.invokevirtual 102, 3) := by decide +kernel
theorem dX7_seed_6 : decode cX7_seed 6 = .ok (.ireturn, 1) := by decide +kernel
theorem dX7_feed_0 : decode cX7_feed 0 = .ok (.iload_n 2, 1) := by decide +kernel
theorem dX7_feed_1 : decode cX7_feed 1 = .ok (.iconst 1, 1) := by decide +kernel
theorem dX7_feed_2 : decode cX7_feed 2 = .ok (.iconst 4, 1) := by decide +kernel
theorem dX7_feed_3 : decode cX7_feed 3 = .ok (.invokestatic 88, 3) := by decide +kernel
theorem dX7_feed_6 : decode cX7_feed 6 = .ok (.ifCond .ne 10, 3) := by decide +kernel
theorem dX7_feed_9 : decode cX7_feed 9 = .ok (.aload_n 0, 1) := by decide +kernel
theorem dX7_feed_10 : decode cX7_feed 10 = .ok (.ldc 69, 2) := by decide +kernel
theorem dX7_feed_12 : decode cX7_feed 12 = .ok (.invokevirtual 75, 3) := by decide +kernel
theorem dX7_feed_15 : decode cX7_feed 15 = .ok (.ireturn, 1) := by decide +kernel
theorem dX7_feed_16 : decode cX7_feed 16 = .ok (.aload_n 0, 1) := by decide +kernel
theorem dX7_feed_17 : decode cX7_feed 17 = .ok (.getfield 243, 3) := by decide +kernel
theorem dX7_feed_20 : decode cX7_feed 20 = .ok (.iload_n 2, 1) := by decide +kernel
theorem dX7_feed_21 : decode cX7_feed 21 = .ok (.iadd, 1) := by decide +kernel
theorem dX7_feed_22 : decode cX7_feed 22 = .ok (.bipush 120, 2) := by decide +kernel
theorem dX7_feed_24 : decode cX7_feed 24 = .ok (.if_icmp .le 10, 3) := by decide +kernel
theorem dX7_feed_27 : decode cX7_feed 27 = .ok (.aload_n 0, 1) := by decide +kernel
theorem dX7_feed_28 : decode cX7_feed 28 = .ok (.ldc 108, 2) := by decide +kernel
theorem dX7_feed_30 : decode cX7_feed 30 = .ok (.invokevirtual 75, 3) := by decide +kernel
theorem dX7_feed_33 : decode cX7_feed 33 = .ok (.ireturn, 1) := by decide +kernel
theorem dX7_feed_34 : decode cX7_feed 34 = .ok (.iload_n 2, 1) := by decide +kernel
theorem dX7_feed_35 : decode cX7_feed 35 = .ok (.iconst 1, 1) := by decide +kernel
theorem dX7_feed_36 : decode cX7_feed 36 = .ok (.isub, 1) := by decide +kernel
theorem dX7_feed_37 : decode cX7_feed 37 = .ok (.istore_n 3, 1) := by decide +kernel
theorem dX7_feed_38 : decode cX7_feed 38 = .ok (.iload_n 3, 1) := by decide +kernel
theorem dX7_feed_39 : decode cX7_feed 39 = .ok (.ifCond .lt 38, 3) := by decide +kernel
theorem dX7_feed_42 : decode cX7_feed 42 = .ok (.aload_n 0, 1) := by decide +kernel
theorem dX7_feed_43 : decode cX7_feed 43 = .ok (.getfield 31, 3) := by decide +kernel
theorem dX7_feed_46 : decode cX7_feed 46 = .ok (.aload_n 0, 1) := by decide +kernel
theorem dX7_feed_47 : decode cX7_feed 47 = .ok (.getfield 243, 3) := by decide +kernel
theorem dX7_feed_50 : decode cX7_feed 50 = .ok (.iload_n 1, 1) := by decide +kernel
theorem dX7_feed_51 : decode cX7_feed 51 = .ok (.bipush 8, 2) := by decide +kernel
theorem dX7_feed_53 : decode cX7_feed 53 = .ok (.iload_n 3, 1) := by decide +kernel
theorem dX7_feed_54 : decode cX7_feed 54 = .ok (.imul, 1) := by decide +kernel
theorem dX7_feed_55 : decode cX7_feed 55 = .ok (.ishr, 1) := by decide +kernel
theorem dX7_feed_56 : decode cX7_feed 56 = .ok (.sipush 255, 3) := by decide +kernel
theorem dX7_feed_59 : decode cX7_feed 59 = .ok (.iand, 1) := by decide +kernel
theorem dX7_feed_60 : decode cX7_feed 60 = .ok (.iastore, 1) := by decide +kernel
theorem dX7_feed_61 : decode cX7_feed 61 = .ok (.aload_n 0, 1) := by decide +kernel
theorem dX7_feed_62 : decode cX7_feed 62 = .ok (.dup, 1) := by decide +kernel
theorem dX7_feed_63 : decode cX7_feed 63 = .ok (.getfield 243, 3) := by decide +kernel
theorem dX7_feed_66 : decode cX7_feed 66 = .ok (.iconst 1, 1) := by decide +kernel
theorem dX7_feed_67 : decode cX7_feed 67 = .ok (.iadd, 1) := by decide +kernel
theorem dX7_feed_68 : decode cX7_feed 68 = .ok (.putfield 243, 3) := by decide +kernel
theorem dX7_feed_71 : decode cX7_feed 71 = .ok (.iinc 3 (-1), 3) := by decide +kernel
theorem dX7_feed_74 : decode cX7_feed 74 = .ok (.goto (-36), 3) := by decide +kernel
theorem dX7_feed_77 : decode cX7_feed 77 = .ok (.aload_n 0, 1) := by decide +kernel
theorem dX7_feed_78 : decode cX7_feed 78 = .ok (.getfield 243, 3) := by decide +kernel
theorem dX7_feed_81 : decode cX7_feed 81 = .ok (.ireturn, 1) := by decide +kernel
theorem dX7_wipe_0 : decode cX7_wipe 0 = .ok (.aload_n 0, 1) := by decide +kernel
theorem dX7_wipe_1 : decode cX7_wipe 1 = .ok (.getfield 243, 3) := by decide +kernel
theorem dX7_wipe_4 : decode cX7_wipe 4 = .ok (.istore_n 1, 1) := by decide +kernel
theorem dX7_wipe_5 : decode cX7_wipe 5 = .ok (.aload_n 0, 1) := by decide +kernel
theorem dX7_wipe_6 : decode cX7_wipe 6 = .ok (.iconst 0, 1) := by decide +kernel
theorem dX7_wipe_7 : decode cX7_wipe 7 = .ok (.putfield 243, 3) := by decide +kernel
theorem dX7_wipe_10 : decode cX7_wipe 10 = .ok (.iload_n 1, 1) := by decide +kernel
theorem dX7_wipe_11 : decode cX7_wipe 11 = .ok (.ireturn, 1) := by decide +kernel
theorem dX7_byteAt_0 : decode cX7_byteAt 0 = .ok (.iload_n 1, 1) := by decide +kernel
theorem dX7_byteAt_1 : decode cX7_byteAt 1 = .ok (.aload_n 0, 1) := by decide +kernel
theorem dX7_byteAt_2 : decode cX7_byteAt 2 = .ok (.getfield 243, 3) := by decide +kernel
theorem dX7_byteAt_5 : decode cX7_byteAt 5 = .ok (.if_icmp .ge 12, 3) := by decide +kernel
theorem dX7_byteAt_8 : decode cX7_byteAt 8 = .ok (.aload_n 0, 1) := by decide +kernel
theorem dX7_byteAt_9 : decode cX7_byteAt 9 = .ok (.getfield 31, 3) := by decide +kernel
theorem dX7_byteAt_12 : decode cX7_byteAt 12 = .ok (.iload_n 1, 1) := by decide +kernel
theorem dX7_byteAt_13 : decode cX7_byteAt 13 = .ok (.iaload, 1) := by decide +kernel
theorem dX7_byteAt_14 : decode cX7_byteAt 14 = .ok (.goto 4, 3) := by decide +kernel
theorem dX7_byteAt_17 : decode cX7_byteAt 17 = .ok (.iconst (-1), 1) := by decide +kernel
theorem dX7_byteAt_18 : decode cX7_byteAt 18 = .ok (.ireturn, 1) := by decide +kernel
theorem dX7_next_0 : decode cX7_next 0 = .ok (.aload_n 0, 1) := by decide +kernel
theorem dX7_next_1 : decode cX7_next 1 = .ok (.aload_n 0, 1) := by decide +kernel
theorem dX7_next_2 : decode cX7_next 2 = .ok (.getfield 246, 3) := by decide +kernel
theorem dX7_next_5 : decode cX7_next 5 = .ok (.putfield 249, 3) := by decide +kernel
theorem dX7_next_8 : decode cX7_next 8 = .ok (.aload_n 0, 1) := by decide +kernel
theorem dX7_next_9 : decode cX7_next 9 = .ok (.aload_n 0, 1) := by decide +kernel
theorem dX7_next_10 : decode cX7_next 10 = .ok (.getfield 249, 3) := by decide +kernel
theorem dX7_next_13 : decode cX7_next 13 = .ok (.invokevirtual 252, 3) := by decide +kernel
theorem dX7_next_16 : decode cX7_next 16 = .ok (.bipush 32, 2) := by decide +kernel
theorem dX7_next_18 : decode cX7_next 18 = .ok (.if_icmp .ne 16, 3) := by decide +kernel
theorem dX7_next_21 : decode cX7_next 21 = .ok (.aload_n 0, 1) := by decide +kernel
theorem dX7_next_22 : decode cX7_next 22 = .ok (.dup, 1) := by decide +kernel
theorem dX7_next_23 : decode cX7_next 23 = .ok (.getfield 249, 3) := by decide +kernel
theorem dX7_next_26 : decode cX7_next 26 = .ok (.iconst 1, 1) := by decide +kernel
theorem dX7_next_27 : decode cX7_next 27 = .ok (.iadd, 1) := by decide +kernel
theorem dX7_next_28 : decode cX7_next 28 = .ok (.putfield 249, 3) := by decide +kernel
theorem dX7_next_31 : decode cX7_next 31 = .ok (.goto (-23), 3) := by decide +kernel
theorem dX7_next_34 : decode cX7_next 34 = .ok (.aload_n 0, 1) := by decide +kernel
theorem dX7_next_35 : decode cX7_next 35 = .ok (.aload_n 0, 1) := by decide +kernel
theorem dX7_next_36 : decode cX7_next 36 = .ok (.getfield 249, 3) := by decide +kernel
theorem dX7_next_39 : decode cX7_next 39 = .ok (.invokevirtual 252, 3) := by decide +kernel
theorem dX7_next_42 : decode cX7_next 42 = .ok (.istore_n 1, 1) := by decide +kernel
theorem dX7_next_43 : decode cX7_next 43 = .ok (.aload_n 0, 1) := by decide +kernel
theorem dX7_next_44 : decode cX7_next 44 = .ok (.aload_n 0, 1) := by decide +kernel
theorem dX7_next_45 : decode cX7_next 45 = .ok (.getfield 249, 3) := by decide +kernel
theorem dX7_next_48 : decode cX7_next 48 = .ok (.putfield 246, 3) := by decide +kernel
theorem dX7_next_51 : decode cX7_next 51 = .ok (.aload_n 0, 1) := by decide +kernel
theorem dX7_next_52 : decode cX7_next 52 = .ok (.iconst 0, 1) := by decide +kernel
theorem dX7_next_53 : decode cX7_next 53 = .ok (.putfield 255, 3) := by decide +kernel
theorem dX7_next_56 : decode cX7_next 56 = .ok (.iload_n 1, 1) := by decide +kernel
theorem dX7_next_57 : decode cX7_next 57 = .ok (.ifCond .ge 11, 3) := by decide +kernel
theorem dX7_next_60 : decode cX7_next 60 = .ok (.aload_n 0, 1) := by decide +kernel
theorem dX7_next_61 : decode cX7_next 61 = .ok (.iconst 0, 1) := by decide +kernel
theorem dX7_next_62 : decode cX7_next 62 = .ok (.putfield 258, 3) := by decide +kernel
theorem dX7_next_65 : decode cX7_next 65 = .ok (.goto 141, 3) := by decide +kernel
theorem dX7_next_68 : decode cX7_next 68 = .ok (.iload_n 1, 1) := by decide +kernel
theorem dX7_next_69 : decode cX7_next 69 = .ok (.bipush 97, 2) := by decide +kernel
theorem dX7_next_71 : decode cX7_next 71 = .ok (.bipush 122, 2) := by decide +kernel
theorem dX7_next_73 : decode cX7_next 73 = .ok (.invokestatic 88, 3) := by decide +kernel
theorem dX7_next_76 : decode cX7_next 76 = .ok (.ifCond .eq 39, 3) := by decide +kernel
theorem dX7_next_79 : decode cX7_next 79 = .ok (.aload_n 0, 1) := by decide +kernel
theorem dX7_next_80 : decode cX7_next 80 = .ok (.iconst 1, 1) := by decide +kernel
theorem dX7_next_81 : decode cX7_next 81 = .ok (.putfield 258, 3) := by decide +kernel
theorem dX7_next_84 : decode cX7_next 84 = .ok (.aload_n 0, 1) := by decide +kernel
theorem dX7_next_85 : decode cX7_next 85 = .ok (.aload_n 0, 1) := by decide +kernel
theorem dX7_next_86 : decode cX7_next 86 = .ok (.getfield 246, 3) := by decide +kernel
theorem dX7_next_89 : decode cX7_next 89 = .ok (.invokevirtual 252, 3) := by decide +kernel
theorem dX7_next_92 : decode cX7_next 92 = .ok (.bipush 97, 2) := by decide +kernel
theorem dX7_next_94 : decode cX7_next 94 = .ok (.bipush 122, 2) := by decide +kernel
theorem dX7_next_96 : decode cX7_next 96 = .ok (.invokestatic 88, 3) := by decide +kernel
theorem dX7_next_99 : decode cX7_next 99 = .ok (.ifCond .eq 107, 3) := by decide +kernel
theorem dX7_next_102 : decode cX7_next 102 = .ok (.aload_n 0, 1) := by decide +kernel
theorem dX7_next_103 : decode cX7_next 103 = .ok (.dup, 1) := by decide +kernel
theorem dX7_next_104 : decode cX7_next 104 = .ok (.getfield 246, 3) := by decide +kernel
theorem dX7_next_107 : decode cX7_next 107 = .ok (.iconst 1, 1) := by decide +kernel
theorem dX7_next_108 : decode cX7_next 108 = .ok (.iadd, 1) := by decide +kernel
theorem dX7_next_109 : decode cX7_next 109 = .ok (.putfield 246, 3) := by decide +kernel
theorem dX7_next_112 : decode cX7_next 112 = .ok (.goto (-28), 3) := by decide +kernel
theorem dX7_next_115 : decode cX7_next 115 = .ok (.iload_n 1, 1) := by decide +kernel
theorem dX7_next_116 : decode cX7_next 116 = .ok (.bipush 48, 2) := by decide +kernel
theorem dX7_next_118 : decode cX7_next 118 = .ok (.bipush 57, 2) := by decide +kernel
theorem dX7_next_120 : decode cX7_next 120 = .ok (.invokestatic 88, 3) := by decide +kernel
theorem dX7_next_123 : decode cX7_next 123 = .ok (.ifCond .eq 68, 3) := by decide +kernel
theorem dX7_next_126 : decode cX7_next 126 = .ok (.aload_n 0, 1) := by decide +kernel
theorem dX7_next_127 : decode cX7_next 127 = .ok (.iconst 2, 1) := by decide +kernel
theorem dX7_next_128 : decode cX7_next 128 = .ok (.putfield 258, 3) := by decide +kernel
theorem dX7_next_131 : decode cX7_next 131 = .ok (.aload_n 0, 1) := by decide +kernel
theorem dX7_next_132 : decode cX7_next 132 = .ok (.aload_n 0, 1) := by decide +kernel
theorem dX7_next_133 : decode cX7_next 133 = .ok (.getfield 246, 3) := by decide +kernel
theorem dX7_next_136 : decode cX7_next 136 = .ok (.invokevirtual 252, 3) := by decide +kernel
theorem dX7_next_139 : decode cX7_next 139 = .ok (.bipush 48, 2) := by decide +kernel
theorem dX7_next_141 : decode cX7_next 141 = .ok (.bipush 57, 2) := by decide +kernel
theorem dX7_next_143 : decode cX7_next 143 = .ok (.invokestatic 88, 3) := by decide +kernel
theorem dX7_next_146 : decode cX7_next 146 = .ok (.ifCond .eq 60, 3) := by decide +kernel
theorem dX7_next_149 : decode cX7_next 149 = .ok (.aload_n 0, 1) := by decide +kernel
theorem dX7_next_150 : decode cX7_next 150 = .ok (.sipush 1000, 3) := by decide +kernel
theorem dX7_next_153 : decode cX7_next 153 = .ok (.bipush 10, 2) := by decide +kernel
theorem dX7_next_155 : decode cX7_next 155 = .ok (.aload_n 0, 1) := by decide +kernel
theorem dX7_next_156 : decode cX7_next 156 = .ok (.getfield 255, 3) := by decide +kernel
theorem dX7_next_159 : decode cX7_next 159 = .ok (.imul, 1) := by decide +kernel
theorem dX7_next_160 : decode cX7_next 160 = .ok (.aload_n 0, 1) := by decide +kernel
theorem dX7_next_161 : decode cX7_next 161 = .ok (.aload_n 0, 1) := by decide +kernel
theorem dX7_next_162 : decode cX7_next 162 = .ok (.getfield 246, 3) := by decide +kernel
theorem dX7_next_165 : decode cX7_next 165 = .ok (.invokevirtual 252, 3) := by decide +kernel
theorem dX7_next_168 : decode cX7_next 168 = .ok (.iadd, 1) := by decide +kernel
theorem dX7_next_169 : decode cX7_next 169 = .ok (.bipush 48, 2) := by decide +kernel
theorem dX7_next_171 : decode cX7_next 171 = .ok (.isub, 1) := by decide +kernel
theorem dX7_next_172 : decode cX7_next 172 = .ok (.invokestatic 79, 3) := by decide +kernel
theorem dX7_next_175 : decode cX7_next 175 = .ok (.putfield 255, 3) := by decide +kernel
theorem dX7_next_178 : decode cX7_next 178 = .ok (.aload_n 0, 1) := by decide +kernel
theorem dX7_next_179 : decode cX7_next 179 = .ok (.dup, 1) := by decide +kernel
theorem dX7_next_180 : decode cX7_next 180 = .ok (.getfield 246, 3) := by decide +kernel
theorem dX7_next_183 : decode cX7_next 183 = .ok (.iconst 1, 1) := by decide +kernel
theorem dX7_next_184 : decode cX7_next 184 = .ok (.iadd, 1) := by decide +kernel
theorem dX7_next_185 : decode cX7_next 185 = .ok (.putfield 246, 3) := by decide +kernel
theorem dX7_next_188 : decode cX7_next 188 = .ok (.goto (-57), 3) := by decide +kernel
theorem dX7_next_191 : decode cX7_next 191 = .ok (.aload_n 0, 1) := by decide +kernel
theorem dX7_next_192 : decode cX7_next 192 = .ok (.iconst 3, 1) := by decide +kernel
theorem dX7_next_193 : decode cX7_next 193 = .ok (.putfield 258, 3) := by decide +kernel
theorem dX7_next_196 : decode cX7_next 196 = .ok (.aload_n 0, 1) := by decide +kernel
theorem dX7_next_197 : decode cX7_next 197 = .ok (.dup, 1) := by decide +kernel
theorem dX7_next_198 : decode cX7_next 198 = .ok (.getfield 246, 3) := by decide +kernel
theorem dX7_next_201 : decode cX7_next 201 = .ok (.iconst 1, 1) := by decide +kernel
theorem dX7_next_202 : decode cX7_next 202 = .ok (.iadd, 1) := by decide +kernel
theorem dX7_next_203 : decode cX7_next 203 = .ok (.putfield 246, 3) := by decide +kernel
theorem dX7_next_206 : decode cX7_next 206 = .ok (.return_, 1) := by decide +kernel
theorem dX7_isWord_0 : decode cX7_isWord 0 = .ok (.aload_n 0, 1) := by decide +kernel
theorem dX7_isWord_1 : decode cX7_isWord 1 = .ok (.getfield 258, 3) := by decide +kernel
theorem dX7_isWord_4 : decode cX7_isWord 4 = .ok (.iconst 1, 1) := by decide +kernel
theorem dX7_isWord_5 : decode cX7_isWord 5 = .ok (.if_icmp .ne 23, 3) := by decide +kernel
theorem dX7_isWord_8 : decode cX7_isWord 8 = .ok (.aload_n 0, 1) := by decide +kernel
theorem dX7_isWord_9 : decode cX7_isWord 9 = .ok (.getfield 246, 3) := by decide +kernel
theorem dX7_isWord_12 : decode cX7_isWord 12 = .ok (.aload_n 0, 1) := by decide +kernel
theorem dX7_isWord_13 : decode cX7_isWord 13 = .ok (.getfield 249, 3) := by decide +kernel
theorem dX7_isWord_16 : decode cX7_isWord 16 = .ok (.isub, 1) := by decide +kernel
theorem dX7_isWord_17 : decode cX7_isWord 17 = .ok (.aload_n 1, 1) := by decide +kernel
theorem dX7_isWord_18 : decode cX7_isWord 18 = .ok (.invokevirtual 261, 3) := by decide +kernel
theorem dX7_isWord_21 : decode cX7_isWord 21 = .ok (.if_icmp .ne 7, 3) := by decide +kernel
theorem dX7_isWord_24 : decode cX7_isWord 24 = .ok (.iconst 1, 1) := by decide +kernel
theorem dX7_isWord_25 : decode cX7_isWord 25 = .ok (.goto 4, 3) := by decide +kernel
theorem dX7_isWord_28 : decode cX7_isWord 28 = .ok (.iconst 0, 1) := by decide +kernel
theorem dX7_isWord_29 : decode cX7_isWord 29 = .ok (.istore_n 2, 1) := by decide +kernel
theorem dX7_isWord_30 : decode cX7_isWord 30 = .ok (.iconst 0, 1) := by decide +kernel
theorem dX7_isWord_31 : decode cX7_isWord 31 = .ok (.istore_n 3, 1) := by decide +kernel
theorem dX7_isWord_32 : decode cX7_isWord 32 = .ok (.iload_n 3, 1) := by decide +kernel
theorem dX7_isWord_33 : decode cX7_isWord 33 = .ok (.aload_n 1, 1) := by decide +kernel
theorem dX7_isWord_34 : decode cX7_isWord 34 = .ok (.invokevirtual 261, 3) := by decide +kernel
theorem dX7_isWord_37 : decode cX7_isWord 37 = .ok (.if_icmp .ge 38, 3) := by decide +kernel
theorem dX7_isWord_40 : decode cX7_isWord 40 = .ok (.iload_n 2, 1) := by decide +kernel
theorem dX7_isWord_41 : decode cX7_isWord 41 = .ok (.ifCond .eq 34, 3) := by decide +kernel
theorem dX7_isWord_44 : decode cX7_isWord 44 = .ok (.aload_n 0, 1) := by decide +kernel
theorem dX7_isWord_45 : decode cX7_isWord 45 = .ok (.getfield 31, 3) := by decide +kernel
theorem dX7_isWord_48 : decode cX7_isWord 48 = .ok (.aload_n 0, 1) := by decide +kernel
theorem dX7_isWord_49 : decode cX7_isWord 49 = .ok (.getfield 249, 3) := by decide +kernel
theorem dX7_isWord_52 : decode cX7_isWord 52 = .ok (.iload_n 3, 1) := by decide +kernel
theorem dX7_isWord_53 : decode cX7_isWord 53 = .ok (.iadd, 1) := by decide +kernel
theorem dX7_isWord_54 : decode cX7_isWord 54 = .ok (.iaload, 1) := by decide +kernel
theorem dX7_isWord_55 : decode cX7_isWord 55 = .ok (.aload_n 1, 1) := by decide +kernel
theorem dX7_isWord_56 : decode cX7_isWord 56 = .ok (.iload_n 3, 1) := by decide +kernel
theorem dX7_isWord_57 : decode cX7_isWord 57 = .ok (.invokevirtual 264, 3) := by decide +kernel
theorem dX7_isWord_60 : decode cX7_isWord 60 = .ok (.if_icmp .ne 7, 3) := by decide +kernel
theorem dX7_isWord_63 : decode cX7_isWord 63 = .ok (.iconst 1, 1) := by decide +kernel
theorem dX7_isWord_64 : decode cX7_isWord 64 = .ok (.goto 4, 3) := by decide +kernel
theorem dX7_isWord_67 : decode cX7_isWord 67 = .ok (.iconst 0, 1) := by decide +kernel
theorem dX7_isWord_68 : decode cX7_isWord 68 = .ok (.istore_n 2, 1) := by decide +kernel
theorem dX7_isWord_69 : decode cX7_isWord 69 = .ok (.iinc 3 1, 3) := by decide +kernel
theorem dX7_isWord_72 : decode cX7_isWord 72 = .ok (.goto (-40), 3) := by decide +kernel
theorem dX7_isWord_75 : decode cX7_isWord 75 = .ok (.iload_n 2, 1) := by decide +kernel
theorem dX7_isWord_76 : decode cX7_isWord 76 = .ok (.ireturn, 1) := by decide +kernel
theorem dX7_must_0 : decode cX7_must 0 = .ok (.aload_n 0, 1) := by decide +kernel
theorem dX7_must_1 : decode cX7_must 1 = .ok (.aload_n 0, 1) := by decide +kernel
theorem dX7_must_2 : decode cX7_must 2 = .ok (.getfield 268, 3) := by decide +kernel
theorem dX7_must_5 : decode cX7_must 5 = .ok (.ifCond .ne 7, 3) := by decide +kernel
theorem dX7_must_8 : decode cX7_must 8 = .ok (.iload_n 1, 1) := by decide +kernel
theorem dX7_must_9 : decode cX7_must 9 = .ok (.ifCond .ne 7, 3) := by decide +kernel
theorem dX7_must_12 : decode cX7_must 12 = .ok (.iconst 1, 1) := by decide +kernel
theorem dX7_must_13 : decode cX7_must 13 = .ok (.goto 4, 3) := by decide +kernel
theorem dX7_must_16 : decode cX7_must 16 = .ok (.iconst 0, 1) := by decide +kernel
theorem dX7_must_17 : decode cX7_must 17 = .ok (.putfield 268, 3) := by decide +kernel
theorem dX7_must_20 : decode cX7_must 20 = .ok (.aload_n 0, 1) := by decide +kernel
theorem dX7_must_21 : decode cX7_must 21 = .ok (.getfield 268, 3) := by decide +kernel
theorem dX7_must_24 : decode cX7_must 24 = .ok (.ifCond .ne 7, 3) := by decide +kernel
theorem dX7_must_27 : decode cX7_must 27 = .ok (.aload_n 0, 1) := by decide +kernel
theorem dX7_must_28 : decode cX7_must 28 = .ok (.invokevirtual 272, 3) := by decide +kernel
theorem dX7_must_31 : decode cX7_must 31 = .ok (.return_, 1) := by decide +kernel
theorem dX7_number_0 : decode cX7_number 0 = .ok (.aload_n 0, 1) := by decide +kernel
theorem dX7_number_1 : decode cX7_number 1 = .ok (.getfield 255, 3) := by decide +kernel
theorem dX7_number_4 : decode cX7_number 4 = .ok (.istore_n 3, 1) := by decide +kernel
theorem dX7_number_5 : decode cX7_number 5 = .ok (.aload_n 0, 1) := by decide +kernel
theorem dX7_number_6 : decode cX7_number 6 = .ok (.aload_n 0, 1) := by decide +kernel
theorem dX7_number_7 : decode cX7_number 7 = .ok (.getfield 258, 3) := by decide +kernel
theorem dX7_number_10 : decode cX7_number 10 = .ok (.iconst 2, 1) := by decide +kernel
theorem dX7_number_11 : decode cX7_number 11 = .ok (.if_icmp .ne 16, 3) := by decide +kernel
theorem dX7_number_14 : decode cX7_number 14 = .ok (.iload_n 3, 1) := by decide +kernel
theorem dX7_number_15 : decode cX7_number 15 = .ok (.iload_n 1, 1) := by decide +kernel
theorem dX7_number_16 : decode cX7_number 16 = .ok (.iload_n 2, 1) := by decide +kernel
theorem dX7_number_17 : decode cX7_number 17 = .ok (.invokestatic 88, 3) := by decide +kernel
theorem dX7_number_20 : decode cX7_number 20 = .ok (.ifCond .eq 7, 3) := by decide +kernel
theorem dX7_number_23 : decode cX7_number 23 = .ok (.iconst 1, 1) := by decide +kernel
theorem dX7_number_24 : decode cX7_number 24 = .ok (.goto 4, 3) := by decide +kernel
theorem dX7_number_27 : decode cX7_number 27 = .ok (.iconst 0, 1) := by decide +kernel
theorem dX7_number_28 : decode cX7_number 28 = .ok (.invokevirtual 275, 3) := by decide +kernel
theorem dX7_number_31 : decode cX7_number 31 = .ok (.iload_n 3, 1) := by decide +kernel
theorem dX7_number_32 : decode cX7_number 32 = .ok (.ireturn, 1) := by decide +kernel
theorem dX7_addItem_0 : decode cX7_addItem 0 = .ok (.iconst 3, 1) := by decide +kernel
theorem dX7_addItem_1 : decode cX7_addItem 1 = .ok (.aload_n 0, 1) := by decide +kernel
theorem dX7_addItem_2 : decode cX7_addItem 2 = .ok (.getfield 279, 3) := by decide +kernel
theorem dX7_addItem_5 : decode cX7_addItem 5 = .ok (.imul, 1) := by decide +kernel
theorem dX7_addItem_6 : decode cX7_addItem 6 = .ok (.istore 4, 2) := by decide +kernel
theorem dX7_addItem_8 : decode cX7_addItem 8 = .ok (.aload_n 0, 1) := by decide +kernel
theorem dX7_addItem_9 : decode cX7_addItem 9 = .ok (.getfield 54, 3) := by decide +kernel
theorem dX7_addItem_12 : decode cX7_addItem 12 = .ok (.iload 4, 2) := by decide +kernel
theorem dX7_addItem_14 : decode cX7_addItem 14 = .ok (.iload_n 1, 1) := by decide +kernel
theorem dX7_addItem_15 : decode cX7_addItem 15 = .ok (.iastore, 1) := by decide +kernel
theorem dX7_addItem_16 : decode cX7_addItem 16 = .ok (.aload_n 0, 1) := by decide +kernel
theorem dX7_addItem_17 : decode cX7_addItem 17 = .ok (.getfield 54, 3) := by decide +kernel
theorem dX7_addItem_20 : decode cX7_addItem 20 = .ok (.iload 4, 2) := by decide +kernel
theorem dX7_addItem_22 : decode cX7_addItem 22 = .ok (.iconst 1, 1) := by decide +kernel
theorem dX7_addItem_23 : decode cX7_addItem 23 = .ok (.iadd, 1) := by decide +kernel
theorem dX7_addItem_24 : decode cX7_addItem 24 = .ok (.iload_n 2, 1) := by decide +kernel
theorem dX7_addItem_25 : decode cX7_addItem 25 = .ok (.iastore, 1) := by decide +kernel
theorem dX7_addItem_26 : decode cX7_addItem 26 = .ok (.aload_n 0, 1) := by decide +kernel
theorem dX7_addItem_27 : decode cX7_addItem 27 = .ok (.getfield 54, 3) := by decide +kernel
theorem dX7_addItem_30 : decode cX7_addItem 30 = .ok (.iload 4, 2) := by decide +kernel
theorem dX7_addItem_32 : decode cX7_addItem 32 = .ok (.iconst 2, 1) := by decide +kernel
theorem dX7_addItem_33 : decode cX7_addItem 33 = .ok (.iadd, 1) := by decide +kernel
theorem dX7_addItem_34 : decode cX7_addItem 34 = .ok (.iload_n 3, 1) := by decide +kernel
theorem dX7_addItem_35 : decode cX7_addItem 35 = .ok (.iastore, 1) := by decide +kernel
theorem dX7_addItem_36 : decode cX7_addItem 36 = .ok (.aload_n 0, 1) := by decide +kernel
theorem dX7_addItem_37 : decode cX7_addItem 37 = .ok (.dup, 1) := by decide +kernel
theorem dX7_addItem_38 : decode cX7_addItem 38 = .ok (.getfield 279, 3) := by decide +kernel
theorem dX7_addItem_41 : decode cX7_addItem 41 = .ok (.iconst 1, 1) := by decide +kernel
theorem dX7_addItem_42 : decode cX7_addItem 42 = .ok (.iadd, 1) := by decide +kernel
theorem dX7_addItem_43 : decode cX7_addItem 43 = .ok (.putfield 279, 3) := by decide +kernel
theorem dX7_addItem_46 : decode cX7_addItem 46 = .ok (.return_, 1) := by decide +kernel
theorem dX7_kindTold_0 : decode cX7_kindTold 0 = .ok (.iconst (-1), 1) := by decide +kernel
theorem dX7_kindTold_1 : decode cX7_kindTold 1 = .ok (.istore_n 1, 1) := by decide +kernel
theorem dX7_kindTold_2 : decode cX7_kindTold 2 = .ok (.iconst 0, 1) := by decide +kernel
theorem dX7_kindTold_3 : decode cX7_kindTold 3 = .ok (.istore_n 2, 1) := by decide +kernel
theorem dX7_kindTold_4 : decode cX7_kindTold 4 = .ok (.iload_n 2, 1) := by decide +kernel
theorem dX7_kindTold_5 : decode cX7_kindTold 5 = .ok (.aload_n 0, 1) := by decide +kernel
theorem dX7_kindTold_6 : decode cX7_kindTold 6 = .ok (.getfield 50, 3) := by decide +kernel
theorem dX7_kindTold_9 : decode cX7_kindTold 9 = .ok (.arraylength, 1) := by decide +kernel
theorem dX7_kindTold_10 : decode cX7_kindTold 10 = .ok (.if_icmp .ge 28, 3) := by decide +kernel
theorem dX7_kindTold_13 : decode cX7_kindTold 13 = .ok (.aload_n 0, 1) := by decide +kernel
theorem dX7_kindTold_14 : decode cX7_kindTold 14 = .ok (.aload_n 0, 1) := by decide +kernel
theorem dX7_kindTold_15 : decode cX7_kindTold 15 = .ok (.getfield 50, 3) := by decide +kernel
theorem dX7_kindTold_18 : decode cX7_kindTold 18 = .ok (.iload_n 2, 1) := by decide +kernel
theorem dX7_kindTold_19 : decode cX7_kindTold 19 = .ok (.aaload, 1) := by decide +kernel
theorem dX7_kindTold_20 : decode cX7_kindTold 20 = .ok (.invokevirtual 282, 3) := by decide +kernel
theorem dX7_kindTold_23 : decode cX7_kindTold 23 = .ok (.ifCond .eq 7, 3) := by decide +kernel
theorem dX7_kindTold_26 : decode cX7_kindTold 26 = .ok (.iload_n 2, 1) := by decide +kernel
theorem dX7_kindTold_27 : decode cX7_kindTold 27 = .ok (.goto 4, 3) := by decide +kernel
theorem dX7_kindTold_30 : decode cX7_kindTold 30 = .ok (.iload_n 1, 1) := by decide +kernel
theorem dX7_kindTold_31 : decode cX7_kindTold 31 = .ok (.istore_n 1, 1) := by decide +kernel
theorem dX7_kindTold_32 : decode cX7_kindTold 32 = .ok (.iinc 2 1, 3) := by decide +kernel
theorem dX7_kindTold_35 : decode cX7_kindTold 35 = .ok (.goto (-31), 3) := by decide +kernel
theorem dX7_kindTold_38 : decode cX7_kindTold 38 = .ok (.iload_n 1, 1) := by decide +kernel
theorem dX7_kindTold_39 : decode cX7_kindTold 39 = .ok (.ireturn, 1) := by decide +kernel
theorem dX7_afterWord_0 : decode cX7_afterWord 0 = .ok (.aload_n 0, 1) := by decide +kernel
theorem dX7_afterWord_1 : decode cX7_afterWord 1 = .ok (.getfield 268, 3) := by decide +kernel
theorem dX7_afterWord_4 : decode cX7_afterWord 4 = .ok (.ifCond .ne 11, 3) := by decide +kernel
theorem dX7_afterWord_7 : decode cX7_afterWord 7 = .ok (.aload_n 0, 1) := by decide +kernel
theorem dX7_afterWord_8 : decode cX7_afterWord 8 = .ok (.aload_n 1, 1) := by decide +kernel
theorem dX7_afterWord_9 : decode cX7_afterWord 9 = .ok (.invokevirtual 282, 3) := by decide +kernel
theorem dX7_afterWord_12 : decode cX7_afterWord 12 = .ok (.ifCond .ne 5, 3) := by decide +kernel
theorem dX7_afterWord_15 : decode cX7_afterWord 15 = .ok (.iload_n 2, 1) := by decide +kernel
theorem dX7_afterWord_16 : decode cX7_afterWord 16 = .ok (.ireturn, 1) := by decide +kernel
theorem dX7_afterWord_17 : decode cX7_afterWord 17 = .ok (.aload_n 0, 1) := by decide +kernel
theorem dX7_afterWord_18 : decode cX7_afterWord 18 = .ok (.iconst 1, 1) := by decide +kernel
theorem dX7_afterWord_19 : decode cX7_afterWord 19 = .ok (.invokevirtual 275, 3) := by decide +kernel
theorem dX7_afterWord_22 : decode cX7_afterWord 22 = .ok (.aload_n 0, 1) := by decide +kernel
theorem dX7_afterWord_23 : decode cX7_afterWord 23 = .ok (.iconst 0, 1) := by decide +kernel
theorem dX7_afterWord_24 : decode cX7_afterWord 24 = .ok (.bipush 99, 2) := by decide +kernel
theorem dX7_afterWord_26 : decode cX7_afterWord 26 = .ok (.invokevirtual 286, 3) := by decide +kernel
theorem dX7_afterWord_29 : decode cX7_afterWord 29 = .ok (.ireturn, 1) := by decide +kernel
theorem dX7_readItem_0 : decode cX7_readItem 0 = .ok (.aload_n 0, 1) := by decide +kernel
theorem dX7_readItem_1 : decode cX7_readItem 1 = .ok (.invokevirtual 289, 3) := by decide +kernel
theorem dX7_readItem_4 : decode cX7_readItem 4 = .ok (.istore_n 1, 1) := by decide +kernel
theorem dX7_readItem_5 : decode cX7_readItem 5 = .ok (.iload_n 1, 1) := by decide +kernel
theorem dX7_readItem_6 : decode cX7_readItem 6 = .ok (.ifCond .lt 59, 3) := by decide +kernel
theorem dX7_readItem_9 : decode cX7_readItem 9 = .ok (.aload_n 0, 1) := by decide +kernel
theorem dX7_readItem_10 : decode cX7_readItem 10 = .ok (.aload_n 0, 1) := by decide +kernel
theorem dX7_readItem_11 : decode cX7_readItem 11 = .ok (.getfield 292, 3) := by decide +kernel
theorem dX7_readItem_14 : decode cX7_readItem 14 = .ok (.bipush 6, 2) := by decide +kernel
theorem dX7_readItem_16 : decode cX7_readItem 16 = .ok (.if_icmp .ge 7, 3) := by decide +kernel
theorem dX7_readItem_19 : decode cX7_readItem 19 = .ok (.iconst 1, 1) := by decide +kernel
theorem dX7_readItem_20 : decode cX7_readItem 20 = .ok (.goto 4, 3) := by decide +kernel
theorem dX7_readItem_23 : decode cX7_readItem 23 = .ok (.iconst 0, 1) := by decide +kernel
theorem dX7_readItem_24 : decode cX7_readItem 24 = .ok (.invokevirtual 275, 3) := by decide +kernel
theorem dX7_readItem_27 : decode cX7_readItem 27 = .ok (.aload_n 0, 1) := by decide +kernel
theorem dX7_readItem_28 : decode cX7_readItem 28 = .ok (.dup, 1) := by decide +kernel
theorem dX7_readItem_29 : decode cX7_readItem 29 = .ok (.getfield 292, 3) := by decide +kernel
theorem dX7_readItem_32 : decode cX7_readItem 32 = .ok (.iconst 1, 1) := by decide +kernel
theorem dX7_readItem_33 : decode cX7_readItem 33 = .ok (.iadd, 1) := by decide +kernel
theorem dX7_readItem_34 : decode cX7_readItem 34 = .ok (.putfield 292, 3) := by decide +kernel
theorem dX7_readItem_37 : decode cX7_readItem 37 = .ok (.aload_n 0, 1) := by decide +kernel
theorem dX7_readItem_38 : decode cX7_readItem 38 = .ok (.ldc_w 295, 3) := by decide +kernel
theorem dX7_readItem_41 : decode cX7_readItem 41 = .ok (.bipush 50, 2) := by decide +kernel
theorem dX7_readItem_43 : decode cX7_readItem 43 = .ok (.invokevirtual 297, 3) := by decide +kernel
theorem dX7_readItem_46 : decode cX7_readItem 46 = .ok (.istore_n 2, 1) := by decide +kernel
theorem dX7_readItem_47 : decode cX7_readItem 47 = .ok (.aload_n 0, 1) := by decide +kernel
theorem dX7_readItem_48 : decode cX7_readItem 48 = .ok (.iload_n 1, 1) := by decide +kernel
theorem dX7_readItem_49 : decode cX7_readItem 49 = .ok (.iload_n 2, 1) := by decide +kernel
theorem dX7_readItem_50 : decode cX7_readItem 50 = .ok (.aload_n 0, 1) := by decide +kernel
theorem dX7_readItem_51 : decode cX7_readItem 51 = .ok (.ldc_w 301, 3) := by decide +kernel
theorem dX7_readItem_54 : decode cX7_readItem 54 = .ok (.bipush 30, 2) := by decide +kernel
theorem dX7_readItem_56 : decode cX7_readItem 56 = .ok (.invokevirtual 297, 3) := by decide +kernel
theorem dX7_readItem_59 : decode cX7_readItem 59 = .ok (.invokevirtual 303, 3) := by decide +kernel
theorem dX7_readItem_62 : decode cX7_readItem 62 = .ok (.goto 129, 3) := by decide +kernel
theorem dX7_readItem_65 : decode cX7_readItem 65 = .ok (.aload_n 0, 1) := by decide +kernel
theorem dX7_readItem_66 : decode cX7_readItem 66 = .ok (.ldc_w 307, 3) := by decide +kernel
theorem dX7_readItem_69 : decode cX7_readItem 69 = .ok (.invokevirtual 282, 3) := by decide +kernel
theorem dX7_readItem_72 : decode cX7_readItem 72 = .ok (.ifCond .eq 33, 3) := by decide +kernel
theorem dX7_readItem_75 : decode cX7_readItem 75 = .ok (.aload_n 0, 1) := by decide +kernel
theorem dX7_readItem_76 : decode cX7_readItem 76 = .ok (.iconst 1, 1) := by decide +kernel
theorem dX7_readItem_77 : decode cX7_readItem 77 = .ok (.invokevirtual 275, 3) := by decide +kernel
theorem dX7_readItem_80 : decode cX7_readItem 80 = .ok (.aload_n 0, 1) := by decide +kernel
theorem dX7_readItem_81 : decode cX7_readItem 81 = .ok (.iconst 0, 1) := by decide +kernel
theorem dX7_readItem_82 : decode cX7_readItem 82 = .ok (.bipush 11, 2) := by decide +kernel
theorem dX7_readItem_84 : decode cX7_readItem 84 = .ok (.invokevirtual 286, 3) := by decide +kernel
theorem dX7_readItem_87 : decode cX7_readItem 87 = .ok (.istore_n 2, 1) := by decide +kernel
theorem dX7_readItem_88 : decode cX7_readItem 88 = .ok (.aload_n 0, 1) := by decide +kernel
theorem dX7_readItem_89 : decode cX7_readItem 89 = .ok (.bipush 10, 2) := by decide +kernel
theorem dX7_readItem_91 : decode cX7_readItem 91 = .ok (.iload_n 2, 1) := by decide +kernel
theorem dX7_readItem_92 : decode cX7_readItem 92 = .ok (.aload_n 0, 1) := by decide +kernel
theorem dX7_readItem_93 : decode cX7_readItem 93 = .ok (.iconst 0, 1) := by decide +kernel
theorem dX7_readItem_94 : decode cX7_readItem 94 = .ok (.bipush 99, 2) := by decide +kernel
theorem dX7_readItem_96 : decode cX7_readItem 96 = .ok (.invokevirtual 286, 3) := by decide +kernel
theorem dX7_readItem_99 : decode cX7_readItem 99 = .ok (.invokevirtual 303, 3) := by decide +kernel
theorem dX7_readItem_102 : decode cX7_readItem 102 = .ok (.goto 89, 3) := by decide +kernel
theorem dX7_readItem_105 : decode cX7_readItem 105 = .ok (.aload_n 0, 1) := by decide +kernel
theorem dX7_readItem_106 : decode cX7_readItem 106 = .ok (.ldc_w 309, 3) := by decide +kernel
theorem dX7_readItem_109 : decode cX7_readItem 109 = .ok (.invokevirtual 282, 3) := by decide +kernel
theorem dX7_readItem_112 : decode cX7_readItem 112 = .ok (.ifCond .eq 26, 3) := by decide +kernel
theorem dX7_readItem_115 : decode cX7_readItem 115 = .ok (.aload_n 0, 1) := by decide +kernel
theorem dX7_readItem_116 : decode cX7_readItem 116 = .ok (.iconst 1, 1) := by decide +kernel
theorem dX7_readItem_117 : decode cX7_readItem 117 = .ok (.invokevirtual 275, 3) := by decide +kernel
theorem dX7_readItem_120 : decode cX7_readItem 120 = .ok (.aload_n 0, 1) := by decide +kernel
theorem dX7_readItem_121 : decode cX7_readItem 121 = .ok (.bipush 10, 2) := by decide +kernel
theorem dX7_readItem_123 : decode cX7_readItem 123 = .ok (.aload_n 0, 1) := by decide +kernel
theorem dX7_readItem_124 : decode cX7_readItem 124 = .ok (.iconst 0, 1) := by decide +kernel
theorem dX7_readItem_125 : decode cX7_readItem 125 = .ok (.bipush 11, 2) := by decide +kernel
theorem dX7_readItem_127 : decode cX7_readItem 127 = .ok (.invokevirtual 286, 3) := by decide +kernel
theorem dX7_readItem_130 : decode cX7_readItem 130 = .ok (.bipush 50, 2) := by decide +kernel
theorem dX7_readItem_132 : decode cX7_readItem 132 = .ok (.invokevirtual 303, 3) := by decide +kernel
theorem dX7_readItem_135 : decode cX7_readItem 135 = .ok (.goto 56, 3) := by decide +kernel
theorem dX7_readItem_138 : decode cX7_readItem 138 = .ok (.aload_n 0, 1) := by decide +kernel
theorem dX7_readItem_139 : decode cX7_readItem 139 = .ok (.ldc_w 311, 3) := by decide +kernel
theorem dX7_readItem_142 : decode cX7_readItem 142 = .ok (.invokevirtual 282, 3) := by decide +kernel
theorem dX7_readItem_145 : decode cX7_readItem 145 = .ok (.ifCond .eq 7, 3) := by decide +kernel
theorem dX7_readItem_148 : decode cX7_readItem 148 = .ok (.iconst 1, 1) := by decide +kernel
theorem dX7_readItem_149 : decode cX7_readItem 149 = .ok (.goto 4, 3) := by decide +kernel
theorem dX7_readItem_152 : decode cX7_readItem 152 = .ok (.iconst 0, 1) := by decide +kernel
theorem dX7_readItem_153 : decode cX7_readItem 153 = .ok (.istore_n 2, 1) := by decide +kernel
theorem dX7_readItem_154 : decode cX7_readItem 154 = .ok (.aload_n 0, 1) := by decide +kernel
theorem dX7_readItem_155 : decode cX7_readItem 155 = .ok (.aload_n 0, 1) := by decide +kernel
theorem dX7_readItem_156 : decode cX7_readItem 156 = .ok (.ldc_w 311, 3) := by decide +kernel
theorem dX7_readItem_159 : decode cX7_readItem 159 = .ok (.invokevirtual 282, 3) := by decide +kernel
theorem dX7_readItem_162 : decode cX7_readItem 162 = .ok (.ifCond .ne 13, 3) := by decide +kernel
theorem dX7_readItem_165 : decode cX7_readItem 165 = .ok (.aload_n 0, 1) := by decide +kernel
theorem dX7_readItem_166 : decode cX7_readItem 166 = .ok (.ldc_w 313, 3) := by decide +kernel
theorem dX7_readItem_169 : decode cX7_readItem 169 = .ok (.invokevirtual 282, 3) := by decide +kernel
theorem dX7_readItem_172 : decode cX7_readItem 172 = .ok (.ifCond .eq 7, 3) := by decide +kernel
theorem dX7_readItem_175 : decode cX7_readItem 175 = .ok (.iconst 1, 1) := by decide +kernel
theorem dX7_readItem_176 : decode cX7_readItem 176 = .ok (.goto 4, 3) := by decide +kernel
theorem dX7_readItem_179 : decode cX7_readItem 179 = .ok (.iconst 0, 1) := by decide +kernel
theorem dX7_readItem_180 : decode cX7_readItem 180 = .ok (.invokevirtual 275, 3) := by decide +kernel
theorem dX7_readItem_183 : decode cX7_readItem 183 = .ok (.aload_n 0, 1) := by decide +kernel
theorem dX7_readItem_184 : decode cX7_readItem 184 = .ok (.bipush 11, 2) := by decide +kernel
theorem dX7_readItem_186 : decode cX7_readItem 186 = .ok (.iload_n 2, 1) := by decide +kernel
theorem dX7_readItem_187 : decode cX7_readItem 187 = .ok (.iconst 0, 1) := by decide +kernel
theorem dX7_readItem_188 : decode cX7_readItem 188 = .ok (.invokevirtual 303, 3) := by decide +kernel
theorem dX7_readItem_191 : decode cX7_readItem 191 = .ok (.return_, 1) := by decide +kernel
theorem dX7_isToldSo_0 : decode cX7_isToldSo 0 = .ok (.aload_n 0, 1) := by decide +kernel
theorem dX7_isToldSo_1 : decode cX7_isToldSo 1 = .ok (.getfield 54, 3) := by decide +kernel
theorem dX7_isToldSo_4 : decode cX7_isToldSo 4 = .ok (.iload_n 1, 1) := by decide +kernel
theorem dX7_isToldSo_5 : decode cX7_isToldSo 5 = .ok (.iconst 1, 1) := by decide +kernel
theorem dX7_isToldSo_6 : decode cX7_isToldSo 6 = .ok (.iadd, 1) := by decide +kernel
theorem dX7_isToldSo_7 : decode cX7_isToldSo 7 = .ok (.iaload, 1) := by decide +kernel
theorem dX7_isToldSo_8 : decode cX7_isToldSo 8 = .ok (.istore_n 2, 1) := by decide +kernel
theorem dX7_isToldSo_9 : decode cX7_isToldSo 9 = .ok (.aload_n 0, 1) := by decide +kernel
theorem dX7_isToldSo_10 : decode cX7_isToldSo 10 = .ok (.getfield 54, 3) := by decide +kernel
theorem dX7_isToldSo_13 : decode cX7_isToldSo 13 = .ok (.iload_n 1, 1) := by decide +kernel
theorem dX7_isToldSo_14 : decode cX7_isToldSo 14 = .ok (.iconst 2, 1) := by decide +kernel
theorem dX7_isToldSo_15 : decode cX7_isToldSo 15 = .ok (.iadd, 1) := by decide +kernel
theorem dX7_isToldSo_16 : decode cX7_isToldSo 16 = .ok (.iaload, 1) := by decide +kernel
theorem dX7_isToldSo_17 : decode cX7_isToldSo 17 = .ok (.istore_n 3, 1) := by decide +kernel
theorem dX7_isToldSo_18 : decode cX7_isToldSo 18 = .ok (.aload_n 0, 1) := by decide +kernel
theorem dX7_isToldSo_19 : decode cX7_isToldSo 19 = .ok (.getfield 54, 3) := by decide +kernel
theorem dX7_isToldSo_22 : decode cX7_isToldSo 22 = .ok (.iload_n 1, 1) := by decide +kernel
theorem dX7_isToldSo_23 : decode cX7_isToldSo 23 = .ok (.iaload, 1) := by decide +kernel
theorem dX7_isToldSo_24 : decode cX7_isToldSo 24 = .ok (.bipush 10, 2) := by decide +kernel
theorem dX7_isToldSo_26 : decode cX7_isToldSo 26 = .ok (.if_icmp .ne 15, 3) := by decide +kernel
theorem dX7_isToldSo_29 : decode cX7_isToldSo 29 = .ok (.aload_n 0, 1) := by decide +kernel
theorem dX7_isToldSo_30 : decode cX7_isToldSo 30 = .ok (.bipush 14, 2) := by decide +kernel
theorem dX7_isToldSo_32 : decode cX7_isToldSo 32 = .ok (.iload_n 2, 1) := by decide +kernel
theorem dX7_isToldSo_33 : decode cX7_isToldSo 33 = .ok (.iadd, 1) := by decide +kernel
theorem dX7_isToldSo_34 : decode cX7_isToldSo 34 = .ok (.iload_n 3, 1) := by decide +kernel
theorem dX7_isToldSo_35 : decode cX7_isToldSo 35 = .ok (.invokevirtual 102, 3) := by decide +kernel
theorem dX7_isToldSo_38 : decode cX7_isToldSo 38 = .ok (.goto 35, 3) := by decide +kernel
theorem dX7_isToldSo_41 : decode cX7_isToldSo 41 = .ok (.aload_n 0, 1) := by decide +kernel
theorem dX7_isToldSo_42 : decode cX7_isToldSo 42 = .ok (.getfield 54, 3) := by decide +kernel
theorem dX7_isToldSo_45 : decode cX7_isToldSo 45 = .ok (.iload_n 1, 1) := by decide +kernel
theorem dX7_isToldSo_46 : decode cX7_isToldSo 46 = .ok (.iaload, 1) := by decide +kernel
theorem dX7_isToldSo_47 : decode cX7_isToldSo 47 = .ok (.bipush 11, 2) := by decide +kernel
theorem dX7_isToldSo_49 : decode cX7_isToldSo 49 = .ok (.if_icmp .ne 12, 3) := by decide +kernel
theorem dX7_isToldSo_52 : decode cX7_isToldSo 52 = .ok (.aload_n 0, 1) := by decide +kernel
theorem dX7_isToldSo_53 : decode cX7_isToldSo 53 = .ok (.iconst 3, 1) := by decide +kernel
theorem dX7_isToldSo_54 : decode cX7_isToldSo 54 = .ok (.iload_n 2, 1) := by decide +kernel
theorem dX7_isToldSo_55 : decode cX7_isToldSo 55 = .ok (.invokevirtual 102, 3) := by decide +kernel
theorem dX7_isToldSo_58 : decode cX7_isToldSo 58 = .ok (.goto 15, 3) := by decide +kernel
theorem dX7_isToldSo_61 : decode cX7_isToldSo 61 = .ok (.aload_n 0, 1) := by decide +kernel
theorem dX7_isToldSo_62 : decode cX7_isToldSo 62 = .ok (.aload_n 0, 1) := by decide +kernel
theorem dX7_isToldSo_63 : decode cX7_isToldSo 63 = .ok (.getfield 54, 3) := by decide +kernel
theorem dX7_isToldSo_66 : decode cX7_isToldSo 66 = .ok (.iload_n 1, 1) := by decide +kernel
theorem dX7_isToldSo_67 : decode cX7_isToldSo 67 = .ok (.iaload, 1) := by decide +kernel
theorem dX7_isToldSo_68 : decode cX7_isToldSo 68 = .ok (.iload_n 2, 1) := by decide +kernel
theorem dX7_isToldSo_69 : decode cX7_isToldSo 69 = .ok (.iload_n 3, 1) := by decide +kernel
theorem dX7_isToldSo_70 : decode cX7_isToldSo 70 = .ok (.invokevirtual 109, 3) := by decide +kernel
theorem dX7_isToldSo_73 : decode cX7_isToldSo 73 = .ok (.ireturn, 1) := by decide +kernel
theorem dX7_text_0 : decode cX7_text 0 = .ok (.aload_n 0, 1) := by decide +kernel
theorem dX7_text_1 : decode cX7_text 1 = .ok (.iconst 0, 1) := by decide +kernel
theorem dX7_text_2 : decode cX7_text 2 = .ok (.putfield 246, 3) := by decide +kernel
theorem dX7_text_5 : decode cX7_text 5 = .ok (.aload_n 0, 1) := by decide +kernel
theorem dX7_text_6 : decode cX7_text 6 = .ok (.iconst 0, 1) := by decide +kernel
theorem dX7_text_7 : decode cX7_text 7 = .ok (.putfield 268, 3) := by decide +kernel
theorem dX7_text_10 : decode cX7_text 10 = .ok (.aload_n 0, 1) := by decide +kernel
theorem dX7_text_11 : decode cX7_text 11 = .ok (.iconst 0, 1) := by decide +kernel
theorem dX7_text_12 : decode cX7_text 12 = .ok (.putfield 279, 3) := by decide +kernel
theorem dX7_text_15 : decode cX7_text 15 = .ok (.aload_n 0, 1) := by decide +kernel
theorem dX7_text_16 : decode cX7_text 16 = .ok (.aload_n 0, 1) := by decide +kernel
theorem dX7_text_17 : decode cX7_text 17 = .ok (.getfield 9, 3) := by decide +kernel
theorem dX7_text_20 : decode cX7_text 20 = .ok (.iconst 1, 1) := by decide +kernel
theorem dX7_text_21 : decode cX7_text 21 = .ok (.iaload, 1) := by decide +kernel
theorem dX7_text_22 : decode cX7_text 22 = .ok (.putfield 292, 3) := by decide +kernel
theorem dX7_text_25 : decode cX7_text 25 = .ok (.aload_n 0, 1) := by decide +kernel
theorem dX7_text_26 : decode cX7_text 26 = .ok (.invokevirtual 272, 3) := by decide +kernel
theorem dX7_text_29 : decode cX7_text 29 = .ok (.aload_n 0, 1) := by decide +kernel
theorem dX7_text_30 : decode cX7_text 30 = .ok (.invokevirtual 315, 3) := by decide +kernel
theorem dX7_text_33 : decode cX7_text 33 = .ok (.aload_n 0, 1) := by decide +kernel
theorem dX7_text_34 : decode cX7_text 34 = .ok (.getfield 268, 3) := by decide +kernel
theorem dX7_text_37 : decode cX7_text 37 = .ok (.ifCond .ne 37, 3) := by decide +kernel
theorem dX7_text_40 : decode cX7_text 40 = .ok (.aload_n 0, 1) := by decide +kernel
theorem dX7_text_41 : decode cX7_text 41 = .ok (.getfield 258, 3) := by decide +kernel
theorem dX7_text_44 : decode cX7_text 44 = .ok (.iconst 3, 1) := by decide +kernel
theorem dX7_text_45 : decode cX7_text 45 = .ok (.if_icmp .ne 29, 3) := by decide +kernel
theorem dX7_text_48 : decode cX7_text 48 = .ok (.aload_n 0, 1) := by decide +kernel
theorem dX7_text_49 : decode cX7_text 49 = .ok (.getfield 31, 3) := by decide +kernel
theorem dX7_text_52 : decode cX7_text 52 = .ok (.aload_n 0, 1) := by decide +kernel
theorem dX7_text_53 : decode cX7_text 53 = .ok (.getfield 249, 3) := by decide +kernel
theorem dX7_text_56 : decode cX7_text 56 = .ok (.iaload, 1) := by decide +kernel
theorem dX7_text_57 : decode cX7_text 57 = .ok (.bipush 59, 2) := by decide +kernel
theorem dX7_text_59 : decode cX7_text 59 = .ok (.if_icmp .ne 15, 3) := by decide +kernel
theorem dX7_text_62 : decode cX7_text 62 = .ok (.aload_n 0, 1) := by decide +kernel
theorem dX7_text_63 : decode cX7_text 63 = .ok (.iconst 1, 1) := by decide +kernel
theorem dX7_text_64 : decode cX7_text 64 = .ok (.invokevirtual 275, 3) := by decide +kernel
theorem dX7_text_67 : decode cX7_text 67 = .ok (.aload_n 0, 1) := by decide +kernel
theorem dX7_text_68 : decode cX7_text 68 = .ok (.invokevirtual 315, 3) := by decide +kernel
theorem dX7_text_71 : decode cX7_text 71 = .ok (.goto (-38), 3) := by decide +kernel
theorem dX7_text_74 : decode cX7_text 74 = .ok (.aload_n 0, 1) := by decide +kernel
theorem dX7_text_75 : decode cX7_text 75 = .ok (.aload_n 0, 1) := by decide +kernel
theorem dX7_text_76 : decode cX7_text 76 = .ok (.getfield 258, 3) := by decide +kernel
theorem dX7_text_79 : decode cX7_text 79 = .ok (.ifCond .ne 7, 3) := by decide +kernel
theorem dX7_text_82 : decode cX7_text 82 = .ok (.iconst 1, 1) := by decide +kernel
theorem dX7_text_83 : decode cX7_text 83 = .ok (.goto 4, 3) := by decide +kernel
theorem dX7_text_86 : decode cX7_text 86 = .ok (.iconst 0, 1) := by decide +kernel
theorem dX7_text_87 : decode cX7_text 87 = .ok (.invokevirtual 275, 3) := by decide +kernel
theorem dX7_text_90 : decode cX7_text 90 = .ok (.aload_n 0, 1) := by decide +kernel
theorem dX7_text_91 : decode cX7_text 91 = .ok (.iconst 0, 1) := by decide +kernel
theorem dX7_text_92 : decode cX7_text 92 = .ok (.putfield 243, 3) := by decide +kernel
theorem dX7_text_95 : decode cX7_text 95 = .ok (.aload_n 0, 1) := by decide +kernel
theorem dX7_text_96 : decode cX7_text 96 = .ok (.getfield 268, 3) := by decide +kernel
theorem dX7_text_99 : decode cX7_text 99 = .ok (.ifCond .eq 10, 3) := by decide +kernel
theorem dX7_text_102 : decode cX7_text 102 = .ok (.iconst (-1), 1) := by decide +kernel
theorem dX7_text_103 : decode cX7_text 103 = .ok (.aload_n 0, 1) := by decide +kernel
theorem dX7_text_104 : decode cX7_text 104 = .ok (.getfield 249, 3) := by decide +kernel
theorem dX7_text_107 : decode cX7_text 107 = .ok (.isub, 1) := by decide +kernel
theorem dX7_text_108 : decode cX7_text 108 = .ok (.ireturn, 1) := by decide +kernel
theorem dX7_text_109 : decode cX7_text 109 = .ok (.iconst 0, 1) := by decide +kernel
theorem dX7_text_110 : decode cX7_text 110 = .ok (.istore_n 1, 1) := by decide +kernel
theorem dX7_text_111 : decode cX7_text 111 = .ok (.iconst 0, 1) := by decide +kernel
theorem dX7_text_112 : decode cX7_text 112 = .ok (.istore_n 2, 1) := by decide +kernel
theorem dX7_text_113 : decode cX7_text 113 = .ok (.iload_n 2, 1) := by decide +kernel
theorem dX7_text_114 : decode cX7_text 114 = .ok (.aload_n 0, 1) := by decide +kernel
theorem dX7_text_115 : decode cX7_text 115 = .ok (.getfield 279, 3) := by decide +kernel
theorem dX7_text_118 : decode cX7_text 118 = .ok (.if_icmp .ge 27, 3) := by decide +kernel
theorem dX7_text_121 : decode cX7_text 121 = .ok (.iload_n 1, 1) := by decide +kernel
theorem dX7_text_122 : decode cX7_text 122 = .ok (.aload_n 0, 1) := by decide +kernel
theorem dX7_text_123 : decode cX7_text 123 = .ok (.iconst 3, 1) := by decide +kernel
theorem dX7_text_124 : decode cX7_text 124 = .ok (.iload_n 2, 1) := by decide +kernel
theorem dX7_text_125 : decode cX7_text 125 = .ok (.imul, 1) := by decide +kernel
theorem dX7_text_126 : decode cX7_text 126 = .ok (.invokevirtual 318, 3) := by decide +kernel
theorem dX7_text_129 : decode cX7_text 129 = .ok (.ifCond .ge 7, 3) := by decide +kernel
theorem dX7_text_132 : decode cX7_text 132 = .ok (.iconst 0, 1) := by decide +kernel
theorem dX7_text_133 : decode cX7_text 133 = .ok (.goto 4, 3) := by decide +kernel
theorem dX7_text_136 : decode cX7_text 136 = .ok (.iconst 1, 1) := by decide +kernel
theorem dX7_text_137 : decode cX7_text 137 = .ok (.iadd, 1) := by decide +kernel
theorem dX7_text_138 : decode cX7_text 138 = .ok (.istore_n 1, 1) := by decide +kernel
theorem dX7_text_139 : decode cX7_text 139 = .ok (.iinc 2 1, 3) := by decide +kernel
theorem dX7_text_142 : decode cX7_text 142 = .ok (.goto (-29), 3) := by decide +kernel
theorem dX7_text_145 : decode cX7_text 145 = .ok (.iload_n 1, 1) := by decide +kernel
theorem dX7_text_146 : decode cX7_text 146 = .ok (.ireturn, 1) := by decide +kernel
theorem dX7_isSpot_0 : decode cX7_isSpot 0 = .ok (.iload_n 0, 1) := by decide +kernel
theorem dX7_isSpot_1 : decode cX7_isSpot 1 = .ok (.iconst 0, 1) := by decide +kernel
theorem dX7_isSpot_2 : decode cX7_isSpot 2 = .ok (.bipush 9, 2) := by decide +kernel
theorem dX7_isSpot_4 : decode cX7_isSpot 4 = .ok (.invokestatic 88, 3) := by decide +kernel
theorem dX7_isSpot_7 : decode cX7_isSpot 7 = .ok (.ireturn, 1) := by decide +kernel
theorem dX7_hold_0 : decode cX7_hold 0 = .ok (.iload_n 1, 1) := by decide +kernel
theorem dX7_hold_1 : decode cX7_hold 1 = .ok (.invokestatic 321, 3) := by decide +kernel
theorem dX7_hold_4 : decode cX7_hold 4 = .ok (.ifCond .eq 16, 3) := by decide +kernel
theorem dX7_hold_7 : decode cX7_hold 7 = .ok (.iload_n 2, 1) := by decide +kernel
theorem dX7_hold_8 : decode cX7_hold 8 = .ok (.iconst (-1), 1) := by decide +kernel
theorem dX7_hold_9 : decode cX7_hold 9 = .ok (.if_icmp .eq 18, 3) := by decide +kernel
theorem dX7_hold_12 : decode cX7_hold 12 = .ok (.aload_n 0, 1) := by decide +kernel
theorem dX7_hold_13 : decode cX7_hold 13 = .ok (.iload_n 2, 1) := by decide +kernel
theorem dX7_hold_14 : decode cX7_hold 14 = .ok (.invokevirtual 126, 3) := by decide +kernel
theorem dX7_hold_17 : decode cX7_hold 17 = .ok (.ifCond .ne 10, 3) := by decide +kernel
theorem dX7_hold_20 : decode cX7_hold 20 = .ok (.aload_n 0, 1) := by decide +kernel
theorem dX7_hold_21 : decode cX7_hold 21 = .ok (.ldc 69, 2) := by decide +kernel
theorem dX7_hold_23 : decode cX7_hold 23 = .ok (.invokevirtual 75, 3) := by decide +kernel
theorem dX7_hold_26 : decode cX7_hold 26 = .ok (.ireturn, 1) := by decide +kernel
theorem dX7_hold_27 : decode cX7_hold 27 = .ok (.aload_n 0, 1) := by decide +kernel
theorem dX7_hold_28 : decode cX7_hold 28 = .ok (.getfield 9, 3) := by decide +kernel
theorem dX7_hold_31 : decode cX7_hold 31 = .ok (.iconst 4, 1) := by decide +kernel
theorem dX7_hold_32 : decode cX7_hold 32 = .ok (.iload_n 1, 1) := by decide +kernel
theorem dX7_hold_33 : decode cX7_hold 33 = .ok (.iadd, 1) := by decide +kernel
theorem dX7_hold_34 : decode cX7_hold 34 = .ok (.iload_n 2, 1) := by decide +kernel
theorem dX7_hold_35 : decode cX7_hold 35 = .ok (.iastore, 1) := by decide +kernel
theorem dX7_hold_36 : decode cX7_hold 36 = .ok (.iconst 1, 1) := by decide +kernel
theorem dX7_hold_37 : decode cX7_hold 37 = .ok (.ireturn, 1) := by decide +kernel
theorem dX7_as_0 : decode cX7_as 0 = .ok (.iload_n 1, 1) := by decide +kernel
theorem dX7_as_1 : decode cX7_as 1 = .ok (.invokestatic 321, 3) := by decide +kernel
theorem dX7_as_4 : decode cX7_as 4 = .ok (.ifCond .eq 10, 3) := by decide +kernel
theorem dX7_as_7 : decode cX7_as 7 = .ok (.iload_n 2, 1) := by decide +kernel
theorem dX7_as_8 : decode cX7_as 8 = .ok (.invokestatic 105, 3) := by decide +kernel
theorem dX7_as_11 : decode cX7_as 11 = .ok (.ifCond .ne 10, 3) := by decide +kernel
theorem dX7_as_14 : decode cX7_as 14 = .ok (.aload_n 0, 1) := by decide +kernel
theorem dX7_as_15 : decode cX7_as 15 = .ok (.ldc 69, 2) := by decide +kernel
theorem dX7_as_17 : decode cX7_as 17 = .ok (.invokevirtual 75, 3) := by decide +kernel
theorem dX7_as_20 : decode cX7_as 20 = .ok (.ireturn, 1) := by decide +kernel
theorem dX7_as_21 : decode cX7_as 21 = .ok (.aload_n 0, 1) := by decide +kernel
theorem dX7_as_22 : decode cX7_as 22 = .ok (.getfield 9, 3) := by decide +kernel
theorem dX7_as_25 : decode cX7_as 25 = .ok (.iconst 4, 1) := by decide +kernel
theorem dX7_as_26 : decode cX7_as 26 = .ok (.iload_n 1, 1) := by decide +kernel
theorem dX7_as_27 : decode cX7_as 27 = .ok (.iadd, 1) := by decide +kernel
theorem dX7_as_28 : decode cX7_as 28 = .ok (.iaload, 1) := by decide +kernel
theorem dX7_as_29 : decode cX7_as 29 = .ok (.istore_n 3, 1) := by decide +kernel
theorem dX7_as_30 : decode cX7_as 30 = .ok (.iload_n 3, 1) := by decide +kernel
theorem dX7_as_31 : decode cX7_as 31 = .ok (.ifCond .ge 10, 3) := by decide +kernel
theorem dX7_as_34 : decode cX7_as 34 = .ok (.aload_n 0, 1) := by decide +kernel
theorem dX7_as_35 : decode cX7_as 35 = .ok (.ldc 223, 2) := by decide +kernel
theorem dX7_as_37 : decode cX7_as 37 = .ok (.invokevirtual 75, 3) := by decide +kernel
theorem dX7_as_40 : decode cX7_as 40 = .ok (.ireturn, 1) := by decide +kernel
theorem dX7_as_41 : decode cX7_as 41 = .ok (.aload_n 0, 1) := by decide +kernel
theorem dX7_as_42 : decode cX7_as 42 = .ok (.iload_n 3, 1) := by decide +kernel
theorem dX7_as_43 : decode cX7_as 43 = .ok (.iconst 0, 1) := by decide +kernel
theorem dX7_as_44 : decode cX7_as 44 = .ok (.invokevirtual 113, 3) := by decide +kernel
theorem dX7_as_47 : decode cX7_as 47 = .ok (.iload_n 2, 1) := by decide +kernel
theorem dX7_as_48 : decode cX7_as 48 = .ok (.invokestatic 324, 3) := by decide +kernel
theorem dX7_as_51 : decode cX7_as 51 = .ok (.ifCond .eq 7, 3) := by decide +kernel
theorem dX7_as_54 : decode cX7_as 54 = .ok (.iload_n 3, 1) := by decide +kernel
theorem dX7_as_55 : decode cX7_as 55 = .ok (.goto 10, 3) := by decide +kernel
theorem dX7_as_58 : decode cX7_as 58 = .ok (.aload_n 0, 1) := by decide +kernel
theorem dX7_as_59 : decode cX7_as 59 = .ok (.ldc_w 327, 3) := by decide +kernel
theorem dX7_as_62 : decode cX7_as 62 = .ok (.invokevirtual 75, 3) := by decide +kernel
theorem dX7_as_65 : decode cX7_as 65 = .ok (.ireturn, 1) := by decide +kernel
theorem dX7_isSheet_0 : decode cX7_isSheet 0 = .ok (.iload_n 0, 1) := by decide +kernel
theorem dX7_isSheet_1 : decode cX7_isSheet 1 = .ok (.iconst 0, 1) := by decide +kernel
theorem dX7_isSheet_2 : decode cX7_isSheet 2 = .ok (.iconst 3, 1) := by decide +kernel
theorem dX7_isSheet_3 : decode cX7_isSheet 3 = .ok (.invokestatic 88, 3) := by decide +kernel
theorem dX7_isSheet_6 : decode cX7_isSheet 6 = .ok (.ireturn, 1) := by decide +kernel
theorem dX7_cutTo_0 : decode cX7_cutTo 0 = .ok (.iload_n 1, 1) := by decide +kernel
theorem dX7_cutTo_1 : decode cX7_cutTo 1 = .ok (.bipush 8, 2) := by decide +kernel
theorem dX7_cutTo_3 : decode cX7_cutTo 3 = .ok (.if_icmp .ne 8, 3) := by decide +kernel
theorem dX7_cutTo_6 : decode cX7_cutTo 6 = .ok (.iload_n 0, 1) := by decide +kernel
theorem dX7_cutTo_7 : decode cX7_cutTo 7 = .ok (.i2b, 1) := by decide +kernel
theorem dX7_cutTo_8 : decode cX7_cutTo 8 = .ok (.goto 15, 3) := by decide +kernel
theorem dX7_cutTo_11 : decode cX7_cutTo 11 = .ok (.iload_n 1, 1) := by decide +kernel
theorem dX7_cutTo_12 : decode cX7_cutTo 12 = .ok (.bipush 16, 2) := by decide +kernel
theorem dX7_cutTo_14 : decode cX7_cutTo 14 = .ok (.if_icmp .ne 8, 3) := by decide +kernel
theorem dX7_cutTo_17 : decode cX7_cutTo 17 = .ok (.iload_n 0, 1) := by decide +kernel
theorem dX7_cutTo_18 : decode cX7_cutTo 18 = .ok (.i2s, 1) := by decide +kernel
theorem dX7_cutTo_19 : decode cX7_cutTo 19 = .ok (.goto 4, 3) := by decide +kernel
theorem dX7_cutTo_22 : decode cX7_cutTo 22 = .ok (.iload_n 0, 1) := by decide +kernel
theorem dX7_cutTo_23 : decode cX7_cutTo 23 = .ok (.ireturn, 1) := by decide +kernel
theorem dX7_sheet_0 : decode cX7_sheet 0 = .ok (.iload_n 1, 1) := by decide +kernel
theorem dX7_sheet_1 : decode cX7_sheet 1 = .ok (.invokestatic 220, 3) := by decide +kernel
theorem dX7_sheet_4 : decode cX7_sheet 4 = .ok (.ifCond .eq 25, 3) := by decide +kernel
theorem dX7_sheet_7 : decode cX7_sheet 7 = .ok (.iload_n 2, 1) := by decide +kernel
theorem dX7_sheet_8 : decode cX7_sheet 8 = .ok (.ifCond .eq 28, 3) := by decide +kernel
theorem dX7_sheet_11 : decode cX7_sheet 11 = .ok (.iload_n 2, 1) := by decide +kernel
theorem dX7_sheet_12 : decode cX7_sheet 12 = .ok (.bipush 8, 2) := by decide +kernel
theorem dX7_sheet_14 : decode cX7_sheet 14 = .ok (.if_icmp .eq 22, 3) := by decide +kernel
theorem dX7_sheet_17 : decode cX7_sheet 17 = .ok (.iload_n 2, 1) := by decide +kernel
theorem dX7_sheet_18 : decode cX7_sheet 18 = .ok (.bipush 16, 2) := by decide +kernel
theorem dX7_sheet_20 : decode cX7_sheet 20 = .ok (.if_icmp .eq 16, 3) := by decide +kernel
theorem dX7_sheet_23 : decode cX7_sheet 23 = .ok (.iload_n 2, 1) := by decide +kernel
theorem dX7_sheet_24 : decode cX7_sheet 24 = .ok (.bipush 32, 2) := by decide +kernel
theorem dX7_sheet_26 : decode cX7_sheet 26 = .ok (.if_icmp .eq 10, 3) := by decide +kernel
theorem dX7_sheet_29 : decode cX7_sheet 29 = .ok (.aload_n 0, 1) := by decide +kernel
theorem dX7_sheet_30 : decode cX7_sheet 30 = .ok (.ldc 69, 2) := by decide +kernel
theorem dX7_sheet_32 : decode cX7_sheet 32 = .ok (.invokevirtual 75, 3) := by decide +kernel
theorem dX7_sheet_35 : decode cX7_sheet 35 = .ok (.ireturn, 1) := by decide +kernel
theorem dX7_sheet_36 : decode cX7_sheet 36 = .ok (.iload_n 3, 1) := by decide +kernel
theorem dX7_sheet_37 : decode cX7_sheet 37 = .ok (.ifCond .ge 11, 3) := by decide +kernel
theorem dX7_sheet_40 : decode cX7_sheet 40 = .ok (.aload_n 0, 1) := by decide +kernel
theorem dX7_sheet_41 : decode cX7_sheet 41 = .ok (.ldc_w 328, 3) := by decide +kernel
theorem dX7_sheet_44 : decode cX7_sheet 44 = .ok (.invokevirtual 75, 3) := by decide +kernel
theorem dX7_sheet_47 : decode cX7_sheet 47 = .ok (.ireturn, 1) := by decide +kernel
theorem dX7_sheet_48 : decode cX7_sheet 48 = .ok (.iload_n 3, 1) := by decide +kernel
theorem dX7_sheet_49 : decode cX7_sheet 49 = .ok (.bipush 40, 2) := by decide +kernel
theorem dX7_sheet_51 : decode cX7_sheet 51 = .ok (.if_icmp .le 10, 3) := by decide +kernel
theorem dX7_sheet_54 : decode cX7_sheet 54 = .ok (.aload_n 0, 1) := by decide +kernel
theorem dX7_sheet_55 : decode cX7_sheet 55 = .ok (.ldc 69, 2) := by decide +kernel
theorem dX7_sheet_57 : decode cX7_sheet 57 = .ok (.invokevirtual 75, 3) := by decide +kernel
theorem dX7_sheet_60 : decode cX7_sheet 60 = .ok (.ireturn, 1) := by decide +kernel
theorem dX7_sheet_61 : decode cX7_sheet 61 = .ok (.aload_n 0, 1) := by decide +kernel
theorem dX7_sheet_62 : decode cX7_sheet 62 = .ok (.getfield 57, 3) := by decide +kernel
theorem dX7_sheet_65 : decode cX7_sheet 65 = .ok (.iload_n 1, 1) := by decide +kernel
theorem dX7_sheet_66 : decode cX7_sheet 66 = .ok (.iload_n 2, 1) := by decide +kernel
theorem dX7_sheet_67 : decode cX7_sheet 67 = .ok (.iastore, 1) := by decide +kernel
theorem dX7_sheet_68 : decode cX7_sheet 68 = .ok (.aload_n 0, 1) := by decide +kernel
theorem dX7_sheet_69 : decode cX7_sheet 69 = .ok (.getfield 60, 3) := by decide +kernel
theorem dX7_sheet_72 : decode cX7_sheet 72 = .ok (.iload_n 1, 1) := by decide +kernel
theorem dX7_sheet_73 : decode cX7_sheet 73 = .ok (.iload_n 2, 1) := by decide +kernel
theorem dX7_sheet_74 : decode cX7_sheet 74 = .ok (.ifCond .ne 7, 3) := by decide +kernel
theorem dX7_sheet_77 : decode cX7_sheet 77 = .ok (.iconst 0, 1) := by decide +kernel
theorem dX7_sheet_78 : decode cX7_sheet 78 = .ok (.goto 4, 3) := by decide +kernel
theorem dX7_sheet_81 : decode cX7_sheet 81 = .ok (.iload_n 3, 1) := by decide +kernel
theorem dX7_sheet_82 : decode cX7_sheet 82 = .ok (.iastore, 1) := by decide +kernel
theorem dX7_sheet_83 : decode cX7_sheet 83 = .ok (.iconst 0, 1) := by decide +kernel
theorem dX7_sheet_84 : decode cX7_sheet 84 = .ok (.istore 4, 2) := by decide +kernel
theorem dX7_sheet_86 : decode cX7_sheet 86 = .ok (.iload 4, 2) := by decide +kernel
theorem dX7_sheet_88 : decode cX7_sheet 88 = .ok (.bipush 40, 2) := by decide +kernel
theorem dX7_sheet_90 : decode cX7_sheet 90 = .ok (.if_icmp .ge 22, 3) := by decide +kernel
theorem dX7_sheet_93 : decode cX7_sheet 93 = .ok (.aload_n 0, 1) := by decide +kernel
theorem dX7_sheet_94 : decode cX7_sheet 94 = .ok (.getfield 63, 3) := by decide +kernel
theorem dX7_sheet_97 : decode cX7_sheet 97 = .ok (.bipush 40, 2) := by decide +kernel
theorem dX7_sheet_99 : decode cX7_sheet 99 = .ok (.iload_n 1, 1) := by decide +kernel
theorem dX7_sheet_100 : decode cX7_sheet 100 = .ok (.imul, 1) := by decide +kernel
theorem dX7_sheet_101 : decode cX7_sheet 101 = .ok (.iload 4, 2) := by decide +kernel
theorem dX7_sheet_103 : decode cX7_sheet 103 = .ok (.iadd, 1) := by decide +kernel
theorem dX7_sheet_104 : decode cX7_sheet 104 = .ok (.iconst 0, 1) := by decide +kernel
theorem dX7_sheet_105 : decode cX7_sheet 105 = .ok (.iastore, 1) := by decide +kernel
theorem dX7_sheet_106 : decode cX7_sheet 106 = .ok (.iinc 4 1, 3) := by decide +kernel
theorem dX7_sheet_109 : decode cX7_sheet 109 = .ok (.goto (-23), 3) := by decide +kernel
theorem dX7_sheet_112 : decode cX7_sheet 112 = .ok (.aload_n 0, 1) := by decide +kernel
theorem dX7_sheet_113 : decode cX7_sheet 113 = .ok (.getfield 60, 3) := by decide +kernel
theorem dX7_sheet_116 : decode cX7_sheet 116 = .ok (.iload_n 1, 1) := by decide +kernel
theorem dX7_sheet_117 : decode cX7_sheet 117 = .ok (.iaload, 1) := by decide +kernel
theorem dX7_sheet_118 : decode cX7_sheet 118 = .ok (.ireturn, 1) := by decide +kernel
theorem dX7_write_0 : decode cX7_write 0 = .ok (.iload_n 1, 1) := by decide +kernel
theorem dX7_write_1 : decode cX7_write 1 = .ok (.invokestatic 220, 3) := by decide +kernel
theorem dX7_write_4 : decode cX7_write 4 = .ok (.ifCond .ne 10, 3) := by decide +kernel
theorem dX7_write_7 : decode cX7_write 7 = .ok (.aload_n 0, 1) := by decide +kernel
theorem dX7_write_8 : decode cX7_write 8 = .ok (.ldc 69, 2) := by decide +kernel
theorem dX7_write_10 : decode cX7_write 10 = .ok (.invokevirtual 75, 3) := by decide +kernel
theorem dX7_write_13 : decode cX7_write 13 = .ok (.ireturn, 1) := by decide +kernel
theorem dX7_write_14 : decode cX7_write 14 = .ok (.aload_n 0, 1) := by decide +kernel
theorem dX7_write_15 : decode cX7_write 15 = .ok (.getfield 57, 3) := by decide +kernel
theorem dX7_write_18 : decode cX7_write 18 = .ok (.iload_n 1, 1) := by decide +kernel
theorem dX7_write_19 : decode cX7_write 19 = .ok (.iaload, 1) := by decide +kernel
theorem dX7_write_20 : decode cX7_write 20 = .ok (.ifCond .ne 10, 3) := by decide +kernel
theorem dX7_write_23 : decode cX7_write 23 = .ok (.aload_n 0, 1) := by decide +kernel
theorem dX7_write_24 : decode cX7_write 24 = .ok (.ldc 223, 2) := by decide +kernel
theorem dX7_write_26 : decode cX7_write 26 = .ok (.invokevirtual 75, 3) := by decide +kernel
theorem dX7_write_29 : decode cX7_write 29 = .ok (.ireturn, 1) := by decide +kernel
theorem dX7_write_30 : decode cX7_write 30 = .ok (.iload_n 2, 1) := by decide +kernel
theorem dX7_write_31 : decode cX7_write 31 = .ok (.iconst 0, 1) := by decide +kernel
theorem dX7_write_32 : decode cX7_write 32 = .ok (.aload_n 0, 1) := by decide +kernel
theorem dX7_write_33 : decode cX7_write 33 = .ok (.getfield 60, 3) := by decide +kernel
theorem dX7_write_36 : decode cX7_write 36 = .ok (.iload_n 1, 1) := by decide +kernel
theorem dX7_write_37 : decode cX7_write 37 = .ok (.iaload, 1) := by decide +kernel
theorem dX7_write_38 : decode cX7_write 38 = .ok (.iconst 1, 1) := by decide +kernel
theorem dX7_write_39 : decode cX7_write 39 = .ok (.isub, 1) := by decide +kernel
theorem dX7_write_40 : decode cX7_write 40 = .ok (.invokestatic 88, 3) := by decide +kernel
theorem dX7_write_43 : decode cX7_write 43 = .ok (.ifCond .ne 10, 3) := by decide +kernel
theorem dX7_write_46 : decode cX7_write 46 = .ok (.aload_n 0, 1) := by decide +kernel
theorem dX7_write_47 : decode cX7_write 47 = .ok (.ldc 69, 2) := by decide +kernel
theorem dX7_write_49 : decode cX7_write 49 = .ok (.invokevirtual 75, 3) := by decide +kernel
theorem dX7_write_52 : decode cX7_write 52 = .ok (.ireturn, 1) := by decide +kernel
theorem dX7_write_53 : decode cX7_write 53 = .ok (.aload_n 0, 1) := by decide +kernel
theorem dX7_write_54 : decode cX7_write 54 = .ok (.getfield 63, 3) := by decide +kernel
theorem dX7_write_57 : decode cX7_write 57 = .ok (.bipush 40, 2) := by decide +kernel
theorem dX7_write_59 : decode cX7_write 59 = .ok (.iload_n 1, 1) := by decide +kernel
theorem dX7_write_60 : decode cX7_write 60 = .ok (.imul, 1) := by decide +kernel
theorem dX7_write_61 : decode cX7_write 61 = .ok (.iload_n 2, 1) := by decide +kernel
theorem dX7_write_62 : decode cX7_write 62 = .ok (.iadd, 1) := by decide +kernel
theorem dX7_write_63 : decode cX7_write 63 = .ok (.iload_n 3, 1) := by decide +kernel
theorem dX7_write_64 : decode cX7_write 64 = .ok (.aload_n 0, 1) := by decide +kernel
theorem dX7_write_65 : decode cX7_write 65 = .ok (.getfield 57, 3) := by decide +kernel
theorem dX7_write_68 : decode cX7_write 68 = .ok (.iload_n 1, 1) := by decide +kernel
theorem dX7_write_69 : decode cX7_write 69 = .ok (.iaload, 1) := by decide +kernel
theorem dX7_write_70 : decode cX7_write 70 = .ok (.invokestatic 329, 3) := by decide +kernel
theorem dX7_write_73 : decode cX7_write 73 = .ok (.iastore, 1) := by decide +kernel
theorem dX7_write_74 : decode cX7_write 74 = .ok (.iconst 1, 1) := by decide +kernel
theorem dX7_write_75 : decode cX7_write 75 = .ok (.ireturn, 1) := by decide +kernel
theorem dX7_copy_0 : decode cX7_copy 0 = .ok (.iload_n 1, 1) := by decide +kernel
theorem dX7_copy_1 : decode cX7_copy 1 = .ok (.invokestatic 220, 3) := by decide +kernel
theorem dX7_copy_4 : decode cX7_copy 4 = .ok (.ifCond .eq 10, 3) := by decide +kernel
theorem dX7_copy_7 : decode cX7_copy 7 = .ok (.iload_n 3, 1) := by decide +kernel
theorem dX7_copy_8 : decode cX7_copy 8 = .ok (.invokestatic 220, 3) := by decide +kernel
theorem dX7_copy_11 : decode cX7_copy 11 = .ok (.ifCond .ne 10, 3) := by decide +kernel
theorem dX7_copy_14 : decode cX7_copy 14 = .ok (.aload_n 0, 1) := by decide +kernel
theorem dX7_copy_15 : decode cX7_copy 15 = .ok (.ldc 69, 2) := by decide +kernel
theorem dX7_copy_17 : decode cX7_copy 17 = .ok (.invokevirtual 75, 3) := by decide +kernel
theorem dX7_copy_20 : decode cX7_copy 20 = .ok (.ireturn, 1) := by decide +kernel
theorem dX7_copy_21 : decode cX7_copy 21 = .ok (.aload_n 0, 1) := by decide +kernel
theorem dX7_copy_22 : decode cX7_copy 22 = .ok (.getfield 57, 3) := by decide +kernel
theorem dX7_copy_25 : decode cX7_copy 25 = .ok (.iload_n 1, 1) := by decide +kernel
theorem dX7_copy_26 : decode cX7_copy 26 = .ok (.iaload, 1) := by decide +kernel
theorem dX7_copy_27 : decode cX7_copy 27 = .ok (.ifCond .eq 12, 3) := by decide +kernel
theorem dX7_copy_30 : decode cX7_copy 30 = .ok (.aload_n 0, 1) := by decide +kernel
theorem dX7_copy_31 : decode cX7_copy 31 = .ok (.getfield 57, 3) := by decide +kernel
theorem dX7_copy_34 : decode cX7_copy 34 = .ok (.iload_n 3, 1) := by decide +kernel
theorem dX7_copy_35 : decode cX7_copy 35 = .ok (.iaload, 1) := by decide +kernel
theorem dX7_copy_36 : decode cX7_copy 36 = .ok (.ifCond .ne 10, 3) := by decide +kernel
theorem dX7_copy_39 : decode cX7_copy 39 = .ok (.aload_n 0, 1) := by decide +kernel
theorem dX7_copy_40 : decode cX7_copy 40 = .ok (.ldc 223, 2) := by decide +kernel
theorem dX7_copy_42 : decode cX7_copy 42 = .ok (.invokevirtual 75, 3) := by decide +kernel
theorem dX7_copy_45 : decode cX7_copy 45 = .ok (.ireturn, 1) := by decide +kernel
theorem dX7_copy_46 : decode cX7_copy 46 = .ok (.aload_n 0, 1) := by decide +kernel
theorem dX7_copy_47 : decode cX7_copy 47 = .ok (.getfield 57, 3) := by decide +kernel
theorem dX7_copy_50 : decode cX7_copy 50 = .ok (.iload_n 1, 1) := by decide +kernel
theorem dX7_copy_51 : decode cX7_copy 51 = .ok (.iaload, 1) := by decide +kernel
theorem dX7_copy_52 : decode cX7_copy 52 = .ok (.aload_n 0, 1) := by decide +kernel
theorem dX7_copy_53 : decode cX7_copy 53 = .ok (.getfield 57, 3) := by decide +kernel
theorem dX7_copy_56 : decode cX7_copy 56 = .ok (.iload_n 3, 1) := by decide +kernel
theorem dX7_copy_57 : decode cX7_copy 57 = .ok (.iaload, 1) := by decide +kernel
theorem dX7_copy_58 : decode cX7_copy 58 = .ok (.if_icmp .eq 11, 3) := by decide +kernel
theorem dX7_copy_61 : decode cX7_copy 61 = .ok (.aload_n 0, 1) := by decide +kernel
theorem dX7_copy_62 : decode cX7_copy 62 = .ok (.ldc_w 327, 3) := by decide +kernel
theorem dX7_copy_65 : decode cX7_copy 65 = .ok (.invokevirtual 75, 3) := by decide +kernel
theorem dX7_copy_68 : decode cX7_copy 68 = .ok (.ireturn, 1) := by decide +kernel
theorem dX7_copy_69 : decode cX7_copy 69 = .ok (.iload_n 2, 1) := by decide +kernel
theorem dX7_copy_70 : decode cX7_copy 70 = .ok (.ifCond .lt 48, 3) := by decide +kernel
theorem dX7_copy_73 : decode cX7_copy 73 = .ok (.iload 4, 2) := by decide +kernel
theorem dX7_copy_75 : decode cX7_copy 75 = .ok (.ifCond .lt 43, 3) := by decide +kernel
theorem dX7_copy_78 : decode cX7_copy 78 = .ok (.iload 5, 2) := by decide +kernel
theorem dX7_copy_80 : decode cX7_copy 80 = .ok (.ifCond .lt 38, 3) := by decide +kernel
theorem dX7_copy_83 : decode cX7_copy 83 = .ok (.iload_n 2, 1) := by decide +kernel
theorem dX7_copy_84 : decode cX7_copy 84 = .ok (.i2l, 1) := by decide +kernel
theorem dX7_copy_85 : decode cX7_copy 85 = .ok (.iload 5, 2) := by decide +kernel
theorem dX7_copy_87 : decode cX7_copy 87 = .ok (.i2l, 1) := by decide +kernel
theorem dX7_copy_88 : decode cX7_copy 88 = .ok (.ladd, 1) := by decide +kernel
theorem dX7_copy_89 : decode cX7_copy 89 = .ok (.aload_n 0, 1) := by decide +kernel
theorem dX7_copy_90 : decode cX7_copy 90 = .ok (.getfield 60, 3) := by decide +kernel
theorem dX7_copy_93 : decode cX7_copy 93 = .ok (.iload_n 1, 1) := by decide +kernel
theorem dX7_copy_94 : decode cX7_copy 94 = .ok (.iaload, 1) := by decide +kernel
theorem dX7_copy_95 : decode cX7_copy 95 = .ok (.i2l, 1) := by decide +kernel
theorem dX7_copy_96 : decode cX7_copy 96 = .ok (.lcmp, 1) := by decide +kernel
theorem dX7_copy_97 : decode cX7_copy 97 = .ok (.ifCond .gt 21, 3) := by decide +kernel
theorem dX7_copy_100 : decode cX7_copy 100 = .ok (.iload 4, 2) := by decide +kernel
theorem dX7_copy_102 : decode cX7_copy 102 = .ok (.i2l, 1) := by decide +kernel
theorem dX7_copy_103 : decode cX7_copy 103 = .ok (.iload 5, 2) := by decide +kernel
theorem dX7_copy_105 : decode cX7_copy 105 = .ok (.i2l, 1) := by decide +kernel
theorem dX7_copy_106 : decode cX7_copy 106 = .ok (.ladd, 1) := by decide +kernel
theorem dX7_copy_107 : decode cX7_copy 107 = .ok (.aload_n 0, 1) := by decide +kernel
theorem dX7_copy_108 : decode cX7_copy 108 = .ok (.getfield 60, 3) := by decide +kernel
theorem dX7_copy_111 : decode cX7_copy 111 = .ok (.iload_n 3, 1) := by decide +kernel
theorem dX7_copy_112 : decode cX7_copy 112 = .ok (.iaload, 1) := by decide +kernel
theorem dX7_copy_113 : decode cX7_copy 113 = .ok (.i2l, 1) := by decide +kernel
theorem dX7_copy_114 : decode cX7_copy 114 = .ok (.lcmp, 1) := by decide +kernel
theorem dX7_copy_115 : decode cX7_copy 115 = .ok (.ifCond .le 10, 3) := by decide +kernel
theorem dX7_copy_118 : decode cX7_copy 118 = .ok (.aload_n 0, 1) := by decide +kernel
theorem dX7_copy_119 : decode cX7_copy 119 = .ok (.ldc 69, 2) := by decide +kernel
theorem dX7_copy_121 : decode cX7_copy 121 = .ok (.invokevirtual 75, 3) := by decide +kernel
theorem dX7_copy_124 : decode cX7_copy 124 = .ok (.ireturn, 1) := by decide +kernel
theorem dX7_copy_125 : decode cX7_copy 125 = .ok (.iconst 0, 1) := by decide +kernel
theorem dX7_copy_126 : decode cX7_copy 126 = .ok (.istore 6, 2) := by decide +kernel
theorem dX7_copy_128 : decode cX7_copy 128 = .ok (.iload 6, 2) := by decide +kernel
theorem dX7_copy_130 : decode cX7_copy 130 = .ok (.iload 5, 2) := by decide +kernel
theorem dX7_copy_132 : decode cX7_copy 132 = .ok (.if_icmp .ge 30, 3) := by decide +kernel
theorem dX7_copy_135 : decode cX7_copy 135 = .ok (.aload_n 0, 1) := by decide +kernel
theorem dX7_copy_136 : decode cX7_copy 136 = .ok (.getfield 66, 3) := by decide +kernel
theorem dX7_copy_139 : decode cX7_copy 139 = .ok (.iload 6, 2) := by decide +kernel
theorem dX7_copy_141 : decode cX7_copy 141 = .ok (.aload_n 0, 1) := by decide +kernel
theorem dX7_copy_142 : decode cX7_copy 142 = .ok (.getfield 63, 3) := by decide +kernel
theorem dX7_copy_145 : decode cX7_copy 145 = .ok (.bipush 40, 2) := by decide +kernel
theorem dX7_copy_147 : decode cX7_copy 147 = .ok (.iload_n 1, 1) := by decide +kernel
theorem dX7_copy_148 : decode cX7_copy 148 = .ok (.imul, 1) := by decide +kernel
theorem dX7_copy_149 : decode cX7_copy 149 = .ok (.iload_n 2, 1) := by decide +kernel
theorem dX7_copy_150 : decode cX7_copy 150 = .ok (.iadd, 1) := by decide +kernel
theorem dX7_copy_151 : decode cX7_copy 151 = .ok (.iload 6, 2) := by decide +kernel
theorem dX7_copy_153 : decode cX7_copy 153 = .ok (.iadd, 1) := by decide +kernel
theorem dX7_copy_154 : decode cX7_copy 154 = .ok (.iaload, 1) := by decide +kernel
theorem dX7_copy_155 : decode cX7_copy 155 = .ok (.iastore, 1) := by decide +kernel
theorem dX7_copy_156 : decode cX7_copy 156 = .ok (.iinc 6 1, 3) := by decide +kernel
theorem dX7_copy_159 : decode cX7_copy 159 = .ok (.goto (-31), 3) := by decide +kernel
theorem dX7_copy_162 : decode cX7_copy 162 = .ok (.iconst 0, 1) := by decide +kernel
theorem dX7_copy_163 : decode cX7_copy 163 = .ok (.istore 6, 2) := by decide +kernel
theorem dX7_copy_165 : decode cX7_copy 165 = .ok (.iload 6, 2) := by decide +kernel
theorem dX7_copy_167 : decode cX7_copy 167 = .ok (.iload 5, 2) := by decide +kernel
theorem dX7_copy_169 : decode cX7_copy 169 = .ok (.if_icmp .ge 31, 3) := by decide +kernel
theorem dX7_copy_172 : decode cX7_copy 172 = .ok (.aload_n 0, 1) := by decide +kernel
theorem dX7_copy_173 : decode cX7_copy 173 = .ok (.getfield 63, 3) := by decide +kernel
theorem dX7_copy_176 : decode cX7_copy 176 = .ok (.bipush 40, 2) := by decide +kernel
theorem dX7_copy_178 : decode cX7_copy 178 = .ok (.iload_n 3, 1) := by decide +kernel
theorem dX7_copy_179 : decode cX7_copy 179 = .ok (.imul, 1) := by decide +kernel
theorem dX7_copy_180 : decode cX7_copy 180 = .ok (.iload 4, 2) := by decide +kernel
theorem dX7_copy_182 : decode cX7_copy 182 = .ok (.iadd, 1) := by decide +kernel
theorem dX7_copy_183 : decode cX7_copy 183 = .ok (.iload 6, 2) := by decide +kernel
theorem dX7_copy_185 : decode cX7_copy 185 = .ok (.iadd, 1) := by decide +kernel
theorem dX7_copy_186 : decode cX7_copy 186 = .ok (.aload_n 0, 1) := by decide +kernel
theorem dX7_copy_187 : decode cX7_copy 187 = .ok (.getfield 66, 3) := by decide +kernel
theorem dX7_copy_190 : decode cX7_copy 190 = .ok (.iload 6, 2) := by decide +kernel
theorem dX7_copy_192 : decode cX7_copy 192 = .ok (.iaload, 1) := by decide +kernel
theorem dX7_copy_193 : decode cX7_copy 193 = .ok (.iastore, 1) := by decide +kernel
theorem dX7_copy_194 : decode cX7_copy 194 = .ok (.iinc 6 1, 3) := by decide +kernel
theorem dX7_copy_197 : decode cX7_copy 197 = .ok (.goto (-32), 3) := by decide +kernel
theorem dX7_copy_200 : decode cX7_copy 200 = .ok (.iload 5, 2) := by decide +kernel
theorem dX7_copy_202 : decode cX7_copy 202 = .ok (.ireturn, 1) := by decide +kernel
theorem dX7_above_0 : decode cX7_above 0 = .ok (.iload_n 0, 1) := by decide +kernel
theorem dX7_above_1 : decode cX7_above 1 = .ok (.ifCond .ne 7, 3) := by decide +kernel
theorem dX7_above_4 : decode cX7_above 4 = .ok (.iconst (-1), 1) := by decide +kernel
theorem dX7_above_5 : decode cX7_above 5 = .ok (.goto 32, 3) := by decide +kernel
theorem dX7_above_8 : decode cX7_above 8 = .ok (.iload_n 0, 1) := by decide +kernel
theorem dX7_above_9 : decode cX7_above 9 = .ok (.iconst 3, 1) := by decide +kernel
theorem dX7_above_10 : decode cX7_above 10 = .ok (.if_icmp .ne 7, 3) := by decide +kernel
theorem dX7_above_13 : decode cX7_above 13 = .ok (.iconst 2, 1) := by decide +kernel
theorem dX7_above_14 : decode cX7_above 14 = .ok (.goto 23, 3) := by decide +kernel
theorem dX7_above_17 : decode cX7_above 17 = .ok (.iload_n 0, 1) := by decide +kernel
theorem dX7_above_18 : decode cX7_above 18 = .ok (.iconst 4, 1) := by decide +kernel
theorem dX7_above_19 : decode cX7_above 19 = .ok (.if_icmp .ne 7, 3) := by decide +kernel
theorem dX7_above_22 : decode cX7_above 22 = .ok (.iconst 3, 1) := by decide +kernel
theorem dX7_above_23 : decode cX7_above 23 = .ok (.goto 14, 3) := by decide +kernel
theorem dX7_above_26 : decode cX7_above 26 = .ok (.iload_n 0, 1) := by decide +kernel
theorem dX7_above_27 : decode cX7_above 27 = .ok (.bipush 6, 2) := by decide +kernel
theorem dX7_above_29 : decode cX7_above 29 = .ok (.if_icmp .ne 7, 3) := by decide +kernel
theorem dX7_above_32 : decode cX7_above 32 = .ok (.iconst 1, 1) := by decide +kernel
theorem dX7_above_33 : decode cX7_above 33 = .ok (.goto 4, 3) := by decide +kernel
theorem dX7_above_36 : decode cX7_above 36 = .ok (.iconst 0, 1) := by decide +kernel
theorem dX7_above_37 : decode cX7_above 37 = .ok (.ireturn, 1) := by decide +kernel
theorem dX7_isUnder_0 : decode cX7_isUnder 0 = .ok (.iload_n 0, 1) := by decide +kernel
theorem dX7_isUnder_1 : decode cX7_isUnder 1 = .ok (.istore_n 2, 1) := by decide +kernel
theorem dX7_isUnder_2 : decode cX7_isUnder 2 = .ok (.iload_n 2, 1) := by decide +kernel
theorem dX7_isUnder_3 : decode cX7_isUnder 3 = .ok (.ifCond .lt 16, 3) := by decide +kernel
theorem dX7_isUnder_6 : decode cX7_isUnder 6 = .ok (.iload_n 2, 1) := by decide +kernel
theorem dX7_isUnder_7 : decode cX7_isUnder 7 = .ok (.iload_n 1, 1) := by decide +kernel
theorem dX7_isUnder_8 : decode cX7_isUnder 8 = .ok (.if_icmp .eq 11, 3) := by decide +kernel
theorem dX7_isUnder_11 : decode cX7_isUnder 11 = .ok (.iload_n 2, 1) := by decide +kernel
theorem dX7_isUnder_12 : decode cX7_isUnder 12 = .ok (.invokestatic 332, 3) := by decide +kernel
theorem dX7_isUnder_15 : decode cX7_isUnder 15 = .ok (.istore_n 2, 1) := by decide +kernel
theorem dX7_isUnder_16 : decode cX7_isUnder 16 = .ok (.goto (-14), 3) := by decide +kernel
theorem dX7_isUnder_19 : decode cX7_isUnder 19 = .ok (.iload_n 2, 1) := by decide +kernel
theorem dX7_isUnder_20 : decode cX7_isUnder 20 = .ok (.ifCond .lt 7, 3) := by decide +kernel
theorem dX7_isUnder_23 : decode cX7_isUnder 23 = .ok (.iconst 1, 1) := by decide +kernel
theorem dX7_isUnder_24 : decode cX7_isUnder 24 = .ok (.goto 4, 3) := by decide +kernel
theorem dX7_isUnder_27 : decode cX7_isUnder 27 = .ok (.iconst 0, 1) := by decide +kernel
theorem dX7_isUnder_28 : decode cX7_isUnder 28 = .ok (.ireturn, 1) := by decide +kernel
theorem dX7_load_0 : decode cX7_load 0 = .ok (.aload_n 0, 1) := by decide +kernel
theorem dX7_load_1 : decode cX7_load 1 = .ok (.iload_n 1, 1) := by decide +kernel
theorem dX7_load_2 : decode cX7_load 2 = .ok (.invokevirtual 224, 3) := by decide +kernel
theorem dX7_load_5 : decode cX7_load 5 = .ok (.ifCond .eq 13, 3) := by decide +kernel
theorem dX7_load_8 : decode cX7_load 8 = .ok (.aload_n 0, 1) := by decide +kernel
theorem dX7_load_9 : decode cX7_load 9 = .ok (.aload_n 0, 1) := by decide +kernel
theorem dX7_load_10 : decode cX7_load 10 = .ok (.iload_n 1, 1) := by decide +kernel
theorem dX7_load_11 : decode cX7_load 11 = .ok (.invokevirtual 224, 3) := by decide +kernel
theorem dX7_load_14 : decode cX7_load 14 = .ok (.invokevirtual 75, 3) := by decide +kernel
theorem dX7_load_17 : decode cX7_load 17 = .ok (.ireturn, 1) := by decide +kernel
theorem dX7_load_18 : decode cX7_load 18 = .ok (.iconst 0, 1) := by decide +kernel
theorem dX7_load_19 : decode cX7_load 19 = .ok (.istore_n 2, 1) := by decide +kernel
theorem dX7_load_20 : decode cX7_load 20 = .ok (.iload_n 2, 1) := by decide +kernel
theorem dX7_load_21 : decode cX7_load 21 = .ok (.aload_n 0, 1) := by decide +kernel
theorem dX7_load_22 : decode cX7_load 22 = .ok (.getfield 60, 3) := by decide +kernel
theorem dX7_load_25 : decode cX7_load 25 = .ok (.iload_n 1, 1) := by decide +kernel
theorem dX7_load_26 : decode cX7_load 26 = .ok (.iaload, 1) := by decide +kernel
theorem dX7_load_27 : decode cX7_load 27 = .ok (.if_icmp .ge 53, 3) := by decide +kernel
theorem dX7_load_30 : decode cX7_load 30 = .ok (.iload_n 2, 1) := by decide +kernel
theorem dX7_load_31 : decode cX7_load 31 = .ok (.invokestatic 95, 3) := by decide +kernel
theorem dX7_load_34 : decode cX7_load 34 = .ok (.ifCond .eq 46, 3) := by decide +kernel
theorem dX7_load_37 : decode cX7_load 37 = .ok (.aload_n 0, 1) := by decide +kernel
theorem dX7_load_38 : decode cX7_load 38 = .ok (.getfield 63, 3) := by decide +kernel
theorem dX7_load_41 : decode cX7_load 41 = .ok (.bipush 40, 2) := by decide +kernel
theorem dX7_load_43 : decode cX7_load 43 = .ok (.iload_n 1, 1) := by decide +kernel
theorem dX7_load_44 : decode cX7_load 44 = .ok (.imul, 1) := by decide +kernel
theorem dX7_load_45 : decode cX7_load 45 = .ok (.iload_n 2, 1) := by decide +kernel
theorem dX7_load_46 : decode cX7_load 46 = .ok (.iadd, 1) := by decide +kernel
theorem dX7_load_47 : decode cX7_load 47 = .ok (.iaload, 1) := by decide +kernel
theorem dX7_load_48 : decode cX7_load 48 = .ok (.invokestatic 99, 3) := by decide +kernel
theorem dX7_load_51 : decode cX7_load 51 = .ok (.ifCond .eq 29, 3) := by decide +kernel
theorem dX7_load_54 : decode cX7_load 54 = .ok (.aload_n 0, 1) := by decide +kernel
theorem dX7_load_55 : decode cX7_load 55 = .ok (.getfield 9, 3) := by decide +kernel
theorem dX7_load_58 : decode cX7_load 58 = .ok (.bipush 14, 2) := by decide +kernel
theorem dX7_load_60 : decode cX7_load 60 = .ok (.iload_n 2, 1) := by decide +kernel
theorem dX7_load_61 : decode cX7_load 61 = .ok (.iadd, 1) := by decide +kernel
theorem dX7_load_62 : decode cX7_load 62 = .ok (.aload_n 0, 1) := by decide +kernel
theorem dX7_load_63 : decode cX7_load 63 = .ok (.getfield 63, 3) := by decide +kernel
theorem dX7_load_66 : decode cX7_load 66 = .ok (.bipush 40, 2) := by decide +kernel
theorem dX7_load_68 : decode cX7_load 68 = .ok (.iload_n 1, 1) := by decide +kernel
theorem dX7_load_69 : decode cX7_load 69 = .ok (.imul, 1) := by decide +kernel
theorem dX7_load_70 : decode cX7_load 70 = .ok (.iload_n 2, 1) := by decide +kernel
theorem dX7_load_71 : decode cX7_load 71 = .ok (.iadd, 1) := by decide +kernel
theorem dX7_load_72 : decode cX7_load 72 = .ok (.iaload, 1) := by decide +kernel
theorem dX7_load_73 : decode cX7_load 73 = .ok (.iastore, 1) := by decide +kernel
theorem dX7_load_74 : decode cX7_load 74 = .ok (.iinc 2 1, 3) := by decide +kernel
theorem dX7_load_77 : decode cX7_load 77 = .ok (.goto (-57), 3) := by decide +kernel
theorem dX7_load_80 : decode cX7_load 80 = .ok (.iload_n 2, 1) := by decide +kernel
theorem dX7_load_81 : decode cX7_load 81 = .ok (.ireturn, 1) := by decide +kernel
theorem dX7_judge_0 : decode cX7_judge 0 = .ok (.aload_n 0, 1) := by decide +kernel
theorem dX7_judge_1 : decode cX7_judge 1 = .ok (.iload_n 1, 1) := by decide +kernel
theorem dX7_judge_2 : decode cX7_judge 2 = .ok (.invokevirtual 224, 3) := by decide +kernel
theorem dX7_judge_5 : decode cX7_judge 5 = .ok (.ifCond .eq 13, 3) := by decide +kernel
theorem dX7_judge_8 : decode cX7_judge 8 = .ok (.aload_n 0, 1) := by decide +kernel
theorem dX7_judge_9 : decode cX7_judge 9 = .ok (.aload_n 0, 1) := by decide +kernel
theorem dX7_judge_10 : decode cX7_judge 10 = .ok (.iload_n 1, 1) := by decide +kernel
theorem dX7_judge_11 : decode cX7_judge 11 = .ok (.invokevirtual 224, 3) := by decide +kernel
theorem dX7_judge_14 : decode cX7_judge 14 = .ok (.invokevirtual 75, 3) := by decide +kernel
theorem dX7_judge_17 : decode cX7_judge 17 = .ok (.ireturn, 1) := by decide +kernel
theorem dX7_judge_18 : decode cX7_judge 18 = .ok (.aload_n 0, 1) := by decide +kernel
theorem dX7_judge_19 : decode cX7_judge 19 = .ok (.getfield 9, 3) := by decide +kernel
theorem dX7_judge_22 : decode cX7_judge 22 = .ok (.aload_n 0, 1) := by decide +kernel
theorem dX7_judge_23 : decode cX7_judge 23 = .ok (.getfield 16, 3) := by decide +kernel
theorem dX7_judge_26 : decode cX7_judge 26 = .ok (.invokestatic 70, 3) := by decide +kernel
theorem dX7_judge_29 : decode cX7_judge 29 = .ok (.iconst 0, 1) := by decide +kernel
theorem dX7_judge_30 : decode cX7_judge 30 = .ok (.istore_n 2, 1) := by decide +kernel
theorem dX7_judge_31 : decode cX7_judge 31 = .ok (.iconst 0, 1) := by decide +kernel
theorem dX7_judge_32 : decode cX7_judge 32 = .ok (.istore_n 3, 1) := by decide +kernel
theorem dX7_judge_33 : decode cX7_judge 33 = .ok (.iconst 1, 1) := by decide +kernel
theorem dX7_judge_34 : decode cX7_judge 34 = .ok (.istore 4, 2) := by decide +kernel
theorem dX7_judge_36 : decode cX7_judge 36 = .ok (.iload_n 2, 1) := by decide +kernel
theorem dX7_judge_37 : decode cX7_judge 37 = .ok (.aload_n 0, 1) := by decide +kernel
theorem dX7_judge_38 : decode cX7_judge 38 = .ok (.getfield 60, 3) := by decide +kernel
theorem dX7_judge_41 : decode cX7_judge 41 = .ok (.iload_n 1, 1) := by decide +kernel
theorem dX7_judge_42 : decode cX7_judge 42 = .ok (.iaload, 1) := by decide +kernel
theorem dX7_judge_43 : decode cX7_judge 43 = .ok (.if_icmp .ge 89, 3) := by decide +kernel
theorem dX7_judge_46 : decode cX7_judge 46 = .ok (.iload 4, 2) := by decide +kernel
theorem dX7_judge_48 : decode cX7_judge 48 = .ok (.ifCond .eq 84, 3) := by decide +kernel
theorem dX7_judge_51 : decode cX7_judge 51 = .ok (.aload_n 0, 1) := by decide +kernel
theorem dX7_judge_52 : decode cX7_judge 52 = .ok (.getfield 63, 3) := by decide +kernel
theorem dX7_judge_55 : decode cX7_judge 55 = .ok (.bipush 40, 2) := by decide +kernel
theorem dX7_judge_57 : decode cX7_judge 57 = .ok (.iload_n 1, 1) := by decide +kernel
theorem dX7_judge_58 : decode cX7_judge 58 = .ok (.imul, 1) := by decide +kernel
theorem dX7_judge_59 : decode cX7_judge 59 = .ok (.iload_n 2, 1) := by decide +kernel
theorem dX7_judge_60 : decode cX7_judge 60 = .ok (.iadd, 1) := by decide +kernel
theorem dX7_judge_61 : decode cX7_judge 61 = .ok (.iaload, 1) := by decide +kernel
theorem dX7_judge_62 : decode cX7_judge 62 = .ok (.istore 5, 2) := by decide +kernel
theorem dX7_judge_64 : decode cX7_judge 64 = .ok (.aload_n 0, 1) := by decide +kernel
theorem dX7_judge_65 : decode cX7_judge 65 = .ok (.iload 5, 2) := by decide +kernel
theorem dX7_judge_67 : decode cX7_judge 67 = .ok (.invokevirtual 126, 3) := by decide +kernel
theorem dX7_judge_70 : decode cX7_judge 70 = .ok (.ifCond .eq 27, 3) := by decide +kernel
theorem dX7_judge_73 : decode cX7_judge 73 = .ok (.iload_n 3, 1) := by decide +kernel
theorem dX7_judge_74 : decode cX7_judge 74 = .ok (.iload 5, 2) := by decide +kernel
theorem dX7_judge_76 : decode cX7_judge 76 = .ok (.invokestatic 155, 3) := by decide +kernel
theorem dX7_judge_79 : decode cX7_judge 79 = .ok (.ifCond .ne 18, 3) := by decide +kernel
theorem dX7_judge_82 : decode cX7_judge 82 = .ok (.aload_n 0, 1) := by decide +kernel
theorem dX7_judge_83 : decode cX7_judge 83 = .ok (.iload 5, 2) := by decide +kernel
theorem dX7_judge_85 : decode cX7_judge 85 = .ok (.invokevirtual 146, 3) := by decide +kernel
theorem dX7_judge_88 : decode cX7_judge 88 = .ok (.bipush 12, 2) := by decide +kernel
theorem dX7_judge_90 : decode cX7_judge 90 = .ok (.if_icmp .ne 7, 3) := by decide +kernel
theorem dX7_judge_93 : decode cX7_judge 93 = .ok (.iconst 1, 1) := by decide +kernel
theorem dX7_judge_94 : decode cX7_judge 94 = .ok (.goto 4, 3) := by decide +kernel
theorem dX7_judge_97 : decode cX7_judge 97 = .ok (.iconst 0, 1) := by decide +kernel
theorem dX7_judge_98 : decode cX7_judge 98 = .ok (.istore 4, 2) := by decide +kernel
theorem dX7_judge_100 : decode cX7_judge 100 = .ok (.iload_n 3, 1) := by decide +kernel
theorem dX7_judge_101 : decode cX7_judge 101 = .ok (.iload 4, 2) := by decide +kernel
theorem dX7_judge_103 : decode cX7_judge 103 = .ok (.ifCond .eq 10, 3) := by decide +kernel
theorem dX7_judge_106 : decode cX7_judge 106 = .ok (.iconst 1, 1) := by decide +kernel
theorem dX7_judge_107 : decode cX7_judge 107 = .ok (.iload 5, 2) := by decide +kernel
theorem dX7_judge_109 : decode cX7_judge 109 = .ok (.ishl, 1) := by decide +kernel
theorem dX7_judge_110 : decode cX7_judge 110 = .ok (.goto 4, 3) := by decide +kernel
theorem dX7_judge_113 : decode cX7_judge 113 = .ok (.iconst 0, 1) := by decide +kernel
theorem dX7_judge_114 : decode cX7_judge 114 = .ok (.ior, 1) := by decide +kernel
theorem dX7_judge_115 : decode cX7_judge 115 = .ok (.istore_n 3, 1) := by decide +kernel
theorem dX7_judge_116 : decode cX7_judge 116 = .ok (.iload_n 2, 1) := by decide +kernel
theorem dX7_judge_117 : decode cX7_judge 117 = .ok (.iload 4, 2) := by decide +kernel
theorem dX7_judge_119 : decode cX7_judge 119 = .ok (.ifCond .eq 7, 3) := by decide +kernel
theorem dX7_judge_122 : decode cX7_judge 122 = .ok (.iconst 1, 1) := by decide +kernel
theorem dX7_judge_123 : decode cX7_judge 123 = .ok (.goto 4, 3) := by decide +kernel
theorem dX7_judge_126 : decode cX7_judge 126 = .ok (.iconst 0, 1) := by decide +kernel
theorem dX7_judge_127 : decode cX7_judge 127 = .ok (.iadd, 1) := by decide +kernel
theorem dX7_judge_128 : decode cX7_judge 128 = .ok (.istore_n 2, 1) := by decide +kernel
theorem dX7_judge_129 : decode cX7_judge 129 = .ok (.goto (-93), 3) := by decide +kernel
theorem dX7_judge_132 : decode cX7_judge 132 = .ok (.aload_n 0, 1) := by decide +kernel
theorem dX7_judge_133 : decode cX7_judge 133 = .ok (.iload 4, 2) := by decide +kernel
theorem dX7_judge_135 : decode cX7_judge 135 = .ok (.ifCond .eq 7, 3) := by decide +kernel
theorem dX7_judge_138 : decode cX7_judge 138 = .ok (.iconst 0, 1) := by decide +kernel
theorem dX7_judge_139 : decode cX7_judge 139 = .ok (.goto 6, 3) := by decide +kernel
theorem dX7_judge_142 : decode cX7_judge 142 = .ok (.iconst 1, 1) := by decide +kernel
theorem dX7_judge_143 : decode cX7_judge 143 = .ok (.iload_n 2, 1) := by decide +kernel
theorem dX7_judge_144 : decode cX7_judge 144 = .ok (.iadd, 1) := by decide +kernel
theorem dX7_judge_145 : decode cX7_judge 145 = .ok (.invokevirtual 158, 3) := by decide +kernel
theorem dX7_judge_148 : decode cX7_judge 148 = .ok (.ireturn, 1) := by decide +kernel
theorem dX7_image_0 : decode cX7_image 0 = .ok (.aload_n 0, 1) := by decide +kernel
theorem dX7_image_1 : decode cX7_image 1 = .ok (.getfield 9, 3) := by decide +kernel
theorem dX7_image_4 : decode cX7_image 4 = .ok (.aload_n 0, 1) := by decide +kernel
theorem dX7_image_5 : decode cX7_image 5 = .ok (.getfield 13, 3) := by decide +kernel
theorem dX7_image_8 : decode cX7_image 8 = .ok (.invokestatic 70, 3) := by decide +kernel
theorem dX7_image_11 : decode cX7_image 11 = .ok (.aload_n 0, 1) := by decide +kernel
theorem dX7_image_12 : decode cX7_image 12 = .ok (.iconst 1, 1) := by decide +kernel
theorem dX7_image_13 : decode cX7_image 13 = .ok (.putfield 335, 3) := by decide +kernel
theorem dX7_image_16 : decode cX7_image 16 = .ok (.iconst 1, 1) := by decide +kernel
theorem dX7_image_17 : decode cX7_image 17 = .ok (.ireturn, 1) := by decide +kernel
theorem dX7_undo_0 : decode cX7_undo 0 = .ok (.aload_n 0, 1) := by decide +kernel
theorem dX7_undo_1 : decode cX7_undo 1 = .ok (.getfield 335, 3) := by decide +kernel
theorem dX7_undo_4 : decode cX7_undo 4 = .ok (.ifCond .ne 10, 3) := by decide +kernel
theorem dX7_undo_7 : decode cX7_undo 7 = .ok (.aload_n 0, 1) := by decide +kernel
theorem dX7_undo_8 : decode cX7_undo 8 = .ok (.ldc 74, 2) := by decide +kernel
theorem dX7_undo_10 : decode cX7_undo 10 = .ok (.invokevirtual 75, 3) := by decide +kernel
theorem dX7_undo_13 : decode cX7_undo 13 = .ok (.ireturn, 1) := by decide +kernel
theorem dX7_undo_14 : decode cX7_undo 14 = .ok (.aload_n 0, 1) := by decide +kernel
theorem dX7_undo_15 : decode cX7_undo 15 = .ok (.getfield 13, 3) := by decide +kernel
theorem dX7_undo_18 : decode cX7_undo 18 = .ok (.aload_n 0, 1) := by decide +kernel
theorem dX7_undo_19 : decode cX7_undo 19 = .ok (.getfield 9, 3) := by decide +kernel
theorem dX7_undo_22 : decode cX7_undo 22 = .ok (.invokestatic 70, 3) := by decide +kernel
theorem dX7_undo_25 : decode cX7_undo 25 = .ok (.aload_n 0, 1) := by decide +kernel
theorem dX7_undo_26 : decode cX7_undo 26 = .ok (.getfield 9, 3) := by decide +kernel
theorem dX7_undo_29 : decode cX7_undo 29 = .ok (.iconst 0, 1) := by decide +kernel
theorem dX7_undo_30 : decode cX7_undo 30 = .ok (.iaload, 1) := by decide +kernel
theorem dX7_undo_31 : decode cX7_undo 31 = .ok (.ireturn, 1) := by decide +kernel
theorem dX7_tear_0 : decode cX7_tear 0 = .ok (.aload_n 0, 1) := by decide +kernel
theorem dX7_tear_1 : decode cX7_tear 1 = .ok (.getfield 335, 3) := by decide +kernel
theorem dX7_tear_4 : decode cX7_tear 4 = .ok (.ifCond .eq 7, 3) := by decide +kernel
theorem dX7_tear_7 : decode cX7_tear 7 = .ok (.iconst 1, 1) := by decide +kernel
theorem dX7_tear_8 : decode cX7_tear 8 = .ok (.goto 4, 3) := by decide +kernel
theorem dX7_tear_11 : decode cX7_tear 11 = .ok (.iconst 0, 1) := by decide +kernel
theorem dX7_tear_12 : decode cX7_tear 12 = .ok (.istore_n 1, 1) := by decide +kernel
theorem dX7_tear_13 : decode cX7_tear 13 = .ok (.aload_n 0, 1) := by decide +kernel
theorem dX7_tear_14 : decode cX7_tear 14 = .ok (.iconst 0, 1) := by decide +kernel
theorem dX7_tear_15 : decode cX7_tear 15 = .ok (.putfield 335, 3) := by decide +kernel
theorem dX7_tear_18 : decode cX7_tear 18 = .ok (.iload_n 1, 1) := by decide +kernel
theorem dX7_tear_19 : decode cX7_tear 19 = .ok (.ireturn, 1) := by decide +kernel
theorem dX7_count_0 : decode cX7_count 0 = .ok (.iconst 0, 1) := by decide +kernel
theorem dX7_count_1 : decode cX7_count 1 = .ok (.istore_n 2, 1) := by decide +kernel
theorem dX7_count_2 : decode cX7_count 2 = .ok (.iload_n 1, 1) := by decide +kernel
theorem dX7_count_3 : decode cX7_count 3 = .ok (.tableswitch 123 0 7 #[45, 52, 59, 65, 71, 76, 81, 88], 45) := by decide +kernel
theorem dX7_count_48 : decode cX7_count 48 = .ok (.aload_n 0, 1) := by decide +kernel
theorem dX7_count_49 : decode cX7_count 49 = .ok (.getfield 9, 3) := by decide +kernel
theorem dX7_count_52 : decode cX7_count 52 = .ok (.iconst 0, 1) := by decide +kernel
theorem dX7_count_53 : decode cX7_count 53 = .ok (.iaload, 1) := by decide +kernel
theorem dX7_count_54 : decode cX7_count 54 = .ok (.ireturn, 1) := by decide +kernel
theorem dX7_count_55 : decode cX7_count 55 = .ok (.aload_n 0, 1) := by decide +kernel
theorem dX7_count_56 : decode cX7_count 56 = .ok (.getfield 9, 3) := by decide +kernel
theorem dX7_count_59 : decode cX7_count 59 = .ok (.iconst 1, 1) := by decide +kernel
theorem dX7_count_60 : decode cX7_count 60 = .ok (.iaload, 1) := by decide +kernel
theorem dX7_count_61 : decode cX7_count 61 = .ok (.ireturn, 1) := by decide +kernel
theorem dX7_count_62 : decode cX7_count 62 = .ok (.aload_n 0, 1) := by decide +kernel
theorem dX7_count_63 : decode cX7_count 63 = .ok (.iconst 3, 1) := by decide +kernel
theorem dX7_count_64 : decode cX7_count 64 = .ok (.invokevirtual 171, 3) := by decide +kernel
theorem dX7_count_67 : decode cX7_count 67 = .ok (.ireturn, 1) := by decide +kernel
theorem dX7_count_68 : decode cX7_count 68 = .ok (.aload_n 0, 1) := by decide +kernel
theorem dX7_count_69 : decode cX7_count 69 = .ok (.iconst 1, 1) := by decide +kernel
theorem dX7_count_70 : decode cX7_count 70 = .ok (.invokevirtual 171, 3) := by decide +kernel
theorem dX7_count_73 : decode cX7_count 73 = .ok (.ireturn, 1) := by decide +kernel
theorem dX7_count_74 : decode cX7_count 74 = .ok (.aload_n 0, 1) := by decide +kernel
theorem dX7_count_75 : decode cX7_count 75 = .ok (.invokevirtual 164, 3) := by decide +kernel
theorem dX7_count_78 : decode cX7_count 78 = .ok (.ireturn, 1) := by decide +kernel
theorem dX7_count_79 : decode cX7_count 79 = .ok (.aload_n 0, 1) := by decide +kernel
theorem dX7_count_80 : decode cX7_count 80 = .ok (.getfield 243, 3) := by decide +kernel
theorem dX7_count_83 : decode cX7_count 83 = .ok (.ireturn, 1) := by decide +kernel
theorem dX7_count_84 : decode cX7_count 84 = .ok (.aload_n 0, 1) := by decide +kernel
theorem dX7_count_85 : decode cX7_count 85 = .ok (.getfield 9, 3) := by decide +kernel
theorem dX7_count_88 : decode cX7_count 88 = .ok (.iconst 2, 1) := by decide +kernel
theorem dX7_count_89 : decode cX7_count 89 = .ok (.iaload, 1) := by decide +kernel
theorem dX7_count_90 : decode cX7_count 90 = .ok (.ireturn, 1) := by decide +kernel
theorem dX7_count_91 : decode cX7_count 91 = .ok (.iconst 0, 1) := by decide +kernel
theorem dX7_count_92 : decode cX7_count 92 = .ok (.istore_n 3, 1) := by decide +kernel
theorem dX7_count_93 : decode cX7_count 93 = .ok (.iload_n 3, 1) := by decide +kernel
theorem dX7_count_94 : decode cX7_count 94 = .ok (.bipush 10, 2) := by decide +kernel
theorem dX7_count_96 : decode cX7_count 96 = .ok (.if_icmp .ge 28, 3) := by decide +kernel
theorem dX7_count_99 : decode cX7_count 99 = .ok (.iload_n 2, 1) := by decide +kernel
theorem dX7_count_100 : decode cX7_count 100 = .ok (.aload_n 0, 1) := by decide +kernel
theorem dX7_count_101 : decode cX7_count 101 = .ok (.getfield 9, 3) := by decide +kernel
theorem dX7_count_104 : decode cX7_count 104 = .ok (.iconst 4, 1) := by decide +kernel
theorem dX7_count_105 : decode cX7_count 105 = .ok (.iload_n 3, 1) := by decide +kernel
theorem dX7_count_106 : decode cX7_count 106 = .ok (.iadd, 1) := by decide +kernel
theorem dX7_count_107 : decode cX7_count 107 = .ok (.iaload, 1) := by decide +kernel
theorem dX7_count_108 : decode cX7_count 108 = .ok (.ifCond .ge 7, 3) := by decide +kernel
theorem dX7_count_111 : decode cX7_count 111 = .ok (.iconst 0, 1) := by decide +kernel
theorem dX7_count_112 : decode cX7_count 112 = .ok (.goto 4, 3) := by decide +kernel
theorem dX7_count_115 : decode cX7_count 115 = .ok (.iconst 1, 1) := by decide +kernel
theorem dX7_count_116 : decode cX7_count 116 = .ok (.iadd, 1) := by decide +kernel
theorem dX7_count_117 : decode cX7_count 117 = .ok (.istore_n 2, 1) := by decide +kernel
theorem dX7_count_118 : decode cX7_count 118 = .ok (.iinc 3 1, 3) := by decide +kernel
theorem dX7_count_121 : decode cX7_count 121 = .ok (.goto (-28), 3) := by decide +kernel
theorem dX7_count_124 : decode cX7_count 124 = .ok (.iload_n 2, 1) := by decide +kernel
theorem dX7_count_125 : decode cX7_count 125 = .ok (.ireturn, 1) := by decide +kernel
theorem dX7_count_126 : decode cX7_count 126 = .ok (.aload_n 0, 1) := by decide +kernel
theorem dX7_count_127 : decode cX7_count 127 = .ok (.ldc 69, 2) := by decide +kernel
theorem dX7_count_129 : decode cX7_count 129 = .ok (.invokevirtual 75, 3) := by decide +kernel
theorem dX7_count_132 : decode cX7_count 132 = .ok (.ireturn, 1) := by decide +kernel
theorem dX7_status_0 : decode cX7_status 0 = .ok (.iload_n 1, 1) := by decide +kernel
theorem dX7_status_1 : decode cX7_status 1 = .ok (.iconst (-1), 1) := by decide +kernel
theorem dX7_status_2 : decode cX7_status 2 = .ok (.bipush 6, 2) := by decide +kernel
theorem dX7_status_4 : decode cX7_status 4 = .ok (.invokestatic 88, 3) := by decide +kernel
theorem dX7_status_7 : decode cX7_status 7 = .ok (.ifCond .eq 14, 3) := by decide +kernel
theorem dX7_status_10 : decode cX7_status 10 = .ok (.aload_n 0, 1) := by decide +kernel
theorem dX7_status_11 : decode cX7_status 11 = .ok (.getfield 19, 3) := by decide +kernel
theorem dX7_status_14 : decode cX7_status 14 = .ok (.iload_n 1, 1) := by decide +kernel
theorem dX7_status_15 : decode cX7_status 15 = .ok (.iconst 1, 1) := by decide +kernel
theorem dX7_status_16 : decode cX7_status 16 = .ok (.iadd, 1) := by decide +kernel
theorem dX7_status_17 : decode cX7_status 17 = .ok (.iaload, 1) := by decide +kernel
theorem dX7_status_18 : decode cX7_status 18 = .ok (.goto 9, 3) := by decide +kernel
theorem dX7_status_21 : decode cX7_status 21 = .ok (.aload_n 0, 1) := by decide +kernel
theorem dX7_status_22 : decode cX7_status 22 = .ok (.ldc 69, 2) := by decide +kernel
theorem dX7_status_24 : decode cX7_status 24 = .ok (.invokevirtual 75, 3) := by decide +kernel
theorem dX7_status_27 : decode cX7_status 27 = .ok (.ireturn, 1) := by decide +kernel
