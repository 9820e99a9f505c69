theorem dL_isChance_11 : decode cL_isChance 11 = .ok (.sipush 900, 3) := by decide +kernel
theorem dL_isChance_14 : decode cL_isChance 14 = .ok (.irem, 1) := by decide +kernel
theorem dL_isChance_15 : decode cL_isChance 15 = .ok (.istore 4, 2) := by decide +kernel
theorem dL_isChance_17 : decode cL_isChance 17 = .ok (.aload_n 0, 1) := by decide +kernel
theorem dL_isChance_18 : decode cL_isChance 18 = .ok (.iload_n 2, 1) := by decide +kernel
theorem dL_isChance_19 : decode cL_isChance 19 = .ok (.iload 4, 2) := by decide +kernel
theorem dL_isChance_21 : decode cL_isChance 21 = .ok (.iload_n 3, 1) := by decide +kernel
theorem dL_isChance_22 : decode cL_isChance 22 = .ok (.iconst 0, 1) := by decide +kernel
theorem dL_isChance_23 : decode cL_isChance 23 = .ok (.invokevirtual 106, 3) := by decide +kernel
theorem dL_isChance_26 : decode cL_isChance 26 = .ok (.istore 5, 2) := by decide +kernel
theorem dL_isChance_28 : decode cL_isChance 28 = .ok (.aload_n 0, 1) := by decide +kernel
theorem dL_isChance_29 : decode cL_isChance 29 = .ok (.iload_n 2, 1) := by decide +kernel
theorem dL_isChance_30 : decode cL_isChance 30 = .ok (.iload 4, 2) := by decide +kernel
theorem dL_isChance_32 : decode cL_isChance 32 = .ok (.iload_n 3, 1) := by decide +kernel
theorem dL_isChance_33 : decode cL_isChance 33 = .ok (.iconst 1, 1) := by decide +kernel
theorem dL_isChance_34 : decode cL_isChance 34 = .ok (.invokevirtual 106, 3) := by decide +kernel
theorem dL_isChance_37 : decode cL_isChance 37 = .ok (.istore 6, 2) := by decide +kernel
theorem dL_isChance_39 : decode cL_isChance 39 = .ok (.aload_n 0, 1) := by decide +kernel
theorem dL_isChance_40 : decode cL_isChance 40 = .ok (.iload_n 2, 1) := by decide +kernel
theorem dL_isChance_41 : decode cL_isChance 41 = .ok (.invokevirtual 80, 3) := by decide +kernel
theorem dL_isChance_44 : decode cL_isChance 44 = .ok (.istore 7, 2) := by decide +kernel
theorem dL_isChance_46 : decode cL_isChance 46 = .ok (.iload 7, 2) := by decide +kernel
theorem dL_isChance_48 : decode cL_isChance 48 = .ok (.ifCond .ne 19, 3) := by decide +kernel
theorem dL_isChance_51 : decode cL_isChance 51 = .ok (.iload 5, 2) := by decide +kernel
theorem dL_isChance_53 : decode cL_isChance 53 = .ok (.ifCond .ne 12, 3) := by decide +kernel
theorem dL_isChance_56 : decode cL_isChance 56 = .ok (.iload 6, 2) := by decide +kernel
theorem dL_isChance_58 : decode cL_isChance 58 = .ok (.ifCond .ne 7, 3) := by decide +kernel
theorem dL_isChance_61 : decode cL_isChance 61 = .ok (.iconst 1, 1) := by decide +kernel
theorem dL_isChance_62 : decode cL_isChance 62 = .ok (.goto 4, 3) := by decide +kernel
theorem dL_isChance_65 : decode cL_isChance 65 = .ok (.iconst 0, 1) := by decide +kernel
theorem dL_isChance_66 : decode cL_isChance 66 = .ok (.ireturn, 1) := by decide +kernel
theorem dL_isChance_67 : decode cL_isChance 67 = .ok (.iload 5, 2) := by decide +kernel
theorem dL_isChance_69 : decode cL_isChance 69 = .ok (.ifCond .lt 66, 3) := by decide +kernel
theorem dL_isChance_72 : decode cL_isChance 72 = .ok (.iload 5, 2) := by decide +kernel
theorem dL_isChance_74 : decode cL_isChance 74 = .ok (.iload 6, 2) := by decide +kernel
theorem dL_isChance_76 : decode cL_isChance 76 = .ok (.if_icmp .gt 59, 3) := by decide +kernel
theorem dL_isChance_79 : decode cL_isChance 79 = .ok (.iload 5, 2) := by decide +kernel
theorem dL_isChance_81 : decode cL_isChance 81 = .ok (.ifCond .gt 9, 3) := by decide +kernel
theorem dL_isChance_84 : decode cL_isChance 84 = .ok (.iload 6, 2) := by decide +kernel
theorem dL_isChance_86 : decode cL_isChance 86 = .ok (.iconst 1, 1) := by decide +kernel
theorem dL_isChance_87 : decode cL_isChance 87 = .ok (.if_icmp .ne 48, 3) := by decide +kernel
theorem dL_isChance_90 : decode cL_isChance 90 = .ok (.iload_n 3, 1) := by decide +kernel
theorem dL_isChance_91 : decode cL_isChance 91 = .ok (.iconst 3, 1) := by decide +kernel
theorem dL_isChance_92 : decode cL_isChance 92 = .ok (.if_icmp .ge 13, 3) := by decide +kernel
theorem dL_isChance_95 : decode cL_isChance 95 = .ok (.iload 6, 2) := by decide +kernel
theorem dL_isChance_97 : decode cL_isChance 97 = .ok (.iload 7, 2) := by decide +kernel
theorem dL_isChance_99 : decode cL_isChance 99 = .ok (.if_icmp .gt 36, 3) := by decide +kernel
theorem dL_isChance_102 : decode cL_isChance 102 = .ok (.goto 11, 3) := by decide +kernel
theorem dL_isChance_105 : decode cL_isChance 105 = .ok (.iload 7, 2) := by decide +kernel
theorem dL_isChance_107 : decode cL_isChance 107 = .ok (.iload 6, 2) := by decide +kernel
theorem dL_isChance_109 : decode cL_isChance 109 = .ok (.irem, 1) := by decide +kernel
theorem dL_isChance_110 : decode cL_isChance 110 = .ok (.ifCond .ne 25, 3) := by decide +kernel
theorem dL_isChance_113 : decode cL_isChance 113 = .ok (.iload_n 3, 1) := by decide +kernel
theorem dL_isChance_114 : decode cL_isChance 114 = .ok (.iconst 1, 1) := by decide +kernel
theorem dL_isChance_115 : decode cL_isChance 115 = .ok (.if_icmp .gt 16, 3) := by decide +kernel
theorem dL_isChance_118 : decode cL_isChance 118 = .ok (.aload_n 0, 1) := by decide +kernel
theorem dL_isChance_119 : decode cL_isChance 119 = .ok (.iload_n 2, 1) := by decide +kernel
theorem dL_isChance_120 : decode cL_isChance 120 = .ok (.iload 4, 2) := by decide +kernel
theorem dL_isChance_122 : decode cL_isChance 122 = .ok (.invokevirtual 83, 3) := by decide +kernel
theorem dL_isChance_125 : decode cL_isChance 125 = .ok (.iload 6, 2) := by decide +kernel
theorem dL_isChance_127 : decode cL_isChance 127 = .ok (.irem, 1) := by decide +kernel
theorem dL_isChance_128 : decode cL_isChance 128 = .ok (.ifCond .ne 7, 3) := by decide +kernel
theorem dL_isChance_131 : decode cL_isChance 131 = .ok (.iconst 1, 1) := by decide +kernel
theorem dL_isChance_132 : decode cL_isChance 132 = .ok (.goto 4, 3) := by decide +kernel
theorem dL_isChance_135 : decode cL_isChance 135 = .ok (.iconst 0, 1) := by decide +kernel
theorem dL_isChance_136 : decode cL_isChance 136 = .ok (.istore 8, 2) := by decide +kernel
theorem dL_isChance_138 : decode cL_isChance 138 = .ok (.iconst 2, 1) := by decide +kernel
theorem dL_isChance_139 : decode cL_isChance 139 = .ok (.istore 9, 2) := by decide +kernel
theorem dL_isChance_141 : decode cL_isChance 141 = .ok (.iload 9, 2) := by decide +kernel
theorem dL_isChance_143 : decode cL_isChance 143 = .ok (.iload 6, 2) := by decide +kernel
theorem dL_isChance_145 : decode cL_isChance 145 = .ok (.if_icmp .gt 44, 3) := by decide +kernel
theorem dL_isChance_148 : decode cL_isChance 148 = .ok (.iload 9, 2) := by decide +kernel
theorem dL_isChance_150 : decode cL_isChance 150 = .ok (.bipush 100, 2) := by decide +kernel
theorem dL_isChance_152 : decode cL_isChance 152 = .ok (.if_icmp .ge 37, 3) := by decide +kernel
theorem dL_isChance_155 : decode cL_isChance 155 = .ok (.iload 8, 2) := by decide +kernel
theorem dL_isChance_157 : decode cL_isChance 157 = .ok (.ifCond .eq 23, 3) := by decide +kernel
theorem dL_isChance_160 : decode cL_isChance 160 = .ok (.iload 5, 2) := by decide +kernel
theorem dL_isChance_162 : decode cL_isChance 162 = .ok (.iload 9, 2) := by decide +kernel
theorem dL_isChance_164 : decode cL_isChance 164 = .ok (.irem, 1) := by decide +kernel
theorem dL_isChance_165 : decode cL_isChance 165 = .ok (.ifCond .gt 11, 3) := by decide +kernel
theorem dL_isChance_168 : decode cL_isChance 168 = .ok (.iload 6, 2) := by decide +kernel
theorem dL_isChance_170 : decode cL_isChance 170 = .ok (.iload 9, 2) := by decide +kernel
theorem dL_isChance_172 : decode cL_isChance 172 = .ok (.irem, 1) := by decide +kernel
theorem dL_isChance_173 : decode cL_isChance 173 = .ok (.ifCond .le 7, 3) := by decide +kernel
theorem dL_isChance_176 : decode cL_isChance 176 = .ok (.iconst 1, 1) := by decide +kernel
theorem dL_isChance_177 : decode cL_isChance 177 = .ok (.goto 4, 3) := by decide +kernel
theorem dL_isChance_180 : decode cL_isChance 180 = .ok (.iconst 0, 1) := by decide +kernel
theorem dL_isChance_181 : decode cL_isChance 181 = .ok (.istore 8, 2) := by decide +kernel
theorem dL_isChance_183 : decode cL_isChance 183 = .ok (.iinc 9 1, 3) := by decide +kernel
theorem dL_isChance_186 : decode cL_isChance 186 = .ok (.goto (-45), 3) := by decide +kernel
theorem dL_isChance_189 : decode cL_isChance 189 = .ok (.iload 8, 2) := by decide +kernel
theorem dL_isChance_191 : decode cL_isChance 191 = .ok (.ireturn, 1) := by decide +kernel
theorem dL_areFamilies_0 : decode cL_areFamilies 0 = .ok (.iconst 0, 1) := by decide +kernel
theorem dL_areFamilies_1 : decode cL_areFamilies 1 = .ok (.istore 4, 2) := by decide +kernel
theorem dL_areFamilies_3 : decode cL_areFamilies 3 = .ok (.iconst 1, 1) := by decide +kernel
theorem dL_areFamilies_4 : decode cL_areFamilies 4 = .ok (.istore 5, 2) := by decide +kernel
theorem dL_areFamilies_6 : decode cL_areFamilies 6 = .ok (.iconst 0, 1) := by decide +kernel
theorem dL_areFamilies_7 : decode cL_areFamilies 7 = .ok (.istore 6, 2) := by decide +kernel
theorem dL_areFamilies_9 : decode cL_areFamilies 9 = .ok (.iload 6, 2) := by decide +kernel
theorem dL_areFamilies_11 : decode cL_areFamilies 11 = .ok (.aload_n 3, 1) := by decide +kernel
theorem dL_areFamilies_12 : decode cL_areFamilies 12 = .ok (.iconst 3, 1) := by decide +kernel
theorem dL_areFamilies_13 : decode cL_areFamilies 13 = .ok (.iaload, 1) := by decide +kernel
theorem dL_areFamilies_14 : decode cL_areFamilies 14 = .ok (.if_icmp .ge 308, 3) := by decide +kernel
theorem dL_areFamilies_17 : decode cL_areFamilies 17 = .ok (.iload 5, 2) := by decide +kernel
theorem dL_areFamilies_19 : decode cL_areFamilies 19 = .ok (.ifCond .eq 303, 3) := by decide +kernel
theorem dL_areFamilies_22 : decode cL_areFamilies 22 = .ok (.aload_n 0, 1) := by decide +kernel
theorem dL_areFamilies_23 : decode cL_areFamilies 23 = .ok (.iload 6, 2) := by decide +kernel
theorem dL_areFamilies_25 : decode cL_areFamilies 25 = .ok (.iload_n 1, 1) := by decide +kernel
theorem dL_areFamilies_26 : decode cL_areFamilies 26 = .ok (.invokevirtual 110, 3) := by decide +kernel
theorem dL_areFamilies_29 : decode cL_areFamilies 29 = .ok (.istore 7, 2) := by decide +kernel
theorem dL_areFamilies_31 : decode cL_areFamilies 31 = .ok (.iload 4, 2) := by decide +kernel
theorem dL_areFamilies_33 : decode cL_areFamilies 33 = .ok (.iload 7, 2) := by decide +kernel
theorem dL_areFamilies_35 : decode cL_areFamilies 35 = .ok (.iload 6, 2) := by decide +kernel
theorem dL_areFamilies_37 : decode cL_areFamilies 37 = .ok (.if_icmp .ne 7, 3) := by decide +kernel
theorem dL_areFamilies_40 : decode cL_areFamilies 40 = .ok (.iconst 1, 1) := by decide +kernel
theorem dL_areFamilies_41 : decode cL_areFamilies 41 = .ok (.goto 4, 3) := by decide +kernel
theorem dL_areFamilies_44 : decode cL_areFamilies 44 = .ok (.iconst 0, 1) := by decide +kernel
theorem dL_areFamilies_45 : decode cL_areFamilies 45 = .ok (.iadd, 1) := by decide +kernel
theorem dL_areFamilies_46 : decode cL_areFamilies 46 = .ok (.istore 4, 2) := by decide +kernel
theorem dL_areFamilies_48 : decode cL_areFamilies 48 = .ok (.aload_n 2, 1) := by decide +kernel
theorem dL_areFamilies_49 : decode cL_areFamilies 49 = .ok (.iconst 5, 1) := by decide +kernel
theorem dL_areFamilies_50 : decode cL_areFamilies 50 = .ok (.iload 6, 2) := by decide +kernel
theorem dL_areFamilies_52 : decode cL_areFamilies 52 = .ok (.imul, 1) := by decide +kernel
theorem dL_areFamilies_53 : decode cL_areFamilies 53 = .ok (.iconst 2, 1) := by decide +kernel
theorem dL_areFamilies_54 : decode cL_areFamilies 54 = .ok (.iadd, 1) := by decide +kernel
theorem dL_areFamilies_55 : decode cL_areFamilies 55 = .ok (.iaload, 1) := by decide +kernel
theorem dL_areFamilies_56 : decode cL_areFamilies 56 = .ok (.ifCond .ne 17, 3) := by decide +kernel
theorem dL_areFamilies_59 : decode cL_areFamilies 59 = .ok (.iload 7, 2) := by decide +kernel
theorem dL_areFamilies_61 : decode cL_areFamilies 61 = .ok (.iconst (-1), 1) := by decide +kernel
theorem dL_areFamilies_62 : decode cL_areFamilies 62 = .ok (.if_icmp .ne 7, 3) := by decide +kernel
theorem dL_areFamilies_65 : decode cL_areFamilies 65 = .ok (.iconst 1, 1) := by decide +kernel
theorem dL_areFamilies_66 : decode cL_areFamilies 66 = .ok (.goto 59, 3) := by decide +kernel
theorem dL_areFamilies_69 : decode cL_areFamilies 69 = .ok (.iconst 0, 1) := by decide +kernel
theorem dL_areFamilies_70 : decode cL_areFamilies 70 = .ok (.goto 55, 3) := by decide +kernel
theorem dL_areFamilies_73 : decode cL_areFamilies 73 = .ok (.iload 7, 2) := by decide +kernel
theorem dL_areFamilies_75 : decode cL_areFamilies 75 = .ok (.ifCond .lt 49, 3) := by decide +kernel
theorem dL_areFamilies_78 : decode cL_areFamilies 78 = .ok (.aload_n 2, 1) := by decide +kernel
theorem dL_areFamilies_79 : decode cL_areFamilies 79 = .ok (.iconst 5, 1) := by decide +kernel
theorem dL_areFamilies_80 : decode cL_areFamilies 80 = .ok (.iload 7, 2) := by decide +kernel
theorem dL_areFamilies_82 : decode cL_areFamilies 82 = .ok (.imul, 1) := by decide +kernel
theorem dL_areFamilies_83 : decode cL_areFamilies 83 = .ok (.iconst 2, 1) := by decide +kernel
theorem dL_areFamilies_84 : decode cL_areFamilies 84 = .ok (.iadd, 1) := by decide +kernel
theorem dL_areFamilies_85 : decode cL_areFamilies 85 = .ok (.iaload, 1) := by decide +kernel
theorem dL_areFamilies_86 : decode cL_areFamilies 86 = .ok (.ifCond .le 38, 3) := by decide +kernel
theorem dL_areFamilies_89 : decode cL_areFamilies 89 = .ok (.aload_n 2, 1) := by decide +kernel
theorem dL_areFamilies_90 : decode cL_areFamilies 90 = .ok (.iconst 5, 1) := by decide +kernel
theorem dL_areFamilies_91 : decode cL_areFamilies 91 = .ok (.iload 7, 2) := by decide +kernel
theorem dL_areFamilies_93 : decode cL_areFamilies 93 = .ok (.imul, 1) := by decide +kernel
theorem dL_areFamilies_94 : decode cL_areFamilies 94 = .ok (.iconst 2, 1) := by decide +kernel
theorem dL_areFamilies_95 : decode cL_areFamilies 95 = .ok (.iadd, 1) := by decide +kernel
theorem dL_areFamilies_96 : decode cL_areFamilies 96 = .ok (.iaload, 1) := by decide +kernel
theorem dL_areFamilies_97 : decode cL_areFamilies 97 = .ok (.aload_n 2, 1) := by decide +kernel
theorem dL_areFamilies_98 : decode cL_areFamilies 98 = .ok (.iconst 5, 1) := by decide +kernel
theorem dL_areFamilies_99 : decode cL_areFamilies 99 = .ok (.iload 6, 2) := by decide +kernel
theorem dL_areFamilies_101 : decode cL_areFamilies 101 = .ok (.imul, 1) := by decide +kernel
theorem dL_areFamilies_102 : decode cL_areFamilies 102 = .ok (.iconst 2, 1) := by decide +kernel
theorem dL_areFamilies_103 : decode cL_areFamilies 103 = .ok (.iadd, 1) := by decide +kernel
theorem dL_areFamilies_104 : decode cL_areFamilies 104 = .ok (.iaload, 1) := by decide +kernel
theorem dL_areFamilies_105 : decode cL_areFamilies 105 = .ok (.if_icmp .gt 19, 3) := by decide +kernel
theorem dL_areFamilies_108 : decode cL_areFamilies 108 = .ok (.aload_n 0, 1) := by decide +kernel
theorem dL_areFamilies_109 : decode cL_areFamilies 109 = .ok (.iload 7, 2) := by decide +kernel
theorem dL_areFamilies_111 : decode cL_areFamilies 111 = .ok (.iload_n 1, 1) := by decide +kernel
theorem dL_areFamilies_112 : decode cL_areFamilies 112 = .ok (.invokevirtual 110, 3) := by decide +kernel
theorem dL_areFamilies_115 : decode cL_areFamilies 115 = .ok (.iload 7, 2) := by decide +kernel
theorem dL_areFamilies_117 : decode cL_areFamilies 117 = .ok (.if_icmp .ne 7, 3) := by decide +kernel
theorem dL_areFamilies_120 : decode cL_areFamilies 120 = .ok (.iconst 1, 1) := by decide +kernel
theorem dL_areFamilies_121 : decode cL_areFamilies 121 = .ok (.goto 4, 3) := by decide +kernel
theorem dL_areFamilies_124 : decode cL_areFamilies 124 = .ok (.iconst 0, 1) := by decide +kernel
theorem dL_areFamilies_125 : decode cL_areFamilies 125 = .ok (.istore 5, 2) := by decide +kernel
theorem dL_areFamilies_127 : decode cL_areFamilies 127 = .ok (.iconst 0, 1) := by decide +kernel
theorem dL_areFamilies_128 : decode cL_areFamilies 128 = .ok (.istore 8, 2) := by decide +kernel
theorem dL_areFamilies_130 : decode cL_areFamilies 130 = .ok (.iload 8, 2) := by decide +kernel
theorem dL_areFamilies_132 : decode cL_areFamilies 132 = .ok (.iload 6, 2) := by decide +kernel
theorem dL_areFamilies_134 : decode cL_areFamilies 134 = .ok (.if_icmp .ge 182, 3) := by decide +kernel
theorem dL_areFamilies_137 : decode cL_areFamilies 137 = .ok (.iload 5, 2) := by decide +kernel
theorem dL_areFamilies_139 : decode cL_areFamilies 139 = .ok (.ifCond .eq 177, 3) := by decide +kernel
theorem dL_areFamilies_142 : decode cL_areFamilies 142 = .ok (.aload_n 2, 1) := by decide +kernel
theorem dL_areFamilies_143 : decode cL_areFamilies 143 = .ok (.iconst 5, 1) := by decide +kernel
theorem dL_areFamilies_144 : decode cL_areFamilies 144 = .ok (.iload 6, 2) := by decide +kernel
theorem dL_areFamilies_146 : decode cL_areFamilies 146 = .ok (.imul, 1) := by decide +kernel
theorem dL_areFamilies_147 : decode cL_areFamilies 147 = .ok (.iconst 3, 1) := by decide +kernel
theorem dL_areFamilies_148 : decode cL_areFamilies 148 = .ok (.iadd, 1) := by decide +kernel
theorem dL_areFamilies_149 : decode cL_areFamilies 149 = .ok (.iaload, 1) := by decide +kernel
theorem dL_areFamilies_150 : decode cL_areFamilies 150 = .ok (.aload_n 2, 1) := by decide +kernel
theorem dL_areFamilies_151 : decode cL_areFamilies 151 = .ok (.iconst 5, 1) := by decide +kernel
theorem dL_areFamilies_152 : decode cL_areFamilies 152 = .ok (.iload 8, 2) := by decide +kernel
theorem dL_areFamilies_154 : decode cL_areFamilies 154 = .ok (.imul, 1) := by decide +kernel
theorem dL_areFamilies_155 : decode cL_areFamilies 155 = .ok (.iconst 3, 1) := by decide +kernel
theorem dL_areFamilies_156 : decode cL_areFamilies 156 = .ok (.iadd, 1) := by decide +kernel
theorem dL_areFamilies_157 : decode cL_areFamilies 157 = .ok (.iaload, 1) := by decide +kernel
theorem dL_areFamilies_158 : decode cL_areFamilies 158 = .ok (.if_icmp .ge 23, 3) := by decide +kernel
theorem dL_areFamilies_161 : decode cL_areFamilies 161 = .ok (.aload_n 2, 1) := by decide +kernel
theorem dL_areFamilies_162 : decode cL_areFamilies 162 = .ok (.iconst 5, 1) := by decide +kernel
theorem dL_areFamilies_163 : decode cL_areFamilies 163 = .ok (.iload 8, 2) := by decide +kernel
theorem dL_areFamilies_165 : decode cL_areFamilies 165 = .ok (.imul, 1) := by decide +kernel
theorem dL_areFamilies_166 : decode cL_areFamilies 166 = .ok (.iconst 3, 1) := by decide +kernel
theorem dL_areFamilies_167 : decode cL_areFamilies 167 = .ok (.iadd, 1) := by decide +kernel
theorem dL_areFamilies_168 : decode cL_areFamilies 168 = .ok (.iaload, 1) := by decide +kernel
theorem dL_areFamilies_169 : decode cL_areFamilies 169 = .ok (.aload_n 2, 1) := by decide +kernel
theorem dL_areFamilies_170 : decode cL_areFamilies 170 = .ok (.iconst 5, 1) := by decide +kernel
theorem dL_areFamilies_171 : decode cL_areFamilies 171 = .ok (.iload 6, 2) := by decide +kernel
theorem dL_areFamilies_173 : decode cL_areFamilies 173 = .ok (.imul, 1) := by decide +kernel
theorem dL_areFamilies_174 : decode cL_areFamilies 174 = .ok (.iconst 3, 1) := by decide +kernel
theorem dL_areFamilies_175 : decode cL_areFamilies 175 = .ok (.iadd, 1) := by decide +kernel
theorem dL_areFamilies_176 : decode cL_areFamilies 176 = .ok (.iaload, 1) := by decide +kernel
theorem dL_areFamilies_177 : decode cL_areFamilies 177 = .ok (.isub, 1) := by decide +kernel
theorem dL_areFamilies_178 : decode cL_areFamilies 178 = .ok (.goto 20, 3) := by decide +kernel
theorem dL_areFamilies_181 : decode cL_areFamilies 181 = .ok (.aload_n 2, 1) := by decide +kernel
theorem dL_areFamilies_182 : decode cL_areFamilies 182 = .ok (.iconst 5, 1) := by decide +kernel
theorem dL_areFamilies_183 : decode cL_areFamilies 183 = .ok (.iload 6, 2) := by decide +kernel
theorem dL_areFamilies_185 : decode cL_areFamilies 185 = .ok (.imul, 1) := by decide +kernel
theorem dL_areFamilies_186 : decode cL_areFamilies 186 = .ok (.iconst 3, 1) := by decide +kernel
theorem dL_areFamilies_187 : decode cL_areFamilies 187 = .ok (.iadd, 1) := by decide +kernel
theorem dL_areFamilies_188 : decode cL_areFamilies 188 = .ok (.iaload, 1) := by decide +kernel
theorem dL_areFamilies_189 : decode cL_areFamilies 189 = .ok (.aload_n 2, 1) := by decide +kernel
theorem dL_areFamilies_190 : decode cL_areFamilies 190 = .ok (.iconst 5, 1) := by decide +kernel
theorem dL_areFamilies_191 : decode cL_areFamilies 191 = .ok (.iload 8, 2) := by decide +kernel
theorem dL_areFamilies_193 : decode cL_areFamilies 193 = .ok (.imul, 1) := by decide +kernel
theorem dL_areFamilies_194 : decode cL_areFamilies 194 = .ok (.iconst 3, 1) := by decide +kernel
theorem dL_areFamilies_195 : decode cL_areFamilies 195 = .ok (.iadd, 1) := by decide +kernel
theorem dL_areFamilies_196 : decode cL_areFamilies 196 = .ok (.iaload, 1) := by decide +kernel
theorem dL_areFamilies_197 : decode cL_areFamilies 197 = .ok (.isub, 1) := by decide +kernel
theorem dL_areFamilies_198 : decode cL_areFamilies 198 = .ok (.istore 9, 2) := by decide +kernel
theorem dL_areFamilies_200 : decode cL_areFamilies 200 = .ok (.iload 9, 2) := by decide +kernel
theorem dL_areFamilies_202 : decode cL_areFamilies 202 = .ok (.iconst 5, 1) := by decide +kernel
theorem dL_areFamilies_203 : decode cL_areFamilies 203 = .ok (.aload_n 2, 1) := by decide +kernel
theorem dL_areFamilies_204 : decode cL_areFamilies 204 = .ok (.iconst 5, 1) := by decide +kernel
theorem dL_areFamilies_205 : decode cL_areFamilies 205 = .ok (.iload 6, 2) := by decide +kernel
theorem dL_areFamilies_207 : decode cL_areFamilies 207 = .ok (.imul, 1) := by decide +kernel
theorem dL_areFamilies_208 : decode cL_areFamilies 208 = .ok (.iconst 4, 1) := by decide +kernel
theorem dL_areFamilies_209 : decode cL_areFamilies 209 = .ok (.iadd, 1) := by decide +kernel
theorem dL_areFamilies_210 : decode cL_areFamilies 210 = .ok (.iaload, 1) := by decide +kernel
theorem dL_areFamilies_211 : decode cL_areFamilies 211 = .ok (.aload_n 2, 1) := by decide +kernel
theorem dL_areFamilies_212 : decode cL_areFamilies 212 = .ok (.iconst 5, 1) := by decide +kernel
theorem dL_areFamilies_213 : decode cL_areFamilies 213 = .ok (.iload 8, 2) := by decide +kernel
theorem dL_areFamilies_215 : decode cL_areFamilies 215 = .ok (.imul, 1) := by decide +kernel
theorem dL_areFamilies_216 : decode cL_areFamilies 216 = .ok (.iconst 4, 1) := by decide +kernel
theorem dL_areFamilies_217 : decode cL_areFamilies 217 = .ok (.iadd, 1) := by decide +kernel
theorem dL_areFamilies_218 : decode cL_areFamilies 218 = .ok (.iaload, 1) := by decide +kernel
theorem dL_areFamilies_219 : decode cL_areFamilies 219 = .ok (.if_icmp .ge 23, 3) := by decide +kernel
theorem dL_areFamilies_222 : decode cL_areFamilies 222 = .ok (.aload_n 2, 1) := by decide +kernel
theorem dL_areFamilies_223 : decode cL_areFamilies 223 = .ok (.iconst 5, 1) := by decide +kernel
theorem dL_areFamilies_224 : decode cL_areFamilies 224 = .ok (.iload 8, 2) := by decide +kernel
theorem dL_areFamilies_226 : decode cL_areFamilies 226 = .ok (.imul, 1) := by decide +kernel
theorem dL_areFamilies_227 : decode cL_areFamilies 227 = .ok (.iconst 4, 1) := by decide +kernel
theorem dL_areFamilies_228 : decode cL_areFamilies 228 = .ok (.iadd, 1) := by decide +kernel
theorem dL_areFamilies_229 : decode cL_areFamilies 229 = .ok (.iaload, 1) := by decide +kernel
theorem dL_areFamilies_230 : decode cL_areFamilies 230 = .ok (.aload_n 2, 1) := by decide +kernel
theorem dL_areFamilies_231 : decode cL_areFamilies 231 = .ok (.iconst 5, 1) := by decide +kernel
theorem dL_areFamilies_232 : decode cL_areFamilies 232 = .ok (.iload 6, 2) := by decide +kernel
theorem dL_areFamilies_234 : decode cL_areFamilies 234 = .ok (.imul, 1) := by decide +kernel
theorem dL_areFamilies_235 : decode cL_areFamilies 235 = .ok (.iconst 4, 1) := by decide +kernel
theorem dL_areFamilies_236 : decode cL_areFamilies 236 = .ok (.iadd, 1) := by decide +kernel
theorem dL_areFamilies_237 : decode cL_areFamilies 237 = .ok (.iaload, 1) := by decide +kernel
theorem dL_areFamilies_238 : decode cL_areFamilies 238 = .ok (.isub, 1) := by decide +kernel
theorem dL_areFamilies_239 : decode cL_areFamilies 239 = .ok (.goto 20, 3) := by decide +kernel
theorem dL_areFamilies_242 : decode cL_areFamilies 242 = .ok (.aload_n 2, 1) := by decide +kernel
theorem dL_areFamilies_243 : decode cL_areFamilies 243 = .ok (.iconst 5, 1) := by decide +kernel
theorem dL_areFamilies_244 : decode cL_areFamilies 244 = .ok (.iload 6, 2) := by decide +kernel
theorem dL_areFamilies_246 : decode cL_areFamilies 246 = .ok (.imul, 1) := by decide +kernel
theorem dL_areFamilies_247 : decode cL_areFamilies 247 = .ok (.iconst 4, 1) := by decide +kernel
theorem dL_areFamilies_248 : decode cL_areFamilies 248 = .ok (.iadd, 1) := by decide +kernel
theorem dL_areFamilies_249 : decode cL_areFamilies 249 = .ok (.iaload, 1) := by decide +kernel
theorem dL_areFamilies_250 : decode cL_areFamilies 250 = .ok (.aload_n 2, 1) := by decide +kernel
theorem dL_areFamilies_251 : decode cL_areFamilies 251 = .ok (.iconst 5, 1) := by decide +kernel
theorem dL_areFamilies_252 : decode cL_areFamilies 252 = .ok (.iload 8, 2) := by decide +kernel
theorem dL_areFamilies_254 : decode cL_areFamilies 254 = .ok (.imul, 1) := by decide +kernel
theorem dL_areFamilies_255 : decode cL_areFamilies 255 = .ok (.iconst 4, 1) := by decide +kernel
theorem dL_areFamilies_256 : decode cL_areFamilies 256 = .ok (.iadd, 1) := by decide +kernel
theorem dL_areFamilies_257 : decode cL_areFamilies 257 = .ok (.iaload, 1) := by decide +kernel
theorem dL_areFamilies_258 : decode cL_areFamilies 258 = .ok (.isub, 1) := by decide +kernel
theorem dL_areFamilies_259 : decode cL_areFamilies 259 = .ok (.imul, 1) := by decide +kernel
theorem dL_areFamilies_260 : decode cL_areFamilies 260 = .ok (.iadd, 1) := by decide +kernel
theorem dL_areFamilies_261 : decode cL_areFamilies 261 = .ok (.istore 9, 2) := by decide +kernel
theorem dL_areFamilies_263 : decode cL_areFamilies 263 = .ok (.aload_n 2, 1) := by decide +kernel
theorem dL_areFamilies_264 : decode cL_areFamilies 264 = .ok (.iconst 5, 1) := by decide +kernel
theorem dL_areFamilies_265 : decode cL_areFamilies 265 = .ok (.iload 6, 2) := by decide +kernel
theorem dL_areFamilies_267 : decode cL_areFamilies 267 = .ok (.imul, 1) := by decide +kernel
theorem dL_areFamilies_268 : decode cL_areFamilies 268 = .ok (.iconst 2, 1) := by decide +kernel
theorem dL_areFamilies_269 : decode cL_areFamilies 269 = .ok (.iadd, 1) := by decide +kernel
theorem dL_areFamilies_270 : decode cL_areFamilies 270 = .ok (.iaload, 1) := by decide +kernel
theorem dL_areFamilies_271 : decode cL_areFamilies 271 = .ok (.ifCond .eq 32, 3) := by decide +kernel
theorem dL_areFamilies_274 : decode cL_areFamilies 274 = .ok (.aload_n 2, 1) := by decide +kernel
theorem dL_areFamilies_275 : decode cL_areFamilies 275 = .ok (.iconst 5, 1) := by decide +kernel
theorem dL_areFamilies_276 : decode cL_areFamilies 276 = .ok (.iload 8, 2) := by decide +kernel
theorem dL_areFamilies_278 : decode cL_areFamilies 278 = .ok (.imul, 1) := by decide +kernel
theorem dL_areFamilies_279 : decode cL_areFamilies 279 = .ok (.iconst 2, 1) := by decide +kernel
theorem dL_areFamilies_280 : decode cL_areFamilies 280 = .ok (.iadd, 1) := by decide +kernel
theorem dL_areFamilies_281 : decode cL_areFamilies 281 = .ok (.iaload, 1) := by decide +kernel
theorem dL_areFamilies_282 : decode cL_areFamilies 282 = .ok (.ifCond .eq 21, 3) := by decide +kernel
theorem dL_areFamilies_285 : decode cL_areFamilies 285 = .ok (.iload 9, 2) := by decide +kernel
theorem dL_areFamilies_287 : decode cL_areFamilies 287 = .ok (.iload_n 1, 1) := by decide +kernel
theorem dL_areFamilies_288 : decode cL_areFamilies 288 = .ok (.if_icmp .gt 15, 3) := by decide +kernel
theorem dL_areFamilies_291 : decode cL_areFamilies 291 = .ok (.aload_n 0, 1) := by decide +kernel
theorem dL_areFamilies_292 : decode cL_areFamilies 292 = .ok (.iload 8, 2) := by decide +kernel
theorem dL_areFamilies_294 : decode cL_areFamilies 294 = .ok (.iload_n 1, 1) := by decide +kernel
theorem dL_areFamilies_295 : decode cL_areFamilies 295 = .ok (.invokevirtual 110, 3) := by decide +kernel
theorem dL_areFamilies_298 : decode cL_areFamilies 298 = .ok (.iload 7, 2) := by decide +kernel
theorem dL_areFamilies_300 : decode cL_areFamilies 300 = .ok (.if_icmp .ne 7, 3) := by decide +kernel
theorem dL_areFamilies_303 : decode cL_areFamilies 303 = .ok (.iconst 1, 1) := by decide +kernel
theorem dL_areFamilies_304 : decode cL_areFamilies 304 = .ok (.goto 4, 3) := by decide +kernel
theorem dL_areFamilies_307 : decode cL_areFamilies 307 = .ok (.iconst 0, 1) := by decide +kernel
theorem dL_areFamilies_308 : decode cL_areFamilies 308 = .ok (.istore 5, 2) := by decide +kernel
theorem dL_areFamilies_310 : decode cL_areFamilies 310 = .ok (.iinc 8 1, 3) := by decide +kernel
theorem dL_areFamilies_313 : decode cL_areFamilies 313 = .ok (.goto (-183), 3) := by decide +kernel
theorem dL_areFamilies_316 : decode cL_areFamilies 316 = .ok (.iinc 6 1, 3) := by decide +kernel
theorem dL_areFamilies_319 : decode cL_areFamilies 319 = .ok (.goto (-310), 3) := by decide +kernel
theorem dL_areFamilies_322 : decode cL_areFamilies 322 = .ok (.iload 5, 2) := by decide +kernel
theorem dL_areFamilies_324 : decode cL_areFamilies 324 = .ok (.ifCond .eq 33, 3) := by decide +kernel
theorem dL_areFamilies_327 : decode cL_areFamilies 327 = .ok (.aload_n 0, 1) := by decide +kernel
theorem dL_areFamilies_328 : decode cL_areFamilies 328 = .ok (.iload_n 1, 1) := by decide +kernel
theorem dL_areFamilies_329 : decode cL_areFamilies 329 = .ok (.invokevirtual 113, 3) := by decide +kernel
theorem dL_areFamilies_332 : decode cL_areFamilies 332 = .ok (.iload 4, 2) := by decide +kernel
theorem dL_areFamilies_334 : decode cL_areFamilies 334 = .ok (.if_icmp .ne 23, 3) := by decide +kernel
theorem dL_areFamilies_337 : decode cL_areFamilies 337 = .ok (.iload_n 1, 1) := by decide +kernel
theorem dL_areFamilies_338 : decode cL_areFamilies 338 = .ok (.ifCond .eq 15, 3) := by decide +kernel
theorem dL_areFamilies_341 : decode cL_areFamilies 341 = .ok (.aload_n 0, 1) := by decide +kernel
theorem dL_areFamilies_342 : decode cL_areFamilies 342 = .ok (.iload_n 1, 1) := by decide +kernel
theorem dL_areFamilies_343 : decode cL_areFamilies 343 = .ok (.iconst 1, 1) := by decide +kernel
theorem dL_areFamilies_344 : decode cL_areFamilies 344 = .ok (.isub, 1) := by decide +kernel
theorem dL_areFamilies_345 : decode cL_areFamilies 345 = .ok (.invokevirtual 113, 3) := by decide +kernel
theorem dL_areFamilies_348 : decode cL_areFamilies 348 = .ok (.iload 4, 2) := by decide +kernel
theorem dL_areFamilies_350 : decode cL_areFamilies 350 = .ok (.if_icmp .lt 7, 3) := by decide +kernel
theorem dL_areFamilies_353 : decode cL_areFamilies 353 = .ok (.iconst 1, 1) := by decide +kernel
theorem dL_areFamilies_354 : decode cL_areFamilies 354 = .ok (.goto 4, 3) := by decide +kernel
theorem dL_areFamilies_357 : decode cL_areFamilies 357 = .ok (.iconst 0, 1) := by decide +kernel
theorem dL_areFamilies_358 : decode cL_areFamilies 358 = .ok (.ireturn, 1) := by decide +kernel
theorem dL_isTurn_0 : decode cL_isTurn 0 = .ok (.iconst (-1), 1) := by decide +kernel
theorem dL_isTurn_1 : decode cL_isTurn 1 = .ok (.istore 6, 2) := by decide +kernel
theorem dL_isTurn_3 : decode cL_isTurn 3 = .ok (.iconst (-1), 1) := by decide +kernel
theorem dL_isTurn_4 : decode cL_isTurn 4 = .ok (.istore 7, 2) := by decide +kernel
theorem dL_isTurn_6 : decode cL_isTurn 6 = .ok (.iconst 2, 1) := by decide +kernel
theorem dL_isTurn_7 : decode cL_isTurn 7 = .ok (.istore 8, 2) := by decide +kernel
theorem dL_isTurn_9 : decode cL_isTurn 9 = .ok (.iload 8, 2) := by decide +kernel
theorem dL_isTurn_11 : decode cL_isTurn 11 = .ok (.bipush 21, 2) := by decide +kernel
theorem dL_isTurn_13 : decode cL_isTurn 13 = .ok (.if_icmp .ge 202, 3) := by decide +kernel
theorem dL_isTurn_16 : decode cL_isTurn 16 = .ok (.aload_n 2, 1) := by decide +kernel
theorem dL_isTurn_17 : decode cL_isTurn 17 = .ok (.aload 4, 2) := by decide +kernel
theorem dL_isTurn_19 : decode cL_isTurn 19 = .ok (.aload 5, 2) := by decide +kernel
theorem dL_isTurn_21 : decode cL_isTurn 21 = .ok (.iload_n 1, 1) := by decide +kernel
theorem dL_isTurn_22 : decode cL_isTurn 22 = .ok (.invokestatic 89, 3) := by decide +kernel
theorem dL_isTurn_25 : decode cL_isTurn 25 = .ok (.iconst 3, 1) := by decide +kernel
theorem dL_isTurn_26 : decode cL_isTurn 26 = .ok (.if_icmp .le 189, 3) := by decide +kernel
theorem dL_isTurn_29 : decode cL_isTurn 29 = .ok (.iconst 0, 1) := by decide +kernel
theorem dL_isTurn_30 : decode cL_isTurn 30 = .ok (.istore 9, 2) := by decide +kernel
theorem dL_isTurn_32 : decode cL_isTurn 32 = .ok (.iconst 0, 1) := by decide +kernel
theorem dL_isTurn_33 : decode cL_isTurn 33 = .ok (.istore 10, 2) := by decide +kernel
theorem dL_isTurn_35 : decode cL_isTurn 35 = .ok (.iload 10, 2) := by decide +kernel
theorem dL_isTurn_37 : decode cL_isTurn 37 = .ok (.iload 8, 2) := by decide +kernel
theorem dL_isTurn_39 : decode cL_isTurn 39 = .ok (.if_icmp .ge 128, 3) := by decide +kernel
theorem dL_isTurn_42 : decode cL_isTurn 42 = .ok (.bipush 100, 2) := by decide +kernel
theorem dL_isTurn_44 : decode cL_isTurn 44 = .ok (.istore 11, 2) := by decide +kernel
theorem dL_isTurn_46 : decode cL_isTurn 46 = .ok (.iconst (-1), 1) := by decide +kernel
theorem dL_isTurn_47 : decode cL_isTurn 47 = .ok (.istore 12, 2) := by decide +kernel
theorem dL_isTurn_49 : decode cL_isTurn 49 = .ok (.iconst 0, 1) := by decide +kernel
theorem dL_isTurn_50 : decode cL_isTurn 50 = .ok (.istore 13, 2) := by decide +kernel
theorem dL_isTurn_52 : decode cL_isTurn 52 = .ok (.iload 13, 2) := by decide +kernel
theorem dL_isTurn_54 : decode cL_isTurn 54 = .ok (.aload 5, 2) := by decide +kernel
theorem dL_isTurn_56 : decode cL_isTurn 56 = .ok (.iconst 2, 1) := by decide +kernel
theorem dL_isTurn_57 : decode cL_isTurn 57 = .ok (.iaload, 1) := by decide +kernel
theorem dL_isTurn_58 : decode cL_isTurn 58 = .ok (.if_icmp .ge 84, 3) := by decide +kernel
theorem dL_isTurn_61 : decode cL_isTurn 61 = .ok (.aload_n 2, 1) := by decide +kernel
theorem dL_isTurn_62 : decode cL_isTurn 62 = .ok (.aload 4, 2) := by decide +kernel
theorem dL_isTurn_64 : decode cL_isTurn 64 = .ok (.iload 13, 2) := by decide +kernel
theorem dL_isTurn_66 : decode cL_isTurn 66 = .ok (.iload_n 1, 1) := by decide +kernel
theorem dL_isTurn_67 : decode cL_isTurn 67 = .ok (.invokestatic 57, 3) := by decide +kernel
theorem dL_isTurn_70 : decode cL_isTurn 70 = .ok (.ifCond .eq 66, 3) := by decide +kernel
theorem dL_isTurn_73 : decode cL_isTurn 73 = .ok (.aload_n 2, 1) := by decide +kernel
theorem dL_isTurn_74 : decode cL_isTurn 74 = .ok (.aload_n 3, 1) := by decide +kernel
theorem dL_isTurn_75 : decode cL_isTurn 75 = .ok (.iload 13, 2) := by decide +kernel
theorem dL_isTurn_77 : decode cL_isTurn 77 = .ok (.invokestatic 61, 3) := by decide +kernel
theorem dL_isTurn_80 : decode cL_isTurn 80 = .ok (.iload 8, 2) := by decide +kernel
theorem dL_isTurn_82 : decode cL_isTurn 82 = .ok (.irem, 1) := by decide +kernel
theorem dL_isTurn_83 : decode cL_isTurn 83 = .ok (.iload 10, 2) := by decide +kernel
theorem dL_isTurn_85 : decode cL_isTurn 85 = .ok (.if_icmp .ne 51, 3) := by decide +kernel
theorem dL_isTurn_88 : decode cL_isTurn 88 = .ok (.aload_n 2, 1) := by decide +kernel
theorem dL_isTurn_89 : decode cL_isTurn 89 = .ok (.iload 13, 2) := by decide +kernel
theorem dL_isTurn_91 : decode cL_isTurn 91 = .ok (.invokestatic 116, 3) := by decide +kernel
theorem dL_isTurn_94 : decode cL_isTurn 94 = .ok (.iload 11, 2) := by decide +kernel
theorem dL_isTurn_96 : decode cL_isTurn 96 = .ok (.if_icmp .ge 12, 3) := by decide +kernel
theorem dL_isTurn_99 : decode cL_isTurn 99 = .ok (.aload_n 2, 1) := by decide +kernel
theorem dL_isTurn_100 : decode cL_isTurn 100 = .ok (.iload 13, 2) := by decide +kernel
theorem dL_isTurn_102 : decode cL_isTurn 102 = .ok (.invokestatic 116, 3) := by decide +kernel
theorem dL_isTurn_105 : decode cL_isTurn 105 = .ok (.goto 5, 3) := by decide +kernel
theorem dL_isTurn_108 : decode cL_isTurn 108 = .ok (.iload 11, 2) := by decide +kernel
theorem dL_isTurn_110 : decode cL_isTurn 110 = .ok (.istore 11, 2) := by decide +kernel
theorem dL_isTurn_112 : decode cL_isTurn 112 = .ok (.aload_n 2, 1) := by decide +kernel
theorem dL_isTurn_113 : decode cL_isTurn 113 = .ok (.iload 13, 2) := by decide +kernel
theorem dL_isTurn_115 : decode cL_isTurn 115 = .ok (.invokestatic 116, 3) := by decide +kernel
theorem dL_isTurn_118 : decode cL_isTurn 118 = .ok (.iload 12, 2) := by decide +kernel
theorem dL_isTurn_120 : decode cL_isTurn 120 = .ok (.if_icmp .le 12, 3) := by decide +kernel
theorem dL_isTurn_123 : decode cL_isTurn 123 = .ok (.aload_n 2, 1) := by decide +kernel
theorem dL_isTurn_124 : decode cL_isTurn 124 = .ok (.iload 13, 2) := by decide +kernel
theorem dL_isTurn_126 : decode cL_isTurn 126 = .ok (.invokestatic 116, 3) := by decide +kernel
theorem dL_isTurn_129 : decode cL_isTurn 129 = .ok (.goto 5, 3) := by decide +kernel
theorem dL_isTurn_132 : decode cL_isTurn 132 = .ok (.iload 12, 2) := by decide +kernel
theorem dL_isTurn_134 : decode cL_isTurn 134 = .ok (.istore 12, 2) := by decide +kernel
theorem dL_isTurn_136 : decode cL_isTurn 136 = .ok (.iinc 13 1, 3) := by decide +kernel
theorem dL_isTurn_139 : decode cL_isTurn 139 = .ok (.goto (-87), 3) := by decide +kernel
theorem dL_isTurn_142 : decode cL_isTurn 142 = .ok (.iload 9, 2) := by decide +kernel
theorem dL_isTurn_144 : decode cL_isTurn 144 = .ok (.iload 12, 2) := by decide +kernel
theorem dL_isTurn_146 : decode cL_isTurn 146 = .ok (.ifCond .ge 7, 3) := by decide +kernel
theorem dL_isTurn_149 : decode cL_isTurn 149 = .ok (.iconst 0, 1) := by decide +kernel
theorem dL_isTurn_150 : decode cL_isTurn 150 = .ok (.goto 8, 3) := by decide +kernel
theorem dL_isTurn_153 : decode cL_isTurn 153 = .ok (.iload 12, 2) := by decide +kernel
theorem dL_isTurn_155 : decode cL_isTurn 155 = .ok (.iload 11, 2) := by decide +kernel
theorem dL_isTurn_157 : decode cL_isTurn 157 = .ok (.isub, 1) := by decide +kernel
theorem dL_isTurn_158 : decode cL_isTurn 158 = .ok (.iadd, 1) := by decide +kernel
theorem dL_isTurn_159 : decode cL_isTurn 159 = .ok (.istore 9, 2) := by decide +kernel
theorem dL_isTurn_161 : decode cL_isTurn 161 = .ok (.iinc 10 1, 3) := by decide +kernel
theorem dL_isTurn_164 : decode cL_isTurn 164 = .ok (.goto (-129), 3) := by decide +kernel
theorem dL_isTurn_167 : decode cL_isTurn 167 = .ok (.iload 7, 2) := by decide +kernel
theorem dL_isTurn_169 : decode cL_isTurn 169 = .ok (.ifCond .lt 10, 3) := by decide +kernel
theorem dL_isTurn_172 : decode cL_isTurn 172 = .ok (.iload 9, 2) := by decide +kernel
theorem dL_isTurn_174 : decode cL_isTurn 174 = .ok (.iload 7, 2) := by decide +kernel
theorem dL_isTurn_176 : decode cL_isTurn 176 = .ok (.if_icmp .ge 8, 3) := by decide +kernel
theorem dL_isTurn_179 : decode cL_isTurn 179 = .ok (.iload 8, 2) := by decide +kernel
theorem dL_isTurn_181 : decode cL_isTurn 181 = .ok (.goto 5, 3) := by decide +kernel
theorem dL_isTurn_184 : decode cL_isTurn 184 = .ok (.iload 6, 2) := by decide +kernel
theorem dL_isTurn_186 : decode cL_isTurn 186 = .ok (.istore 6, 2) := by decide +kernel
theorem dL_isTurn_188 : decode cL_isTurn 188 = .ok (.iload 7, 2) := by decide +kernel
theorem dL_isTurn_190 : decode cL_isTurn 190 = .ok (.ifCond .lt 10, 3) := by decide +kernel
theorem dL_isTurn_193 : decode cL_isTurn 193 = .ok (.iload 9, 2) := by decide +kernel
theorem dL_isTurn_195 : decode cL_isTurn 195 = .ok (.iload 7, 2) := by decide +kernel
theorem dL_isTurn_197 : decode cL_isTurn 197 = .ok (.if_icmp .ge 8, 3) := by decide +kernel
theorem dL_isTurn_200 : decode cL_isTurn 200 = .ok (.iload 9, 2) := by decide +kernel
theorem dL_isTurn_202 : decode cL_isTurn 202 = .ok (.goto 5, 3) := by decide +kernel
theorem dL_isTurn_205 : decode cL_isTurn 205 = .ok (.iload 7, 2) := by decide +kernel
theorem dL_isTurn_207 : decode cL_isTurn 207 = .ok (.istore 7, 2) := by decide +kernel
theorem dL_isTurn_209 : decode cL_isTurn 209 = .ok (.iinc 8 1, 3) := by decide +kernel
theorem dL_isTurn_212 : decode cL_isTurn 212 = .ok (.goto (-203), 3) := by decide +kernel
theorem dL_isTurn_215 : decode cL_isTurn 215 = .ok (.aload_n 0, 1) := by decide +kernel
theorem dL_isTurn_216 : decode cL_isTurn 216 = .ok (.iload_n 1, 1) := by decide +kernel
theorem dL_isTurn_217 : decode cL_isTurn 217 = .ok (.iconst 0, 1) := by decide +kernel
theorem dL_isTurn_218 : decode cL_isTurn 218 = .ok (.invokevirtual 119, 3) := by decide +kernel
theorem dL_isTurn_221 : decode cL_isTurn 221 = .ok (.iload 6, 2) := by decide +kernel
theorem dL_isTurn_223 : decode cL_isTurn 223 = .ok (.if_icmp .ne 18, 3) := by decide +kernel
theorem dL_isTurn_226 : decode cL_isTurn 226 = .ok (.aload_n 0, 1) := by decide +kernel
theorem dL_isTurn_227 : decode cL_isTurn 227 = .ok (.iload_n 1, 1) := by decide +kernel
theorem dL_isTurn_228 : decode cL_isTurn 228 = .ok (.iconst 1, 1) := by decide +kernel
theorem dL_isTurn_229 : decode cL_isTurn 229 = .ok (.invokevirtual 119, 3) := by decide +kernel
theorem dL_isTurn_232 : decode cL_isTurn 232 = .ok (.iload 7, 2) := by decide +kernel
theorem dL_isTurn_234 : decode cL_isTurn 234 = .ok (.if_icmp .ne 7, 3) := by decide +kernel
theorem dL_isTurn_237 : decode cL_isTurn 237 = .ok (.iconst 1, 1) := by decide +kernel
theorem dL_isTurn_238 : decode cL_isTurn 238 = .ok (.goto 4, 3) := by decide +kernel
theorem dL_isTurn_241 : decode cL_isTurn 241 = .ok (.iconst 0, 1) := by decide +kernel
theorem dL_isTurn_242 : decode cL_isTurn 242 = .ok (.ireturn, 1) := by decide +kernel
theorem dL_links_0 : decode cL_links 0 = .ok (.iload_n 1, 1) := by decide +kernel
theorem dL_links_1 : decode cL_links 1 = .ok (.aload 7, 2) := by decide +kernel
theorem dL_links_3 : decode cL_links 3 = .ok (.iconst 2, 1) := by decide +kernel
theorem dL_links_4 : decode cL_links 4 = .ok (.iaload, 1) := by decide +kernel
theorem dL_links_5 : decode cL_links 5 = .ok (.irem, 1) := by decide +kernel
theorem dL_links_6 : decode cL_links 6 = .ok (.istore 8, 2) := by decide +kernel
theorem dL_links_8 : decode cL_links 8 = .ok (.iconst 0, 1) := by decide +kernel
theorem dL_links_9 : decode cL_links 9 = .ok (.istore 9, 2) := by decide +kernel
theorem dL_links_11 : decode cL_links 11 = .ok (.iload 9, 2) := by decide +kernel
theorem dL_links_13 : decode cL_links 13 = .ok (.aload 7, 2) := by decide +kernel
theorem dL_links_15 : decode cL_links 15 = .ok (.iconst 2, 1) := by decide +kernel
theorem dL_links_16 : decode cL_links 16 = .ok (.iaload, 1) := by decide +kernel
theorem dL_links_17 : decode cL_links 17 = .ok (.if_icmp .ge 57, 3) := by decide +kernel
theorem dL_links_20 : decode cL_links 20 = .ok (.iload_n 2, 1) := by decide +kernel
theorem dL_links_21 : decode cL_links 21 = .ok (.iconst 4, 1) := by decide +kernel
theorem dL_links_22 : decode cL_links 22 = .ok (.irem, 1) := by decide +kernel
theorem dL_links_23 : decode cL_links 23 = .ok (.ifCond .le 51, 3) := by decide +kernel
theorem dL_links_26 : decode cL_links 26 = .ok (.aload_n 3, 1) := by decide +kernel
theorem dL_links_27 : decode cL_links 27 = .ok (.iload_n 1, 1) := by decide +kernel
theorem dL_links_28 : decode cL_links 28 = .ok (.aload 7, 2) := by decide +kernel
theorem dL_links_30 : decode cL_links 30 = .ok (.iconst 2, 1) := by decide +kernel
theorem dL_links_31 : decode cL_links 31 = .ok (.iaload, 1) := by decide +kernel
theorem dL_links_32 : decode cL_links 32 = .ok (.irem, 1) := by decide +kernel
theorem dL_links_33 : decode cL_links 33 = .ok (.iload 9, 2) := by decide +kernel
theorem dL_links_35 : decode cL_links 35 = .ok (.iadd, 1) := by decide +kernel
theorem dL_links_36 : decode cL_links 36 = .ok (.aload 7, 2) := by decide +kernel
theorem dL_links_38 : decode cL_links 38 = .ok (.iconst 2, 1) := by decide +kernel
theorem dL_links_39 : decode cL_links 39 = .ok (.iaload, 1) := by decide +kernel
theorem dL_links_40 : decode cL_links 40 = .ok (.irem, 1) := by decide +kernel
theorem dL_links_41 : decode cL_links 41 = .ok (.invokestatic 50, 3) := by decide +kernel
theorem dL_links_44 : decode cL_links 44 = .ok (.ifCond .ge 20, 3) := by decide +kernel
theorem dL_links_47 : decode cL_links 47 = .ok (.iload_n 1, 1) := by decide +kernel
theorem dL_links_48 : decode cL_links 48 = .ok (.aload 7, 2) := by decide +kernel
theorem dL_links_50 : decode cL_links 50 = .ok (.iconst 2, 1) := by decide +kernel
theorem dL_links_51 : decode cL_links 51 = .ok (.iaload, 1) := by decide +kernel
theorem dL_links_52 : decode cL_links 52 = .ok (.irem, 1) := by decide +kernel
theorem dL_links_53 : decode cL_links 53 = .ok (.iload 9, 2) := by decide +kernel
theorem dL_links_55 : decode cL_links 55 = .ok (.iadd, 1) := by decide +kernel
theorem dL_links_56 : decode cL_links 56 = .ok (.aload 7, 2) := by decide +kernel
theorem dL_links_58 : decode cL_links 58 = .ok (.iconst 2, 1) := by decide +kernel
theorem dL_links_59 : decode cL_links 59 = .ok (.iaload, 1) := by decide +kernel
theorem dL_links_60 : decode cL_links 60 = .ok (.irem, 1) := by decide +kernel
theorem dL_links_61 : decode cL_links 61 = .ok (.goto 5, 3) := by decide +kernel
theorem dL_links_64 : decode cL_links 64 = .ok (.iload 8, 2) := by decide +kernel
theorem dL_links_66 : decode cL_links 66 = .ok (.istore 8, 2) := by decide +kernel
theorem dL_links_68 : decode cL_links 68 = .ok (.iinc 9 1, 3) := by decide +kernel
theorem dL_links_71 : decode cL_links 71 = .ok (.goto (-60), 3) := by decide +kernel
theorem dL_links_74 : decode cL_links 74 = .ok (.aload 7, 2) := by decide +kernel
theorem dL_links_76 : decode cL_links 76 = .ok (.iconst 3, 1) := by decide +kernel
theorem dL_links_77 : decode cL_links 77 = .ok (.iaload, 1) := by decide +kernel
theorem dL_links_78 : decode cL_links 78 = .ok (.iconst 4, 1) := by decide +kernel
theorem dL_links_79 : decode cL_links 79 = .ok (.if_icmp .lt 21, 3) := by decide +kernel
theorem dL_links_82 : decode cL_links 82 = .ok (.iload_n 2, 1) := by decide +kernel
theorem dL_links_83 : decode cL_links 83 = .ok (.iconst 4, 1) := by decide +kernel
theorem dL_links_84 : decode cL_links 84 = .ok (.idiv, 1) := by decide +kernel
theorem dL_links_85 : decode cL_links 85 = .ok (.bipush 9, 2) := by decide +kernel
theorem dL_links_87 : decode cL_links 87 = .ok (.irem, 1) := by decide +kernel
theorem dL_links_88 : decode cL_links 88 = .ok (.ifCond .ne 107, 3) := by decide +kernel
theorem dL_links_91 : decode cL_links 91 = .ok (.aload 7, 2) := by decide +kernel
theorem dL_links_93 : decode cL_links 93 = .ok (.iconst 3, 1) := by decide +kernel
theorem dL_links_94 : decode cL_links 94 = .ok (.iaload, 1) := by decide +kernel
theorem dL_links_95 : decode cL_links 95 = .ok (.bipush 12, 2) := by decide +kernel
theorem dL_links_97 : decode cL_links 97 = .ok (.if_icmp .ge 98, 3) := by decide +kernel
theorem dL_links_100 : decode cL_links 100 = .ok (.aload_n 3, 1) := by decide +kernel
theorem dL_links_101 : decode cL_links 101 = .ok (.iload 8, 2) := by decide +kernel
theorem dL_links_103 : decode cL_links 103 = .ok (.invokestatic 50, 3) := by decide +kernel
theorem dL_links_106 : decode cL_links 106 = .ok (.ifCond .ge 7, 3) := by decide +kernel
theorem dL_links_109 : decode cL_links 109 = .ok (.iconst 1, 1) := by decide +kernel
theorem dL_links_110 : decode cL_links 110 = .ok (.goto 4, 3) := by decide +kernel
theorem dL_links_113 : decode cL_links 113 = .ok (.iconst 0, 1) := by decide +kernel
theorem dL_links_114 : decode cL_links 114 = .ok (.istore 9, 2) := by decide +kernel
theorem dL_links_116 : decode cL_links 116 = .ok (.aload_n 0, 1) := by decide +kernel
theorem dL_links_117 : decode cL_links 117 = .ok (.iconst 0, 1) := by decide +kernel
theorem dL_links_118 : decode cL_links 118 = .ok (.iload 8, 2) := by decide +kernel
theorem dL_links_120 : decode cL_links 120 = .ok (.iconst 0, 1) := by decide +kernel
theorem dL_links_121 : decode cL_links 121 = .ok (.invokestatic 99, 3) := by decide +kernel
theorem dL_links_124 : decode cL_links 124 = .ok (.istore 10, 2) := by decide +kernel
theorem dL_links_126 : decode cL_links 126 = .ok (.aload_n 3, 1) := by decide +kernel
theorem dL_links_127 : decode cL_links 127 = .ok (.iload 8, 2) := by decide +kernel
theorem dL_links_129 : decode cL_links 129 = .ok (.dup2, 1) := by decide +kernel
theorem dL_links_130 : decode cL_links 130 = .ok (.iaload, 1) := by decide +kernel
theorem dL_links_131 : decode cL_links 131 = .ok (.iload 9, 2) := by decide +kernel
theorem dL_links_133 : decode cL_links 133 = .ok (.ifCond .eq 15, 3) := by decide +kernel
theorem dL_links_136 : decode cL_links 136 = .ok (.ldc 42, 2) := by decide +kernel
theorem dL_links_138 : decode cL_links 138 = .ok (.aload 7, 2) := by decide +kernel
theorem dL_links_140 : decode cL_links 140 = .ok (.iconst 3, 1) := by decide +kernel
theorem dL_links_141 : decode cL_links 141 = .ok (.iaload, 1) := by decide +kernel
theorem dL_links_142 : decode cL_links 142 = .ok (.iconst 1, 1) := by decide +kernel
theorem dL_links_143 : decode cL_links 143 = .ok (.iadd, 1) := by decide +kernel
theorem dL_links_144 : decode cL_links 144 = .ok (.imul, 1) := by decide +kernel
theorem dL_links_145 : decode cL_links 145 = .ok (.goto 4, 3) := by decide +kernel
theorem dL_links_148 : decode cL_links 148 = .ok (.iconst 0, 1) := by decide +kernel
theorem dL_links_149 : decode cL_links 149 = .ok (.iadd, 1) := by decide +kernel
theorem dL_links_150 : decode cL_links 150 = .ok (.iastore, 1) := by decide +kernel
theorem dL_links_151 : decode cL_links 151 = .ok (.aload 7, 2) := by decide +kernel
theorem dL_links_153 : decode cL_links 153 = .ok (.iconst 3, 1) := by decide +kernel
theorem dL_links_154 : decode cL_links 154 = .ok (.dup2, 1) := by decide +kernel
theorem dL_links_155 : decode cL_links 155 = .ok (.iaload, 1) := by decide +kernel
theorem dL_links_156 : decode cL_links 156 = .ok (.iload 9, 2) := by decide +kernel
theorem dL_links_158 : decode cL_links 158 = .ok (.ifCond .eq 7, 3) := by decide +kernel
theorem dL_links_161 : decode cL_links 161 = .ok (.iconst 1, 1) := by decide +kernel
theorem dL_links_162 : decode cL_links 162 = .ok (.goto 4, 3) := by decide +kernel
theorem dL_links_165 : decode cL_links 165 = .ok (.iconst 0, 1) := by decide +kernel
theorem dL_links_166 : decode cL_links 166 = .ok (.iadd, 1) := by decide +kernel
theorem dL_links_167 : decode cL_links 167 = .ok (.iastore, 1) := by decide +kernel
theorem dL_links_168 : decode cL_links 168 = .ok (.iload 10, 2) := by decide +kernel
theorem dL_links_170 : decode cL_links 170 = .ok (.iload 9, 2) := by decide +kernel
theorem dL_links_172 : decode cL_links 172 = .ok (.ifCond .eq 12, 3) := by decide +kernel
theorem dL_links_175 : decode cL_links 175 = .ok (.aload 7, 2) := by decide +kernel
theorem dL_links_177 : decode cL_links 177 = .ok (.iconst 3, 1) := by decide +kernel
theorem dL_links_178 : decode cL_links 178 = .ok (.iaload, 1) := by decide +kernel
theorem dL_links_179 : decode cL_links 179 = .ok (.iconst 1, 1) := by decide +kernel
theorem dL_links_180 : decode cL_links 180 = .ok (.isub, 1) := by decide +kernel
theorem dL_links_181 : decode cL_links 181 = .ok (.goto 5, 3) := by decide +kernel
theorem dL_links_184 : decode cL_links 184 = .ok (.ldc 41, 2) := by decide +kernel
theorem dL_links_186 : decode cL_links 186 = .ok (.if_icmp .ne 7, 3) := by decide +kernel
theorem dL_links_189 : decode cL_links 189 = .ok (.iconst 1, 1) := by decide +kernel
theorem dL_links_190 : decode cL_links 190 = .ok (.goto 4, 3) := by decide +kernel
theorem dL_links_193 : decode cL_links 193 = .ok (.iconst 0, 1) := by decide +kernel
theorem dL_links_194 : decode cL_links 194 = .ok (.ireturn, 1) := by decide +kernel
theorem dL_links_195 : decode cL_links 195 = .ok (.iload_n 2, 1) := by decide +kernel
theorem dL_links_196 : decode cL_links 196 = .ok (.bipush 36, 2) := by decide +kernel
theorem dL_links_198 : decode cL_links 198 = .ok (.idiv, 1) := by decide +kernel
theorem dL_links_199 : decode cL_links 199 = .ok (.aload 7, 2) := by decide +kernel
theorem dL_links_201 : decode cL_links 201 = .ok (.iconst 3, 1) := by decide +kernel
theorem dL_links_202 : decode cL_links 202 = .ok (.iaload, 1) := by decide +kernel
theorem dL_links_203 : decode cL_links 203 = .ok (.irem, 1) := by decide +kernel
theorem dL_links_204 : decode cL_links 204 = .ok (.istore 9, 2) := by decide +kernel
theorem dL_links_206 : decode cL_links 206 = .ok (.aload_n 3, 1) := by decide +kernel
theorem dL_links_207 : decode cL_links 207 = .ok (.iload 8, 2) := by decide +kernel
theorem dL_links_209 : decode cL_links 209 = .ok (.invokestatic 50, 3) := by decide +kernel
theorem dL_links_212 : decode cL_links 212 = .ok (.ifCond .ge 17, 3) := by decide +kernel
theorem dL_links_215 : decode cL_links 215 = .ok (.aload 6, 2) := by decide +kernel
theorem dL_links_217 : decode cL_links 217 = .ok (.iconst 5, 1) := by decide +kernel
theorem dL_links_218 : decode cL_links 218 = .ok (.iload 9, 2) := by decide +kernel
theorem dL_links_220 : decode cL_links 220 = .ok (.imul, 1) := by decide +kernel
theorem dL_links_221 : decode cL_links 221 = .ok (.iaload, 1) := by decide +kernel
theorem dL_links_222 : decode cL_links 222 = .ok (.ifCond .ne 7, 3) := by decide +kernel
theorem dL_links_225 : decode cL_links 225 = .ok (.iconst 1, 1) := by decide +kernel
theorem dL_links_226 : decode cL_links 226 = .ok (.goto 4, 3) := by decide +kernel
theorem dL_links_229 : decode cL_links 229 = .ok (.iconst 0, 1) := by decide +kernel
theorem dL_links_230 : decode cL_links 230 = .ok (.istore 10, 2) := by decide +kernel
theorem dL_links_232 : decode cL_links 232 = .ok (.iconst 0, 1) := by decide +kernel
theorem dL_links_233 : decode cL_links 233 = .ok (.istore 11, 2) := by decide +kernel
theorem dL_links_235 : decode cL_links 235 = .ok (.iload 11, 2) := by decide +kernel
theorem dL_links_237 : decode cL_links 237 = .ok (.aload 7, 2) := by decide +kernel
theorem dL_links_239 : decode cL_links 239 = .ok (.iconst 2, 1) := by decide +kernel
theorem dL_links_240 : decode cL_links 240 = .ok (.iaload, 1) := by decide +kernel
theorem dL_links_241 : decode cL_links 241 = .ok (.if_icmp .ge 49, 3) := by decide +kernel
theorem dL_links_244 : decode cL_links 244 = .ok (.iload 10, 2) := by decide +kernel
theorem dL_links_246 : decode cL_links 246 = .ok (.ifCond .eq 44, 3) := by decide +kernel
theorem dL_links_249 : decode cL_links 249 = .ok (.aload_n 3, 1) := by decide +kernel
theorem dL_links_250 : decode cL_links 250 = .ok (.aload 6, 2) := by decide +kernel
theorem dL_links_252 : decode cL_links 252 = .ok (.iload 11, 2) := by decide +kernel
theorem dL_links_254 : decode cL_links 254 = .ok (.iload 9, 2) := by decide +kernel
theorem dL_links_256 : decode cL_links 256 = .ok (.invokestatic 57, 3) := by decide +kernel
theorem dL_links_259 : decode cL_links 259 = .ok (.ifCond .eq 18, 3) := by decide +kernel
theorem dL_links_262 : decode cL_links 262 = .ok (.aload_n 3, 1) := by decide +kernel
theorem dL_links_263 : decode cL_links 263 = .ok (.iload 11, 2) := by decide +kernel
theorem dL_links_265 : decode cL_links 265 = .ok (.invokestatic 44, 3) := by decide +kernel
theorem dL_links_268 : decode cL_links 268 = .ok (.aload_n 3, 1) := by decide +kernel
theorem dL_links_269 : decode cL_links 269 = .ok (.iload 8, 2) := by decide +kernel
theorem dL_links_271 : decode cL_links 271 = .ok (.invokestatic 44, 3) := by decide +kernel
theorem dL_links_274 : decode cL_links 274 = .ok (.if_icmp .eq 7, 3) := by decide +kernel
theorem dL_links_277 : decode cL_links 277 = .ok (.iconst 1, 1) := by decide +kernel
theorem dL_links_278 : decode cL_links 278 = .ok (.goto 4, 3) := by decide +kernel
theorem dL_links_281 : decode cL_links 281 = .ok (.iconst 0, 1) := by decide +kernel
theorem dL_links_282 : decode cL_links 282 = .ok (.istore 10, 2) := by decide +kernel
theorem dL_links_284 : decode cL_links 284 = .ok (.iinc 11 1, 3) := by decide +kernel
theorem dL_links_287 : decode cL_links 287 = .ok (.goto (-52), 3) := by decide +kernel
theorem dL_links_290 : decode cL_links 290 = .ok (.iload 10, 2) := by decide +kernel
theorem dL_links_292 : decode cL_links 292 = .ok (.ifCond .eq 27, 3) := by decide +kernel
theorem dL_links_295 : decode cL_links 295 = .ok (.aload_n 3, 1) := by decide +kernel
theorem dL_links_296 : decode cL_links 296 = .ok (.aload 4, 2) := by decide +kernel
theorem dL_links_298 : decode cL_links 298 = .ok (.aload 5, 2) := by decide +kernel
theorem dL_links_300 : decode cL_links 300 = .ok (.aload 6, 2) := by decide +kernel
theorem dL_links_302 : decode cL_links 302 = .ok (.aload 7, 2) := by decide +kernel
theorem dL_links_304 : decode cL_links 304 = .ok (.iload 9, 2) := by decide +kernel
theorem dL_links_306 : decode cL_links 306 = .ok (.iconst (-1), 1) := by decide +kernel
theorem dL_links_307 : decode cL_links 307 = .ok (.iload 8, 2) := by decide +kernel
theorem dL_links_309 : decode cL_links 309 = .ok (.invokestatic 93, 3) := by decide +kernel
theorem dL_links_312 : decode cL_links 312 = .ok (.ifCond .le 7, 3) := by decide +kernel
theorem dL_links_315 : decode cL_links 315 = .ok (.iconst 1, 1) := by decide +kernel
theorem dL_links_316 : decode cL_links 316 = .ok (.goto 4, 3) := by decide +kernel
theorem dL_links_319 : decode cL_links 319 = .ok (.iconst 0, 1) := by decide +kernel
theorem dL_links_320 : decode cL_links 320 = .ok (.istore 10, 2) := by decide +kernel
theorem dL_links_322 : decode cL_links 322 = .ok (.aload_n 3, 1) := by decide +kernel
theorem dL_links_323 : decode cL_links 323 = .ok (.aload 6, 2) := by decide +kernel
theorem dL_links_325 : decode cL_links 325 = .ok (.aload 7, 2) := by decide +kernel
theorem dL_links_327 : decode cL_links 327 = .ok (.iload 9, 2) := by decide +kernel
theorem dL_links_329 : decode cL_links 329 = .ok (.invokestatic 89, 3) := by decide +kernel
theorem dL_links_332 : decode cL_links 332 = .ok (.istore 11, 2) := by decide +kernel
theorem dL_links_334 : decode cL_links 334 = .ok (.aload_n 0, 1) := by decide +kernel
theorem dL_links_335 : decode cL_links 335 = .ok (.iconst 1, 1) := by decide +kernel
theorem dL_links_336 : decode cL_links 336 = .ok (.iload 9, 2) := by decide +kernel
theorem dL_links_338 : decode cL_links 338 = .ok (.iload 8, 2) := by decide +kernel
theorem dL_links_340 : decode cL_links 340 = .ok (.invokestatic 99, 3) := by decide +kernel
theorem dL_links_343 : decode cL_links 343 = .ok (.istore 12, 2) := by decide +kernel
theorem dL_links_345 : decode cL_links 345 = .ok (.aload_n 3, 1) := by decide +kernel
theorem dL_links_346 : decode cL_links 346 = .ok (.iload 8, 2) := by decide +kernel
theorem dL_links_348 : decode cL_links 348 = .ok (.dup2, 1) := by decide +kernel
theorem dL_links_349 : decode cL_links 349 = .ok (.iaload, 1) := by decide +kernel
theorem dL_links_350 : decode cL_links 350 = .ok (.iload 10, 2) := by decide +kernel
theorem dL_links_352 : decode cL_links 352 = .ok (.ifCond .eq 13, 3) := by decide +kernel
theorem dL_links_355 : decode cL_links 355 = .ok (.ldc 42, 2) := by decide +kernel
theorem dL_links_357 : decode cL_links 357 = .ok (.iload 9, 2) := by decide +kernel
theorem dL_links_359 : decode cL_links 359 = .ok (.iconst 1, 1) := by decide +kernel
theorem dL_links_360 : decode cL_links 360 = .ok (.iadd, 1) := by decide +kernel
theorem dL_links_361 : decode cL_links 361 = .ok (.imul, 1) := by decide +kernel
theorem dL_links_362 : decode cL_links 362 = .ok (.goto 4, 3) := by decide +kernel
theorem dL_links_365 : decode cL_links 365 = .ok (.iconst 0, 1) := by decide +kernel
theorem dL_links_366 : decode cL_links 366 = .ok (.iadd, 1) := by decide +kernel
theorem dL_links_367 : decode cL_links 367 = .ok (.iastore, 1) := by decide +kernel
theorem dL_links_368 : decode cL_links 368 = .ok (.iload 12, 2) := by decide +kernel
theorem dL_links_370 : decode cL_links 370 = .ok (.iload 10, 2) := by decide +kernel
theorem dL_links_372 : decode cL_links 372 = .ok (.ifCond .eq 10, 3) := by decide +kernel
theorem dL_links_375 : decode cL_links 375 = .ok (.iload 11, 2) := by decide +kernel
theorem dL_links_377 : decode cL_links 377 = .ok (.iconst 1, 1) := by decide +kernel
theorem dL_links_378 : decode cL_links 378 = .ok (.iadd, 1) := by decide +kernel
theorem dL_links_379 : decode cL_links 379 = .ok (.goto 5, 3) := by decide +kernel
theorem dL_links_382 : decode cL_links 382 = .ok (.ldc 41, 2) := by decide +kernel
theorem dL_links_384 : decode cL_links 384 = .ok (.if_icmp .ne 23, 3) := by decide +kernel
theorem dL_links_387 : decode cL_links 387 = .ok (.aload_n 0, 1) := by decide +kernel
theorem dL_links_388 : decode cL_links 388 = .ok (.iload 8, 2) := by decide +kernel
theorem dL_links_390 : decode cL_links 390 = .ok (.iconst 3, 1) := by decide +kernel
theorem dL_links_391 : decode cL_links 391 = .ok (.invokevirtual 123, 3) := by decide +kernel
theorem dL_links_394 : decode cL_links 394 = .ok (.aload_n 3, 1) := by decide +kernel
theorem dL_links_395 : decode cL_links 395 = .ok (.iload 8, 2) := by decide +kernel
theorem dL_links_397 : decode cL_links 397 = .ok (.invokestatic 50, 3) := by decide +kernel
theorem dL_links_400 : decode cL_links 400 = .ok (.if_icmp .ne 7, 3) := by decide +kernel
theorem dL_links_403 : decode cL_links 403 = .ok (.iconst 1, 1) := by decide +kernel
theorem dL_links_404 : decode cL_links 404 = .ok (.goto 4, 3) := by decide +kernel
theorem dL_links_407 : decode cL_links 407 = .ok (.iconst 0, 1) := by decide +kernel
theorem dL_links_408 : decode cL_links 408 = .ok (.ireturn, 1) := by decide +kernel
theorem dL_joins_0 : decode cL_joins 0 = .ok (.iload_n 1, 1) := by decide +kernel
theorem dL_joins_1 : decode cL_joins 1 = .ok (.aload 7, 2) := by decide +kernel
theorem dL_joins_3 : decode cL_joins 3 = .ok (.iconst 3, 1) := by decide +kernel
theorem dL_joins_4 : decode cL_joins 4 = .ok (.iaload, 1) := by decide +kernel
theorem dL_joins_5 : decode cL_joins 5 = .ok (.irem, 1) := by decide +kernel
theorem dL_joins_6 : decode cL_joins 6 = .ok (.istore 8, 2) := by decide +kernel
theorem dL_joins_8 : decode cL_joins 8 = .ok (.iload_n 1, 1) := by decide +kernel
theorem dL_joins_9 : decode cL_joins 9 = .ok (.bipush 12, 2) := by decide +kernel
theorem dL_joins_11 : decode cL_joins 11 = .ok (.idiv, 1) := by decide +kernel
theorem dL_joins_12 : decode cL_joins 12 = .ok (.aload 7, 2) := by decide +kernel
theorem dL_joins_14 : decode cL_joins 14 = .ok (.iconst 3, 1) := by decide +kernel
theorem dL_joins_15 : decode cL_joins 15 = .ok (.iaload, 1) := by decide +kernel
theorem dL_joins_16 : decode cL_joins 16 = .ok (.irem, 1) := by decide +kernel
theorem dL_joins_17 : decode cL_joins 17 = .ok (.istore 9, 2) := by decide +kernel
theorem dL_joins_19 : decode cL_joins 19 = .ok (.iload_n 2, 1) := by decide +kernel
theorem dL_joins_20 : decode cL_joins 20 = .ok (.iconst 5, 1) := by decide +kernel
theorem dL_joins_21 : decode cL_joins 21 = .ok (.irem, 1) := by decide +kernel
theorem dL_joins_22 : decode cL_joins 22 = .ok (.ifCond .ne 81, 3) := by decide +kernel
theorem dL_joins_25 : decode cL_joins 25 = .ok (.aload 6, 2) := by decide +kernel
theorem dL_joins_27 : decode cL_joins 27 = .ok (.aload 7, 2) := by decide +kernel
theorem dL_joins_29 : decode cL_joins 29 = .ok (.iload 8, 2) := by decide +kernel
theorem dL_joins_31 : decode cL_joins 31 = .ok (.invokestatic 126, 3) := by decide +kernel
theorem dL_joins_34 : decode cL_joins 34 = .ok (.istore 10, 2) := by decide +kernel
theorem dL_joins_36 : decode cL_joins 36 = .ok (.aload_n 0, 1) := by decide +kernel
theorem dL_joins_37 : decode cL_joins 37 = .ok (.iconst 4, 1) := by decide +kernel
theorem dL_joins_38 : decode cL_joins 38 = .ok (.iload 8, 2) := by decide +kernel
theorem dL_joins_40 : decode cL_joins 40 = .ok (.iconst 0, 1) := by decide +kernel
theorem dL_joins_41 : decode cL_joins 41 = .ok (.invokestatic 99, 3) := by decide +kernel
theorem dL_joins_44 : decode cL_joins 44 = .ok (.istore 11, 2) := by decide +kernel
theorem dL_joins_46 : decode cL_joins 46 = .ok (.aload 6, 2) := by decide +kernel
theorem dL_joins_48 : decode cL_joins 48 = .ok (.iconst 5, 1) := by decide +kernel
theorem dL_joins_49 : decode cL_joins 49 = .ok (.iload 10, 2) := by decide +kernel
theorem dL_joins_51 : decode cL_joins 51 = .ok (.ifCond .ge 8, 3) := by decide +kernel
theorem dL_joins_54 : decode cL_joins 54 = .ok (.bipush 12, 2) := by decide +kernel
theorem dL_joins_56 : decode cL_joins 56 = .ok (.goto 5, 3) := by decide +kernel
theorem dL_joins_59 : decode cL_joins 59 = .ok (.iload 10, 2) := by decide +kernel
theorem dL_joins_61 : decode cL_joins 61 = .ok (.imul, 1) := by decide +kernel
theorem dL_joins_62 : decode cL_joins 62 = .ok (.iconst 0, 1) := by decide +kernel
theorem dL_joins_63 : decode cL_joins 63 = .ok (.iastore, 1) := by decide +kernel
theorem dL_joins_64 : decode cL_joins 64 = .ok (.iload 11, 2) := by decide +kernel
theorem dL_joins_66 : decode cL_joins 66 = .ok (.iload 10, 2) := by decide +kernel
theorem dL_joins_68 : decode cL_joins 68 = .ok (.ifCond .ge 8, 3) := by decide +kernel
theorem dL_joins_71 : decode cL_joins 71 = .ok (.ldc 41, 2) := by decide +kernel
theorem dL_joins_73 : decode cL_joins 73 = .ok (.goto 5, 3) := by decide +kernel
theorem dL_joins_76 : decode cL_joins 76 = .ok (.iload 10, 2) := by decide +kernel
theorem dL_joins_78 : decode cL_joins 78 = .ok (.if_icmp .ne 23, 3) := by decide +kernel
theorem dL_joins_81 : decode cL_joins 81 = .ok (.iload 10, 2) := by decide +kernel
theorem dL_joins_83 : decode cL_joins 83 = .ok (.ifCond .lt 14, 3) := by decide +kernel
theorem dL_joins_86 : decode cL_joins 86 = .ok (.aload_n 0, 1) := by decide +kernel
theorem dL_joins_87 : decode cL_joins 87 = .ok (.iload 10, 2) := by decide +kernel
theorem dL_joins_89 : decode cL_joins 89 = .ok (.iconst 2, 1) := by decide +kernel
theorem dL_joins_90 : decode cL_joins 90 = .ok (.invokevirtual 86, 3) := by decide +kernel
theorem dL_joins_93 : decode cL_joins 93 = .ok (.iconst (-1), 1) := by decide +kernel
theorem dL_joins_94 : decode cL_joins 94 = .ok (.if_icmp .ne 7, 3) := by decide +kernel
theorem dL_joins_97 : decode cL_joins 97 = .ok (.iconst 1, 1) := by decide +kernel
theorem dL_joins_98 : decode cL_joins 98 = .ok (.goto 4, 3) := by decide +kernel
theorem dL_joins_101 : decode cL_joins 101 = .ok (.iconst 0, 1) := by decide +kernel
theorem dL_joins_102 : decode cL_joins 102 = .ok (.ireturn, 1) := by decide +kernel
theorem dL_joins_103 : decode cL_joins 103 = .ok (.aload 6, 2) := by decide +kernel
theorem dL_joins_105 : decode cL_joins 105 = .ok (.iconst 5, 1) := by decide +kernel
theorem dL_joins_106 : decode cL_joins 106 = .ok (.iload 8, 2) := by decide +kernel
theorem dL_joins_108 : decode cL_joins 108 = .ok (.imul, 1) := by decide +kernel
theorem dL_joins_109 : decode cL_joins 109 = .ok (.iconst 2, 1) := by decide +kernel
theorem dL_joins_110 : decode cL_joins 110 = .ok (.iadd, 1) := by decide +kernel
theorem dL_joins_111 : decode cL_joins 111 = .ok (.iaload, 1) := by decide +kernel
theorem dL_joins_112 : decode cL_joins 112 = .ok (.ifCond .le 19, 3) := by decide +kernel
theorem dL_joins_115 : decode cL_joins 115 = .ok (.aload 6, 2) := by decide +kernel
theorem dL_joins_117 : decode cL_joins 117 = .ok (.iconst 5, 1) := by decide +kernel
theorem dL_joins_118 : decode cL_joins 118 = .ok (.iload 9, 2) := by decide +kernel
theorem dL_joins_120 : decode cL_joins 120 = .ok (.imul, 1) := by decide +kernel
theorem dL_joins_121 : decode cL_joins 121 = .ok (.iconst 2, 1) := by decide +kernel
theorem dL_joins_122 : decode cL_joins 122 = .ok (.iadd, 1) := by decide +kernel
theorem dL_joins_123 : decode cL_joins 123 = .ok (.iaload, 1) := by decide +kernel
theorem dL_joins_124 : decode cL_joins 124 = .ok (.ifCond .le 7, 3) := by decide +kernel
theorem dL_joins_127 : decode cL_joins 127 = .ok (.iconst 1, 1) := by decide +kernel
theorem dL_joins_128 : decode cL_joins 128 = .ok (.goto 4, 3) := by decide +kernel
theorem dL_joins_131 : decode cL_joins 131 = .ok (.iconst 0, 1) := by decide +kernel
theorem dL_joins_132 : decode cL_joins 132 = .ok (.istore 10, 2) := by decide +kernel
theorem dL_joins_134 : decode cL_joins 134 = .ok (.iload 8, 2) := by decide +kernel
theorem dL_joins_136 : decode cL_joins 136 = .ok (.iload 9, 2) := by decide +kernel
theorem dL_joins_138 : decode cL_joins 138 = .ok (.if_icmp .eq 67, 3) := by decide +kernel
theorem dL_joins_141 : decode cL_joins 141 = .ok (.aload 6, 2) := by decide +kernel
theorem dL_joins_143 : decode cL_joins 143 = .ok (.iconst 5, 1) := by decide +kernel
theorem dL_joins_144 : decode cL_joins 144 = .ok (.iload 8, 2) := by decide +kernel
theorem dL_joins_146 : decode cL_joins 146 = .ok (.imul, 1) := by decide +kernel
theorem dL_joins_147 : decode cL_joins 147 = .ok (.iaload, 1) := by decide +kernel
theorem dL_joins_148 : decode cL_joins 148 = .ok (.ifCond .ne 57, 3) := by decide +kernel
theorem dL_joins_151 : decode cL_joins 151 = .ok (.aload 6, 2) := by decide +kernel
theorem dL_joins_153 : decode cL_joins 153 = .ok (.iconst 5, 1) := by decide +kernel
theorem dL_joins_154 : decode cL_joins 154 = .ok (.iload 9, 2) := by decide +kernel
theorem dL_joins_156 : decode cL_joins 156 = .ok (.imul, 1) := by decide +kernel
theorem dL_joins_157 : decode cL_joins 157 = .ok (.iaload, 1) := by decide +kernel
theorem dL_joins_158 : decode cL_joins 158 = .ok (.ifCond .ne 47, 3) := by decide +kernel
theorem dL_joins_161 : decode cL_joins 161 = .ok (.iload 10, 2) := by decide +kernel
theorem dL_joins_163 : decode cL_joins 163 = .ok (.ifCond .ne 42, 3) := by decide +kernel
theorem dL_joins_166 : decode cL_joins 166 = .ok (.aload_n 3, 1) := by decide +kernel
theorem dL_joins_167 : decode cL_joins 167 = .ok (.aload 6, 2) := by decide +kernel
theorem dL_joins_169 : decode cL_joins 169 = .ok (.aload 7, 2) := by decide +kernel
theorem dL_joins_171 : decode cL_joins 171 = .ok (.iload 8, 2) := by decide +kernel
theorem dL_joins_173 : decode cL_joins 173 = .ok (.iload 9, 2) := by decide +kernel
theorem dL_joins_175 : decode cL_joins 175 = .ok (.invokestatic 129, 3) := by decide +kernel
theorem dL_joins_178 : decode cL_joins 178 = .ok (.ifCond .ne 27, 3) := by decide +kernel
theorem dL_joins_181 : decode cL_joins 181 = .ok (.aload_n 3, 1) := by decide +kernel
theorem dL_joins_182 : decode cL_joins 182 = .ok (.aload 4, 2) := by decide +kernel
theorem dL_joins_184 : decode cL_joins 184 = .ok (.aload 5, 2) := by decide +kernel
theorem dL_joins_186 : decode cL_joins 186 = .ok (.aload 6, 2) := by decide +kernel
theorem dL_joins_188 : decode cL_joins 188 = .ok (.aload 7, 2) := by decide +kernel
theorem dL_joins_190 : decode cL_joins 190 = .ok (.iload 8, 2) := by decide +kernel
theorem dL_joins_192 : decode cL_joins 192 = .ok (.iload 9, 2) := by decide +kernel
theorem dL_joins_194 : decode cL_joins 194 = .ok (.iconst (-1), 1) := by decide +kernel
theorem dL_joins_195 : decode cL_joins 195 = .ok (.invokestatic 93, 3) := by decide +kernel
theorem dL_joins_198 : decode cL_joins 198 = .ok (.ifCond .le 7, 3) := by decide +kernel
theorem dL_joins_201 : decode cL_joins 201 = .ok (.iconst 1, 1) := by decide +kernel
theorem dL_joins_202 : decode cL_joins 202 = .ok (.goto 4, 3) := by decide +kernel
theorem dL_joins_205 : decode cL_joins 205 = .ok (.iconst 0, 1) := by decide +kernel
theorem dL_joins_206 : decode cL_joins 206 = .ok (.istore 11, 2) := by decide +kernel
theorem dL_joins_208 : decode cL_joins 208 = .ok (.aload_n 3, 1) := by decide +kernel
theorem dL_joins_209 : decode cL_joins 209 = .ok (.aload 4, 2) := by decide +kernel
theorem dL_joins_211 : decode cL_joins 211 = .ok (.aload 6, 2) := by decide +kernel
theorem dL_joins_213 : decode cL_joins 213 = .ok (.aload 7, 2) := by decide +kernel
theorem dL_joins_215 : decode cL_joins 215 = .ok (.iload 8, 2) := by decide +kernel
theorem dL_joins_217 : decode cL_joins 217 = .ok (.invokestatic 76, 3) := by decide +kernel
theorem dL_joins_220 : decode cL_joins 220 = .ok (.istore 12, 2) := by decide +kernel
theorem dL_joins_222 : decode cL_joins 222 = .ok (.aload_n 3, 1) := by decide +kernel
theorem dL_joins_223 : decode cL_joins 223 = .ok (.aload 4, 2) := by decide +kernel
theorem dL_joins_225 : decode cL_joins 225 = .ok (.aload 6, 2) := by decide +kernel
theorem dL_joins_227 : decode cL_joins 227 = .ok (.aload 7, 2) := by decide +kernel
theorem dL_joins_229 : decode cL_joins 229 = .ok (.iload 9, 2) := by decide +kernel
theorem dL_joins_231 : decode cL_joins 231 = .ok (.invokestatic 76, 3) := by decide +kernel
theorem dL_joins_234 : decode cL_joins 234 = .ok (.istore 13, 2) := by decide +kernel
theorem dL_joins_236 : decode cL_joins 236 = .ok (.aload_n 3, 1) := by decide +kernel
theorem dL_joins_237 : decode cL_joins 237 = .ok (.aload 4, 2) := by decide +kernel
theorem dL_joins_239 : decode cL_joins 239 = .ok (.iload 12, 2) := by decide +kernel
theorem dL_joins_241 : decode cL_joins 241 = .ok (.invokestatic 61, 3) := by decide +kernel
theorem dL_joins_244 : decode cL_joins 244 = .ok (.aload_n 3, 1) := by decide +kernel
theorem dL_joins_245 : decode cL_joins 245 = .ok (.aload 4, 2) := by decide +kernel
theorem dL_joins_247 : decode cL_joins 247 = .ok (.iload 13, 2) := by decide +kernel
theorem dL_joins_249 : decode cL_joins 249 = .ok (.invokestatic 61, 3) := by decide +kernel
theorem dL_joins_252 : decode cL_joins 252 = .ok (.if_icmp .lt 29, 3) := by decide +kernel
theorem dL_joins_255 : decode cL_joins 255 = .ok (.aload_n 3, 1) := by decide +kernel
theorem dL_joins_256 : decode cL_joins 256 = .ok (.aload 4, 2) := by decide +kernel
theorem dL_joins_258 : decode cL_joins 258 = .ok (.iload 12, 2) := by decide +kernel
theorem dL_joins_260 : decode cL_joins 260 = .ok (.invokestatic 61, 3) := by decide +kernel
theorem dL_joins_263 : decode cL_joins 263 = .ok (.aload_n 3, 1) := by decide +kernel
theorem dL_joins_264 : decode cL_joins 264 = .ok (.aload 4, 2) := by decide +kernel
theorem dL_joins_266 : decode cL_joins 266 = .ok (.iload 13, 2) := by decide +kernel
theorem dL_joins_268 : decode cL_joins 268 = .ok (.invokestatic 61, 3) := by decide +kernel
theorem dL_joins_271 : decode cL_joins 271 = .ok (.if_icmp .ne 14, 3) := by decide +kernel
theorem dL_joins_274 : decode cL_joins 274 = .ok (.iload 12, 2) := by decide +kernel
theorem dL_joins_276 : decode cL_joins 276 = .ok (.iload 13, 2) := by decide +kernel
theorem dL_joins_278 : decode cL_joins 278 = .ok (.if_icmp .ge 7, 3) := by decide +kernel
theorem dL_joins_281 : decode cL_joins 281 = .ok (.iconst 1, 1) := by decide +kernel
theorem dL_joins_282 : decode cL_joins 282 = .ok (.goto 4, 3) := by decide +kernel
theorem dL_joins_285 : decode cL_joins 285 = .ok (.iconst 0, 1) := by decide +kernel
theorem dL_joins_286 : decode cL_joins 286 = .ok (.istore 14, 2) := by decide +kernel
theorem dL_joins_288 : decode cL_joins 288 = .ok (.aload 6, 2) := by decide +kernel
theorem dL_joins_290 : decode cL_joins 290 = .ok (.iconst 5, 1) := by decide +kernel
theorem dL_joins_291 : decode cL_joins 291 = .ok (.iload 8, 2) := by decide +kernel
theorem dL_joins_293 : decode cL_joins 293 = .ok (.imul, 1) := by decide +kernel
theorem dL_joins_294 : decode cL_joins 294 = .ok (.iconst 2, 1) := by decide +kernel
theorem dL_joins_295 : decode cL_joins 295 = .ok (.iadd, 1) := by decide +kernel
theorem dL_joins_296 : decode cL_joins 296 = .ok (.iaload, 1) := by decide +kernel
theorem dL_joins_297 : decode cL_joins 297 = .ok (.ifCond .gt 20, 3) := by decide +kernel
theorem dL_joins_300 : decode cL_joins 300 = .ok (.aload 6, 2) := by decide +kernel
theorem dL_joins_302 : decode cL_joins 302 = .ok (.iconst 5, 1) := by decide +kernel
theorem dL_joins_303 : decode cL_joins 303 = .ok (.iload 9, 2) := by decide +kernel
theorem dL_joins_305 : decode cL_joins 305 = .ok (.imul, 1) := by decide +kernel
theorem dL_joins_306 : decode cL_joins 306 = .ok (.iconst 2, 1) := by decide +kernel
theorem dL_joins_307 : decode cL_joins 307 = .ok (.iadd, 1) := by decide +kernel
theorem dL_joins_308 : decode cL_joins 308 = .ok (.iaload, 1) := by decide +kernel
theorem dL_joins_309 : decode cL_joins 309 = .ok (.ifCond .ne 12, 3) := by decide +kernel
theorem dL_joins_312 : decode cL_joins 312 = .ok (.iload 14, 2) := by decide +kernel
theorem dL_joins_314 : decode cL_joins 314 = .ok (.ifCond .eq 7, 3) := by decide +kernel
theorem dL_joins_317 : decode cL_joins 317 = .ok (.iconst 1, 1) := by decide +kernel
theorem dL_joins_318 : decode cL_joins 318 = .ok (.goto 4, 3) := by decide +kernel
theorem dL_joins_321 : decode cL_joins 321 = .ok (.iconst 0, 1) := by decide +kernel
theorem dL_joins_322 : decode cL_joins 322 = .ok (.istore 15, 2) := by decide +kernel
theorem dL_joins_324 : decode cL_joins 324 = .ok (.aload_n 0, 1) := by decide +kernel
theorem dL_joins_325 : decode cL_joins 325 = .ok (.iconst 3, 1) := by decide +kernel
theorem dL_joins_326 : decode cL_joins 326 = .ok (.iload 8, 2) := by decide +kernel
theorem dL_joins_328 : decode cL_joins 328 = .ok (.iload 9, 2) := by decide +kernel
theorem dL_joins_330 : decode cL_joins 330 = .ok (.invokestatic 99, 3) := by decide +kernel
theorem dL_joins_333 : decode cL_joins 333 = .ok (.istore 16, 2) := by decide +kernel
theorem dL_joins_335 : decode cL_joins 335 = .ok (.iload 11, 2) := by decide +kernel
theorem dL_joins_337 : decode cL_joins 337 = .ok (.ifCond .ne 16, 3) := by decide +kernel
theorem dL_joins_340 : decode cL_joins 340 = .ok (.iload 16, 2) := by decide +kernel
theorem dL_joins_342 : decode cL_joins 342 = .ok (.ldc 41, 2) := by decide +kernel
theorem dL_joins_344 : decode cL_joins 344 = .ok (.if_icmp .ne 7, 3) := by decide +kernel
theorem dL_joins_347 : decode cL_joins 347 = .ok (.iconst 1, 1) := by decide +kernel
theorem dL_joins_348 : decode cL_joins 348 = .ok (.goto 4, 3) := by decide +kernel
theorem dL_joins_351 : decode cL_joins 351 = .ok (.iconst 0, 1) := by decide +kernel
theorem dL_joins_352 : decode cL_joins 352 = .ok (.ireturn, 1) := by decide +kernel
theorem dL_joins_353 : decode cL_joins 353 = .ok (.aload 7, 2) := by decide +kernel
theorem dL_joins_355 : decode cL_joins 355 = .ok (.iconst 4, 1) := by decide +kernel
theorem dL_joins_356 : decode cL_joins 356 = .ok (.dup2, 1) := by decide +kernel
theorem dL_joins_357 : decode cL_joins 357 = .ok (.iaload, 1) := by decide +kernel
theorem dL_joins_358 : decode cL_joins 358 = .ok (.iconst 1, 1) := by decide +kernel
theorem dL_joins_359 : decode cL_joins 359 = .ok (.iadd, 1) := by decide +kernel
theorem dL_joins_360 : decode cL_joins 360 = .ok (.iastore, 1) := by decide +kernel
theorem dL_joins_361 : decode cL_joins 361 = .ok (.iload 15, 2) := by decide +kernel
theorem dL_joins_363 : decode cL_joins 363 = .ok (.ifCond .eq 8, 3) := by decide +kernel
theorem dL_joins_366 : decode cL_joins 366 = .ok (.iload 9, 2) := by decide +kernel
theorem dL_joins_368 : decode cL_joins 368 = .ok (.goto 5, 3) := by decide +kernel
theorem dL_joins_371 : decode cL_joins 371 = .ok (.iload 8, 2) := by decide +kernel
theorem dL_joins_373 : decode cL_joins 373 = .ok (.istore 17, 2) := by decide +kernel
theorem dL_joins_375 : decode cL_joins 375 = .ok (.aload 6, 2) := by decide +kernel
theorem dL_joins_377 : decode cL_joins 377 = .ok (.iconst 5, 1) := by decide +kernel
theorem dL_joins_378 : decode cL_joins 378 = .ok (.iload 17, 2) := by decide +kernel
theorem dL_joins_380 : decode cL_joins 380 = .ok (.imul, 1) := by decide +kernel
theorem dL_joins_381 : decode cL_joins 381 = .ok (.iload 15, 2) := by decide +kernel
theorem dL_joins_383 : decode cL_joins 383 = .ok (.ifCond .eq 8, 3) := by decide +kernel
theorem dL_joins_386 : decode cL_joins 386 = .ok (.iload 8, 2) := by decide +kernel
theorem dL_joins_388 : decode cL_joins 388 = .ok (.goto 5, 3) := by decide +kernel
theorem dL_joins_391 : decode cL_joins 391 = .ok (.iload 9, 2) := by decide +kernel
theorem dL_joins_393 : decode cL_joins 393 = .ok (.iconst 1, 1) := by decide +kernel
theorem dL_joins_394 : decode cL_joins 394 = .ok (.iadd, 1) := by decide +kernel
theorem dL_joins_395 : decode cL_joins 395 = .ok (.iastore, 1) := by decide +kernel
theorem dL_joins_396 : decode cL_joins 396 = .ok (.aload 6, 2) := by decide +kernel
theorem dL_joins_398 : decode cL_joins 398 = .ok (.iconst 5, 1) := by decide +kernel
