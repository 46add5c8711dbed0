theorem dL_law_43 : decode cL_law 43 = .ok (.ifCond .lt 30, 3) := by decide +kernel
theorem dL_law_46 : decode cL_law 46 = .ok (.iload 4, 2) := by decide +kernel
theorem dL_law_48 : decode cL_law 48 = .ok (.iconst 2, 1) := by decide +kernel
theorem dL_law_49 : decode cL_law 49 = .ok (.if_icmp .lt 20, 3) := by decide +kernel
theorem dL_law_52 : decode cL_law 52 = .ok (.iload 4, 2) := by decide +kernel
theorem dL_law_54 : decode cL_law 54 = .ok (.bipush 7, 2) := by decide +kernel
theorem dL_law_56 : decode cL_law 56 = .ok (.if_icmp .gt 13, 3) := by decide +kernel
theorem dL_law_59 : decode cL_law 59 = .ok (.aload_n 1, 1) := by decide +kernel
theorem dL_law_60 : decode cL_law 60 = .ok (.invokevirtual 53, 3) := by decide +kernel
theorem dL_law_63 : decode cL_law 63 = .ok (.lload 5, 2) := by decide +kernel
theorem dL_law_65 : decode cL_law 65 = .ok (.lcmp, 1) := by decide +kernel
theorem dL_law_66 : decode cL_law 66 = .ok (.ifCond .ne 7, 3) := by decide +kernel
theorem dL_law_69 : decode cL_law 69 = .ok (.iconst 1, 1) := by decide +kernel
theorem dL_law_70 : decode cL_law 70 = .ok (.goto 4, 3) := by decide +kernel
theorem dL_law_73 : decode cL_law 73 = .ok (.iconst 0, 1) := by decide +kernel
theorem dL_law_74 : decode cL_law 74 = .ok (.istore 8, 2) := by decide +kernel
theorem dL_law_76 : decode cL_law 76 = .ok (.iload 8, 2) := by decide +kernel
theorem dL_law_78 : decode cL_law 78 = .ok (.ifCond .eq 78, 3) := by decide +kernel
theorem dL_law_81 : decode cL_law 81 = .ok (.aload_n 1, 1) := by decide +kernel
theorem dL_law_82 : decode cL_law 82 = .ok (.iload_n 3, 1) := by decide +kernel
theorem dL_law_83 : decode cL_law 83 = .ok (.iconst 5, 1) := by decide +kernel
theorem dL_law_84 : decode cL_law 84 = .ok (.ishr, 1) := by decide +kernel
theorem dL_law_85 : decode cL_law 85 = .ok (.bipush 9, 2) := by decide +kernel
theorem dL_law_87 : decode cL_law 87 = .ok (.invokestatic 8, 3) := by decide +kernel
theorem dL_law_90 : decode cL_law 90 = .ok (.iload_n 3, 1) := by decide +kernel
theorem dL_law_91 : decode cL_law 91 = .ok (.bipush 8, 2) := by decide +kernel
theorem dL_law_93 : decode cL_law 93 = .ok (.ishr, 1) := by decide +kernel
theorem dL_law_94 : decode cL_law 94 = .ok (.bipush 19, 2) := by decide +kernel
theorem dL_law_96 : decode cL_law 96 = .ok (.invokestatic 8, 3) := by decide +kernel
theorem dL_law_99 : decode cL_law 99 = .ok (.bipush 9, 2) := by decide +kernel
theorem dL_law_101 : decode cL_law 101 = .ok (.isub, 1) := by decide +kernel
theorem dL_law_102 : decode cL_law 102 = .ok (.invokestatic 86, 3) := by decide +kernel
theorem dL_law_105 : decode cL_law 105 = .ok (.ifCond .eq 51, 3) := by decide +kernel
theorem dL_law_108 : decode cL_law 108 = .ok (.iload_n 2, 1) := by decide +kernel
theorem dL_law_109 : decode cL_law 109 = .ok (.iconst 4, 1) := by decide +kernel
theorem dL_law_110 : decode cL_law 110 = .ok (.irem, 1) := by decide +kernel
theorem dL_law_111 : decode cL_law 111 = .ok (.iconst 1, 1) := by decide +kernel
theorem dL_law_112 : decode cL_law 112 = .ok (.if_icmp .ne 10, 3) := by decide +kernel
theorem dL_law_115 : decode cL_law 115 = .ok (.aload_n 1, 1) := by decide +kernel
theorem dL_law_116 : decode cL_law 116 = .ok (.invokestatic 90, 3) := by decide +kernel
theorem dL_law_119 : decode cL_law 119 = .ok (.ifCond .eq 37, 3) := by decide +kernel
theorem dL_law_122 : decode cL_law 122 = .ok (.iload_n 2, 1) := by decide +kernel
theorem dL_law_123 : decode cL_law 123 = .ok (.iconst 3, 1) := by decide +kernel
theorem dL_law_124 : decode cL_law 124 = .ok (.irem, 1) := by decide +kernel
theorem dL_law_125 : decode cL_law 125 = .ok (.iconst 2, 1) := by decide +kernel
theorem dL_law_126 : decode cL_law 126 = .ok (.if_icmp .ne 10, 3) := by decide +kernel
theorem dL_law_129 : decode cL_law 129 = .ok (.aload_n 1, 1) := by decide +kernel
theorem dL_law_130 : decode cL_law 130 = .ok (.invokestatic 94, 3) := by decide +kernel
theorem dL_law_133 : decode cL_law 133 = .ok (.ifCond .eq 23, 3) := by decide +kernel
theorem dL_law_136 : decode cL_law 136 = .ok (.iload_n 2, 1) := by decide +kernel
theorem dL_law_137 : decode cL_law 137 = .ok (.iconst 5, 1) := by decide +kernel
theorem dL_law_138 : decode cL_law 138 = .ok (.irem, 1) := by decide +kernel
theorem dL_law_139 : decode cL_law 139 = .ok (.iconst 3, 1) := by decide +kernel
theorem dL_law_140 : decode cL_law 140 = .ok (.if_icmp .ne 18, 3) := by decide +kernel
theorem dL_law_143 : decode cL_law 143 = .ok (.aload_n 1, 1) := by decide +kernel
theorem dL_law_144 : decode cL_law 144 = .ok (.iload_n 3, 1) := by decide +kernel
theorem dL_law_145 : decode cL_law 145 = .ok (.ldc 97, 2) := by decide +kernel
theorem dL_law_147 : decode cL_law 147 = .ok (.invokestatic 8, 3) := by decide +kernel
theorem dL_law_150 : decode cL_law 150 = .ok (.invokestatic 98, 3) := by decide +kernel
theorem dL_law_153 : decode cL_law 153 = .ok (.ifCond .ne 5, 3) := by decide +kernel
theorem dL_law_156 : decode cL_law 156 = .ok (.iconst 0, 1) := by decide +kernel
theorem dL_law_157 : decode cL_law 157 = .ok (.ireturn, 1) := by decide +kernel
theorem dL_law_158 : decode cL_law 158 = .ok (.iinc 2 1, 3) := by decide +kernel
theorem dL_law_161 : decode cL_law 161 = .ok (.goto (-151), 3) := by decide +kernel
theorem dL_law_164 : decode cL_law 164 = .ok (.iconst 1, 1) := by decide +kernel
theorem dL_law_165 : decode cL_law 165 = .ok (.ireturn, 1) := by decide +kernel
