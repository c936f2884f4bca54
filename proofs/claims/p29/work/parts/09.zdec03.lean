theorem dL_adds_57 : decode cL_adds 57 = .ok (.iload 8, 2) := by decide +kernel
theorem dL_adds_59 : decode cL_adds 59 = .ok (.sipush 500, 3) := by decide +kernel
theorem dL_adds_62 : decode cL_adds 62 = .ok (.if_icmp .le 8, 3) := by decide +kernel
theorem dL_adds_65 : decode cL_adds 65 = .ok (.ldc 49, 2) := by decide +kernel
theorem dL_adds_67 : decode cL_adds 67 = .ok (.goto 20, 3) := by decide +kernel
theorem dL_adds_70 : decode cL_adds 70 = .ok (.aload_n 1, 1) := by decide +kernel
theorem dL_adds_71 : decode cL_adds 71 = .ok (.bipush 18, 2) := by decide +kernel
theorem dL_adds_73 : decode cL_adds 73 = .ok (.iaload, 1) := by decide +kernel
theorem dL_adds_74 : decode cL_adds 74 = .ok (.iconst 5, 1) := by decide +kernel
theorem dL_adds_75 : decode cL_adds 75 = .ok (.if_icmp .ne 8, 3) := by decide +kernel
theorem dL_adds_78 : decode cL_adds 78 = .ok (.ldc 96, 2) := by decide +kernel
theorem dL_adds_80 : decode cL_adds 80 = .ok (.goto 7, 3) := by decide +kernel
theorem dL_adds_83 : decode cL_adds 83 = .ok (.aload_n 1, 1) := by decide +kernel
theorem dL_adds_84 : decode cL_adds 84 = .ok (.bipush 18, 2) := by decide +kernel
theorem dL_adds_86 : decode cL_adds 86 = .ok (.iaload, 1) := by decide +kernel
theorem dL_adds_87 : decode cL_adds 87 = .ok (.istore 9, 2) := by decide +kernel
theorem dL_adds_89 : decode cL_adds 89 = .ok (.iload 9, 2) := by decide +kernel
theorem dL_adds_91 : decode cL_adds 91 = .ok (.ifCond .lt 68, 3) := by decide +kernel
theorem dL_adds_94 : decode cL_adds 94 = .ok (.aload_n 1, 1) := by decide +kernel
theorem dL_adds_95 : decode cL_adds 95 = .ok (.bipush 18, 2) := by decide +kernel
theorem dL_adds_97 : decode cL_adds 97 = .ok (.iaload, 1) := by decide +kernel
theorem dL_adds_98 : decode cL_adds 98 = .ok (.istore 10, 2) := by decide +kernel
theorem dL_adds_100 : decode cL_adds 100 = .ok (.aload_n 1, 1) := by decide +kernel
theorem dL_adds_101 : decode cL_adds 101 = .ok (.bipush 18, 2) := by decide +kernel
theorem dL_adds_103 : decode cL_adds 103 = .ok (.dup2, 1) := by decide +kernel
theorem dL_adds_104 : decode cL_adds 104 = .ok (.iaload, 1) := by decide +kernel
theorem dL_adds_105 : decode cL_adds 105 = .ok (.iconst 1, 1) := by decide +kernel
theorem dL_adds_106 : decode cL_adds 106 = .ok (.iadd, 1) := by decide +kernel
theorem dL_adds_107 : decode cL_adds 107 = .ok (.iastore, 1) := by decide +kernel
theorem dL_adds_108 : decode cL_adds 108 = .ok (.aload_n 2, 1) := by decide +kernel
theorem dL_adds_109 : decode cL_adds 109 = .ok (.bipush 10, 2) := by decide +kernel
theorem dL_adds_111 : decode cL_adds 111 = .ok (.iload 10, 2) := by decide +kernel
theorem dL_adds_113 : decode cL_adds 113 = .ok (.iadd, 1) := by decide +kernel
theorem dL_adds_114 : decode cL_adds 114 = .ok (.iload 7, 2) := by decide +kernel
theorem dL_adds_116 : decode cL_adds 116 = .ok (.iastore, 1) := by decide +kernel
theorem dL_adds_117 : decode cL_adds 117 = .ok (.aload_n 2, 1) := by decide +kernel
theorem dL_adds_118 : decode cL_adds 118 = .ok (.bipush 15, 2) := by decide +kernel
theorem dL_adds_120 : decode cL_adds 120 = .ok (.iload 10, 2) := by decide +kernel
theorem dL_adds_122 : decode cL_adds 122 = .ok (.iadd, 1) := by decide +kernel
theorem dL_adds_123 : decode cL_adds 123 = .ok (.iload 8, 2) := by decide +kernel
theorem dL_adds_125 : decode cL_adds 125 = .ok (.iastore, 1) := by decide +kernel
theorem dL_adds_126 : decode cL_adds 126 = .ok (.aload_n 2, 1) := by decide +kernel
theorem dL_adds_127 : decode cL_adds 127 = .ok (.bipush 20, 2) := by decide +kernel
theorem dL_adds_129 : decode cL_adds 129 = .ok (.iload 10, 2) := by decide +kernel
theorem dL_adds_131 : decode cL_adds 131 = .ok (.iadd, 1) := by decide +kernel
theorem dL_adds_132 : decode cL_adds 132 = .ok (.iload 6, 2) := by decide +kernel
theorem dL_adds_134 : decode cL_adds 134 = .ok (.iastore, 1) := by decide +kernel
theorem dL_adds_135 : decode cL_adds 135 = .ok (.aload_n 2, 1) := by decide +kernel
theorem dL_adds_136 : decode cL_adds 136 = .ok (.bipush 25, 2) := by decide +kernel
theorem dL_adds_138 : decode cL_adds 138 = .ok (.iload 10, 2) := by decide +kernel
theorem dL_adds_140 : decode cL_adds 140 = .ok (.iadd, 1) := by decide +kernel
theorem dL_adds_141 : decode cL_adds 141 = .ok (.iload 10, 2) := by decide +kernel
theorem dL_adds_143 : decode cL_adds 143 = .ok (.iastore, 1) := by decide +kernel
theorem dL_adds_144 : decode cL_adds 144 = .ok (.aload_n 3, 1) := by decide +kernel
theorem dL_adds_145 : decode cL_adds 145 = .ok (.bipush 30, 2) := by decide +kernel
theorem dL_adds_147 : decode cL_adds 147 = .ok (.iload 10, 2) := by decide +kernel
theorem dL_adds_149 : decode cL_adds 149 = .ok (.iadd, 1) := by decide +kernel
theorem dL_adds_150 : decode cL_adds 150 = .ok (.aload_n 1, 1) := by decide +kernel
theorem dL_adds_151 : decode cL_adds 151 = .ok (.bipush 6, 2) := by decide +kernel
theorem dL_adds_153 : decode cL_adds 153 = .ok (.iaload, 1) := by decide +kernel
theorem dL_adds_154 : decode cL_adds 154 = .ok (.aload_n 1, 1) := by decide +kernel
theorem dL_adds_155 : decode cL_adds 155 = .ok (.iconst 3, 1) := by decide +kernel
theorem dL_adds_156 : decode cL_adds 156 = .ok (.iaload, 1) := by decide +kernel
theorem dL_adds_157 : decode cL_adds 157 = .ok (.idiv, 1) := by decide +kernel
theorem dL_adds_158 : decode cL_adds 158 = .ok (.iastore, 1) := by decide +kernel
theorem dL_adds_159 : decode cL_adds 159 = .ok (.aload_n 0, 1) := by decide +kernel
theorem dL_adds_160 : decode cL_adds 160 = .ok (.iload 6, 2) := by decide +kernel
theorem dL_adds_162 : decode cL_adds 162 = .ok (.iload 7, 2) := by decide +kernel
theorem dL_adds_164 : decode cL_adds 164 = .ok (.iload 8, 2) := by decide +kernel
theorem dL_adds_166 : decode cL_adds 166 = .ok (.invokevirtual 97, 3) := by decide +kernel
theorem dL_adds_169 : decode cL_adds 169 = .ok (.iload 9, 2) := by decide +kernel
theorem dL_adds_171 : decode cL_adds 171 = .ok (.if_icmp .ne 7, 3) := by decide +kernel
theorem dL_adds_174 : decode cL_adds 174 = .ok (.iconst 1, 1) := by decide +kernel
theorem dL_adds_175 : decode cL_adds 175 = .ok (.goto 4, 3) := by decide +kernel
theorem dL_adds_178 : decode cL_adds 178 = .ok (.iconst 0, 1) := by decide +kernel
theorem dL_adds_179 : decode cL_adds 179 = .ok (.ireturn, 1) := by decide +kernel
theorem dL_leads_0 : decode cL_leads 0 = .ok (.iload_n 3, 1) := by decide +kernel
theorem dL_leads_1 : decode cL_leads 1 = .ok (.bipush 6, 2) := by decide +kernel
theorem dL_leads_3 : decode cL_leads 3 = .ok (.invokestatic 85, 3) := by decide +kernel
theorem dL_leads_6 : decode cL_leads 6 = .ok (.istore 4, 2) := by decide +kernel
theorem dL_leads_8 : decode cL_leads 8 = .ok (.iload_n 3, 1) := by decide +kernel
theorem dL_leads_9 : decode cL_leads 9 = .ok (.iconst 3, 1) := by decide +kernel
theorem dL_leads_10 : decode cL_leads 10 = .ok (.ishr, 1) := by decide +kernel
theorem dL_leads_11 : decode cL_leads 11 = .ok (.bipush 6, 2) := by decide +kernel
theorem dL_leads_13 : decode cL_leads 13 = .ok (.invokestatic 85, 3) := by decide +kernel
theorem dL_leads_16 : decode cL_leads 16 = .ok (.istore 5, 2) := by decide +kernel
theorem dL_leads_18 : decode cL_leads 18 = .ok (.iload 4, 2) := by decide +kernel
theorem dL_leads_20 : decode cL_leads 20 = .ok (.aload_n 1, 1) := by decide +kernel
theorem dL_leads_21 : decode cL_leads 21 = .ok (.bipush 18, 2) := by decide +kernel
theorem dL_leads_23 : decode cL_leads 23 = .ok (.iaload, 1) := by decide +kernel
theorem dL_leads_24 : decode cL_leads 24 = .ok (.if_icmp .ge 19, 3) := by decide +kernel
theorem dL_leads_27 : decode cL_leads 27 = .ok (.iload 5, 2) := by decide +kernel
theorem dL_leads_29 : decode cL_leads 29 = .ok (.aload_n 1, 1) := by decide +kernel
theorem dL_leads_30 : decode cL_leads 30 = .ok (.bipush 18, 2) := by decide +kernel
theorem dL_leads_32 : decode cL_leads 32 = .ok (.iaload, 1) := by decide +kernel
theorem dL_leads_33 : decode cL_leads 33 = .ok (.if_icmp .ge 10, 3) := by decide +kernel
theorem dL_leads_36 : decode cL_leads 36 = .ok (.iload 5, 2) := by decide +kernel
theorem dL_leads_38 : decode cL_leads 38 = .ok (.iload 4, 2) := by decide +kernel
theorem dL_leads_40 : decode cL_leads 40 = .ok (.if_icmp .ge 8, 3) := by decide +kernel
theorem dL_leads_43 : decode cL_leads 43 = .ok (.ldc 49, 2) := by decide +kernel
theorem dL_leads_45 : decode cL_leads 45 = .ok (.goto 26, 3) := by decide +kernel
theorem dL_leads_48 : decode cL_leads 48 = .ok (.aload_n 2, 1) := by decide +kernel
theorem dL_leads_49 : decode cL_leads 49 = .ok (.bipush 20, 2) := by decide +kernel
theorem dL_leads_51 : decode cL_leads 51 = .ok (.iload 4, 2) := by decide +kernel
theorem dL_leads_53 : decode cL_leads 53 = .ok (.iadd, 1) := by decide +kernel
theorem dL_leads_54 : decode cL_leads 54 = .ok (.iaload, 1) := by decide +kernel
theorem dL_leads_55 : decode cL_leads 55 = .ok (.iconst 1, 1) := by decide +kernel
theorem dL_leads_56 : decode cL_leads 56 = .ok (.if_icmp .ne 8, 3) := by decide +kernel
theorem dL_leads_59 : decode cL_leads 59 = .ok (.ldc 101, 2) := by decide +kernel
theorem dL_leads_61 : decode cL_leads 61 = .ok (.goto 10, 3) := by decide +kernel
theorem dL_leads_64 : decode cL_leads 64 = .ok (.aload_n 2, 1) := by decide +kernel
theorem dL_leads_65 : decode cL_leads 65 = .ok (.bipush 25, 2) := by decide +kernel
theorem dL_leads_67 : decode cL_leads 67 = .ok (.iload 4, 2) := by decide +kernel
theorem dL_leads_69 : decode cL_leads 69 = .ok (.iadd, 1) := by decide +kernel
theorem dL_leads_70 : decode cL_leads 70 = .ok (.iaload, 1) := by decide +kernel
theorem dL_leads_71 : decode cL_leads 71 = .ok (.istore 6, 2) := by decide +kernel
theorem dL_leads_73 : decode cL_leads 73 = .ok (.iload 6, 2) := by decide +kernel
theorem dL_leads_75 : decode cL_leads 75 = .ok (.ifCond .lt 12, 3) := by decide +kernel
theorem dL_leads_78 : decode cL_leads 78 = .ok (.aload_n 2, 1) := by decide +kernel
theorem dL_leads_79 : decode cL_leads 79 = .ok (.bipush 25, 2) := by decide +kernel
theorem dL_leads_81 : decode cL_leads 81 = .ok (.iload 4, 2) := by decide +kernel
theorem dL_leads_83 : decode cL_leads 83 = .ok (.iadd, 1) := by decide +kernel
theorem dL_leads_84 : decode cL_leads 84 = .ok (.iload 5, 2) := by decide +kernel
theorem dL_leads_86 : decode cL_leads 86 = .ok (.iastore, 1) := by decide +kernel
theorem dL_leads_87 : decode cL_leads 87 = .ok (.aload_n 0, 1) := by decide +kernel
theorem dL_leads_88 : decode cL_leads 88 = .ok (.iload 4, 2) := by decide +kernel
theorem dL_leads_90 : decode cL_leads 90 = .ok (.iload 5, 2) := by decide +kernel
theorem dL_leads_92 : decode cL_leads 92 = .ok (.invokevirtual 102, 3) := by decide +kernel
theorem dL_leads_95 : decode cL_leads 95 = .ok (.iload 6, 2) := by decide +kernel
theorem dL_leads_97 : decode cL_leads 97 = .ok (.if_icmp .ne 7, 3) := by decide +kernel
theorem dL_leads_100 : decode cL_leads 100 = .ok (.iconst 1, 1) := by decide +kernel
theorem dL_leads_101 : decode cL_leads 101 = .ok (.goto 4, 3) := by decide +kernel
theorem dL_leads_104 : decode cL_leads 104 = .ok (.iconst 0, 1) := by decide +kernel
theorem dL_leads_105 : decode cL_leads 105 = .ok (.ireturn, 1) := by decide +kernel
theorem dL_pours_0 : decode cL_pours 0 = .ok (.iload 4, 2) := by decide +kernel
theorem dL_pours_2 : decode cL_pours 2 = .ok (.aload_n 1, 1) := by decide +kernel
theorem dL_pours_3 : decode cL_pours 3 = .ok (.bipush 18, 2) := by decide +kernel
theorem dL_pours_5 : decode cL_pours 5 = .ok (.iaload, 1) := by decide +kernel
theorem dL_pours_6 : decode cL_pours 6 = .ok (.iconst 1, 1) := by decide +kernel
theorem dL_pours_7 : decode cL_pours 7 = .ok (.iadd, 1) := by decide +kernel
theorem dL_pours_8 : decode cL_pours 8 = .ok (.invokestatic 85, 3) := by decide +kernel
theorem dL_pours_11 : decode cL_pours 11 = .ok (.istore 5, 2) := by decide +kernel
theorem dL_pours_13 : decode cL_pours 13 = .ok (.iload 4, 2) := by decide +kernel
theorem dL_pours_15 : decode cL_pours 15 = .ok (.iconst 4, 1) := by decide +kernel
theorem dL_pours_16 : decode cL_pours 16 = .ok (.ishr, 1) := by decide +kernel
theorem dL_pours_17 : decode cL_pours 17 = .ok (.iconst 4, 1) := by decide +kernel
theorem dL_pours_18 : decode cL_pours 18 = .ok (.invokestatic 85, 3) := by decide +kernel
theorem dL_pours_21 : decode cL_pours 21 = .ok (.istore 6, 2) := by decide +kernel
theorem dL_pours_23 : decode cL_pours 23 = .ok (.iload 6, 2) := by decide +kernel
theorem dL_pours_25 : decode cL_pours 25 = .ok (.ifCond .ne 8, 3) := by decide +kernel
theorem dL_pours_28 : decode cL_pours 28 = .ok (.bipush 50, 2) := by decide +kernel
theorem dL_pours_30 : decode cL_pours 30 = .ok (.goto 18, 3) := by decide +kernel
theorem dL_pours_33 : decode cL_pours 33 = .ok (.iload 6, 2) := by decide +kernel
theorem dL_pours_35 : decode cL_pours 35 = .ok (.iconst 1, 1) := by decide +kernel
theorem dL_pours_36 : decode cL_pours 36 = .ok (.if_icmp .ne 9, 3) := by decide +kernel
theorem dL_pours_39 : decode cL_pours 39 = .ok (.sipush 200, 3) := by decide +kernel
theorem dL_pours_42 : decode cL_pours 42 = .ok (.goto 6, 3) := by decide +kernel
theorem dL_pours_45 : decode cL_pours 45 = .ok (.sipush 700, 3) := by decide +kernel
theorem dL_pours_48 : decode cL_pours 48 = .ok (.istore 7, 2) := by decide +kernel
theorem dL_pours_50 : decode cL_pours 50 = .ok (.iload 5, 2) := by decide +kernel
theorem dL_pours_52 : decode cL_pours 52 = .ok (.aload_n 1, 1) := by decide +kernel
theorem dL_pours_53 : decode cL_pours 53 = .ok (.bipush 18, 2) := by decide +kernel
theorem dL_pours_55 : decode cL_pours 55 = .ok (.iaload, 1) := by decide +kernel
theorem dL_pours_56 : decode cL_pours 56 = .ok (.if_icmp .ge 9, 3) := by decide +kernel
theorem dL_pours_59 : decode cL_pours 59 = .ok (.iload 6, 2) := by decide +kernel
theorem dL_pours_61 : decode cL_pours 61 = .ok (.iconst 2, 1) := by decide +kernel
theorem dL_pours_62 : decode cL_pours 62 = .ok (.if_icmp .le 22, 3) := by decide +kernel
theorem dL_pours_65 : decode cL_pours 65 = .ok (.aload_n 0, 1) := by decide +kernel
theorem dL_pours_66 : decode cL_pours 66 = .ok (.iload 5, 2) := by decide +kernel
theorem dL_pours_68 : decode cL_pours 68 = .ok (.iload 6, 2) := by decide +kernel
theorem dL_pours_70 : decode cL_pours 70 = .ok (.invokevirtual 105, 3) := by decide +kernel
theorem dL_pours_73 : decode cL_pours 73 = .ok (.ldc 49, 2) := by decide +kernel
theorem dL_pours_75 : decode cL_pours 75 = .ok (.if_icmp .ne 7, 3) := by decide +kernel
theorem dL_pours_78 : decode cL_pours 78 = .ok (.iconst 1, 1) := by decide +kernel
theorem dL_pours_79 : decode cL_pours 79 = .ok (.goto 4, 3) := by decide +kernel
theorem dL_pours_82 : decode cL_pours 82 = .ok (.iconst 0, 1) := by decide +kernel
theorem dL_pours_83 : decode cL_pours 83 = .ok (.ireturn, 1) := by decide +kernel
theorem dL_pours_84 : decode cL_pours 84 = .ok (.aload_n 1, 1) := by decide +kernel
theorem dL_pours_85 : decode cL_pours 85 = .ok (.bipush 7, 2) := by decide +kernel
theorem dL_pours_87 : decode cL_pours 87 = .ok (.iaload, 1) := by decide +kernel
theorem dL_pours_88 : decode cL_pours 88 = .ok (.iload 7, 2) := by decide +kernel
theorem dL_pours_90 : decode cL_pours 90 = .ok (.if_icmp .lt 13, 3) := by decide +kernel
theorem dL_pours_93 : decode cL_pours 93 = .ok (.aload_n 2, 1) := by decide +kernel
theorem dL_pours_94 : decode cL_pours 94 = .ok (.iload 5, 2) := by decide +kernel
theorem dL_pours_96 : decode cL_pours 96 = .ok (.iaload, 1) := by decide +kernel
theorem dL_pours_97 : decode cL_pours 97 = .ok (.aload_n 1, 1) := by decide +kernel
theorem dL_pours_98 : decode cL_pours 98 = .ok (.iconst 0, 1) := by decide +kernel
theorem dL_pours_99 : decode cL_pours 99 = .ok (.iaload, 1) := by decide +kernel
theorem dL_pours_100 : decode cL_pours 100 = .ok (.if_icmp .lt 22, 3) := by decide +kernel
theorem dL_pours_103 : decode cL_pours 103 = .ok (.aload_n 0, 1) := by decide +kernel
theorem dL_pours_104 : decode cL_pours 104 = .ok (.iload 5, 2) := by decide +kernel
theorem dL_pours_106 : decode cL_pours 106 = .ok (.iload 6, 2) := by decide +kernel
theorem dL_pours_108 : decode cL_pours 108 = .ok (.invokevirtual 105, 3) := by decide +kernel
theorem dL_pours_111 : decode cL_pours 111 = .ok (.ldc 101, 2) := by decide +kernel
theorem dL_pours_113 : decode cL_pours 113 = .ok (.if_icmp .ne 7, 3) := by decide +kernel
theorem dL_pours_116 : decode cL_pours 116 = .ok (.iconst 1, 1) := by decide +kernel
theorem dL_pours_117 : decode cL_pours 117 = .ok (.goto 4, 3) := by decide +kernel
theorem dL_pours_120 : decode cL_pours 120 = .ok (.iconst 0, 1) := by decide +kernel
theorem dL_pours_121 : decode cL_pours 121 = .ok (.ireturn, 1) := by decide +kernel
theorem dL_pours_122 : decode cL_pours 122 = .ok (.aload_n 1, 1) := by decide +kernel
theorem dL_pours_123 : decode cL_pours 123 = .ok (.bipush 7, 2) := by decide +kernel
theorem dL_pours_125 : decode cL_pours 125 = .ok (.dup2, 1) := by decide +kernel
theorem dL_pours_126 : decode cL_pours 126 = .ok (.iaload, 1) := by decide +kernel
theorem dL_pours_127 : decode cL_pours 127 = .ok (.iload 7, 2) := by decide +kernel
theorem dL_pours_129 : decode cL_pours 129 = .ok (.isub, 1) := by decide +kernel
theorem dL_pours_130 : decode cL_pours 130 = .ok (.iastore, 1) := by decide +kernel
theorem dL_pours_131 : decode cL_pours 131 = .ok (.aload_n 1, 1) := by decide +kernel
theorem dL_pours_132 : decode cL_pours 132 = .ok (.bipush 10, 2) := by decide +kernel
theorem dL_pours_134 : decode cL_pours 134 = .ok (.dup2, 1) := by decide +kernel
theorem dL_pours_135 : decode cL_pours 135 = .ok (.iaload, 1) := by decide +kernel
theorem dL_pours_136 : decode cL_pours 136 = .ok (.iload 7, 2) := by decide +kernel
theorem dL_pours_138 : decode cL_pours 138 = .ok (.iadd, 1) := by decide +kernel
theorem dL_pours_139 : decode cL_pours 139 = .ok (.iastore, 1) := by decide +kernel
theorem dL_pours_140 : decode cL_pours 140 = .ok (.aload_n 1, 1) := by decide +kernel
theorem dL_pours_141 : decode cL_pours 141 = .ok (.bipush 17, 2) := by decide +kernel
theorem dL_pours_143 : decode cL_pours 143 = .ok (.dup2, 1) := by decide +kernel
theorem dL_pours_144 : decode cL_pours 144 = .ok (.iaload, 1) := by decide +kernel
theorem dL_pours_145 : decode cL_pours 145 = .ok (.iconst 1, 1) := by decide +kernel
theorem dL_pours_146 : decode cL_pours 146 = .ok (.iadd, 1) := by decide +kernel
theorem dL_pours_147 : decode cL_pours 147 = .ok (.iastore, 1) := by decide +kernel
theorem dL_pours_148 : decode cL_pours 148 = .ok (.aload_n 3, 1) := by decide +kernel
theorem dL_pours_149 : decode cL_pours 149 = .ok (.bipush 15, 2) := by decide +kernel
theorem dL_pours_151 : decode cL_pours 151 = .ok (.iload 5, 2) := by decide +kernel
theorem dL_pours_153 : decode cL_pours 153 = .ok (.iadd, 1) := by decide +kernel
theorem dL_pours_154 : decode cL_pours 154 = .ok (.dup2, 1) := by decide +kernel
theorem dL_pours_155 : decode cL_pours 155 = .ok (.iaload, 1) := by decide +kernel
theorem dL_pours_156 : decode cL_pours 156 = .ok (.iload 7, 2) := by decide +kernel
theorem dL_pours_158 : decode cL_pours 158 = .ok (.iadd, 1) := by decide +kernel
theorem dL_pours_159 : decode cL_pours 159 = .ok (.iastore, 1) := by decide +kernel
theorem dL_pours_160 : decode cL_pours 160 = .ok (.aload_n 0, 1) := by decide +kernel
theorem dL_pours_161 : decode cL_pours 161 = .ok (.iload 5, 2) := by decide +kernel
theorem dL_pours_163 : decode cL_pours 163 = .ok (.iload 6, 2) := by decide +kernel
theorem dL_pours_165 : decode cL_pours 165 = .ok (.invokevirtual 105, 3) := by decide +kernel
theorem dL_pours_168 : decode cL_pours 168 = .ok (.aload_n 1, 1) := by decide +kernel
theorem dL_pours_169 : decode cL_pours 169 = .ok (.aload_n 2, 1) := by decide +kernel
theorem dL_pours_170 : decode cL_pours 170 = .ok (.iload 5, 2) := by decide +kernel
theorem dL_pours_172 : decode cL_pours 172 = .ok (.iload 7, 2) := by decide +kernel
theorem dL_pours_174 : decode cL_pours 174 = .ok (.invokestatic 19, 3) := by decide +kernel
theorem dL_pours_177 : decode cL_pours 177 = .ok (.if_icmp .ne 7, 3) := by decide +kernel
theorem dL_pours_180 : decode cL_pours 180 = .ok (.iconst 1, 1) := by decide +kernel
theorem dL_pours_181 : decode cL_pours 181 = .ok (.goto 4, 3) := by decide +kernel
theorem dL_pours_184 : decode cL_pours 184 = .ok (.iconst 0, 1) := by decide +kernel
theorem dL_pours_185 : decode cL_pours 185 = .ok (.ireturn, 1) := by decide +kernel
theorem dL_waxes_0 : decode cL_waxes 0 = .ok (.iload_n 3, 1) := by decide +kernel
theorem dL_waxes_1 : decode cL_waxes 1 = .ok (.bipush 6, 2) := by decide +kernel
theorem dL_waxes_3 : decode cL_waxes 3 = .ok (.invokestatic 85, 3) := by decide +kernel
theorem dL_waxes_6 : decode cL_waxes 6 = .ok (.istore 4, 2) := by decide +kernel
theorem dL_waxes_8 : decode cL_waxes 8 = .ok (.iload_n 3, 1) := by decide +kernel
theorem dL_waxes_9 : decode cL_waxes 9 = .ok (.iconst 3, 1) := by decide +kernel
theorem dL_waxes_10 : decode cL_waxes 10 = .ok (.ishr, 1) := by decide +kernel
theorem dL_waxes_11 : decode cL_waxes 11 = .ok (.bipush 61, 2) := by decide +kernel
theorem dL_waxes_13 : decode cL_waxes 13 = .ok (.invokestatic 85, 3) := by decide +kernel
theorem dL_waxes_16 : decode cL_waxes 16 = .ok (.istore 5, 2) := by decide +kernel
theorem dL_waxes_18 : decode cL_waxes 18 = .ok (.iload 4, 2) := by decide +kernel
theorem dL_waxes_20 : decode cL_waxes 20 = .ok (.aload_n 1, 1) := by decide +kernel
theorem dL_waxes_21 : decode cL_waxes 21 = .ok (.bipush 18, 2) := by decide +kernel
theorem dL_waxes_23 : decode cL_waxes 23 = .ok (.iaload, 1) := by decide +kernel
theorem dL_waxes_24 : decode cL_waxes 24 = .ok (.if_icmp .ge 16, 3) := by decide +kernel
theorem dL_waxes_27 : decode cL_waxes 27 = .ok (.iload 5, 2) := by decide +kernel
theorem dL_waxes_29 : decode cL_waxes 29 = .ok (.iconst 1, 1) := by decide +kernel
theorem dL_waxes_30 : decode cL_waxes 30 = .ok (.if_icmp .lt 10, 3) := by decide +kernel
theorem dL_waxes_33 : decode cL_waxes 33 = .ok (.iload 5, 2) := by decide +kernel
theorem dL_waxes_35 : decode cL_waxes 35 = .ok (.bipush 59, 2) := by decide +kernel
theorem dL_waxes_37 : decode cL_waxes 37 = .ok (.if_icmp .le 8, 3) := by decide +kernel
theorem dL_waxes_40 : decode cL_waxes 40 = .ok (.ldc 49, 2) := by decide +kernel
theorem dL_waxes_42 : decode cL_waxes 42 = .ok (.goto 30, 3) := by decide +kernel
theorem dL_waxes_45 : decode cL_waxes 45 = .ok (.aload_n 2, 1) := by decide +kernel
theorem dL_waxes_46 : decode cL_waxes 46 = .ok (.bipush 10, 2) := by decide +kernel
theorem dL_waxes_48 : decode cL_waxes 48 = .ok (.iload 4, 2) := by decide +kernel
theorem dL_waxes_50 : decode cL_waxes 50 = .ok (.iadd, 1) := by decide +kernel
theorem dL_waxes_51 : decode cL_waxes 51 = .ok (.iaload, 1) := by decide +kernel
theorem dL_waxes_52 : decode cL_waxes 52 = .ok (.iload 5, 2) := by decide +kernel
theorem dL_waxes_54 : decode cL_waxes 54 = .ok (.if_icmp .gt 8, 3) := by decide +kernel
theorem dL_waxes_57 : decode cL_waxes 57 = .ok (.ldc 101, 2) := by decide +kernel
theorem dL_waxes_59 : decode cL_waxes 59 = .ok (.goto 13, 3) := by decide +kernel
theorem dL_waxes_62 : decode cL_waxes 62 = .ok (.aload_n 2, 1) := by decide +kernel
theorem dL_waxes_63 : decode cL_waxes 63 = .ok (.bipush 10, 2) := by decide +kernel
theorem dL_waxes_65 : decode cL_waxes 65 = .ok (.iload 4, 2) := by decide +kernel
theorem dL_waxes_67 : decode cL_waxes 67 = .ok (.iadd, 1) := by decide +kernel
theorem dL_waxes_68 : decode cL_waxes 68 = .ok (.iaload, 1) := by decide +kernel
theorem dL_waxes_69 : decode cL_waxes 69 = .ok (.iload 5, 2) := by decide +kernel
theorem dL_waxes_71 : decode cL_waxes 71 = .ok (.isub, 1) := by decide +kernel
theorem dL_waxes_72 : decode cL_waxes 72 = .ok (.istore 6, 2) := by decide +kernel
theorem dL_waxes_74 : decode cL_waxes 74 = .ok (.iload 6, 2) := by decide +kernel
theorem dL_waxes_76 : decode cL_waxes 76 = .ok (.ifCond .le 12, 3) := by decide +kernel
theorem dL_waxes_79 : decode cL_waxes 79 = .ok (.aload_n 2, 1) := by decide +kernel
theorem dL_waxes_80 : decode cL_waxes 80 = .ok (.bipush 10, 2) := by decide +kernel
theorem dL_waxes_82 : decode cL_waxes 82 = .ok (.iload 4, 2) := by decide +kernel
theorem dL_waxes_84 : decode cL_waxes 84 = .ok (.iadd, 1) := by decide +kernel
theorem dL_waxes_85 : decode cL_waxes 85 = .ok (.iload 6, 2) := by decide +kernel
theorem dL_waxes_87 : decode cL_waxes 87 = .ok (.iastore, 1) := by decide +kernel
theorem dL_waxes_88 : decode cL_waxes 88 = .ok (.aload_n 0, 1) := by decide +kernel
theorem dL_waxes_89 : decode cL_waxes 89 = .ok (.iload 4, 2) := by decide +kernel
theorem dL_waxes_91 : decode cL_waxes 91 = .ok (.iload 5, 2) := by decide +kernel
theorem dL_waxes_93 : decode cL_waxes 93 = .ok (.invokevirtual 108, 3) := by decide +kernel
theorem dL_waxes_96 : decode cL_waxes 96 = .ok (.iload 6, 2) := by decide +kernel
theorem dL_waxes_98 : decode cL_waxes 98 = .ok (.if_icmp .ne 7, 3) := by decide +kernel
theorem dL_waxes_101 : decode cL_waxes 101 = .ok (.iconst 1, 1) := by decide +kernel
theorem dL_waxes_102 : decode cL_waxes 102 = .ok (.goto 4, 3) := by decide +kernel
theorem dL_waxes_105 : decode cL_waxes 105 = .ok (.iconst 0, 1) := by decide +kernel
theorem dL_waxes_106 : decode cL_waxes 106 = .ok (.ireturn, 1) := by decide +kernel
theorem dL_pitches_0 : decode cL_pitches 0 = .ok (.iload 4, 2) := by decide +kernel
theorem dL_pitches_2 : decode cL_pitches 2 = .ok (.bipush 6, 2) := by decide +kernel
theorem dL_pitches_4 : decode cL_pitches 4 = .ok (.invokestatic 85, 3) := by decide +kernel
theorem dL_pitches_7 : decode cL_pitches 7 = .ok (.istore 5, 2) := by decide +kernel
theorem dL_pitches_9 : decode cL_pitches 9 = .ok (.iload 4, 2) := by decide +kernel
theorem dL_pitches_11 : decode cL_pitches 11 = .ok (.iconst 3, 1) := by decide +kernel
theorem dL_pitches_12 : decode cL_pitches 12 = .ok (.ishr, 1) := by decide +kernel
theorem dL_pitches_13 : decode cL_pitches 13 = .ok (.sipush 502, 3) := by decide +kernel
theorem dL_pitches_16 : decode cL_pitches 16 = .ok (.invokestatic 85, 3) := by decide +kernel
theorem dL_pitches_19 : decode cL_pitches 19 = .ok (.istore 6, 2) := by decide +kernel
theorem dL_pitches_21 : decode cL_pitches 21 = .ok (.iload 5, 2) := by decide +kernel
theorem dL_pitches_23 : decode cL_pitches 23 = .ok (.aload_n 1, 1) := by decide +kernel
theorem dL_pitches_24 : decode cL_pitches 24 = .ok (.bipush 18, 2) := by decide +kernel
theorem dL_pitches_26 : decode cL_pitches 26 = .ok (.iaload, 1) := by decide +kernel
theorem dL_pitches_27 : decode cL_pitches 27 = .ok (.if_icmp .ge 17, 3) := by decide +kernel
theorem dL_pitches_30 : decode cL_pitches 30 = .ok (.iload 6, 2) := by decide +kernel
theorem dL_pitches_32 : decode cL_pitches 32 = .ok (.iconst 1, 1) := by decide +kernel
theorem dL_pitches_33 : decode cL_pitches 33 = .ok (.if_icmp .lt 11, 3) := by decide +kernel
theorem dL_pitches_36 : decode cL_pitches 36 = .ok (.iload 6, 2) := by decide +kernel
theorem dL_pitches_38 : decode cL_pitches 38 = .ok (.sipush 500, 3) := by decide +kernel
theorem dL_pitches_41 : decode cL_pitches 41 = .ok (.if_icmp .le 22, 3) := by decide +kernel
theorem dL_pitches_44 : decode cL_pitches 44 = .ok (.aload_n 0, 1) := by decide +kernel
theorem dL_pitches_45 : decode cL_pitches 45 = .ok (.iload 5, 2) := by decide +kernel
theorem dL_pitches_47 : decode cL_pitches 47 = .ok (.iload 6, 2) := by decide +kernel
theorem dL_pitches_49 : decode cL_pitches 49 = .ok (.invokevirtual 111, 3) := by decide +kernel
theorem dL_pitches_52 : decode cL_pitches 52 = .ok (.ldc 49, 2) := by decide +kernel
theorem dL_pitches_54 : decode cL_pitches 54 = .ok (.if_icmp .ne 7, 3) := by decide +kernel
theorem dL_pitches_57 : decode cL_pitches 57 = .ok (.iconst 1, 1) := by decide +kernel
theorem dL_pitches_58 : decode cL_pitches 58 = .ok (.goto 4, 3) := by decide +kernel
theorem dL_pitches_61 : decode cL_pitches 61 = .ok (.iconst 0, 1) := by decide +kernel
theorem dL_pitches_62 : decode cL_pitches 62 = .ok (.ireturn, 1) := by decide +kernel
theorem dL_pitches_63 : decode cL_pitches 63 = .ok (.aload_n 2, 1) := by decide +kernel
theorem dL_pitches_64 : decode cL_pitches 64 = .ok (.bipush 15, 2) := by decide +kernel
theorem dL_pitches_66 : decode cL_pitches 66 = .ok (.iload 5, 2) := by decide +kernel
theorem dL_pitches_68 : decode cL_pitches 68 = .ok (.iadd, 1) := by decide +kernel
theorem dL_pitches_69 : decode cL_pitches 69 = .ok (.iaload, 1) := by decide +kernel
theorem dL_pitches_70 : decode cL_pitches 70 = .ok (.istore 7, 2) := by decide +kernel
theorem dL_pitches_72 : decode cL_pitches 72 = .ok (.aload_n 2, 1) := by decide +kernel
theorem dL_pitches_73 : decode cL_pitches 73 = .ok (.bipush 15, 2) := by decide +kernel
theorem dL_pitches_75 : decode cL_pitches 75 = .ok (.iload 5, 2) := by decide +kernel
theorem dL_pitches_77 : decode cL_pitches 77 = .ok (.iadd, 1) := by decide +kernel
theorem dL_pitches_78 : decode cL_pitches 78 = .ok (.iload 6, 2) := by decide +kernel
theorem dL_pitches_80 : decode cL_pitches 80 = .ok (.iastore, 1) := by decide +kernel
theorem dL_pitches_81 : decode cL_pitches 81 = .ok (.aload_n 1, 1) := by decide +kernel
theorem dL_pitches_82 : decode cL_pitches 82 = .ok (.aload_n 2, 1) := by decide +kernel
theorem dL_pitches_83 : decode cL_pitches 83 = .ok (.aload_n 3, 1) := by decide +kernel
theorem dL_pitches_84 : decode cL_pitches 84 = .ok (.iload 5, 2) := by decide +kernel
theorem dL_pitches_86 : decode cL_pitches 86 = .ok (.invokestatic 38, 3) := by decide +kernel
theorem dL_pitches_89 : decode cL_pitches 89 = .ok (.aload_n 3, 1) := by decide +kernel
theorem dL_pitches_90 : decode cL_pitches 90 = .ok (.bipush 20, 2) := by decide +kernel
theorem dL_pitches_92 : decode cL_pitches 92 = .ok (.iload 5, 2) := by decide +kernel
theorem dL_pitches_94 : decode cL_pitches 94 = .ok (.iadd, 1) := by decide +kernel
theorem dL_pitches_95 : decode cL_pitches 95 = .ok (.dup2, 1) := by decide +kernel
theorem dL_pitches_96 : decode cL_pitches 96 = .ok (.iaload, 1) := by decide +kernel
theorem dL_pitches_97 : decode cL_pitches 97 = .ok (.iconst 1, 1) := by decide +kernel
theorem dL_pitches_98 : decode cL_pitches 98 = .ok (.iadd, 1) := by decide +kernel
theorem dL_pitches_99 : decode cL_pitches 99 = .ok (.iastore, 1) := by decide +kernel
theorem dL_pitches_100 : decode cL_pitches 100 = .ok (.aload_n 1, 1) := by decide +kernel
theorem dL_pitches_101 : decode cL_pitches 101 = .ok (.bipush 15, 2) := by decide +kernel
theorem dL_pitches_103 : decode cL_pitches 103 = .ok (.dup2, 1) := by decide +kernel
theorem dL_pitches_104 : decode cL_pitches 104 = .ok (.iaload, 1) := by decide +kernel
theorem dL_pitches_105 : decode cL_pitches 105 = .ok (.iconst 1, 1) := by decide +kernel
theorem dL_pitches_106 : decode cL_pitches 106 = .ok (.iadd, 1) := by decide +kernel
theorem dL_pitches_107 : decode cL_pitches 107 = .ok (.iastore, 1) := by decide +kernel
theorem dL_pitches_108 : decode cL_pitches 108 = .ok (.aload_n 0, 1) := by decide +kernel
theorem dL_pitches_109 : decode cL_pitches 109 = .ok (.iload 5, 2) := by decide +kernel
theorem dL_pitches_111 : decode cL_pitches 111 = .ok (.iload 6, 2) := by decide +kernel
theorem dL_pitches_113 : decode cL_pitches 113 = .ok (.invokevirtual 111, 3) := by decide +kernel
theorem dL_pitches_116 : decode cL_pitches 116 = .ok (.iload 7, 2) := by decide +kernel
theorem dL_pitches_118 : decode cL_pitches 118 = .ok (.if_icmp .ne 7, 3) := by decide +kernel
theorem dL_pitches_121 : decode cL_pitches 121 = .ok (.iconst 1, 1) := by decide +kernel
theorem dL_pitches_122 : decode cL_pitches 122 = .ok (.goto 4, 3) := by decide +kernel
theorem dL_pitches_125 : decode cL_pitches 125 = .ok (.iconst 0, 1) := by decide +kernel
theorem dL_pitches_126 : decode cL_pitches 126 = .ok (.ireturn, 1) := by decide +kernel
theorem dL_truesUp_0 : decode cL_truesUp 0 = .ok (.iload 4, 2) := by decide +kernel
theorem dL_truesUp_2 : decode cL_truesUp 2 = .ok (.aload_n 1, 1) := by decide +kernel
theorem dL_truesUp_3 : decode cL_truesUp 3 = .ok (.bipush 18, 2) := by decide +kernel
theorem dL_truesUp_5 : decode cL_truesUp 5 = .ok (.iaload, 1) := by decide +kernel
theorem dL_truesUp_6 : decode cL_truesUp 6 = .ok (.if_icmp .lt 20, 3) := by decide +kernel
theorem dL_truesUp_9 : decode cL_truesUp 9 = .ok (.aload_n 0, 1) := by decide +kernel
theorem dL_truesUp_10 : decode cL_truesUp 10 = .ok (.iload 4, 2) := by decide +kernel
theorem dL_truesUp_12 : decode cL_truesUp 12 = .ok (.invokevirtual 114, 3) := by decide +kernel
theorem dL_truesUp_15 : decode cL_truesUp 15 = .ok (.ldc 49, 2) := by decide +kernel
theorem dL_truesUp_17 : decode cL_truesUp 17 = .ok (.if_icmp .ne 7, 3) := by decide +kernel
theorem dL_truesUp_20 : decode cL_truesUp 20 = .ok (.iconst 1, 1) := by decide +kernel
theorem dL_truesUp_21 : decode cL_truesUp 21 = .ok (.goto 4, 3) := by decide +kernel
theorem dL_truesUp_24 : decode cL_truesUp 24 = .ok (.iconst 0, 1) := by decide +kernel
theorem dL_truesUp_25 : decode cL_truesUp 25 = .ok (.ireturn, 1) := by decide +kernel
theorem dL_truesUp_26 : decode cL_truesUp 26 = .ok (.aload_n 1, 1) := by decide +kernel
theorem dL_truesUp_27 : decode cL_truesUp 27 = .ok (.aload_n 2, 1) := by decide +kernel
theorem dL_truesUp_28 : decode cL_truesUp 28 = .ok (.aload_n 3, 1) := by decide +kernel
theorem dL_truesUp_29 : decode cL_truesUp 29 = .ok (.iload 4, 2) := by decide +kernel
theorem dL_truesUp_31 : decode cL_truesUp 31 = .ok (.invokestatic 15, 3) := by decide +kernel
theorem dL_truesUp_34 : decode cL_truesUp 34 = .ok (.sipush 10000, 3) := by decide +kernel
theorem dL_truesUp_37 : decode cL_truesUp 37 = .ok (.iadd, 1) := by decide +kernel
theorem dL_truesUp_38 : decode cL_truesUp 38 = .ok (.istore 5, 2) := by decide +kernel
theorem dL_truesUp_40 : decode cL_truesUp 40 = .ok (.aload_n 1, 1) := by decide +kernel
theorem dL_truesUp_41 : decode cL_truesUp 41 = .ok (.aload_n 2, 1) := by decide +kernel
theorem dL_truesUp_42 : decode cL_truesUp 42 = .ok (.aload_n 3, 1) := by decide +kernel
theorem dL_truesUp_43 : decode cL_truesUp 43 = .ok (.iload 4, 2) := by decide +kernel
theorem dL_truesUp_45 : decode cL_truesUp 45 = .ok (.invokestatic 38, 3) := by decide +kernel
theorem dL_truesUp_48 : decode cL_truesUp 48 = .ok (.aload_n 3, 1) := by decide +kernel
theorem dL_truesUp_49 : decode cL_truesUp 49 = .ok (.bipush 20, 2) := by decide +kernel
theorem dL_truesUp_51 : decode cL_truesUp 51 = .ok (.iload 4, 2) := by decide +kernel
theorem dL_truesUp_53 : decode cL_truesUp 53 = .ok (.iadd, 1) := by decide +kernel
theorem dL_truesUp_54 : decode cL_truesUp 54 = .ok (.dup2, 1) := by decide +kernel
theorem dL_truesUp_55 : decode cL_truesUp 55 = .ok (.iaload, 1) := by decide +kernel
theorem dL_truesUp_56 : decode cL_truesUp 56 = .ok (.iconst 1, 1) := by decide +kernel
theorem dL_truesUp_57 : decode cL_truesUp 57 = .ok (.iadd, 1) := by decide +kernel
theorem dL_truesUp_58 : decode cL_truesUp 58 = .ok (.iastore, 1) := by decide +kernel
theorem dL_truesUp_59 : decode cL_truesUp 59 = .ok (.aload_n 1, 1) := by decide +kernel
theorem dL_truesUp_60 : decode cL_truesUp 60 = .ok (.bipush 15, 2) := by decide +kernel
theorem dL_truesUp_62 : decode cL_truesUp 62 = .ok (.dup2, 1) := by decide +kernel
theorem dL_truesUp_63 : decode cL_truesUp 63 = .ok (.iaload, 1) := by decide +kernel
theorem dL_truesUp_64 : decode cL_truesUp 64 = .ok (.iconst 1, 1) := by decide +kernel
theorem dL_truesUp_65 : decode cL_truesUp 65 = .ok (.iadd, 1) := by decide +kernel
theorem dL_truesUp_66 : decode cL_truesUp 66 = .ok (.iastore, 1) := by decide +kernel
theorem dL_truesUp_67 : decode cL_truesUp 67 = .ok (.aload_n 0, 1) := by decide +kernel
theorem dL_truesUp_68 : decode cL_truesUp 68 = .ok (.iload 4, 2) := by decide +kernel
theorem dL_truesUp_70 : decode cL_truesUp 70 = .ok (.invokevirtual 114, 3) := by decide +kernel
theorem dL_truesUp_73 : decode cL_truesUp 73 = .ok (.iload 5, 2) := by decide +kernel
theorem dL_truesUp_75 : decode cL_truesUp 75 = .ok (.if_icmp .ne 7, 3) := by decide +kernel
theorem dL_truesUp_78 : decode cL_truesUp 78 = .ok (.iconst 1, 1) := by decide +kernel
theorem dL_truesUp_79 : decode cL_truesUp 79 = .ok (.goto 4, 3) := by decide +kernel
theorem dL_truesUp_82 : decode cL_truesUp 82 = .ok (.iconst 0, 1) := by decide +kernel
theorem dL_truesUp_83 : decode cL_truesUp 83 = .ok (.ireturn, 1) := by decide +kernel
theorem dL_sets_0 : decode cL_sets 0 = .ok (.iload_n 2, 1) := by decide +kernel
theorem dL_sets_1 : decode cL_sets 1 = .ok (.bipush 6, 2) := by decide +kernel
theorem dL_sets_3 : decode cL_sets 3 = .ok (.invokestatic 85, 3) := by decide +kernel
theorem dL_sets_6 : decode cL_sets 6 = .ok (.istore_n 3, 1) := by decide +kernel
theorem dL_sets_7 : decode cL_sets 7 = .ok (.iload_n 3, 1) := by decide +kernel
theorem dL_sets_8 : decode cL_sets 8 = .ok (.ifCond .eq 8, 3) := by decide +kernel
theorem dL_sets_11 : decode cL_sets 11 = .ok (.iload_n 3, 1) := by decide +kernel
theorem dL_sets_12 : decode cL_sets 12 = .ok (.iconst 2, 1) := by decide +kernel
theorem dL_sets_13 : decode cL_sets 13 = .ok (.if_icmp .ne 9, 3) := by decide +kernel
theorem dL_sets_16 : decode cL_sets 16 = .ok (.sipush 5000, 3) := by decide +kernel
theorem dL_sets_19 : decode cL_sets 19 = .ok (.goto 35, 3) := by decide +kernel
theorem dL_sets_22 : decode cL_sets 22 = .ok (.iload_n 3, 1) := by decide +kernel
theorem dL_sets_23 : decode cL_sets 23 = .ok (.iconst 1, 1) := by decide +kernel
theorem dL_sets_24 : decode cL_sets 24 = .ok (.if_icmp .ne 9, 3) := by decide +kernel
theorem dL_sets_27 : decode cL_sets 27 = .ok (.sipush 900, 3) := by decide +kernel
theorem dL_sets_30 : decode cL_sets 30 = .ok (.goto 24, 3) := by decide +kernel
theorem dL_sets_33 : decode cL_sets 33 = .ok (.iload_n 3, 1) := by decide +kernel
theorem dL_sets_34 : decode cL_sets 34 = .ok (.iconst 3, 1) := by decide +kernel
theorem dL_sets_35 : decode cL_sets 35 = .ok (.if_icmp .ne 8, 3) := by decide +kernel
theorem dL_sets_38 : decode cL_sets 38 = .ok (.bipush 30, 2) := by decide +kernel
theorem dL_sets_40 : decode cL_sets 40 = .ok (.goto 14, 3) := by decide +kernel
theorem dL_sets_43 : decode cL_sets 43 = .ok (.iload_n 3, 1) := by decide +kernel
theorem dL_sets_44 : decode cL_sets 44 = .ok (.iconst 4, 1) := by decide +kernel
theorem dL_sets_45 : decode cL_sets 45 = .ok (.if_icmp .ne 8, 3) := by decide +kernel
theorem dL_sets_48 : decode cL_sets 48 = .ok (.bipush 12, 2) := by decide +kernel
theorem dL_sets_50 : decode cL_sets 50 = .ok (.goto 4, 3) := by decide +kernel
theorem dL_sets_53 : decode cL_sets 53 = .ok (.iconst 1, 1) := by decide +kernel
theorem dL_sets_54 : decode cL_sets 54 = .ok (.istore 4, 2) := by decide +kernel
theorem dL_sets_56 : decode cL_sets 56 = .ok (.iload_n 3, 1) := by decide +kernel
theorem dL_sets_57 : decode cL_sets 57 = .ok (.ifCond .ne 9, 3) := by decide +kernel
theorem dL_sets_60 : decode cL_sets 60 = .ok (.sipush 500, 3) := by decide +kernel
theorem dL_sets_63 : decode cL_sets 63 = .ok (.goto 33, 3) := by decide +kernel
theorem dL_sets_66 : decode cL_sets 66 = .ok (.iload_n 3, 1) := by decide +kernel
theorem dL_sets_67 : decode cL_sets 67 = .ok (.iconst 1, 1) := by decide +kernel
theorem dL_sets_68 : decode cL_sets 68 = .ok (.if_icmp .ne 8, 3) := by decide +kernel
theorem dL_sets_71 : decode cL_sets 71 = .ok (.bipush 20, 2) := by decide +kernel
theorem dL_sets_73 : decode cL_sets 73 = .ok (.goto 23, 3) := by decide +kernel
theorem dL_sets_76 : decode cL_sets 76 = .ok (.iload_n 3, 1) := by decide +kernel
theorem dL_sets_77 : decode cL_sets 77 = .ok (.iconst 2, 1) := by decide +kernel
theorem dL_sets_78 : decode cL_sets 78 = .ok (.if_icmp .ne 8, 3) := by decide +kernel
theorem dL_sets_81 : decode cL_sets 81 = .ok (.bipush 50, 2) := by decide +kernel
theorem dL_sets_83 : decode cL_sets 83 = .ok (.goto 13, 3) := by decide +kernel
theorem dL_sets_86 : decode cL_sets 86 = .ok (.iload_n 3, 1) := by decide +kernel
theorem dL_sets_87 : decode cL_sets 87 = .ok (.iconst 3, 1) := by decide +kernel
theorem dL_sets_88 : decode cL_sets 88 = .ok (.if_icmp .ne 7, 3) := by decide +kernel
theorem dL_sets_91 : decode cL_sets 91 = .ok (.iconst 1, 1) := by decide +kernel
theorem dL_sets_92 : decode cL_sets 92 = .ok (.goto 4, 3) := by decide +kernel
theorem dL_sets_95 : decode cL_sets 95 = .ok (.iconst 0, 1) := by decide +kernel
theorem dL_sets_96 : decode cL_sets 96 = .ok (.istore 5, 2) := by decide +kernel
theorem dL_sets_98 : decode cL_sets 98 = .ok (.iload 5, 2) := by decide +kernel
theorem dL_sets_100 : decode cL_sets 100 = .ok (.iconst 1, 1) := by decide +kernel
theorem dL_sets_101 : decode cL_sets 101 = .ok (.isub, 1) := by decide +kernel
theorem dL_sets_102 : decode cL_sets 102 = .ok (.iload_n 2, 1) := by decide +kernel
theorem dL_sets_103 : decode cL_sets 103 = .ok (.iconst 4, 1) := by decide +kernel
theorem dL_sets_104 : decode cL_sets 104 = .ok (.ishr, 1) := by decide +kernel
theorem dL_sets_105 : decode cL_sets 105 = .ok (.iload 4, 2) := by decide +kernel
theorem dL_sets_107 : decode cL_sets 107 = .ok (.iload 5, 2) := by decide +kernel
theorem dL_sets_109 : decode cL_sets 109 = .ok (.isub, 1) := by decide +kernel
theorem dL_sets_110 : decode cL_sets 110 = .ok (.iconst 3, 1) := by decide +kernel
theorem dL_sets_111 : decode cL_sets 111 = .ok (.iadd, 1) := by decide +kernel
theorem dL_sets_112 : decode cL_sets 112 = .ok (.invokestatic 85, 3) := by decide +kernel
theorem dL_sets_115 : decode cL_sets 115 = .ok (.iadd, 1) := by decide +kernel
theorem dL_sets_116 : decode cL_sets 116 = .ok (.istore 6, 2) := by decide +kernel
theorem dL_sets_118 : decode cL_sets 118 = .ok (.iload 6, 2) := by decide +kernel
theorem dL_sets_120 : decode cL_sets 120 = .ok (.iload 5, 2) := by decide +kernel
theorem dL_sets_122 : decode cL_sets 122 = .ok (.if_icmp .lt 10, 3) := by decide +kernel
theorem dL_sets_125 : decode cL_sets 125 = .ok (.iload 6, 2) := by decide +kernel
theorem dL_sets_127 : decode cL_sets 127 = .ok (.iload 4, 2) := by decide +kernel
theorem dL_sets_129 : decode cL_sets 129 = .ok (.if_icmp .le 21, 3) := by decide +kernel
theorem dL_sets_132 : decode cL_sets 132 = .ok (.aload_n 0, 1) := by decide +kernel
theorem dL_sets_133 : decode cL_sets 133 = .ok (.iload_n 3, 1) := by decide +kernel
theorem dL_sets_134 : decode cL_sets 134 = .ok (.iload 6, 2) := by decide +kernel
theorem dL_sets_136 : decode cL_sets 136 = .ok (.invokevirtual 117, 3) := by decide +kernel
theorem dL_sets_139 : decode cL_sets 139 = .ok (.ldc 49, 2) := by decide +kernel
theorem dL_sets_141 : decode cL_sets 141 = .ok (.if_icmp .ne 7, 3) := by decide +kernel
theorem dL_sets_144 : decode cL_sets 144 = .ok (.iconst 1, 1) := by decide +kernel
theorem dL_sets_145 : decode cL_sets 145 = .ok (.goto 4, 3) := by decide +kernel
theorem dL_sets_148 : decode cL_sets 148 = .ok (.iconst 0, 1) := by decide +kernel
theorem dL_sets_149 : decode cL_sets 149 = .ok (.ireturn, 1) := by decide +kernel
theorem dL_sets_150 : decode cL_sets 150 = .ok (.aload_n 1, 1) := by decide +kernel
theorem dL_sets_151 : decode cL_sets 151 = .ok (.iload_n 3, 1) := by decide +kernel
theorem dL_sets_152 : decode cL_sets 152 = .ok (.iaload, 1) := by decide +kernel
theorem dL_sets_153 : decode cL_sets 153 = .ok (.istore 7, 2) := by decide +kernel
theorem dL_sets_155 : decode cL_sets 155 = .ok (.aload_n 1, 1) := by decide +kernel
theorem dL_sets_156 : decode cL_sets 156 = .ok (.iload_n 3, 1) := by decide +kernel
theorem dL_sets_157 : decode cL_sets 157 = .ok (.iload 6, 2) := by decide +kernel
theorem dL_sets_159 : decode cL_sets 159 = .ok (.iastore, 1) := by decide +kernel
theorem dL_sets_160 : decode cL_sets 160 = .ok (.aload_n 0, 1) := by decide +kernel
theorem dL_sets_161 : decode cL_sets 161 = .ok (.iload_n 3, 1) := by decide +kernel
theorem dL_sets_162 : decode cL_sets 162 = .ok (.iload 6, 2) := by decide +kernel
theorem dL_sets_164 : decode cL_sets 164 = .ok (.invokevirtual 117, 3) := by decide +kernel
theorem dL_sets_167 : decode cL_sets 167 = .ok (.iload 7, 2) := by decide +kernel
theorem dL_sets_169 : decode cL_sets 169 = .ok (.if_icmp .ne 7, 3) := by decide +kernel
theorem dL_sets_172 : decode cL_sets 172 = .ok (.iconst 1, 1) := by decide +kernel
theorem dL_sets_173 : decode cL_sets 173 = .ok (.goto 4, 3) := by decide +kernel
theorem dL_sets_176 : decode cL_sets 176 = .ok (.iconst 0, 1) := by decide +kernel
theorem dL_sets_177 : decode cL_sets 177 = .ok (.ireturn, 1) := by decide +kernel
theorem dL_acts_0 : decode cL_acts 0 = .ok (.iload 5, 2) := by decide +kernel
theorem dL_acts_2 : decode cL_acts 2 = .ok (.tableswitch 131 0 10 #[58, 70, 70, 70, 70, 80, 89, 98, 108, 123, 123], 58) := by decide +kernel
theorem dL_acts_60 : decode cL_acts 60 = .ok (.aload_n 0, 1) := by decide +kernel
theorem dL_acts_61 : decode cL_acts 61 = .ok (.aload_n 1, 1) := by decide +kernel
theorem dL_acts_62 : decode cL_acts 62 = .ok (.aload_n 2, 1) := by decide +kernel
theorem dL_acts_63 : decode cL_acts 63 = .ok (.aload_n 3, 1) := by decide +kernel
theorem dL_acts_64 : decode cL_acts 64 = .ok (.iload 6, 2) := by decide +kernel
theorem dL_acts_66 : decode cL_acts 66 = .ok (.iload 7, 2) := by decide +kernel
theorem dL_acts_68 : decode cL_acts 68 = .ok (.invokestatic 120, 3) := by decide +kernel
theorem dL_acts_71 : decode cL_acts 71 = .ok (.ireturn, 1) := by decide +kernel
theorem dL_acts_72 : decode cL_acts 72 = .ok (.aload_n 0, 1) := by decide +kernel
theorem dL_acts_73 : decode cL_acts 73 = .ok (.aload_n 1, 1) := by decide +kernel
theorem dL_acts_74 : decode cL_acts 74 = .ok (.aload_n 2, 1) := by decide +kernel
theorem dL_acts_75 : decode cL_acts 75 = .ok (.aload_n 3, 1) := by decide +kernel
theorem dL_acts_76 : decode cL_acts 76 = .ok (.iload 6, 2) := by decide +kernel
theorem dL_acts_78 : decode cL_acts 78 = .ok (.invokestatic 124, 3) := by decide +kernel
theorem dL_acts_81 : decode cL_acts 81 = .ok (.ireturn, 1) := by decide +kernel
theorem dL_acts_82 : decode cL_acts 82 = .ok (.aload_n 0, 1) := by decide +kernel
theorem dL_acts_83 : decode cL_acts 83 = .ok (.aload_n 1, 1) := by decide +kernel
theorem dL_acts_84 : decode cL_acts 84 = .ok (.aload_n 2, 1) := by decide +kernel
theorem dL_acts_85 : decode cL_acts 85 = .ok (.iload 6, 2) := by decide +kernel
theorem dL_acts_87 : decode cL_acts 87 = .ok (.invokestatic 128, 3) := by decide +kernel
theorem dL_acts_90 : decode cL_acts 90 = .ok (.ireturn, 1) := by decide +kernel
theorem dL_acts_91 : decode cL_acts 91 = .ok (.aload_n 0, 1) := by decide +kernel
theorem dL_acts_92 : decode cL_acts 92 = .ok (.aload_n 1, 1) := by decide +kernel
theorem dL_acts_93 : decode cL_acts 93 = .ok (.aload_n 2, 1) := by decide +kernel
theorem dL_acts_94 : decode cL_acts 94 = .ok (.iload 6, 2) := by decide +kernel
theorem dL_acts_96 : decode cL_acts 96 = .ok (.invokestatic 132, 3) := by decide +kernel
theorem dL_acts_99 : decode cL_acts 99 = .ok (.ireturn, 1) := by decide +kernel
theorem dL_acts_100 : decode cL_acts 100 = .ok (.aload_n 0, 1) := by decide +kernel
theorem dL_acts_101 : decode cL_acts 101 = .ok (.aload_n 1, 1) := by decide +kernel
theorem dL_acts_102 : decode cL_acts 102 = .ok (.aload_n 2, 1) := by decide +kernel
theorem dL_acts_103 : decode cL_acts 103 = .ok (.aload_n 3, 1) := by decide +kernel
theorem dL_acts_104 : decode cL_acts 104 = .ok (.iload 6, 2) := by decide +kernel
theorem dL_acts_106 : decode cL_acts 106 = .ok (.invokestatic 135, 3) := by decide +kernel
theorem dL_acts_109 : decode cL_acts 109 = .ok (.ireturn, 1) := by decide +kernel
theorem dL_acts_110 : decode cL_acts 110 = .ok (.aload_n 0, 1) := by decide +kernel
theorem dL_acts_111 : decode cL_acts 111 = .ok (.aload_n 1, 1) := by decide +kernel
theorem dL_acts_112 : decode cL_acts 112 = .ok (.aload_n 2, 1) := by decide +kernel
theorem dL_acts_113 : decode cL_acts 113 = .ok (.aload_n 3, 1) := by decide +kernel
theorem dL_acts_114 : decode cL_acts 114 = .ok (.iload 6, 2) := by decide +kernel
theorem dL_acts_116 : decode cL_acts 116 = .ok (.bipush 6, 2) := by decide +kernel
theorem dL_acts_118 : decode cL_acts 118 = .ok (.invokestatic 85, 3) := by decide +kernel
theorem dL_acts_121 : decode cL_acts 121 = .ok (.invokestatic 138, 3) := by decide +kernel
theorem dL_acts_124 : decode cL_acts 124 = .ok (.ireturn, 1) := by decide +kernel
theorem dL_acts_125 : decode cL_acts 125 = .ok (.aload_n 0, 1) := by decide +kernel
theorem dL_acts_126 : decode cL_acts 126 = .ok (.aload_n 1, 1) := by decide +kernel
theorem dL_acts_127 : decode cL_acts 127 = .ok (.iload 6, 2) := by decide +kernel
theorem dL_acts_129 : decode cL_acts 129 = .ok (.invokestatic 141, 3) := by decide +kernel
theorem dL_acts_132 : decode cL_acts 132 = .ok (.ireturn, 1) := by decide +kernel
theorem dL_acts_133 : decode cL_acts 133 = .ok (.iconst 1, 1) := by decide +kernel
theorem dL_acts_134 : decode cL_acts 134 = .ok (.iload 6, 2) := by decide +kernel
theorem dL_acts_136 : decode cL_acts 136 = .ok (.iload 7, 2) := by decide +kernel
theorem dL_acts_138 : decode cL_acts 138 = .ok (.iconst 3, 1) := by decide +kernel
theorem dL_acts_139 : decode cL_acts 139 = .ok (.invokestatic 85, 3) := by decide +kernel
theorem dL_acts_142 : decode cL_acts 142 = .ok (.ifCond .ne 9, 3) := by decide +kernel
theorem dL_acts_145 : decode cL_acts 145 = .ok (.sipush 400, 3) := by decide +kernel
theorem dL_acts_148 : decode cL_acts 148 = .ok (.goto 5, 3) := by decide +kernel
theorem dL_acts_151 : decode cL_acts 151 = .ok (.bipush 30, 2) := by decide +kernel
theorem dL_acts_153 : decode cL_acts 153 = .ok (.invokestatic 85, 3) := by decide +kernel
theorem dL_acts_156 : decode cL_acts 156 = .ok (.iadd, 1) := by decide +kernel
theorem dL_acts_157 : decode cL_acts 157 = .ok (.istore 8, 2) := by decide +kernel
theorem dL_acts_159 : decode cL_acts 159 = .ok (.aload_n 0, 1) := by decide +kernel
theorem dL_acts_160 : decode cL_acts 160 = .ok (.iload 8, 2) := by decide +kernel
theorem dL_acts_162 : decode cL_acts 162 = .ok (.invokevirtual 145, 3) := by decide +kernel
theorem dL_acts_165 : decode cL_acts 165 = .ok (.aload_n 1, 1) := by decide +kernel
theorem dL_acts_166 : decode cL_acts 166 = .ok (.aload_n 2, 1) := by decide +kernel
theorem dL_acts_167 : decode cL_acts 167 = .ok (.aload_n 3, 1) := by decide +kernel
theorem dL_acts_168 : decode cL_acts 168 = .ok (.aload 4, 2) := by decide +kernel
theorem dL_acts_170 : decode cL_acts 170 = .ok (.iload 8, 2) := by decide +kernel
theorem dL_acts_172 : decode cL_acts 172 = .ok (.iconst 1, 1) := by decide +kernel
theorem dL_acts_173 : decode cL_acts 173 = .ok (.invokestatic 92, 3) := by decide +kernel
theorem dL_acts_176 : decode cL_acts 176 = .ok (.if_icmp .ne 7, 3) := by decide +kernel
theorem dL_acts_179 : decode cL_acts 179 = .ok (.iconst 1, 1) := by decide +kernel
theorem dL_acts_180 : decode cL_acts 180 = .ok (.goto 4, 3) := by decide +kernel
theorem dL_acts_183 : decode cL_acts 183 = .ok (.iconst 0, 1) := by decide +kernel
theorem dL_acts_184 : decode cL_acts 184 = .ok (.ireturn, 1) := by decide +kernel
