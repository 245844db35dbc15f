theorem dL_fault_35 : decode cL_fault 35 = .ok (.iconst 0, 1) := by decide +kernel
theorem dL_fault_36 : decode cL_fault 36 = .ok (.iastore, 1) := by decide +kernel
theorem dL_fault_37 : decode cL_fault 37 = .ok (.aload_n 1, 1) := by decide +kernel
theorem dL_fault_38 : decode cL_fault 38 = .ok (.bipush 10, 2) := by decide +kernel
theorem dL_fault_40 : decode cL_fault 40 = .ok (.iload_n 0, 1) := by decide +kernel
theorem dL_fault_41 : decode cL_fault 41 = .ok (.imul, 1) := by decide +kernel
theorem dL_fault_42 : decode cL_fault 42 = .ok (.bipush 9, 2) := by decide +kernel
theorem dL_fault_44 : decode cL_fault 44 = .ok (.iadd, 1) := by decide +kernel
theorem dL_fault_45 : decode cL_fault 45 = .ok (.aload_n 2, 1) := by decide +kernel
theorem dL_fault_46 : decode cL_fault 46 = .ok (.iconst 0, 1) := by decide +kernel
theorem dL_fault_47 : decode cL_fault 47 = .ok (.iaload, 1) := by decide +kernel
theorem dL_fault_48 : decode cL_fault 48 = .ok (.bipush 20, 2) := by decide +kernel
theorem dL_fault_50 : decode cL_fault 50 = .ok (.iadd, 1) := by decide +kernel
theorem dL_fault_51 : decode cL_fault 51 = .ok (.iastore, 1) := by decide +kernel
theorem dL_fault_52 : decode cL_fault 52 = .ok (.return_, 1) := by decide +kernel
theorem dL_begin_0 : decode cL_begin 0 = .ok (.aload 9, 2) := by decide +kernel
theorem dL_begin_2 : decode cL_begin 2 = .ok (.iconst 1, 1) := by decide +kernel
theorem dL_begin_3 : decode cL_begin 3 = .ok (.iaload, 1) := by decide +kernel
theorem dL_begin_4 : decode cL_begin 4 = .ok (.istore 10, 2) := by decide +kernel
theorem dL_begin_6 : decode cL_begin 6 = .ok (.aload 4, 2) := by decide +kernel
theorem dL_begin_8 : decode cL_begin 8 = .ok (.aload 9, 2) := by decide +kernel
theorem dL_begin_10 : decode cL_begin 10 = .ok (.iload_n 0, 1) := by decide +kernel
theorem dL_begin_11 : decode cL_begin 11 = .ok (.iconst 1, 1) := by decide +kernel
theorem dL_begin_12 : decode cL_begin 12 = .ok (.invokestatic 63, 3) := by decide +kernel
theorem dL_begin_15 : decode cL_begin 15 = .ok (.aload_n 3, 1) := by decide +kernel
theorem dL_begin_16 : decode cL_begin 16 = .ok (.bipush 10, 2) := by decide +kernel
theorem dL_begin_18 : decode cL_begin 18 = .ok (.iload_n 0, 1) := by decide +kernel
theorem dL_begin_19 : decode cL_begin 19 = .ok (.imul, 1) := by decide +kernel
theorem dL_begin_20 : decode cL_begin 20 = .ok (.iconst 4, 1) := by decide +kernel
theorem dL_begin_21 : decode cL_begin 21 = .ok (.iadd, 1) := by decide +kernel
theorem dL_begin_22 : decode cL_begin 22 = .ok (.iaload, 1) := by decide +kernel
theorem dL_begin_23 : decode cL_begin 23 = .ok (.if_icmp .lt 7, 3) := by decide +kernel
theorem dL_begin_26 : decode cL_begin 26 = .ok (.iconst 1, 1) := by decide +kernel
theorem dL_begin_27 : decode cL_begin 27 = .ok (.goto 4, 3) := by decide +kernel
theorem dL_begin_30 : decode cL_begin 30 = .ok (.iconst 0, 1) := by decide +kernel
theorem dL_begin_31 : decode cL_begin 31 = .ok (.istore 11, 2) := by decide +kernel
theorem dL_begin_33 : decode cL_begin 33 = .ok (.aload 4, 2) := by decide +kernel
theorem dL_begin_35 : decode cL_begin 35 = .ok (.aload 9, 2) := by decide +kernel
theorem dL_begin_37 : decode cL_begin 37 = .ok (.iload_n 0, 1) := by decide +kernel
theorem dL_begin_38 : decode cL_begin 38 = .ok (.iconst 0, 1) := by decide +kernel
theorem dL_begin_39 : decode cL_begin 39 = .ok (.invokestatic 63, 3) := by decide +kernel
theorem dL_begin_42 : decode cL_begin 42 = .ok (.aload_n 3, 1) := by decide +kernel
theorem dL_begin_43 : decode cL_begin 43 = .ok (.bipush 10, 2) := by decide +kernel
theorem dL_begin_45 : decode cL_begin 45 = .ok (.iload_n 0, 1) := by decide +kernel
theorem dL_begin_46 : decode cL_begin 46 = .ok (.imul, 1) := by decide +kernel
theorem dL_begin_47 : decode cL_begin 47 = .ok (.iconst 5, 1) := by decide +kernel
theorem dL_begin_48 : decode cL_begin 48 = .ok (.iadd, 1) := by decide +kernel
theorem dL_begin_49 : decode cL_begin 49 = .ok (.iaload, 1) := by decide +kernel
theorem dL_begin_50 : decode cL_begin 50 = .ok (.if_icmp .lt 7, 3) := by decide +kernel
theorem dL_begin_53 : decode cL_begin 53 = .ok (.iconst 1, 1) := by decide +kernel
theorem dL_begin_54 : decode cL_begin 54 = .ok (.goto 4, 3) := by decide +kernel
theorem dL_begin_57 : decode cL_begin 57 = .ok (.iconst 0, 1) := by decide +kernel
theorem dL_begin_58 : decode cL_begin 58 = .ok (.istore 12, 2) := by decide +kernel
theorem dL_begin_60 : decode cL_begin 60 = .ok (.aload 4, 2) := by decide +kernel
theorem dL_begin_62 : decode cL_begin 62 = .ok (.iload 10, 2) := by decide +kernel
theorem dL_begin_64 : decode cL_begin 64 = .ok (.iload_n 0, 1) := by decide +kernel
theorem dL_begin_65 : decode cL_begin 65 = .ok (.iload_n 2, 1) := by decide +kernel
theorem dL_begin_66 : decode cL_begin 66 = .ok (.ifCond .ge 7, 3) := by decide +kernel
theorem dL_begin_69 : decode cL_begin 69 = .ok (.iconst 0, 1) := by decide +kernel
theorem dL_begin_70 : decode cL_begin 70 = .ok (.goto 15, 3) := by decide +kernel
theorem dL_begin_73 : decode cL_begin 73 = .ok (.aload 4, 2) := by decide +kernel
theorem dL_begin_75 : decode cL_begin 75 = .ok (.iload_n 2, 1) := by decide +kernel
theorem dL_begin_76 : decode cL_begin 76 = .ok (.bipush 6, 2) := by decide +kernel
theorem dL_begin_78 : decode cL_begin 78 = .ok (.iconst 2, 1) := by decide +kernel
theorem dL_begin_79 : decode cL_begin 79 = .ok (.invokestatic 59, 3) := by decide +kernel
theorem dL_begin_82 : decode cL_begin 82 = .ok (.bipush 18, 2) := by decide +kernel
theorem dL_begin_84 : decode cL_begin 84 = .ok (.ishl, 1) := by decide +kernel
theorem dL_begin_85 : decode cL_begin 85 = .ok (.iadd, 1) := by decide +kernel
theorem dL_begin_86 : decode cL_begin 86 = .ok (.iastore, 1) := by decide +kernel
theorem dL_begin_87 : decode cL_begin 87 = .ok (.aload 5, 2) := by decide +kernel
theorem dL_begin_89 : decode cL_begin 89 = .ok (.iload 10, 2) := by decide +kernel
theorem dL_begin_91 : decode cL_begin 91 = .ok (.iload_n 1, 1) := by decide +kernel
theorem dL_begin_92 : decode cL_begin 92 = .ok (.iastore, 1) := by decide +kernel
theorem dL_begin_93 : decode cL_begin 93 = .ok (.aload 6, 2) := by decide +kernel
theorem dL_begin_95 : decode cL_begin 95 = .ok (.iload 10, 2) := by decide +kernel
theorem dL_begin_97 : decode cL_begin 97 = .ok (.iload_n 2, 1) := by decide +kernel
theorem dL_begin_98 : decode cL_begin 98 = .ok (.iastore, 1) := by decide +kernel
theorem dL_begin_99 : decode cL_begin 99 = .ok (.aload 8, 2) := by decide +kernel
theorem dL_begin_101 : decode cL_begin 101 = .ok (.iload 10, 2) := by decide +kernel
theorem dL_begin_103 : decode cL_begin 103 = .ok (.iconst (-1), 1) := by decide +kernel
theorem dL_begin_104 : decode cL_begin 104 = .ok (.iastore, 1) := by decide +kernel
theorem dL_begin_105 : decode cL_begin 105 = .ok (.aload 7, 2) := by decide +kernel
theorem dL_begin_107 : decode cL_begin 107 = .ok (.iload 10, 2) := by decide +kernel
theorem dL_begin_109 : decode cL_begin 109 = .ok (.aload 9, 2) := by decide +kernel
theorem dL_begin_111 : decode cL_begin 111 = .ok (.iconst 0, 1) := by decide +kernel
theorem dL_begin_112 : decode cL_begin 112 = .ok (.iaload, 1) := by decide +kernel
theorem dL_begin_113 : decode cL_begin 113 = .ok (.aload_n 3, 1) := by decide +kernel
theorem dL_begin_114 : decode cL_begin 114 = .ok (.bipush 10, 2) := by decide +kernel
theorem dL_begin_116 : decode cL_begin 116 = .ok (.iload_n 0, 1) := by decide +kernel
theorem dL_begin_117 : decode cL_begin 117 = .ok (.imul, 1) := by decide +kernel
theorem dL_begin_118 : decode cL_begin 118 = .ok (.iaload, 1) := by decide +kernel
theorem dL_begin_119 : decode cL_begin 119 = .ok (.iadd, 1) := by decide +kernel
theorem dL_begin_120 : decode cL_begin 120 = .ok (.iastore, 1) := by decide +kernel
theorem dL_begin_121 : decode cL_begin 121 = .ok (.aload 9, 2) := by decide +kernel
theorem dL_begin_123 : decode cL_begin 123 = .ok (.iconst 1, 1) := by decide +kernel
theorem dL_begin_124 : decode cL_begin 124 = .ok (.dup2, 1) := by decide +kernel
theorem dL_begin_125 : decode cL_begin 125 = .ok (.iaload, 1) := by decide +kernel
theorem dL_begin_126 : decode cL_begin 126 = .ok (.iconst 1, 1) := by decide +kernel
theorem dL_begin_127 : decode cL_begin 127 = .ok (.iadd, 1) := by decide +kernel
theorem dL_begin_128 : decode cL_begin 128 = .ok (.iastore, 1) := by decide +kernel
theorem dL_begin_129 : decode cL_begin 129 = .ok (.aload 9, 2) := by decide +kernel
theorem dL_begin_131 : decode cL_begin 131 = .ok (.iconst 0, 1) := by decide +kernel
theorem dL_begin_132 : decode cL_begin 132 = .ok (.iaload, 1) := by decide +kernel
theorem dL_begin_133 : decode cL_begin 133 = .ok (.aload_n 3, 1) := by decide +kernel
theorem dL_begin_134 : decode cL_begin 134 = .ok (.bipush 10, 2) := by decide +kernel
theorem dL_begin_136 : decode cL_begin 136 = .ok (.iload_n 0, 1) := by decide +kernel
theorem dL_begin_137 : decode cL_begin 137 = .ok (.imul, 1) := by decide +kernel
theorem dL_begin_138 : decode cL_begin 138 = .ok (.bipush 9, 2) := by decide +kernel
theorem dL_begin_140 : decode cL_begin 140 = .ok (.iadd, 1) := by decide +kernel
theorem dL_begin_141 : decode cL_begin 141 = .ok (.iaload, 1) := by decide +kernel
theorem dL_begin_142 : decode cL_begin 142 = .ok (.if_icmp .ge 21, 3) := by decide +kernel
theorem dL_begin_145 : decode cL_begin 145 = .ok (.iload 10, 2) := by decide +kernel
theorem dL_begin_147 : decode cL_begin 147 = .ok (.iconst 4, 1) := by decide +kernel
theorem dL_begin_148 : decode cL_begin 148 = .ok (.aload_n 3, 1) := by decide +kernel
theorem dL_begin_149 : decode cL_begin 149 = .ok (.aload 4, 2) := by decide +kernel
theorem dL_begin_151 : decode cL_begin 151 = .ok (.aload 6, 2) := by decide +kernel
theorem dL_begin_153 : decode cL_begin 153 = .ok (.aload 8, 2) := by decide +kernel
theorem dL_begin_155 : decode cL_begin 155 = .ok (.aload 9, 2) := by decide +kernel
theorem dL_begin_157 : decode cL_begin 157 = .ok (.invokestatic 67, 3) := by decide +kernel
theorem dL_begin_160 : decode cL_begin 160 = .ok (.goto 60, 3) := by decide +kernel
theorem dL_begin_163 : decode cL_begin 163 = .ok (.aload 7, 2) := by decide +kernel
theorem dL_begin_165 : decode cL_begin 165 = .ok (.iload 10, 2) := by decide +kernel
theorem dL_begin_167 : decode cL_begin 167 = .ok (.iaload, 1) := by decide +kernel
theorem dL_begin_168 : decode cL_begin 168 = .ok (.iload_n 1, 1) := by decide +kernel
theorem dL_begin_169 : decode cL_begin 169 = .ok (.if_icmp .gt 13, 3) := by decide +kernel
theorem dL_begin_172 : decode cL_begin 172 = .ok (.iload 11, 2) := by decide +kernel
theorem dL_begin_174 : decode cL_begin 174 = .ok (.ifCond .eq 27, 3) := by decide +kernel
theorem dL_begin_177 : decode cL_begin 177 = .ok (.iload 12, 2) := by decide +kernel
theorem dL_begin_179 : decode cL_begin 179 = .ok (.ifCond .eq 22, 3) := by decide +kernel
theorem dL_begin_182 : decode cL_begin 182 = .ok (.iload 10, 2) := by decide +kernel
theorem dL_begin_184 : decode cL_begin 184 = .ok (.bipush 6, 2) := by decide +kernel
theorem dL_begin_186 : decode cL_begin 186 = .ok (.aload_n 3, 1) := by decide +kernel
theorem dL_begin_187 : decode cL_begin 187 = .ok (.aload 4, 2) := by decide +kernel
theorem dL_begin_189 : decode cL_begin 189 = .ok (.aload 6, 2) := by decide +kernel
theorem dL_begin_191 : decode cL_begin 191 = .ok (.aload 8, 2) := by decide +kernel
theorem dL_begin_193 : decode cL_begin 193 = .ok (.aload 9, 2) := by decide +kernel
theorem dL_begin_195 : decode cL_begin 195 = .ok (.invokestatic 67, 3) := by decide +kernel
theorem dL_begin_198 : decode cL_begin 198 = .ok (.goto 22, 3) := by decide +kernel
theorem dL_begin_201 : decode cL_begin 201 = .ok (.aload 4, 2) := by decide +kernel
theorem dL_begin_203 : decode cL_begin 203 = .ok (.iload 10, 2) := by decide +kernel
theorem dL_begin_205 : decode cL_begin 205 = .ok (.iconst 3, 1) := by decide +kernel
theorem dL_begin_206 : decode cL_begin 206 = .ok (.iconst 3, 1) := by decide +kernel
theorem dL_begin_207 : decode cL_begin 207 = .ok (.iload 11, 2) := by decide +kernel
theorem dL_begin_209 : decode cL_begin 209 = .ok (.ifCond .eq 7, 3) := by decide +kernel
theorem dL_begin_212 : decode cL_begin 212 = .ok (.iconst 0, 1) := by decide +kernel
theorem dL_begin_213 : decode cL_begin 213 = .ok (.goto 4, 3) := by decide +kernel
theorem dL_begin_216 : decode cL_begin 216 = .ok (.iconst 1, 1) := by decide +kernel
theorem dL_begin_217 : decode cL_begin 217 = .ok (.invokestatic 53, 3) := by decide +kernel
theorem dL_begin_220 : decode cL_begin 220 = .ok (.return_, 1) := by decide +kernel
theorem dL_look_0 : decode cL_look 0 = .ok (.aload 6, 2) := by decide +kernel
theorem dL_look_2 : decode cL_look 2 = .ok (.iload_n 0, 1) := by decide +kernel
theorem dL_look_3 : decode cL_look 3 = .ok (.iaload, 1) := by decide +kernel
theorem dL_look_4 : decode cL_look 4 = .ok (.bipush 7, 2) := by decide +kernel
theorem dL_look_6 : decode cL_look 6 = .ok (.iand, 1) := by decide +kernel
theorem dL_look_7 : decode cL_look 7 = .ok (.iconst 1, 1) := by decide +kernel
theorem dL_look_8 : decode cL_look 8 = .ok (.isub, 1) := by decide +kernel
theorem dL_look_9 : decode cL_look 9 = .ok (.istore 8, 2) := by decide +kernel
theorem dL_look_11 : decode cL_look 11 = .ok (.aload_n 2, 1) := by decide +kernel
theorem dL_look_12 : decode cL_look 12 = .ok (.iload_n 0, 1) := by decide +kernel
theorem dL_look_13 : decode cL_look 13 = .ok (.bipush 17, 2) := by decide +kernel
theorem dL_look_15 : decode cL_look 15 = .ok (.iconst 1, 1) := by decide +kernel
theorem dL_look_16 : decode cL_look 16 = .ok (.invokestatic 59, 3) := by decide +kernel
theorem dL_look_19 : decode cL_look 19 = .ok (.iconst 1, 1) := by decide +kernel
theorem dL_look_20 : decode cL_look 20 = .ok (.if_icmp .ne 122, 3) := by decide +kernel
theorem dL_look_23 : decode cL_look 23 = .ok (.iload_n 0, 1) := by decide +kernel
theorem dL_look_24 : decode cL_look 24 = .ok (.iconst 1, 1) := by decide +kernel
theorem dL_look_25 : decode cL_look 25 = .ok (.iadd, 1) := by decide +kernel
theorem dL_look_26 : decode cL_look 26 = .ok (.istore 9, 2) := by decide +kernel
theorem dL_look_28 : decode cL_look 28 = .ok (.iload 9, 2) := by decide +kernel
theorem dL_look_30 : decode cL_look 30 = .ok (.aload 7, 2) := by decide +kernel
theorem dL_look_32 : decode cL_look 32 = .ok (.iconst 1, 1) := by decide +kernel
theorem dL_look_33 : decode cL_look 33 = .ok (.iaload, 1) := by decide +kernel
theorem dL_look_34 : decode cL_look 34 = .ok (.if_icmp .ge 43, 3) := by decide +kernel
theorem dL_look_37 : decode cL_look 37 = .ok (.aload_n 3, 1) := by decide +kernel
theorem dL_look_38 : decode cL_look 38 = .ok (.iload 9, 2) := by decide +kernel
theorem dL_look_40 : decode cL_look 40 = .ok (.iaload, 1) := by decide +kernel
theorem dL_look_41 : decode cL_look 41 = .ok (.iload_n 0, 1) := by decide +kernel
theorem dL_look_42 : decode cL_look 42 = .ok (.if_icmp .ne 29, 3) := by decide +kernel
theorem dL_look_45 : decode cL_look 45 = .ok (.aload_n 2, 1) := by decide +kernel
theorem dL_look_46 : decode cL_look 46 = .ok (.iload 9, 2) := by decide +kernel
theorem dL_look_48 : decode cL_look 48 = .ok (.iconst 3, 1) := by decide +kernel
theorem dL_look_49 : decode cL_look 49 = .ok (.iconst 3, 1) := by decide +kernel
theorem dL_look_50 : decode cL_look 50 = .ok (.invokestatic 59, 3) := by decide +kernel
theorem dL_look_53 : decode cL_look 53 = .ok (.iconst 3, 1) := by decide +kernel
theorem dL_look_54 : decode cL_look 54 = .ok (.if_icmp .ge 17, 3) := by decide +kernel
theorem dL_look_57 : decode cL_look 57 = .ok (.iload 9, 2) := by decide +kernel
theorem dL_look_59 : decode cL_look 59 = .ok (.bipush 7, 2) := by decide +kernel
theorem dL_look_61 : decode cL_look 61 = .ok (.aload_n 1, 1) := by decide +kernel
theorem dL_look_62 : decode cL_look 62 = .ok (.aload_n 2, 1) := by decide +kernel
theorem dL_look_63 : decode cL_look 63 = .ok (.aload_n 3, 1) := by decide +kernel
theorem dL_look_64 : decode cL_look 64 = .ok (.aload 5, 2) := by decide +kernel
theorem dL_look_66 : decode cL_look 66 = .ok (.aload 7, 2) := by decide +kernel
theorem dL_look_68 : decode cL_look 68 = .ok (.invokestatic 67, 3) := by decide +kernel
theorem dL_look_71 : decode cL_look 71 = .ok (.iinc 9 1, 3) := by decide +kernel
theorem dL_look_74 : decode cL_look 74 = .ok (.goto (-46), 3) := by decide +kernel
theorem dL_look_77 : decode cL_look 77 = .ok (.aload 6, 2) := by decide +kernel
theorem dL_look_79 : decode cL_look 79 = .ok (.iload_n 0, 1) := by decide +kernel
theorem dL_look_80 : decode cL_look 80 = .ok (.dup2, 1) := by decide +kernel
theorem dL_look_81 : decode cL_look 81 = .ok (.iaload, 1) := by decide +kernel
theorem dL_look_82 : decode cL_look 82 = .ok (.iconst 3, 1) := by decide +kernel
theorem dL_look_83 : decode cL_look 83 = .ok (.ishr, 1) := by decide +kernel
theorem dL_look_84 : decode cL_look 84 = .ok (.iastore, 1) := by decide +kernel
theorem dL_look_85 : decode cL_look 85 = .ok (.aload_n 2, 1) := by decide +kernel
theorem dL_look_86 : decode cL_look 86 = .ok (.iload_n 0, 1) := by decide +kernel
theorem dL_look_87 : decode cL_look 87 = .ok (.bipush 6, 2) := by decide +kernel
theorem dL_look_89 : decode cL_look 89 = .ok (.iconst 2, 1) := by decide +kernel
theorem dL_look_90 : decode cL_look 90 = .ok (.aload_n 2, 1) := by decide +kernel
theorem dL_look_91 : decode cL_look 91 = .ok (.iload_n 0, 1) := by decide +kernel
theorem dL_look_92 : decode cL_look 92 = .ok (.bipush 6, 2) := by decide +kernel
theorem dL_look_94 : decode cL_look 94 = .ok (.iconst 2, 1) := by decide +kernel
theorem dL_look_95 : decode cL_look 95 = .ok (.invokestatic 59, 3) := by decide +kernel
theorem dL_look_98 : decode cL_look 98 = .ok (.iconst 1, 1) := by decide +kernel
theorem dL_look_99 : decode cL_look 99 = .ok (.iadd, 1) := by decide +kernel
theorem dL_look_100 : decode cL_look 100 = .ok (.invokestatic 53, 3) := by decide +kernel
theorem dL_look_103 : decode cL_look 103 = .ok (.aload_n 2, 1) := by decide +kernel
theorem dL_look_104 : decode cL_look 104 = .ok (.iload_n 0, 1) := by decide +kernel
theorem dL_look_105 : decode cL_look 105 = .ok (.bipush 8, 2) := by decide +kernel
theorem dL_look_107 : decode cL_look 107 = .ok (.bipush 10, 2) := by decide +kernel
theorem dL_look_109 : decode cL_look 109 = .ok (.iconst 0, 1) := by decide +kernel
theorem dL_look_110 : decode cL_look 110 = .ok (.invokestatic 53, 3) := by decide +kernel
theorem dL_look_113 : decode cL_look 113 = .ok (.aload_n 2, 1) := by decide +kernel
theorem dL_look_114 : decode cL_look 114 = .ok (.iload_n 0, 1) := by decide +kernel
theorem dL_look_115 : decode cL_look 115 = .ok (.bipush 10, 2) := by decide +kernel
theorem dL_look_117 : decode cL_look 117 = .ok (.iconst 1, 1) := by decide +kernel
theorem dL_look_118 : decode cL_look 118 = .ok (.iconst 1, 1) := by decide +kernel
theorem dL_look_119 : decode cL_look 119 = .ok (.invokestatic 53, 3) := by decide +kernel
theorem dL_look_122 : decode cL_look 122 = .ok (.aload 6, 2) := by decide +kernel
theorem dL_look_124 : decode cL_look 124 = .ok (.iload_n 0, 1) := by decide +kernel
theorem dL_look_125 : decode cL_look 125 = .ok (.iaload, 1) := by decide +kernel
theorem dL_look_126 : decode cL_look 126 = .ok (.ifCond .ne 15, 3) := by decide +kernel
theorem dL_look_129 : decode cL_look 129 = .ok (.iload_n 0, 1) := by decide +kernel
theorem dL_look_130 : decode cL_look 130 = .ok (.iconst 3, 1) := by decide +kernel
theorem dL_look_131 : decode cL_look 131 = .ok (.aload_n 1, 1) := by decide +kernel
theorem dL_look_132 : decode cL_look 132 = .ok (.aload_n 2, 1) := by decide +kernel
theorem dL_look_133 : decode cL_look 133 = .ok (.aload_n 3, 1) := by decide +kernel
theorem dL_look_134 : decode cL_look 134 = .ok (.aload 5, 2) := by decide +kernel
theorem dL_look_136 : decode cL_look 136 = .ok (.aload 7, 2) := by decide +kernel
theorem dL_look_138 : decode cL_look 138 = .ok (.invokestatic 67, 3) := by decide +kernel
theorem dL_look_141 : decode cL_look 141 = .ok (.return_, 1) := by decide +kernel
theorem dL_look_142 : decode cL_look 142 = .ok (.aload_n 2, 1) := by decide +kernel
theorem dL_look_143 : decode cL_look 143 = .ok (.iload_n 0, 1) := by decide +kernel
theorem dL_look_144 : decode cL_look 144 = .ok (.bipush 14, 2) := by decide +kernel
theorem dL_look_146 : decode cL_look 146 = .ok (.iconst 3, 1) := by decide +kernel
theorem dL_look_147 : decode cL_look 147 = .ok (.invokestatic 59, 3) := by decide +kernel
theorem dL_look_150 : decode cL_look 150 = .ok (.ifCond .ne 86, 3) := by decide +kernel
theorem dL_look_153 : decode cL_look 153 = .ok (.aload_n 2, 1) := by decide +kernel
theorem dL_look_154 : decode cL_look 154 = .ok (.iload_n 0, 1) := by decide +kernel
theorem dL_look_155 : decode cL_look 155 = .ok (.bipush 8, 2) := by decide +kernel
theorem dL_look_157 : decode cL_look 157 = .ok (.iconst 2, 1) := by decide +kernel
theorem dL_look_158 : decode cL_look 158 = .ok (.invokestatic 59, 3) := by decide +kernel
theorem dL_look_161 : decode cL_look 161 = .ok (.iconst 2, 1) := by decide +kernel
theorem dL_look_162 : decode cL_look 162 = .ok (.if_icmp .eq 18, 3) := by decide +kernel
theorem dL_look_165 : decode cL_look 165 = .ok (.aload_n 1, 1) := by decide +kernel
theorem dL_look_166 : decode cL_look 166 = .ok (.bipush 10, 2) := by decide +kernel
theorem dL_look_168 : decode cL_look 168 = .ok (.iload 8, 2) := by decide +kernel
theorem dL_look_170 : decode cL_look 170 = .ok (.imul, 1) := by decide +kernel
theorem dL_look_171 : decode cL_look 171 = .ok (.bipush 7, 2) := by decide +kernel
theorem dL_look_173 : decode cL_look 173 = .ok (.iadd, 1) := by decide +kernel
theorem dL_look_174 : decode cL_look 174 = .ok (.iaload, 1) := by decide +kernel
theorem dL_look_175 : decode cL_look 175 = .ok (.bipush 10, 2) := by decide +kernel
theorem dL_look_177 : decode cL_look 177 = .ok (.if_icmp .ge 16, 3) := by decide +kernel
theorem dL_look_180 : decode cL_look 180 = .ok (.iload_n 0, 1) := by decide +kernel
theorem dL_look_181 : decode cL_look 181 = .ok (.iconst 4, 1) := by decide +kernel
theorem dL_look_182 : decode cL_look 182 = .ok (.aload_n 1, 1) := by decide +kernel
theorem dL_look_183 : decode cL_look 183 = .ok (.aload_n 2, 1) := by decide +kernel
theorem dL_look_184 : decode cL_look 184 = .ok (.aload_n 3, 1) := by decide +kernel
theorem dL_look_185 : decode cL_look 185 = .ok (.aload 5, 2) := by decide +kernel
theorem dL_look_187 : decode cL_look 187 = .ok (.aload 7, 2) := by decide +kernel
theorem dL_look_189 : decode cL_look 189 = .ok (.invokestatic 67, 3) := by decide +kernel
theorem dL_look_192 : decode cL_look 192 = .ok (.return_, 1) := by decide +kernel
theorem dL_look_193 : decode cL_look 193 = .ok (.aload_n 1, 1) := by decide +kernel
theorem dL_look_194 : decode cL_look 194 = .ok (.bipush 10, 2) := by decide +kernel
theorem dL_look_196 : decode cL_look 196 = .ok (.iload 8, 2) := by decide +kernel
theorem dL_look_198 : decode cL_look 198 = .ok (.imul, 1) := by decide +kernel
theorem dL_look_199 : decode cL_look 199 = .ok (.bipush 7, 2) := by decide +kernel
theorem dL_look_201 : decode cL_look 201 = .ok (.iadd, 1) := by decide +kernel
theorem dL_look_202 : decode cL_look 202 = .ok (.dup2, 1) := by decide +kernel
theorem dL_look_203 : decode cL_look 203 = .ok (.iaload, 1) := by decide +kernel
theorem dL_look_204 : decode cL_look 204 = .ok (.bipush 10, 2) := by decide +kernel
theorem dL_look_206 : decode cL_look 206 = .ok (.isub, 1) := by decide +kernel
theorem dL_look_207 : decode cL_look 207 = .ok (.iastore, 1) := by decide +kernel
theorem dL_look_208 : decode cL_look 208 = .ok (.aload_n 2, 1) := by decide +kernel
theorem dL_look_209 : decode cL_look 209 = .ok (.iload_n 0, 1) := by decide +kernel
theorem dL_look_210 : decode cL_look 210 = .ok (.bipush 8, 2) := by decide +kernel
theorem dL_look_212 : decode cL_look 212 = .ok (.iconst 2, 1) := by decide +kernel
theorem dL_look_213 : decode cL_look 213 = .ok (.aload_n 2, 1) := by decide +kernel
theorem dL_look_214 : decode cL_look 214 = .ok (.iload_n 0, 1) := by decide +kernel
theorem dL_look_215 : decode cL_look 215 = .ok (.bipush 8, 2) := by decide +kernel
theorem dL_look_217 : decode cL_look 217 = .ok (.iconst 2, 1) := by decide +kernel
theorem dL_look_218 : decode cL_look 218 = .ok (.invokestatic 59, 3) := by decide +kernel
theorem dL_look_221 : decode cL_look 221 = .ok (.iconst 1, 1) := by decide +kernel
theorem dL_look_222 : decode cL_look 222 = .ok (.iadd, 1) := by decide +kernel
theorem dL_look_223 : decode cL_look 223 = .ok (.invokestatic 53, 3) := by decide +kernel
theorem dL_look_226 : decode cL_look 226 = .ok (.aload_n 2, 1) := by decide +kernel
theorem dL_look_227 : decode cL_look 227 = .ok (.iload_n 0, 1) := by decide +kernel
theorem dL_look_228 : decode cL_look 228 = .ok (.bipush 10, 2) := by decide +kernel
theorem dL_look_230 : decode cL_look 230 = .ok (.iconst 1, 1) := by decide +kernel
theorem dL_look_231 : decode cL_look 231 = .ok (.iconst 1, 1) := by decide +kernel
theorem dL_look_232 : decode cL_look 232 = .ok (.invokestatic 53, 3) := by decide +kernel
theorem dL_look_235 : decode cL_look 235 = .ok (.return_, 1) := by decide +kernel
theorem dL_look_236 : decode cL_look 236 = .ok (.aload_n 1, 1) := by decide +kernel
theorem dL_look_237 : decode cL_look 237 = .ok (.bipush 10, 2) := by decide +kernel
theorem dL_look_239 : decode cL_look 239 = .ok (.iload 8, 2) := by decide +kernel
theorem dL_look_241 : decode cL_look 241 = .ok (.imul, 1) := by decide +kernel
theorem dL_look_242 : decode cL_look 242 = .ok (.bipush 6, 2) := by decide +kernel
theorem dL_look_244 : decode cL_look 244 = .ok (.iadd, 1) := by decide +kernel
theorem dL_look_245 : decode cL_look 245 = .ok (.iaload, 1) := by decide +kernel
theorem dL_look_246 : decode cL_look 246 = .ok (.istore 9, 2) := by decide +kernel
theorem dL_look_248 : decode cL_look 248 = .ok (.aload_n 2, 1) := by decide +kernel
theorem dL_look_249 : decode cL_look 249 = .ok (.iload_n 0, 1) := by decide +kernel
theorem dL_look_250 : decode cL_look 250 = .ok (.bipush 11, 2) := by decide +kernel
theorem dL_look_252 : decode cL_look 252 = .ok (.iconst 3, 1) := by decide +kernel
theorem dL_look_253 : decode cL_look 253 = .ok (.invokestatic 59, 3) := by decide +kernel
theorem dL_look_256 : decode cL_look 256 = .ok (.iconst 1, 1) := by decide +kernel
theorem dL_look_257 : decode cL_look 257 = .ok (.if_icmp .ne 31, 3) := by decide +kernel
theorem dL_look_260 : decode cL_look 260 = .ok (.iload 9, 2) := by decide +kernel
theorem dL_look_262 : decode cL_look 262 = .ok (.ifCond .le 26, 3) := by decide +kernel
theorem dL_look_265 : decode cL_look 265 = .ok (.aload 7, 2) := by decide +kernel
theorem dL_look_267 : decode cL_look 267 = .ok (.iconst 0, 1) := by decide +kernel
theorem dL_look_268 : decode cL_look 268 = .ok (.iaload, 1) := by decide +kernel
theorem dL_look_269 : decode cL_look 269 = .ok (.aload 4, 2) := by decide +kernel
theorem dL_look_271 : decode cL_look 271 = .ok (.iload_n 0, 1) := by decide +kernel
theorem dL_look_272 : decode cL_look 272 = .ok (.iaload, 1) := by decide +kernel
theorem dL_look_273 : decode cL_look 273 = .ok (.isub, 1) := by decide +kernel
theorem dL_look_274 : decode cL_look 274 = .ok (.iload 9, 2) := by decide +kernel
theorem dL_look_276 : decode cL_look 276 = .ok (.if_icmp .lt 12, 3) := by decide +kernel
theorem dL_look_279 : decode cL_look 279 = .ok (.aload_n 2, 1) := by decide +kernel
theorem dL_look_280 : decode cL_look 280 = .ok (.iload_n 0, 1) := by decide +kernel
theorem dL_look_281 : decode cL_look 281 = .ok (.bipush 10, 2) := by decide +kernel
theorem dL_look_283 : decode cL_look 283 = .ok (.iconst 1, 1) := by decide +kernel
theorem dL_look_284 : decode cL_look 284 = .ok (.iconst 1, 1) := by decide +kernel
theorem dL_look_285 : decode cL_look 285 = .ok (.invokestatic 53, 3) := by decide +kernel
theorem dL_look_288 : decode cL_look 288 = .ok (.return_, 1) := by decide +kernel
theorem dL_tick_0 : decode cL_tick 0 = .ok (.aload 7, 2) := by decide +kernel
theorem dL_tick_2 : decode cL_tick 2 = .ok (.iconst 0, 1) := by decide +kernel
theorem dL_tick_3 : decode cL_tick 3 = .ok (.dup2, 1) := by decide +kernel
theorem dL_tick_4 : decode cL_tick 4 = .ok (.iaload, 1) := by decide +kernel
theorem dL_tick_5 : decode cL_tick 5 = .ok (.iconst 1, 1) := by decide +kernel
theorem dL_tick_6 : decode cL_tick 6 = .ok (.iadd, 1) := by decide +kernel
theorem dL_tick_7 : decode cL_tick 7 = .ok (.iastore, 1) := by decide +kernel
theorem dL_tick_8 : decode cL_tick 8 = .ok (.iconst 0, 1) := by decide +kernel
theorem dL_tick_9 : decode cL_tick 9 = .ok (.istore 8, 2) := by decide +kernel
theorem dL_tick_11 : decode cL_tick 11 = .ok (.iload 8, 2) := by decide +kernel
theorem dL_tick_13 : decode cL_tick 13 = .ok (.aload 7, 2) := by decide +kernel
theorem dL_tick_15 : decode cL_tick 15 = .ok (.iconst 1, 1) := by decide +kernel
theorem dL_tick_16 : decode cL_tick 16 = .ok (.iaload, 1) := by decide +kernel
theorem dL_tick_17 : decode cL_tick 17 = .ok (.if_icmp .ge 61, 3) := by decide +kernel
theorem dL_tick_20 : decode cL_tick 20 = .ok (.aload_n 1, 1) := by decide +kernel
theorem dL_tick_21 : decode cL_tick 21 = .ok (.iload 8, 2) := by decide +kernel
theorem dL_tick_23 : decode cL_tick 23 = .ok (.iconst 3, 1) := by decide +kernel
theorem dL_tick_24 : decode cL_tick 24 = .ok (.iconst 3, 1) := by decide +kernel
theorem dL_tick_25 : decode cL_tick 25 = .ok (.invokestatic 59, 3) := by decide +kernel
theorem dL_tick_28 : decode cL_tick 28 = .ok (.iconst 2, 1) := by decide +kernel
theorem dL_tick_29 : decode cL_tick 29 = .ok (.if_icmp .gt 43, 3) := by decide +kernel
theorem dL_tick_32 : decode cL_tick 32 = .ok (.aload_n 2, 1) := by decide +kernel
theorem dL_tick_33 : decode cL_tick 33 = .ok (.iload 8, 2) := by decide +kernel
theorem dL_tick_35 : decode cL_tick 35 = .ok (.iaload, 1) := by decide +kernel
theorem dL_tick_36 : decode cL_tick 36 = .ok (.aload 7, 2) := by decide +kernel
theorem dL_tick_38 : decode cL_tick 38 = .ok (.iconst 0, 1) := by decide +kernel
theorem dL_tick_39 : decode cL_tick 39 = .ok (.iaload, 1) := by decide +kernel
theorem dL_tick_40 : decode cL_tick 40 = .ok (.if_icmp .le 6, 3) := by decide +kernel
theorem dL_tick_43 : decode cL_tick 43 = .ok (.goto 29, 3) := by decide +kernel
theorem dL_tick_46 : decode cL_tick 46 = .ok (.iload 8, 2) := by decide +kernel
theorem dL_tick_48 : decode cL_tick 48 = .ok (.iconst 5, 1) := by decide +kernel
theorem dL_tick_49 : decode cL_tick 49 = .ok (.aload_n 0, 1) := by decide +kernel
theorem dL_tick_50 : decode cL_tick 50 = .ok (.aload_n 1, 1) := by decide +kernel
theorem dL_tick_51 : decode cL_tick 51 = .ok (.aload_n 3, 1) := by decide +kernel
theorem dL_tick_52 : decode cL_tick 52 = .ok (.aload 5, 2) := by decide +kernel
theorem dL_tick_54 : decode cL_tick 54 = .ok (.aload 7, 2) := by decide +kernel
theorem dL_tick_56 : decode cL_tick 56 = .ok (.invokestatic 67, 3) := by decide +kernel
theorem dL_tick_59 : decode cL_tick 59 = .ok (.aload_n 1, 1) := by decide +kernel
theorem dL_tick_60 : decode cL_tick 60 = .ok (.iload 8, 2) := by decide +kernel
theorem dL_tick_62 : decode cL_tick 62 = .ok (.iaload, 1) := by decide +kernel
theorem dL_tick_63 : decode cL_tick 63 = .ok (.bipush 7, 2) := by decide +kernel
theorem dL_tick_65 : decode cL_tick 65 = .ok (.iand, 1) := by decide +kernel
theorem dL_tick_66 : decode cL_tick 66 = .ok (.aload_n 0, 1) := by decide +kernel
theorem dL_tick_67 : decode cL_tick 67 = .ok (.aload 7, 2) := by decide +kernel
theorem dL_tick_69 : decode cL_tick 69 = .ok (.invokestatic 71, 3) := by decide +kernel
theorem dL_tick_72 : decode cL_tick 72 = .ok (.iinc 8 1, 3) := by decide +kernel
theorem dL_tick_75 : decode cL_tick 75 = .ok (.goto (-64), 3) := by decide +kernel
theorem dL_tick_78 : decode cL_tick 78 = .ok (.iconst 0, 1) := by decide +kernel
theorem dL_tick_79 : decode cL_tick 79 = .ok (.istore 8, 2) := by decide +kernel
theorem dL_tick_81 : decode cL_tick 81 = .ok (.iload 8, 2) := by decide +kernel
theorem dL_tick_83 : decode cL_tick 83 = .ok (.aload 7, 2) := by decide +kernel
theorem dL_tick_85 : decode cL_tick 85 = .ok (.iconst 1, 1) := by decide +kernel
theorem dL_tick_86 : decode cL_tick 86 = .ok (.iaload, 1) := by decide +kernel
theorem dL_tick_87 : decode cL_tick 87 = .ok (.if_icmp .ge 178, 3) := by decide +kernel
theorem dL_tick_90 : decode cL_tick 90 = .ok (.aload_n 1, 1) := by decide +kernel
theorem dL_tick_91 : decode cL_tick 91 = .ok (.iload 8, 2) := by decide +kernel
theorem dL_tick_93 : decode cL_tick 93 = .ok (.iconst 3, 1) := by decide +kernel
theorem dL_tick_94 : decode cL_tick 94 = .ok (.iconst 3, 1) := by decide +kernel
theorem dL_tick_95 : decode cL_tick 95 = .ok (.invokestatic 59, 3) := by decide +kernel
theorem dL_tick_98 : decode cL_tick 98 = .ok (.iconst 1, 1) := by decide +kernel
theorem dL_tick_99 : decode cL_tick 99 = .ok (.if_icmp .ne 160, 3) := by decide +kernel
theorem dL_tick_102 : decode cL_tick 102 = .ok (.aload 4, 2) := by decide +kernel
theorem dL_tick_104 : decode cL_tick 104 = .ok (.iload 8, 2) := by decide +kernel
theorem dL_tick_106 : decode cL_tick 106 = .ok (.iaload, 1) := by decide +kernel
theorem dL_tick_107 : decode cL_tick 107 = .ok (.aload 7, 2) := by decide +kernel
theorem dL_tick_109 : decode cL_tick 109 = .ok (.iconst 0, 1) := by decide +kernel
theorem dL_tick_110 : decode cL_tick 110 = .ok (.iaload, 1) := by decide +kernel
