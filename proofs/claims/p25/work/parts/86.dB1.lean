theorem dL_build_0 : decode cL_build 0 = .ok (.new 9, 3) := by decide +kernel
theorem dL_build_3 : decode cL_build 3 = .ok (.dup, 1) := by decide +kernel
theorem dL_build_4 : decode cL_build 4 = .ok (.invokespecial 11, 3) := by decide +kernel
theorem dL_build_7 : decode cL_build 7 = .ok (.astore_n 3, 1) := by decide +kernel
theorem dL_build_8 : decode cL_build 8 = .ok (.iconst 1, 1) := by decide +kernel
theorem dL_build_9 : decode cL_build 9 = .ok (.aload_n 1, 1) := by decide +kernel
theorem dL_build_10 : decode cL_build 10 = .ok (.iconst 0, 1) := by decide +kernel
theorem dL_build_11 : decode cL_build 11 = .ok (.invokestatic 12, 3) := by decide +kernel
theorem dL_build_14 : decode cL_build 14 = .ok (.iload_n 2, 1) := by decide +kernel
theorem dL_build_15 : decode cL_build 15 = .ok (.invokestatic 18, 3) := by decide +kernel
theorem dL_build_18 : decode cL_build 18 = .ok (.iadd, 1) := by decide +kernel
theorem dL_build_19 : decode cL_build 19 = .ok (.istore 4, 2) := by decide +kernel
theorem dL_build_21 : decode cL_build 21 = .ok (.aload_n 3, 1) := by decide +kernel
theorem dL_build_22 : decode cL_build 22 = .ok (.iconst 5, 1) := by decide +kernel
theorem dL_build_23 : decode cL_build 23 = .ok (.aload_n 1, 1) := by decide +kernel
theorem dL_build_24 : decode cL_build 24 = .ok (.iconst 0, 1) := by decide +kernel
theorem dL_build_25 : decode cL_build 25 = .ok (.invokestatic 12, 3) := by decide +kernel
theorem dL_build_28 : decode cL_build 28 = .ok (.iconst 4, 1) := by decide +kernel
theorem dL_build_29 : decode cL_build 29 = .ok (.ishr, 1) := by decide +kernel
theorem dL_build_30 : decode cL_build 30 = .ok (.bipush 40, 2) := by decide +kernel
theorem dL_build_32 : decode cL_build 32 = .ok (.invokestatic 18, 3) := by decide +kernel
theorem dL_build_35 : decode cL_build 35 = .ok (.iadd, 1) := by decide +kernel
theorem dL_build_36 : decode cL_build 36 = .ok (.putfield 22, 3) := by decide +kernel
theorem dL_build_39 : decode cL_build 39 = .ok (.aload_n 0, 1) := by decide +kernel
theorem dL_build_40 : decode cL_build 40 = .ok (.aload_n 3, 1) := by decide +kernel
theorem dL_build_41 : decode cL_build 41 = .ok (.getfield 22, 3) := by decide +kernel
theorem dL_build_44 : decode cL_build 44 = .ok (.invokevirtual 26, 3) := by decide +kernel
theorem dL_build_47 : decode cL_build 47 = .ok (.bipush 60, 2) := by decide +kernel
theorem dL_build_49 : decode cL_build 49 = .ok (.if_icmp .eq 5, 3) := by decide +kernel
theorem dL_build_52 : decode cL_build 52 = .ok (.aconst_null, 1) := by decide +kernel
theorem dL_build_53 : decode cL_build 53 = .ok (.areturn, 1) := by decide +kernel
theorem dL_build_54 : decode cL_build 54 = .ok (.iconst 0, 1) := by decide +kernel
theorem dL_build_55 : decode cL_build 55 = .ok (.istore 5, 2) := by decide +kernel
theorem dL_build_57 : decode cL_build 57 = .ok (.iload 5, 2) := by decide +kernel
theorem dL_build_59 : decode cL_build 59 = .ok (.iload 4, 2) := by decide +kernel
theorem dL_build_61 : decode cL_build 61 = .ok (.if_icmp .ge 78, 3) := by decide +kernel
theorem dL_build_64 : decode cL_build 64 = .ok (.aload_n 1, 1) := by decide +kernel
theorem dL_build_65 : decode cL_build 65 = .ok (.iconst 1, 1) := by decide +kernel
theorem dL_build_66 : decode cL_build 66 = .ok (.iload 5, 2) := by decide +kernel
theorem dL_build_68 : decode cL_build 68 = .ok (.bipush 8, 2) := by decide +kernel
theorem dL_build_70 : decode cL_build 70 = .ok (.irem, 1) := by decide +kernel
theorem dL_build_71 : decode cL_build 71 = .ok (.iadd, 1) := by decide +kernel
theorem dL_build_72 : decode cL_build 72 = .ok (.invokestatic 12, 3) := by decide +kernel
theorem dL_build_75 : decode cL_build 75 = .ok (.istore 6, 2) := by decide +kernel
theorem dL_build_77 : decode cL_build 77 = .ok (.aload_n 0, 1) := by decide +kernel
theorem dL_build_78 : decode cL_build 78 = .ok (.iload 6, 2) := by decide +kernel
theorem dL_build_80 : decode cL_build 80 = .ok (.iload 5, 2) := by decide +kernel
theorem dL_build_82 : decode cL_build 82 = .ok (.ishr, 1) := by decide +kernel
theorem dL_build_83 : decode cL_build 83 = .ok (.bipush 88, 2) := by decide +kernel
theorem dL_build_85 : decode cL_build 85 = .ok (.invokestatic 18, 3) := by decide +kernel
theorem dL_build_88 : decode cL_build 88 = .ok (.iload 6, 2) := by decide +kernel
theorem dL_build_90 : decode cL_build 90 = .ok (.bipush 7, 2) := by decide +kernel
theorem dL_build_92 : decode cL_build 92 = .ok (.ishr, 1) := by decide +kernel
theorem dL_build_93 : decode cL_build 93 = .ok (.bipush 10, 2) := by decide +kernel
theorem dL_build_95 : decode cL_build 95 = .ok (.invokestatic 18, 3) := by decide +kernel
theorem dL_build_98 : decode cL_build 98 = .ok (.invokevirtual 32, 3) := by decide +kernel
theorem dL_build_101 : decode cL_build 101 = .ok (.iload 5, 2) := by decide +kernel
theorem dL_build_103 : decode cL_build 103 = .ok (.if_icmp .eq 5, 3) := by decide +kernel
theorem dL_build_106 : decode cL_build 106 = .ok (.aconst_null, 1) := by decide +kernel
theorem dL_build_107 : decode cL_build 107 = .ok (.areturn, 1) := by decide +kernel
theorem dL_build_108 : decode cL_build 108 = .ok (.aload_n 3, 1) := by decide +kernel
theorem dL_build_109 : decode cL_build 109 = .ok (.iload 6, 2) := by decide +kernel
theorem dL_build_111 : decode cL_build 111 = .ok (.iload 5, 2) := by decide +kernel
theorem dL_build_113 : decode cL_build 113 = .ok (.ishr, 1) := by decide +kernel
theorem dL_build_114 : decode cL_build 114 = .ok (.bipush 88, 2) := by decide +kernel
theorem dL_build_116 : decode cL_build 116 = .ok (.invokestatic 18, 3) := by decide +kernel
theorem dL_build_119 : decode cL_build 119 = .ok (.iload 6, 2) := by decide +kernel
theorem dL_build_121 : decode cL_build 121 = .ok (.bipush 7, 2) := by decide +kernel
theorem dL_build_123 : decode cL_build 123 = .ok (.ishr, 1) := by decide +kernel
theorem dL_build_124 : decode cL_build 124 = .ok (.bipush 10, 2) := by decide +kernel
theorem dL_build_126 : decode cL_build 126 = .ok (.invokestatic 18, 3) := by decide +kernel
theorem dL_build_129 : decode cL_build 129 = .ok (.invokevirtual 35, 3) := by decide +kernel
theorem dL_build_132 : decode cL_build 132 = .ok (.pop, 1) := by decide +kernel
theorem dL_build_133 : decode cL_build 133 = .ok (.iinc 5 1, 3) := by decide +kernel
theorem dL_build_136 : decode cL_build 136 = .ok (.goto (-79), 3) := by decide +kernel
theorem dL_build_139 : decode cL_build 139 = .ok (.iconst 0, 1) := by decide +kernel
theorem dL_build_140 : decode cL_build 140 = .ok (.istore 5, 2) := by decide +kernel
theorem dL_build_142 : decode cL_build 142 = .ok (.iload 5, 2) := by decide +kernel
theorem dL_build_144 : decode cL_build 144 = .ok (.iload 4, 2) := by decide +kernel
theorem dL_build_146 : decode cL_build 146 = .ok (.if_icmp .ge 324, 3) := by decide +kernel
theorem dL_build_149 : decode cL_build 149 = .ok (.aload_n 1, 1) := by decide +kernel
theorem dL_build_150 : decode cL_build 150 = .ok (.bipush 9, 2) := by decide +kernel
theorem dL_build_152 : decode cL_build 152 = .ok (.invokestatic 12, 3) := by decide +kernel
theorem dL_build_155 : decode cL_build 155 = .ok (.iconst 4, 1) := by decide +kernel
theorem dL_build_156 : decode cL_build 156 = .ok (.invokestatic 18, 3) := by decide +kernel
theorem dL_build_159 : decode cL_build 159 = .ok (.iload 5, 2) := by decide +kernel
theorem dL_build_161 : decode cL_build 161 = .ok (.iconst 2, 1) := by decide +kernel
theorem dL_build_162 : decode cL_build 162 = .ok (.irem, 1) := by decide +kernel
theorem dL_build_163 : decode cL_build 163 = .ok (.iadd, 1) := by decide +kernel
theorem dL_build_164 : decode cL_build 164 = .ok (.istore 6, 2) := by decide +kernel
theorem dL_build_166 : decode cL_build 166 = .ok (.iconst 0, 1) := by decide +kernel
theorem dL_build_167 : decode cL_build 167 = .ok (.istore 7, 2) := by decide +kernel
theorem dL_build_169 : decode cL_build 169 = .ok (.iload 7, 2) := by decide +kernel
theorem dL_build_171 : decode cL_build 171 = .ok (.iload 6, 2) := by decide +kernel
theorem dL_build_173 : decode cL_build 173 = .ok (.if_icmp .ge 291, 3) := by decide +kernel
theorem dL_build_176 : decode cL_build 176 = .ok (.aload_n 1, 1) := by decide +kernel
theorem dL_build_177 : decode cL_build 177 = .ok (.iconst 2, 1) := by decide +kernel
theorem dL_build_178 : decode cL_build 178 = .ok (.iload 5, 2) := by decide +kernel
theorem dL_build_180 : decode cL_build 180 = .ok (.iconst 3, 1) := by decide +kernel
theorem dL_build_181 : decode cL_build 181 = .ok (.iload 7, 2) := by decide +kernel
theorem dL_build_183 : decode cL_build 183 = .ok (.imul, 1) := by decide +kernel
theorem dL_build_184 : decode cL_build 184 = .ok (.iadd, 1) := by decide +kernel
theorem dL_build_185 : decode cL_build 185 = .ok (.bipush 14, 2) := by decide +kernel
theorem dL_build_187 : decode cL_build 187 = .ok (.irem, 1) := by decide +kernel
theorem dL_build_188 : decode cL_build 188 = .ok (.iadd, 1) := by decide +kernel
theorem dL_build_189 : decode cL_build 189 = .ok (.invokestatic 12, 3) := by decide +kernel
theorem dL_build_192 : decode cL_build 192 = .ok (.iload 5, 2) := by decide +kernel
theorem dL_build_194 : decode cL_build 194 = .ok (.iconst 5, 1) := by decide +kernel
theorem dL_build_195 : decode cL_build 195 = .ok (.irem, 1) := by decide +kernel
theorem dL_build_196 : decode cL_build 196 = .ok (.ishr, 1) := by decide +kernel
theorem dL_build_197 : decode cL_build 197 = .ok (.bipush 31, 2) := by decide +kernel
theorem dL_build_199 : decode cL_build 199 = .ok (.iload 5, 2) := by decide +kernel
theorem dL_build_201 : decode cL_build 201 = .ok (.imul, 1) := by decide +kernel
theorem dL_build_202 : decode cL_build 202 = .ok (.iadd, 1) := by decide +kernel
theorem dL_build_203 : decode cL_build 203 = .ok (.bipush 7, 2) := by decide +kernel
theorem dL_build_205 : decode cL_build 205 = .ok (.iload 7, 2) := by decide +kernel
theorem dL_build_207 : decode cL_build 207 = .ok (.imul, 1) := by decide +kernel
theorem dL_build_208 : decode cL_build 208 = .ok (.iadd, 1) := by decide +kernel
theorem dL_build_209 : decode cL_build 209 = .ok (.istore 8, 2) := by decide +kernel
theorem dL_build_211 : decode cL_build 211 = .ok (.iload 8, 2) := by decide +kernel
theorem dL_build_213 : decode cL_build 213 = .ok (.iconst 2, 1) := by decide +kernel
theorem dL_build_214 : decode cL_build 214 = .ok (.ishr, 1) := by decide +kernel
theorem dL_build_215 : decode cL_build 215 = .ok (.iconst 5, 1) := by decide +kernel
theorem dL_build_216 : decode cL_build 216 = .ok (.invokestatic 18, 3) := by decide +kernel
theorem dL_build_219 : decode cL_build 219 = .ok (.istore 9, 2) := by decide +kernel
theorem dL_build_221 : decode cL_build 221 = .ok (.bipush 9, 2) := by decide +kernel
theorem dL_build_223 : decode cL_build 223 = .ok (.newarray .int, 2) := by decide +kernel
theorem dL_build_225 : decode cL_build 225 = .ok (.dup, 1) := by decide +kernel
theorem dL_build_226 : decode cL_build 226 = .ok (.iconst 0, 1) := by decide +kernel
theorem dL_build_227 : decode cL_build 227 = .ok (.iload 8, 2) := by decide +kernel
theorem dL_build_229 : decode cL_build 229 = .ok (.iconst 3, 1) := by decide +kernel
theorem dL_build_230 : decode cL_build 230 = .ok (.ishr, 1) := by decide +kernel
theorem dL_build_231 : decode cL_build 231 = .ok (.bipush 24, 2) := by decide +kernel
theorem dL_build_233 : decode cL_build 233 = .ok (.invokestatic 18, 3) := by decide +kernel
