theorem aX3_ringBell_62 : mm_at mX3_ringBell 62 = some (.iconst 0) := by decide +kernel
theorem aX3_ringBell_63 : mm_at mX3_ringBell 63 = some (.istore 8) := by decide +kernel
theorem aX3_ringBell_65 : mm_at mX3_ringBell 65 = some (.iload 8) := by decide +kernel
theorem aX3_ringBell_67 : mm_at mX3_ringBell 67 = some (.iload 6) := by decide +kernel
theorem aX3_ringBell_69 : mm_at mX3_ringBell 69 = some (.if_icmp .ge 52) := by decide +kernel
theorem aX3_ringBell_72 : mm_at mX3_ringBell 72 = some (.iload 7) := by decide +kernel
theorem aX3_ringBell_74 : mm_at mX3_ringBell 74 = some (.ifCond .ne 47) := by decide +kernel
theorem aX3_ringBell_77 : mm_at mX3_ringBell 77 = some (.aload 5) := by decide +kernel
theorem aX3_ringBell_79 : mm_at mX3_ringBell 79 = some (.iload 8) := by decide +kernel
theorem aX3_ringBell_81 : mm_at mX3_ringBell 81 = some (.iaload) := by decide +kernel
theorem aX3_ringBell_82 : mm_at mX3_ringBell 82 = some (.istore 9) := by decide +kernel
theorem aX3_ringBell_84 : mm_at mX3_ringBell 84 = some (.aload 4) := by decide +kernel
theorem aX3_ringBell_86 : mm_at mX3_ringBell 86 = some (.iload 9) := by decide +kernel
theorem aX3_ringBell_88 : mm_at mX3_ringBell 88 = some (.invokevirtual 153) := by decide +kernel
theorem aX3_ringBell_91 : mm_at mX3_ringBell 91 = some (.iconst (-1)) := by decide +kernel
theorem aX3_ringBell_92 : mm_at mX3_ringBell 92 = some (.if_icmp .eq 23) := by decide +kernel
theorem aX3_ringBell_95 : mm_at mX3_ringBell 95 = some (.aload_n 0) := by decide +kernel
theorem aX3_ringBell_96 : mm_at mX3_ringBell 96 = some (.aload 4) := by decide +kernel
theorem aX3_ringBell_98 : mm_at mX3_ringBell 98 = some (.aload_n 0) := by decide +kernel
theorem aX3_ringBell_99 : mm_at mX3_ringBell 99 = some (.aload_n 0) := by decide +kernel
theorem aX3_ringBell_100 : mm_at mX3_ringBell 100 = some (.getfield 32) := by decide +kernel
theorem aX3_ringBell_103 : mm_at mX3_ringBell 103 = some (.iload 9) := by decide +kernel
theorem aX3_ringBell_105 : mm_at mX3_ringBell 105 = some (.aaload) := by decide +kernel
theorem aX3_ringBell_106 : mm_at mX3_ringBell 106 = some (.lload_n 2) := by decide +kernel
theorem aX3_ringBell_107 : mm_at mX3_ringBell 107 = some (.invokevirtual 90) := by decide +kernel
theorem aX3_ringBell_110 : mm_at mX3_ringBell 110 = some (.invokevirtual 156) := by decide +kernel
theorem aX3_ringBell_113 : mm_at mX3_ringBell 113 = some (.istore 7) := by decide +kernel
theorem aX3_ringBell_115 : mm_at mX3_ringBell 115 = some (.iinc 8 1) := by decide +kernel
theorem aX3_ringBell_118 : mm_at mX3_ringBell 118 = some (.goto (-53)) := by decide +kernel
theorem aX3_ringBell_121 : mm_at mX3_ringBell 121 = some (.aload_n 0) := by decide +kernel
theorem aX3_ringBell_122 : mm_at mX3_ringBell 122 = some (.dup) := by decide +kernel
theorem aX3_ringBell_123 : mm_at mX3_ringBell 123 = some (.getfield 146) := by decide +kernel
theorem aX3_ringBell_126 : mm_at mX3_ringBell 126 = some (.iconst 1) := by decide +kernel
theorem aX3_ringBell_127 : mm_at mX3_ringBell 127 = some (.isub) := by decide +kernel
theorem aX3_ringBell_128 : mm_at mX3_ringBell 128 = some (.putfield 146) := by decide +kernel
theorem aX3_ringBell_131 : mm_at mX3_ringBell 131 = some (.iload 7) := by decide +kernel
theorem aX3_ringBell_133 : mm_at mX3_ringBell 133 = some (.invokestatic 94) := by decide +kernel
theorem aX3_ringBell_136 : mm_at mX3_ringBell 136 = some (.ireturn) := by decide +kernel
theorem aX3_perform_0 : mm_at mX3_perform 0 = some (.aload_n 1) := by decide +kernel
theorem aX3_perform_1 : mm_at mX3_perform 1 = some (.ifnonnull 5) := by decide +kernel
theorem aX3_perform_4 : mm_at mX3_perform 4 = some (.iconst 3) := by decide +kernel
theorem aX3_perform_5 : mm_at mX3_perform 5 = some (.ireturn) := by decide +kernel
theorem aX3_perform_6 : mm_at mX3_perform 6 = some (.aload_n 0) := by decide +kernel
theorem aX3_perform_7 : mm_at mX3_perform 7 = some (.getfield 77) := by decide +kernel
theorem aX3_perform_10 : mm_at mX3_perform 10 = some (.sipush 200) := by decide +kernel
theorem aX3_perform_13 : mm_at mX3_perform 13 = some (.if_icmp .lt 6) := by decide +kernel
theorem aX3_perform_16 : mm_at mX3_perform 16 = some (.bipush 6) := by decide +kernel
theorem aX3_perform_18 : mm_at mX3_perform 18 = some (.ireturn) := by decide +kernel
theorem aX3_perform_19 : mm_at mX3_perform 19 = some (.aload_n 0) := by decide +kernel
theorem aX3_perform_20 : mm_at mX3_perform 20 = some (.dup) := by decide +kernel
theorem aX3_perform_21 : mm_at mX3_perform 21 = some (.getfield 77) := by decide +kernel
theorem aX3_perform_24 : mm_at mX3_perform 24 = some (.iconst 1) := by decide +kernel
theorem aX3_perform_25 : mm_at mX3_perform 25 = some (.iadd) := by decide +kernel
theorem aX3_perform_26 : mm_at mX3_perform 26 = some (.putfield 77) := by decide +kernel
theorem aX3_perform_29 : mm_at mX3_perform 29 = some (.aload_n 0) := by decide +kernel
theorem aX3_perform_30 : mm_at mX3_perform 30 = some (.dup) := by decide +kernel
theorem aX3_perform_31 : mm_at mX3_perform 31 = some (.getfield 103) := by decide +kernel
theorem aX3_perform_34 : mm_at mX3_perform 34 = some (.iconst 1) := by decide +kernel
theorem aX3_perform_35 : mm_at mX3_perform 35 = some (.iadd) := by decide +kernel
theorem aX3_perform_36 : mm_at mX3_perform 36 = some (.putfield 103) := by decide +kernel
theorem aX3_perform_39 : mm_at mX3_perform 39 = some (.aload_n 1) := by decide +kernel
theorem aX3_perform_40 : mm_at mX3_perform 40 = some (.dup) := by decide +kernel
theorem aX3_perform_41 : mm_at mX3_perform 41 = some (.getfield 127) := by decide +kernel
theorem aX3_perform_44 : mm_at mX3_perform 44 = some (.iconst 1) := by decide +kernel
theorem aX3_perform_45 : mm_at mX3_perform 45 = some (.iadd) := by decide +kernel
theorem aX3_perform_46 : mm_at mX3_perform 46 = some (.putfield 127) := by decide +kernel
theorem aX3_perform_49 : mm_at mX3_perform 49 = some (.aload_n 1) := by decide +kernel
theorem aX3_perform_50 : mm_at mX3_perform 50 = some (.getfield 160) := by decide +kernel
theorem aX3_perform_53 : mm_at mX3_perform 53 = some (.tableswitch 192 5 12 #[47, 192, 192, 63, 88, 118, 146, 177]) := by decide +kernel
theorem aX3_perform_100 : mm_at mX3_perform 100 = some (.aload_n 0) := by decide +kernel
theorem aX3_perform_101 : mm_at mX3_perform 101 = some (.aload_n 1) := by decide +kernel
theorem aX3_perform_102 : mm_at mX3_perform 102 = some (.getfield 163) := by decide +kernel
theorem aX3_perform_105 : mm_at mX3_perform 105 = some (.lload_n 2) := by decide +kernel
theorem aX3_perform_106 : mm_at mX3_perform 106 = some (.aload_n 1) := by decide +kernel
theorem aX3_perform_107 : mm_at mX3_perform 107 = some (.getfield 166) := by decide +kernel
theorem aX3_perform_110 : mm_at mX3_perform 110 = some (.i2l) := by decide +kernel
theorem aX3_perform_111 : mm_at mX3_perform 111 = some (.ladd) := by decide +kernel
theorem aX3_perform_112 : mm_at mX3_perform 112 = some (.invokevirtual 80) := by decide +kernel
theorem aX3_perform_115 : mm_at mX3_perform 115 = some (.ireturn) := by decide +kernel
theorem aX3_perform_116 : mm_at mX3_perform 116 = some (.aload_n 1) := by decide +kernel
theorem aX3_perform_117 : mm_at mX3_perform 117 = some (.getfield 127) := by decide +kernel
theorem aX3_perform_120 : mm_at mX3_perform 120 = some (.aload_n 1) := by decide +kernel
theorem aX3_perform_121 : mm_at mX3_perform 121 = some (.getfield 166) := by decide +kernel
theorem aX3_perform_124 : mm_at mX3_perform 124 = some (.if_icmp .gt 15) := by decide +kernel
theorem aX3_perform_127 : mm_at mX3_perform 127 = some (.aload_n 0) := by decide +kernel
theorem aX3_perform_128 : mm_at mX3_perform 128 = some (.aload_n 1) := by decide +kernel
theorem aX3_perform_129 : mm_at mX3_perform 129 = some (.getfield 169) := by decide +kernel
theorem aX3_perform_132 : mm_at mX3_perform 132 = some (.lload_n 2) := by decide +kernel
theorem aX3_perform_133 : mm_at mX3_perform 133 = some (.invokevirtual 90) := by decide +kernel
theorem aX3_perform_136 : mm_at mX3_perform 136 = some (.goto 4) := by decide +kernel
theorem aX3_perform_139 : mm_at mX3_perform 139 = some (.iconst 0) := by decide +kernel
theorem aX3_perform_140 : mm_at mX3_perform 140 = some (.ireturn) := by decide +kernel
theorem aX3_perform_141 : mm_at mX3_perform 141 = some (.aload_n 1) := by decide +kernel
theorem aX3_perform_142 : mm_at mX3_perform 142 = some (.getfield 127) := by decide +kernel
theorem aX3_perform_145 : mm_at mX3_perform 145 = some (.aload_n 1) := by decide +kernel
theorem aX3_perform_146 : mm_at mX3_perform 146 = some (.getfield 166) := by decide +kernel
theorem aX3_perform_149 : mm_at mX3_perform 149 = some (.iconst 1) := by decide +kernel
theorem aX3_perform_150 : mm_at mX3_perform 150 = some (.invokestatic 173) := by decide +kernel
theorem aX3_perform_153 : mm_at mX3_perform 153 = some (.irem) := by decide +kernel
theorem aX3_perform_154 : mm_at mX3_perform 154 = some (.ifCond .ne 15) := by decide +kernel
theorem aX3_perform_157 : mm_at mX3_perform 157 = some (.aload_n 0) := by decide +kernel
theorem aX3_perform_158 : mm_at mX3_perform 158 = some (.aload_n 1) := by decide +kernel
theorem aX3_perform_159 : mm_at mX3_perform 159 = some (.getfield 169) := by decide +kernel
theorem aX3_perform_162 : mm_at mX3_perform 162 = some (.lload_n 2) := by decide +kernel
theorem aX3_perform_163 : mm_at mX3_perform 163 = some (.invokevirtual 90) := by decide +kernel
theorem aX3_perform_166 : mm_at mX3_perform 166 = some (.goto 4) := by decide +kernel
theorem aX3_perform_169 : mm_at mX3_perform 169 = some (.iconst 0) := by decide +kernel
theorem aX3_perform_170 : mm_at mX3_perform 170 = some (.ireturn) := by decide +kernel
theorem aX3_perform_171 : mm_at mX3_perform 171 = some (.aload_n 0) := by decide +kernel
theorem aX3_perform_172 : mm_at mX3_perform 172 = some (.getfield 9) := by decide +kernel
theorem aX3_perform_175 : mm_at mX3_perform 175 = some (.aload_n 1) := by decide +kernel
theorem aX3_perform_176 : mm_at mX3_perform 176 = some (.getfield 166) := by decide +kernel
theorem aX3_perform_179 : mm_at mX3_perform 179 = some (.laload) := by decide +kernel
theorem aX3_perform_180 : mm_at mX3_perform 180 = some (.lconst 0) := by decide +kernel
theorem aX3_perform_181 : mm_at mX3_perform 181 = some (.lcmp) := by decide +kernel
theorem aX3_perform_182 : mm_at mX3_perform 182 = some (.ifCond .le 15) := by decide +kernel
theorem aX3_perform_185 : mm_at mX3_perform 185 = some (.aload_n 0) := by decide +kernel
theorem aX3_perform_186 : mm_at mX3_perform 186 = some (.aload_n 1) := by decide +kernel
theorem aX3_perform_187 : mm_at mX3_perform 187 = some (.getfield 169) := by decide +kernel
theorem aX3_perform_190 : mm_at mX3_perform 190 = some (.lload_n 2) := by decide +kernel
theorem aX3_perform_191 : mm_at mX3_perform 191 = some (.invokevirtual 90) := by decide +kernel
theorem aX3_perform_194 : mm_at mX3_perform 194 = some (.goto 4) := by decide +kernel
theorem aX3_perform_197 : mm_at mX3_perform 197 = some (.iconst 0) := by decide +kernel
theorem aX3_perform_198 : mm_at mX3_perform 198 = some (.ireturn) := by decide +kernel
theorem aX3_perform_199 : mm_at mX3_perform 199 = some (.aload_n 0) := by decide +kernel
theorem aX3_perform_200 : mm_at mX3_perform 200 = some (.aload_n 1) := by decide +kernel
theorem aX3_perform_201 : mm_at mX3_perform 201 = some (.getfield 169) := by decide +kernel
theorem aX3_perform_204 : mm_at mX3_perform 204 = some (.lload_n 2) := by decide +kernel
theorem aX3_perform_205 : mm_at mX3_perform 205 = some (.invokevirtual 90) := by decide +kernel
theorem aX3_perform_208 : mm_at mX3_perform 208 = some (.istore 4) := by decide +kernel
theorem aX3_perform_210 : mm_at mX3_perform 210 = some (.iload 4) := by decide +kernel
theorem aX3_perform_212 : mm_at mX3_perform 212 = some (.ifCond .ne 15) := by decide +kernel
theorem aX3_perform_215 : mm_at mX3_perform 215 = some (.aload_n 0) := by decide +kernel
theorem aX3_perform_216 : mm_at mX3_perform 216 = some (.aload_n 1) := by decide +kernel
theorem aX3_perform_217 : mm_at mX3_perform 217 = some (.getfield 179) := by decide +kernel
theorem aX3_perform_220 : mm_at mX3_perform 220 = some (.lload_n 2) := by decide +kernel
theorem aX3_perform_221 : mm_at mX3_perform 221 = some (.invokevirtual 90) := by decide +kernel
theorem aX3_perform_224 : mm_at mX3_perform 224 = some (.goto 5) := by decide +kernel
theorem aX3_perform_227 : mm_at mX3_perform 227 = some (.iload 4) := by decide +kernel
theorem aX3_perform_229 : mm_at mX3_perform 229 = some (.ireturn) := by decide +kernel
theorem aX3_perform_230 : mm_at mX3_perform 230 = some (.aload_n 0) := by decide +kernel
theorem aX3_perform_231 : mm_at mX3_perform 231 = some (.aload_n 1) := by decide +kernel
theorem aX3_perform_232 : mm_at mX3_perform 232 = some (.aload_n 0) := by decide +kernel
theorem aX3_perform_233 : mm_at mX3_perform 233 = some (.aload_n 1) := by decide +kernel
theorem aX3_perform_234 : mm_at mX3_perform 234 = some (.getfield 169) := by decide +kernel
theorem aX3_perform_237 : mm_at mX3_perform 237 = some (.lload_n 2) := by decide +kernel
theorem aX3_perform_238 : mm_at mX3_perform 238 = some (.invokevirtual 90) := by decide +kernel
theorem aX3_perform_241 : mm_at mX3_perform 241 = some (.invokevirtual 182) := by decide +kernel
theorem aX3_perform_244 : mm_at mX3_perform 244 = some (.ireturn) := by decide +kernel
theorem aX3_perform_245 : mm_at mX3_perform 245 = some (.aload_n 0) := by decide +kernel
theorem aX3_perform_246 : mm_at mX3_perform 246 = some (.aload_n 1) := by decide +kernel
theorem aX3_perform_247 : mm_at mX3_perform 247 = some (.lload_n 2) := by decide +kernel
theorem aX3_perform_248 : mm_at mX3_perform 248 = some (.invokevirtual 186) := by decide +kernel
theorem aX3_perform_251 : mm_at mX3_perform 251 = some (.ireturn) := by decide +kernel
theorem aX3_performAlone_0 : mm_at mX3_performAlone 0 = some (.aload_n 1) := by decide +kernel
theorem aX3_performAlone_1 : mm_at mX3_performAlone 1 = some (.getfield 160) := by decide +kernel
theorem aX3_performAlone_4 : mm_at mX3_performAlone 4 = some (.tableswitch 239 0 14 #[76, 97, 121, 142, 152, 239, 162, 189, 239, 239, 239, 239, 239, 202, 212]) := by decide +kernel
theorem aX3_performAlone_80 : mm_at mX3_performAlone 80 = some (.aload_n 0) := by decide +kernel
theorem aX3_performAlone_81 : mm_at mX3_performAlone 81 = some (.getfield 9) := by decide +kernel
theorem aX3_performAlone_84 : mm_at mX3_performAlone 84 = some (.aload_n 1) := by decide +kernel
theorem aX3_performAlone_85 : mm_at mX3_performAlone 85 = some (.getfield 163) := by decide +kernel
theorem aX3_performAlone_88 : mm_at mX3_performAlone 88 = some (.dup2) := by decide +kernel
theorem aX3_performAlone_89 : mm_at mX3_performAlone 89 = some (.laload) := by decide +kernel
theorem aX3_performAlone_90 : mm_at mX3_performAlone 90 = some (.lload_n 2) := by decide +kernel
theorem aX3_performAlone_91 : mm_at mX3_performAlone 91 = some (.aload_n 1) := by decide +kernel
theorem aX3_performAlone_92 : mm_at mX3_performAlone 92 = some (.getfield 166) := by decide +kernel
theorem aX3_performAlone_95 : mm_at mX3_performAlone 95 = some (.i2l) := by decide +kernel
theorem aX3_performAlone_96 : mm_at mX3_performAlone 96 = some (.ladd) := by decide +kernel
theorem aX3_performAlone_97 : mm_at mX3_performAlone 97 = some (.ladd) := by decide +kernel
theorem aX3_performAlone_98 : mm_at mX3_performAlone 98 = some (.lastore) := by decide +kernel
theorem aX3_performAlone_99 : mm_at mX3_performAlone 99 = some (.iconst 0) := by decide +kernel
theorem aX3_performAlone_100 : mm_at mX3_performAlone 100 = some (.ireturn) := by decide +kernel
theorem aX3_performAlone_101 : mm_at mX3_performAlone 101 = some (.aload_n 0) := by decide +kernel
theorem aX3_performAlone_102 : mm_at mX3_performAlone 102 = some (.getfield 9) := by decide +kernel
theorem aX3_performAlone_105 : mm_at mX3_performAlone 105 = some (.aload_n 1) := by decide +kernel
theorem aX3_performAlone_106 : mm_at mX3_performAlone 106 = some (.getfield 163) := by decide +kernel
theorem aX3_performAlone_109 : mm_at mX3_performAlone 109 = some (.aload_n 0) := by decide +kernel
theorem aX3_performAlone_110 : mm_at mX3_performAlone 110 = some (.getfield 9) := by decide +kernel
theorem aX3_performAlone_113 : mm_at mX3_performAlone 113 = some (.aload_n 1) := by decide +kernel
theorem aX3_performAlone_114 : mm_at mX3_performAlone 114 = some (.getfield 163) := by decide +kernel
theorem aX3_performAlone_117 : mm_at mX3_performAlone 117 = some (.laload) := by decide +kernel
theorem aX3_performAlone_118 : mm_at mX3_performAlone 118 = some (.lload_n 2) := by decide +kernel
theorem aX3_performAlone_119 : mm_at mX3_performAlone 119 = some (.invokestatic 189) := by decide +kernel
theorem aX3_performAlone_122 : mm_at mX3_performAlone 122 = some (.lastore) := by decide +kernel
theorem aX3_performAlone_123 : mm_at mX3_performAlone 123 = some (.iconst 0) := by decide +kernel
theorem aX3_performAlone_124 : mm_at mX3_performAlone 124 = some (.ireturn) := by decide +kernel
theorem aX3_performAlone_125 : mm_at mX3_performAlone 125 = some (.aload_n 0) := by decide +kernel
theorem aX3_performAlone_126 : mm_at mX3_performAlone 126 = some (.getfield 9) := by decide +kernel
theorem aX3_performAlone_129 : mm_at mX3_performAlone 129 = some (.aload_n 1) := by decide +kernel
theorem aX3_performAlone_130 : mm_at mX3_performAlone 130 = some (.getfield 163) := by decide +kernel
theorem aX3_performAlone_133 : mm_at mX3_performAlone 133 = some (.aload_n 1) := by decide +kernel
theorem aX3_performAlone_134 : mm_at mX3_performAlone 134 = some (.getfield 192) := by decide +kernel
theorem aX3_performAlone_137 : mm_at mX3_performAlone 137 = some (.aload_n 1) := by decide +kernel
theorem aX3_performAlone_138 : mm_at mX3_performAlone 138 = some (.getfield 166) := by decide +kernel
theorem aX3_performAlone_141 : mm_at mX3_performAlone 141 = some (.i2l) := by decide +kernel
theorem aX3_performAlone_142 : mm_at mX3_performAlone 142 = some (.ladd) := by decide +kernel
theorem aX3_performAlone_143 : mm_at mX3_performAlone 143 = some (.lastore) := by decide +kernel
theorem aX3_performAlone_144 : mm_at mX3_performAlone 144 = some (.iconst 0) := by decide +kernel
theorem aX3_performAlone_145 : mm_at mX3_performAlone 145 = some (.ireturn) := by decide +kernel
theorem aX3_performAlone_146 : mm_at mX3_performAlone 146 = some (.aload_n 0) := by decide +kernel
theorem aX3_performAlone_147 : mm_at mX3_performAlone 147 = some (.aload_n 1) := by decide +kernel
theorem aX3_performAlone_148 : mm_at mX3_performAlone 148 = some (.getfield 163) := by decide +kernel
theorem aX3_performAlone_151 : mm_at mX3_performAlone 151 = some (.lload_n 2) := by decide +kernel
theorem aX3_performAlone_152 : mm_at mX3_performAlone 152 = some (.invokevirtual 196) := by decide +kernel
theorem aX3_performAlone_155 : mm_at mX3_performAlone 155 = some (.ireturn) := by decide +kernel
theorem aX3_performAlone_156 : mm_at mX3_performAlone 156 = some (.aload_n 0) := by decide +kernel
theorem aX3_performAlone_157 : mm_at mX3_performAlone 157 = some (.lload_n 2) := by decide +kernel
theorem aX3_performAlone_158 : mm_at mX3_performAlone 158 = some (.aload_n 1) := by decide +kernel
theorem aX3_performAlone_159 : mm_at mX3_performAlone 159 = some (.getfield 166) := by decide +kernel
theorem aX3_performAlone_162 : mm_at mX3_performAlone 162 = some (.invokevirtual 199) := by decide +kernel
theorem aX3_performAlone_165 : mm_at mX3_performAlone 165 = some (.ireturn) := by decide +kernel
theorem aX3_performAlone_166 : mm_at mX3_performAlone 166 = some (.aload_n 0) := by decide +kernel
theorem aX3_performAlone_167 : mm_at mX3_performAlone 167 = some (.getfield 22) := by decide +kernel
theorem aX3_performAlone_170 : mm_at mX3_performAlone 170 = some (.aload_n 1) := by decide +kernel
theorem aX3_performAlone_171 : mm_at mX3_performAlone 171 = some (.getfield 163) := by decide +kernel
theorem aX3_performAlone_174 : mm_at mX3_performAlone 174 = some (.lload_n 2) := by decide +kernel
theorem aX3_performAlone_175 : mm_at mX3_performAlone 175 = some (.aload_n 1) := by decide +kernel
theorem aX3_performAlone_176 : mm_at mX3_performAlone 176 = some (.getfield 166) := by decide +kernel
theorem aX3_performAlone_179 : mm_at mX3_performAlone 179 = some (.i2l) := by decide +kernel
theorem aX3_performAlone_180 : mm_at mX3_performAlone 180 = some (.ladd) := by decide +kernel
theorem aX3_performAlone_181 : mm_at mX3_performAlone 181 = some (.invokevirtual 203) := by decide +kernel
theorem aX3_performAlone_184 : mm_at mX3_performAlone 184 = some (.ifCond .eq 7) := by decide +kernel
theorem aX3_performAlone_187 : mm_at mX3_performAlone 187 = some (.iconst 0) := by decide +kernel
theorem aX3_performAlone_188 : mm_at mX3_performAlone 188 = some (.goto 4) := by decide +kernel
theorem aX3_performAlone_191 : mm_at mX3_performAlone 191 = some (.iconst 4) := by decide +kernel
theorem aX3_performAlone_192 : mm_at mX3_performAlone 192 = some (.ireturn) := by decide +kernel
theorem aX3_performAlone_193 : mm_at mX3_performAlone 193 = some (.aload_n 0) := by decide +kernel
theorem aX3_performAlone_194 : mm_at mX3_performAlone 194 = some (.dup) := by decide +kernel
theorem aX3_performAlone_195 : mm_at mX3_performAlone 195 = some (.getfield 118) := by decide +kernel
theorem aX3_performAlone_198 : mm_at mX3_performAlone 198 = some (.iconst 1) := by decide +kernel
theorem aX3_performAlone_199 : mm_at mX3_performAlone 199 = some (.iadd) := by decide +kernel
theorem aX3_performAlone_200 : mm_at mX3_performAlone 200 = some (.putfield 118) := by decide +kernel
theorem aX3_performAlone_203 : mm_at mX3_performAlone 203 = some (.bipush 7) := by decide +kernel
theorem aX3_performAlone_205 : mm_at mX3_performAlone 205 = some (.ireturn) := by decide +kernel
theorem aX3_performAlone_206 : mm_at mX3_performAlone 206 = some (.aload_n 0) := by decide +kernel
theorem aX3_performAlone_207 : mm_at mX3_performAlone 207 = some (.aload_n 1) := by decide +kernel
theorem aX3_performAlone_208 : mm_at mX3_performAlone 208 = some (.getfield 163) := by decide +kernel
theorem aX3_performAlone_211 : mm_at mX3_performAlone 211 = some (.invokevirtual 206) := by decide +kernel
theorem aX3_performAlone_214 : mm_at mX3_performAlone 214 = some (.iconst 0) := by decide +kernel
theorem aX3_performAlone_215 : mm_at mX3_performAlone 215 = some (.ireturn) := by decide +kernel
theorem aX3_performAlone_216 : mm_at mX3_performAlone 216 = some (.aload_n 0) := by decide +kernel
theorem aX3_performAlone_217 : mm_at mX3_performAlone 217 = some (.getfield 15) := by decide +kernel
theorem aX3_performAlone_220 : mm_at mX3_performAlone 220 = some (.aload_n 1) := by decide +kernel
theorem aX3_performAlone_221 : mm_at mX3_performAlone 221 = some (.getfield 166) := by decide +kernel
theorem aX3_performAlone_224 : mm_at mX3_performAlone 224 = some (.aaload) := by decide +kernel
theorem aX3_performAlone_225 : mm_at mX3_performAlone 225 = some (.aload_n 1) := by decide +kernel
theorem aX3_performAlone_226 : mm_at mX3_performAlone 226 = some (.getfield 163) := by decide +kernel
theorem aX3_performAlone_229 : mm_at mX3_performAlone 229 = some (.invokevirtual 67) := by decide +kernel
theorem aX3_performAlone_232 : mm_at mX3_performAlone 232 = some (.bipush (-3)) := by decide +kernel
theorem aX3_performAlone_234 : mm_at mX3_performAlone 234 = some (.if_icmp .ne 7) := by decide +kernel
theorem aX3_performAlone_237 : mm_at mX3_performAlone 237 = some (.iconst 4) := by decide +kernel
theorem aX3_performAlone_238 : mm_at mX3_performAlone 238 = some (.goto 4) := by decide +kernel
theorem aX3_performAlone_241 : mm_at mX3_performAlone 241 = some (.iconst 0) := by decide +kernel
theorem aX3_performAlone_242 : mm_at mX3_performAlone 242 = some (.ireturn) := by decide +kernel
theorem aX3_performAlone_243 : mm_at mX3_performAlone 243 = some (.iconst 0) := by decide +kernel
theorem aX3_performAlone_244 : mm_at mX3_performAlone 244 = some (.ireturn) := by decide +kernel
theorem aX3_shareTally_0 : mm_at mX3_shareTally 0 = some (.lload_n 2) := by decide +kernel
theorem aX3_shareTally_1 : mm_at mX3_shareTally 1 = some (.lconst 0) := by decide +kernel
theorem aX3_shareTally_2 : mm_at mX3_shareTally 2 = some (.lcmp) := by decide +kernel
theorem aX3_shareTally_3 : mm_at mX3_shareTally 3 = some (.ifCond .ne 5) := by decide +kernel
theorem aX3_shareTally_6 : mm_at mX3_shareTally 6 = some (.iconst 1) := by decide +kernel
theorem aX3_shareTally_7 : mm_at mX3_shareTally 7 = some (.ireturn) := by decide +kernel
theorem aX3_shareTally_8 : mm_at mX3_shareTally 8 = some (.aload_n 0) := by decide +kernel
theorem aX3_shareTally_9 : mm_at mX3_shareTally 9 = some (.getfield 9) := by decide +kernel
theorem aX3_shareTally_12 : mm_at mX3_shareTally 12 = some (.iload_n 1) := by decide +kernel
theorem aX3_shareTally_13 : mm_at mX3_shareTally 13 = some (.dup2) := by decide +kernel
theorem aX3_shareTally_14 : mm_at mX3_shareTally 14 = some (.laload) := by decide +kernel
theorem aX3_shareTally_15 : mm_at mX3_shareTally 15 = some (.lload_n 2) := by decide +kernel
theorem aX3_shareTally_16 : mm_at mX3_shareTally 16 = some (.ldiv) := by decide +kernel
theorem aX3_shareTally_17 : mm_at mX3_shareTally 17 = some (.lastore) := by decide +kernel
theorem aX3_shareTally_18 : mm_at mX3_shareTally 18 = some (.iconst 0) := by decide +kernel
theorem aX3_shareTally_19 : mm_at mX3_shareTally 19 = some (.ireturn) := by decide +kernel
theorem aX3_addAtPlace_0 : mm_at mX3_addAtPlace 0 = some (.lload_n 1) := by decide +kernel
theorem aX3_addAtPlace_1 : mm_at mX3_addAtPlace 1 = some (.invokestatic 45) := by decide +kernel
theorem aX3_addAtPlace_4 : mm_at mX3_addAtPlace 4 = some (.ifCond .ne 5) := by decide +kernel
theorem aX3_addAtPlace_7 : mm_at mX3_addAtPlace 7 = some (.iconst 2) := by decide +kernel
theorem aX3_addAtPlace_8 : mm_at mX3_addAtPlace 8 = some (.ireturn) := by decide +kernel
theorem aX3_addAtPlace_9 : mm_at mX3_addAtPlace 9 = some (.aload_n 0) := by decide +kernel
theorem aX3_addAtPlace_10 : mm_at mX3_addAtPlace 10 = some (.getfield 9) := by decide +kernel
theorem aX3_addAtPlace_13 : mm_at mX3_addAtPlace 13 = some (.lload_n 1) := by decide +kernel
theorem aX3_addAtPlace_14 : mm_at mX3_addAtPlace 14 = some (.l2i) := by decide +kernel
theorem aX3_addAtPlace_15 : mm_at mX3_addAtPlace 15 = some (.dup2) := by decide +kernel
theorem aX3_addAtPlace_16 : mm_at mX3_addAtPlace 16 = some (.laload) := by decide +kernel
theorem aX3_addAtPlace_17 : mm_at mX3_addAtPlace 17 = some (.iload_n 3) := by decide +kernel
theorem aX3_addAtPlace_18 : mm_at mX3_addAtPlace 18 = some (.i2l) := by decide +kernel
theorem aX3_addAtPlace_19 : mm_at mX3_addAtPlace 19 = some (.ladd) := by decide +kernel
theorem aX3_addAtPlace_20 : mm_at mX3_addAtPlace 20 = some (.lastore) := by decide +kernel
theorem aX3_addAtPlace_21 : mm_at mX3_addAtPlace 21 = some (.iconst 0) := by decide +kernel
theorem aX3_addAtPlace_22 : mm_at mX3_addAtPlace 22 = some (.ireturn) := by decide +kernel
theorem aX3_removeFromAllLines_0 : mm_at mX3_removeFromAllLines 0 = some (.iconst 0) := by decide +kernel
theorem aX3_removeFromAllLines_1 : mm_at mX3_removeFromAllLines 1 = some (.istore_n 2) := by decide +kernel
theorem aX3_removeFromAllLines_2 : mm_at mX3_removeFromAllLines 2 = some (.iload_n 2) := by decide +kernel
theorem aX3_removeFromAllLines_3 : mm_at mX3_removeFromAllLines 3 = some (.bipush 6) := by decide +kernel
theorem aX3_removeFromAllLines_5 : mm_at mX3_removeFromAllLines 5 = some (.if_icmp .ge 20) := by decide +kernel
theorem aX3_removeFromAllLines_8 : mm_at mX3_removeFromAllLines 8 = some (.aload_n 0) := by decide +kernel
theorem aX3_removeFromAllLines_9 : mm_at mX3_removeFromAllLines 9 = some (.getfield 15) := by decide +kernel
theorem aX3_removeFromAllLines_12 : mm_at mX3_removeFromAllLines 12 = some (.iload_n 2) := by decide +kernel
theorem aX3_removeFromAllLines_13 : mm_at mX3_removeFromAllLines 13 = some (.aaload) := by decide +kernel
theorem aX3_removeFromAllLines_14 : mm_at mX3_removeFromAllLines 14 = some (.iload_n 1) := by decide +kernel
theorem aX3_removeFromAllLines_15 : mm_at mX3_removeFromAllLines 15 = some (.invokevirtual 71) := by decide +kernel
theorem aX3_removeFromAllLines_18 : mm_at mX3_removeFromAllLines 18 = some (.pop) := by decide +kernel
theorem aX3_removeFromAllLines_19 : mm_at mX3_removeFromAllLines 19 = some (.iinc 2 1) := by decide +kernel
theorem aX3_removeFromAllLines_22 : mm_at mX3_removeFromAllLines 22 = some (.goto (-20)) := by decide +kernel
theorem aX3_removeFromAllLines_25 : mm_at mX3_removeFromAllLines 25 = some (.return_) := by decide +kernel
theorem aX3_metByBell_0 : mm_at mX3_metByBell 0 = some (.aload_n 1) := by decide +kernel
theorem aX3_metByBell_1 : mm_at mX3_metByBell 1 = some (.getfield 53) := by decide +kernel
theorem aX3_metByBell_4 : mm_at mX3_metByBell 4 = some (.ifCond .eq 10) := by decide +kernel
theorem aX3_metByBell_7 : mm_at mX3_metByBell 7 = some (.iload_n 2) := by decide +kernel
theorem aX3_metByBell_8 : mm_at mX3_metByBell 8 = some (.invokestatic 210) := by decide +kernel
theorem aX3_metByBell_11 : mm_at mX3_metByBell 11 = some (.ifCond .ne 5) := by decide +kernel
theorem aX3_metByBell_14 : mm_at mX3_metByBell 14 = some (.iload_n 2) := by decide +kernel
theorem aX3_metByBell_15 : mm_at mX3_metByBell 15 = some (.ireturn) := by decide +kernel
theorem aX3_metByBell_16 : mm_at mX3_metByBell 16 = some (.aload_n 0) := by decide +kernel
theorem aX3_metByBell_17 : mm_at mX3_metByBell 17 = some (.dup) := by decide +kernel
theorem aX3_metByBell_18 : mm_at mX3_metByBell 18 = some (.getfield 109) := by decide +kernel
theorem aX3_metByBell_21 : mm_at mX3_metByBell 21 = some (.iconst 1) := by decide +kernel
theorem aX3_metByBell_22 : mm_at mX3_metByBell 22 = some (.iadd) := by decide +kernel
theorem aX3_metByBell_23 : mm_at mX3_metByBell 23 = some (.putfield 109) := by decide +kernel
theorem aX3_metByBell_26 : mm_at mX3_metByBell 26 = some (.aload_n 0) := by decide +kernel
theorem aX3_metByBell_27 : mm_at mX3_metByBell 27 = some (.dup) := by decide +kernel
theorem aX3_metByBell_28 : mm_at mX3_metByBell 28 = some (.getfield 74) := by decide +kernel
theorem aX3_metByBell_31 : mm_at mX3_metByBell 31 = some (.iconst 1) := by decide +kernel
theorem aX3_metByBell_32 : mm_at mX3_metByBell 32 = some (.iadd) := by decide +kernel
theorem aX3_metByBell_33 : mm_at mX3_metByBell 33 = some (.putfield 74) := by decide +kernel
theorem aX3_metByBell_36 : mm_at mX3_metByBell 36 = some (.iconst 0) := by decide +kernel
theorem aX3_metByBell_37 : mm_at mX3_metByBell 37 = some (.ireturn) := by decide +kernel
theorem aX3_metByTry_0 : mm_at mX3_metByTry 0 = some (.iload_n 2) := by decide +kernel
theorem aX3_metByTry_1 : mm_at mX3_metByTry 1 = some (.invokestatic 210) := by decide +kernel
theorem aX3_metByTry_4 : mm_at mX3_metByTry 4 = some (.ifCond .ne 5) := by decide +kernel
theorem aX3_metByTry_7 : mm_at mX3_metByTry 7 = some (.iload_n 2) := by decide +kernel
theorem aX3_metByTry_8 : mm_at mX3_metByTry 8 = some (.ireturn) := by decide +kernel
theorem aX3_metByTry_9 : mm_at mX3_metByTry 9 = some (.aload_n 0) := by decide +kernel
theorem aX3_metByTry_10 : mm_at mX3_metByTry 10 = some (.getfield 9) := by decide +kernel
theorem aX3_metByTry_13 : mm_at mX3_metByTry 13 = some (.aload_n 1) := by decide +kernel
theorem aX3_metByTry_14 : mm_at mX3_metByTry 14 = some (.getfield 166) := by decide +kernel
theorem aX3_metByTry_17 : mm_at mX3_metByTry 17 = some (.dup2) := by decide +kernel
theorem aX3_metByTry_18 : mm_at mX3_metByTry 18 = some (.laload) := by decide +kernel
theorem aX3_metByTry_19 : mm_at mX3_metByTry 19 = some (.lconst 1) := by decide +kernel
theorem aX3_metByTry_20 : mm_at mX3_metByTry 20 = some (.ladd) := by decide +kernel
theorem aX3_metByTry_21 : mm_at mX3_metByTry 21 = some (.lastore) := by decide +kernel
theorem aX3_metByTry_22 : mm_at mX3_metByTry 22 = some (.aload_n 0) := by decide +kernel
theorem aX3_metByTry_23 : mm_at mX3_metByTry 23 = some (.dup) := by decide +kernel
theorem aX3_metByTry_24 : mm_at mX3_metByTry 24 = some (.getfield 115) := by decide +kernel
theorem aX3_metByTry_27 : mm_at mX3_metByTry 27 = some (.iconst 1) := by decide +kernel
theorem aX3_metByTry_28 : mm_at mX3_metByTry 28 = some (.iadd) := by decide +kernel
theorem aX3_metByTry_29 : mm_at mX3_metByTry 29 = some (.putfield 115) := by decide +kernel
theorem aX3_metByTry_32 : mm_at mX3_metByTry 32 = some (.aload_n 0) := by decide +kernel
theorem aX3_metByTry_33 : mm_at mX3_metByTry 33 = some (.dup) := by decide +kernel
theorem aX3_metByTry_34 : mm_at mX3_metByTry 34 = some (.getfield 74) := by decide +kernel
theorem aX3_metByTry_37 : mm_at mX3_metByTry 37 = some (.iconst 1) := by decide +kernel
theorem aX3_metByTry_38 : mm_at mX3_metByTry 38 = some (.iadd) := by decide +kernel
theorem aX3_metByTry_39 : mm_at mX3_metByTry 39 = some (.putfield 74) := by decide +kernel
theorem aX3_metByTry_42 : mm_at mX3_metByTry 42 = some (.iconst 0) := by decide +kernel
theorem aX3_metByTry_43 : mm_at mX3_metByTry 43 = some (.ireturn) := by decide +kernel
theorem aX3_canBeMet_0 : mm_at mX3_canBeMet 0 = some (.iload_n 0) := by decide +kernel
theorem aX3_canBeMet_1 : mm_at mX3_canBeMet 1 = some (.iconst 1) := by decide +kernel
theorem aX3_canBeMet_2 : mm_at mX3_canBeMet 2 = some (.if_icmp .eq 18) := by decide +kernel
theorem aX3_canBeMet_5 : mm_at mX3_canBeMet 5 = some (.iload_n 0) := by decide +kernel
theorem aX3_canBeMet_6 : mm_at mX3_canBeMet 6 = some (.iconst 2) := by decide +kernel
theorem aX3_canBeMet_7 : mm_at mX3_canBeMet 7 = some (.if_icmp .eq 13) := by decide +kernel
theorem aX3_canBeMet_10 : mm_at mX3_canBeMet 10 = some (.iload_n 0) := by decide +kernel
theorem aX3_canBeMet_11 : mm_at mX3_canBeMet 11 = some (.iconst 3) := by decide +kernel
theorem aX3_canBeMet_12 : mm_at mX3_canBeMet 12 = some (.if_icmp .eq 8) := by decide +kernel
theorem aX3_canBeMet_15 : mm_at mX3_canBeMet 15 = some (.iload_n 0) := by decide +kernel
theorem aX3_canBeMet_16 : mm_at mX3_canBeMet 16 = some (.iconst 4) := by decide +kernel
theorem aX3_canBeMet_17 : mm_at mX3_canBeMet 17 = some (.if_icmp .ne 7) := by decide +kernel
theorem aX3_canBeMet_20 : mm_at mX3_canBeMet 20 = some (.iconst 1) := by decide +kernel
theorem aX3_canBeMet_21 : mm_at mX3_canBeMet 21 = some (.goto 4) := by decide +kernel
theorem aX3_canBeMet_24 : mm_at mX3_canBeMet 24 = some (.iconst 0) := by decide +kernel
theorem aX3_canBeMet_25 : mm_at mX3_canBeMet 25 = some (.ireturn) := by decide +kernel
theorem aX3_wellIfStopped_0 : mm_at mX3_wellIfStopped 0 = some (.iload_n 0) := by decide +kernel
theorem aX3_wellIfStopped_1 : mm_at mX3_wellIfStopped 1 = some (.bipush 7) := by decide +kernel
theorem aX3_wellIfStopped_3 : mm_at mX3_wellIfStopped 3 = some (.if_icmp .ne 7) := by decide +kernel
theorem aX3_wellIfStopped_6 : mm_at mX3_wellIfStopped 6 = some (.iconst 0) := by decide +kernel
theorem aX3_wellIfStopped_7 : mm_at mX3_wellIfStopped 7 = some (.goto 4) := by decide +kernel
theorem aX3_wellIfStopped_10 : mm_at mX3_wellIfStopped 10 = some (.iload_n 0) := by decide +kernel
theorem aX3_wellIfStopped_11 : mm_at mX3_wellIfStopped 11 = some (.ireturn) := by decide +kernel
theorem aX4_init_0 : mm_at mX4_init 0 = some (.aload_n 0) := by decide +kernel
theorem aX4_init_1 : mm_at mX4_init 1 = some (.invokespecial 1) := by decide +kernel
theorem aX4_init_4 : mm_at mX4_init 4 = some (.aload_n 0) := by decide +kernel
theorem aX4_init_5 : mm_at mX4_init 5 = some (.bipush 8) := by decide +kernel
theorem aX4_init_7 : mm_at mX4_init 7 = some (.newarray .long) := by decide +kernel
theorem aX4_init_9 : mm_at mX4_init 9 = some (.putfield 7) := by decide +kernel
theorem aX4_init_12 : mm_at mX4_init 12 = some (.aload_n 0) := by decide +kernel
theorem aX4_init_13 : mm_at mX4_init 13 = some (.bipush 6) := by decide +kernel
theorem aX4_init_15 : mm_at mX4_init 15 = some (.newarray .int) := by decide +kernel
theorem aX4_init_17 : mm_at mX4_init 17 = some (.putfield 13) := by decide +kernel
theorem aX4_init_20 : mm_at mX4_init 20 = some (.aload_n 0) := by decide +kernel
theorem aX4_init_21 : mm_at mX4_init 21 = some (.bipush 72) := by decide +kernel
theorem aX4_init_23 : mm_at mX4_init 23 = some (.newarray .int) := by decide +kernel
theorem aX4_init_25 : mm_at mX4_init 25 = some (.putfield 17) := by decide +kernel
theorem aX4_init_28 : mm_at mX4_init 28 = some (.aload_n 0) := by decide +kernel
theorem aX4_init_29 : mm_at mX4_init 29 = some (.bipush 6) := by decide +kernel
theorem aX4_init_31 : mm_at mX4_init 31 = some (.newarray .int) := by decide +kernel
theorem aX4_init_33 : mm_at mX4_init 33 = some (.putfield 20) := by decide +kernel
theorem aX4_init_36 : mm_at mX4_init 36 = some (.aload_n 0) := by decide +kernel
theorem aX4_init_37 : mm_at mX4_init 37 = some (.bipush 40) := by decide +kernel
theorem aX4_init_39 : mm_at mX4_init 39 = some (.newarray .int) := by decide +kernel
theorem aX4_init_41 : mm_at mX4_init 41 = some (.putfield 23) := by decide +kernel
theorem aX4_init_44 : mm_at mX4_init 44 = some (.aload_n 0) := by decide +kernel
theorem aX4_init_45 : mm_at mX4_init 45 = some (.bipush 40) := by decide +kernel
theorem aX4_init_47 : mm_at mX4_init 47 = some (.newarray .int) := by decide +kernel
theorem aX4_init_49 : mm_at mX4_init 49 = some (.putfield 26) := by decide +kernel
theorem aX4_init_52 : mm_at mX4_init 52 = some (.aload_n 0) := by decide +kernel
theorem aX4_init_53 : mm_at mX4_init 53 = some (.bipush 40) := by decide +kernel
theorem aX4_init_55 : mm_at mX4_init 55 = some (.newarray .int) := by decide +kernel
theorem aX4_init_57 : mm_at mX4_init 57 = some (.putfield 29) := by decide +kernel
theorem aX4_init_60 : mm_at mX4_init 60 = some (.aload_n 0) := by decide +kernel
theorem aX4_init_61 : mm_at mX4_init 61 = some (.bipush 40) := by decide +kernel
theorem aX4_init_63 : mm_at mX4_init 63 = some (.newarray .long) := by decide +kernel
theorem aX4_init_65 : mm_at mX4_init 65 = some (.putfield 32) := by decide +kernel
theorem aX4_init_68 : mm_at mX4_init 68 = some (.aload_n 0) := by decide +kernel
theorem aX4_init_69 : mm_at mX4_init 69 = some (.bipush 40) := by decide +kernel
theorem aX4_init_71 : mm_at mX4_init 71 = some (.newarray .int) := by decide +kernel
theorem aX4_init_73 : mm_at mX4_init 73 = some (.putfield 35) := by decide +kernel
theorem aX4_init_76 : mm_at mX4_init 76 = some (.aload_n 0) := by decide +kernel
theorem aX4_init_77 : mm_at mX4_init 77 = some (.bipush 40) := by decide +kernel
theorem aX4_init_79 : mm_at mX4_init 79 = some (.newarray .int) := by decide +kernel
theorem aX4_init_81 : mm_at mX4_init 81 = some (.putfield 38) := by decide +kernel
theorem aX4_init_84 : mm_at mX4_init 84 = some (.aload_n 0) := by decide +kernel
theorem aX4_init_85 : mm_at mX4_init 85 = some (.bipush 40) := by decide +kernel
theorem aX4_init_87 : mm_at mX4_init 87 = some (.newarray .int) := by decide +kernel
theorem aX4_init_89 : mm_at mX4_init 89 = some (.putfield 41) := by decide +kernel
theorem aX4_init_92 : mm_at mX4_init 92 = some (.aload_n 0) := by decide +kernel
theorem aX4_init_93 : mm_at mX4_init 93 = some (.bipush 40) := by decide +kernel
theorem aX4_init_95 : mm_at mX4_init 95 = some (.newarray .int) := by decide +kernel
theorem aX4_init_97 : mm_at mX4_init 97 = some (.putfield 44) := by decide +kernel
theorem aX4_init_100 : mm_at mX4_init 100 = some (.aload_n 0) := by decide +kernel
theorem aX4_init_101 : mm_at mX4_init 101 = some (.bipush 40) := by decide +kernel
theorem aX4_init_103 : mm_at mX4_init 103 = some (.newarray .int) := by decide +kernel
theorem aX4_init_105 : mm_at mX4_init 105 = some (.putfield 47) := by decide +kernel
theorem aX4_init_108 : mm_at mX4_init 108 = some (.aload_n 0) := by decide +kernel
theorem aX4_init_109 : mm_at mX4_init 109 = some (.bipush 20) := by decide +kernel
theorem aX4_init_111 : mm_at mX4_init 111 = some (.newarray .int) := by decide +kernel
theorem aX4_init_113 : mm_at mX4_init 113 = some (.putfield 50) := by decide +kernel
theorem aX4_init_116 : mm_at mX4_init 116 = some (.aload_n 0) := by decide +kernel
theorem aX4_init_117 : mm_at mX4_init 117 = some (.bipush 20) := by decide +kernel
theorem aX4_init_119 : mm_at mX4_init 119 = some (.newarray .long) := by decide +kernel
theorem aX4_init_121 : mm_at mX4_init 121 = some (.putfield 53) := by decide +kernel
theorem aX4_init_124 : mm_at mX4_init 124 = some (.aload_n 0) := by decide +kernel
theorem aX4_init_125 : mm_at mX4_init 125 = some (.sipush 600) := by decide +kernel
theorem aX4_init_128 : mm_at mX4_init 128 = some (.newarray .int) := by decide +kernel
theorem aX4_init_130 : mm_at mX4_init 130 = some (.putfield 56) := by decide +kernel
theorem aX4_init_133 : mm_at mX4_init 133 = some (.aload_n 0) := by decide +kernel
theorem aX4_init_134 : mm_at mX4_init 134 = some (.sipush 600) := by decide +kernel
theorem aX4_init_137 : mm_at mX4_init 137 = some (.newarray .int) := by decide +kernel
theorem aX4_init_139 : mm_at mX4_init 139 = some (.putfield 59) := by decide +kernel
theorem aX4_init_142 : mm_at mX4_init 142 = some (.aload_n 0) := by decide +kernel
theorem aX4_init_143 : mm_at mX4_init 143 = some (.sipush 600) := by decide +kernel
theorem aX4_init_146 : mm_at mX4_init 146 = some (.newarray .long) := by decide +kernel
theorem aX4_init_148 : mm_at mX4_init 148 = some (.putfield 62) := by decide +kernel
theorem aX4_init_151 : mm_at mX4_init 151 = some (.aload_n 0) := by decide +kernel
theorem aX4_init_152 : mm_at mX4_init 152 = some (.sipush 600) := by decide +kernel
theorem aX4_init_155 : mm_at mX4_init 155 = some (.newarray .int) := by decide +kernel
theorem aX4_init_157 : mm_at mX4_init 157 = some (.putfield 65) := by decide +kernel
theorem aX4_init_160 : mm_at mX4_init 160 = some (.aload_n 0) := by decide +kernel
theorem aX4_init_161 : mm_at mX4_init 161 = some (.sipush 600) := by decide +kernel
theorem aX4_init_164 : mm_at mX4_init 164 = some (.newarray .int) := by decide +kernel
theorem aX4_init_166 : mm_at mX4_init 166 = some (.putfield 68) := by decide +kernel
theorem aX4_init_169 : mm_at mX4_init 169 = some (.aload_n 0) := by decide +kernel
theorem aX4_init_170 : mm_at mX4_init 170 = some (.sipush 7200) := by decide +kernel
theorem aX4_init_173 : mm_at mX4_init 173 = some (.newarray .int) := by decide +kernel
theorem aX4_init_175 : mm_at mX4_init 175 = some (.putfield 71) := by decide +kernel
theorem aX4_init_178 : mm_at mX4_init 178 = some (.aload_n 0) := by decide +kernel
theorem aX4_init_179 : mm_at mX4_init 179 = some (.bipush 10) := by decide +kernel
theorem aX4_init_181 : mm_at mX4_init 181 = some (.newarray .int) := by decide +kernel
theorem aX4_init_183 : mm_at mX4_init 183 = some (.putfield 74) := by decide +kernel
theorem aX4_init_186 : mm_at mX4_init 186 = some (.aload_n 0) := by decide +kernel
theorem aX4_init_187 : mm_at mX4_init 187 = some (.iconst 0) := by decide +kernel
theorem aX4_init_188 : mm_at mX4_init 188 = some (.iconst 0) := by decide +kernel
theorem aX4_init_189 : mm_at mX4_init 189 = some (.iconst 0) := by decide +kernel
theorem aX4_init_190 : mm_at mX4_init 190 = some (.invokevirtual 77) := by decide +kernel
theorem aX4_init_193 : mm_at mX4_init 193 = some (.aload_n 0) := by decide +kernel
theorem aX4_init_194 : mm_at mX4_init 194 = some (.bipush 7) := by decide +kernel
theorem aX4_init_196 : mm_at mX4_init 196 = some (.iconst 0) := by decide +kernel
theorem aX4_init_197 : mm_at mX4_init 197 = some (.iconst 0) := by decide +kernel
theorem aX4_init_198 : mm_at mX4_init 198 = some (.invokevirtual 77) := by decide +kernel
theorem aX4_init_201 : mm_at mX4_init 201 = some (.return_) := by decide +kernel
theorem aX4_in_0 : mm_at mX4_in 0 = some (.lload_n 0) := by decide +kernel
theorem aX4_in_1 : mm_at mX4_in 1 = some (.lload_n 2) := by decide +kernel
theorem aX4_in_2 : mm_at mX4_in 2 = some (.lcmp) := by decide +kernel
theorem aX4_in_3 : mm_at mX4_in 3 = some (.ifCond .lt 14) := by decide +kernel
theorem aX4_in_6 : mm_at mX4_in 6 = some (.lload_n 0) := by decide +kernel
theorem aX4_in_7 : mm_at mX4_in 7 = some (.lload 4) := by decide +kernel
theorem aX4_in_9 : mm_at mX4_in 9 = some (.lcmp) := by decide +kernel
theorem aX4_in_10 : mm_at mX4_in 10 = some (.ifCond .gt 7) := by decide +kernel
theorem aX4_in_13 : mm_at mX4_in 13 = some (.iconst 1) := by decide +kernel
theorem aX4_in_14 : mm_at mX4_in 14 = some (.goto 4) := by decide +kernel
theorem aX4_in_17 : mm_at mX4_in 17 = some (.iconst 0) := by decide +kernel
theorem aX4_in_18 : mm_at mX4_in 18 = some (.ireturn) := by decide +kernel
theorem aX4_isHearer_0 : mm_at mX4_isHearer 0 = some (.iload_n 1) := by decide +kernel
theorem aX4_isHearer_1 : mm_at mX4_isHearer 1 = some (.i2l) := by decide +kernel
theorem aX4_isHearer_2 : mm_at mX4_isHearer 2 = some (.lconst 0) := by decide +kernel
theorem aX4_isHearer_3 : mm_at mX4_isHearer 3 = some (.aload_n 0) := by decide +kernel
theorem aX4_isHearer_4 : mm_at mX4_isHearer 4 = some (.getfield 81) := by decide +kernel
theorem aX4_isHearer_7 : mm_at mX4_isHearer 7 = some (.iconst 1) := by decide +kernel
theorem aX4_isHearer_8 : mm_at mX4_isHearer 8 = some (.isub) := by decide +kernel
theorem aX4_isHearer_9 : mm_at mX4_isHearer 9 = some (.i2l) := by decide +kernel
theorem aX4_isHearer_10 : mm_at mX4_isHearer 10 = some (.invokestatic 85) := by decide +kernel
theorem aX4_isHearer_13 : mm_at mX4_isHearer 13 = some (.ireturn) := by decide +kernel
theorem aX4_isBell_0 : mm_at mX4_isBell 0 = some (.iload_n 0) := by decide +kernel
theorem aX4_isBell_1 : mm_at mX4_isBell 1 = some (.i2l) := by decide +kernel
theorem aX4_isBell_2 : mm_at mX4_isBell 2 = some (.lconst 0) := by decide +kernel
theorem aX4_isBell_3 : mm_at mX4_isBell 3 = some (.ldc2_w 89) := by decide +kernel
theorem aX4_isBell_6 : mm_at mX4_isBell 6 = some (.invokestatic 85) := by decide +kernel
theorem aX4_isBell_9 : mm_at mX4_isBell 9 = some (.ireturn) := by decide +kernel
theorem aX4_isTally_0 : mm_at mX4_isTally 0 = some (.iload_n 0) := by decide +kernel
theorem aX4_isTally_1 : mm_at mX4_isTally 1 = some (.i2l) := by decide +kernel
theorem aX4_isTally_2 : mm_at mX4_isTally 2 = some (.lconst 0) := by decide +kernel
theorem aX4_isTally_3 : mm_at mX4_isTally 3 = some (.ldc2_w 91) := by decide +kernel
theorem aX4_isTally_6 : mm_at mX4_isTally 6 = some (.invokestatic 85) := by decide +kernel
theorem aX4_isTally_9 : mm_at mX4_isTally 9 = some (.ireturn) := by decide +kernel
theorem aX4_tally_0 : mm_at mX4_tally 0 = some (.iload_n 1) := by decide +kernel
theorem aX4_tally_1 : mm_at mX4_tally 1 = some (.invokestatic 93) := by decide +kernel
theorem aX4_tally_4 : mm_at mX4_tally 4 = some (.ifCond .ne 6) := by decide +kernel
theorem aX4_tally_7 : mm_at mX4_tally 7 = some (.bipush (-2)) := by decide +kernel
theorem aX4_tally_9 : mm_at mX4_tally 9 = some (.ireturn) := by decide +kernel
theorem aX4_tally_10 : mm_at mX4_tally 10 = some (.aload_n 0) := by decide +kernel
theorem aX4_tally_11 : mm_at mX4_tally 11 = some (.getfield 7) := by decide +kernel
theorem aX4_tally_14 : mm_at mX4_tally 14 = some (.iload_n 1) := by decide +kernel
theorem aX4_tally_15 : mm_at mX4_tally 15 = some (.lload_n 2) := by decide +kernel
theorem aX4_tally_16 : mm_at mX4_tally 16 = some (.lastore) := by decide +kernel
theorem aX4_tally_17 : mm_at mX4_tally 17 = some (.iconst 1) := by decide +kernel
theorem aX4_tally_18 : mm_at mX4_tally 18 = some (.ireturn) := by decide +kernel
theorem aX4_way_0 : mm_at mX4_way 0 = some (.iload_n 1) := by decide +kernel
theorem aX4_way_1 : mm_at mX4_way 1 = some (.invokestatic 97) := by decide +kernel
theorem aX4_way_4 : mm_at mX4_way 4 = some (.ifCond .eq 13) := by decide +kernel
theorem aX4_way_7 : mm_at mX4_way 7 = some (.iload_n 2) := by decide +kernel
theorem aX4_way_8 : mm_at mX4_way 8 = some (.i2l) := by decide +kernel
theorem aX4_way_9 : mm_at mX4_way 9 = some (.lconst 0) := by decide +kernel
theorem aX4_way_10 : mm_at mX4_way 10 = some (.lconst 1) := by decide +kernel
theorem aX4_way_11 : mm_at mX4_way 11 = some (.invokestatic 85) := by decide +kernel
theorem aX4_way_14 : mm_at mX4_way 14 = some (.ifCond .ne 6) := by decide +kernel
theorem aX4_way_17 : mm_at mX4_way 17 = some (.bipush (-2)) := by decide +kernel
theorem aX4_way_19 : mm_at mX4_way 19 = some (.ireturn) := by decide +kernel
theorem aX4_way_20 : mm_at mX4_way 20 = some (.aload_n 0) := by decide +kernel
theorem aX4_way_21 : mm_at mX4_way 21 = some (.getfield 13) := by decide +kernel
theorem aX4_way_24 : mm_at mX4_way 24 = some (.iload_n 1) := by decide +kernel
theorem aX4_way_25 : mm_at mX4_way 25 = some (.iaload) := by decide +kernel
theorem aX4_way_26 : mm_at mX4_way 26 = some (.istore_n 3) := by decide +kernel
theorem aX4_way_27 : mm_at mX4_way 27 = some (.aload_n 0) := by decide +kernel
theorem aX4_way_28 : mm_at mX4_way 28 = some (.getfield 13) := by decide +kernel
theorem aX4_way_31 : mm_at mX4_way 31 = some (.iload_n 1) := by decide +kernel
theorem aX4_way_32 : mm_at mX4_way 32 = some (.iload_n 2) := by decide +kernel
theorem aX4_way_33 : mm_at mX4_way 33 = some (.iastore) := by decide +kernel
theorem aX4_way_34 : mm_at mX4_way 34 = some (.iload_n 3) := by decide +kernel
theorem aX4_way_35 : mm_at mX4_way 35 = some (.ireturn) := by decide +kernel
theorem aX4_make_0 : mm_at mX4_make 0 = some (.aload_n 0) := by decide +kernel
theorem aX4_make_1 : mm_at mX4_make 1 = some (.getfield 81) := by decide +kernel
theorem aX4_make_4 : mm_at mX4_make 4 = some (.istore 4) := by decide +kernel
theorem aX4_make_6 : mm_at mX4_make 6 = some (.aload_n 0) := by decide +kernel
theorem aX4_make_7 : mm_at mX4_make 7 = some (.getfield 23) := by decide +kernel
theorem aX4_make_10 : mm_at mX4_make 10 = some (.iload 4) := by decide +kernel
theorem aX4_make_12 : mm_at mX4_make 12 = some (.iload_n 1) := by decide +kernel
theorem aX4_make_13 : mm_at mX4_make 13 = some (.iastore) := by decide +kernel
theorem aX4_make_14 : mm_at mX4_make 14 = some (.aload_n 0) := by decide +kernel
theorem aX4_make_15 : mm_at mX4_make 15 = some (.getfield 26) := by decide +kernel
theorem aX4_make_18 : mm_at mX4_make 18 = some (.iload 4) := by decide +kernel
theorem aX4_make_20 : mm_at mX4_make 20 = some (.iload_n 2) := by decide +kernel
theorem aX4_make_21 : mm_at mX4_make 21 = some (.iastore) := by decide +kernel
theorem aX4_make_22 : mm_at mX4_make 22 = some (.aload_n 0) := by decide +kernel
theorem aX4_make_23 : mm_at mX4_make 23 = some (.getfield 29) := by decide +kernel
theorem aX4_make_26 : mm_at mX4_make 26 = some (.iload 4) := by decide +kernel
theorem aX4_make_28 : mm_at mX4_make 28 = some (.iload_n 3) := by decide +kernel
theorem aX4_make_29 : mm_at mX4_make 29 = some (.iastore) := by decide +kernel
theorem aX4_make_30 : mm_at mX4_make 30 = some (.aload_n 0) := by decide +kernel
theorem aX4_make_31 : mm_at mX4_make 31 = some (.getfield 32) := by decide +kernel
theorem aX4_make_34 : mm_at mX4_make 34 = some (.iload 4) := by decide +kernel
theorem aX4_make_36 : mm_at mX4_make 36 = some (.iload_n 1) := by decide +kernel
theorem aX4_make_37 : mm_at mX4_make 37 = some (.iconst 2) := by decide +kernel
theorem aX4_make_38 : mm_at mX4_make 38 = some (.if_icmp .ne 12) := by decide +kernel
theorem aX4_make_41 : mm_at mX4_make 41 = some (.aload_n 0) := by decide +kernel
theorem aX4_make_42 : mm_at mX4_make 42 = some (.getfield 7) := by decide +kernel
theorem aX4_make_45 : mm_at mX4_make 45 = some (.iload_n 2) := by decide +kernel
theorem aX4_make_46 : mm_at mX4_make 46 = some (.laload) := by decide +kernel
theorem aX4_make_47 : mm_at mX4_make 47 = some (.goto 4) := by decide +kernel
theorem aX4_make_50 : mm_at mX4_make 50 = some (.lconst 0) := by decide +kernel
theorem aX4_make_51 : mm_at mX4_make 51 = some (.lastore) := by decide +kernel
theorem aX4_make_52 : mm_at mX4_make 52 = some (.aload_n 0) := by decide +kernel
theorem aX4_make_53 : mm_at mX4_make 53 = some (.getfield 35) := by decide +kernel
theorem aX4_make_56 : mm_at mX4_make 56 = some (.iload 4) := by decide +kernel
theorem aX4_make_58 : mm_at mX4_make 58 = some (.iload_n 1) := by decide +kernel
theorem aX4_make_59 : mm_at mX4_make 59 = some (.i2l) := by decide +kernel
theorem aX4_make_60 : mm_at mX4_make 60 = some (.ldc2_w 100) := by decide +kernel
theorem aX4_make_63 : mm_at mX4_make 63 = some (.ldc2_w 102) := by decide +kernel
theorem aX4_make_66 : mm_at mX4_make 66 = some (.invokestatic 85) := by decide +kernel
theorem aX4_make_69 : mm_at mX4_make 69 = some (.ifCond .eq 12) := by decide +kernel
theorem aX4_make_72 : mm_at mX4_make 72 = some (.aload_n 0) := by decide +kernel
theorem aX4_make_73 : mm_at mX4_make 73 = some (.getfield 47) := by decide +kernel
theorem aX4_make_76 : mm_at mX4_make 76 = some (.iload_n 2) := by decide +kernel
theorem aX4_make_77 : mm_at mX4_make 77 = some (.iaload) := by decide +kernel
theorem aX4_make_78 : mm_at mX4_make 78 = some (.goto 4) := by decide +kernel
theorem aX4_make_81 : mm_at mX4_make 81 = some (.iconst (-1)) := by decide +kernel
theorem aX4_make_82 : mm_at mX4_make 82 = some (.iastore) := by decide +kernel
theorem aX4_make_83 : mm_at mX4_make 83 = some (.aload_n 0) := by decide +kernel
theorem aX4_make_84 : mm_at mX4_make 84 = some (.getfield 38) := by decide +kernel
theorem aX4_make_87 : mm_at mX4_make 87 = some (.iload 4) := by decide +kernel
theorem aX4_make_89 : mm_at mX4_make 89 = some (.iload_n 1) := by decide +kernel
theorem aX4_make_90 : mm_at mX4_make 90 = some (.bipush 11) := by decide +kernel
theorem aX4_make_92 : mm_at mX4_make 92 = some (.if_icmp .ne 12) := by decide +kernel
theorem aX4_make_95 : mm_at mX4_make 95 = some (.aload_n 0) := by decide +kernel
theorem aX4_make_96 : mm_at mX4_make 96 = some (.getfield 47) := by decide +kernel
theorem aX4_make_99 : mm_at mX4_make 99 = some (.iload_n 3) := by decide +kernel
theorem aX4_make_100 : mm_at mX4_make 100 = some (.iaload) := by decide +kernel
theorem aX4_make_101 : mm_at mX4_make 101 = some (.goto 4) := by decide +kernel
theorem aX4_make_104 : mm_at mX4_make 104 = some (.iconst (-1)) := by decide +kernel
theorem aX4_make_105 : mm_at mX4_make 105 = some (.iastore) := by decide +kernel
theorem aX4_make_106 : mm_at mX4_make 106 = some (.aload_n 0) := by decide +kernel
theorem aX4_make_107 : mm_at mX4_make 107 = some (.getfield 41) := by decide +kernel
theorem aX4_make_110 : mm_at mX4_make 110 = some (.iload 4) := by decide +kernel
theorem aX4_make_112 : mm_at mX4_make 112 = some (.iconst 0) := by decide +kernel
theorem aX4_make_113 : mm_at mX4_make 113 = some (.iastore) := by decide +kernel
theorem aX4_make_114 : mm_at mX4_make 114 = some (.aload_n 0) := by decide +kernel
theorem aX4_make_115 : mm_at mX4_make 115 = some (.getfield 44) := by decide +kernel
theorem aX4_make_118 : mm_at mX4_make 118 = some (.iload 4) := by decide +kernel
theorem aX4_make_120 : mm_at mX4_make 120 = some (.iconst 0) := by decide +kernel
theorem aX4_make_121 : mm_at mX4_make 121 = some (.iastore) := by decide +kernel
theorem aX4_make_122 : mm_at mX4_make 122 = some (.aload_n 0) := by decide +kernel
theorem aX4_make_123 : mm_at mX4_make 123 = some (.getfield 47) := by decide +kernel
theorem aX4_make_126 : mm_at mX4_make 126 = some (.iload 4) := by decide +kernel
theorem aX4_make_128 : mm_at mX4_make 128 = some (.iload 4) := by decide +kernel
theorem aX4_make_130 : mm_at mX4_make 130 = some (.iastore) := by decide +kernel
theorem aX4_make_131 : mm_at mX4_make 131 = some (.aload_n 0) := by decide +kernel
theorem aX4_make_132 : mm_at mX4_make 132 = some (.dup) := by decide +kernel
theorem aX4_make_133 : mm_at mX4_make 133 = some (.getfield 81) := by decide +kernel
theorem aX4_make_136 : mm_at mX4_make 136 = some (.iconst 1) := by decide +kernel
theorem aX4_make_137 : mm_at mX4_make 137 = some (.iadd) := by decide +kernel
theorem aX4_make_138 : mm_at mX4_make 138 = some (.putfield 81) := by decide +kernel
theorem aX4_make_141 : mm_at mX4_make 141 = some (.aload_n 0) := by decide +kernel
theorem aX4_make_142 : mm_at mX4_make 142 = some (.getfield 74) := by decide +kernel
theorem aX4_make_145 : mm_at mX4_make 145 = some (.iconst 0) := by decide +kernel
theorem aX4_make_146 : mm_at mX4_make 146 = some (.aload_n 0) := by decide +kernel
theorem aX4_make_147 : mm_at mX4_make 147 = some (.getfield 81) := by decide +kernel
theorem aX4_make_150 : mm_at mX4_make 150 = some (.iastore) := by decide +kernel
theorem aX4_make_151 : mm_at mX4_make 151 = some (.return_) := by decide +kernel
theorem aX4_hearer_0 : mm_at mX4_hearer 0 = some (.iload_n 1) := by decide +kernel
theorem aX4_hearer_1 : mm_at mX4_hearer 1 = some (.i2l) := by decide +kernel
theorem aX4_hearer_2 : mm_at mX4_hearer 2 = some (.lconst 0) := by decide +kernel
theorem aX4_hearer_3 : mm_at mX4_hearer 3 = some (.ldc2_w 104) := by decide +kernel
theorem aX4_hearer_6 : mm_at mX4_hearer 6 = some (.invokestatic 85) := by decide +kernel
theorem aX4_hearer_9 : mm_at mX4_hearer 9 = some (.ifCond .ne 6) := by decide +kernel
theorem aX4_hearer_12 : mm_at mX4_hearer 12 = some (.bipush (-2)) := by decide +kernel
theorem aX4_hearer_14 : mm_at mX4_hearer 14 = some (.ireturn) := by decide +kernel
theorem aX4_hearer_15 : mm_at mX4_hearer 15 = some (.iload_n 1) := by decide +kernel
theorem aX4_hearer_16 : mm_at mX4_hearer 16 = some (.iconst 4) := by decide +kernel
theorem aX4_hearer_17 : mm_at mX4_hearer 17 = some (.if_icmp .ge 10) := by decide +kernel
theorem aX4_hearer_20 : mm_at mX4_hearer 20 = some (.iload_n 2) := by decide +kernel
theorem aX4_hearer_21 : mm_at mX4_hearer 21 = some (.invokestatic 93) := by decide +kernel
theorem aX4_hearer_24 : mm_at mX4_hearer 24 = some (.ifCond .eq 22) := by decide +kernel
theorem aX4_hearer_27 : mm_at mX4_hearer 27 = some (.iload_n 1) := by decide +kernel
theorem aX4_hearer_28 : mm_at mX4_hearer 28 = some (.bipush 10) := by decide +kernel
theorem aX4_hearer_30 : mm_at mX4_hearer 30 = some (.if_icmp .eq 9) := by decide +kernel
theorem aX4_hearer_33 : mm_at mX4_hearer 33 = some (.iload_n 1) := by decide +kernel
theorem aX4_hearer_34 : mm_at mX4_hearer 34 = some (.bipush 12) := by decide +kernel
theorem aX4_hearer_36 : mm_at mX4_hearer 36 = some (.if_icmp .ne 13) := by decide +kernel
theorem aX4_hearer_39 : mm_at mX4_hearer 39 = some (.iload_n 3) := by decide +kernel
theorem aX4_hearer_40 : mm_at mX4_hearer 40 = some (.invokestatic 93) := by decide +kernel
theorem aX4_hearer_43 : mm_at mX4_hearer 43 = some (.ifCond .ne 6) := by decide +kernel
theorem aX4_hearer_46 : mm_at mX4_hearer 46 = some (.bipush (-2)) := by decide +kernel
theorem aX4_hearer_48 : mm_at mX4_hearer 48 = some (.ireturn) := by decide +kernel
theorem aX4_hearer_49 : mm_at mX4_hearer 49 = some (.iload_n 1) := by decide +kernel
theorem aX4_hearer_50 : mm_at mX4_hearer 50 = some (.iconst 5) := by decide +kernel
theorem aX4_hearer_51 : mm_at mX4_hearer 51 = some (.if_icmp .eq 9) := by decide +kernel
theorem aX4_hearer_54 : mm_at mX4_hearer 54 = some (.iload_n 1) := by decide +kernel
theorem aX4_hearer_55 : mm_at mX4_hearer 55 = some (.bipush 6) := by decide +kernel
theorem aX4_hearer_57 : mm_at mX4_hearer 57 = some (.if_icmp .ne 10) := by decide +kernel
theorem aX4_hearer_60 : mm_at mX4_hearer 60 = some (.iload_n 2) := by decide +kernel
theorem aX4_hearer_61 : mm_at mX4_hearer 61 = some (.invokestatic 97) := by decide +kernel
theorem aX4_hearer_64 : mm_at mX4_hearer 64 = some (.ifCond .eq 16) := by decide +kernel
theorem aX4_hearer_67 : mm_at mX4_hearer 67 = some (.iload_n 1) := by decide +kernel
theorem aX4_hearer_68 : mm_at mX4_hearer 68 = some (.bipush 14) := by decide +kernel
theorem aX4_hearer_70 : mm_at mX4_hearer 70 = some (.if_icmp .ne 13) := by decide +kernel
theorem aX4_hearer_73 : mm_at mX4_hearer 73 = some (.iload_n 3) := by decide +kernel
theorem aX4_hearer_74 : mm_at mX4_hearer 74 = some (.invokestatic 97) := by decide +kernel
theorem aX4_hearer_77 : mm_at mX4_hearer 77 = some (.ifCond .ne 6) := by decide +kernel
theorem aX4_hearer_80 : mm_at mX4_hearer 80 = some (.bipush (-2)) := by decide +kernel
theorem aX4_hearer_82 : mm_at mX4_hearer 82 = some (.ireturn) := by decide +kernel
theorem aX4_hearer_83 : mm_at mX4_hearer 83 = some (.iload_n 1) := by decide +kernel
theorem aX4_hearer_84 : mm_at mX4_hearer 84 = some (.bipush 8) := by decide +kernel
theorem aX4_hearer_86 : mm_at mX4_hearer 86 = some (.if_icmp .lt 11) := by decide +kernel
theorem aX4_hearer_89 : mm_at mX4_hearer 89 = some (.aload_n 0) := by decide +kernel
theorem aX4_hearer_90 : mm_at mX4_hearer 90 = some (.iload_n 2) := by decide +kernel
theorem aX4_hearer_91 : mm_at mX4_hearer 91 = some (.invokevirtual 106) := by decide +kernel
theorem aX4_hearer_94 : mm_at mX4_hearer 94 = some (.ifCond .eq 17) := by decide +kernel
theorem aX4_hearer_97 : mm_at mX4_hearer 97 = some (.iload_n 1) := by decide +kernel
theorem aX4_hearer_98 : mm_at mX4_hearer 98 = some (.bipush 11) := by decide +kernel
theorem aX4_hearer_100 : mm_at mX4_hearer 100 = some (.if_icmp .ne 14) := by decide +kernel
theorem aX4_hearer_103 : mm_at mX4_hearer 103 = some (.aload_n 0) := by decide +kernel
theorem aX4_hearer_104 : mm_at mX4_hearer 104 = some (.iload_n 3) := by decide +kernel
theorem aX4_hearer_105 : mm_at mX4_hearer 105 = some (.invokevirtual 106) := by decide +kernel
theorem aX4_hearer_108 : mm_at mX4_hearer 108 = some (.ifCond .ne 6) := by decide +kernel
theorem aX4_hearer_111 : mm_at mX4_hearer 111 = some (.bipush (-2)) := by decide +kernel
theorem aX4_hearer_113 : mm_at mX4_hearer 113 = some (.ireturn) := by decide +kernel
theorem aX4_hearer_114 : mm_at mX4_hearer 114 = some (.aload_n 0) := by decide +kernel
theorem aX4_hearer_115 : mm_at mX4_hearer 115 = some (.getfield 81) := by decide +kernel
theorem aX4_hearer_118 : mm_at mX4_hearer 118 = some (.bipush 40) := by decide +kernel
theorem aX4_hearer_120 : mm_at mX4_hearer 120 = some (.if_icmp .ne 6) := by decide +kernel
theorem aX4_hearer_123 : mm_at mX4_hearer 123 = some (.bipush (-3)) := by decide +kernel
theorem aX4_hearer_125 : mm_at mX4_hearer 125 = some (.ireturn) := by decide +kernel
theorem aX4_hearer_126 : mm_at mX4_hearer 126 = some (.aload_n 0) := by decide +kernel
theorem aX4_hearer_127 : mm_at mX4_hearer 127 = some (.iload_n 1) := by decide +kernel
theorem aX4_hearer_128 : mm_at mX4_hearer 128 = some (.iload_n 2) := by decide +kernel
theorem aX4_hearer_129 : mm_at mX4_hearer 129 = some (.iload_n 3) := by decide +kernel
theorem aX4_hearer_130 : mm_at mX4_hearer 130 = some (.invokevirtual 77) := by decide +kernel
theorem aX4_hearer_133 : mm_at mX4_hearer 133 = some (.aload_n 0) := by decide +kernel
theorem aX4_hearer_134 : mm_at mX4_hearer 134 = some (.getfield 81) := by decide +kernel
theorem aX4_hearer_137 : mm_at mX4_hearer 137 = some (.iconst 1) := by decide +kernel
theorem aX4_hearer_138 : mm_at mX4_hearer 138 = some (.isub) := by decide +kernel
theorem aX4_hearer_139 : mm_at mX4_hearer 139 = some (.ireturn) := by decide +kernel
theorem aX4_placeOf_0 : mm_at mX4_placeOf 0 = some (.iconst (-1)) := by decide +kernel
theorem aX4_placeOf_1 : mm_at mX4_placeOf 1 = some (.istore_n 3) := by decide +kernel
theorem aX4_placeOf_2 : mm_at mX4_placeOf 2 = some (.iconst 0) := by decide +kernel
theorem aX4_placeOf_3 : mm_at mX4_placeOf 3 = some (.istore 4) := by decide +kernel
theorem aX4_placeOf_5 : mm_at mX4_placeOf 5 = some (.iload 4) := by decide +kernel
theorem aX4_placeOf_7 : mm_at mX4_placeOf 7 = some (.aload_n 0) := by decide +kernel
theorem aX4_placeOf_8 : mm_at mX4_placeOf 8 = some (.getfield 20) := by decide +kernel
theorem aX4_placeOf_11 : mm_at mX4_placeOf 11 = some (.iload_n 2) := by decide +kernel
theorem aX4_placeOf_12 : mm_at mX4_placeOf 12 = some (.iaload) := by decide +kernel
theorem aX4_placeOf_13 : mm_at mX4_placeOf 13 = some (.if_icmp .ge 32) := by decide +kernel
theorem aX4_placeOf_16 : mm_at mX4_placeOf 16 = some (.aload_n 0) := by decide +kernel
theorem aX4_placeOf_17 : mm_at mX4_placeOf 17 = some (.getfield 17) := by decide +kernel
theorem aX4_placeOf_20 : mm_at mX4_placeOf 20 = some (.bipush 12) := by decide +kernel
theorem aX4_placeOf_22 : mm_at mX4_placeOf 22 = some (.iload_n 2) := by decide +kernel
theorem aX4_placeOf_23 : mm_at mX4_placeOf 23 = some (.imul) := by decide +kernel
theorem aX4_placeOf_24 : mm_at mX4_placeOf 24 = some (.iload 4) := by decide +kernel
theorem aX4_placeOf_26 : mm_at mX4_placeOf 26 = some (.iadd) := by decide +kernel
theorem aX4_placeOf_27 : mm_at mX4_placeOf 27 = some (.iaload) := by decide +kernel
theorem aX4_placeOf_28 : mm_at mX4_placeOf 28 = some (.iload_n 1) := by decide +kernel
theorem aX4_placeOf_29 : mm_at mX4_placeOf 29 = some (.if_icmp .ne 8) := by decide +kernel
theorem aX4_placeOf_32 : mm_at mX4_placeOf 32 = some (.iload 4) := by decide +kernel
theorem aX4_placeOf_34 : mm_at mX4_placeOf 34 = some (.goto 4) := by decide +kernel
theorem aX4_placeOf_37 : mm_at mX4_placeOf 37 = some (.iload_n 3) := by decide +kernel
theorem aX4_placeOf_38 : mm_at mX4_placeOf 38 = some (.istore_n 3) := by decide +kernel
theorem aX4_placeOf_39 : mm_at mX4_placeOf 39 = some (.iinc 4 1) := by decide +kernel
theorem aX4_placeOf_42 : mm_at mX4_placeOf 42 = some (.goto (-37)) := by decide +kernel
theorem aX4_placeOf_45 : mm_at mX4_placeOf 45 = some (.iload_n 3) := by decide +kernel
theorem aX4_placeOf_46 : mm_at mX4_placeOf 46 = some (.ireturn) := by decide +kernel
theorem aX4_put_0 : mm_at mX4_put 0 = some (.aload_n 0) := by decide +kernel
theorem aX4_put_1 : mm_at mX4_put 1 = some (.getfield 17) := by decide +kernel
theorem aX4_put_4 : mm_at mX4_put 4 = some (.bipush 12) := by decide +kernel
theorem aX4_put_6 : mm_at mX4_put 6 = some (.iload_n 2) := by decide +kernel
theorem aX4_put_7 : mm_at mX4_put 7 = some (.imul) := by decide +kernel
theorem aX4_put_8 : mm_at mX4_put 8 = some (.aload_n 0) := by decide +kernel
theorem aX4_put_9 : mm_at mX4_put 9 = some (.getfield 20) := by decide +kernel
theorem aX4_put_12 : mm_at mX4_put 12 = some (.iload_n 2) := by decide +kernel
theorem aX4_put_13 : mm_at mX4_put 13 = some (.iaload) := by decide +kernel
theorem aX4_put_14 : mm_at mX4_put 14 = some (.iadd) := by decide +kernel
theorem aX4_put_15 : mm_at mX4_put 15 = some (.iload_n 1) := by decide +kernel
theorem aX4_put_16 : mm_at mX4_put 16 = some (.iastore) := by decide +kernel
theorem aX4_put_17 : mm_at mX4_put 17 = some (.aload_n 0) := by decide +kernel
theorem aX4_put_18 : mm_at mX4_put 18 = some (.getfield 20) := by decide +kernel
theorem aX4_put_21 : mm_at mX4_put 21 = some (.iload_n 2) := by decide +kernel
theorem aX4_put_22 : mm_at mX4_put 22 = some (.dup2) := by decide +kernel
theorem aX4_put_23 : mm_at mX4_put 23 = some (.iaload) := by decide +kernel
theorem aX4_put_24 : mm_at mX4_put 24 = some (.iconst 1) := by decide +kernel
theorem aX4_put_25 : mm_at mX4_put 25 = some (.iadd) := by decide +kernel
theorem aX4_put_26 : mm_at mX4_put 26 = some (.iastore) := by decide +kernel
theorem aX4_put_27 : mm_at mX4_put 27 = some (.return_) := by decide +kernel
theorem aX4_out_0 : mm_at mX4_out 0 = some (.aload_n 0) := by decide +kernel
theorem aX4_out_1 : mm_at mX4_out 1 = some (.iload_n 1) := by decide +kernel
theorem aX4_out_2 : mm_at mX4_out 2 = some (.iload_n 2) := by decide +kernel
theorem aX4_out_3 : mm_at mX4_out 3 = some (.invokevirtual 109) := by decide +kernel
theorem aX4_out_6 : mm_at mX4_out 6 = some (.istore_n 3) := by decide +kernel
theorem aX4_out_7 : mm_at mX4_out 7 = some (.iload_n 3) := by decide +kernel
theorem aX4_out_8 : mm_at mX4_out 8 = some (.iconst (-1)) := by decide +kernel
theorem aX4_out_9 : mm_at mX4_out 9 = some (.if_icmp .eq 59) := by decide +kernel
theorem aX4_out_12 : mm_at mX4_out 12 = some (.aload_n 0) := by decide +kernel
theorem aX4_out_13 : mm_at mX4_out 13 = some (.getfield 20) := by decide +kernel
theorem aX4_out_16 : mm_at mX4_out 16 = some (.iload_n 2) := by decide +kernel
theorem aX4_out_17 : mm_at mX4_out 17 = some (.dup2) := by decide +kernel
theorem aX4_out_18 : mm_at mX4_out 18 = some (.iaload) := by decide +kernel
theorem aX4_out_19 : mm_at mX4_out 19 = some (.iconst 1) := by decide +kernel
theorem aX4_out_20 : mm_at mX4_out 20 = some (.isub) := by decide +kernel
theorem aX4_out_21 : mm_at mX4_out 21 = some (.iastore) := by decide +kernel
theorem aX4_out_22 : mm_at mX4_out 22 = some (.iload_n 3) := by decide +kernel
theorem aX4_out_23 : mm_at mX4_out 23 = some (.istore 4) := by decide +kernel
theorem aX4_out_25 : mm_at mX4_out 25 = some (.iload 4) := by decide +kernel
theorem aX4_out_27 : mm_at mX4_out 27 = some (.aload_n 0) := by decide +kernel
theorem aX4_out_28 : mm_at mX4_out 28 = some (.getfield 20) := by decide +kernel
theorem aX4_out_31 : mm_at mX4_out 31 = some (.iload_n 2) := by decide +kernel
theorem aX4_out_32 : mm_at mX4_out 32 = some (.iaload) := by decide +kernel
theorem aX4_out_33 : mm_at mX4_out 33 = some (.if_icmp .ge 35) := by decide +kernel
theorem aX4_out_36 : mm_at mX4_out 36 = some (.aload_n 0) := by decide +kernel
theorem aX4_out_37 : mm_at mX4_out 37 = some (.getfield 17) := by decide +kernel
theorem aX4_out_40 : mm_at mX4_out 40 = some (.bipush 12) := by decide +kernel
theorem aX4_out_42 : mm_at mX4_out 42 = some (.iload_n 2) := by decide +kernel
theorem aX4_out_43 : mm_at mX4_out 43 = some (.imul) := by decide +kernel
theorem aX4_out_44 : mm_at mX4_out 44 = some (.iload 4) := by decide +kernel
theorem aX4_out_46 : mm_at mX4_out 46 = some (.iadd) := by decide +kernel
theorem aX4_out_47 : mm_at mX4_out 47 = some (.aload_n 0) := by decide +kernel
theorem aX4_out_48 : mm_at mX4_out 48 = some (.getfield 17) := by decide +kernel
theorem aX4_out_51 : mm_at mX4_out 51 = some (.bipush 12) := by decide +kernel
theorem aX4_out_53 : mm_at mX4_out 53 = some (.iload_n 2) := by decide +kernel
theorem aX4_out_54 : mm_at mX4_out 54 = some (.imul) := by decide +kernel
theorem aX4_out_55 : mm_at mX4_out 55 = some (.iload 4) := by decide +kernel
theorem aX4_out_57 : mm_at mX4_out 57 = some (.iadd) := by decide +kernel
theorem aX4_out_58 : mm_at mX4_out 58 = some (.iconst 1) := by decide +kernel
theorem aX4_out_59 : mm_at mX4_out 59 = some (.iadd) := by decide +kernel
theorem aX4_out_60 : mm_at mX4_out 60 = some (.iaload) := by decide +kernel
theorem aX4_out_61 : mm_at mX4_out 61 = some (.iastore) := by decide +kernel
