theorem dX9_closesApart_111 : decode cX9_closesApart 111 = .ok (.aload_n 0, 1) := by decide +kernel
theorem dX9_closesApart_112 : decode cX9_closesApart 112 = .ok (.getfield 23, 3) := by decide +kernel
theorem dX9_closesApart_115 : decode cX9_closesApart 115 = .ok (.iload 7, 2) := by decide +kernel
theorem dX9_closesApart_117 : decode cX9_closesApart 117 = .ok (.iaload, 1) := by decide +kernel
theorem dX9_closesApart_118 : decode cX9_closesApart 118 = .ok (.istore 8, 2) := by decide +kernel
theorem dX9_closesApart_120 : decode cX9_closesApart 120 = .ok (.aload_n 0, 1) := by decide +kernel
theorem dX9_closesApart_121 : decode cX9_closesApart 121 = .ok (.aload_n 0, 1) := by decide +kernel
theorem dX9_closesApart_122 : decode cX9_closesApart 122 = .ok (.iload 8, 2) := by decide +kernel
theorem dX9_closesApart_124 : decode cX9_closesApart 124 = .ok (.iconst 0, 1) := by decide +kernel
theorem dX9_closesApart_125 : decode cX9_closesApart 125 = .ok (.invokevirtual 151, 3) := by decide +kernel
theorem dX9_closesApart_128 : decode cX9_closesApart 128 = .ok (.iload_n 3, 1) := by decide +kernel
theorem dX9_closesApart_129 : decode cX9_closesApart 129 = .ok (.i2l, 1) := by decide +kernel
theorem dX9_closesApart_130 : decode cX9_closesApart 130 = .ok (.lneg, 1) := by decide +kernel
theorem dX9_closesApart_131 : decode cX9_closesApart 131 = .ok (.aload_n 0, 1) := by decide +kernel
theorem dX9_closesApart_132 : decode cX9_closesApart 132 = .ok (.iload 8, 2) := by decide +kernel
theorem dX9_closesApart_134 : decode cX9_closesApart 134 = .ok (.iconst 4, 1) := by decide +kernel
theorem dX9_closesApart_135 : decode cX9_closesApart 135 = .ok (.invokevirtual 151, 3) := by decide +kernel
theorem dX9_closesApart_138 : decode cX9_closesApart 138 = .ok (.i2l, 1) := by decide +kernel
theorem dX9_closesApart_139 : decode cX9_closesApart 139 = .ok (.lmul, 1) := by decide +kernel
theorem dX9_closesApart_140 : decode cX9_closesApart 140 = .ok (.invokevirtual 206, 3) := by decide +kernel
theorem dX9_closesApart_143 : decode cX9_closesApart 143 = .ok (.aload_n 0, 1) := by decide +kernel
theorem dX9_closesApart_144 : decode cX9_closesApart 144 = .ok (.aload_n 0, 1) := by decide +kernel
theorem dX9_closesApart_145 : decode cX9_closesApart 145 = .ok (.iload 8, 2) := by decide +kernel
theorem dX9_closesApart_147 : decode cX9_closesApart 147 = .ok (.iconst 1, 1) := by decide +kernel
theorem dX9_closesApart_148 : decode cX9_closesApart 148 = .ok (.invokevirtual 151, 3) := by decide +kernel
theorem dX9_closesApart_151 : decode cX9_closesApart 151 = .ok (.iload_n 3, 1) := by decide +kernel
theorem dX9_closesApart_152 : decode cX9_closesApart 152 = .ok (.i2l, 1) := by decide +kernel
theorem dX9_closesApart_153 : decode cX9_closesApart 153 = .ok (.aload_n 0, 1) := by decide +kernel
theorem dX9_closesApart_154 : decode cX9_closesApart 154 = .ok (.iload 8, 2) := by decide +kernel
theorem dX9_closesApart_156 : decode cX9_closesApart 156 = .ok (.iconst 4, 1) := by decide +kernel
theorem dX9_closesApart_157 : decode cX9_closesApart 157 = .ok (.invokevirtual 151, 3) := by decide +kernel
theorem dX9_closesApart_160 : decode cX9_closesApart 160 = .ok (.i2l, 1) := by decide +kernel
theorem dX9_closesApart_161 : decode cX9_closesApart 161 = .ok (.lmul, 1) := by decide +kernel
theorem dX9_closesApart_162 : decode cX9_closesApart 162 = .ok (.invokevirtual 206, 3) := by decide +kernel
theorem dX9_closesApart_165 : decode cX9_closesApart 165 = .ok (.aload_n 0, 1) := by decide +kernel
theorem dX9_closesApart_166 : decode cX9_closesApart 166 = .ok (.getfield 7, 3) := by decide +kernel
theorem dX9_closesApart_169 : decode cX9_closesApart 169 = .ok (.aload_n 0, 1) := by decide +kernel
theorem dX9_closesApart_170 : decode cX9_closesApart 170 = .ok (.iload 8, 2) := by decide +kernel
theorem dX9_closesApart_172 : decode cX9_closesApart 172 = .ok (.invokevirtual 141, 3) := by decide +kernel
theorem dX9_closesApart_175 : decode cX9_closesApart 175 = .ok (.bipush 7, 2) := by decide +kernel
theorem dX9_closesApart_177 : decode cX9_closesApart 177 = .ok (.iadd, 1) := by decide +kernel
theorem dX9_closesApart_178 : decode cX9_closesApart 178 = .ok (.aload_n 0, 1) := by decide +kernel
theorem dX9_closesApart_179 : decode cX9_closesApart 179 = .ok (.iload 8, 2) := by decide +kernel
theorem dX9_closesApart_181 : decode cX9_closesApart 181 = .ok (.bipush 7, 2) := by decide +kernel
theorem dX9_closesApart_183 : decode cX9_closesApart 183 = .ok (.invokevirtual 151, 3) := by decide +kernel
theorem dX9_closesApart_186 : decode cX9_closesApart 186 = .ok (.iload_n 3, 1) := by decide +kernel
theorem dX9_closesApart_187 : decode cX9_closesApart 187 = .ok (.isub, 1) := by decide +kernel
theorem dX9_closesApart_188 : decode cX9_closesApart 188 = .ok (.iastore, 1) := by decide +kernel
theorem dX9_closesApart_189 : decode cX9_closesApart 189 = .ok (.iinc 7 1, 3) := by decide +kernel
theorem dX9_closesApart_192 : decode cX9_closesApart 192 = .ok (.goto (-90), 3) := by decide +kernel
theorem dX9_closesApart_195 : decode cX9_closesApart 195 = .ok (.aload_n 0, 1) := by decide +kernel
theorem dX9_closesApart_196 : decode cX9_closesApart 196 = .ok (.getfield 7, 3) := by decide +kernel
theorem dX9_closesApart_199 : decode cX9_closesApart 199 = .ok (.iload_n 1, 1) := by decide +kernel
theorem dX9_closesApart_200 : decode cX9_closesApart 200 = .ok (.bipush 6, 2) := by decide +kernel
theorem dX9_closesApart_202 : decode cX9_closesApart 202 = .ok (.iadd, 1) := by decide +kernel
theorem dX9_closesApart_203 : decode cX9_closesApart 203 = .ok (.iload_n 3, 1) := by decide +kernel
theorem dX9_closesApart_204 : decode cX9_closesApart 204 = .ok (.iastore, 1) := by decide +kernel
theorem dX9_closesApart_205 : decode cX9_closesApart 205 = .ok (.aload_n 0, 1) := by decide +kernel
theorem dX9_closesApart_206 : decode cX9_closesApart 206 = .ok (.iconst 4, 1) := by decide +kernel
theorem dX9_closesApart_207 : decode cX9_closesApart 207 = .ok (.iload 4, 2) := by decide +kernel
theorem dX9_closesApart_209 : decode cX9_closesApart 209 = .ok (.aload_n 0, 1) := by decide +kernel
theorem dX9_closesApart_210 : decode cX9_closesApart 210 = .ok (.getfield 223, 3) := by decide +kernel
theorem dX9_closesApart_213 : decode cX9_closesApart 213 = .ok (.aload_n 0, 1) := by decide +kernel
theorem dX9_closesApart_214 : decode cX9_closesApart 214 = .ok (.iload_n 2, 1) := by decide +kernel
theorem dX9_closesApart_215 : decode cX9_closesApart 215 = .ok (.iconst 0, 1) := by decide +kernel
theorem dX9_closesApart_216 : decode cX9_closesApart 216 = .ok (.invokevirtual 151, 3) := by decide +kernel
theorem dX9_closesApart_219 : decode cX9_closesApart 219 = .ok (.iload_n 3, 1) := by decide +kernel
theorem dX9_closesApart_220 : decode cX9_closesApart 220 = .ok (.invokevirtual 213, 3) := by decide +kernel
theorem dX9_closesApart_223 : decode cX9_closesApart 223 = .ok (.return_, 1) := by decide +kernel
theorem dX9_closesFrom_0 : decode cX9_closesFrom 0 = .ok (.aload_n 0, 1) := by decide +kernel
theorem dX9_closesFrom_1 : decode cX9_closesFrom 1 = .ok (.getfield 7, 3) := by decide +kernel
theorem dX9_closesFrom_4 : decode cX9_closesFrom 4 = .ok (.iload_n 1, 1) := by decide +kernel
theorem dX9_closesFrom_5 : decode cX9_closesFrom 5 = .ok (.iconst 0, 1) := by decide +kernel
theorem dX9_closesFrom_6 : decode cX9_closesFrom 6 = .ok (.iadd, 1) := by decide +kernel
theorem dX9_closesFrom_7 : decode cX9_closesFrom 7 = .ok (.iaload, 1) := by decide +kernel
theorem dX9_closesFrom_8 : decode cX9_closesFrom 8 = .ok (.istore_n 3, 1) := by decide +kernel
theorem dX9_closesFrom_9 : decode cX9_closesFrom 9 = .ok (.aload_n 0, 1) := by decide +kernel
theorem dX9_closesFrom_10 : decode cX9_closesFrom 10 = .ok (.getfield 7, 3) := by decide +kernel
theorem dX9_closesFrom_13 : decode cX9_closesFrom 13 = .ok (.iload_n 1, 1) := by decide +kernel
theorem dX9_closesFrom_14 : decode cX9_closesFrom 14 = .ok (.iconst 1, 1) := by decide +kernel
theorem dX9_closesFrom_15 : decode cX9_closesFrom 15 = .ok (.iadd, 1) := by decide +kernel
theorem dX9_closesFrom_16 : decode cX9_closesFrom 16 = .ok (.iaload, 1) := by decide +kernel
theorem dX9_closesFrom_17 : decode cX9_closesFrom 17 = .ok (.istore 4, 2) := by decide +kernel
theorem dX9_closesFrom_19 : decode cX9_closesFrom 19 = .ok (.aload_n 0, 1) := by decide +kernel
theorem dX9_closesFrom_20 : decode cX9_closesFrom 20 = .ok (.aload_n 0, 1) := by decide +kernel
theorem dX9_closesFrom_21 : decode cX9_closesFrom 21 = .ok (.aload_n 0, 1) := by decide +kernel
theorem dX9_closesFrom_22 : decode cX9_closesFrom 22 = .ok (.getfield 7, 3) := by decide +kernel
theorem dX9_closesFrom_25 : decode cX9_closesFrom 25 = .ok (.iload_n 1, 1) := by decide +kernel
theorem dX9_closesFrom_26 : decode cX9_closesFrom 26 = .ok (.bipush 8, 2) := by decide +kernel
theorem dX9_closesFrom_28 : decode cX9_closesFrom 28 = .ok (.iadd, 1) := by decide +kernel
theorem dX9_closesFrom_29 : decode cX9_closesFrom 29 = .ok (.iload_n 2, 1) := by decide +kernel
theorem dX9_closesFrom_30 : decode cX9_closesFrom 30 = .ok (.iadd, 1) := by decide +kernel
theorem dX9_closesFrom_31 : decode cX9_closesFrom 31 = .ok (.iaload, 1) := by decide +kernel
theorem dX9_closesFrom_32 : decode cX9_closesFrom 32 = .ok (.aload_n 0, 1) := by decide +kernel
theorem dX9_closesFrom_33 : decode cX9_closesFrom 33 = .ok (.iload_n 2, 1) := by decide +kernel
theorem dX9_closesFrom_34 : decode cX9_closesFrom 34 = .ok (.iload 4, 2) := by decide +kernel
theorem dX9_closesFrom_36 : decode cX9_closesFrom 36 = .ok (.invokevirtual 182, 3) := by decide +kernel
theorem dX9_closesFrom_39 : decode cX9_closesFrom 39 = .ok (.invokevirtual 131, 3) := by decide +kernel
theorem dX9_closesFrom_42 : decode cX9_closesFrom 42 = .ok (.aload_n 0, 1) := by decide +kernel
theorem dX9_closesFrom_43 : decode cX9_closesFrom 43 = .ok (.iload_n 3, 1) := by decide +kernel
theorem dX9_closesFrom_44 : decode cX9_closesFrom 44 = .ok (.iload 4, 2) := by decide +kernel
theorem dX9_closesFrom_46 : decode cX9_closesFrom 46 = .ok (.invokevirtual 200, 3) := by decide +kernel
theorem dX9_closesFrom_49 : decode cX9_closesFrom 49 = .ok (.invokevirtual 131, 3) := by decide +kernel
theorem dX9_closesFrom_52 : decode cX9_closesFrom 52 = .ok (.istore 5, 2) := by decide +kernel
theorem dX9_closesFrom_54 : decode cX9_closesFrom 54 = .ok (.iload 5, 2) := by decide +kernel
theorem dX9_closesFrom_56 : decode cX9_closesFrom 56 = .ok (.ifCond .ne 4, 3) := by decide +kernel
theorem dX9_closesFrom_59 : decode cX9_closesFrom 59 = .ok (.return_, 1) := by decide +kernel
theorem dX9_closesFrom_60 : decode cX9_closesFrom 60 = .ok (.aload_n 0, 1) := by decide +kernel
theorem dX9_closesFrom_61 : decode cX9_closesFrom 61 = .ok (.iload_n 3, 1) := by decide +kernel
theorem dX9_closesFrom_62 : decode cX9_closesFrom 62 = .ok (.iload 4, 2) := by decide +kernel
theorem dX9_closesFrom_64 : decode cX9_closesFrom 64 = .ok (.iload 5, 2) := by decide +kernel
theorem dX9_closesFrom_66 : decode cX9_closesFrom 66 = .ok (.invokevirtual 101, 3) := by decide +kernel
theorem dX9_closesFrom_69 : decode cX9_closesFrom 69 = .ok (.aload_n 0, 1) := by decide +kernel
theorem dX9_closesFrom_70 : decode cX9_closesFrom 70 = .ok (.iload_n 3, 1) := by decide +kernel
theorem dX9_closesFrom_71 : decode cX9_closesFrom 71 = .ok (.iload 4, 2) := by decide +kernel
theorem dX9_closesFrom_73 : decode cX9_closesFrom 73 = .ok (.iload 5, 2) := by decide +kernel
theorem dX9_closesFrom_75 : decode cX9_closesFrom 75 = .ok (.invokevirtual 138, 3) := by decide +kernel
theorem dX9_closesFrom_78 : decode cX9_closesFrom 78 = .ok (.aload_n 0, 1) := by decide +kernel
theorem dX9_closesFrom_79 : decode cX9_closesFrom 79 = .ok (.iload_n 3, 1) := by decide +kernel
theorem dX9_closesFrom_80 : decode cX9_closesFrom 80 = .ok (.iload 5, 2) := by decide +kernel
theorem dX9_closesFrom_82 : decode cX9_closesFrom 82 = .ok (.i2l, 1) := by decide +kernel
theorem dX9_closesFrom_83 : decode cX9_closesFrom 83 = .ok (.lneg, 1) := by decide +kernel
theorem dX9_closesFrom_84 : decode cX9_closesFrom 84 = .ok (.aload_n 0, 1) := by decide +kernel
theorem dX9_closesFrom_85 : decode cX9_closesFrom 85 = .ok (.iload 4, 2) := by decide +kernel
theorem dX9_closesFrom_87 : decode cX9_closesFrom 87 = .ok (.invokevirtual 203, 3) := by decide +kernel
theorem dX9_closesFrom_90 : decode cX9_closesFrom 90 = .ok (.i2l, 1) := by decide +kernel
theorem dX9_closesFrom_91 : decode cX9_closesFrom 91 = .ok (.lmul, 1) := by decide +kernel
theorem dX9_closesFrom_92 : decode cX9_closesFrom 92 = .ok (.invokevirtual 206, 3) := by decide +kernel
theorem dX9_closesFrom_95 : decode cX9_closesFrom 95 = .ok (.aload_n 0, 1) := by decide +kernel
theorem dX9_closesFrom_96 : decode cX9_closesFrom 96 = .ok (.iload_n 2, 1) := by decide +kernel
theorem dX9_closesFrom_97 : decode cX9_closesFrom 97 = .ok (.iload 4, 2) := by decide +kernel
theorem dX9_closesFrom_99 : decode cX9_closesFrom 99 = .ok (.iload 5, 2) := by decide +kernel
theorem dX9_closesFrom_101 : decode cX9_closesFrom 101 = .ok (.invokevirtual 138, 3) := by decide +kernel
theorem dX9_closesFrom_104 : decode cX9_closesFrom 104 = .ok (.aload_n 0, 1) := by decide +kernel
theorem dX9_closesFrom_105 : decode cX9_closesFrom 105 = .ok (.iload_n 2, 1) := by decide +kernel
theorem dX9_closesFrom_106 : decode cX9_closesFrom 106 = .ok (.iload 5, 2) := by decide +kernel
theorem dX9_closesFrom_108 : decode cX9_closesFrom 108 = .ok (.i2l, 1) := by decide +kernel
theorem dX9_closesFrom_109 : decode cX9_closesFrom 109 = .ok (.aload_n 0, 1) := by decide +kernel
theorem dX9_closesFrom_110 : decode cX9_closesFrom 110 = .ok (.iload 4, 2) := by decide +kernel
theorem dX9_closesFrom_112 : decode cX9_closesFrom 112 = .ok (.invokevirtual 203, 3) := by decide +kernel
theorem dX9_closesFrom_115 : decode cX9_closesFrom 115 = .ok (.i2l, 1) := by decide +kernel
theorem dX9_closesFrom_116 : decode cX9_closesFrom 116 = .ok (.lmul, 1) := by decide +kernel
theorem dX9_closesFrom_117 : decode cX9_closesFrom 117 = .ok (.iload 5, 2) := by decide +kernel
theorem dX9_closesFrom_119 : decode cX9_closesFrom 119 = .ok (.i2l, 1) := by decide +kernel
theorem dX9_closesFrom_120 : decode cX9_closesFrom 120 = .ok (.aload_n 0, 1) := by decide +kernel
theorem dX9_closesFrom_121 : decode cX9_closesFrom 121 = .ok (.iload 4, 2) := by decide +kernel
theorem dX9_closesFrom_123 : decode cX9_closesFrom 123 = .ok (.invokevirtual 210, 3) := by decide +kernel
theorem dX9_closesFrom_126 : decode cX9_closesFrom 126 = .ok (.i2l, 1) := by decide +kernel
theorem dX9_closesFrom_127 : decode cX9_closesFrom 127 = .ok (.lmul, 1) := by decide +kernel
theorem dX9_closesFrom_128 : decode cX9_closesFrom 128 = .ok (.lsub, 1) := by decide +kernel
theorem dX9_closesFrom_129 : decode cX9_closesFrom 129 = .ok (.invokevirtual 206, 3) := by decide +kernel
theorem dX9_closesFrom_132 : decode cX9_closesFrom 132 = .ok (.aload_n 0, 1) := by decide +kernel
theorem dX9_closesFrom_133 : decode cX9_closesFrom 133 = .ok (.getfield 16, 3) := by decide +kernel
theorem dX9_closesFrom_136 : decode cX9_closesFrom 136 = .ok (.bipush 12, 2) := by decide +kernel
theorem dX9_closesFrom_138 : decode cX9_closesFrom 138 = .ok (.aload_n 0, 1) := by decide +kernel
theorem dX9_closesFrom_139 : decode cX9_closesFrom 139 = .ok (.getfield 16, 3) := by decide +kernel
theorem dX9_closesFrom_142 : decode cX9_closesFrom 142 = .ok (.bipush 12, 2) := by decide +kernel
theorem dX9_closesFrom_144 : decode cX9_closesFrom 144 = .ok (.laload, 1) := by decide +kernel
theorem dX9_closesFrom_145 : decode cX9_closesFrom 145 = .ok (.iload 5, 2) := by decide +kernel
theorem dX9_closesFrom_147 : decode cX9_closesFrom 147 = .ok (.i2l, 1) := by decide +kernel
theorem dX9_closesFrom_148 : decode cX9_closesFrom 148 = .ok (.aload_n 0, 1) := by decide +kernel
theorem dX9_closesFrom_149 : decode cX9_closesFrom 149 = .ok (.iload 4, 2) := by decide +kernel
theorem dX9_closesFrom_151 : decode cX9_closesFrom 151 = .ok (.invokevirtual 210, 3) := by decide +kernel
theorem dX9_closesFrom_154 : decode cX9_closesFrom 154 = .ok (.i2l, 1) := by decide +kernel
theorem dX9_closesFrom_155 : decode cX9_closesFrom 155 = .ok (.lmul, 1) := by decide +kernel
theorem dX9_closesFrom_156 : decode cX9_closesFrom 156 = .ok (.ladd, 1) := by decide +kernel
theorem dX9_closesFrom_157 : decode cX9_closesFrom 157 = .ok (.lastore, 1) := by decide +kernel
theorem dX9_closesFrom_158 : decode cX9_closesFrom 158 = .ok (.aload_n 0, 1) := by decide +kernel
theorem dX9_closesFrom_159 : decode cX9_closesFrom 159 = .ok (.getfield 7, 3) := by decide +kernel
theorem dX9_closesFrom_162 : decode cX9_closesFrom 162 = .ok (.iload_n 1, 1) := by decide +kernel
theorem dX9_closesFrom_163 : decode cX9_closesFrom 163 = .ok (.bipush 6, 2) := by decide +kernel
theorem dX9_closesFrom_165 : decode cX9_closesFrom 165 = .ok (.iadd, 1) := by decide +kernel
theorem dX9_closesFrom_166 : decode cX9_closesFrom 166 = .ok (.aload_n 0, 1) := by decide +kernel
theorem dX9_closesFrom_167 : decode cX9_closesFrom 167 = .ok (.getfield 7, 3) := by decide +kernel
theorem dX9_closesFrom_170 : decode cX9_closesFrom 170 = .ok (.iload_n 1, 1) := by decide +kernel
theorem dX9_closesFrom_171 : decode cX9_closesFrom 171 = .ok (.bipush 6, 2) := by decide +kernel
theorem dX9_closesFrom_173 : decode cX9_closesFrom 173 = .ok (.iadd, 1) := by decide +kernel
theorem dX9_closesFrom_174 : decode cX9_closesFrom 174 = .ok (.iaload, 1) := by decide +kernel
theorem dX9_closesFrom_175 : decode cX9_closesFrom 175 = .ok (.iload 5, 2) := by decide +kernel
theorem dX9_closesFrom_177 : decode cX9_closesFrom 177 = .ok (.iadd, 1) := by decide +kernel
theorem dX9_closesFrom_178 : decode cX9_closesFrom 178 = .ok (.iastore, 1) := by decide +kernel
theorem dX9_closesFrom_179 : decode cX9_closesFrom 179 = .ok (.aload_n 0, 1) := by decide +kernel
theorem dX9_closesFrom_180 : decode cX9_closesFrom 180 = .ok (.iconst 4, 1) := by decide +kernel
theorem dX9_closesFrom_181 : decode cX9_closesFrom 181 = .ok (.iload 4, 2) := by decide +kernel
theorem dX9_closesFrom_183 : decode cX9_closesFrom 183 = .ok (.iload_n 2, 1) := by decide +kernel
theorem dX9_closesFrom_184 : decode cX9_closesFrom 184 = .ok (.iload_n 3, 1) := by decide +kernel
theorem dX9_closesFrom_185 : decode cX9_closesFrom 185 = .ok (.iload 5, 2) := by decide +kernel
theorem dX9_closesFrom_187 : decode cX9_closesFrom 187 = .ok (.invokevirtual 213, 3) := by decide +kernel
theorem dX9_closesFrom_190 : decode cX9_closesFrom 190 = .ok (.return_, 1) := by decide +kernel
theorem dX9_collateral_0 : decode cX9_collateral 0 = .ok (.aload_n 0, 1) := by decide +kernel
theorem dX9_collateral_1 : decode cX9_collateral 1 = .ok (.iconst 0, 1) := by decide +kernel
theorem dX9_collateral_2 : decode cX9_collateral 2 = .ok (.putfield 58, 3) := by decide +kernel
theorem dX9_collateral_5 : decode cX9_collateral 5 = .ok (.aload_n 0, 1) := by decide +kernel
theorem dX9_collateral_6 : decode cX9_collateral 6 = .ok (.iload_n 1, 1) := by decide +kernel
theorem dX9_collateral_7 : decode cX9_collateral 7 = .ok (.invokevirtual 90, 3) := by decide +kernel
theorem dX9_collateral_10 : decode cX9_collateral 10 = .ok (.ifCond .eq 14, 3) := by decide +kernel
theorem dX9_collateral_13 : decode cX9_collateral 13 = .ok (.aload_n 0, 1) := by decide +kernel
theorem dX9_collateral_14 : decode cX9_collateral 14 = .ok (.iload_n 2, 1) := by decide +kernel
theorem dX9_collateral_15 : decode cX9_collateral 15 = .ok (.iconst 0, 1) := by decide +kernel
theorem dX9_collateral_16 : decode cX9_collateral 16 = .ok (.ldc 105, 2) := by decide +kernel
theorem dX9_collateral_18 : decode cX9_collateral 18 = .ok (.invokevirtual 79, 3) := by decide +kernel
theorem dX9_collateral_21 : decode cX9_collateral 21 = .ok (.ifCond .ne 5, 3) := by decide +kernel
theorem dX9_collateral_24 : decode cX9_collateral 24 = .ok (.iconst 0, 1) := by decide +kernel
theorem dX9_collateral_25 : decode cX9_collateral 25 = .ok (.ireturn, 1) := by decide +kernel
theorem dX9_collateral_26 : decode cX9_collateral 26 = .ok (.aload_n 0, 1) := by decide +kernel
theorem dX9_collateral_27 : decode cX9_collateral 27 = .ok (.getfield 7, 3) := by decide +kernel
theorem dX9_collateral_30 : decode cX9_collateral 30 = .ok (.bipush 46, 2) := by decide +kernel
theorem dX9_collateral_32 : decode cX9_collateral 32 = .ok (.iload_n 1, 1) := by decide +kernel
theorem dX9_collateral_33 : decode cX9_collateral 33 = .ok (.iadd, 1) := by decide +kernel
theorem dX9_collateral_34 : decode cX9_collateral 34 = .ok (.iload_n 2, 1) := by decide +kernel
theorem dX9_collateral_35 : decode cX9_collateral 35 = .ok (.iastore, 1) := by decide +kernel
theorem dX9_collateral_36 : decode cX9_collateral 36 = .ok (.iconst 1, 1) := by decide +kernel
theorem dX9_collateral_37 : decode cX9_collateral 37 = .ok (.ireturn, 1) := by decide +kernel
theorem dX9_dayOf_0 : decode cX9_dayOf 0 = .ok (.aload_n 0, 1) := by decide +kernel
theorem dX9_dayOf_1 : decode cX9_dayOf 1 = .ok (.getfield 7, 3) := by decide +kernel
theorem dX9_dayOf_4 : decode cX9_dayOf 4 = .ok (.sipush 420, 3) := by decide +kernel
theorem dX9_dayOf_7 : decode cX9_dayOf 7 = .ok (.aload_n 0, 1) := by decide +kernel
theorem dX9_dayOf_8 : decode cX9_dayOf 8 = .ok (.iload_n 1, 1) := by decide +kernel
theorem dX9_dayOf_9 : decode cX9_dayOf 9 = .ok (.iload_n 2, 1) := by decide +kernel
theorem dX9_dayOf_10 : decode cX9_dayOf 10 = .ok (.iload_n 3, 1) := by decide +kernel
theorem dX9_dayOf_11 : decode cX9_dayOf 11 = .ok (.invokevirtual 106, 3) := by decide +kernel
theorem dX9_dayOf_14 : decode cX9_dayOf 14 = .ok (.iadd, 1) := by decide +kernel
theorem dX9_dayOf_15 : decode cX9_dayOf 15 = .ok (.iaload, 1) := by decide +kernel
theorem dX9_dayOf_16 : decode cX9_dayOf 16 = .ok (.ireturn, 1) := by decide +kernel
theorem dX9_deal_0 : decode cX9_deal 0 = .ok (.aload_n 0, 1) := by decide +kernel
theorem dX9_deal_1 : decode cX9_deal 1 = .ok (.iconst 0, 1) := by decide +kernel
theorem dX9_deal_2 : decode cX9_deal 2 = .ok (.putfield 58, 3) := by decide +kernel
theorem dX9_deal_5 : decode cX9_deal 5 = .ok (.aload_n 0, 1) := by decide +kernel
theorem dX9_deal_6 : decode cX9_deal 6 = .ok (.iload_n 1, 1) := by decide +kernel
theorem dX9_deal_7 : decode cX9_deal 7 = .ok (.invokevirtual 188, 3) := by decide +kernel
theorem dX9_deal_10 : decode cX9_deal 10 = .ok (.ifCond .eq 23, 3) := by decide +kernel
theorem dX9_deal_13 : decode cX9_deal 13 = .ok (.aload_n 0, 1) := by decide +kernel
theorem dX9_deal_14 : decode cX9_deal 14 = .ok (.iload_n 2, 1) := by decide +kernel
theorem dX9_deal_15 : decode cX9_deal 15 = .ok (.iconst 0, 1) := by decide +kernel
theorem dX9_deal_16 : decode cX9_deal 16 = .ok (.bipush 7, 2) := by decide +kernel
theorem dX9_deal_18 : decode cX9_deal 18 = .ok (.invokevirtual 79, 3) := by decide +kernel
theorem dX9_deal_21 : decode cX9_deal 21 = .ok (.ifCond .eq 12, 3) := by decide +kernel
theorem dX9_deal_24 : decode cX9_deal 24 = .ok (.aload_n 0, 1) := by decide +kernel
theorem dX9_deal_25 : decode cX9_deal 25 = .ok (.iload_n 1, 1) := by decide +kernel
theorem dX9_deal_26 : decode cX9_deal 26 = .ok (.iload_n 2, 1) := by decide +kernel
theorem dX9_deal_27 : decode cX9_deal 27 = .ok (.invokevirtual 151, 3) := by decide +kernel
theorem dX9_deal_30 : decode cX9_deal 30 = .ok (.goto 4, 3) := by decide +kernel
theorem dX9_deal_33 : decode cX9_deal 33 = .ok (.iconst (-1), 1) := by decide +kernel
theorem dX9_deal_34 : decode cX9_deal 34 = .ok (.ireturn, 1) := by decide +kernel
theorem dX9_delivers_0 : decode cX9_delivers 0 = .ok (.aload_n 0, 1) := by decide +kernel
theorem dX9_delivers_1 : decode cX9_delivers 1 = .ok (.iconst 0, 1) := by decide +kernel
theorem dX9_delivers_2 : decode cX9_delivers 2 = .ok (.putfield 250, 3) := by decide +kernel
theorem dX9_delivers_5 : decode cX9_delivers 5 = .ok (.iconst 0, 1) := by decide +kernel
theorem dX9_delivers_6 : decode cX9_delivers 6 = .ok (.istore_n 2, 1) := by decide +kernel
theorem dX9_delivers_7 : decode cX9_delivers 7 = .ok (.iload_n 2, 1) := by decide +kernel
theorem dX9_delivers_8 : decode cX9_delivers 8 = .ok (.bipush 12, 2) := by decide +kernel
theorem dX9_delivers_10 : decode cX9_delivers 10 = .ok (.if_icmp .ge 37, 3) := by decide +kernel
theorem dX9_delivers_13 : decode cX9_delivers 13 = .ok (.aload_n 0, 1) := by decide +kernel
theorem dX9_delivers_14 : decode cX9_delivers 14 = .ok (.getfield 35, 3) := by decide +kernel
theorem dX9_delivers_17 : decode cX9_delivers 17 = .ok (.iload_n 2, 1) := by decide +kernel
theorem dX9_delivers_18 : decode cX9_delivers 18 = .ok (.iload_n 2, 1) := by decide +kernel
theorem dX9_delivers_19 : decode cX9_delivers 19 = .ok (.aload_n 0, 1) := by decide +kernel
theorem dX9_delivers_20 : decode cX9_delivers 20 = .ok (.invokevirtual 61, 3) := by decide +kernel
theorem dX9_delivers_23 : decode cX9_delivers 23 = .ok (.if_icmp .ge 12, 3) := by decide +kernel
theorem dX9_delivers_26 : decode cX9_delivers 26 = .ok (.aload_n 0, 1) := by decide +kernel
theorem dX9_delivers_27 : decode cX9_delivers 27 = .ok (.iload_n 2, 1) := by decide +kernel
theorem dX9_delivers_28 : decode cX9_delivers 28 = .ok (.iload_n 1, 1) := by decide +kernel
theorem dX9_delivers_29 : decode cX9_delivers 29 = .ok (.invokevirtual 116, 3) := by decide +kernel
theorem dX9_delivers_32 : decode cX9_delivers 32 = .ok (.ifCond .ne 7, 3) := by decide +kernel
theorem dX9_delivers_35 : decode cX9_delivers 35 = .ok (.iconst 1, 1) := by decide +kernel
theorem dX9_delivers_36 : decode cX9_delivers 36 = .ok (.goto 4, 3) := by decide +kernel
theorem dX9_delivers_39 : decode cX9_delivers 39 = .ok (.iconst 0, 1) := by decide +kernel
theorem dX9_delivers_40 : decode cX9_delivers 40 = .ok (.bastore, 1) := by decide +kernel
theorem dX9_delivers_41 : decode cX9_delivers 41 = .ok (.iinc 2 1, 3) := by decide +kernel
theorem dX9_delivers_44 : decode cX9_delivers 44 = .ok (.goto (-37), 3) := by decide +kernel
theorem dX9_delivers_47 : decode cX9_delivers 47 = .ok (.iconst 0, 1) := by decide +kernel
theorem dX9_delivers_48 : decode cX9_delivers 48 = .ok (.istore_n 2, 1) := by decide +kernel
theorem dX9_delivers_49 : decode cX9_delivers 49 = .ok (.iload_n 2, 1) := by decide +kernel
theorem dX9_delivers_50 : decode cX9_delivers 50 = .ok (.iconst (-1), 1) := by decide +kernel
theorem dX9_delivers_51 : decode cX9_delivers 51 = .ok (.if_icmp .eq 76, 3) := by decide +kernel
theorem dX9_delivers_54 : decode cX9_delivers 54 = .ok (.iconst (-1), 1) := by decide +kernel
theorem dX9_delivers_55 : decode cX9_delivers 55 = .ok (.istore_n 2, 1) := by decide +kernel
theorem dX9_delivers_56 : decode cX9_delivers 56 = .ok (.iconst 0, 1) := by decide +kernel
theorem dX9_delivers_57 : decode cX9_delivers 57 = .ok (.istore_n 3, 1) := by decide +kernel
theorem dX9_delivers_58 : decode cX9_delivers 58 = .ok (.iload_n 3, 1) := by decide +kernel
theorem dX9_delivers_59 : decode cX9_delivers 59 = .ok (.aload_n 0, 1) := by decide +kernel
theorem dX9_delivers_60 : decode cX9_delivers 60 = .ok (.invokevirtual 61, 3) := by decide +kernel
theorem dX9_delivers_63 : decode cX9_delivers 63 = .ok (.if_icmp .ge 42, 3) := by decide +kernel
theorem dX9_delivers_66 : decode cX9_delivers 66 = .ok (.aload_n 0, 1) := by decide +kernel
theorem dX9_delivers_67 : decode cX9_delivers 67 = .ok (.getfield 35, 3) := by decide +kernel
theorem dX9_delivers_70 : decode cX9_delivers 70 = .ok (.iload_n 3, 1) := by decide +kernel
theorem dX9_delivers_71 : decode cX9_delivers 71 = .ok (.baload, 1) := by decide +kernel
theorem dX9_delivers_72 : decode cX9_delivers 72 = .ok (.ifCond .ne 27, 3) := by decide +kernel
theorem dX9_delivers_75 : decode cX9_delivers 75 = .ok (.iload_n 2, 1) := by decide +kernel
theorem dX9_delivers_76 : decode cX9_delivers 76 = .ok (.iconst (-1), 1) := by decide +kernel
theorem dX9_delivers_77 : decode cX9_delivers 77 = .ok (.if_icmp .eq 20, 3) := by decide +kernel
theorem dX9_delivers_80 : decode cX9_delivers 80 = .ok (.aload_n 0, 1) := by decide +kernel
theorem dX9_delivers_81 : decode cX9_delivers 81 = .ok (.iload_n 3, 1) := by decide +kernel
theorem dX9_delivers_82 : decode cX9_delivers 82 = .ok (.iload_n 1, 1) := by decide +kernel
theorem dX9_delivers_83 : decode cX9_delivers 83 = .ok (.iconst 0, 1) := by decide +kernel
theorem dX9_delivers_84 : decode cX9_delivers 84 = .ok (.invokevirtual 125, 3) := by decide +kernel
theorem dX9_delivers_87 : decode cX9_delivers 87 = .ok (.aload_n 0, 1) := by decide +kernel
theorem dX9_delivers_88 : decode cX9_delivers 88 = .ok (.iload_n 2, 1) := by decide +kernel
theorem dX9_delivers_89 : decode cX9_delivers 89 = .ok (.iload_n 1, 1) := by decide +kernel
theorem dX9_delivers_90 : decode cX9_delivers 90 = .ok (.iconst 0, 1) := by decide +kernel
theorem dX9_delivers_91 : decode cX9_delivers 91 = .ok (.invokevirtual 125, 3) := by decide +kernel
theorem dX9_delivers_94 : decode cX9_delivers 94 = .ok (.if_icmp .ge 5, 3) := by decide +kernel
theorem dX9_delivers_97 : decode cX9_delivers 97 = .ok (.iload_n 3, 1) := by decide +kernel
theorem dX9_delivers_98 : decode cX9_delivers 98 = .ok (.istore_n 2, 1) := by decide +kernel
theorem dX9_delivers_99 : decode cX9_delivers 99 = .ok (.iinc 3 1, 3) := by decide +kernel
theorem dX9_delivers_102 : decode cX9_delivers 102 = .ok (.goto (-44), 3) := by decide +kernel
theorem dX9_delivers_105 : decode cX9_delivers 105 = .ok (.iload_n 2, 1) := by decide +kernel
theorem dX9_delivers_106 : decode cX9_delivers 106 = .ok (.iconst (-1), 1) := by decide +kernel
theorem dX9_delivers_107 : decode cX9_delivers 107 = .ok (.if_icmp .ne 4, 3) := by decide +kernel
theorem dX9_delivers_110 : decode cX9_delivers 110 = .ok (.return_, 1) := by decide +kernel
theorem dX9_delivers_111 : decode cX9_delivers 111 = .ok (.aload_n 0, 1) := by decide +kernel
theorem dX9_delivers_112 : decode cX9_delivers 112 = .ok (.getfield 35, 3) := by decide +kernel
theorem dX9_delivers_115 : decode cX9_delivers 115 = .ok (.iload_n 2, 1) := by decide +kernel
theorem dX9_delivers_116 : decode cX9_delivers 116 = .ok (.iconst 1, 1) := by decide +kernel
theorem dX9_delivers_117 : decode cX9_delivers 117 = .ok (.bastore, 1) := by decide +kernel
theorem dX9_delivers_118 : decode cX9_delivers 118 = .ok (.aload_n 0, 1) := by decide +kernel
theorem dX9_delivers_119 : decode cX9_delivers 119 = .ok (.iload_n 2, 1) := by decide +kernel
theorem dX9_delivers_120 : decode cX9_delivers 120 = .ok (.iload_n 1, 1) := by decide +kernel
theorem dX9_delivers_121 : decode cX9_delivers 121 = .ok (.invokevirtual 256, 3) := by decide +kernel
theorem dX9_delivers_124 : decode cX9_delivers 124 = .ok (.goto (-75), 3) := by decide +kernel
theorem dX9_delivers_127 : decode cX9_delivers 127 = .ok (.return_, 1) := by decide +kernel
theorem dX9_deliversOf_0 : decode cX9_deliversOf 0 = .ok (.aload_n 0, 1) := by decide +kernel
theorem dX9_deliversOf_1 : decode cX9_deliversOf 1 = .ok (.aload_n 0, 1) := by decide +kernel
theorem dX9_deliversOf_2 : decode cX9_deliversOf 2 = .ok (.iload_n 1, 1) := by decide +kernel
theorem dX9_deliversOf_3 : decode cX9_deliversOf 3 = .ok (.iload_n 2, 1) := by decide +kernel
theorem dX9_deliversOf_4 : decode cX9_deliversOf 4 = .ok (.invokevirtual 182, 3) := by decide +kernel
theorem dX9_deliversOf_7 : decode cX9_deliversOf 7 = .ok (.aload_n 0, 1) := by decide +kernel
theorem dX9_deliversOf_8 : decode cX9_deliversOf 8 = .ok (.iload_n 1, 1) := by decide +kernel
theorem dX9_deliversOf_9 : decode cX9_deliversOf 9 = .ok (.iload_n 2, 1) := by decide +kernel
theorem dX9_deliversOf_10 : decode cX9_deliversOf 10 = .ok (.invokevirtual 98, 3) := by decide +kernel
theorem dX9_deliversOf_13 : decode cX9_deliversOf 13 = .ok (.invokevirtual 131, 3) := by decide +kernel
theorem dX9_deliversOf_16 : decode cX9_deliversOf 16 = .ok (.istore_n 3, 1) := by decide +kernel
theorem dX9_deliversOf_17 : decode cX9_deliversOf 17 = .ok (.iload_n 3, 1) := by decide +kernel
theorem dX9_deliversOf_18 : decode cX9_deliversOf 18 = .ok (.ifCond .ne 4, 3) := by decide +kernel
theorem dX9_deliversOf_21 : decode cX9_deliversOf 21 = .ok (.return_, 1) := by decide +kernel
theorem dX9_deliversOf_22 : decode cX9_deliversOf 22 = .ok (.aload_n 0, 1) := by decide +kernel
theorem dX9_deliversOf_23 : decode cX9_deliversOf 23 = .ok (.iload_n 1, 1) := by decide +kernel
theorem dX9_deliversOf_24 : decode cX9_deliversOf 24 = .ok (.iload_n 2, 1) := by decide +kernel
theorem dX9_deliversOf_25 : decode cX9_deliversOf 25 = .ok (.iload_n 3, 1) := by decide +kernel
theorem dX9_deliversOf_26 : decode cX9_deliversOf 26 = .ok (.ineg, 1) := by decide +kernel
theorem dX9_deliversOf_27 : decode cX9_deliversOf 27 = .ok (.invokevirtual 101, 3) := by decide +kernel
theorem dX9_deliversOf_30 : decode cX9_deliversOf 30 = .ok (.aload_n 0, 1) := by decide +kernel
theorem dX9_deliversOf_31 : decode cX9_deliversOf 31 = .ok (.iload_n 1, 1) := by decide +kernel
theorem dX9_deliversOf_32 : decode cX9_deliversOf 32 = .ok (.iload_n 3, 1) := by decide +kernel
theorem dX9_deliversOf_33 : decode cX9_deliversOf 33 = .ok (.i2l, 1) := by decide +kernel
theorem dX9_deliversOf_34 : decode cX9_deliversOf 34 = .ok (.aload_n 0, 1) := by decide +kernel
theorem dX9_deliversOf_35 : decode cX9_deliversOf 35 = .ok (.iload_n 2, 1) := by decide +kernel
theorem dX9_deliversOf_36 : decode cX9_deliversOf 36 = .ok (.invokevirtual 203, 3) := by decide +kernel
theorem dX9_deliversOf_39 : decode cX9_deliversOf 39 = .ok (.i2l, 1) := by decide +kernel
theorem dX9_deliversOf_40 : decode cX9_deliversOf 40 = .ok (.lmul, 1) := by decide +kernel
theorem dX9_deliversOf_41 : decode cX9_deliversOf 41 = .ok (.invokevirtual 206, 3) := by decide +kernel
theorem dX9_deliversOf_44 : decode cX9_deliversOf 44 = .ok (.aload_n 0, 1) := by decide +kernel
theorem dX9_deliversOf_45 : decode cX9_deliversOf 45 = .ok (.iload_n 1, 1) := by decide +kernel
theorem dX9_deliversOf_46 : decode cX9_deliversOf 46 = .ok (.iload_n 2, 1) := by decide +kernel
theorem dX9_deliversOf_47 : decode cX9_deliversOf 47 = .ok (.iload_n 3, 1) := by decide +kernel
theorem dX9_deliversOf_48 : decode cX9_deliversOf 48 = .ok (.invokevirtual 138, 3) := by decide +kernel
theorem dX9_deliversOf_51 : decode cX9_deliversOf 51 = .ok (.aload_n 0, 1) := by decide +kernel
theorem dX9_deliversOf_52 : decode cX9_deliversOf 52 = .ok (.aload_n 0, 1) := by decide +kernel
theorem dX9_deliversOf_53 : decode cX9_deliversOf 53 = .ok (.getfield 250, 3) := by decide +kernel
theorem dX9_deliversOf_56 : decode cX9_deliversOf 56 = .ok (.iload_n 3, 1) := by decide +kernel
theorem dX9_deliversOf_57 : decode cX9_deliversOf 57 = .ok (.iadd, 1) := by decide +kernel
theorem dX9_deliversOf_58 : decode cX9_deliversOf 58 = .ok (.putfield 250, 3) := by decide +kernel
theorem dX9_deliversOf_61 : decode cX9_deliversOf 61 = .ok (.aload_n 0, 1) := by decide +kernel
theorem dX9_deliversOf_62 : decode cX9_deliversOf 62 = .ok (.iconst 0, 1) := by decide +kernel
theorem dX9_deliversOf_63 : decode cX9_deliversOf 63 = .ok (.iload_n 2, 1) := by decide +kernel
theorem dX9_deliversOf_64 : decode cX9_deliversOf 64 = .ok (.iload_n 1, 1) := by decide +kernel
theorem dX9_deliversOf_65 : decode cX9_deliversOf 65 = .ok (.iconst (-1), 1) := by decide +kernel
theorem dX9_deliversOf_66 : decode cX9_deliversOf 66 = .ok (.iload_n 3, 1) := by decide +kernel
theorem dX9_deliversOf_67 : decode cX9_deliversOf 67 = .ok (.invokevirtual 213, 3) := by decide +kernel
theorem dX9_deliversOf_70 : decode cX9_deliversOf 70 = .ok (.aload_n 0, 1) := by decide +kernel
theorem dX9_deliversOf_71 : decode cX9_deliversOf 71 = .ok (.iload_n 1, 1) := by decide +kernel
theorem dX9_deliversOf_72 : decode cX9_deliversOf 72 = .ok (.iload_n 2, 1) := by decide +kernel
theorem dX9_deliversOf_73 : decode cX9_deliversOf 73 = .ok (.iload_n 3, 1) := by decide +kernel
theorem dX9_deliversOf_74 : decode cX9_deliversOf 74 = .ok (.invokevirtual 253, 3) := by decide +kernel
theorem dX9_deliversOf_77 : decode cX9_deliversOf 77 = .ok (.return_, 1) := by decide +kernel
theorem dX9_demandOf_0 : decode cX9_demandOf 0 = .ok (.lconst 0, 1) := by decide +kernel
theorem dX9_demandOf_1 : decode cX9_demandOf 1 = .ok (.lstore_n 2, 1) := by decide +kernel
theorem dX9_demandOf_2 : decode cX9_demandOf 2 = .ok (.iconst 0, 1) := by decide +kernel
theorem dX9_demandOf_3 : decode cX9_demandOf 3 = .ok (.istore 4, 2) := by decide +kernel
theorem dX9_demandOf_5 : decode cX9_demandOf 5 = .ok (.iload 4, 2) := by decide +kernel
theorem dX9_demandOf_7 : decode cX9_demandOf 7 = .ok (.bipush 6, 2) := by decide +kernel
theorem dX9_demandOf_9 : decode cX9_demandOf 9 = .ok (.if_icmp .ge 109, 3) := by decide +kernel
theorem dX9_demandOf_12 : decode cX9_demandOf 12 = .ok (.iconst 0, 1) := by decide +kernel
theorem dX9_demandOf_13 : decode cX9_demandOf 13 = .ok (.istore 5, 2) := by decide +kernel
theorem dX9_demandOf_15 : decode cX9_demandOf 15 = .ok (.iload 5, 2) := by decide +kernel
theorem dX9_demandOf_17 : decode cX9_demandOf 17 = .ok (.aload_n 0, 1) := by decide +kernel
theorem dX9_demandOf_18 : decode cX9_demandOf 18 = .ok (.iload_n 1, 1) := by decide +kernel
theorem dX9_demandOf_19 : decode cX9_demandOf 19 = .ok (.iload 4, 2) := by decide +kernel
theorem dX9_demandOf_21 : decode cX9_demandOf 21 = .ok (.invokevirtual 110, 3) := by decide +kernel
theorem dX9_demandOf_24 : decode cX9_demandOf 24 = .ok (.if_icmp .ge 88, 3) := by decide +kernel
theorem dX9_demandOf_27 : decode cX9_demandOf 27 = .ok (.aload_n 0, 1) := by decide +kernel
theorem dX9_demandOf_28 : decode cX9_demandOf 28 = .ok (.iload_n 1, 1) := by decide +kernel
theorem dX9_demandOf_29 : decode cX9_demandOf 29 = .ok (.iload 4, 2) := by decide +kernel
theorem dX9_demandOf_31 : decode cX9_demandOf 31 = .ok (.iload 5, 2) := by decide +kernel
theorem dX9_demandOf_33 : decode cX9_demandOf 33 = .ok (.invokevirtual 113, 3) := by decide +kernel
theorem dX9_demandOf_36 : decode cX9_demandOf 36 = .ok (.istore 6, 2) := by decide +kernel
theorem dX9_demandOf_38 : decode cX9_demandOf 38 = .ok (.bipush 10, 2) := by decide +kernel
theorem dX9_demandOf_40 : decode cX9_demandOf 40 = .ok (.iload 6, 2) := by decide +kernel
theorem dX9_demandOf_42 : decode cX9_demandOf 42 = .ok (.ifCond .ge 25, 3) := by decide +kernel
theorem dX9_demandOf_45 : decode cX9_demandOf 45 = .ok (.iconst 5, 1) := by decide +kernel
theorem dX9_demandOf_46 : decode cX9_demandOf 46 = .ok (.aload_n 0, 1) := by decide +kernel
theorem dX9_demandOf_47 : decode cX9_demandOf 47 = .ok (.getfield 7, 3) := by decide +kernel
theorem dX9_demandOf_50 : decode cX9_demandOf 50 = .ok (.bipush 6, 2) := by decide +kernel
theorem dX9_demandOf_52 : decode cX9_demandOf 52 = .ok (.iaload, 1) := by decide +kernel
theorem dX9_demandOf_53 : decode cX9_demandOf 53 = .ok (.aload_n 0, 1) := by decide +kernel
theorem dX9_demandOf_54 : decode cX9_demandOf 54 = .ok (.iload_n 1, 1) := by decide +kernel
theorem dX9_demandOf_55 : decode cX9_demandOf 55 = .ok (.iload 4, 2) := by decide +kernel
theorem dX9_demandOf_57 : decode cX9_demandOf 57 = .ok (.iload 5, 2) := by decide +kernel
theorem dX9_demandOf_59 : decode cX9_demandOf 59 = .ok (.invokevirtual 125, 3) := by decide +kernel
theorem dX9_demandOf_62 : decode cX9_demandOf 62 = .ok (.isub, 1) := by decide +kernel
theorem dX9_demandOf_63 : decode cX9_demandOf 63 = .ok (.imul, 1) := by decide +kernel
theorem dX9_demandOf_64 : decode cX9_demandOf 64 = .ok (.goto 4, 3) := by decide +kernel
theorem dX9_demandOf_67 : decode cX9_demandOf 67 = .ok (.iconst 0, 1) := by decide +kernel
theorem dX9_demandOf_68 : decode cX9_demandOf 68 = .ok (.iadd, 1) := by decide +kernel
theorem dX9_demandOf_69 : decode cX9_demandOf 69 = .ok (.istore 7, 2) := by decide +kernel
theorem dX9_demandOf_71 : decode cX9_demandOf 71 = .ok (.lload_n 2, 1) := by decide +kernel
theorem dX9_demandOf_72 : decode cX9_demandOf 72 = .ok (.aload_n 0, 1) := by decide +kernel
theorem dX9_demandOf_73 : decode cX9_demandOf 73 = .ok (.iload 6, 2) := by decide +kernel
theorem dX9_demandOf_75 : decode cX9_demandOf 75 = .ok (.iload 6, 2) := by decide +kernel
theorem dX9_demandOf_77 : decode cX9_demandOf 77 = .ok (.ineg, 1) := by decide +kernel
theorem dX9_demandOf_78 : decode cX9_demandOf 78 = .ok (.invokevirtual 76, 3) := by decide +kernel
theorem dX9_demandOf_81 : decode cX9_demandOf 81 = .ok (.i2l, 1) := by decide +kernel
theorem dX9_demandOf_82 : decode cX9_demandOf 82 = .ok (.aload_n 0, 1) := by decide +kernel
theorem dX9_demandOf_83 : decode cX9_demandOf 83 = .ok (.iload 4, 2) := by decide +kernel
theorem dX9_demandOf_85 : decode cX9_demandOf 85 = .ok (.invokevirtual 203, 3) := by decide +kernel
theorem dX9_demandOf_88 : decode cX9_demandOf 88 = .ok (.i2l, 1) := by decide +kernel
theorem dX9_demandOf_89 : decode cX9_demandOf 89 = .ok (.lmul, 1) := by decide +kernel
theorem dX9_demandOf_90 : decode cX9_demandOf 90 = .ok (.aload_n 0, 1) := by decide +kernel
theorem dX9_demandOf_91 : decode cX9_demandOf 91 = .ok (.bipush 100, 2) := by decide +kernel
theorem dX9_demandOf_93 : decode cX9_demandOf 93 = .ok (.iload 7, 2) := by decide +kernel
theorem dX9_demandOf_95 : decode cX9_demandOf 95 = .ok (.invokevirtual 131, 3) := by decide +kernel
theorem dX9_demandOf_98 : decode cX9_demandOf 98 = .ok (.i2l, 1) := by decide +kernel
theorem dX9_demandOf_99 : decode cX9_demandOf 99 = .ok (.lmul, 1) := by decide +kernel
theorem dX9_demandOf_100 : decode cX9_demandOf 100 = .ok (.ldc2_w 316, 3) := by decide +kernel
theorem dX9_demandOf_103 : decode cX9_demandOf 103 = .ok (.ldiv, 1) := by decide +kernel
theorem dX9_demandOf_104 : decode cX9_demandOf 104 = .ok (.ladd, 1) := by decide +kernel
theorem dX9_demandOf_105 : decode cX9_demandOf 105 = .ok (.lstore_n 2, 1) := by decide +kernel
theorem dX9_demandOf_106 : decode cX9_demandOf 106 = .ok (.iinc 5 1, 3) := by decide +kernel
theorem dX9_demandOf_109 : decode cX9_demandOf 109 = .ok (.goto (-94), 3) := by decide +kernel
theorem dX9_demandOf_112 : decode cX9_demandOf 112 = .ok (.iinc 4 1, 3) := by decide +kernel
theorem dX9_demandOf_115 : decode cX9_demandOf 115 = .ok (.goto (-110), 3) := by decide +kernel
theorem dX9_demandOf_118 : decode cX9_demandOf 118 = .ok (.lload_n 2, 1) := by decide +kernel
theorem dX9_demandOf_119 : decode cX9_demandOf 119 = .ok (.lreturn, 1) := by decide +kernel
theorem dX9_dividend_0 : decode cX9_dividend 0 = .ok (.aload_n 0, 1) := by decide +kernel
theorem dX9_dividend_1 : decode cX9_dividend 1 = .ok (.iconst 0, 1) := by decide +kernel
theorem dX9_dividend_2 : decode cX9_dividend 2 = .ok (.putfield 58, 3) := by decide +kernel
theorem dX9_dividend_5 : decode cX9_dividend 5 = .ok (.aload_n 0, 1) := by decide +kernel
theorem dX9_dividend_6 : decode cX9_dividend 6 = .ok (.iload_n 1, 1) := by decide +kernel
theorem dX9_dividend_7 : decode cX9_dividend 7 = .ok (.invokevirtual 94, 3) := by decide +kernel
theorem dX9_dividend_10 : decode cX9_dividend 10 = .ok (.ifCond .eq 14, 3) := by decide +kernel
theorem dX9_dividend_13 : decode cX9_dividend 13 = .ok (.aload_n 0, 1) := by decide +kernel
theorem dX9_dividend_14 : decode cX9_dividend 14 = .ok (.iload_n 2, 1) := by decide +kernel
theorem dX9_dividend_15 : decode cX9_dividend 15 = .ok (.iconst 0, 1) := by decide +kernel
theorem dX9_dividend_16 : decode cX9_dividend 16 = .ok (.bipush 99, 2) := by decide +kernel
theorem dX9_dividend_18 : decode cX9_dividend 18 = .ok (.invokevirtual 79, 3) := by decide +kernel
theorem dX9_dividend_21 : decode cX9_dividend 21 = .ok (.ifCond .ne 5, 3) := by decide +kernel
theorem dX9_dividend_24 : decode cX9_dividend 24 = .ok (.iconst 0, 1) := by decide +kernel
theorem dX9_dividend_25 : decode cX9_dividend 25 = .ok (.ireturn, 1) := by decide +kernel
theorem dX9_dividend_26 : decode cX9_dividend 26 = .ok (.aload_n 0, 1) := by decide +kernel
theorem dX9_dividend_27 : decode cX9_dividend 27 = .ok (.getfield 7, 3) := by decide +kernel
theorem dX9_dividend_30 : decode cX9_dividend 30 = .ok (.bipush 28, 2) := by decide +kernel
theorem dX9_dividend_32 : decode cX9_dividend 32 = .ok (.iload_n 1, 1) := by decide +kernel
theorem dX9_dividend_33 : decode cX9_dividend 33 = .ok (.iadd, 1) := by decide +kernel
theorem dX9_dividend_34 : decode cX9_dividend 34 = .ok (.iload_n 2, 1) := by decide +kernel
theorem dX9_dividend_35 : decode cX9_dividend 35 = .ok (.iastore, 1) := by decide +kernel
theorem dX9_dividend_36 : decode cX9_dividend 36 = .ok (.iconst 1, 1) := by decide +kernel
theorem dX9_dividend_37 : decode cX9_dividend 37 = .ok (.ireturn, 1) := by decide +kernel
theorem dX9_doesApart_0 : decode cX9_doesApart 0 = .ok (.iconst 0, 1) := by decide +kernel
theorem dX9_doesApart_1 : decode cX9_doesApart 1 = .ok (.istore_n 2, 1) := by decide +kernel
theorem dX9_doesApart_2 : decode cX9_doesApart 2 = .ok (.iload_n 2, 1) := by decide +kernel
theorem dX9_doesApart_3 : decode cX9_doesApart 3 = .ok (.aload_n 0, 1) := by decide +kernel
theorem dX9_doesApart_4 : decode cX9_doesApart 4 = .ok (.getfield 7, 3) := by decide +kernel
theorem dX9_doesApart_7 : decode cX9_doesApart 7 = .ok (.bipush 7, 2) := by decide +kernel
theorem dX9_doesApart_9 : decode cX9_doesApart 9 = .ok (.iaload, 1) := by decide +kernel
theorem dX9_doesApart_10 : decode cX9_doesApart 10 = .ok (.if_icmp .ge 135, 3) := by decide +kernel
theorem dX9_doesApart_13 : decode cX9_doesApart 13 = .ok (.aload_n 0, 1) := by decide +kernel
theorem dX9_doesApart_14 : decode cX9_doesApart 14 = .ok (.iload_n 2, 1) := by decide +kernel
theorem dX9_doesApart_15 : decode cX9_doesApart 15 = .ok (.iload_n 1, 1) := by decide +kernel
theorem dX9_doesApart_16 : decode cX9_doesApart 16 = .ok (.iconst 1, 1) := by decide +kernel
theorem dX9_doesApart_17 : decode cX9_doesApart 17 = .ok (.invokevirtual 217, 3) := by decide +kernel
theorem dX9_doesApart_20 : decode cX9_doesApart 20 = .ok (.ifCond .ne 6, 3) := by decide +kernel
theorem dX9_doesApart_23 : decode cX9_doesApart 23 = .ok (.goto 116, 3) := by decide +kernel
theorem dX9_doesApart_26 : decode cX9_doesApart 26 = .ok (.aload_n 0, 1) := by decide +kernel
theorem dX9_doesApart_27 : decode cX9_doesApart 27 = .ok (.iload_n 2, 1) := by decide +kernel
theorem dX9_doesApart_28 : decode cX9_doesApart 28 = .ok (.bipush 7, 2) := by decide +kernel
theorem dX9_doesApart_30 : decode cX9_doesApart 30 = .ok (.invokevirtual 151, 3) := by decide +kernel
theorem dX9_doesApart_33 : decode cX9_doesApart 33 = .ok (.istore_n 3, 1) := by decide +kernel
theorem dX9_doesApart_34 : decode cX9_doesApart 34 = .ok (.aload_n 0, 1) := by decide +kernel
theorem dX9_doesApart_35 : decode cX9_doesApart 35 = .ok (.iload_n 2, 1) := by decide +kernel
theorem dX9_doesApart_36 : decode cX9_doesApart 36 = .ok (.iconst 0, 1) := by decide +kernel
theorem dX9_doesApart_37 : decode cX9_doesApart 37 = .ok (.invokevirtual 151, 3) := by decide +kernel
theorem dX9_doesApart_40 : decode cX9_doesApart 40 = .ok (.istore 4, 2) := by decide +kernel
theorem dX9_doesApart_42 : decode cX9_doesApart 42 = .ok (.aload_n 0, 1) := by decide +kernel
theorem dX9_doesApart_43 : decode cX9_doesApart 43 = .ok (.iload_n 2, 1) := by decide +kernel
theorem dX9_doesApart_44 : decode cX9_doesApart 44 = .ok (.iconst 1, 1) := by decide +kernel
theorem dX9_doesApart_45 : decode cX9_doesApart 45 = .ok (.invokevirtual 151, 3) := by decide +kernel
theorem dX9_doesApart_48 : decode cX9_doesApart 48 = .ok (.istore 5, 2) := by decide +kernel
theorem dX9_doesApart_50 : decode cX9_doesApart 50 = .ok (.aload_n 0, 1) := by decide +kernel
theorem dX9_doesApart_51 : decode cX9_doesApart 51 = .ok (.iload 5, 2) := by decide +kernel
theorem dX9_doesApart_53 : decode cX9_doesApart 53 = .ok (.iload_n 1, 1) := by decide +kernel
theorem dX9_doesApart_54 : decode cX9_doesApart 54 = .ok (.invokevirtual 98, 3) := by decide +kernel
theorem dX9_doesApart_57 : decode cX9_doesApart 57 = .ok (.iload_n 3, 1) := by decide +kernel
theorem dX9_doesApart_58 : decode cX9_doesApart 58 = .ok (.if_icmp .ge 6, 3) := by decide +kernel
theorem dX9_doesApart_61 : decode cX9_doesApart 61 = .ok (.goto 78, 3) := by decide +kernel
theorem dX9_doesApart_64 : decode cX9_doesApart 64 = .ok (.aload_n 0, 1) := by decide +kernel
theorem dX9_doesApart_65 : decode cX9_doesApart 65 = .ok (.iload 5, 2) := by decide +kernel
theorem dX9_doesApart_67 : decode cX9_doesApart 67 = .ok (.iload_n 1, 1) := by decide +kernel
theorem dX9_doesApart_68 : decode cX9_doesApart 68 = .ok (.iload_n 3, 1) := by decide +kernel
theorem dX9_doesApart_69 : decode cX9_doesApart 69 = .ok (.ineg, 1) := by decide +kernel
theorem dX9_doesApart_70 : decode cX9_doesApart 70 = .ok (.invokevirtual 101, 3) := by decide +kernel
theorem dX9_doesApart_73 : decode cX9_doesApart 73 = .ok (.aload_n 0, 1) := by decide +kernel
theorem dX9_doesApart_74 : decode cX9_doesApart 74 = .ok (.iload 4, 2) := by decide +kernel
theorem dX9_doesApart_76 : decode cX9_doesApart 76 = .ok (.iload_n 1, 1) := by decide +kernel
theorem dX9_doesApart_77 : decode cX9_doesApart 77 = .ok (.iload_n 3, 1) := by decide +kernel
theorem dX9_doesApart_78 : decode cX9_doesApart 78 = .ok (.invokevirtual 101, 3) := by decide +kernel
theorem dX9_doesApart_81 : decode cX9_doesApart 81 = .ok (.aload_n 0, 1) := by decide +kernel
theorem dX9_doesApart_82 : decode cX9_doesApart 82 = .ok (.iload 4, 2) := by decide +kernel
theorem dX9_doesApart_84 : decode cX9_doesApart 84 = .ok (.iload_n 3, 1) := by decide +kernel
theorem dX9_doesApart_85 : decode cX9_doesApart 85 = .ok (.i2l, 1) := by decide +kernel
theorem dX9_doesApart_86 : decode cX9_doesApart 86 = .ok (.lneg, 1) := by decide +kernel
theorem dX9_doesApart_87 : decode cX9_doesApart 87 = .ok (.aload_n 0, 1) := by decide +kernel
theorem dX9_doesApart_88 : decode cX9_doesApart 88 = .ok (.iload_n 2, 1) := by decide +kernel
theorem dX9_doesApart_89 : decode cX9_doesApart 89 = .ok (.iconst 4, 1) := by decide +kernel
theorem dX9_doesApart_90 : decode cX9_doesApart 90 = .ok (.invokevirtual 151, 3) := by decide +kernel
theorem dX9_doesApart_93 : decode cX9_doesApart 93 = .ok (.i2l, 1) := by decide +kernel
theorem dX9_doesApart_94 : decode cX9_doesApart 94 = .ok (.lmul, 1) := by decide +kernel
theorem dX9_doesApart_95 : decode cX9_doesApart 95 = .ok (.invokevirtual 206, 3) := by decide +kernel
theorem dX9_doesApart_98 : decode cX9_doesApart 98 = .ok (.aload_n 0, 1) := by decide +kernel
theorem dX9_doesApart_99 : decode cX9_doesApart 99 = .ok (.iload 5, 2) := by decide +kernel
theorem dX9_doesApart_101 : decode cX9_doesApart 101 = .ok (.iload_n 3, 1) := by decide +kernel
theorem dX9_doesApart_102 : decode cX9_doesApart 102 = .ok (.i2l, 1) := by decide +kernel
theorem dX9_doesApart_103 : decode cX9_doesApart 103 = .ok (.aload_n 0, 1) := by decide +kernel
theorem dX9_doesApart_104 : decode cX9_doesApart 104 = .ok (.iload_n 2, 1) := by decide +kernel
theorem dX9_doesApart_105 : decode cX9_doesApart 105 = .ok (.iconst 4, 1) := by decide +kernel
theorem dX9_doesApart_106 : decode cX9_doesApart 106 = .ok (.invokevirtual 151, 3) := by decide +kernel
theorem dX9_doesApart_109 : decode cX9_doesApart 109 = .ok (.i2l, 1) := by decide +kernel
theorem dX9_doesApart_110 : decode cX9_doesApart 110 = .ok (.lmul, 1) := by decide +kernel
theorem dX9_doesApart_111 : decode cX9_doesApart 111 = .ok (.invokevirtual 206, 3) := by decide +kernel
theorem dX9_doesApart_114 : decode cX9_doesApart 114 = .ok (.aload_n 0, 1) := by decide +kernel
theorem dX9_doesApart_115 : decode cX9_doesApart 115 = .ok (.getfield 7, 3) := by decide +kernel
theorem dX9_doesApart_118 : decode cX9_doesApart 118 = .ok (.aload_n 0, 1) := by decide +kernel
theorem dX9_doesApart_119 : decode cX9_doesApart 119 = .ok (.iload_n 2, 1) := by decide +kernel
theorem dX9_doesApart_120 : decode cX9_doesApart 120 = .ok (.invokevirtual 141, 3) := by decide +kernel
theorem dX9_doesApart_123 : decode cX9_doesApart 123 = .ok (.bipush 7, 2) := by decide +kernel
theorem dX9_doesApart_125 : decode cX9_doesApart 125 = .ok (.iadd, 1) := by decide +kernel
theorem dX9_doesApart_126 : decode cX9_doesApart 126 = .ok (.iconst 0, 1) := by decide +kernel
theorem dX9_doesApart_127 : decode cX9_doesApart 127 = .ok (.iastore, 1) := by decide +kernel
theorem dX9_doesApart_128 : decode cX9_doesApart 128 = .ok (.aload_n 0, 1) := by decide +kernel
theorem dX9_doesApart_129 : decode cX9_doesApart 129 = .ok (.iconst 3, 1) := by decide +kernel
theorem dX9_doesApart_130 : decode cX9_doesApart 130 = .ok (.iload_n 1, 1) := by decide +kernel
theorem dX9_doesApart_131 : decode cX9_doesApart 131 = .ok (.iload 5, 2) := by decide +kernel
theorem dX9_doesApart_133 : decode cX9_doesApart 133 = .ok (.iload 4, 2) := by decide +kernel
theorem dX9_doesApart_135 : decode cX9_doesApart 135 = .ok (.iload_n 3, 1) := by decide +kernel
theorem dX9_doesApart_136 : decode cX9_doesApart 136 = .ok (.invokevirtual 213, 3) := by decide +kernel
theorem dX9_doesApart_139 : decode cX9_doesApart 139 = .ok (.iinc 2 1, 3) := by decide +kernel
theorem dX9_doesApart_142 : decode cX9_doesApart 142 = .ok (.goto (-140), 3) := by decide +kernel
theorem dX9_doesApart_145 : decode cX9_doesApart 145 = .ok (.return_, 1) := by decide +kernel
theorem dX9_dropsLot_0 : decode cX9_dropsLot 0 = .ok (.iload_n 3, 1) := by decide +kernel
theorem dX9_dropsLot_1 : decode cX9_dropsLot 1 = .ok (.istore 4, 2) := by decide +kernel
theorem dX9_dropsLot_3 : decode cX9_dropsLot 3 = .ok (.iload 4, 2) := by decide +kernel
theorem dX9_dropsLot_5 : decode cX9_dropsLot 5 = .ok (.aload_n 0, 1) := by decide +kernel
theorem dX9_dropsLot_6 : decode cX9_dropsLot 6 = .ok (.iload_n 1, 1) := by decide +kernel
theorem dX9_dropsLot_7 : decode cX9_dropsLot 7 = .ok (.iload_n 2, 1) := by decide +kernel
theorem dX9_dropsLot_8 : decode cX9_dropsLot 8 = .ok (.invokevirtual 110, 3) := by decide +kernel
theorem dX9_dropsLot_11 : decode cX9_dropsLot 11 = .ok (.iconst 1, 1) := by decide +kernel
theorem dX9_dropsLot_12 : decode cX9_dropsLot 12 = .ok (.isub, 1) := by decide +kernel
theorem dX9_dropsLot_13 : decode cX9_dropsLot 13 = .ok (.if_icmp .ge 63, 3) := by decide +kernel
theorem dX9_dropsLot_16 : decode cX9_dropsLot 16 = .ok (.aload_n 0, 1) := by decide +kernel
theorem dX9_dropsLot_17 : decode cX9_dropsLot 17 = .ok (.getfield 7, 3) := by decide +kernel
theorem dX9_dropsLot_20 : decode cX9_dropsLot 20 = .ok (.sipush 420, 3) := by decide +kernel
theorem dX9_dropsLot_23 : decode cX9_dropsLot 23 = .ok (.aload_n 0, 1) := by decide +kernel
theorem dX9_dropsLot_24 : decode cX9_dropsLot 24 = .ok (.iload_n 1, 1) := by decide +kernel
theorem dX9_dropsLot_25 : decode cX9_dropsLot 25 = .ok (.iload_n 2, 1) := by decide +kernel
theorem dX9_dropsLot_26 : decode cX9_dropsLot 26 = .ok (.iload 4, 2) := by decide +kernel
theorem dX9_dropsLot_28 : decode cX9_dropsLot 28 = .ok (.invokevirtual 106, 3) := by decide +kernel
theorem dX9_dropsLot_31 : decode cX9_dropsLot 31 = .ok (.iadd, 1) := by decide +kernel
theorem dX9_dropsLot_32 : decode cX9_dropsLot 32 = .ok (.aload_n 0, 1) := by decide +kernel
theorem dX9_dropsLot_33 : decode cX9_dropsLot 33 = .ok (.iload_n 1, 1) := by decide +kernel
theorem dX9_dropsLot_34 : decode cX9_dropsLot 34 = .ok (.iload_n 2, 1) := by decide +kernel
theorem dX9_dropsLot_35 : decode cX9_dropsLot 35 = .ok (.iload 4, 2) := by decide +kernel
theorem dX9_dropsLot_37 : decode cX9_dropsLot 37 = .ok (.iconst 1, 1) := by decide +kernel
theorem dX9_dropsLot_38 : decode cX9_dropsLot 38 = .ok (.iadd, 1) := by decide +kernel
theorem dX9_dropsLot_39 : decode cX9_dropsLot 39 = .ok (.invokevirtual 125, 3) := by decide +kernel
theorem dX9_dropsLot_42 : decode cX9_dropsLot 42 = .ok (.iastore, 1) := by decide +kernel
theorem dX9_dropsLot_43 : decode cX9_dropsLot 43 = .ok (.aload_n 0, 1) := by decide +kernel
theorem dX9_dropsLot_44 : decode cX9_dropsLot 44 = .ok (.getfield 7, 3) := by decide +kernel
theorem dX9_dropsLot_47 : decode cX9_dropsLot 47 = .ok (.sipush 7764, 3) := by decide +kernel
theorem dX9_dropsLot_50 : decode cX9_dropsLot 50 = .ok (.aload_n 0, 1) := by decide +kernel
theorem dX9_dropsLot_51 : decode cX9_dropsLot 51 = .ok (.iload_n 1, 1) := by decide +kernel
theorem dX9_dropsLot_52 : decode cX9_dropsLot 52 = .ok (.iload_n 2, 1) := by decide +kernel
theorem dX9_dropsLot_53 : decode cX9_dropsLot 53 = .ok (.iload 4, 2) := by decide +kernel
theorem dX9_dropsLot_55 : decode cX9_dropsLot 55 = .ok (.invokevirtual 106, 3) := by decide +kernel
theorem dX9_dropsLot_58 : decode cX9_dropsLot 58 = .ok (.iadd, 1) := by decide +kernel
theorem dX9_dropsLot_59 : decode cX9_dropsLot 59 = .ok (.aload_n 0, 1) := by decide +kernel
theorem dX9_dropsLot_60 : decode cX9_dropsLot 60 = .ok (.iload_n 1, 1) := by decide +kernel
theorem dX9_dropsLot_61 : decode cX9_dropsLot 61 = .ok (.iload_n 2, 1) := by decide +kernel
theorem dX9_dropsLot_62 : decode cX9_dropsLot 62 = .ok (.iload 4, 2) := by decide +kernel
theorem dX9_dropsLot_64 : decode cX9_dropsLot 64 = .ok (.iconst 1, 1) := by decide +kernel
theorem dX9_dropsLot_65 : decode cX9_dropsLot 65 = .ok (.iadd, 1) := by decide +kernel
theorem dX9_dropsLot_66 : decode cX9_dropsLot 66 = .ok (.invokevirtual 113, 3) := by decide +kernel
theorem dX9_dropsLot_69 : decode cX9_dropsLot 69 = .ok (.iastore, 1) := by decide +kernel
theorem dX9_dropsLot_70 : decode cX9_dropsLot 70 = .ok (.iinc 4 1, 3) := by decide +kernel
theorem dX9_dropsLot_73 : decode cX9_dropsLot 73 = .ok (.goto (-70), 3) := by decide +kernel
theorem dX9_dropsLot_76 : decode cX9_dropsLot 76 = .ok (.aload_n 0, 1) := by decide +kernel
theorem dX9_dropsLot_77 : decode cX9_dropsLot 77 = .ok (.getfield 7, 3) := by decide +kernel
theorem dX9_dropsLot_80 : decode cX9_dropsLot 80 = .ok (.sipush 348, 3) := by decide +kernel
theorem dX9_dropsLot_83 : decode cX9_dropsLot 83 = .ok (.aload_n 0, 1) := by decide +kernel
theorem dX9_dropsLot_84 : decode cX9_dropsLot 84 = .ok (.iload_n 1, 1) := by decide +kernel
theorem dX9_dropsLot_85 : decode cX9_dropsLot 85 = .ok (.iload_n 2, 1) := by decide +kernel
theorem dX9_dropsLot_86 : decode cX9_dropsLot 86 = .ok (.invokevirtual 65, 3) := by decide +kernel
theorem dX9_dropsLot_89 : decode cX9_dropsLot 89 = .ok (.iadd, 1) := by decide +kernel
theorem dX9_dropsLot_90 : decode cX9_dropsLot 90 = .ok (.aload_n 0, 1) := by decide +kernel
theorem dX9_dropsLot_91 : decode cX9_dropsLot 91 = .ok (.iload_n 1, 1) := by decide +kernel
theorem dX9_dropsLot_92 : decode cX9_dropsLot 92 = .ok (.iload_n 2, 1) := by decide +kernel
theorem dX9_dropsLot_93 : decode cX9_dropsLot 93 = .ok (.invokevirtual 110, 3) := by decide +kernel
theorem dX9_dropsLot_96 : decode cX9_dropsLot 96 = .ok (.iconst 1, 1) := by decide +kernel
theorem dX9_dropsLot_97 : decode cX9_dropsLot 97 = .ok (.isub, 1) := by decide +kernel
theorem dX9_dropsLot_98 : decode cX9_dropsLot 98 = .ok (.iastore, 1) := by decide +kernel
theorem dX9_dropsLot_99 : decode cX9_dropsLot 99 = .ok (.return_, 1) := by decide +kernel
theorem dX9_eldest_0 : decode cX9_eldest 0 = .ok (.iconst (-1), 1) := by decide +kernel
theorem dX9_eldest_1 : decode cX9_eldest 1 = .ok (.istore_n 2, 1) := by decide +kernel
theorem dX9_eldest_2 : decode cX9_eldest 2 = .ok (.iconst 0, 1) := by decide +kernel
theorem dX9_eldest_3 : decode cX9_eldest 3 = .ok (.istore_n 3, 1) := by decide +kernel
theorem dX9_eldest_4 : decode cX9_eldest 4 = .ok (.iload_n 3, 1) := by decide +kernel
theorem dX9_eldest_5 : decode cX9_eldest 5 = .ok (.aload_n 0, 1) := by decide +kernel
theorem dX9_eldest_6 : decode cX9_eldest 6 = .ok (.invokevirtual 61, 3) := by decide +kernel
theorem dX9_eldest_9 : decode cX9_eldest 9 = .ok (.if_icmp .ge 42, 3) := by decide +kernel
theorem dX9_eldest_12 : decode cX9_eldest 12 = .ok (.aload_n 0, 1) := by decide +kernel
theorem dX9_eldest_13 : decode cX9_eldest 13 = .ok (.iload_n 3, 1) := by decide +kernel
theorem dX9_eldest_14 : decode cX9_eldest 14 = .ok (.iload_n 1, 1) := by decide +kernel
theorem dX9_eldest_15 : decode cX9_eldest 15 = .ok (.invokevirtual 110, 3) := by decide +kernel
theorem dX9_eldest_18 : decode cX9_eldest 18 = .ok (.ifCond .le 27, 3) := by decide +kernel
theorem dX9_eldest_21 : decode cX9_eldest 21 = .ok (.iload_n 2, 1) := by decide +kernel
theorem dX9_eldest_22 : decode cX9_eldest 22 = .ok (.iconst (-1), 1) := by decide +kernel
theorem dX9_eldest_23 : decode cX9_eldest 23 = .ok (.if_icmp .eq 14, 3) := by decide +kernel
theorem dX9_eldest_26 : decode cX9_eldest 26 = .ok (.aload_n 0, 1) := by decide +kernel
theorem dX9_eldest_27 : decode cX9_eldest 27 = .ok (.iload_n 3, 1) := by decide +kernel
theorem dX9_eldest_28 : decode cX9_eldest 28 = .ok (.iload_n 1, 1) := by decide +kernel
theorem dX9_eldest_29 : decode cX9_eldest 29 = .ok (.iconst 0, 1) := by decide +kernel
theorem dX9_eldest_30 : decode cX9_eldest 30 = .ok (.invokevirtual 125, 3) := by decide +kernel
theorem dX9_eldest_33 : decode cX9_eldest 33 = .ok (.iload_n 2, 1) := by decide +kernel
theorem dX9_eldest_34 : decode cX9_eldest 34 = .ok (.if_icmp .ge 11, 3) := by decide +kernel
theorem dX9_eldest_37 : decode cX9_eldest 37 = .ok (.aload_n 0, 1) := by decide +kernel
theorem dX9_eldest_38 : decode cX9_eldest 38 = .ok (.iload_n 3, 1) := by decide +kernel
theorem dX9_eldest_39 : decode cX9_eldest 39 = .ok (.iload_n 1, 1) := by decide +kernel
theorem dX9_eldest_40 : decode cX9_eldest 40 = .ok (.iconst 0, 1) := by decide +kernel
theorem dX9_eldest_41 : decode cX9_eldest 41 = .ok (.invokevirtual 125, 3) := by decide +kernel
theorem dX9_eldest_44 : decode cX9_eldest 44 = .ok (.istore_n 2, 1) := by decide +kernel
theorem dX9_eldest_45 : decode cX9_eldest 45 = .ok (.iinc 3 1, 3) := by decide +kernel
theorem dX9_eldest_48 : decode cX9_eldest 48 = .ok (.goto (-44), 3) := by decide +kernel
theorem dX9_eldest_51 : decode cX9_eldest 51 = .ok (.iload_n 2, 1) := by decide +kernel
theorem dX9_eldest_52 : decode cX9_eldest 52 = .ok (.ireturn, 1) := by decide +kernel
theorem dX9_end_0 : decode cX9_end 0 = .ok (.aload_n 0, 1) := by decide +kernel
theorem dX9_end_1 : decode cX9_end 1 = .ok (.iconst 0, 1) := by decide +kernel
theorem dX9_end_2 : decode cX9_end 2 = .ok (.putfield 58, 3) := by decide +kernel
theorem dX9_end_5 : decode cX9_end 5 = .ok (.aload_n 0, 1) := by decide +kernel
theorem dX9_end_6 : decode cX9_end 6 = .ok (.iload_n 1, 1) := by decide +kernel
theorem dX9_end_7 : decode cX9_end 7 = .ok (.iconst 0, 1) := by decide +kernel
theorem dX9_end_8 : decode cX9_end 8 = .ok (.aload_n 0, 1) := by decide +kernel
theorem dX9_end_9 : decode cX9_end 9 = .ok (.getfield 344, 3) := by decide +kernel
theorem dX9_end_12 : decode cX9_end 12 = .ok (.invokevirtual 79, 3) := by decide +kernel
theorem dX9_end_15 : decode cX9_end 15 = .ok (.ifCond .ne 5, 3) := by decide +kernel
theorem dX9_end_18 : decode cX9_end 18 = .ok (.iconst 0, 1) := by decide +kernel
theorem dX9_end_19 : decode cX9_end 19 = .ok (.ireturn, 1) := by decide +kernel
theorem dX9_end_20 : decode cX9_end 20 = .ok (.aload_n 0, 1) := by decide +kernel
theorem dX9_end_21 : decode cX9_end 21 = .ok (.iload_n 1, 1) := by decide +kernel
theorem dX9_end_22 : decode cX9_end 22 = .ok (.putfield 344, 3) := by decide +kernel
theorem dX9_end_25 : decode cX9_end 25 = .ok (.iconst 1, 1) := by decide +kernel
theorem dX9_end_26 : decode cX9_end 26 = .ok (.ireturn, 1) := by decide +kernel
theorem dX9_errs_0 : decode cX9_errs 0 = .ok (.aload_n 0, 1) := by decide +kernel
theorem dX9_errs_1 : decode cX9_errs 1 = .ok (.iload_n 1, 1) := by decide +kernel
theorem dX9_errs_2 : decode cX9_errs 2 = .ok (.putfield 374, 3) := by decide +kernel
theorem dX9_errs_5 : decode cX9_errs 5 = .ok (.aload_n 0, 1) := by decide +kernel
theorem dX9_errs_6 : decode cX9_errs 6 = .ok (.aload_n 0, 1) := by decide +kernel
theorem dX9_errs_7 : decode cX9_errs 7 = .ok (.getfield 356, 3) := by decide +kernel
theorem dX9_errs_10 : decode cX9_errs 10 = .ok (.putfield 377, 3) := by decide +kernel
theorem dX9_errs_13 : decode cX9_errs 13 = .ok (.iconst (-1), 1) := by decide +kernel
theorem dX9_errs_14 : decode cX9_errs 14 = .ok (.ireturn, 1) := by decide +kernel
theorem dX9_fails_0 : decode cX9_fails 0 = .ok (.aload_n 0, 1) := by decide +kernel
theorem dX9_fails_1 : decode cX9_fails 1 = .ok (.iload_n 1, 1) := by decide +kernel
theorem dX9_fails_2 : decode cX9_fails 2 = .ok (.iload_n 2, 1) := by decide +kernel
theorem dX9_fails_3 : decode cX9_fails 3 = .ok (.invokevirtual 116, 3) := by decide +kernel
theorem dX9_fails_6 : decode cX9_fails 6 = .ok (.ifCond .ne 4, 3) := by decide +kernel
theorem dX9_fails_9 : decode cX9_fails 9 = .ok (.return_, 1) := by decide +kernel
theorem dX9_fails_10 : decode cX9_fails 10 = .ok (.aload_n 0, 1) := by decide +kernel
theorem dX9_fails_11 : decode cX9_fails 11 = .ok (.iload_n 1, 1) := by decide +kernel
theorem dX9_fails_12 : decode cX9_fails 12 = .ok (.iload_n 2, 1) := by decide +kernel
theorem dX9_fails_13 : decode cX9_fails 13 = .ok (.invokevirtual 182, 3) := by decide +kernel
theorem dX9_fails_16 : decode cX9_fails 16 = .ok (.i2l, 1) := by decide +kernel
theorem dX9_fails_17 : decode cX9_fails 17 = .ok (.aload_n 0, 1) := by decide +kernel
theorem dX9_fails_18 : decode cX9_fails 18 = .ok (.iload_n 2, 1) := by decide +kernel
theorem dX9_fails_19 : decode cX9_fails 19 = .ok (.invokevirtual 203, 3) := by decide +kernel
theorem dX9_fails_22 : decode cX9_fails 22 = .ok (.i2l, 1) := by decide +kernel
theorem dX9_fails_23 : decode cX9_fails 23 = .ok (.lmul, 1) := by decide +kernel
theorem dX9_fails_24 : decode cX9_fails 24 = .ok (.aload_n 0, 1) := by decide +kernel
theorem dX9_fails_25 : decode cX9_fails 25 = .ok (.getfield 7, 3) := by decide +kernel
theorem dX9_fails_28 : decode cX9_fails 28 = .ok (.bipush 12, 2) := by decide +kernel
theorem dX9_fails_30 : decode cX9_fails 30 = .ok (.iaload, 1) := by decide +kernel
theorem dX9_fails_31 : decode cX9_fails 31 = .ok (.i2l, 1) := by decide +kernel
theorem dX9_fails_32 : decode cX9_fails 32 = .ok (.lmul, 1) := by decide +kernel
theorem dX9_fails_33 : decode cX9_fails 33 = .ok (.ldc2_w 277, 3) := by decide +kernel
theorem dX9_fails_36 : decode cX9_fails 36 = .ok (.ldiv, 1) := by decide +kernel
theorem dX9_fails_37 : decode cX9_fails 37 = .ok (.lstore_n 3, 1) := by decide +kernel
theorem dX9_fails_38 : decode cX9_fails 38 = .ok (.aload_n 0, 1) := by decide +kernel
theorem dX9_fails_39 : decode cX9_fails 39 = .ok (.getfield 7, 3) := by decide +kernel
theorem dX9_fails_42 : decode cX9_fails 42 = .ok (.sipush 19710, 3) := by decide +kernel
theorem dX9_fails_45 : decode cX9_fails 45 = .ok (.aload_n 0, 1) := by decide +kernel
theorem dX9_fails_46 : decode cX9_fails 46 = .ok (.iload_n 1, 1) := by decide +kernel
theorem dX9_fails_47 : decode cX9_fails 47 = .ok (.iload_n 2, 1) := by decide +kernel
theorem dX9_fails_48 : decode cX9_fails 48 = .ok (.invokevirtual 65, 3) := by decide +kernel
theorem dX9_fails_51 : decode cX9_fails 51 = .ok (.iadd, 1) := by decide +kernel
theorem dX9_fails_52 : decode cX9_fails 52 = .ok (.aload_n 0, 1) := by decide +kernel
theorem dX9_fails_53 : decode cX9_fails 53 = .ok (.getfield 7, 3) := by decide +kernel
theorem dX9_fails_56 : decode cX9_fails 56 = .ok (.sipush 19710, 3) := by decide +kernel
theorem dX9_fails_59 : decode cX9_fails 59 = .ok (.aload_n 0, 1) := by decide +kernel
theorem dX9_fails_60 : decode cX9_fails 60 = .ok (.iload_n 1, 1) := by decide +kernel
theorem dX9_fails_61 : decode cX9_fails 61 = .ok (.iload_n 2, 1) := by decide +kernel
theorem dX9_fails_62 : decode cX9_fails 62 = .ok (.invokevirtual 65, 3) := by decide +kernel
theorem dX9_fails_65 : decode cX9_fails 65 = .ok (.iadd, 1) := by decide +kernel
theorem dX9_fails_66 : decode cX9_fails 66 = .ok (.iaload, 1) := by decide +kernel
theorem dX9_fails_67 : decode cX9_fails 67 = .ok (.iconst 1, 1) := by decide +kernel
theorem dX9_fails_68 : decode cX9_fails 68 = .ok (.iadd, 1) := by decide +kernel
theorem dX9_fails_69 : decode cX9_fails 69 = .ok (.iastore, 1) := by decide +kernel
theorem dX9_fails_70 : decode cX9_fails 70 = .ok (.aload_n 0, 1) := by decide +kernel
theorem dX9_fails_71 : decode cX9_fails 71 = .ok (.iload_n 1, 1) := by decide +kernel
theorem dX9_fails_72 : decode cX9_fails 72 = .ok (.lload_n 3, 1) := by decide +kernel
theorem dX9_fails_73 : decode cX9_fails 73 = .ok (.lneg, 1) := by decide +kernel
theorem dX9_fails_74 : decode cX9_fails 74 = .ok (.invokevirtual 206, 3) := by decide +kernel
theorem dX9_fails_77 : decode cX9_fails 77 = .ok (.aload_n 0, 1) := by decide +kernel
theorem dX9_fails_78 : decode cX9_fails 78 = .ok (.getfield 16, 3) := by decide +kernel
theorem dX9_fails_81 : decode cX9_fails 81 = .ok (.bipush 12, 2) := by decide +kernel
theorem dX9_fails_83 : decode cX9_fails 83 = .ok (.aload_n 0, 1) := by decide +kernel
theorem dX9_fails_84 : decode cX9_fails 84 = .ok (.getfield 16, 3) := by decide +kernel
theorem dX9_fails_87 : decode cX9_fails 87 = .ok (.bipush 12, 2) := by decide +kernel
theorem dX9_fails_89 : decode cX9_fails 89 = .ok (.laload, 1) := by decide +kernel
theorem dX9_fails_90 : decode cX9_fails 90 = .ok (.lload_n 3, 1) := by decide +kernel
theorem dX9_fails_91 : decode cX9_fails 91 = .ok (.ladd, 1) := by decide +kernel
theorem dX9_fails_92 : decode cX9_fails 92 = .ok (.lastore, 1) := by decide +kernel
theorem dX9_fails_93 : decode cX9_fails 93 = .ok (.return_, 1) := by decide +kernel
theorem dX9_fault_0 : decode cX9_fault 0 = .ok (.aload_n 0, 1) := by decide +kernel
theorem dX9_fault_1 : decode cX9_fault 1 = .ok (.iconst 0, 1) := by decide +kernel
theorem dX9_fault_2 : decode cX9_fault 2 = .ok (.putfield 58, 3) := by decide +kernel
theorem dX9_fault_5 : decode cX9_fault 5 = .ok (.iload_n 1, 1) := by decide +kernel
theorem dX9_fault_6 : decode cX9_fault 6 = .ok (.ifCond .ne 10, 3) := by decide +kernel
theorem dX9_fault_9 : decode cX9_fault 9 = .ok (.aload_n 0, 1) := by decide +kernel
theorem dX9_fault_10 : decode cX9_fault 10 = .ok (.getfield 401, 3) := by decide +kernel
theorem dX9_fault_13 : decode cX9_fault 13 = .ok (.goto 16, 3) := by decide +kernel
theorem dX9_fault_16 : decode cX9_fault 16 = .ok (.iload_n 1, 1) := by decide +kernel
theorem dX9_fault_17 : decode cX9_fault 17 = .ok (.iconst 1, 1) := by decide +kernel
theorem dX9_fault_18 : decode cX9_fault 18 = .ok (.if_icmp .ne 10, 3) := by decide +kernel
theorem dX9_fault_21 : decode cX9_fault 21 = .ok (.aload_n 0, 1) := by decide +kernel
theorem dX9_fault_22 : decode cX9_fault 22 = .ok (.getfield 45, 3) := by decide +kernel
theorem dX9_fault_25 : decode cX9_fault 25 = .ok (.goto 4, 3) := by decide +kernel
theorem dX9_fault_28 : decode cX9_fault 28 = .ok (.iconst (-1), 1) := by decide +kernel
theorem dX9_fault_29 : decode cX9_fault 29 = .ok (.ireturn, 1) := by decide +kernel
theorem dX9_feed_0 : decode cX9_feed 0 = .ok (.aload_n 0, 1) := by decide +kernel
theorem dX9_feed_1 : decode cX9_feed 1 = .ok (.iconst 0, 1) := by decide +kernel
theorem dX9_feed_2 : decode cX9_feed 2 = .ok (.putfield 58, 3) := by decide +kernel
theorem dX9_feed_5 : decode cX9_feed 5 = .ok (.aload_n 0, 1) := by decide +kernel
theorem dX9_feed_6 : decode cX9_feed 6 = .ok (.getfield 344, 3) := by decide +kernel
theorem dX9_feed_9 : decode cX9_feed 9 = .ok (.sipush 380, 3) := by decide +kernel
theorem dX9_feed_12 : decode cX9_feed 12 = .ok (.if_icmp .le 5, 3) := by decide +kernel
theorem dX9_feed_15 : decode cX9_feed 15 = .ok (.iconst (-1), 1) := by decide +kernel
theorem dX9_feed_16 : decode cX9_feed 16 = .ok (.ireturn, 1) := by decide +kernel
theorem dX9_feed_17 : decode cX9_feed 17 = .ok (.aload_n 0, 1) := by decide +kernel
theorem dX9_feed_18 : decode cX9_feed 18 = .ok (.iload_n 1, 1) := by decide +kernel
theorem dX9_feed_19 : decode cX9_feed 19 = .ok (.invokevirtual 347, 3) := by decide +kernel
theorem dX9_feed_22 : decode cX9_feed 22 = .ok (.aload_n 0, 1) := by decide +kernel
theorem dX9_feed_23 : decode cX9_feed 23 = .ok (.iload_n 2, 1) := by decide +kernel
theorem dX9_feed_24 : decode cX9_feed 24 = .ok (.invokevirtual 347, 3) := by decide +kernel
theorem dX9_feed_27 : decode cX9_feed 27 = .ok (.aload_n 0, 1) := by decide +kernel
theorem dX9_feed_28 : decode cX9_feed 28 = .ok (.iload_n 3, 1) := by decide +kernel
theorem dX9_feed_29 : decode cX9_feed 29 = .ok (.invokevirtual 347, 3) := by decide +kernel
theorem dX9_feed_32 : decode cX9_feed 32 = .ok (.aload_n 0, 1) := by decide +kernel
theorem dX9_feed_33 : decode cX9_feed 33 = .ok (.iload 4, 2) := by decide +kernel
theorem dX9_feed_35 : decode cX9_feed 35 = .ok (.invokevirtual 347, 3) := by decide +kernel
theorem dX9_feed_38 : decode cX9_feed 38 = .ok (.aload_n 0, 1) := by decide +kernel
theorem dX9_feed_39 : decode cX9_feed 39 = .ok (.iload 5, 2) := by decide +kernel
theorem dX9_feed_41 : decode cX9_feed 41 = .ok (.invokevirtual 347, 3) := by decide +kernel
theorem dX9_feed_44 : decode cX9_feed 44 = .ok (.aload_n 0, 1) := by decide +kernel
theorem dX9_feed_45 : decode cX9_feed 45 = .ok (.getfield 344, 3) := by decide +kernel
theorem dX9_feed_48 : decode cX9_feed 48 = .ok (.ireturn, 1) := by decide +kernel
theorem dX9_firstOf_0 : decode cX9_firstOf 0 = .ok (.iload_n 1, 1) := by decide +kernel
theorem dX9_firstOf_1 : decode cX9_firstOf 1 = .ok (.ifCond .ne 8, 3) := by decide +kernel
theorem dX9_firstOf_4 : decode cX9_firstOf 4 = .ok (.bipush 6, 2) := by decide +kernel
theorem dX9_firstOf_6 : decode cX9_firstOf 6 = .ok (.goto 37, 3) := by decide +kernel
theorem dX9_firstOf_9 : decode cX9_firstOf 9 = .ok (.iload_n 1, 1) := by decide +kernel
theorem dX9_firstOf_10 : decode cX9_firstOf 10 = .ok (.iconst 1, 1) := by decide +kernel
theorem dX9_firstOf_11 : decode cX9_firstOf 11 = .ok (.if_icmp .eq 8, 3) := by decide +kernel
theorem dX9_firstOf_14 : decode cX9_firstOf 14 = .ok (.iload_n 1, 1) := by decide +kernel
theorem dX9_firstOf_15 : decode cX9_firstOf 15 = .ok (.iconst 2, 1) := by decide +kernel
theorem dX9_firstOf_16 : decode cX9_firstOf 16 = .ok (.if_icmp .ne 7, 3) := by decide +kernel
theorem dX9_firstOf_19 : decode cX9_firstOf 19 = .ok (.iconst 2, 1) := by decide +kernel
theorem dX9_firstOf_20 : decode cX9_firstOf 20 = .ok (.goto 23, 3) := by decide +kernel
theorem dX9_firstOf_23 : decode cX9_firstOf 23 = .ok (.iload_n 1, 1) := by decide +kernel
theorem dX9_firstOf_24 : decode cX9_firstOf 24 = .ok (.iconst 3, 1) := by decide +kernel
theorem dX9_firstOf_25 : decode cX9_firstOf 25 = .ok (.if_icmp .ne 7, 3) := by decide +kernel
theorem dX9_firstOf_28 : decode cX9_firstOf 28 = .ok (.iconst 3, 1) := by decide +kernel
theorem dX9_firstOf_29 : decode cX9_firstOf 29 = .ok (.goto 14, 3) := by decide +kernel
theorem dX9_firstOf_32 : decode cX9_firstOf 32 = .ok (.iload_n 1, 1) := by decide +kernel
theorem dX9_firstOf_33 : decode cX9_firstOf 33 = .ok (.iconst 4, 1) := by decide +kernel
theorem dX9_firstOf_34 : decode cX9_firstOf 34 = .ok (.if_icmp .ne 7, 3) := by decide +kernel
theorem dX9_firstOf_37 : decode cX9_firstOf 37 = .ok (.iconst 1, 1) := by decide +kernel
theorem dX9_firstOf_38 : decode cX9_firstOf 38 = .ok (.goto 5, 3) := by decide +kernel
theorem dX9_firstOf_41 : decode cX9_firstOf 41 = .ok (.bipush 10, 2) := by decide +kernel
theorem dX9_firstOf_43 : decode cX9_firstOf 43 = .ok (.ireturn, 1) := by decide +kernel
theorem dX9_firstServed_0 : decode cX9_firstServed 0 = .ok (.iconst (-1), 1) := by decide +kernel
theorem dX9_firstServed_1 : decode cX9_firstServed 1 = .ok (.istore_n 2, 1) := by decide +kernel
theorem dX9_firstServed_2 : decode cX9_firstServed 2 = .ok (.iconst 0, 1) := by decide +kernel
theorem dX9_firstServed_3 : decode cX9_firstServed 3 = .ok (.istore_n 3, 1) := by decide +kernel
theorem dX9_firstServed_4 : decode cX9_firstServed 4 = .ok (.iload_n 3, 1) := by decide +kernel
theorem dX9_firstServed_5 : decode cX9_firstServed 5 = .ok (.aload_n 0, 1) := by decide +kernel
theorem dX9_firstServed_6 : decode cX9_firstServed 6 = .ok (.invokevirtual 61, 3) := by decide +kernel
theorem dX9_firstServed_9 : decode cX9_firstServed 9 = .ok (.if_icmp .ge 49, 3) := by decide +kernel
theorem dX9_firstServed_12 : decode cX9_firstServed 12 = .ok (.aload_n 0, 1) := by decide +kernel
theorem dX9_firstServed_13 : decode cX9_firstServed 13 = .ok (.iload_n 3, 1) := by decide +kernel
theorem dX9_firstServed_14 : decode cX9_firstServed 14 = .ok (.iload_n 1, 1) := by decide +kernel
theorem dX9_firstServed_15 : decode cX9_firstServed 15 = .ok (.invokevirtual 122, 3) := by decide +kernel
theorem dX9_firstServed_18 : decode cX9_firstServed 18 = .ok (.ifCond .eq 34, 3) := by decide +kernel
theorem dX9_firstServed_21 : decode cX9_firstServed 21 = .ok (.iload_n 2, 1) := by decide +kernel
theorem dX9_firstServed_22 : decode cX9_firstServed 22 = .ok (.iconst (-1), 1) := by decide +kernel
theorem dX9_firstServed_23 : decode cX9_firstServed 23 = .ok (.if_icmp .eq 27, 3) := by decide +kernel
theorem dX9_firstServed_26 : decode cX9_firstServed 26 = .ok (.aload_n 0, 1) := by decide +kernel
theorem dX9_firstServed_27 : decode cX9_firstServed 27 = .ok (.iload_n 1, 1) := by decide +kernel
theorem dX9_firstServed_28 : decode cX9_firstServed 28 = .ok (.iload_n 3, 1) := by decide +kernel
theorem dX9_firstServed_29 : decode cX9_firstServed 29 = .ok (.aload_n 0, 1) := by decide +kernel
theorem dX9_firstServed_30 : decode cX9_firstServed 30 = .ok (.iload_n 3, 1) := by decide +kernel
theorem dX9_firstServed_31 : decode cX9_firstServed 31 = .ok (.iload_n 1, 1) := by decide +kernel
theorem dX9_firstServed_32 : decode cX9_firstServed 32 = .ok (.iconst 0, 1) := by decide +kernel
theorem dX9_firstServed_33 : decode cX9_firstServed 33 = .ok (.invokevirtual 125, 3) := by decide +kernel
theorem dX9_firstServed_36 : decode cX9_firstServed 36 = .ok (.iload_n 2, 1) := by decide +kernel
theorem dX9_firstServed_37 : decode cX9_firstServed 37 = .ok (.aload_n 0, 1) := by decide +kernel
theorem dX9_firstServed_38 : decode cX9_firstServed 38 = .ok (.iload_n 2, 1) := by decide +kernel
theorem dX9_firstServed_39 : decode cX9_firstServed 39 = .ok (.iload_n 1, 1) := by decide +kernel
theorem dX9_firstServed_40 : decode cX9_firstServed 40 = .ok (.iconst 0, 1) := by decide +kernel
theorem dX9_firstServed_41 : decode cX9_firstServed 41 = .ok (.invokevirtual 125, 3) := by decide +kernel
theorem dX9_firstServed_44 : decode cX9_firstServed 44 = .ok (.invokevirtual 243, 3) := by decide +kernel
theorem dX9_firstServed_47 : decode cX9_firstServed 47 = .ok (.ifCond .eq 5, 3) := by decide +kernel
theorem dX9_firstServed_50 : decode cX9_firstServed 50 = .ok (.iload_n 3, 1) := by decide +kernel
theorem dX9_firstServed_51 : decode cX9_firstServed 51 = .ok (.istore_n 2, 1) := by decide +kernel
theorem dX9_firstServed_52 : decode cX9_firstServed 52 = .ok (.iinc 3 1, 3) := by decide +kernel
theorem dX9_firstServed_55 : decode cX9_firstServed 55 = .ok (.goto (-51), 3) := by decide +kernel
theorem dX9_firstServed_58 : decode cX9_firstServed 58 = .ok (.iload_n 2, 1) := by decide +kernel
theorem dX9_firstServed_59 : decode cX9_firstServed 59 = .ok (.ireturn, 1) := by decide +kernel
theorem dX9_freeOf_0 : decode cX9_freeOf 0 = .ok (.aload_n 0, 1) := by decide +kernel
theorem dX9_freeOf_1 : decode cX9_freeOf 1 = .ok (.aload_n 0, 1) := by decide +kernel
theorem dX9_freeOf_2 : decode cX9_freeOf 2 = .ok (.getfield 7, 3) := by decide +kernel
theorem dX9_freeOf_5 : decode cX9_freeOf 5 = .ok (.bipush 11, 2) := by decide +kernel
theorem dX9_freeOf_7 : decode cX9_freeOf 7 = .ok (.iaload, 1) := by decide +kernel
theorem dX9_freeOf_8 : decode cX9_freeOf 8 = .ok (.iload_n 1, 1) := by decide +kernel
theorem dX9_freeOf_9 : decode cX9_freeOf 9 = .ok (.invokevirtual 69, 3) := by decide +kernel
theorem dX9_freeOf_12 : decode cX9_freeOf 12 = .ok (.ifCond .eq 7, 3) := by decide +kernel
theorem dX9_freeOf_15 : decode cX9_freeOf 15 = .ok (.iconst 0, 1) := by decide +kernel
theorem dX9_freeOf_16 : decode cX9_freeOf 16 = .ok (.goto 30, 3) := by decide +kernel
theorem dX9_freeOf_19 : decode cX9_freeOf 19 = .ok (.aload_n 0, 1) := by decide +kernel
theorem dX9_freeOf_20 : decode cX9_freeOf 20 = .ok (.iconst 0, 1) := by decide +kernel
theorem dX9_freeOf_21 : decode cX9_freeOf 21 = .ok (.aload_n 0, 1) := by decide +kernel
theorem dX9_freeOf_22 : decode cX9_freeOf 22 = .ok (.iload_n 1, 1) := by decide +kernel
theorem dX9_freeOf_23 : decode cX9_freeOf 23 = .ok (.iload_n 2, 1) := by decide +kernel
theorem dX9_freeOf_24 : decode cX9_freeOf 24 = .ok (.invokevirtual 73, 3) := by decide +kernel
theorem dX9_freeOf_27 : decode cX9_freeOf 27 = .ok (.aload_n 0, 1) := by decide +kernel
theorem dX9_freeOf_28 : decode cX9_freeOf 28 = .ok (.getfield 7, 3) := by decide +kernel
theorem dX9_freeOf_31 : decode cX9_freeOf 31 = .ok (.sipush 132, 3) := by decide +kernel
theorem dX9_freeOf_34 : decode cX9_freeOf 34 = .ok (.aload_n 0, 1) := by decide +kernel
theorem dX9_freeOf_35 : decode cX9_freeOf 35 = .ok (.iload_n 1, 1) := by decide +kernel
theorem dX9_freeOf_36 : decode cX9_freeOf 36 = .ok (.iload_n 2, 1) := by decide +kernel
theorem dX9_freeOf_37 : decode cX9_freeOf 37 = .ok (.invokevirtual 65, 3) := by decide +kernel
theorem dX9_freeOf_40 : decode cX9_freeOf 40 = .ok (.iadd, 1) := by decide +kernel
theorem dX9_freeOf_41 : decode cX9_freeOf 41 = .ok (.iaload, 1) := by decide +kernel
theorem dX9_freeOf_42 : decode cX9_freeOf 42 = .ok (.isub, 1) := by decide +kernel
theorem dX9_freeOf_43 : decode cX9_freeOf 43 = .ok (.invokevirtual 76, 3) := by decide +kernel
theorem dX9_freeOf_46 : decode cX9_freeOf 46 = .ok (.ireturn, 1) := by decide +kernel
theorem dX9_give_0 : decode cX9_give 0 = .ok (.aload_n 0, 1) := by decide +kernel
theorem dX9_give_1 : decode cX9_give 1 = .ok (.iconst 0, 1) := by decide +kernel
theorem dX9_give_2 : decode cX9_give 2 = .ok (.putfield 58, 3) := by decide +kernel
theorem dX9_give_5 : decode cX9_give 5 = .ok (.aload_n 0, 1) := by decide +kernel
theorem dX9_give_6 : decode cX9_give 6 = .ok (.iload_n 1, 1) := by decide +kernel
theorem dX9_give_7 : decode cX9_give 7 = .ok (.invokevirtual 90, 3) := by decide +kernel
theorem dX9_give_10 : decode cX9_give 10 = .ok (.ifCond .eq 47, 3) := by decide +kernel
theorem dX9_give_13 : decode cX9_give 13 = .ok (.aload_n 0, 1) := by decide +kernel
theorem dX9_give_14 : decode cX9_give 14 = .ok (.iload_n 2, 1) := by decide +kernel
theorem dX9_give_15 : decode cX9_give 15 = .ok (.invokevirtual 94, 3) := by decide +kernel
theorem dX9_give_18 : decode cX9_give 18 = .ok (.ifCond .eq 39, 3) := by decide +kernel
theorem dX9_give_21 : decode cX9_give 21 = .ok (.aload_n 0, 1) := by decide +kernel
theorem dX9_give_22 : decode cX9_give 22 = .ok (.iload_n 3, 1) := by decide +kernel
theorem dX9_give_23 : decode cX9_give 23 = .ok (.iconst 1, 1) := by decide +kernel
theorem dX9_give_24 : decode cX9_give 24 = .ok (.aload_n 0, 1) := by decide +kernel
theorem dX9_give_25 : decode cX9_give 25 = .ok (.iload_n 1, 1) := by decide +kernel
theorem dX9_give_26 : decode cX9_give 26 = .ok (.iload_n 2, 1) := by decide +kernel
theorem dX9_give_27 : decode cX9_give 27 = .ok (.invokevirtual 169, 3) := by decide +kernel
theorem dX9_give_30 : decode cX9_give 30 = .ok (.invokevirtual 79, 3) := by decide +kernel
theorem dX9_give_33 : decode cX9_give 33 = .ok (.ifCond .eq 24, 3) := by decide +kernel
theorem dX9_give_36 : decode cX9_give 36 = .ok (.aload_n 0, 1) := by decide +kernel
theorem dX9_give_37 : decode cX9_give 37 = .ok (.iload_n 1, 1) := by decide +kernel
theorem dX9_give_38 : decode cX9_give 38 = .ok (.iload_n 2, 1) := by decide +kernel
theorem dX9_give_39 : decode cX9_give 39 = .ok (.invokevirtual 172, 3) := by decide +kernel
theorem dX9_give_42 : decode cX9_give 42 = .ok (.ifCond .ne 15, 3) := by decide +kernel
theorem dX9_give_45 : decode cX9_give 45 = .ok (.aload_n 0, 1) := by decide +kernel
theorem dX9_give_46 : decode cX9_give 46 = .ok (.getfield 7, 3) := by decide +kernel
theorem dX9_give_49 : decode cX9_give 49 = .ok (.bipush 8, 2) := by decide +kernel
theorem dX9_give_51 : decode cX9_give 51 = .ok (.iaload, 1) := by decide +kernel
theorem dX9_give_52 : decode cX9_give 52 = .ok (.bipush 60, 2) := by decide +kernel
theorem dX9_give_54 : decode cX9_give 54 = .ok (.if_icmp .ne 5, 3) := by decide +kernel
theorem dX9_give_57 : decode cX9_give 57 = .ok (.iconst (-1), 1) := by decide +kernel
theorem dX9_give_58 : decode cX9_give 58 = .ok (.ireturn, 1) := by decide +kernel
theorem dX9_give_59 : decode cX9_give 59 = .ok (.aload_n 0, 1) := by decide +kernel
theorem dX9_give_60 : decode cX9_give 60 = .ok (.iload_n 1, 1) := by decide +kernel
theorem dX9_give_61 : decode cX9_give 61 = .ok (.iload_n 2, 1) := by decide +kernel
theorem dX9_give_62 : decode cX9_give 62 = .ok (.iconst 0, 1) := by decide +kernel
theorem dX9_give_63 : decode cX9_give 63 = .ok (.iconst (-1), 1) := by decide +kernel
theorem dX9_give_64 : decode cX9_give 64 = .ok (.invokevirtual 175, 3) := by decide +kernel
theorem dX9_give_67 : decode cX9_give 67 = .ok (.istore 4, 2) := by decide +kernel
theorem dX9_give_69 : decode cX9_give 69 = .ok (.iload_n 3, 1) := by decide +kernel
theorem dX9_give_70 : decode cX9_give 70 = .ok (.istore 5, 2) := by decide +kernel
theorem dX9_give_72 : decode cX9_give 72 = .ok (.aload_n 0, 1) := by decide +kernel
theorem dX9_give_73 : decode cX9_give 73 = .ok (.iload_n 2, 1) := by decide +kernel
theorem dX9_give_74 : decode cX9_give 74 = .ok (.iconst (-1), 1) := by decide +kernel
theorem dX9_give_75 : decode cX9_give 75 = .ok (.iconst (-1), 1) := by decide +kernel
theorem dX9_give_76 : decode cX9_give 76 = .ok (.invokevirtual 179, 3) := by decide +kernel
theorem dX9_give_79 : decode cX9_give 79 = .ok (.istore 6, 2) := by decide +kernel
theorem dX9_give_81 : decode cX9_give 81 = .ok (.iload 6, 2) := by decide +kernel
theorem dX9_give_83 : decode cX9_give 83 = .ok (.iconst (-1), 1) := by decide +kernel
theorem dX9_give_84 : decode cX9_give 84 = .ok (.if_icmp .eq 126, 3) := by decide +kernel
theorem dX9_give_87 : decode cX9_give 87 = .ok (.iload 5, 2) := by decide +kernel
theorem dX9_give_89 : decode cX9_give 89 = .ok (.ifCond .le 121, 3) := by decide +kernel
theorem dX9_give_92 : decode cX9_give 92 = .ok (.aload_n 0, 1) := by decide +kernel
theorem dX9_give_93 : decode cX9_give 93 = .ok (.getfield 163, 3) := by decide +kernel
theorem dX9_give_96 : decode cX9_give 96 = .ok (.istore 7, 2) := by decide +kernel
theorem dX9_give_98 : decode cX9_give 98 = .ok (.aload_n 0, 1) := by decide +kernel
theorem dX9_give_99 : decode cX9_give 99 = .ok (.iload 6, 2) := by decide +kernel
theorem dX9_give_101 : decode cX9_give 101 = .ok (.iload_n 2, 1) := by decide +kernel
theorem dX9_give_102 : decode cX9_give 102 = .ok (.invokevirtual 182, 3) := by decide +kernel
theorem dX9_give_105 : decode cX9_give 105 = .ok (.aload_n 0, 1) := by decide +kernel
theorem dX9_give_106 : decode cX9_give 106 = .ok (.iload 6, 2) := by decide +kernel
theorem dX9_give_108 : decode cX9_give 108 = .ok (.iload_n 2, 1) := by decide +kernel
theorem dX9_give_109 : decode cX9_give 109 = .ok (.invokevirtual 185, 3) := by decide +kernel
theorem dX9_give_112 : decode cX9_give 112 = .ok (.isub, 1) := by decide +kernel
theorem dX9_give_113 : decode cX9_give 113 = .ok (.aload_n 0, 1) := by decide +kernel
theorem dX9_give_114 : decode cX9_give 114 = .ok (.getfield 7, 3) := by decide +kernel
theorem dX9_give_117 : decode cX9_give 117 = .ok (.iload 4, 2) := by decide +kernel
theorem dX9_give_119 : decode cX9_give 119 = .ok (.bipush 8, 2) := by decide +kernel
theorem dX9_give_121 : decode cX9_give 121 = .ok (.iadd, 1) := by decide +kernel
theorem dX9_give_122 : decode cX9_give 122 = .ok (.iload 6, 2) := by decide +kernel
theorem dX9_give_124 : decode cX9_give 124 = .ok (.iadd, 1) := by decide +kernel
theorem dX9_give_125 : decode cX9_give 125 = .ok (.iaload, 1) := by decide +kernel
theorem dX9_give_126 : decode cX9_give 126 = .ok (.isub, 1) := by decide +kernel
theorem dX9_give_127 : decode cX9_give 127 = .ok (.istore 8, 2) := by decide +kernel
theorem dX9_give_129 : decode cX9_give 129 = .ok (.aload_n 0, 1) := by decide +kernel
theorem dX9_give_130 : decode cX9_give 130 = .ok (.iconst 0, 1) := by decide +kernel
theorem dX9_give_131 : decode cX9_give 131 = .ok (.aload_n 0, 1) := by decide +kernel
theorem dX9_give_132 : decode cX9_give 132 = .ok (.aload_n 0, 1) := by decide +kernel
theorem dX9_give_133 : decode cX9_give 133 = .ok (.iload 5, 2) := by decide +kernel
theorem dX9_give_135 : decode cX9_give 135 = .ok (.iload 8, 2) := by decide +kernel
theorem dX9_give_137 : decode cX9_give 137 = .ok (.invokevirtual 131, 3) := by decide +kernel
theorem dX9_give_140 : decode cX9_give 140 = .ok (.aload_n 0, 1) := by decide +kernel
theorem dX9_give_141 : decode cX9_give 141 = .ok (.iload 6, 2) := by decide +kernel
theorem dX9_give_143 : decode cX9_give 143 = .ok (.iload_n 2, 1) := by decide +kernel
theorem dX9_give_144 : decode cX9_give 144 = .ok (.aload_n 0, 1) := by decide +kernel
theorem dX9_give_145 : decode cX9_give 145 = .ok (.getfield 166, 3) := by decide +kernel
theorem dX9_give_148 : decode cX9_give 148 = .ok (.invokevirtual 113, 3) := by decide +kernel
theorem dX9_give_151 : decode cX9_give 151 = .ok (.ineg, 1) := by decide +kernel
theorem dX9_give_152 : decode cX9_give 152 = .ok (.invokevirtual 131, 3) := by decide +kernel
theorem dX9_give_155 : decode cX9_give 155 = .ok (.invokevirtual 76, 3) := by decide +kernel
theorem dX9_give_158 : decode cX9_give 158 = .ok (.istore 9, 2) := by decide +kernel
theorem dX9_give_160 : decode cX9_give 160 = .ok (.aload_n 0, 1) := by decide +kernel
theorem dX9_give_161 : decode cX9_give 161 = .ok (.getfield 7, 3) := by decide +kernel
theorem dX9_give_164 : decode cX9_give 164 = .ok (.iload 4, 2) := by decide +kernel
theorem dX9_give_166 : decode cX9_give 166 = .ok (.bipush 8, 2) := by decide +kernel
theorem dX9_give_168 : decode cX9_give 168 = .ok (.iadd, 1) := by decide +kernel
theorem dX9_give_169 : decode cX9_give 169 = .ok (.iload 6, 2) := by decide +kernel
theorem dX9_give_171 : decode cX9_give 171 = .ok (.iadd, 1) := by decide +kernel
theorem dX9_give_172 : decode cX9_give 172 = .ok (.aload_n 0, 1) := by decide +kernel
theorem dX9_give_173 : decode cX9_give 173 = .ok (.getfield 7, 3) := by decide +kernel
theorem dX9_give_176 : decode cX9_give 176 = .ok (.iload 4, 2) := by decide +kernel
theorem dX9_give_178 : decode cX9_give 178 = .ok (.bipush 8, 2) := by decide +kernel
theorem dX9_give_180 : decode cX9_give 180 = .ok (.iadd, 1) := by decide +kernel
theorem dX9_give_181 : decode cX9_give 181 = .ok (.iload 6, 2) := by decide +kernel
theorem dX9_give_183 : decode cX9_give 183 = .ok (.iadd, 1) := by decide +kernel
theorem dX9_give_184 : decode cX9_give 184 = .ok (.iaload, 1) := by decide +kernel
theorem dX9_give_185 : decode cX9_give 185 = .ok (.iload 9, 2) := by decide +kernel
theorem dX9_give_187 : decode cX9_give 187 = .ok (.iadd, 1) := by decide +kernel
theorem dX9_give_188 : decode cX9_give 188 = .ok (.iastore, 1) := by decide +kernel
theorem dX9_give_189 : decode cX9_give 189 = .ok (.iload 5, 2) := by decide +kernel
theorem dX9_give_191 : decode cX9_give 191 = .ok (.iload 9, 2) := by decide +kernel
theorem dX9_give_193 : decode cX9_give 193 = .ok (.isub, 1) := by decide +kernel
theorem dX9_give_194 : decode cX9_give 194 = .ok (.istore 5, 2) := by decide +kernel
theorem dX9_give_196 : decode cX9_give 196 = .ok (.aload_n 0, 1) := by decide +kernel
theorem dX9_give_197 : decode cX9_give 197 = .ok (.iload_n 2, 1) := by decide +kernel
theorem dX9_give_198 : decode cX9_give 198 = .ok (.iload 7, 2) := by decide +kernel
theorem dX9_give_200 : decode cX9_give 200 = .ok (.iload 6, 2) := by decide +kernel
theorem dX9_give_202 : decode cX9_give 202 = .ok (.invokevirtual 179, 3) := by decide +kernel
theorem dX9_give_205 : decode cX9_give 205 = .ok (.istore 6, 2) := by decide +kernel
theorem dX9_give_207 : decode cX9_give 207 = .ok (.goto (-126), 3) := by decide +kernel
theorem dX9_give_210 : decode cX9_give 210 = .ok (.iload 5, 2) := by decide +kernel
theorem dX9_give_212 : decode cX9_give 212 = .ok (.iload_n 3, 1) := by decide +kernel
theorem dX9_give_213 : decode cX9_give 213 = .ok (.if_icmp .ne 5, 3) := by decide +kernel
theorem dX9_give_216 : decode cX9_give 216 = .ok (.iconst (-1), 1) := by decide +kernel
theorem dX9_give_217 : decode cX9_give 217 = .ok (.ireturn, 1) := by decide +kernel
theorem dX9_give_218 : decode cX9_give 218 = .ok (.aload_n 0, 1) := by decide +kernel
theorem dX9_give_219 : decode cX9_give 219 = .ok (.getfield 7, 3) := by decide +kernel
theorem dX9_give_222 : decode cX9_give 222 = .ok (.iload 4, 2) := by decide +kernel
theorem dX9_give_224 : decode cX9_give 224 = .ok (.iconst 2, 1) := by decide +kernel
theorem dX9_give_225 : decode cX9_give 225 = .ok (.iadd, 1) := by decide +kernel
theorem dX9_give_226 : decode cX9_give 226 = .ok (.iload_n 3, 1) := by decide +kernel
theorem dX9_give_227 : decode cX9_give 227 = .ok (.iload 5, 2) := by decide +kernel
theorem dX9_give_229 : decode cX9_give 229 = .ok (.isub, 1) := by decide +kernel
theorem dX9_give_230 : decode cX9_give 230 = .ok (.iastore, 1) := by decide +kernel
theorem dX9_give_231 : decode cX9_give 231 = .ok (.aload_n 0, 1) := by decide +kernel
theorem dX9_give_232 : decode cX9_give 232 = .ok (.getfield 7, 3) := by decide +kernel
theorem dX9_give_235 : decode cX9_give 235 = .ok (.bipush 8, 2) := by decide +kernel
theorem dX9_give_237 : decode cX9_give 237 = .ok (.aload_n 0, 1) := by decide +kernel
theorem dX9_give_238 : decode cX9_give 238 = .ok (.getfield 7, 3) := by decide +kernel
theorem dX9_give_241 : decode cX9_give 241 = .ok (.bipush 8, 2) := by decide +kernel
theorem dX9_give_243 : decode cX9_give 243 = .ok (.iaload, 1) := by decide +kernel
theorem dX9_give_244 : decode cX9_give 244 = .ok (.iconst 1, 1) := by decide +kernel
theorem dX9_give_245 : decode cX9_give 245 = .ok (.iadd, 1) := by decide +kernel
theorem dX9_give_246 : decode cX9_give 246 = .ok (.iastore, 1) := by decide +kernel
theorem dX9_give_247 : decode cX9_give 247 = .ok (.aload_n 0, 1) := by decide +kernel
theorem dX9_give_248 : decode cX9_give 248 = .ok (.getfield 7, 3) := by decide +kernel
theorem dX9_give_251 : decode cX9_give 251 = .ok (.bipush 8, 2) := by decide +kernel
theorem dX9_give_253 : decode cX9_give 253 = .ok (.iaload, 1) := by decide +kernel
theorem dX9_give_254 : decode cX9_give 254 = .ok (.iconst 1, 1) := by decide +kernel
theorem dX9_give_255 : decode cX9_give 255 = .ok (.isub, 1) := by decide +kernel
theorem dX9_give_256 : decode cX9_give 256 = .ok (.ireturn, 1) := by decide +kernel
theorem dX9_goesAhead_0 : decode cX9_goesAhead 0 = .ok (.aload_n 0, 1) := by decide +kernel
theorem dX9_goesAhead_1 : decode cX9_goesAhead 1 = .ok (.aload_n 0, 1) := by decide +kernel
theorem dX9_goesAhead_2 : decode cX9_goesAhead 2 = .ok (.getfield 7, 3) := by decide +kernel
theorem dX9_goesAhead_5 : decode cX9_goesAhead 5 = .ok (.bipush 11, 2) := by decide +kernel
theorem dX9_goesAhead_7 : decode cX9_goesAhead 7 = .ok (.iaload, 1) := by decide +kernel
theorem dX9_goesAhead_8 : decode cX9_goesAhead 8 = .ok (.iload_n 2, 1) := by decide +kernel
theorem dX9_goesAhead_9 : decode cX9_goesAhead 9 = .ok (.invokevirtual 69, 3) := by decide +kernel
theorem dX9_goesAhead_12 : decode cX9_goesAhead 12 = .ok (.aload_n 0, 1) := by decide +kernel
theorem dX9_goesAhead_13 : decode cX9_goesAhead 13 = .ok (.aload_n 0, 1) := by decide +kernel
theorem dX9_goesAhead_14 : decode cX9_goesAhead 14 = .ok (.getfield 7, 3) := by decide +kernel
theorem dX9_goesAhead_17 : decode cX9_goesAhead 17 = .ok (.bipush 11, 2) := by decide +kernel
theorem dX9_goesAhead_19 : decode cX9_goesAhead 19 = .ok (.iaload, 1) := by decide +kernel
theorem dX9_goesAhead_20 : decode cX9_goesAhead 20 = .ok (.iload 4, 2) := by decide +kernel
theorem dX9_goesAhead_22 : decode cX9_goesAhead 22 = .ok (.invokevirtual 69, 3) := by decide +kernel
theorem dX9_goesAhead_25 : decode cX9_goesAhead 25 = .ok (.if_icmp .eq 17, 3) := by decide +kernel
theorem dX9_goesAhead_28 : decode cX9_goesAhead 28 = .ok (.aload_n 0, 1) := by decide +kernel
theorem dX9_goesAhead_29 : decode cX9_goesAhead 29 = .ok (.aload_n 0, 1) := by decide +kernel
theorem dX9_goesAhead_30 : decode cX9_goesAhead 30 = .ok (.getfield 7, 3) := by decide +kernel
theorem dX9_goesAhead_33 : decode cX9_goesAhead 33 = .ok (.bipush 11, 2) := by decide +kernel
theorem dX9_goesAhead_35 : decode cX9_goesAhead 35 = .ok (.iaload, 1) := by decide +kernel
theorem dX9_goesAhead_36 : decode cX9_goesAhead 36 = .ok (.iload 4, 2) := by decide +kernel
theorem dX9_goesAhead_38 : decode cX9_goesAhead 38 = .ok (.invokevirtual 69, 3) := by decide +kernel
theorem dX9_goesAhead_41 : decode cX9_goesAhead 41 = .ok (.ireturn, 1) := by decide +kernel
theorem dX9_goesAhead_42 : decode cX9_goesAhead 42 = .ok (.aload_n 0, 1) := by decide +kernel
theorem dX9_goesAhead_43 : decode cX9_goesAhead 43 = .ok (.iload_n 2, 1) := by decide +kernel
theorem dX9_goesAhead_44 : decode cX9_goesAhead 44 = .ok (.iload_n 1, 1) := by decide +kernel
theorem dX9_goesAhead_45 : decode cX9_goesAhead 45 = .ok (.invokevirtual 172, 3) := by decide +kernel
theorem dX9_goesAhead_48 : decode cX9_goesAhead 48 = .ok (.aload_n 0, 1) := by decide +kernel
theorem dX9_goesAhead_49 : decode cX9_goesAhead 49 = .ok (.iload 4, 2) := by decide +kernel
theorem dX9_goesAhead_51 : decode cX9_goesAhead 51 = .ok (.iload_n 1, 1) := by decide +kernel
theorem dX9_goesAhead_52 : decode cX9_goesAhead 52 = .ok (.invokevirtual 172, 3) := by decide +kernel
theorem dX9_goesAhead_55 : decode cX9_goesAhead 55 = .ok (.if_icmp .eq 10, 3) := by decide +kernel
theorem dX9_goesAhead_58 : decode cX9_goesAhead 58 = .ok (.aload_n 0, 1) := by decide +kernel
theorem dX9_goesAhead_59 : decode cX9_goesAhead 59 = .ok (.iload_n 2, 1) := by decide +kernel
theorem dX9_goesAhead_60 : decode cX9_goesAhead 60 = .ok (.iload_n 1, 1) := by decide +kernel
theorem dX9_goesAhead_61 : decode cX9_goesAhead 61 = .ok (.invokevirtual 172, 3) := by decide +kernel
theorem dX9_goesAhead_64 : decode cX9_goesAhead 64 = .ok (.ireturn, 1) := by decide +kernel
theorem dX9_goesAhead_65 : decode cX9_goesAhead 65 = .ok (.iload_n 3, 1) := by decide +kernel
theorem dX9_goesAhead_66 : decode cX9_goesAhead 66 = .ok (.iload 5, 2) := by decide +kernel
theorem dX9_goesAhead_68 : decode cX9_goesAhead 68 = .ok (.if_icmp .eq 15, 3) := by decide +kernel
theorem dX9_goesAhead_71 : decode cX9_goesAhead 71 = .ok (.iload_n 3, 1) := by decide +kernel
theorem dX9_goesAhead_72 : decode cX9_goesAhead 72 = .ok (.iload 5, 2) := by decide +kernel
theorem dX9_goesAhead_74 : decode cX9_goesAhead 74 = .ok (.if_icmp .ge 7, 3) := by decide +kernel
theorem dX9_goesAhead_77 : decode cX9_goesAhead 77 = .ok (.iconst 1, 1) := by decide +kernel
theorem dX9_goesAhead_78 : decode cX9_goesAhead 78 = .ok (.goto 4, 3) := by decide +kernel
theorem dX9_goesAhead_81 : decode cX9_goesAhead 81 = .ok (.iconst 0, 1) := by decide +kernel
theorem dX9_goesAhead_82 : decode cX9_goesAhead 82 = .ok (.ireturn, 1) := by decide +kernel
theorem dX9_goesAhead_83 : decode cX9_goesAhead 83 = .ok (.aload_n 0, 1) := by decide +kernel
theorem dX9_goesAhead_84 : decode cX9_goesAhead 84 = .ok (.getfield 7, 3) := by decide +kernel
theorem dX9_goesAhead_87 : decode cX9_goesAhead 87 = .ok (.bipush 34, 2) := by decide +kernel
theorem dX9_goesAhead_89 : decode cX9_goesAhead 89 = .ok (.iload_n 2, 1) := by decide +kernel
theorem dX9_goesAhead_90 : decode cX9_goesAhead 90 = .ok (.iadd, 1) := by decide +kernel
theorem dX9_goesAhead_91 : decode cX9_goesAhead 91 = .ok (.iaload, 1) := by decide +kernel
theorem dX9_goesAhead_92 : decode cX9_goesAhead 92 = .ok (.aload_n 0, 1) := by decide +kernel
theorem dX9_goesAhead_93 : decode cX9_goesAhead 93 = .ok (.getfield 7, 3) := by decide +kernel
theorem dX9_goesAhead_96 : decode cX9_goesAhead 96 = .ok (.bipush 34, 2) := by decide +kernel
theorem dX9_goesAhead_98 : decode cX9_goesAhead 98 = .ok (.iload 4, 2) := by decide +kernel
theorem dX9_goesAhead_100 : decode cX9_goesAhead 100 = .ok (.iadd, 1) := by decide +kernel
theorem dX9_goesAhead_101 : decode cX9_goesAhead 101 = .ok (.iaload, 1) := by decide +kernel
theorem dX9_goesAhead_102 : decode cX9_goesAhead 102 = .ok (.if_icmp .eq 31, 3) := by decide +kernel
theorem dX9_goesAhead_105 : decode cX9_goesAhead 105 = .ok (.aload_n 0, 1) := by decide +kernel
theorem dX9_goesAhead_106 : decode cX9_goesAhead 106 = .ok (.getfield 7, 3) := by decide +kernel
theorem dX9_goesAhead_109 : decode cX9_goesAhead 109 = .ok (.bipush 34, 2) := by decide +kernel
theorem dX9_goesAhead_111 : decode cX9_goesAhead 111 = .ok (.iload_n 2, 1) := by decide +kernel
theorem dX9_goesAhead_112 : decode cX9_goesAhead 112 = .ok (.iadd, 1) := by decide +kernel
theorem dX9_goesAhead_113 : decode cX9_goesAhead 113 = .ok (.iaload, 1) := by decide +kernel
theorem dX9_goesAhead_114 : decode cX9_goesAhead 114 = .ok (.aload_n 0, 1) := by decide +kernel
theorem dX9_goesAhead_115 : decode cX9_goesAhead 115 = .ok (.getfield 7, 3) := by decide +kernel
theorem dX9_goesAhead_118 : decode cX9_goesAhead 118 = .ok (.bipush 34, 2) := by decide +kernel
theorem dX9_goesAhead_120 : decode cX9_goesAhead 120 = .ok (.iload 4, 2) := by decide +kernel
theorem dX9_goesAhead_122 : decode cX9_goesAhead 122 = .ok (.iadd, 1) := by decide +kernel
theorem dX9_goesAhead_123 : decode cX9_goesAhead 123 = .ok (.iaload, 1) := by decide +kernel
theorem dX9_goesAhead_124 : decode cX9_goesAhead 124 = .ok (.if_icmp .le 7, 3) := by decide +kernel
theorem dX9_goesAhead_127 : decode cX9_goesAhead 127 = .ok (.iconst 1, 1) := by decide +kernel
theorem dX9_goesAhead_128 : decode cX9_goesAhead 128 = .ok (.goto 4, 3) := by decide +kernel
theorem dX9_goesAhead_131 : decode cX9_goesAhead 131 = .ok (.iconst 0, 1) := by decide +kernel
theorem dX9_goesAhead_132 : decode cX9_goesAhead 132 = .ok (.ireturn, 1) := by decide +kernel
theorem dX9_goesAhead_133 : decode cX9_goesAhead 133 = .ok (.iload_n 2, 1) := by decide +kernel
theorem dX9_goesAhead_134 : decode cX9_goesAhead 134 = .ok (.iload 4, 2) := by decide +kernel
theorem dX9_goesAhead_136 : decode cX9_goesAhead 136 = .ok (.if_icmp .ge 7, 3) := by decide +kernel
theorem dX9_goesAhead_139 : decode cX9_goesAhead 139 = .ok (.iconst 1, 1) := by decide +kernel
theorem dX9_goesAhead_140 : decode cX9_goesAhead 140 = .ok (.goto 4, 3) := by decide +kernel
theorem dX9_goesAhead_143 : decode cX9_goesAhead 143 = .ok (.iconst 0, 1) := by decide +kernel
theorem dX9_goesAhead_144 : decode cX9_goesAhead 144 = .ok (.ireturn, 1) := by decide +kernel
theorem dX9_goesNight_0 : decode cX9_goesNight 0 = .ok (.iconst 0, 1) := by decide +kernel
theorem dX9_goesNight_1 : decode cX9_goesNight 1 = .ok (.istore_n 1, 1) := by decide +kernel
theorem dX9_goesNight_2 : decode cX9_goesNight 2 = .ok (.iload_n 1, 1) := by decide +kernel
theorem dX9_goesNight_3 : decode cX9_goesNight 3 = .ok (.bipush 6, 2) := by decide +kernel
theorem dX9_goesNight_5 : decode cX9_goesNight 5 = .ok (.if_icmp .ge 99, 3) := by decide +kernel
theorem dX9_goesNight_8 : decode cX9_goesNight 8 = .ok (.aload_n 0, 1) := by decide +kernel
theorem dX9_goesNight_9 : decode cX9_goesNight 9 = .ok (.iload_n 1, 1) := by decide +kernel
theorem dX9_goesNight_10 : decode cX9_goesNight 10 = .ok (.invokevirtual 282, 3) := by decide +kernel
theorem dX9_goesNight_13 : decode cX9_goesNight 13 = .ok (.aload_n 0, 1) := by decide +kernel
theorem dX9_goesNight_14 : decode cX9_goesNight 14 = .ok (.iload_n 1, 1) := by decide +kernel
theorem dX9_goesNight_15 : decode cX9_goesNight 15 = .ok (.invokevirtual 285, 3) := by decide +kernel
theorem dX9_goesNight_18 : decode cX9_goesNight 18 = .ok (.aload_n 0, 1) := by decide +kernel
theorem dX9_goesNight_19 : decode cX9_goesNight 19 = .ok (.iload_n 1, 1) := by decide +kernel
theorem dX9_goesNight_20 : decode cX9_goesNight 20 = .ok (.invokevirtual 288, 3) := by decide +kernel
theorem dX9_goesNight_23 : decode cX9_goesNight 23 = .ok (.aload_n 0, 1) := by decide +kernel
theorem dX9_goesNight_24 : decode cX9_goesNight 24 = .ok (.iload_n 1, 1) := by decide +kernel
theorem dX9_goesNight_25 : decode cX9_goesNight 25 = .ok (.invokevirtual 291, 3) := by decide +kernel
theorem dX9_goesNight_28 : decode cX9_goesNight 28 = .ok (.aload_n 0, 1) := by decide +kernel
theorem dX9_goesNight_29 : decode cX9_goesNight 29 = .ok (.iload_n 1, 1) := by decide +kernel
theorem dX9_goesNight_30 : decode cX9_goesNight 30 = .ok (.invokevirtual 294, 3) := by decide +kernel
theorem dX9_goesNight_33 : decode cX9_goesNight 33 = .ok (.iconst 0, 1) := by decide +kernel
theorem dX9_goesNight_34 : decode cX9_goesNight 34 = .ok (.istore_n 2, 1) := by decide +kernel
theorem dX9_goesNight_35 : decode cX9_goesNight 35 = .ok (.iload_n 2, 1) := by decide +kernel
theorem dX9_goesNight_36 : decode cX9_goesNight 36 = .ok (.aload_n 0, 1) := by decide +kernel
theorem dX9_goesNight_37 : decode cX9_goesNight 37 = .ok (.getfield 7, 3) := by decide +kernel
theorem dX9_goesNight_40 : decode cX9_goesNight 40 = .ok (.bipush 8, 2) := by decide +kernel
theorem dX9_goesNight_42 : decode cX9_goesNight 42 = .ok (.iaload, 1) := by decide +kernel
theorem dX9_goesNight_43 : decode cX9_goesNight 43 = .ok (.if_icmp .ge 50, 3) := by decide +kernel
theorem dX9_goesNight_46 : decode cX9_goesNight 46 = .ok (.aload_n 0, 1) := by decide +kernel
theorem dX9_goesNight_47 : decode cX9_goesNight 47 = .ok (.iload_n 2, 1) := by decide +kernel
theorem dX9_goesNight_48 : decode cX9_goesNight 48 = .ok (.iconst 4, 1) := by decide +kernel
theorem dX9_goesNight_49 : decode cX9_goesNight 49 = .ok (.invokevirtual 157, 3) := by decide +kernel
theorem dX9_goesNight_52 : decode cX9_goesNight 52 = .ok (.iconst 1, 1) := by decide +kernel
theorem dX9_goesNight_53 : decode cX9_goesNight 53 = .ok (.if_icmp .ne 34, 3) := by decide +kernel
theorem dX9_goesNight_56 : decode cX9_goesNight 56 = .ok (.aload_n 0, 1) := by decide +kernel
theorem dX9_goesNight_57 : decode cX9_goesNight 57 = .ok (.iload_n 2, 1) := by decide +kernel
theorem dX9_goesNight_58 : decode cX9_goesNight 58 = .ok (.iconst 1, 1) := by decide +kernel
theorem dX9_goesNight_59 : decode cX9_goesNight 59 = .ok (.invokevirtual 157, 3) := by decide +kernel
theorem dX9_goesNight_62 : decode cX9_goesNight 62 = .ok (.iload_n 1, 1) := by decide +kernel
theorem dX9_goesNight_63 : decode cX9_goesNight 63 = .ok (.if_icmp .ne 24, 3) := by decide +kernel
theorem dX9_goesNight_66 : decode cX9_goesNight 66 = .ok (.aload_n 0, 1) := by decide +kernel
theorem dX9_goesNight_67 : decode cX9_goesNight 67 = .ok (.iload_n 2, 1) := by decide +kernel
theorem dX9_goesNight_68 : decode cX9_goesNight 68 = .ok (.iconst 3, 1) := by decide +kernel
theorem dX9_goesNight_69 : decode cX9_goesNight 69 = .ok (.invokevirtual 157, 3) := by decide +kernel
theorem dX9_goesNight_72 : decode cX9_goesNight 72 = .ok (.aload_n 0, 1) := by decide +kernel
theorem dX9_goesNight_73 : decode cX9_goesNight 73 = .ok (.getfield 7, 3) := by decide +kernel
theorem dX9_goesNight_76 : decode cX9_goesNight 76 = .ok (.bipush 6, 2) := by decide +kernel
theorem dX9_goesNight_78 : decode cX9_goesNight 78 = .ok (.iaload, 1) := by decide +kernel
theorem dX9_goesNight_79 : decode cX9_goesNight 79 = .ok (.if_icmp .gt 8, 3) := by decide +kernel
theorem dX9_goesNight_82 : decode cX9_goesNight 82 = .ok (.aload_n 0, 1) := by decide +kernel
theorem dX9_goesNight_83 : decode cX9_goesNight 83 = .ok (.iload_n 2, 1) := by decide +kernel
theorem dX9_goesNight_84 : decode cX9_goesNight 84 = .ok (.invokevirtual 297, 3) := by decide +kernel
theorem dX9_goesNight_87 : decode cX9_goesNight 87 = .ok (.iinc 2 1, 3) := by decide +kernel
theorem dX9_goesNight_90 : decode cX9_goesNight 90 = .ok (.goto (-55), 3) := by decide +kernel
theorem dX9_goesNight_93 : decode cX9_goesNight 93 = .ok (.aload_n 0, 1) := by decide +kernel
theorem dX9_goesNight_94 : decode cX9_goesNight 94 = .ok (.iload_n 1, 1) := by decide +kernel
theorem dX9_goesNight_95 : decode cX9_goesNight 95 = .ok (.invokevirtual 300, 3) := by decide +kernel
theorem dX9_goesNight_98 : decode cX9_goesNight 98 = .ok (.iinc 1 1, 3) := by decide +kernel
theorem dX9_goesNight_101 : decode cX9_goesNight 101 = .ok (.goto (-99), 3) := by decide +kernel
theorem dX9_goesNight_104 : decode cX9_goesNight 104 = .ok (.aload_n 0, 1) := by decide +kernel
theorem dX9_goesNight_105 : decode cX9_goesNight 105 = .ok (.getfield 7, 3) := by decide +kernel
theorem dX9_goesNight_108 : decode cX9_goesNight 108 = .ok (.bipush 6, 2) := by decide +kernel
theorem dX9_goesNight_110 : decode cX9_goesNight 110 = .ok (.aload_n 0, 1) := by decide +kernel
theorem dX9_goesNight_111 : decode cX9_goesNight 111 = .ok (.getfield 7, 3) := by decide +kernel
theorem dX9_goesNight_114 : decode cX9_goesNight 114 = .ok (.bipush 6, 2) := by decide +kernel
theorem dX9_goesNight_116 : decode cX9_goesNight 116 = .ok (.iaload, 1) := by decide +kernel
theorem dX9_goesNight_117 : decode cX9_goesNight 117 = .ok (.iconst 1, 1) := by decide +kernel
theorem dX9_goesNight_118 : decode cX9_goesNight 118 = .ok (.iadd, 1) := by decide +kernel
theorem dX9_goesNight_119 : decode cX9_goesNight 119 = .ok (.iastore, 1) := by decide +kernel
theorem dX9_goesNight_120 : decode cX9_goesNight 120 = .ok (.return_, 1) := by decide +kernel
theorem dX9_greater_0 : decode cX9_greater 0 = .ok (.iload_n 1, 1) := by decide +kernel
theorem dX9_greater_1 : decode cX9_greater 1 = .ok (.iload_n 2, 1) := by decide +kernel
theorem dX9_greater_2 : decode cX9_greater 2 = .ok (.if_icmp .le 7, 3) := by decide +kernel
theorem dX9_greater_5 : decode cX9_greater 5 = .ok (.iload_n 1, 1) := by decide +kernel
theorem dX9_greater_6 : decode cX9_greater 6 = .ok (.goto 4, 3) := by decide +kernel
theorem dX9_greater_9 : decode cX9_greater 9 = .ok (.iload_n 2, 1) := by decide +kernel
theorem dX9_greater_10 : decode cX9_greater 10 = .ok (.ireturn, 1) := by decide +kernel
theorem dX9_has_0 : decode cX9_has 0 = .ok (.iload_n 1, 1) := by decide +kernel
theorem dX9_has_1 : decode cX9_has 1 = .ok (.iload_n 2, 1) := by decide +kernel
theorem dX9_has_2 : decode cX9_has 2 = .ok (.ishr, 1) := by decide +kernel
theorem dX9_has_3 : decode cX9_has 3 = .ok (.iconst 1, 1) := by decide +kernel
theorem dX9_has_4 : decode cX9_has 4 = .ok (.iand, 1) := by decide +kernel
theorem dX9_has_5 : decode cX9_has 5 = .ok (.iconst 1, 1) := by decide +kernel
theorem dX9_has_6 : decode cX9_has 6 = .ok (.if_icmp .ne 7, 3) := by decide +kernel
theorem dX9_has_9 : decode cX9_has 9 = .ok (.iconst 1, 1) := by decide +kernel
theorem dX9_has_10 : decode cX9_has 10 = .ok (.goto 4, 3) := by decide +kernel
theorem dX9_has_13 : decode cX9_has 13 = .ok (.iconst 0, 1) := by decide +kernel
theorem dX9_has_14 : decode cX9_has 14 = .ok (.ireturn, 1) := by decide +kernel
theorem dX9_hasNotice_0 : decode cX9_hasNotice 0 = .ok (.iconst 0, 1) := by decide +kernel
theorem dX9_hasNotice_1 : decode cX9_hasNotice 1 = .ok (.istore_n 2, 1) := by decide +kernel
theorem dX9_hasNotice_2 : decode cX9_hasNotice 2 = .ok (.iload_n 2, 1) := by decide +kernel
theorem dX9_hasNotice_3 : decode cX9_hasNotice 3 = .ok (.aload_n 0, 1) := by decide +kernel
theorem dX9_hasNotice_4 : decode cX9_hasNotice 4 = .ok (.getfield 7, 3) := by decide +kernel
theorem dX9_hasNotice_7 : decode cX9_hasNotice 7 = .ok (.bipush 8, 2) := by decide +kernel
theorem dX9_hasNotice_9 : decode cX9_hasNotice 9 = .ok (.iaload, 1) := by decide +kernel
theorem dX9_hasNotice_10 : decode cX9_hasNotice 10 = .ok (.if_icmp .ge 33, 3) := by decide +kernel
theorem dX9_hasNotice_13 : decode cX9_hasNotice 13 = .ok (.aload_n 0, 1) := by decide +kernel
theorem dX9_hasNotice_14 : decode cX9_hasNotice 14 = .ok (.iload_n 2, 1) := by decide +kernel
theorem dX9_hasNotice_15 : decode cX9_hasNotice 15 = .ok (.iconst 4, 1) := by decide +kernel
theorem dX9_hasNotice_16 : decode cX9_hasNotice 16 = .ok (.invokevirtual 157, 3) := by decide +kernel
theorem dX9_hasNotice_19 : decode cX9_hasNotice 19 = .ok (.iconst 1, 1) := by decide +kernel
theorem dX9_hasNotice_20 : decode cX9_hasNotice 20 = .ok (.if_icmp .ne 17, 3) := by decide +kernel
theorem dX9_hasNotice_23 : decode cX9_hasNotice 23 = .ok (.aload_n 0, 1) := by decide +kernel
theorem dX9_hasNotice_24 : decode cX9_hasNotice 24 = .ok (.iload_n 2, 1) := by decide +kernel
theorem dX9_hasNotice_25 : decode cX9_hasNotice 25 = .ok (.iconst 5, 1) := by decide +kernel
theorem dX9_hasNotice_26 : decode cX9_hasNotice 26 = .ok (.invokevirtual 157, 3) := by decide +kernel
theorem dX9_hasNotice_29 : decode cX9_hasNotice 29 = .ok (.iload_n 1, 1) := by decide +kernel
theorem dX9_hasNotice_30 : decode cX9_hasNotice 30 = .ok (.iconst 1, 1) := by decide +kernel
theorem dX9_hasNotice_31 : decode cX9_hasNotice 31 = .ok (.iadd, 1) := by decide +kernel
theorem dX9_hasNotice_32 : decode cX9_hasNotice 32 = .ok (.if_icmp .ne 5, 3) := by decide +kernel
theorem dX9_hasNotice_35 : decode cX9_hasNotice 35 = .ok (.iconst 1, 1) := by decide +kernel
theorem dX9_hasNotice_36 : decode cX9_hasNotice 36 = .ok (.ireturn, 1) := by decide +kernel
theorem dX9_hasNotice_37 : decode cX9_hasNotice 37 = .ok (.iinc 2 1, 3) := by decide +kernel
theorem dX9_hasNotice_40 : decode cX9_hasNotice 40 = .ok (.goto (-38), 3) := by decide +kernel
theorem dX9_hasNotice_43 : decode cX9_hasNotice 43 = .ok (.iconst 0, 1) := by decide +kernel
theorem dX9_hasNotice_44 : decode cX9_hasNotice 44 = .ok (.ireturn, 1) := by decide +kernel
theorem dX9_highOf_0 : decode cX9_highOf 0 = .ok (.iload_n 1, 1) := by decide +kernel
theorem dX9_highOf_1 : decode cX9_highOf 1 = .ok (.iconst 2, 1) := by decide +kernel
theorem dX9_highOf_2 : decode cX9_highOf 2 = .ok (.if_icmp .ge 26, 3) := by decide +kernel
theorem dX9_highOf_5 : decode cX9_highOf 5 = .ok (.iload_n 2, 1) := by decide +kernel
theorem dX9_highOf_6 : decode cX9_highOf 6 = .ok (.iconst 2, 1) := by decide +kernel
theorem dX9_highOf_7 : decode cX9_highOf 7 = .ok (.if_icmp .ge 8, 3) := by decide +kernel
theorem dX9_highOf_10 : decode cX9_highOf 10 = .ok (.bipush 11, 2) := by decide +kernel
theorem dX9_highOf_12 : decode cX9_highOf 12 = .ok (.goto 15, 3) := by decide +kernel
theorem dX9_highOf_15 : decode cX9_highOf 15 = .ok (.iload_n 2, 1) := by decide +kernel
theorem dX9_highOf_16 : decode cX9_highOf 16 = .ok (.iconst 2, 1) := by decide +kernel
theorem dX9_highOf_17 : decode cX9_highOf 17 = .ok (.if_icmp .ne 7, 3) := by decide +kernel
theorem dX9_highOf_20 : decode cX9_highOf 20 = .ok (.iconst 5, 1) := by decide +kernel
theorem dX9_highOf_21 : decode cX9_highOf 21 = .ok (.goto 6, 3) := by decide +kernel
theorem dX9_highOf_24 : decode cX9_highOf 24 = .ok (.sipush 9999, 3) := by decide +kernel
theorem dX9_highOf_27 : decode cX9_highOf 27 = .ok (.ireturn, 1) := by decide +kernel
theorem dX9_highOf_28 : decode cX9_highOf 28 = .ok (.iload_n 1, 1) := by decide +kernel
theorem dX9_highOf_29 : decode cX9_highOf 29 = .ok (.iconst 4, 1) := by decide +kernel
theorem dX9_highOf_30 : decode cX9_highOf 30 = .ok (.if_icmp .le 9, 3) := by decide +kernel
theorem dX9_highOf_33 : decode cX9_highOf 33 = .ok (.iload_n 1, 1) := by decide +kernel
theorem dX9_highOf_34 : decode cX9_highOf 34 = .ok (.bipush 7, 2) := by decide +kernel
theorem dX9_highOf_36 : decode cX9_highOf 36 = .ok (.if_icmp .ne 25, 3) := by decide +kernel
theorem dX9_highOf_39 : decode cX9_highOf 39 = .ok (.iload_n 2, 1) := by decide +kernel
theorem dX9_highOf_40 : decode cX9_highOf 40 = .ok (.ifCond .ne 8, 3) := by decide +kernel
theorem dX9_highOf_43 : decode cX9_highOf 43 = .ok (.bipush 11, 2) := by decide +kernel
theorem dX9_highOf_45 : decode cX9_highOf 45 = .ok (.goto 15, 3) := by decide +kernel
theorem dX9_highOf_48 : decode cX9_highOf 48 = .ok (.iload_n 2, 1) := by decide +kernel
theorem dX9_highOf_49 : decode cX9_highOf 49 = .ok (.iconst 1, 1) := by decide +kernel
theorem dX9_highOf_50 : decode cX9_highOf 50 = .ok (.if_icmp .ne 7, 3) := by decide +kernel
theorem dX9_highOf_53 : decode cX9_highOf 53 = .ok (.iconst 5, 1) := by decide +kernel
theorem dX9_highOf_54 : decode cX9_highOf 54 = .ok (.goto 6, 3) := by decide +kernel
theorem dX9_highOf_57 : decode cX9_highOf 57 = .ok (.sipush 9999, 3) := by decide +kernel
theorem dX9_highOf_60 : decode cX9_highOf 60 = .ok (.ireturn, 1) := by decide +kernel
theorem dX9_highOf_61 : decode cX9_highOf 61 = .ok (.iload_n 1, 1) := by decide +kernel
theorem dX9_highOf_62 : decode cX9_highOf 62 = .ok (.iconst 5, 1) := by decide +kernel
theorem dX9_highOf_63 : decode cX9_highOf 63 = .ok (.if_icmp .ne 15, 3) := by decide +kernel
theorem dX9_highOf_66 : decode cX9_highOf 66 = .ok (.iload_n 2, 1) := by decide +kernel
theorem dX9_highOf_67 : decode cX9_highOf 67 = .ok (.ifCond .ne 8, 3) := by decide +kernel
theorem dX9_highOf_70 : decode cX9_highOf 70 = .ok (.bipush 11, 2) := by decide +kernel
theorem dX9_highOf_72 : decode cX9_highOf 72 = .ok (.goto 5, 3) := by decide +kernel
theorem dX9_highOf_75 : decode cX9_highOf 75 = .ok (.bipush 9, 2) := by decide +kernel
theorem dX9_highOf_77 : decode cX9_highOf 77 = .ok (.ireturn, 1) := by decide +kernel
theorem dX9_highOf_78 : decode cX9_highOf 78 = .ok (.iload_n 1, 1) := by decide +kernel
theorem dX9_highOf_79 : decode cX9_highOf 79 = .ok (.bipush 6, 2) := by decide +kernel
theorem dX9_highOf_81 : decode cX9_highOf 81 = .ok (.if_icmp .ne 15, 3) := by decide +kernel
theorem dX9_highOf_84 : decode cX9_highOf 84 = .ok (.iload_n 2, 1) := by decide +kernel
theorem dX9_highOf_85 : decode cX9_highOf 85 = .ok (.ifCond .ne 7, 3) := by decide +kernel
theorem dX9_highOf_88 : decode cX9_highOf 88 = .ok (.iconst 5, 1) := by decide +kernel
theorem dX9_highOf_89 : decode cX9_highOf 89 = .ok (.goto 6, 3) := by decide +kernel
theorem dX9_highOf_92 : decode cX9_highOf 92 = .ok (.sipush 9999, 3) := by decide +kernel
theorem dX9_highOf_95 : decode cX9_highOf 95 = .ok (.ireturn, 1) := by decide +kernel
theorem dX9_highOf_96 : decode cX9_highOf 96 = .ok (.iload_n 1, 1) := by decide +kernel
theorem dX9_highOf_97 : decode cX9_highOf 97 = .ok (.bipush 8, 2) := by decide +kernel
theorem dX9_highOf_99 : decode cX9_highOf 99 = .ok (.if_icmp .ne 9, 3) := by decide +kernel
theorem dX9_highOf_102 : decode cX9_highOf 102 = .ok (.sipush 199, 3) := by decide +kernel
theorem dX9_highOf_105 : decode cX9_highOf 105 = .ok (.goto 5, 3) := by decide +kernel
theorem dX9_highOf_108 : decode cX9_highOf 108 = .ok (.bipush 20, 2) := by decide +kernel
theorem dX9_highOf_110 : decode cX9_highOf 110 = .ok (.ireturn, 1) := by decide +kernel
theorem dX9_image_0 : decode cX9_image 0 = .ok (.aload_n 0, 1) := by decide +kernel
theorem dX9_image_1 : decode cX9_image 1 = .ok (.iconst 0, 1) := by decide +kernel
theorem dX9_image_2 : decode cX9_image 2 = .ok (.putfield 58, 3) := by decide +kernel
theorem dX9_image_5 : decode cX9_image 5 = .ok (.iload_n 1, 1) := by decide +kernel
theorem dX9_image_6 : decode cX9_image 6 = .ok (.ifCond .ne 12, 3) := by decide +kernel
theorem dX9_image_9 : decode cX9_image 9 = .ok (.aload_n 0, 1) := by decide +kernel
theorem dX9_image_10 : decode cX9_image 10 = .ok (.getfield 441, 3) := by decide +kernel
theorem dX9_image_13 : decode cX9_image 13 = .ok (.ifCond .ne 5, 3) := by decide +kernel
theorem dX9_image_16 : decode cX9_image 16 = .ok (.iconst 0, 1) := by decide +kernel
theorem dX9_image_17 : decode cX9_image 17 = .ok (.ireturn, 1) := by decide +kernel
theorem dX9_image_18 : decode cX9_image 18 = .ok (.aload_n 0, 1) := by decide +kernel
theorem dX9_image_19 : decode cX9_image 19 = .ok (.iconst 1, 1) := by decide +kernel
theorem dX9_image_20 : decode cX9_image 20 = .ok (.putfield 441, 3) := by decide +kernel
theorem dX9_image_23 : decode cX9_image 23 = .ok (.iconst 0, 1) := by decide +kernel
theorem dX9_image_24 : decode cX9_image 24 = .ok (.istore_n 2, 1) := by decide +kernel
theorem dX9_image_25 : decode cX9_image 25 = .ok (.iload_n 2, 1) := by decide +kernel
theorem dX9_image_26 : decode cX9_image 26 = .ok (.sipush 19782, 3) := by decide +kernel
theorem dX9_image_29 : decode cX9_image 29 = .ok (.if_icmp .ge 40, 3) := by decide +kernel
theorem dX9_image_32 : decode cX9_image 32 = .ok (.iload_n 1, 1) := by decide +kernel
theorem dX9_image_33 : decode cX9_image 33 = .ok (.ifCond .eq 18, 3) := by decide +kernel
theorem dX9_image_36 : decode cX9_image 36 = .ok (.aload_n 0, 1) := by decide +kernel
theorem dX9_image_37 : decode cX9_image 37 = .ok (.getfield 52, 3) := by decide +kernel
theorem dX9_image_40 : decode cX9_image 40 = .ok (.iload_n 2, 1) := by decide +kernel
theorem dX9_image_41 : decode cX9_image 41 = .ok (.aload_n 0, 1) := by decide +kernel
theorem dX9_image_42 : decode cX9_image 42 = .ok (.getfield 7, 3) := by decide +kernel
theorem dX9_image_45 : decode cX9_image 45 = .ok (.iload_n 2, 1) := by decide +kernel
theorem dX9_image_46 : decode cX9_image 46 = .ok (.iaload, 1) := by decide +kernel
theorem dX9_image_47 : decode cX9_image 47 = .ok (.iastore, 1) := by decide +kernel
theorem dX9_image_48 : decode cX9_image 48 = .ok (.goto 15, 3) := by decide +kernel
theorem dX9_image_51 : decode cX9_image 51 = .ok (.aload_n 0, 1) := by decide +kernel
theorem dX9_image_52 : decode cX9_image 52 = .ok (.getfield 7, 3) := by decide +kernel
theorem dX9_image_55 : decode cX9_image 55 = .ok (.iload_n 2, 1) := by decide +kernel
theorem dX9_image_56 : decode cX9_image 56 = .ok (.aload_n 0, 1) := by decide +kernel
theorem dX9_image_57 : decode cX9_image 57 = .ok (.getfield 52, 3) := by decide +kernel
theorem dX9_image_60 : decode cX9_image 60 = .ok (.iload_n 2, 1) := by decide +kernel
theorem dX9_image_61 : decode cX9_image 61 = .ok (.iaload, 1) := by decide +kernel
theorem dX9_image_62 : decode cX9_image 62 = .ok (.iastore, 1) := by decide +kernel
theorem dX9_image_63 : decode cX9_image 63 = .ok (.iinc 2 1, 3) := by decide +kernel
theorem dX9_image_66 : decode cX9_image 66 = .ok (.goto (-41), 3) := by decide +kernel
theorem dX9_image_69 : decode cX9_image 69 = .ok (.iconst 0, 1) := by decide +kernel
theorem dX9_image_70 : decode cX9_image 70 = .ok (.istore_n 2, 1) := by decide +kernel
theorem dX9_image_71 : decode cX9_image 71 = .ok (.iload_n 2, 1) := by decide +kernel
theorem dX9_image_72 : decode cX9_image 72 = .ok (.sipush 144, 3) := by decide +kernel
theorem dX9_image_75 : decode cX9_image 75 = .ok (.if_icmp .ge 48, 3) := by decide +kernel
theorem dX9_image_78 : decode cX9_image 78 = .ok (.iload_n 1, 1) := by decide +kernel
theorem dX9_image_79 : decode cX9_image 79 = .ok (.ifCond .eq 22, 3) := by decide +kernel
theorem dX9_image_82 : decode cX9_image 82 = .ok (.aload_n 0, 1) := by decide +kernel
theorem dX9_image_83 : decode cX9_image 83 = .ok (.getfield 52, 3) := by decide +kernel
theorem dX9_image_86 : decode cX9_image 86 = .ok (.sipush 19782, 3) := by decide +kernel
theorem dX9_image_89 : decode cX9_image 89 = .ok (.iload_n 2, 1) := by decide +kernel
theorem dX9_image_90 : decode cX9_image 90 = .ok (.iadd, 1) := by decide +kernel
theorem dX9_image_91 : decode cX9_image 91 = .ok (.aload_n 0, 1) := by decide +kernel
theorem dX9_image_92 : decode cX9_image 92 = .ok (.getfield 49, 3) := by decide +kernel
theorem dX9_image_95 : decode cX9_image 95 = .ok (.iload_n 2, 1) := by decide +kernel
theorem dX9_image_96 : decode cX9_image 96 = .ok (.iaload, 1) := by decide +kernel
theorem dX9_image_97 : decode cX9_image 97 = .ok (.iastore, 1) := by decide +kernel
theorem dX9_image_98 : decode cX9_image 98 = .ok (.goto 19, 3) := by decide +kernel
theorem dX9_image_101 : decode cX9_image 101 = .ok (.aload_n 0, 1) := by decide +kernel
theorem dX9_image_102 : decode cX9_image 102 = .ok (.getfield 49, 3) := by decide +kernel
theorem dX9_image_105 : decode cX9_image 105 = .ok (.iload_n 2, 1) := by decide +kernel
theorem dX9_image_106 : decode cX9_image 106 = .ok (.aload_n 0, 1) := by decide +kernel
theorem dX9_image_107 : decode cX9_image 107 = .ok (.getfield 52, 3) := by decide +kernel
theorem dX9_image_110 : decode cX9_image 110 = .ok (.sipush 19782, 3) := by decide +kernel
theorem dX9_image_113 : decode cX9_image 113 = .ok (.iload_n 2, 1) := by decide +kernel
theorem dX9_image_114 : decode cX9_image 114 = .ok (.iadd, 1) := by decide +kernel
theorem dX9_image_115 : decode cX9_image 115 = .ok (.iaload, 1) := by decide +kernel
theorem dX9_image_116 : decode cX9_image 116 = .ok (.iastore, 1) := by decide +kernel
theorem dX9_image_117 : decode cX9_image 117 = .ok (.iinc 2 1, 3) := by decide +kernel
theorem dX9_image_120 : decode cX9_image 120 = .ok (.goto (-49), 3) := by decide +kernel
theorem dX9_image_123 : decode cX9_image 123 = .ok (.iconst 0, 1) := by decide +kernel
theorem dX9_image_124 : decode cX9_image 124 = .ok (.istore_n 2, 1) := by decide +kernel
theorem dX9_image_125 : decode cX9_image 125 = .ok (.iload_n 2, 1) := by decide +kernel
theorem dX9_image_126 : decode cX9_image 126 = .ok (.bipush 13, 2) := by decide +kernel
theorem dX9_image_128 : decode cX9_image 128 = .ok (.if_icmp .ge 40, 3) := by decide +kernel
theorem dX9_image_131 : decode cX9_image 131 = .ok (.iload_n 1, 1) := by decide +kernel
theorem dX9_image_132 : decode cX9_image 132 = .ok (.ifCond .eq 18, 3) := by decide +kernel
theorem dX9_image_135 : decode cX9_image 135 = .ok (.aload_n 0, 1) := by decide +kernel
theorem dX9_image_136 : decode cX9_image 136 = .ok (.getfield 55, 3) := by decide +kernel
theorem dX9_image_139 : decode cX9_image 139 = .ok (.iload_n 2, 1) := by decide +kernel
theorem dX9_image_140 : decode cX9_image 140 = .ok (.aload_n 0, 1) := by decide +kernel
theorem dX9_image_141 : decode cX9_image 141 = .ok (.getfield 16, 3) := by decide +kernel
theorem dX9_image_144 : decode cX9_image 144 = .ok (.iload_n 2, 1) := by decide +kernel
theorem dX9_image_145 : decode cX9_image 145 = .ok (.laload, 1) := by decide +kernel
theorem dX9_image_146 : decode cX9_image 146 = .ok (.lastore, 1) := by decide +kernel
theorem dX9_image_147 : decode cX9_image 147 = .ok (.goto 15, 3) := by decide +kernel
theorem dX9_image_150 : decode cX9_image 150 = .ok (.aload_n 0, 1) := by decide +kernel
theorem dX9_image_151 : decode cX9_image 151 = .ok (.getfield 16, 3) := by decide +kernel
theorem dX9_image_154 : decode cX9_image 154 = .ok (.iload_n 2, 1) := by decide +kernel
theorem dX9_image_155 : decode cX9_image 155 = .ok (.aload_n 0, 1) := by decide +kernel
theorem dX9_image_156 : decode cX9_image 156 = .ok (.getfield 55, 3) := by decide +kernel
theorem dX9_image_159 : decode cX9_image 159 = .ok (.iload_n 2, 1) := by decide +kernel
theorem dX9_image_160 : decode cX9_image 160 = .ok (.laload, 1) := by decide +kernel
theorem dX9_image_161 : decode cX9_image 161 = .ok (.lastore, 1) := by decide +kernel
theorem dX9_image_162 : decode cX9_image 162 = .ok (.iinc 2 1, 3) := by decide +kernel
theorem dX9_image_165 : decode cX9_image 165 = .ok (.goto (-40), 3) := by decide +kernel
theorem dX9_image_168 : decode cX9_image 168 = .ok (.iload_n 1, 1) := by decide +kernel
theorem dX9_image_169 : decode cX9_image 169 = .ok (.ifCond .eq 18, 3) := by decide +kernel
theorem dX9_image_172 : decode cX9_image 172 = .ok (.aload_n 0, 1) := by decide +kernel
theorem dX9_image_173 : decode cX9_image 173 = .ok (.getfield 52, 3) := by decide +kernel
theorem dX9_image_176 : decode cX9_image 176 = .ok (.sipush 19926, 3) := by decide +kernel
theorem dX9_image_179 : decode cX9_image 179 = .ok (.aload_n 0, 1) := by decide +kernel
theorem dX9_image_180 : decode cX9_image 180 = .ok (.getfield 407, 3) := by decide +kernel
theorem dX9_image_183 : decode cX9_image 183 = .ok (.iastore, 1) := by decide +kernel
theorem dX9_image_184 : decode cX9_image 184 = .ok (.goto 15, 3) := by decide +kernel
theorem dX9_image_187 : decode cX9_image 187 = .ok (.aload_n 0, 1) := by decide +kernel
theorem dX9_image_188 : decode cX9_image 188 = .ok (.aload_n 0, 1) := by decide +kernel
theorem dX9_image_189 : decode cX9_image 189 = .ok (.getfield 52, 3) := by decide +kernel
theorem dX9_image_192 : decode cX9_image 192 = .ok (.sipush 19926, 3) := by decide +kernel
theorem dX9_image_195 : decode cX9_image 195 = .ok (.iaload, 1) := by decide +kernel
theorem dX9_image_196 : decode cX9_image 196 = .ok (.putfield 407, 3) := by decide +kernel
theorem dX9_image_199 : decode cX9_image 199 = .ok (.iconst 1, 1) := by decide +kernel
theorem dX9_image_200 : decode cX9_image 200 = .ok (.ireturn, 1) := by decide +kernel
theorem dX9_init_0 : decode cX9_init 0 = .ok (.aload_n 0, 1) := by decide +kernel
theorem dX9_init_1 : decode cX9_init 1 = .ok (.invokespecial 1, 3) := by decide +kernel
theorem dX9_init_4 : decode cX9_init 4 = .ok (.aload_n 0, 1) := by decide +kernel
theorem dX9_init_5 : decode cX9_init 5 = .ok (.sipush 19782, 3) := by decide +kernel
theorem dX9_init_8 : decode cX9_init 8 = .ok (.newarray .int, 2) := by decide +kernel
theorem dX9_init_10 : decode cX9_init 10 = .ok (.putfield 7, 3) := by decide +kernel
theorem dX9_init_13 : decode cX9_init 13 = .ok (.aload_n 0, 1) := by decide +kernel
theorem dX9_init_14 : decode cX9_init 14 = .ok (.sipush 19782, 3) := by decide +kernel
theorem dX9_init_17 : decode cX9_init 17 = .ok (.newarray .int, 2) := by decide +kernel
theorem dX9_init_19 : decode cX9_init 19 = .ok (.putfield 13, 3) := by decide +kernel
theorem dX9_init_22 : decode cX9_init 22 = .ok (.aload_n 0, 1) := by decide +kernel
theorem dX9_init_23 : decode cX9_init 23 = .ok (.bipush 13, 2) := by decide +kernel
theorem dX9_init_25 : decode cX9_init 25 = .ok (.newarray .long, 2) := by decide +kernel
theorem dX9_init_27 : decode cX9_init 27 = .ok (.putfield 16, 3) := by decide +kernel
theorem dX9_init_30 : decode cX9_init 30 = .ok (.aload_n 0, 1) := by decide +kernel
theorem dX9_init_31 : decode cX9_init 31 = .ok (.bipush 13, 2) := by decide +kernel
theorem dX9_init_33 : decode cX9_init 33 = .ok (.newarray .long, 2) := by decide +kernel
theorem dX9_init_35 : decode cX9_init 35 = .ok (.putfield 20, 3) := by decide +kernel
theorem dX9_init_38 : decode cX9_init 38 = .ok (.aload_n 0, 1) := by decide +kernel
theorem dX9_init_39 : decode cX9_init 39 = .ok (.bipush 13, 2) := by decide +kernel
theorem dX9_init_41 : decode cX9_init 41 = .ok (.newarray .int, 2) := by decide +kernel
theorem dX9_init_43 : decode cX9_init 43 = .ok (.putfield 23, 3) := by decide +kernel
theorem dX9_init_46 : decode cX9_init 46 = .ok (.aload_n 0, 1) := by decide +kernel
theorem dX9_init_47 : decode cX9_init 47 = .ok (.sipush 1224, 3) := by decide +kernel
theorem dX9_init_50 : decode cX9_init 50 = .ok (.newarray .int, 2) := by decide +kernel
theorem dX9_init_52 : decode cX9_init 52 = .ok (.putfield 26, 3) := by decide +kernel
theorem dX9_init_55 : decode cX9_init 55 = .ok (.aload_n 0, 1) := by decide +kernel
theorem dX9_init_56 : decode cX9_init 56 = .ok (.sipush 1224, 3) := by decide +kernel
theorem dX9_init_59 : decode cX9_init 59 = .ok (.newarray .int, 2) := by decide +kernel
theorem dX9_init_61 : decode cX9_init 61 = .ok (.putfield 29, 3) := by decide +kernel
theorem dX9_init_64 : decode cX9_init 64 = .ok (.aload_n 0, 1) := by decide +kernel
theorem dX9_init_65 : decode cX9_init 65 = .ok (.sipush 1224, 3) := by decide +kernel
theorem dX9_init_68 : decode cX9_init 68 = .ok (.newarray .int, 2) := by decide +kernel
theorem dX9_init_70 : decode cX9_init 70 = .ok (.putfield 32, 3) := by decide +kernel
theorem dX9_init_73 : decode cX9_init 73 = .ok (.aload_n 0, 1) := by decide +kernel
theorem dX9_init_74 : decode cX9_init 74 = .ok (.bipush 12, 2) := by decide +kernel
theorem dX9_init_76 : decode cX9_init 76 = .ok (.newarray .boolean, 2) := by decide +kernel
theorem dX9_init_78 : decode cX9_init 78 = .ok (.putfield 35, 3) := by decide +kernel
theorem dX9_init_81 : decode cX9_init 81 = .ok (.aload_n 0, 1) := by decide +kernel
theorem dX9_init_82 : decode cX9_init 82 = .ok (.sipush 400, 3) := by decide +kernel
theorem dX9_init_85 : decode cX9_init 85 = .ok (.newarray .int, 2) := by decide +kernel
theorem dX9_init_87 : decode cX9_init 87 = .ok (.putfield 39, 3) := by decide +kernel
theorem dX9_init_90 : decode cX9_init 90 = .ok (.aload_n 0, 1) := by decide +kernel
theorem dX9_init_91 : decode cX9_init 91 = .ok (.bipush 57, 2) := by decide +kernel
theorem dX9_init_93 : decode cX9_init 93 = .ok (.newarray .int, 2) := by decide +kernel
theorem dX9_init_95 : decode cX9_init 95 = .ok (.dup, 1) := by decide +kernel
theorem dX9_init_96 : decode cX9_init 96 = .ok (.iconst 0, 1) := by decide +kernel
theorem dX9_init_97 : decode cX9_init 97 = .ok (.bipush 32, 2) := by decide +kernel
theorem dX9_init_99 : decode cX9_init 99 = .ok (.iastore, 1) := by decide +kernel
theorem dX9_init_100 : decode cX9_init 100 = .ok (.dup, 1) := by decide +kernel
theorem dX9_init_101 : decode cX9_init 101 = .ok (.iconst 1, 1) := by decide +kernel
theorem dX9_init_102 : decode cX9_init 102 = .ok (.bipush 98, 2) := by decide +kernel
theorem dX9_init_104 : decode cX9_init 104 = .ok (.iastore, 1) := by decide +kernel
theorem dX9_init_105 : decode cX9_init 105 = .ok (.dup, 1) := by decide +kernel
theorem dX9_init_106 : decode cX9_init 106 = .ok (.iconst 2, 1) := by decide +kernel
theorem dX9_init_107 : decode cX9_init 107 = .ok (.bipush 117, 2) := by decide +kernel
theorem dX9_init_109 : decode cX9_init 109 = .ok (.iastore, 1) := by decide +kernel
theorem dX9_init_110 : decode cX9_init 110 = .ok (.dup, 1) := by decide +kernel
theorem dX9_init_111 : decode cX9_init 111 = .ok (.iconst 3, 1) := by decide +kernel
theorem dX9_init_112 : decode cX9_init 112 = .ok (.bipush 121, 2) := by decide +kernel
theorem dX9_init_114 : decode cX9_init 114 = .ok (.iastore, 1) := by decide +kernel
theorem dX9_init_115 : decode cX9_init 115 = .ok (.dup, 1) := by decide +kernel
theorem dX9_init_116 : decode cX9_init 116 = .ok (.iconst 4, 1) := by decide +kernel
theorem dX9_init_117 : decode cX9_init 117 = .ok (.bipush 32, 2) := by decide +kernel
theorem dX9_init_119 : decode cX9_init 119 = .ok (.iastore, 1) := by decide +kernel
theorem dX9_init_120 : decode cX9_init 120 = .ok (.dup, 1) := by decide +kernel
theorem dX9_init_121 : decode cX9_init 121 = .ok (.iconst 5, 1) := by decide +kernel
theorem dX9_init_122 : decode cX9_init 122 = .ok (.bipush 97, 2) := by decide +kernel
theorem dX9_init_124 : decode cX9_init 124 = .ok (.iastore, 1) := by decide +kernel
theorem dX9_init_125 : decode cX9_init 125 = .ok (.dup, 1) := by decide +kernel
theorem dX9_init_126 : decode cX9_init 126 = .ok (.bipush 6, 2) := by decide +kernel
theorem dX9_init_128 : decode cX9_init 128 = .ok (.bipush 112, 2) := by decide +kernel
theorem dX9_init_130 : decode cX9_init 130 = .ok (.iastore, 1) := by decide +kernel
theorem dX9_init_131 : decode cX9_init 131 = .ok (.dup, 1) := by decide +kernel
theorem dX9_init_132 : decode cX9_init 132 = .ok (.bipush 7, 2) := by decide +kernel
theorem dX9_init_134 : decode cX9_init 134 = .ok (.bipush 97, 2) := by decide +kernel
theorem dX9_init_136 : decode cX9_init 136 = .ok (.iastore, 1) := by decide +kernel
theorem dX9_init_137 : decode cX9_init 137 = .ok (.dup, 1) := by decide +kernel
theorem dX9_init_138 : decode cX9_init 138 = .ok (.bipush 8, 2) := by decide +kernel
theorem dX9_init_140 : decode cX9_init 140 = .ok (.bipush 114, 2) := by decide +kernel
theorem dX9_init_142 : decode cX9_init 142 = .ok (.iastore, 1) := by decide +kernel
theorem dX9_init_143 : decode cX9_init 143 = .ok (.dup, 1) := by decide +kernel
theorem dX9_init_144 : decode cX9_init 144 = .ok (.bipush 9, 2) := by decide +kernel
theorem dX9_init_146 : decode cX9_init 146 = .ok (.bipush 116, 2) := by decide +kernel
theorem dX9_init_148 : decode cX9_init 148 = .ok (.iastore, 1) := by decide +kernel
theorem dX9_init_149 : decode cX9_init 149 = .ok (.dup, 1) := by decide +kernel
theorem dX9_init_150 : decode cX9_init 150 = .ok (.bipush 10, 2) := by decide +kernel
theorem dX9_init_152 : decode cX9_init 152 = .ok (.bipush 32, 2) := by decide +kernel
theorem dX9_init_154 : decode cX9_init 154 = .ok (.iastore, 1) := by decide +kernel
theorem dX9_init_155 : decode cX9_init 155 = .ok (.dup, 1) := by decide +kernel
theorem dX9_init_156 : decode cX9_init 156 = .ok (.bipush 11, 2) := by decide +kernel
theorem dX9_init_158 : decode cX9_init 158 = .ok (.bipush 115, 2) := by decide +kernel
theorem dX9_init_160 : decode cX9_init 160 = .ok (.iastore, 1) := by decide +kernel
theorem dX9_init_161 : decode cX9_init 161 = .ok (.dup, 1) := by decide +kernel
theorem dX9_init_162 : decode cX9_init 162 = .ok (.bipush 12, 2) := by decide +kernel
theorem dX9_init_164 : decode cX9_init 164 = .ok (.bipush 116, 2) := by decide +kernel
theorem dX9_init_166 : decode cX9_init 166 = .ok (.iastore, 1) := by decide +kernel
theorem dX9_init_167 : decode cX9_init 167 = .ok (.dup, 1) := by decide +kernel
theorem dX9_init_168 : decode cX9_init 168 = .ok (.bipush 13, 2) := by decide +kernel
theorem dX9_init_170 : decode cX9_init 170 = .ok (.bipush 111, 2) := by decide +kernel
theorem dX9_init_172 : decode cX9_init 172 = .ok (.iastore, 1) := by decide +kernel
theorem dX9_init_173 : decode cX9_init 173 = .ok (.dup, 1) := by decide +kernel
theorem dX9_init_174 : decode cX9_init 174 = .ok (.bipush 14, 2) := by decide +kernel
theorem dX9_init_176 : decode cX9_init 176 = .ok (.bipush 99, 2) := by decide +kernel
theorem dX9_init_178 : decode cX9_init 178 = .ok (.iastore, 1) := by decide +kernel
theorem dX9_init_179 : decode cX9_init 179 = .ok (.dup, 1) := by decide +kernel
theorem dX9_init_180 : decode cX9_init 180 = .ok (.bipush 15, 2) := by decide +kernel
theorem dX9_init_182 : decode cX9_init 182 = .ok (.bipush 107, 2) := by decide +kernel
theorem dX9_init_184 : decode cX9_init 184 = .ok (.iastore, 1) := by decide +kernel
theorem dX9_init_185 : decode cX9_init 185 = .ok (.dup, 1) := by decide +kernel
theorem dX9_init_186 : decode cX9_init 186 = .ok (.bipush 16, 2) := by decide +kernel
theorem dX9_init_188 : decode cX9_init 188 = .ok (.bipush 32, 2) := by decide +kernel
theorem dX9_init_190 : decode cX9_init 190 = .ok (.iastore, 1) := by decide +kernel
theorem dX9_init_191 : decode cX9_init 191 = .ok (.dup, 1) := by decide +kernel
theorem dX9_init_192 : decode cX9_init 192 = .ok (.bipush 17, 2) := by decide +kernel
theorem dX9_init_194 : decode cX9_init 194 = .ok (.bipush 114, 2) := by decide +kernel
theorem dX9_init_196 : decode cX9_init 196 = .ok (.iastore, 1) := by decide +kernel
theorem dX9_init_197 : decode cX9_init 197 = .ok (.dup, 1) := by decide +kernel
theorem dX9_init_198 : decode cX9_init 198 = .ok (.bipush 18, 2) := by decide +kernel
theorem dX9_init_200 : decode cX9_init 200 = .ok (.bipush 101, 2) := by decide +kernel
theorem dX9_init_202 : decode cX9_init 202 = .ok (.iastore, 1) := by decide +kernel
theorem dX9_init_203 : decode cX9_init 203 = .ok (.dup, 1) := by decide +kernel
theorem dX9_init_204 : decode cX9_init 204 = .ok (.bipush 19, 2) := by decide +kernel
theorem dX9_init_206 : decode cX9_init 206 = .ok (.bipush 115, 2) := by decide +kernel
theorem dX9_init_208 : decode cX9_init 208 = .ok (.iastore, 1) := by decide +kernel
theorem dX9_init_209 : decode cX9_init 209 = .ok (.dup, 1) := by decide +kernel
theorem dX9_init_210 : decode cX9_init 210 = .ok (.bipush 20, 2) := by decide +kernel
theorem dX9_init_212 : decode cX9_init 212 = .ok (.bipush 101, 2) := by decide +kernel
theorem dX9_init_214 : decode cX9_init 214 = .ok (.iastore, 1) := by decide +kernel
theorem dX9_init_215 : decode cX9_init 215 = .ok (.dup, 1) := by decide +kernel
theorem dX9_init_216 : decode cX9_init 216 = .ok (.bipush 21, 2) := by decide +kernel
theorem dX9_init_218 : decode cX9_init 218 = .ok (.bipush 114, 2) := by decide +kernel
theorem dX9_init_220 : decode cX9_init 220 = .ok (.iastore, 1) := by decide +kernel
theorem dX9_init_221 : decode cX9_init 221 = .ok (.dup, 1) := by decide +kernel
theorem dX9_init_222 : decode cX9_init 222 = .ok (.bipush 22, 2) := by decide +kernel
theorem dX9_init_224 : decode cX9_init 224 = .ok (.bipush 118, 2) := by decide +kernel
theorem dX9_init_226 : decode cX9_init 226 = .ok (.iastore, 1) := by decide +kernel
theorem dX9_init_227 : decode cX9_init 227 = .ok (.dup, 1) := by decide +kernel
theorem dX9_init_228 : decode cX9_init 228 = .ok (.bipush 23, 2) := by decide +kernel
theorem dX9_init_230 : decode cX9_init 230 = .ok (.bipush 101, 2) := by decide +kernel
theorem dX9_init_232 : decode cX9_init 232 = .ok (.iastore, 1) := by decide +kernel
theorem dX9_init_233 : decode cX9_init 233 = .ok (.dup, 1) := by decide +kernel
theorem dX9_init_234 : decode cX9_init 234 = .ok (.bipush 24, 2) := by decide +kernel
theorem dX9_init_236 : decode cX9_init 236 = .ok (.bipush 32, 2) := by decide +kernel
theorem dX9_init_238 : decode cX9_init 238 = .ok (.iastore, 1) := by decide +kernel
theorem dX9_init_239 : decode cX9_init 239 = .ok (.dup, 1) := by decide +kernel
theorem dX9_init_240 : decode cX9_init 240 = .ok (.bipush 25, 2) := by decide +kernel
theorem dX9_init_242 : decode cX9_init 242 = .ok (.bipush 108, 2) := by decide +kernel
theorem dX9_init_244 : decode cX9_init 244 = .ok (.iastore, 1) := by decide +kernel
theorem dX9_init_245 : decode cX9_init 245 = .ok (.dup, 1) := by decide +kernel
theorem dX9_init_246 : decode cX9_init 246 = .ok (.bipush 26, 2) := by decide +kernel
theorem dX9_init_248 : decode cX9_init 248 = .ok (.bipush 101, 2) := by decide +kernel
theorem dX9_init_250 : decode cX9_init 250 = .ok (.iastore, 1) := by decide +kernel
theorem dX9_init_251 : decode cX9_init 251 = .ok (.dup, 1) := by decide +kernel
theorem dX9_init_252 : decode cX9_init 252 = .ok (.bipush 27, 2) := by decide +kernel
theorem dX9_init_254 : decode cX9_init 254 = .ok (.bipush 110, 2) := by decide +kernel
theorem dX9_init_256 : decode cX9_init 256 = .ok (.iastore, 1) := by decide +kernel
theorem dX9_init_257 : decode cX9_init 257 = .ok (.dup, 1) := by decide +kernel
theorem dX9_init_258 : decode cX9_init 258 = .ok (.bipush 28, 2) := by decide +kernel
theorem dX9_init_260 : decode cX9_init 260 = .ok (.bipush 100, 2) := by decide +kernel
theorem dX9_init_262 : decode cX9_init 262 = .ok (.iastore, 1) := by decide +kernel
theorem dX9_init_263 : decode cX9_init 263 = .ok (.dup, 1) := by decide +kernel
theorem dX9_init_264 : decode cX9_init 264 = .ok (.bipush 29, 2) := by decide +kernel
theorem dX9_init_266 : decode cX9_init 266 = .ok (.bipush 32, 2) := by decide +kernel
theorem dX9_init_268 : decode cX9_init 268 = .ok (.iastore, 1) := by decide +kernel
theorem dX9_init_269 : decode cX9_init 269 = .ok (.dup, 1) := by decide +kernel
theorem dX9_init_270 : decode cX9_init 270 = .ok (.bipush 30, 2) := by decide +kernel
theorem dX9_init_272 : decode cX9_init 272 = .ok (.bipush 114, 2) := by decide +kernel
theorem dX9_init_274 : decode cX9_init 274 = .ok (.iastore, 1) := by decide +kernel
theorem dX9_init_275 : decode cX9_init 275 = .ok (.dup, 1) := by decide +kernel
theorem dX9_init_276 : decode cX9_init 276 = .ok (.bipush 31, 2) := by decide +kernel
theorem dX9_init_278 : decode cX9_init 278 = .ok (.bipush 97, 2) := by decide +kernel
theorem dX9_init_280 : decode cX9_init 280 = .ok (.iastore, 1) := by decide +kernel
theorem dX9_init_281 : decode cX9_init 281 = .ok (.dup, 1) := by decide +kernel
theorem dX9_init_282 : decode cX9_init 282 = .ok (.bipush 32, 2) := by decide +kernel
theorem dX9_init_284 : decode cX9_init 284 = .ok (.bipush 110, 2) := by decide +kernel
theorem dX9_init_286 : decode cX9_init 286 = .ok (.iastore, 1) := by decide +kernel
theorem dX9_init_287 : decode cX9_init 287 = .ok (.dup, 1) := by decide +kernel
theorem dX9_init_288 : decode cX9_init 288 = .ok (.bipush 33, 2) := by decide +kernel
theorem dX9_init_290 : decode cX9_init 290 = .ok (.bipush 107, 2) := by decide +kernel
theorem dX9_init_292 : decode cX9_init 292 = .ok (.iastore, 1) := by decide +kernel
theorem dX9_init_293 : decode cX9_init 293 = .ok (.dup, 1) := by decide +kernel
theorem dX9_init_294 : decode cX9_init 294 = .ok (.bipush 34, 2) := by decide +kernel
theorem dX9_init_296 : decode cX9_init 296 = .ok (.bipush 32, 2) := by decide +kernel
theorem dX9_init_298 : decode cX9_init 298 = .ok (.iastore, 1) := by decide +kernel
theorem dX9_init_299 : decode cX9_init 299 = .ok (.dup, 1) := by decide +kernel
theorem dX9_init_300 : decode cX9_init 300 = .ok (.bipush 35, 2) := by decide +kernel
theorem dX9_init_302 : decode cX9_init 302 = .ok (.bipush 112, 2) := by decide +kernel
theorem dX9_init_304 : decode cX9_init 304 = .ok (.iastore, 1) := by decide +kernel
theorem dX9_init_305 : decode cX9_init 305 = .ok (.dup, 1) := by decide +kernel
theorem dX9_init_306 : decode cX9_init 306 = .ok (.bipush 36, 2) := by decide +kernel
theorem dX9_init_308 : decode cX9_init 308 = .ok (.bipush 114, 2) := by decide +kernel
theorem dX9_init_310 : decode cX9_init 310 = .ok (.iastore, 1) := by decide +kernel
theorem dX9_init_311 : decode cX9_init 311 = .ok (.dup, 1) := by decide +kernel
theorem dX9_init_312 : decode cX9_init 312 = .ok (.bipush 37, 2) := by decide +kernel
theorem dX9_init_314 : decode cX9_init 314 = .ok (.bipush 105, 2) := by decide +kernel
theorem dX9_init_316 : decode cX9_init 316 = .ok (.iastore, 1) := by decide +kernel
theorem dX9_init_317 : decode cX9_init 317 = .ok (.dup, 1) := by decide +kernel
theorem dX9_init_318 : decode cX9_init 318 = .ok (.bipush 38, 2) := by decide +kernel
theorem dX9_init_320 : decode cX9_init 320 = .ok (.bipush 99, 2) := by decide +kernel
theorem dX9_init_322 : decode cX9_init 322 = .ok (.iastore, 1) := by decide +kernel
theorem dX9_init_323 : decode cX9_init 323 = .ok (.dup, 1) := by decide +kernel
theorem dX9_init_324 : decode cX9_init 324 = .ok (.bipush 39, 2) := by decide +kernel
theorem dX9_init_326 : decode cX9_init 326 = .ok (.bipush 101, 2) := by decide +kernel
theorem dX9_init_328 : decode cX9_init 328 = .ok (.iastore, 1) := by decide +kernel
theorem dX9_init_329 : decode cX9_init 329 = .ok (.dup, 1) := by decide +kernel
theorem dX9_init_330 : decode cX9_init 330 = .ok (.bipush 40, 2) := by decide +kernel
theorem dX9_init_332 : decode cX9_init 332 = .ok (.bipush 32, 2) := by decide +kernel
theorem dX9_init_334 : decode cX9_init 334 = .ok (.iastore, 1) := by decide +kernel
theorem dX9_init_335 : decode cX9_init 335 = .ok (.dup, 1) := by decide +kernel
theorem dX9_init_336 : decode cX9_init 336 = .ok (.bipush 41, 2) := by decide +kernel
theorem dX9_init_338 : decode cX9_init 338 = .ok (.bipush 103, 2) := by decide +kernel
theorem dX9_init_340 : decode cX9_init 340 = .ok (.iastore, 1) := by decide +kernel
theorem dX9_init_341 : decode cX9_init 341 = .ok (.dup, 1) := by decide +kernel
theorem dX9_init_342 : decode cX9_init 342 = .ok (.bipush 42, 2) := by decide +kernel
theorem dX9_init_344 : decode cX9_init 344 = .ok (.bipush 105, 2) := by decide +kernel
theorem dX9_init_346 : decode cX9_init 346 = .ok (.iastore, 1) := by decide +kernel
theorem dX9_init_347 : decode cX9_init 347 = .ok (.dup, 1) := by decide +kernel
theorem dX9_init_348 : decode cX9_init 348 = .ok (.bipush 43, 2) := by decide +kernel
theorem dX9_init_350 : decode cX9_init 350 = .ok (.bipush 118, 2) := by decide +kernel
theorem dX9_init_352 : decode cX9_init 352 = .ok (.iastore, 1) := by decide +kernel
theorem dX9_init_353 : decode cX9_init 353 = .ok (.dup, 1) := by decide +kernel
theorem dX9_init_354 : decode cX9_init 354 = .ok (.bipush 44, 2) := by decide +kernel
theorem dX9_init_356 : decode cX9_init 356 = .ok (.bipush 101, 2) := by decide +kernel
theorem dX9_init_358 : decode cX9_init 358 = .ok (.iastore, 1) := by decide +kernel
theorem dX9_init_359 : decode cX9_init 359 = .ok (.dup, 1) := by decide +kernel
theorem dX9_init_360 : decode cX9_init 360 = .ok (.bipush 45, 2) := by decide +kernel
theorem dX9_init_362 : decode cX9_init 362 = .ok (.bipush 32, 2) := by decide +kernel
theorem dX9_init_364 : decode cX9_init 364 = .ok (.iastore, 1) := by decide +kernel
theorem dX9_init_365 : decode cX9_init 365 = .ok (.dup, 1) := by decide +kernel
theorem dX9_init_366 : decode cX9_init 366 = .ok (.bipush 46, 2) := by decide +kernel
theorem dX9_init_368 : decode cX9_init 368 = .ok (.bipush 99, 2) := by decide +kernel
theorem dX9_init_370 : decode cX9_init 370 = .ok (.iastore, 1) := by decide +kernel
theorem dX9_init_371 : decode cX9_init 371 = .ok (.dup, 1) := by decide +kernel
theorem dX9_init_372 : decode cX9_init 372 = .ok (.bipush 47, 2) := by decide +kernel
theorem dX9_init_374 : decode cX9_init 374 = .ok (.bipush 97, 2) := by decide +kernel
theorem dX9_init_376 : decode cX9_init 376 = .ok (.iastore, 1) := by decide +kernel
theorem dX9_init_377 : decode cX9_init 377 = .ok (.dup, 1) := by decide +kernel
theorem dX9_init_378 : decode cX9_init 378 = .ok (.bipush 48, 2) := by decide +kernel
theorem dX9_init_380 : decode cX9_init 380 = .ok (.bipush 108, 2) := by decide +kernel
theorem dX9_init_382 : decode cX9_init 382 = .ok (.iastore, 1) := by decide +kernel
theorem dX9_init_383 : decode cX9_init 383 = .ok (.dup, 1) := by decide +kernel
theorem dX9_init_384 : decode cX9_init 384 = .ok (.bipush 49, 2) := by decide +kernel
theorem dX9_init_386 : decode cX9_init 386 = .ok (.bipush 108, 2) := by decide +kernel
theorem dX9_init_388 : decode cX9_init 388 = .ok (.iastore, 1) := by decide +kernel
theorem dX9_init_389 : decode cX9_init 389 = .ok (.dup, 1) := by decide +kernel
theorem dX9_init_390 : decode cX9_init 390 = .ok (.bipush 50, 2) := by decide +kernel
theorem dX9_init_392 : decode cX9_init 392 = .ok (.bipush 32, 2) := by decide +kernel
theorem dX9_init_394 : decode cX9_init 394 = .ok (.iastore, 1) := by decide +kernel
theorem dX9_init_395 : decode cX9_init 395 = .ok (.dup, 1) := by decide +kernel
theorem dX9_init_396 : decode cX9_init 396 = .ok (.bipush 51, 2) := by decide +kernel
theorem dX9_init_398 : decode cX9_init 398 = .ok (.bipush 110, 2) := by decide +kernel
theorem dX9_init_400 : decode cX9_init 400 = .ok (.iastore, 1) := by decide +kernel
theorem dX9_init_401 : decode cX9_init 401 = .ok (.dup, 1) := by decide +kernel
theorem dX9_init_402 : decode cX9_init 402 = .ok (.bipush 52, 2) := by decide +kernel
theorem dX9_init_404 : decode cX9_init 404 = .ok (.bipush 105, 2) := by decide +kernel
theorem dX9_init_406 : decode cX9_init 406 = .ok (.iastore, 1) := by decide +kernel
theorem dX9_init_407 : decode cX9_init 407 = .ok (.dup, 1) := by decide +kernel
theorem dX9_init_408 : decode cX9_init 408 = .ok (.bipush 53, 2) := by decide +kernel
theorem dX9_init_410 : decode cX9_init 410 = .ok (.bipush 103, 2) := by decide +kernel
theorem dX9_init_412 : decode cX9_init 412 = .ok (.iastore, 1) := by decide +kernel
theorem dX9_init_413 : decode cX9_init 413 = .ok (.dup, 1) := by decide +kernel
theorem dX9_init_414 : decode cX9_init 414 = .ok (.bipush 54, 2) := by decide +kernel
theorem dX9_init_416 : decode cX9_init 416 = .ok (.bipush 104, 2) := by decide +kernel
theorem dX9_init_418 : decode cX9_init 418 = .ok (.iastore, 1) := by decide +kernel
theorem dX9_init_419 : decode cX9_init 419 = .ok (.dup, 1) := by decide +kernel
theorem dX9_init_420 : decode cX9_init 420 = .ok (.bipush 55, 2) := by decide +kernel
theorem dX9_init_422 : decode cX9_init 422 = .ok (.bipush 116, 2) := by decide +kernel
theorem dX9_init_424 : decode cX9_init 424 = .ok (.iastore, 1) := by decide +kernel
theorem dX9_init_425 : decode cX9_init 425 = .ok (.dup, 1) := by decide +kernel
theorem dX9_init_426 : decode cX9_init 426 = .ok (.bipush 56, 2) := by decide +kernel
theorem dX9_init_428 : decode cX9_init 428 = .ok (.bipush 32, 2) := by decide +kernel
theorem dX9_init_430 : decode cX9_init 430 = .ok (.iastore, 1) := by decide +kernel
theorem dX9_init_431 : decode cX9_init 431 = .ok (.putfield 42, 3) := by decide +kernel
theorem dX9_init_434 : decode cX9_init 434 = .ok (.aload_n 0, 1) := by decide +kernel
theorem dX9_init_435 : decode cX9_init 435 = .ok (.iconst (-1), 1) := by decide +kernel
theorem dX9_init_436 : decode cX9_init 436 = .ok (.putfield 45, 3) := by decide +kernel
theorem dX9_init_439 : decode cX9_init 439 = .ok (.aload_n 0, 1) := by decide +kernel
theorem dX9_init_440 : decode cX9_init 440 = .ok (.sipush 288, 3) := by decide +kernel
theorem dX9_init_443 : decode cX9_init 443 = .ok (.newarray .int, 2) := by decide +kernel
theorem dX9_init_445 : decode cX9_init 445 = .ok (.putfield 49, 3) := by decide +kernel
theorem dX9_init_448 : decode cX9_init 448 = .ok (.aload_n 0, 1) := by decide +kernel
theorem dX9_init_449 : decode cX9_init 449 = .ok (.sipush 19927, 3) := by decide +kernel
theorem dX9_init_452 : decode cX9_init 452 = .ok (.newarray .int, 2) := by decide +kernel
theorem dX9_init_454 : decode cX9_init 454 = .ok (.putfield 52, 3) := by decide +kernel
theorem dX9_init_457 : decode cX9_init 457 = .ok (.aload_n 0, 1) := by decide +kernel
theorem dX9_init_458 : decode cX9_init 458 = .ok (.bipush 13, 2) := by decide +kernel
theorem dX9_init_460 : decode cX9_init 460 = .ok (.newarray .long, 2) := by decide +kernel
theorem dX9_init_462 : decode cX9_init 462 = .ok (.putfield 55, 3) := by decide +kernel
theorem dX9_init_465 : decode cX9_init 465 = .ok (.return_, 1) := by decide +kernel
theorem dX9_isDigit_0 : decode cX9_isDigit 0 = .ok (.aload_n 0, 1) := by decide +kernel
theorem dX9_isDigit_1 : decode cX9_isDigit 1 = .ok (.iload_n 1, 1) := by decide +kernel
theorem dX9_isDigit_2 : decode cX9_isDigit 2 = .ok (.bipush 48, 2) := by decide +kernel
theorem dX9_isDigit_4 : decode cX9_isDigit 4 = .ok (.bipush 57, 2) := by decide +kernel
theorem dX9_isDigit_6 : decode cX9_isDigit 6 = .ok (.invokevirtual 79, 3) := by decide +kernel
theorem dX9_isDigit_9 : decode cX9_isDigit 9 = .ok (.ireturn, 1) := by decide +kernel
theorem dX9_isFinished_0 : decode cX9_isFinished 0 = .ok (.iconst 0, 1) := by decide +kernel
theorem dX9_isFinished_1 : decode cX9_isFinished 1 = .ok (.istore_n 2, 1) := by decide +kernel
theorem dX9_isFinished_2 : decode cX9_isFinished 2 = .ok (.iload_n 2, 1) := by decide +kernel
theorem dX9_isFinished_3 : decode cX9_isFinished 3 = .ok (.aload_n 0, 1) := by decide +kernel
theorem dX9_isFinished_4 : decode cX9_isFinished 4 = .ok (.getfield 7, 3) := by decide +kernel
theorem dX9_isFinished_7 : decode cX9_isFinished 7 = .ok (.bipush 7, 2) := by decide +kernel
theorem dX9_isFinished_9 : decode cX9_isFinished 9 = .ok (.iaload, 1) := by decide +kernel
theorem dX9_isFinished_10 : decode cX9_isFinished 10 = .ok (.if_icmp .ge 31, 3) := by decide +kernel
theorem dX9_isFinished_13 : decode cX9_isFinished 13 = .ok (.aload_n 0, 1) := by decide +kernel
theorem dX9_isFinished_14 : decode cX9_isFinished 14 = .ok (.iload_n 2, 1) := by decide +kernel
theorem dX9_isFinished_15 : decode cX9_isFinished 15 = .ok (.iconst 2, 1) := by decide +kernel
theorem dX9_isFinished_16 : decode cX9_isFinished 16 = .ok (.invokevirtual 151, 3) := by decide +kernel
theorem dX9_isFinished_19 : decode cX9_isFinished 19 = .ok (.iload_n 1, 1) := by decide +kernel
theorem dX9_isFinished_20 : decode cX9_isFinished 20 = .ok (.if_icmp .ne 15, 3) := by decide +kernel
theorem dX9_isFinished_23 : decode cX9_isFinished 23 = .ok (.aload_n 0, 1) := by decide +kernel
theorem dX9_isFinished_24 : decode cX9_isFinished 24 = .ok (.iload_n 2, 1) := by decide +kernel
theorem dX9_isFinished_25 : decode cX9_isFinished 25 = .ok (.bipush 7, 2) := by decide +kernel
theorem dX9_isFinished_27 : decode cX9_isFinished 27 = .ok (.invokevirtual 151, 3) := by decide +kernel
theorem dX9_isFinished_30 : decode cX9_isFinished 30 = .ok (.ifCond .le 5, 3) := by decide +kernel
theorem dX9_isFinished_33 : decode cX9_isFinished 33 = .ok (.iconst 0, 1) := by decide +kernel
theorem dX9_isFinished_34 : decode cX9_isFinished 34 = .ok (.ireturn, 1) := by decide +kernel
theorem dX9_isFinished_35 : decode cX9_isFinished 35 = .ok (.iinc 2 1, 3) := by decide +kernel
theorem dX9_isFinished_38 : decode cX9_isFinished 38 = .ok (.goto (-36), 3) := by decide +kernel
theorem dX9_isFinished_41 : decode cX9_isFinished 41 = .ok (.iconst 0, 1) := by decide +kernel
theorem dX9_isFinished_42 : decode cX9_isFinished 42 = .ok (.istore_n 2, 1) := by decide +kernel
theorem dX9_isFinished_43 : decode cX9_isFinished 43 = .ok (.iload_n 2, 1) := by decide +kernel
theorem dX9_isFinished_44 : decode cX9_isFinished 44 = .ok (.aload_n 0, 1) := by decide +kernel
theorem dX9_isFinished_45 : decode cX9_isFinished 45 = .ok (.getfield 7, 3) := by decide +kernel
theorem dX9_isFinished_48 : decode cX9_isFinished 48 = .ok (.bipush 8, 2) := by decide +kernel
theorem dX9_isFinished_50 : decode cX9_isFinished 50 = .ok (.iaload, 1) := by decide +kernel
theorem dX9_isFinished_51 : decode cX9_isFinished 51 = .ok (.if_icmp .ge 31, 3) := by decide +kernel
theorem dX9_isFinished_54 : decode cX9_isFinished 54 = .ok (.aload_n 0, 1) := by decide +kernel
theorem dX9_isFinished_55 : decode cX9_isFinished 55 = .ok (.iload_n 2, 1) := by decide +kernel
theorem dX9_isFinished_56 : decode cX9_isFinished 56 = .ok (.iconst 4, 1) := by decide +kernel
theorem dX9_isFinished_57 : decode cX9_isFinished 57 = .ok (.invokevirtual 157, 3) := by decide +kernel
theorem dX9_isFinished_60 : decode cX9_isFinished 60 = .ok (.iconst 1, 1) := by decide +kernel
theorem dX9_isFinished_61 : decode cX9_isFinished 61 = .ok (.if_icmp .ne 15, 3) := by decide +kernel
theorem dX9_isFinished_64 : decode cX9_isFinished 64 = .ok (.aload_n 0, 1) := by decide +kernel
theorem dX9_isFinished_65 : decode cX9_isFinished 65 = .ok (.iload_n 2, 1) := by decide +kernel
theorem dX9_isFinished_66 : decode cX9_isFinished 66 = .ok (.iconst 1, 1) := by decide +kernel
theorem dX9_isFinished_67 : decode cX9_isFinished 67 = .ok (.invokevirtual 157, 3) := by decide +kernel
theorem dX9_isFinished_70 : decode cX9_isFinished 70 = .ok (.iload_n 1, 1) := by decide +kernel
theorem dX9_isFinished_71 : decode cX9_isFinished 71 = .ok (.if_icmp .ne 5, 3) := by decide +kernel
theorem dX9_isFinished_74 : decode cX9_isFinished 74 = .ok (.iconst 0, 1) := by decide +kernel
theorem dX9_isFinished_75 : decode cX9_isFinished 75 = .ok (.ireturn, 1) := by decide +kernel
theorem dX9_isFinished_76 : decode cX9_isFinished 76 = .ok (.iinc 2 1, 3) := by decide +kernel
theorem dX9_isFinished_79 : decode cX9_isFinished 79 = .ok (.goto (-36), 3) := by decide +kernel
theorem dX9_isFinished_82 : decode cX9_isFinished 82 = .ok (.iconst 1, 1) := by decide +kernel
theorem dX9_isFinished_83 : decode cX9_isFinished 83 = .ok (.ireturn, 1) := by decide +kernel
theorem dX9_isIn_0 : decode cX9_isIn 0 = .ok (.iload_n 1, 1) := by decide +kernel
theorem dX9_isIn_1 : decode cX9_isIn 1 = .ok (.iload_n 2, 1) := by decide +kernel
theorem dX9_isIn_2 : decode cX9_isIn 2 = .ok (.if_icmp .lt 12, 3) := by decide +kernel
theorem dX9_isIn_5 : decode cX9_isIn 5 = .ok (.iload_n 1, 1) := by decide +kernel
theorem dX9_isIn_6 : decode cX9_isIn 6 = .ok (.iload_n 3, 1) := by decide +kernel
theorem dX9_isIn_7 : decode cX9_isIn 7 = .ok (.if_icmp .gt 7, 3) := by decide +kernel
theorem dX9_isIn_10 : decode cX9_isIn 10 = .ok (.iconst 1, 1) := by decide +kernel
theorem dX9_isIn_11 : decode cX9_isIn 11 = .ok (.goto 4, 3) := by decide +kernel
theorem dX9_isIn_14 : decode cX9_isIn 14 = .ok (.iconst 0, 1) := by decide +kernel
theorem dX9_isIn_15 : decode cX9_isIn 15 = .ok (.ireturn, 1) := by decide +kernel
theorem dX9_isIssue_0 : decode cX9_isIssue 0 = .ok (.iload_n 1, 1) := by decide +kernel
theorem dX9_isIssue_1 : decode cX9_isIssue 1 = .ok (.ifCond .lt 13, 3) := by decide +kernel
theorem dX9_isIssue_4 : decode cX9_isIssue 4 = .ok (.iload_n 1, 1) := by decide +kernel
theorem dX9_isIssue_5 : decode cX9_isIssue 5 = .ok (.bipush 6, 2) := by decide +kernel
theorem dX9_isIssue_7 : decode cX9_isIssue 7 = .ok (.if_icmp .ge 7, 3) := by decide +kernel
theorem dX9_isIssue_10 : decode cX9_isIssue 10 = .ok (.iconst 1, 1) := by decide +kernel
theorem dX9_isIssue_11 : decode cX9_isIssue 11 = .ok (.goto 4, 3) := by decide +kernel
theorem dX9_isIssue_14 : decode cX9_isIssue 14 = .ok (.iconst 0, 1) := by decide +kernel
theorem dX9_isIssue_15 : decode cX9_isIssue 15 = .ok (.ireturn, 1) := by decide +kernel
theorem dX9_isLetter_0 : decode cX9_isLetter 0 = .ok (.aload_n 0, 1) := by decide +kernel
theorem dX9_isLetter_1 : decode cX9_isLetter 1 = .ok (.iload_n 1, 1) := by decide +kernel
theorem dX9_isLetter_2 : decode cX9_isLetter 2 = .ok (.bipush 97, 2) := by decide +kernel
theorem dX9_isLetter_4 : decode cX9_isLetter 4 = .ok (.bipush 122, 2) := by decide +kernel
theorem dX9_isLetter_6 : decode cX9_isLetter 6 = .ok (.invokevirtual 79, 3) := by decide +kernel
theorem dX9_isLetter_9 : decode cX9_isLetter 9 = .ok (.ifCond .ne 15, 3) := by decide +kernel
theorem dX9_isLetter_12 : decode cX9_isLetter 12 = .ok (.aload_n 0, 1) := by decide +kernel
theorem dX9_isLetter_13 : decode cX9_isLetter 13 = .ok (.iload_n 1, 1) := by decide +kernel
theorem dX9_isLetter_14 : decode cX9_isLetter 14 = .ok (.bipush 65, 2) := by decide +kernel
theorem dX9_isLetter_16 : decode cX9_isLetter 16 = .ok (.bipush 90, 2) := by decide +kernel
theorem dX9_isLetter_18 : decode cX9_isLetter 18 = .ok (.invokevirtual 79, 3) := by decide +kernel
theorem dX9_isLetter_21 : decode cX9_isLetter 21 = .ok (.ifCond .eq 7, 3) := by decide +kernel
theorem dX9_isLetter_24 : decode cX9_isLetter 24 = .ok (.iconst 1, 1) := by decide +kernel
theorem dX9_isLetter_25 : decode cX9_isLetter 25 = .ok (.goto 4, 3) := by decide +kernel
theorem dX9_isLetter_28 : decode cX9_isLetter 28 = .ok (.iconst 0, 1) := by decide +kernel
theorem dX9_isLetter_29 : decode cX9_isLetter 29 = .ok (.ireturn, 1) := by decide +kernel
theorem dX9_isLong_0 : decode cX9_isLong 0 = .ok (.aload_n 0, 1) := by decide +kernel
theorem dX9_isLong_1 : decode cX9_isLong 1 = .ok (.iload_n 1, 1) := by decide +kernel
theorem dX9_isLong_2 : decode cX9_isLong 2 = .ok (.iload_n 2, 1) := by decide +kernel
theorem dX9_isLong_3 : decode cX9_isLong 3 = .ok (.invokevirtual 110, 3) := by decide +kernel
theorem dX9_isLong_6 : decode cX9_isLong 6 = .ok (.ifCond .le 17, 3) := by decide +kernel
theorem dX9_isLong_9 : decode cX9_isLong 9 = .ok (.aload_n 0, 1) := by decide +kernel
theorem dX9_isLong_10 : decode cX9_isLong 10 = .ok (.iload_n 1, 1) := by decide +kernel
theorem dX9_isLong_11 : decode cX9_isLong 11 = .ok (.iload_n 2, 1) := by decide +kernel
theorem dX9_isLong_12 : decode cX9_isLong 12 = .ok (.iconst 0, 1) := by decide +kernel
theorem dX9_isLong_13 : decode cX9_isLong 13 = .ok (.invokevirtual 113, 3) := by decide +kernel
theorem dX9_isLong_16 : decode cX9_isLong 16 = .ok (.ifCond .le 7, 3) := by decide +kernel
theorem dX9_isLong_19 : decode cX9_isLong 19 = .ok (.iconst 1, 1) := by decide +kernel
theorem dX9_isLong_20 : decode cX9_isLong 20 = .ok (.goto 4, 3) := by decide +kernel
theorem dX9_isLong_23 : decode cX9_isLong 23 = .ok (.iconst 0, 1) := by decide +kernel
theorem dX9_isLong_24 : decode cX9_isLong 24 = .ok (.ireturn, 1) := by decide +kernel
theorem dX9_isMember_0 : decode cX9_isMember 0 = .ok (.iload_n 1, 1) := by decide +kernel
theorem dX9_isMember_1 : decode cX9_isMember 1 = .ok (.ifCond .lt 15, 3) := by decide +kernel
theorem dX9_isMember_4 : decode cX9_isMember 4 = .ok (.iload_n 1, 1) := by decide +kernel
theorem dX9_isMember_5 : decode cX9_isMember 5 = .ok (.aload_n 0, 1) := by decide +kernel
theorem dX9_isMember_6 : decode cX9_isMember 6 = .ok (.invokevirtual 61, 3) := by decide +kernel
theorem dX9_isMember_9 : decode cX9_isMember 9 = .ok (.if_icmp .ge 7, 3) := by decide +kernel
theorem dX9_isMember_12 : decode cX9_isMember 12 = .ok (.iconst 1, 1) := by decide +kernel
theorem dX9_isMember_13 : decode cX9_isMember 13 = .ok (.goto 4, 3) := by decide +kernel
theorem dX9_isMember_16 : decode cX9_isMember 16 = .ok (.iconst 0, 1) := by decide +kernel
theorem dX9_isMember_17 : decode cX9_isMember 17 = .ok (.ireturn, 1) := by decide +kernel
theorem dX9_isNoticed_0 : decode cX9_isNoticed 0 = .ok (.iconst 0, 1) := by decide +kernel
theorem dX9_isNoticed_1 : decode cX9_isNoticed 1 = .ok (.istore_n 3, 1) := by decide +kernel
theorem dX9_isNoticed_2 : decode cX9_isNoticed 2 = .ok (.iload_n 3, 1) := by decide +kernel
theorem dX9_isNoticed_3 : decode cX9_isNoticed 3 = .ok (.aload_n 0, 1) := by decide +kernel
theorem dX9_isNoticed_4 : decode cX9_isNoticed 4 = .ok (.getfield 7, 3) := by decide +kernel
theorem dX9_isNoticed_7 : decode cX9_isNoticed 7 = .ok (.bipush 8, 2) := by decide +kernel
theorem dX9_isNoticed_9 : decode cX9_isNoticed 9 = .ok (.iaload, 1) := by decide +kernel
theorem dX9_isNoticed_10 : decode cX9_isNoticed 10 = .ok (.if_icmp .ge 30, 3) := by decide +kernel
theorem dX9_isNoticed_13 : decode cX9_isNoticed 13 = .ok (.aload_n 0, 1) := by decide +kernel
theorem dX9_isNoticed_14 : decode cX9_isNoticed 14 = .ok (.iload_n 3, 1) := by decide +kernel
theorem dX9_isNoticed_15 : decode cX9_isNoticed 15 = .ok (.iload_n 2, 1) := by decide +kernel
theorem dX9_isNoticed_16 : decode cX9_isNoticed 16 = .ok (.invokevirtual 160, 3) := by decide +kernel
theorem dX9_isNoticed_19 : decode cX9_isNoticed 19 = .ok (.ifCond .eq 15, 3) := by decide +kernel
theorem dX9_isNoticed_22 : decode cX9_isNoticed 22 = .ok (.aload_n 0, 1) := by decide +kernel
theorem dX9_isNoticed_23 : decode cX9_isNoticed 23 = .ok (.iload_n 3, 1) := by decide +kernel
theorem dX9_isNoticed_24 : decode cX9_isNoticed 24 = .ok (.iconst 0, 1) := by decide +kernel
theorem dX9_isNoticed_25 : decode cX9_isNoticed 25 = .ok (.invokevirtual 157, 3) := by decide +kernel
theorem dX9_isNoticed_28 : decode cX9_isNoticed 28 = .ok (.iload_n 1, 1) := by decide +kernel
theorem dX9_isNoticed_29 : decode cX9_isNoticed 29 = .ok (.if_icmp .ne 5, 3) := by decide +kernel
theorem dX9_isNoticed_32 : decode cX9_isNoticed 32 = .ok (.iconst 1, 1) := by decide +kernel
theorem dX9_isNoticed_33 : decode cX9_isNoticed 33 = .ok (.ireturn, 1) := by decide +kernel
theorem dX9_isNoticed_34 : decode cX9_isNoticed 34 = .ok (.iinc 3 1, 3) := by decide +kernel
theorem dX9_isNoticed_37 : decode cX9_isNoticed 37 = .ok (.goto (-35), 3) := by decide +kernel
theorem dX9_isNoticed_40 : decode cX9_isNoticed 40 = .ok (.iconst 0, 1) := by decide +kernel
theorem dX9_isNoticed_41 : decode cX9_isNoticed 41 = .ok (.ireturn, 1) := by decide +kernel
theorem dX9_isOpenApart_0 : decode cX9_isOpenApart 0 = .ok (.aload_n 0, 1) := by decide +kernel
theorem dX9_isOpenApart_1 : decode cX9_isOpenApart 1 = .ok (.iload_n 1, 1) := by decide +kernel
theorem dX9_isOpenApart_2 : decode cX9_isOpenApart 2 = .ok (.invokevirtual 188, 3) := by decide +kernel
theorem dX9_isOpenApart_5 : decode cX9_isOpenApart 5 = .ok (.ifCond .eq 27, 3) := by decide +kernel
theorem dX9_isOpenApart_8 : decode cX9_isOpenApart 8 = .ok (.aload_n 0, 1) := by decide +kernel
theorem dX9_isOpenApart_9 : decode cX9_isOpenApart 9 = .ok (.iload_n 1, 1) := by decide +kernel
theorem dX9_isOpenApart_10 : decode cX9_isOpenApart 10 = .ok (.iconst 5, 1) := by decide +kernel
theorem dX9_isOpenApart_11 : decode cX9_isOpenApart 11 = .ok (.invokevirtual 151, 3) := by decide +kernel
theorem dX9_isOpenApart_14 : decode cX9_isOpenApart 14 = .ok (.iconst 1, 1) := by decide +kernel
theorem dX9_isOpenApart_15 : decode cX9_isOpenApart 15 = .ok (.if_icmp .ne 17, 3) := by decide +kernel
theorem dX9_isOpenApart_18 : decode cX9_isOpenApart 18 = .ok (.aload_n 0, 1) := by decide +kernel
theorem dX9_isOpenApart_19 : decode cX9_isOpenApart 19 = .ok (.iload_n 1, 1) := by decide +kernel
theorem dX9_isOpenApart_20 : decode cX9_isOpenApart 20 = .ok (.bipush 7, 2) := by decide +kernel
theorem dX9_isOpenApart_22 : decode cX9_isOpenApart 22 = .ok (.invokevirtual 151, 3) := by decide +kernel
theorem dX9_isOpenApart_25 : decode cX9_isOpenApart 25 = .ok (.ifCond .le 7, 3) := by decide +kernel
theorem dX9_isOpenApart_28 : decode cX9_isOpenApart 28 = .ok (.iconst 1, 1) := by decide +kernel
theorem dX9_isOpenApart_29 : decode cX9_isOpenApart 29 = .ok (.goto 4, 3) := by decide +kernel
theorem dX9_isOpenApart_32 : decode cX9_isOpenApart 32 = .ok (.iconst 0, 1) := by decide +kernel
theorem dX9_isOpenApart_33 : decode cX9_isOpenApart 33 = .ok (.ireturn, 1) := by decide +kernel
theorem dX9_isOpenNet_0 : decode cX9_isOpenNet 0 = .ok (.aload_n 0, 1) := by decide +kernel
theorem dX9_isOpenNet_1 : decode cX9_isOpenNet 1 = .ok (.iload_n 1, 1) := by decide +kernel
theorem dX9_isOpenNet_2 : decode cX9_isOpenNet 2 = .ok (.iconst 4, 1) := by decide +kernel
theorem dX9_isOpenNet_3 : decode cX9_isOpenNet 3 = .ok (.invokevirtual 157, 3) := by decide +kernel
theorem dX9_isOpenNet_6 : decode cX9_isOpenNet 6 = .ok (.iconst 1, 1) := by decide +kernel
theorem dX9_isOpenNet_7 : decode cX9_isOpenNet 7 = .ok (.if_icmp .ne 26, 3) := by decide +kernel
theorem dX9_isOpenNet_10 : decode cX9_isOpenNet 10 = .ok (.aload_n 0, 1) := by decide +kernel
theorem dX9_isOpenNet_11 : decode cX9_isOpenNet 11 = .ok (.iload_n 1, 1) := by decide +kernel
theorem dX9_isOpenNet_12 : decode cX9_isOpenNet 12 = .ok (.iconst 1, 1) := by decide +kernel
theorem dX9_isOpenNet_13 : decode cX9_isOpenNet 13 = .ok (.invokevirtual 157, 3) := by decide +kernel
theorem dX9_isOpenNet_16 : decode cX9_isOpenNet 16 = .ok (.iload_n 2, 1) := by decide +kernel
theorem dX9_isOpenNet_17 : decode cX9_isOpenNet 17 = .ok (.if_icmp .ne 16, 3) := by decide +kernel
theorem dX9_isOpenNet_20 : decode cX9_isOpenNet 20 = .ok (.aload_n 0, 1) := by decide +kernel
theorem dX9_isOpenNet_21 : decode cX9_isOpenNet 21 = .ok (.iload_n 1, 1) := by decide +kernel
theorem dX9_isOpenNet_22 : decode cX9_isOpenNet 22 = .ok (.iconst 5, 1) := by decide +kernel
theorem dX9_isOpenNet_23 : decode cX9_isOpenNet 23 = .ok (.invokevirtual 157, 3) := by decide +kernel
theorem dX9_isOpenNet_26 : decode cX9_isOpenNet 26 = .ok (.ifCond .ne 7, 3) := by decide +kernel
theorem dX9_isOpenNet_29 : decode cX9_isOpenNet 29 = .ok (.iconst 1, 1) := by decide +kernel
theorem dX9_isOpenNet_30 : decode cX9_isOpenNet 30 = .ok (.goto 4, 3) := by decide +kernel
theorem dX9_isOpenNet_33 : decode cX9_isOpenNet 33 = .ok (.iconst 0, 1) := by decide +kernel
theorem dX9_isOpenNet_34 : decode cX9_isOpenNet 34 = .ok (.ireturn, 1) := by decide +kernel
theorem dX9_isRipe_0 : decode cX9_isRipe 0 = .ok (.aload_n 0, 1) := by decide +kernel
theorem dX9_isRipe_1 : decode cX9_isRipe 1 = .ok (.iload_n 1, 1) := by decide +kernel
theorem dX9_isRipe_2 : decode cX9_isRipe 2 = .ok (.iconst 2, 1) := by decide +kernel
theorem dX9_isRipe_3 : decode cX9_isRipe 3 = .ok (.invokevirtual 151, 3) := by decide +kernel
theorem dX9_isRipe_6 : decode cX9_isRipe 6 = .ok (.iload_n 2, 1) := by decide +kernel
theorem dX9_isRipe_7 : decode cX9_isRipe 7 = .ok (.if_icmp .ne 44, 3) := by decide +kernel
theorem dX9_isRipe_10 : decode cX9_isRipe 10 = .ok (.aload_n 0, 1) := by decide +kernel
theorem dX9_isRipe_11 : decode cX9_isRipe 11 = .ok (.iload_n 1, 1) := by decide +kernel
theorem dX9_isRipe_12 : decode cX9_isRipe 12 = .ok (.iconst 5, 1) := by decide +kernel
theorem dX9_isRipe_13 : decode cX9_isRipe 13 = .ok (.invokevirtual 151, 3) := by decide +kernel
theorem dX9_isRipe_16 : decode cX9_isRipe 16 = .ok (.iload_n 3, 1) := by decide +kernel
theorem dX9_isRipe_17 : decode cX9_isRipe 17 = .ok (.if_icmp .ne 34, 3) := by decide +kernel
theorem dX9_isRipe_20 : decode cX9_isRipe 20 = .ok (.aload_n 0, 1) := by decide +kernel
theorem dX9_isRipe_21 : decode cX9_isRipe 21 = .ok (.iload_n 1, 1) := by decide +kernel
theorem dX9_isRipe_22 : decode cX9_isRipe 22 = .ok (.bipush 7, 2) := by decide +kernel
theorem dX9_isRipe_24 : decode cX9_isRipe 24 = .ok (.invokevirtual 151, 3) := by decide +kernel
theorem dX9_isRipe_27 : decode cX9_isRipe 27 = .ok (.ifCond .le 24, 3) := by decide +kernel
theorem dX9_isRipe_30 : decode cX9_isRipe 30 = .ok (.aload_n 0, 1) := by decide +kernel
theorem dX9_isRipe_31 : decode cX9_isRipe 31 = .ok (.iload_n 1, 1) := by decide +kernel
theorem dX9_isRipe_32 : decode cX9_isRipe 32 = .ok (.bipush 6, 2) := by decide +kernel
theorem dX9_isRipe_34 : decode cX9_isRipe 34 = .ok (.invokevirtual 151, 3) := by decide +kernel
theorem dX9_isRipe_37 : decode cX9_isRipe 37 = .ok (.aload_n 0, 1) := by decide +kernel
theorem dX9_isRipe_38 : decode cX9_isRipe 38 = .ok (.getfield 7, 3) := by decide +kernel
theorem dX9_isRipe_41 : decode cX9_isRipe 41 = .ok (.bipush 6, 2) := by decide +kernel
theorem dX9_isRipe_43 : decode cX9_isRipe 43 = .ok (.iaload, 1) := by decide +kernel
theorem dX9_isRipe_44 : decode cX9_isRipe 44 = .ok (.if_icmp .gt 7, 3) := by decide +kernel
theorem dX9_isRipe_47 : decode cX9_isRipe 47 = .ok (.iconst 1, 1) := by decide +kernel
theorem dX9_isRipe_48 : decode cX9_isRipe 48 = .ok (.goto 4, 3) := by decide +kernel
theorem dX9_isRipe_51 : decode cX9_isRipe 51 = .ok (.iconst 0, 1) := by decide +kernel
theorem dX9_isRipe_52 : decode cX9_isRipe 52 = .ok (.ireturn, 1) := by decide +kernel
theorem dX9_isShort_0 : decode cX9_isShort 0 = .ok (.aload_n 0, 1) := by decide +kernel
theorem dX9_isShort_1 : decode cX9_isShort 1 = .ok (.iload_n 1, 1) := by decide +kernel
theorem dX9_isShort_2 : decode cX9_isShort 2 = .ok (.iload_n 2, 1) := by decide +kernel
theorem dX9_isShort_3 : decode cX9_isShort 3 = .ok (.invokevirtual 110, 3) := by decide +kernel
theorem dX9_isShort_6 : decode cX9_isShort 6 = .ok (.ifCond .le 17, 3) := by decide +kernel
theorem dX9_isShort_9 : decode cX9_isShort 9 = .ok (.aload_n 0, 1) := by decide +kernel
theorem dX9_isShort_10 : decode cX9_isShort 10 = .ok (.iload_n 1, 1) := by decide +kernel
theorem dX9_isShort_11 : decode cX9_isShort 11 = .ok (.iload_n 2, 1) := by decide +kernel
theorem dX9_isShort_12 : decode cX9_isShort 12 = .ok (.iconst 0, 1) := by decide +kernel
theorem dX9_isShort_13 : decode cX9_isShort 13 = .ok (.invokevirtual 113, 3) := by decide +kernel
theorem dX9_isShort_16 : decode cX9_isShort 16 = .ok (.ifCond .ge 7, 3) := by decide +kernel
theorem dX9_isShort_19 : decode cX9_isShort 19 = .ok (.iconst 1, 1) := by decide +kernel
theorem dX9_isShort_20 : decode cX9_isShort 20 = .ok (.goto 4, 3) := by decide +kernel
theorem dX9_isShort_23 : decode cX9_isShort 23 = .ok (.iconst 0, 1) := by decide +kernel
theorem dX9_isShort_24 : decode cX9_isShort 24 = .ok (.ireturn, 1) := by decide +kernel
theorem dX9_isTrade_0 : decode cX9_isTrade 0 = .ok (.iload_n 1, 1) := by decide +kernel
theorem dX9_isTrade_1 : decode cX9_isTrade 1 = .ok (.ifCond .lt 18, 3) := by decide +kernel
theorem dX9_isTrade_4 : decode cX9_isTrade 4 = .ok (.iload_n 1, 1) := by decide +kernel
theorem dX9_isTrade_5 : decode cX9_isTrade 5 = .ok (.aload_n 0, 1) := by decide +kernel
theorem dX9_isTrade_6 : decode cX9_isTrade 6 = .ok (.getfield 7, 3) := by decide +kernel
theorem dX9_isTrade_9 : decode cX9_isTrade 9 = .ok (.bipush 7, 2) := by decide +kernel
theorem dX9_isTrade_11 : decode cX9_isTrade 11 = .ok (.iaload, 1) := by decide +kernel
theorem dX9_isTrade_12 : decode cX9_isTrade 12 = .ok (.if_icmp .ge 7, 3) := by decide +kernel
theorem dX9_isTrade_15 : decode cX9_isTrade 15 = .ok (.iconst 1, 1) := by decide +kernel
theorem dX9_isTrade_16 : decode cX9_isTrade 16 = .ok (.goto 4, 3) := by decide +kernel
theorem dX9_isTrade_19 : decode cX9_isTrade 19 = .ok (.iconst 0, 1) := by decide +kernel
theorem dX9_isTrade_20 : decode cX9_isTrade 20 = .ok (.ireturn, 1) := by decide +kernel
theorem dX9_issue_0 : decode cX9_issue 0 = .ok (.aload_n 0, 1) := by decide +kernel
theorem dX9_issue_1 : decode cX9_issue 1 = .ok (.iconst 0, 1) := by decide +kernel
theorem dX9_issue_2 : decode cX9_issue 2 = .ok (.putfield 58, 3) := by decide +kernel
theorem dX9_issue_5 : decode cX9_issue 5 = .ok (.aload_n 0, 1) := by decide +kernel
theorem dX9_issue_6 : decode cX9_issue 6 = .ok (.iload_n 1, 1) := by decide +kernel
theorem dX9_issue_7 : decode cX9_issue 7 = .ok (.invokevirtual 94, 3) := by decide +kernel
theorem dX9_issue_10 : decode cX9_issue 10 = .ok (.ifCond .eq 14, 3) := by decide +kernel
theorem dX9_issue_13 : decode cX9_issue 13 = .ok (.aload_n 0, 1) := by decide +kernel
theorem dX9_issue_14 : decode cX9_issue 14 = .ok (.iload_n 2, 1) := by decide +kernel
theorem dX9_issue_15 : decode cX9_issue 15 = .ok (.iconst 0, 1) := by decide +kernel
theorem dX9_issue_16 : decode cX9_issue 16 = .ok (.bipush 8, 2) := by decide +kernel
theorem dX9_issue_18 : decode cX9_issue 18 = .ok (.invokevirtual 79, 3) := by decide +kernel
theorem dX9_issue_21 : decode cX9_issue 21 = .ok (.ifCond .ne 5, 3) := by decide +kernel
theorem dX9_issue_24 : decode cX9_issue 24 = .ok (.iconst (-1), 1) := by decide +kernel
theorem dX9_issue_25 : decode cX9_issue 25 = .ok (.ireturn, 1) := by decide +kernel
theorem dX9_issue_26 : decode cX9_issue 26 = .ok (.iload_n 2, 1) := by decide +kernel
theorem dX9_issue_27 : decode cX9_issue 27 = .ok (.bipush 6, 2) := by decide +kernel
theorem dX9_issue_29 : decode cX9_issue 29 = .ok (.if_icmp .le 20, 3) := by decide +kernel
theorem dX9_issue_32 : decode cX9_issue 32 = .ok (.aload_n 0, 1) := by decide +kernel
theorem dX9_issue_33 : decode cX9_issue 33 = .ok (.iload_n 1, 1) := by decide +kernel
theorem dX9_issue_34 : decode cX9_issue 34 = .ok (.iload_n 2, 1) := by decide +kernel
theorem dX9_issue_35 : decode cX9_issue 35 = .ok (.bipush 8, 2) := by decide +kernel
theorem dX9_issue_37 : decode cX9_issue 37 = .ok (.if_icmp .ne 7, 3) := by decide +kernel
theorem dX9_issue_40 : decode cX9_issue 40 = .ok (.iconst 1, 1) := by decide +kernel
theorem dX9_issue_41 : decode cX9_issue 41 = .ok (.goto 4, 3) := by decide +kernel
theorem dX9_issue_44 : decode cX9_issue 44 = .ok (.iconst 0, 1) := by decide +kernel
theorem dX9_issue_45 : decode cX9_issue 45 = .ok (.invokevirtual 331, 3) := by decide +kernel
theorem dX9_issue_48 : decode cX9_issue 48 = .ok (.ireturn, 1) := by decide +kernel
theorem dX9_issue_49 : decode cX9_issue 49 = .ok (.iload_n 2, 1) := by decide +kernel
theorem dX9_issue_50 : decode cX9_issue 50 = .ok (.ifCond .ne 9, 3) := by decide +kernel
theorem dX9_issue_53 : decode cX9_issue 53 = .ok (.aload_n 0, 1) := by decide +kernel
theorem dX9_issue_54 : decode cX9_issue 54 = .ok (.iload_n 1, 1) := by decide +kernel
theorem dX9_issue_55 : decode cX9_issue 55 = .ok (.invokevirtual 197, 3) := by decide +kernel
theorem dX9_issue_58 : decode cX9_issue 58 = .ok (.ireturn, 1) := by decide +kernel
theorem dX9_issue_59 : decode cX9_issue 59 = .ok (.iload_n 2, 1) := by decide +kernel
theorem dX9_issue_60 : decode cX9_issue 60 = .ok (.iconst 1, 1) := by decide +kernel
theorem dX9_issue_61 : decode cX9_issue 61 = .ok (.if_icmp .ne 9, 3) := by decide +kernel
theorem dX9_issue_64 : decode cX9_issue 64 = .ok (.aload_n 0, 1) := by decide +kernel
theorem dX9_issue_65 : decode cX9_issue 65 = .ok (.iload_n 1, 1) := by decide +kernel
theorem dX9_issue_66 : decode cX9_issue 66 = .ok (.invokevirtual 203, 3) := by decide +kernel
theorem dX9_issue_69 : decode cX9_issue 69 = .ok (.ireturn, 1) := by decide +kernel
theorem dX9_issue_70 : decode cX9_issue 70 = .ok (.iload_n 2, 1) := by decide +kernel
theorem dX9_issue_71 : decode cX9_issue 71 = .ok (.iconst 5, 1) := by decide +kernel
theorem dX9_issue_72 : decode cX9_issue 72 = .ok (.if_icmp .ge 10, 3) := by decide +kernel
theorem dX9_issue_75 : decode cX9_issue 75 = .ok (.aload_n 0, 1) := by decide +kernel
theorem dX9_issue_76 : decode cX9_issue 76 = .ok (.iload_n 1, 1) := by decide +kernel
theorem dX9_issue_77 : decode cX9_issue 77 = .ok (.iload_n 2, 1) := by decide +kernel
theorem dX9_issue_78 : decode cX9_issue 78 = .ok (.invokevirtual 335, 3) := by decide +kernel
theorem dX9_issue_81 : decode cX9_issue 81 = .ok (.ireturn, 1) := by decide +kernel
theorem dX9_issue_82 : decode cX9_issue 82 = .ok (.iload_n 2, 1) := by decide +kernel
theorem dX9_issue_83 : decode cX9_issue 83 = .ok (.iconst 5, 1) := by decide +kernel
theorem dX9_issue_84 : decode cX9_issue 84 = .ok (.if_icmp .ne 11, 3) := by decide +kernel
theorem dX9_issue_87 : decode cX9_issue 87 = .ok (.aload_n 0, 1) := by decide +kernel
theorem dX9_issue_88 : decode cX9_issue 88 = .ok (.iload_n 1, 1) := by decide +kernel
theorem dX9_issue_89 : decode cX9_issue 89 = .ok (.invokevirtual 338, 3) := by decide +kernel
theorem dX9_issue_92 : decode cX9_issue 92 = .ok (.goto 9, 3) := by decide +kernel
theorem dX9_issue_95 : decode cX9_issue 95 = .ok (.aload_n 0, 1) := by decide +kernel
theorem dX9_issue_96 : decode cX9_issue 96 = .ok (.iload_n 1, 1) := by decide +kernel
theorem dX9_issue_97 : decode cX9_issue 97 = .ok (.iconst 1, 1) := by decide +kernel
theorem dX9_issue_98 : decode cX9_issue 98 = .ok (.invokevirtual 341, 3) := by decide +kernel
theorem dX9_issue_101 : decode cX9_issue 101 = .ok (.ireturn, 1) := by decide +kernel
theorem dX9_lackMany_0 : decode cX9_lackMany 0 = .ok (.iconst 0, 1) := by decide +kernel
theorem dX9_lackMany_1 : decode cX9_lackMany 1 = .ok (.istore_n 1, 1) := by decide +kernel
theorem dX9_lackMany_2 : decode cX9_lackMany 2 = .ok (.iconst 0, 1) := by decide +kernel
theorem dX9_lackMany_3 : decode cX9_lackMany 3 = .ok (.istore_n 2, 1) := by decide +kernel
theorem dX9_lackMany_4 : decode cX9_lackMany 4 = .ok (.iload_n 2, 1) := by decide +kernel
theorem dX9_lackMany_5 : decode cX9_lackMany 5 = .ok (.aload_n 0, 1) := by decide +kernel
theorem dX9_lackMany_6 : decode cX9_lackMany 6 = .ok (.invokevirtual 61, 3) := by decide +kernel
theorem dX9_lackMany_9 : decode cX9_lackMany 9 = .ok (.if_icmp .ge 23, 3) := by decide +kernel
theorem dX9_lackMany_12 : decode cX9_lackMany 12 = .ok (.aload_n 0, 1) := by decide +kernel
theorem dX9_lackMany_13 : decode cX9_lackMany 13 = .ok (.iload_n 2, 1) := by decide +kernel
theorem dX9_lackMany_14 : decode cX9_lackMany 14 = .ok (.invokevirtual 324, 3) := by decide +kernel
theorem dX9_lackMany_17 : decode cX9_lackMany 17 = .ok (.lconst 0, 1) := by decide +kernel
theorem dX9_lackMany_18 : decode cX9_lackMany 18 = .ok (.lcmp, 1) := by decide +kernel
theorem dX9_lackMany_19 : decode cX9_lackMany 19 = .ok (.ifCond .le 7, 3) := by decide +kernel
theorem dX9_lackMany_22 : decode cX9_lackMany 22 = .ok (.iload_n 1, 1) := by decide +kernel
theorem dX9_lackMany_23 : decode cX9_lackMany 23 = .ok (.iconst 1, 1) := by decide +kernel
theorem dX9_lackMany_24 : decode cX9_lackMany 24 = .ok (.iadd, 1) := by decide +kernel
theorem dX9_lackMany_25 : decode cX9_lackMany 25 = .ok (.istore_n 1, 1) := by decide +kernel
theorem dX9_lackMany_26 : decode cX9_lackMany 26 = .ok (.iinc 2 1, 3) := by decide +kernel
theorem dX9_lackMany_29 : decode cX9_lackMany 29 = .ok (.goto (-25), 3) := by decide +kernel
theorem dX9_lackMany_32 : decode cX9_lackMany 32 = .ok (.iload_n 1, 1) := by decide +kernel
theorem dX9_lackMany_33 : decode cX9_lackMany 33 = .ok (.ireturn, 1) := by decide +kernel
theorem dX9_lacksOf_0 : decode cX9_lacksOf 0 = .ok (.aload_n 0, 1) := by decide +kernel
theorem dX9_lacksOf_1 : decode cX9_lacksOf 1 = .ok (.iload_n 1, 1) := by decide +kernel
theorem dX9_lacksOf_2 : decode cX9_lacksOf 2 = .ok (.invokevirtual 318, 3) := by decide +kernel
theorem dX9_lacksOf_5 : decode cX9_lacksOf 5 = .ok (.aload_n 0, 1) := by decide +kernel
theorem dX9_lacksOf_6 : decode cX9_lacksOf 6 = .ok (.getfield 7, 3) := by decide +kernel
theorem dX9_lacksOf_9 : decode cX9_lacksOf 9 = .ok (.bipush 46, 2) := by decide +kernel
theorem dX9_lacksOf_11 : decode cX9_lacksOf 11 = .ok (.iload_n 1, 1) := by decide +kernel
theorem dX9_lacksOf_12 : decode cX9_lacksOf 12 = .ok (.iadd, 1) := by decide +kernel
theorem dX9_lacksOf_13 : decode cX9_lacksOf 13 = .ok (.iaload, 1) := by decide +kernel
theorem dX9_lacksOf_14 : decode cX9_lacksOf 14 = .ok (.i2l, 1) := by decide +kernel
theorem dX9_lacksOf_15 : decode cX9_lacksOf 15 = .ok (.lsub, 1) := by decide +kernel
theorem dX9_lacksOf_16 : decode cX9_lacksOf 16 = .ok (.lstore_n 2, 1) := by decide +kernel
theorem dX9_lacksOf_17 : decode cX9_lacksOf 17 = .ok (.lload_n 2, 1) := by decide +kernel
theorem dX9_lacksOf_18 : decode cX9_lacksOf 18 = .ok (.lconst 0, 1) := by decide +kernel
theorem dX9_lacksOf_19 : decode cX9_lacksOf 19 = .ok (.lcmp, 1) := by decide +kernel
theorem dX9_lacksOf_20 : decode cX9_lacksOf 20 = .ok (.ifCond .ge 7, 3) := by decide +kernel
theorem dX9_lacksOf_23 : decode cX9_lacksOf 23 = .ok (.lconst 0, 1) := by decide +kernel
theorem dX9_lacksOf_24 : decode cX9_lacksOf 24 = .ok (.goto 4, 3) := by decide +kernel
theorem dX9_lacksOf_27 : decode cX9_lacksOf 27 = .ok (.lload_n 2, 1) := by decide +kernel
theorem dX9_lacksOf_28 : decode cX9_lacksOf 28 = .ok (.lreturn, 1) := by decide +kernel
theorem dX9_laysChain_0 : decode cX9_laysChain 0 = .ok (.aload_n 0, 1) := by decide +kernel
theorem dX9_laysChain_1 : decode cX9_laysChain 1 = .ok (.iload_n 1, 1) := by decide +kernel
theorem dX9_laysChain_2 : decode cX9_laysChain 2 = .ok (.iconst 2, 1) := by decide +kernel
theorem dX9_laysChain_3 : decode cX9_laysChain 3 = .ok (.invokevirtual 151, 3) := by decide +kernel
theorem dX9_laysChain_6 : decode cX9_laysChain 6 = .ok (.istore_n 3, 1) := by decide +kernel
theorem dX9_laysChain_7 : decode cX9_laysChain 7 = .ok (.iconst 1, 1) := by decide +kernel
theorem dX9_laysChain_8 : decode cX9_laysChain 8 = .ok (.aload_n 0, 1) := by decide +kernel
theorem dX9_laysChain_9 : decode cX9_laysChain 9 = .ok (.iload_n 1, 1) := by decide +kernel
theorem dX9_laysChain_10 : decode cX9_laysChain 10 = .ok (.iconst 0, 1) := by decide +kernel
theorem dX9_laysChain_11 : decode cX9_laysChain 11 = .ok (.invokevirtual 151, 3) := by decide +kernel
theorem dX9_laysChain_14 : decode cX9_laysChain 14 = .ok (.ishl, 1) := by decide +kernel
theorem dX9_laysChain_15 : decode cX9_laysChain 15 = .ok (.istore 4, 2) := by decide +kernel
theorem dX9_laysChain_17 : decode cX9_laysChain 17 = .ok (.iload_n 1, 1) := by decide +kernel
theorem dX9_laysChain_18 : decode cX9_laysChain 18 = .ok (.istore 5, 2) := by decide +kernel
theorem dX9_laysChain_20 : decode cX9_laysChain 20 = .ok (.aload_n 0, 1) := by decide +kernel
theorem dX9_laysChain_21 : decode cX9_laysChain 21 = .ok (.iconst 0, 1) := by decide +kernel
theorem dX9_laysChain_22 : decode cX9_laysChain 22 = .ok (.putfield 220, 3) := by decide +kernel
theorem dX9_laysChain_25 : decode cX9_laysChain 25 = .ok (.iload 5, 2) := by decide +kernel
theorem dX9_laysChain_27 : decode cX9_laysChain 27 = .ok (.iconst (-1), 1) := by decide +kernel
theorem dX9_laysChain_28 : decode cX9_laysChain 28 = .ok (.if_icmp .eq 63, 3) := by decide +kernel
theorem dX9_laysChain_31 : decode cX9_laysChain 31 = .ok (.aload_n 0, 1) := by decide +kernel
theorem dX9_laysChain_32 : decode cX9_laysChain 32 = .ok (.getfield 23, 3) := by decide +kernel
theorem dX9_laysChain_35 : decode cX9_laysChain 35 = .ok (.aload_n 0, 1) := by decide +kernel
theorem dX9_laysChain_36 : decode cX9_laysChain 36 = .ok (.getfield 220, 3) := by decide +kernel
theorem dX9_laysChain_39 : decode cX9_laysChain 39 = .ok (.iload 5, 2) := by decide +kernel
theorem dX9_laysChain_41 : decode cX9_laysChain 41 = .ok (.iastore, 1) := by decide +kernel
theorem dX9_laysChain_42 : decode cX9_laysChain 42 = .ok (.aload_n 0, 1) := by decide +kernel
theorem dX9_laysChain_43 : decode cX9_laysChain 43 = .ok (.aload_n 0, 1) := by decide +kernel
theorem dX9_laysChain_44 : decode cX9_laysChain 44 = .ok (.getfield 220, 3) := by decide +kernel
theorem dX9_laysChain_47 : decode cX9_laysChain 47 = .ok (.iconst 1, 1) := by decide +kernel
theorem dX9_laysChain_48 : decode cX9_laysChain 48 = .ok (.iadd, 1) := by decide +kernel
theorem dX9_laysChain_49 : decode cX9_laysChain 49 = .ok (.putfield 220, 3) := by decide +kernel
theorem dX9_laysChain_52 : decode cX9_laysChain 52 = .ok (.aload_n 0, 1) := by decide +kernel
theorem dX9_laysChain_53 : decode cX9_laysChain 53 = .ok (.aload_n 0, 1) := by decide +kernel
theorem dX9_laysChain_54 : decode cX9_laysChain 54 = .ok (.iload 5, 2) := by decide +kernel
theorem dX9_laysChain_56 : decode cX9_laysChain 56 = .ok (.iconst 1, 1) := by decide +kernel
theorem dX9_laysChain_57 : decode cX9_laysChain 57 = .ok (.invokevirtual 151, 3) := by decide +kernel
theorem dX9_laysChain_60 : decode cX9_laysChain 60 = .ok (.putfield 223, 3) := by decide +kernel
theorem dX9_laysChain_63 : decode cX9_laysChain 63 = .ok (.iload 4, 2) := by decide +kernel
theorem dX9_laysChain_65 : decode cX9_laysChain 65 = .ok (.iconst 1, 1) := by decide +kernel
theorem dX9_laysChain_66 : decode cX9_laysChain 66 = .ok (.aload_n 0, 1) := by decide +kernel
theorem dX9_laysChain_67 : decode cX9_laysChain 67 = .ok (.getfield 223, 3) := by decide +kernel
theorem dX9_laysChain_70 : decode cX9_laysChain 70 = .ok (.ishl, 1) := by decide +kernel
theorem dX9_laysChain_71 : decode cX9_laysChain 71 = .ok (.ior, 1) := by decide +kernel
theorem dX9_laysChain_72 : decode cX9_laysChain 72 = .ok (.istore 4, 2) := by decide +kernel
theorem dX9_laysChain_74 : decode cX9_laysChain 74 = .ok (.aload_n 0, 1) := by decide +kernel
theorem dX9_laysChain_75 : decode cX9_laysChain 75 = .ok (.aload_n 0, 1) := by decide +kernel
theorem dX9_laysChain_76 : decode cX9_laysChain 76 = .ok (.getfield 223, 3) := by decide +kernel
theorem dX9_laysChain_79 : decode cX9_laysChain 79 = .ok (.iload_n 3, 1) := by decide +kernel
theorem dX9_laysChain_80 : decode cX9_laysChain 80 = .ok (.iload_n 2, 1) := by decide +kernel
theorem dX9_laysChain_81 : decode cX9_laysChain 81 = .ok (.iload 4, 2) := by decide +kernel
theorem dX9_laysChain_83 : decode cX9_laysChain 83 = .ok (.invokevirtual 226, 3) := by decide +kernel
theorem dX9_laysChain_86 : decode cX9_laysChain 86 = .ok (.istore 5, 2) := by decide +kernel
theorem dX9_laysChain_88 : decode cX9_laysChain 88 = .ok (.goto (-63), 3) := by decide +kernel
theorem dX9_laysChain_91 : decode cX9_laysChain 91 = .ok (.return_, 1) := by decide +kernel
theorem dX9_laysQueue_0 : decode cX9_laysQueue 0 = .ok (.aload_n 0, 1) := by decide +kernel
theorem dX9_laysQueue_1 : decode cX9_laysQueue 1 = .ok (.iconst 0, 1) := by decide +kernel
theorem dX9_laysQueue_2 : decode cX9_laysQueue 2 = .ok (.putfield 240, 3) := by decide +kernel
theorem dX9_laysQueue_5 : decode cX9_laysQueue 5 = .ok (.iconst 0, 1) := by decide +kernel
theorem dX9_laysQueue_6 : decode cX9_laysQueue 6 = .ok (.istore_n 3, 1) := by decide +kernel
theorem dX9_laysQueue_7 : decode cX9_laysQueue 7 = .ok (.iload_n 3, 1) := by decide +kernel
theorem dX9_laysQueue_8 : decode cX9_laysQueue 8 = .ok (.aload_n 0, 1) := by decide +kernel
theorem dX9_laysQueue_9 : decode cX9_laysQueue 9 = .ok (.invokevirtual 61, 3) := by decide +kernel
theorem dX9_laysQueue_12 : decode cX9_laysQueue 12 = .ok (.if_icmp .ge 196, 3) := by decide +kernel
theorem dX9_laysQueue_15 : decode cX9_laysQueue 15 = .ok (.iconst 0, 1) := by decide +kernel
theorem dX9_laysQueue_16 : decode cX9_laysQueue 16 = .ok (.istore 4, 2) := by decide +kernel
theorem dX9_laysQueue_18 : decode cX9_laysQueue 18 = .ok (.iload 4, 2) := by decide +kernel
theorem dX9_laysQueue_20 : decode cX9_laysQueue 20 = .ok (.aload_n 0, 1) := by decide +kernel
theorem dX9_laysQueue_21 : decode cX9_laysQueue 21 = .ok (.iload_n 3, 1) := by decide +kernel
theorem dX9_laysQueue_22 : decode cX9_laysQueue 22 = .ok (.iload_n 1, 1) := by decide +kernel
theorem dX9_laysQueue_23 : decode cX9_laysQueue 23 = .ok (.invokevirtual 110, 3) := by decide +kernel
theorem dX9_laysQueue_26 : decode cX9_laysQueue 26 = .ok (.if_icmp .ge 176, 3) := by decide +kernel
theorem dX9_laysQueue_29 : decode cX9_laysQueue 29 = .ok (.aload_n 0, 1) := by decide +kernel
theorem dX9_laysQueue_30 : decode cX9_laysQueue 30 = .ok (.iload_n 3, 1) := by decide +kernel
theorem dX9_laysQueue_31 : decode cX9_laysQueue 31 = .ok (.iload_n 1, 1) := by decide +kernel
theorem dX9_laysQueue_32 : decode cX9_laysQueue 32 = .ok (.invokevirtual 122, 3) := by decide +kernel
theorem dX9_laysQueue_35 : decode cX9_laysQueue 35 = .ok (.ifCond .eq 167, 3) := by decide +kernel
theorem dX9_laysQueue_38 : decode cX9_laysQueue 38 = .ok (.aload_n 0, 1) := by decide +kernel
theorem dX9_laysQueue_39 : decode cX9_laysQueue 39 = .ok (.iload_n 3, 1) := by decide +kernel
theorem dX9_laysQueue_40 : decode cX9_laysQueue 40 = .ok (.iload_n 1, 1) := by decide +kernel
theorem dX9_laysQueue_41 : decode cX9_laysQueue 41 = .ok (.iload 4, 2) := by decide +kernel
theorem dX9_laysQueue_43 : decode cX9_laysQueue 43 = .ok (.invokevirtual 125, 3) := by decide +kernel
theorem dX9_laysQueue_46 : decode cX9_laysQueue 46 = .ok (.istore 5, 2) := by decide +kernel
theorem dX9_laysQueue_48 : decode cX9_laysQueue 48 = .ok (.iload 5, 2) := by decide +kernel
theorem dX9_laysQueue_50 : decode cX9_laysQueue 50 = .ok (.iload_n 2, 1) := by decide +kernel
theorem dX9_laysQueue_51 : decode cX9_laysQueue 51 = .ok (.if_icmp .le 6, 3) := by decide +kernel
theorem dX9_laysQueue_54 : decode cX9_laysQueue 54 = .ok (.goto 142, 3) := by decide +kernel
theorem dX9_laysQueue_57 : decode cX9_laysQueue 57 = .ok (.aload_n 0, 1) := by decide +kernel
theorem dX9_laysQueue_58 : decode cX9_laysQueue 58 = .ok (.getfield 240, 3) := by decide +kernel
theorem dX9_laysQueue_61 : decode cX9_laysQueue 61 = .ok (.istore 6, 2) := by decide +kernel
theorem dX9_laysQueue_63 : decode cX9_laysQueue 63 = .ok (.iload 6, 2) := by decide +kernel
theorem dX9_laysQueue_65 : decode cX9_laysQueue 65 = .ok (.ifCond .le 89, 3) := by decide +kernel
theorem dX9_laysQueue_68 : decode cX9_laysQueue 68 = .ok (.aload_n 0, 1) := by decide +kernel
theorem dX9_laysQueue_69 : decode cX9_laysQueue 69 = .ok (.iload_n 1, 1) := by decide +kernel
theorem dX9_laysQueue_70 : decode cX9_laysQueue 70 = .ok (.iload_n 3, 1) := by decide +kernel
theorem dX9_laysQueue_71 : decode cX9_laysQueue 71 = .ok (.iload 5, 2) := by decide +kernel
theorem dX9_laysQueue_73 : decode cX9_laysQueue 73 = .ok (.aload_n 0, 1) := by decide +kernel
theorem dX9_laysQueue_74 : decode cX9_laysQueue 74 = .ok (.getfield 26, 3) := by decide +kernel
theorem dX9_laysQueue_77 : decode cX9_laysQueue 77 = .ok (.iload 6, 2) := by decide +kernel
theorem dX9_laysQueue_79 : decode cX9_laysQueue 79 = .ok (.iconst 1, 1) := by decide +kernel
theorem dX9_laysQueue_80 : decode cX9_laysQueue 80 = .ok (.isub, 1) := by decide +kernel
theorem dX9_laysQueue_81 : decode cX9_laysQueue 81 = .ok (.iaload, 1) := by decide +kernel
theorem dX9_laysQueue_82 : decode cX9_laysQueue 82 = .ok (.aload_n 0, 1) := by decide +kernel
theorem dX9_laysQueue_83 : decode cX9_laysQueue 83 = .ok (.getfield 29, 3) := by decide +kernel
theorem dX9_laysQueue_86 : decode cX9_laysQueue 86 = .ok (.iload 6, 2) := by decide +kernel
theorem dX9_laysQueue_88 : decode cX9_laysQueue 88 = .ok (.iconst 1, 1) := by decide +kernel
theorem dX9_laysQueue_89 : decode cX9_laysQueue 89 = .ok (.isub, 1) := by decide +kernel
theorem dX9_laysQueue_90 : decode cX9_laysQueue 90 = .ok (.iaload, 1) := by decide +kernel
theorem dX9_laysQueue_91 : decode cX9_laysQueue 91 = .ok (.invokevirtual 243, 3) := by decide +kernel
theorem dX9_laysQueue_94 : decode cX9_laysQueue 94 = .ok (.ifCond .eq 60, 3) := by decide +kernel
theorem dX9_laysQueue_97 : decode cX9_laysQueue 97 = .ok (.aload_n 0, 1) := by decide +kernel
theorem dX9_laysQueue_98 : decode cX9_laysQueue 98 = .ok (.getfield 26, 3) := by decide +kernel
theorem dX9_laysQueue_101 : decode cX9_laysQueue 101 = .ok (.iload 6, 2) := by decide +kernel
theorem dX9_laysQueue_103 : decode cX9_laysQueue 103 = .ok (.aload_n 0, 1) := by decide +kernel
theorem dX9_laysQueue_104 : decode cX9_laysQueue 104 = .ok (.getfield 26, 3) := by decide +kernel
theorem dX9_laysQueue_107 : decode cX9_laysQueue 107 = .ok (.iload 6, 2) := by decide +kernel
theorem dX9_laysQueue_109 : decode cX9_laysQueue 109 = .ok (.iconst 1, 1) := by decide +kernel
theorem dX9_laysQueue_110 : decode cX9_laysQueue 110 = .ok (.isub, 1) := by decide +kernel
theorem dX9_laysQueue_111 : decode cX9_laysQueue 111 = .ok (.iaload, 1) := by decide +kernel
theorem dX9_laysQueue_112 : decode cX9_laysQueue 112 = .ok (.iastore, 1) := by decide +kernel
theorem dX9_laysQueue_113 : decode cX9_laysQueue 113 = .ok (.aload_n 0, 1) := by decide +kernel
theorem dX9_laysQueue_114 : decode cX9_laysQueue 114 = .ok (.getfield 29, 3) := by decide +kernel
theorem dX9_laysQueue_117 : decode cX9_laysQueue 117 = .ok (.iload 6, 2) := by decide +kernel
theorem dX9_laysQueue_119 : decode cX9_laysQueue 119 = .ok (.aload_n 0, 1) := by decide +kernel
theorem dX9_laysQueue_120 : decode cX9_laysQueue 120 = .ok (.getfield 29, 3) := by decide +kernel
theorem dX9_laysQueue_123 : decode cX9_laysQueue 123 = .ok (.iload 6, 2) := by decide +kernel
theorem dX9_laysQueue_125 : decode cX9_laysQueue 125 = .ok (.iconst 1, 1) := by decide +kernel
theorem dX9_laysQueue_126 : decode cX9_laysQueue 126 = .ok (.isub, 1) := by decide +kernel
theorem dX9_laysQueue_127 : decode cX9_laysQueue 127 = .ok (.iaload, 1) := by decide +kernel
theorem dX9_laysQueue_128 : decode cX9_laysQueue 128 = .ok (.iastore, 1) := by decide +kernel
theorem dX9_laysQueue_129 : decode cX9_laysQueue 129 = .ok (.aload_n 0, 1) := by decide +kernel
theorem dX9_laysQueue_130 : decode cX9_laysQueue 130 = .ok (.getfield 32, 3) := by decide +kernel
theorem dX9_laysQueue_133 : decode cX9_laysQueue 133 = .ok (.iload 6, 2) := by decide +kernel
theorem dX9_laysQueue_135 : decode cX9_laysQueue 135 = .ok (.aload_n 0, 1) := by decide +kernel
theorem dX9_laysQueue_136 : decode cX9_laysQueue 136 = .ok (.getfield 32, 3) := by decide +kernel
theorem dX9_laysQueue_139 : decode cX9_laysQueue 139 = .ok (.iload 6, 2) := by decide +kernel
theorem dX9_laysQueue_141 : decode cX9_laysQueue 141 = .ok (.iconst 1, 1) := by decide +kernel
theorem dX9_laysQueue_142 : decode cX9_laysQueue 142 = .ok (.isub, 1) := by decide +kernel
theorem dX9_laysQueue_143 : decode cX9_laysQueue 143 = .ok (.iaload, 1) := by decide +kernel
theorem dX9_laysQueue_144 : decode cX9_laysQueue 144 = .ok (.iastore, 1) := by decide +kernel
theorem dX9_laysQueue_145 : decode cX9_laysQueue 145 = .ok (.iload 6, 2) := by decide +kernel
theorem dX9_laysQueue_147 : decode cX9_laysQueue 147 = .ok (.iconst 1, 1) := by decide +kernel
theorem dX9_laysQueue_148 : decode cX9_laysQueue 148 = .ok (.isub, 1) := by decide +kernel
theorem dX9_laysQueue_149 : decode cX9_laysQueue 149 = .ok (.istore 6, 2) := by decide +kernel
theorem dX9_laysQueue_151 : decode cX9_laysQueue 151 = .ok (.goto (-88), 3) := by decide +kernel
theorem dX9_laysQueue_154 : decode cX9_laysQueue 154 = .ok (.aload_n 0, 1) := by decide +kernel
theorem dX9_laysQueue_155 : decode cX9_laysQueue 155 = .ok (.getfield 26, 3) := by decide +kernel
theorem dX9_laysQueue_158 : decode cX9_laysQueue 158 = .ok (.iload 6, 2) := by decide +kernel
theorem dX9_laysQueue_160 : decode cX9_laysQueue 160 = .ok (.iload_n 3, 1) := by decide +kernel
theorem dX9_laysQueue_161 : decode cX9_laysQueue 161 = .ok (.iastore, 1) := by decide +kernel
theorem dX9_laysQueue_162 : decode cX9_laysQueue 162 = .ok (.aload_n 0, 1) := by decide +kernel
theorem dX9_laysQueue_163 : decode cX9_laysQueue 163 = .ok (.getfield 29, 3) := by decide +kernel
theorem dX9_laysQueue_166 : decode cX9_laysQueue 166 = .ok (.iload 6, 2) := by decide +kernel
theorem dX9_laysQueue_168 : decode cX9_laysQueue 168 = .ok (.iload 5, 2) := by decide +kernel
theorem dX9_laysQueue_170 : decode cX9_laysQueue 170 = .ok (.iastore, 1) := by decide +kernel
theorem dX9_laysQueue_171 : decode cX9_laysQueue 171 = .ok (.aload_n 0, 1) := by decide +kernel
theorem dX9_laysQueue_172 : decode cX9_laysQueue 172 = .ok (.getfield 32, 3) := by decide +kernel
theorem dX9_laysQueue_175 : decode cX9_laysQueue 175 = .ok (.iload 6, 2) := by decide +kernel
theorem dX9_laysQueue_177 : decode cX9_laysQueue 177 = .ok (.aload_n 0, 1) := by decide +kernel
theorem dX9_laysQueue_178 : decode cX9_laysQueue 178 = .ok (.iload_n 3, 1) := by decide +kernel
theorem dX9_laysQueue_179 : decode cX9_laysQueue 179 = .ok (.iload_n 1, 1) := by decide +kernel
theorem dX9_laysQueue_180 : decode cX9_laysQueue 180 = .ok (.iload 4, 2) := by decide +kernel
theorem dX9_laysQueue_182 : decode cX9_laysQueue 182 = .ok (.invokevirtual 113, 3) := by decide +kernel
theorem dX9_laysQueue_185 : decode cX9_laysQueue 185 = .ok (.iastore, 1) := by decide +kernel
theorem dX9_laysQueue_186 : decode cX9_laysQueue 186 = .ok (.aload_n 0, 1) := by decide +kernel
theorem dX9_laysQueue_187 : decode cX9_laysQueue 187 = .ok (.aload_n 0, 1) := by decide +kernel
theorem dX9_laysQueue_188 : decode cX9_laysQueue 188 = .ok (.getfield 240, 3) := by decide +kernel
theorem dX9_laysQueue_191 : decode cX9_laysQueue 191 = .ok (.iconst 1, 1) := by decide +kernel
theorem dX9_laysQueue_192 : decode cX9_laysQueue 192 = .ok (.iadd, 1) := by decide +kernel
theorem dX9_laysQueue_193 : decode cX9_laysQueue 193 = .ok (.putfield 240, 3) := by decide +kernel
theorem dX9_laysQueue_196 : decode cX9_laysQueue 196 = .ok (.iinc 4 1, 3) := by decide +kernel
theorem dX9_laysQueue_199 : decode cX9_laysQueue 199 = .ok (.goto (-181), 3) := by decide +kernel
theorem dX9_laysQueue_202 : decode cX9_laysQueue 202 = .ok (.iinc 3 1, 3) := by decide +kernel
theorem dX9_laysQueue_205 : decode cX9_laysQueue 205 = .ok (.goto (-198), 3) := by decide +kernel
theorem dX9_laysQueue_208 : decode cX9_laysQueue 208 = .ok (.return_, 1) := by decide +kernel
theorem dX9_lenderFor_0 : decode cX9_lenderFor 0 = .ok (.iconst (-1), 1) := by decide +kernel
theorem dX9_lenderFor_1 : decode cX9_lenderFor 1 = .ok (.istore_n 3, 1) := by decide +kernel
theorem dX9_lenderFor_2 : decode cX9_lenderFor 2 = .ok (.iconst 0, 1) := by decide +kernel
theorem dX9_lenderFor_3 : decode cX9_lenderFor 3 = .ok (.istore 4, 2) := by decide +kernel
theorem dX9_lenderFor_5 : decode cX9_lenderFor 5 = .ok (.iload 4, 2) := by decide +kernel
theorem dX9_lenderFor_7 : decode cX9_lenderFor 7 = .ok (.aload_n 0, 1) := by decide +kernel
theorem dX9_lenderFor_8 : decode cX9_lenderFor 8 = .ok (.invokevirtual 61, 3) := by decide +kernel
theorem dX9_lenderFor_11 : decode cX9_lenderFor 11 = .ok (.if_icmp .ge 49, 3) := by decide +kernel
theorem dX9_lenderFor_14 : decode cX9_lenderFor 14 = .ok (.iload 4, 2) := by decide +kernel
theorem dX9_lenderFor_16 : decode cX9_lenderFor 16 = .ok (.iload_n 1, 1) := by decide +kernel
theorem dX9_lenderFor_17 : decode cX9_lenderFor 17 = .ok (.if_icmp .eq 37, 3) := by decide +kernel
theorem dX9_lenderFor_20 : decode cX9_lenderFor 20 = .ok (.aload_n 0, 1) := by decide +kernel
theorem dX9_lenderFor_21 : decode cX9_lenderFor 21 = .ok (.iload 4, 2) := by decide +kernel
theorem dX9_lenderFor_23 : decode cX9_lenderFor 23 = .ok (.iload_n 2, 1) := by decide +kernel
theorem dX9_lenderFor_24 : decode cX9_lenderFor 24 = .ok (.invokevirtual 262, 3) := by decide +kernel
theorem dX9_lenderFor_27 : decode cX9_lenderFor 27 = .ok (.ifCond .le 27, 3) := by decide +kernel
theorem dX9_lenderFor_30 : decode cX9_lenderFor 30 = .ok (.iload_n 3, 1) := by decide +kernel
theorem dX9_lenderFor_31 : decode cX9_lenderFor 31 = .ok (.iconst (-1), 1) := by decide +kernel
theorem dX9_lenderFor_32 : decode cX9_lenderFor 32 = .ok (.if_icmp .eq 19, 3) := by decide +kernel
theorem dX9_lenderFor_35 : decode cX9_lenderFor 35 = .ok (.aload_n 0, 1) := by decide +kernel
theorem dX9_lenderFor_36 : decode cX9_lenderFor 36 = .ok (.iload 4, 2) := by decide +kernel
theorem dX9_lenderFor_38 : decode cX9_lenderFor 38 = .ok (.iload_n 2, 1) := by decide +kernel
theorem dX9_lenderFor_39 : decode cX9_lenderFor 39 = .ok (.invokevirtual 262, 3) := by decide +kernel
theorem dX9_lenderFor_42 : decode cX9_lenderFor 42 = .ok (.aload_n 0, 1) := by decide +kernel
theorem dX9_lenderFor_43 : decode cX9_lenderFor 43 = .ok (.iload_n 3, 1) := by decide +kernel
theorem dX9_lenderFor_44 : decode cX9_lenderFor 44 = .ok (.iload_n 2, 1) := by decide +kernel
theorem dX9_lenderFor_45 : decode cX9_lenderFor 45 = .ok (.invokevirtual 262, 3) := by decide +kernel
theorem dX9_lenderFor_48 : decode cX9_lenderFor 48 = .ok (.if_icmp .le 6, 3) := by decide +kernel
theorem dX9_lenderFor_51 : decode cX9_lenderFor 51 = .ok (.iload 4, 2) := by decide +kernel
theorem dX9_lenderFor_53 : decode cX9_lenderFor 53 = .ok (.istore_n 3, 1) := by decide +kernel
theorem dX9_lenderFor_54 : decode cX9_lenderFor 54 = .ok (.iinc 4 1, 3) := by decide +kernel
theorem dX9_lenderFor_57 : decode cX9_lenderFor 57 = .ok (.goto (-52), 3) := by decide +kernel
theorem dX9_lenderFor_60 : decode cX9_lenderFor 60 = .ok (.iload_n 3, 1) := by decide +kernel
theorem dX9_lenderFor_61 : decode cX9_lenderFor 61 = .ok (.ireturn, 1) := by decide +kernel
theorem dX9_lends_0 : decode cX9_lends 0 = .ok (.aload_n 0, 1) := by decide +kernel
theorem dX9_lends_1 : decode cX9_lends 1 = .ok (.iload_n 1, 1) := by decide +kernel
theorem dX9_lends_2 : decode cX9_lends 2 = .ok (.aload_n 0, 1) := by decide +kernel
theorem dX9_lends_3 : decode cX9_lends 3 = .ok (.getfield 7, 3) := by decide +kernel
theorem dX9_lends_6 : decode cX9_lends 6 = .ok (.bipush 6, 2) := by decide +kernel
theorem dX9_lends_8 : decode cX9_lends 8 = .ok (.iaload, 1) := by decide +kernel
theorem dX9_lends_9 : decode cX9_lends 9 = .ok (.aload_n 0, 1) := by decide +kernel
theorem dX9_lends_10 : decode cX9_lends 10 = .ok (.iconst 2, 1) := by decide +kernel
theorem dX9_lends_11 : decode cX9_lends 11 = .ok (.invokevirtual 144, 3) := by decide +kernel
theorem dX9_lends_14 : decode cX9_lends 14 = .ok (.isub, 1) := by decide +kernel
theorem dX9_lends_15 : decode cX9_lends 15 = .ok (.invokevirtual 271, 3) := by decide +kernel
theorem dX9_lends_18 : decode cX9_lends 18 = .ok (.iconst 0, 1) := by decide +kernel
theorem dX9_lends_19 : decode cX9_lends 19 = .ok (.istore_n 2, 1) := by decide +kernel
theorem dX9_lends_20 : decode cX9_lends 20 = .ok (.iload_n 2, 1) := by decide +kernel
theorem dX9_lends_21 : decode cX9_lends 21 = .ok (.aload_n 0, 1) := by decide +kernel
theorem dX9_lends_22 : decode cX9_lends 22 = .ok (.getfield 240, 3) := by decide +kernel
theorem dX9_lends_25 : decode cX9_lends 25 = .ok (.if_icmp .ge 26, 3) := by decide +kernel
theorem dX9_lends_28 : decode cX9_lends 28 = .ok (.aload_n 0, 1) := by decide +kernel
theorem dX9_lends_29 : decode cX9_lends 29 = .ok (.aload_n 0, 1) := by decide +kernel
theorem dX9_lends_30 : decode cX9_lends 30 = .ok (.getfield 26, 3) := by decide +kernel
theorem dX9_lends_33 : decode cX9_lends 33 = .ok (.iload_n 2, 1) := by decide +kernel
theorem dX9_lends_34 : decode cX9_lends 34 = .ok (.iaload, 1) := by decide +kernel
theorem dX9_lends_35 : decode cX9_lends 35 = .ok (.iload_n 1, 1) := by decide +kernel
theorem dX9_lends_36 : decode cX9_lends 36 = .ok (.aload_n 0, 1) := by decide +kernel
theorem dX9_lends_37 : decode cX9_lends 37 = .ok (.getfield 29, 3) := by decide +kernel
theorem dX9_lends_40 : decode cX9_lends 40 = .ok (.iload_n 2, 1) := by decide +kernel
theorem dX9_lends_41 : decode cX9_lends 41 = .ok (.iaload, 1) := by decide +kernel
theorem dX9_lends_42 : decode cX9_lends 42 = .ok (.invokevirtual 274, 3) := by decide +kernel
theorem dX9_lends_45 : decode cX9_lends 45 = .ok (.iinc 2 1, 3) := by decide +kernel
theorem dX9_lends_48 : decode cX9_lends 48 = .ok (.goto (-28), 3) := by decide +kernel
theorem dX9_lends_51 : decode cX9_lends 51 = .ok (.return_, 1) := by decide +kernel
theorem dX9_lendsTo_0 : decode cX9_lendsTo 0 = .ok (.aload_n 0, 1) := by decide +kernel
theorem dX9_lendsTo_1 : decode cX9_lendsTo 1 = .ok (.iload_n 1, 1) := by decide +kernel
theorem dX9_lendsTo_2 : decode cX9_lendsTo 2 = .ok (.iload_n 2, 1) := by decide +kernel
theorem dX9_lendsTo_3 : decode cX9_lendsTo 3 = .ok (.invokevirtual 265, 3) := by decide +kernel
theorem dX9_lendsTo_6 : decode cX9_lendsTo 6 = .ok (.istore 4, 2) := by decide +kernel
theorem dX9_lendsTo_8 : decode cX9_lendsTo 8 = .ok (.aload_n 0, 1) := by decide +kernel
theorem dX9_lendsTo_9 : decode cX9_lendsTo 9 = .ok (.iload_n 1, 1) := by decide +kernel
theorem dX9_lendsTo_10 : decode cX9_lendsTo 10 = .ok (.iload_n 2, 1) := by decide +kernel
theorem dX9_lendsTo_11 : decode cX9_lendsTo 11 = .ok (.iload_n 3, 1) := by decide +kernel
theorem dX9_lendsTo_12 : decode cX9_lendsTo 12 = .ok (.invokevirtual 268, 3) := by decide +kernel
theorem dX9_lendsTo_15 : decode cX9_lendsTo 15 = .ok (.istore 5, 2) := by decide +kernel
theorem dX9_lendsTo_17 : decode cX9_lendsTo 17 = .ok (.iload 4, 2) := by decide +kernel
theorem dX9_lendsTo_19 : decode cX9_lendsTo 19 = .ok (.iconst (-1), 1) := by decide +kernel
theorem dX9_lendsTo_20 : decode cX9_lendsTo 20 = .ok (.if_icmp .eq 172, 3) := by decide +kernel
theorem dX9_lendsTo_23 : decode cX9_lendsTo 23 = .ok (.iload 5, 2) := by decide +kernel
theorem dX9_lendsTo_25 : decode cX9_lendsTo 25 = .ok (.iconst (-1), 1) := by decide +kernel
theorem dX9_lendsTo_26 : decode cX9_lendsTo 26 = .ok (.if_icmp .eq 166, 3) := by decide +kernel
theorem dX9_lendsTo_29 : decode cX9_lendsTo 29 = .ok (.aload_n 0, 1) := by decide +kernel
theorem dX9_lendsTo_30 : decode cX9_lendsTo 30 = .ok (.aload_n 0, 1) := by decide +kernel
theorem dX9_lendsTo_31 : decode cX9_lendsTo 31 = .ok (.iload_n 1, 1) := by decide +kernel
theorem dX9_lendsTo_32 : decode cX9_lendsTo 32 = .ok (.iload_n 2, 1) := by decide +kernel
theorem dX9_lendsTo_33 : decode cX9_lendsTo 33 = .ok (.iload 5, 2) := by decide +kernel
theorem dX9_lendsTo_35 : decode cX9_lendsTo 35 = .ok (.invokevirtual 113, 3) := by decide +kernel
theorem dX9_lendsTo_38 : decode cX9_lendsTo 38 = .ok (.aload_n 0, 1) := by decide +kernel
theorem dX9_lendsTo_39 : decode cX9_lendsTo 39 = .ok (.iload 4, 2) := by decide +kernel
theorem dX9_lendsTo_41 : decode cX9_lendsTo 41 = .ok (.iload_n 2, 1) := by decide +kernel
theorem dX9_lendsTo_42 : decode cX9_lendsTo 42 = .ok (.invokevirtual 262, 3) := by decide +kernel
theorem dX9_lendsTo_45 : decode cX9_lendsTo 45 = .ok (.invokevirtual 131, 3) := by decide +kernel
theorem dX9_lendsTo_48 : decode cX9_lendsTo 48 = .ok (.istore 6, 2) := by decide +kernel
theorem dX9_lendsTo_50 : decode cX9_lendsTo 50 = .ok (.aload_n 0, 1) := by decide +kernel
theorem dX9_lendsTo_51 : decode cX9_lendsTo 51 = .ok (.iload 4, 2) := by decide +kernel
theorem dX9_lendsTo_53 : decode cX9_lendsTo 53 = .ok (.iload_n 2, 1) := by decide +kernel
theorem dX9_lendsTo_54 : decode cX9_lendsTo 54 = .ok (.iload 6, 2) := by decide +kernel
theorem dX9_lendsTo_56 : decode cX9_lendsTo 56 = .ok (.ineg, 1) := by decide +kernel
theorem dX9_lendsTo_57 : decode cX9_lendsTo 57 = .ok (.invokevirtual 101, 3) := by decide +kernel
theorem dX9_lendsTo_60 : decode cX9_lendsTo 60 = .ok (.aload_n 0, 1) := by decide +kernel
theorem dX9_lendsTo_61 : decode cX9_lendsTo 61 = .ok (.iload 4, 2) := by decide +kernel
theorem dX9_lendsTo_63 : decode cX9_lendsTo 63 = .ok (.iload 6, 2) := by decide +kernel
theorem dX9_lendsTo_65 : decode cX9_lendsTo 65 = .ok (.i2l, 1) := by decide +kernel
theorem dX9_lendsTo_66 : decode cX9_lendsTo 66 = .ok (.aload_n 0, 1) := by decide +kernel
theorem dX9_lendsTo_67 : decode cX9_lendsTo 67 = .ok (.iload_n 2, 1) := by decide +kernel
theorem dX9_lendsTo_68 : decode cX9_lendsTo 68 = .ok (.invokevirtual 203, 3) := by decide +kernel
theorem dX9_lendsTo_71 : decode cX9_lendsTo 71 = .ok (.i2l, 1) := by decide +kernel
theorem dX9_lendsTo_72 : decode cX9_lendsTo 72 = .ok (.lmul, 1) := by decide +kernel
theorem dX9_lendsTo_73 : decode cX9_lendsTo 73 = .ok (.invokevirtual 206, 3) := by decide +kernel
theorem dX9_lendsTo_76 : decode cX9_lendsTo 76 = .ok (.aload_n 0, 1) := by decide +kernel
theorem dX9_lendsTo_77 : decode cX9_lendsTo 77 = .ok (.getfield 7, 3) := by decide +kernel
theorem dX9_lendsTo_80 : decode cX9_lendsTo 80 = .ok (.sipush 276, 3) := by decide +kernel
theorem dX9_lendsTo_83 : decode cX9_lendsTo 83 = .ok (.aload_n 0, 1) := by decide +kernel
theorem dX9_lendsTo_84 : decode cX9_lendsTo 84 = .ok (.iload 4, 2) := by decide +kernel
theorem dX9_lendsTo_86 : decode cX9_lendsTo 86 = .ok (.iload_n 2, 1) := by decide +kernel
theorem dX9_lendsTo_87 : decode cX9_lendsTo 87 = .ok (.invokevirtual 65, 3) := by decide +kernel
theorem dX9_lendsTo_90 : decode cX9_lendsTo 90 = .ok (.iadd, 1) := by decide +kernel
theorem dX9_lendsTo_91 : decode cX9_lendsTo 91 = .ok (.aload_n 0, 1) := by decide +kernel
theorem dX9_lendsTo_92 : decode cX9_lendsTo 92 = .ok (.getfield 7, 3) := by decide +kernel
theorem dX9_lendsTo_95 : decode cX9_lendsTo 95 = .ok (.sipush 276, 3) := by decide +kernel
theorem dX9_lendsTo_98 : decode cX9_lendsTo 98 = .ok (.aload_n 0, 1) := by decide +kernel
theorem dX9_lendsTo_99 : decode cX9_lendsTo 99 = .ok (.iload 4, 2) := by decide +kernel
theorem dX9_lendsTo_101 : decode cX9_lendsTo 101 = .ok (.iload_n 2, 1) := by decide +kernel
theorem dX9_lendsTo_102 : decode cX9_lendsTo 102 = .ok (.invokevirtual 65, 3) := by decide +kernel
theorem dX9_lendsTo_105 : decode cX9_lendsTo 105 = .ok (.iadd, 1) := by decide +kernel
theorem dX9_lendsTo_106 : decode cX9_lendsTo 106 = .ok (.iaload, 1) := by decide +kernel
theorem dX9_lendsTo_107 : decode cX9_lendsTo 107 = .ok (.iload 6, 2) := by decide +kernel
theorem dX9_lendsTo_109 : decode cX9_lendsTo 109 = .ok (.iadd, 1) := by decide +kernel
theorem dX9_lendsTo_110 : decode cX9_lendsTo 110 = .ok (.iastore, 1) := by decide +kernel
theorem dX9_lendsTo_111 : decode cX9_lendsTo 111 = .ok (.aload_n 0, 1) := by decide +kernel
theorem dX9_lendsTo_112 : decode cX9_lendsTo 112 = .ok (.iload 4, 2) := by decide +kernel
theorem dX9_lendsTo_114 : decode cX9_lendsTo 114 = .ok (.iload_n 2, 1) := by decide +kernel
theorem dX9_lendsTo_115 : decode cX9_lendsTo 115 = .ok (.iload 6, 2) := by decide +kernel
theorem dX9_lendsTo_117 : decode cX9_lendsTo 117 = .ok (.aload_n 0, 1) := by decide +kernel
theorem dX9_lendsTo_118 : decode cX9_lendsTo 118 = .ok (.getfield 7, 3) := by decide +kernel
theorem dX9_lendsTo_121 : decode cX9_lendsTo 121 = .ok (.bipush 6, 2) := by decide +kernel
theorem dX9_lendsTo_123 : decode cX9_lendsTo 123 = .ok (.iaload, 1) := by decide +kernel
theorem dX9_lendsTo_124 : decode cX9_lendsTo 124 = .ok (.invokevirtual 247, 3) := by decide +kernel
theorem dX9_lendsTo_127 : decode cX9_lendsTo 127 = .ok (.aload_n 0, 1) := by decide +kernel
theorem dX9_lendsTo_128 : decode cX9_lendsTo 128 = .ok (.iload_n 1, 1) := by decide +kernel
theorem dX9_lendsTo_129 : decode cX9_lendsTo 129 = .ok (.iload_n 2, 1) := by decide +kernel
theorem dX9_lendsTo_130 : decode cX9_lendsTo 130 = .ok (.iload 6, 2) := by decide +kernel
theorem dX9_lendsTo_132 : decode cX9_lendsTo 132 = .ok (.invokevirtual 101, 3) := by decide +kernel
theorem dX9_lendsTo_135 : decode cX9_lendsTo 135 = .ok (.aload_n 0, 1) := by decide +kernel
theorem dX9_lendsTo_136 : decode cX9_lendsTo 136 = .ok (.iload_n 1, 1) := by decide +kernel
theorem dX9_lendsTo_137 : decode cX9_lendsTo 137 = .ok (.iload 6, 2) := by decide +kernel
theorem dX9_lendsTo_139 : decode cX9_lendsTo 139 = .ok (.i2l, 1) := by decide +kernel
theorem dX9_lendsTo_140 : decode cX9_lendsTo 140 = .ok (.lneg, 1) := by decide +kernel
theorem dX9_lendsTo_141 : decode cX9_lendsTo 141 = .ok (.aload_n 0, 1) := by decide +kernel
theorem dX9_lendsTo_142 : decode cX9_lendsTo 142 = .ok (.iload_n 2, 1) := by decide +kernel
theorem dX9_lendsTo_143 : decode cX9_lendsTo 143 = .ok (.invokevirtual 203, 3) := by decide +kernel
theorem dX9_lendsTo_146 : decode cX9_lendsTo 146 = .ok (.i2l, 1) := by decide +kernel
theorem dX9_lendsTo_147 : decode cX9_lendsTo 147 = .ok (.lmul, 1) := by decide +kernel
theorem dX9_lendsTo_148 : decode cX9_lendsTo 148 = .ok (.invokevirtual 206, 3) := by decide +kernel
theorem dX9_lendsTo_151 : decode cX9_lendsTo 151 = .ok (.aload_n 0, 1) := by decide +kernel
theorem dX9_lendsTo_152 : decode cX9_lendsTo 152 = .ok (.iload_n 1, 1) := by decide +kernel
theorem dX9_lendsTo_153 : decode cX9_lendsTo 153 = .ok (.iload_n 2, 1) := by decide +kernel
theorem dX9_lendsTo_154 : decode cX9_lendsTo 154 = .ok (.iload 5, 2) := by decide +kernel
theorem dX9_lendsTo_156 : decode cX9_lendsTo 156 = .ok (.iload 6, 2) := by decide +kernel
theorem dX9_lendsTo_158 : decode cX9_lendsTo 158 = .ok (.invokevirtual 134, 3) := by decide +kernel
theorem dX9_lendsTo_161 : decode cX9_lendsTo 161 = .ok (.aload_n 0, 1) := by decide +kernel
theorem dX9_lendsTo_162 : decode cX9_lendsTo 162 = .ok (.iconst 2, 1) := by decide +kernel
theorem dX9_lendsTo_163 : decode cX9_lendsTo 163 = .ok (.iload_n 2, 1) := by decide +kernel
theorem dX9_lendsTo_164 : decode cX9_lendsTo 164 = .ok (.iload 4, 2) := by decide +kernel
theorem dX9_lendsTo_166 : decode cX9_lendsTo 166 = .ok (.iload_n 1, 1) := by decide +kernel
theorem dX9_lendsTo_167 : decode cX9_lendsTo 167 = .ok (.iload 6, 2) := by decide +kernel
theorem dX9_lendsTo_169 : decode cX9_lendsTo 169 = .ok (.invokevirtual 213, 3) := by decide +kernel
theorem dX9_lendsTo_172 : decode cX9_lendsTo 172 = .ok (.aload_n 0, 1) := by decide +kernel
theorem dX9_lendsTo_173 : decode cX9_lendsTo 173 = .ok (.iload_n 1, 1) := by decide +kernel
theorem dX9_lendsTo_174 : decode cX9_lendsTo 174 = .ok (.iload_n 2, 1) := by decide +kernel
theorem dX9_lendsTo_175 : decode cX9_lendsTo 175 = .ok (.invokevirtual 265, 3) := by decide +kernel
theorem dX9_lendsTo_178 : decode cX9_lendsTo 178 = .ok (.istore 4, 2) := by decide +kernel
theorem dX9_lendsTo_180 : decode cX9_lendsTo 180 = .ok (.aload_n 0, 1) := by decide +kernel
theorem dX9_lendsTo_181 : decode cX9_lendsTo 181 = .ok (.iload_n 1, 1) := by decide +kernel
theorem dX9_lendsTo_182 : decode cX9_lendsTo 182 = .ok (.iload_n 2, 1) := by decide +kernel
theorem dX9_lendsTo_183 : decode cX9_lendsTo 183 = .ok (.iload_n 3, 1) := by decide +kernel
theorem dX9_lendsTo_184 : decode cX9_lendsTo 184 = .ok (.invokevirtual 268, 3) := by decide +kernel
theorem dX9_lendsTo_187 : decode cX9_lendsTo 187 = .ok (.istore 5, 2) := by decide +kernel
theorem dX9_lendsTo_189 : decode cX9_lendsTo 189 = .ok (.goto (-172), 3) := by decide +kernel
theorem dX9_lendsTo_192 : decode cX9_lendsTo 192 = .ok (.return_, 1) := by decide +kernel
theorem dX9_lesser_0 : decode cX9_lesser 0 = .ok (.iload_n 1, 1) := by decide +kernel
theorem dX9_lesser_1 : decode cX9_lesser 1 = .ok (.iload_n 2, 1) := by decide +kernel
theorem dX9_lesser_2 : decode cX9_lesser 2 = .ok (.if_icmp .ge 7, 3) := by decide +kernel
theorem dX9_lesser_5 : decode cX9_lesser 5 = .ok (.iload_n 1, 1) := by decide +kernel
theorem dX9_lesser_6 : decode cX9_lesser 6 = .ok (.goto 4, 3) := by decide +kernel
theorem dX9_lesser_9 : decode cX9_lesser 9 = .ok (.iload_n 2, 1) := by decide +kernel
theorem dX9_lesser_10 : decode cX9_lesser 10 = .ok (.ireturn, 1) := by decide +kernel
theorem dX9_longOf_0 : decode cX9_longOf 0 = .ok (.aload_n 0, 1) := by decide +kernel
theorem dX9_longOf_1 : decode cX9_longOf 1 = .ok (.iload_n 1, 1) := by decide +kernel
theorem dX9_longOf_2 : decode cX9_longOf 2 = .ok (.iload_n 2, 1) := by decide +kernel
theorem dX9_longOf_3 : decode cX9_longOf 3 = .ok (.invokevirtual 122, 3) := by decide +kernel
theorem dX9_longOf_6 : decode cX9_longOf 6 = .ok (.ifCond .eq 12, 3) := by decide +kernel
theorem dX9_longOf_9 : decode cX9_longOf 9 = .ok (.aload_n 0, 1) := by decide +kernel
theorem dX9_longOf_10 : decode cX9_longOf 10 = .ok (.iload_n 1, 1) := by decide +kernel
theorem dX9_longOf_11 : decode cX9_longOf 11 = .ok (.iload_n 2, 1) := by decide +kernel
theorem dX9_longOf_12 : decode cX9_longOf 12 = .ok (.invokevirtual 119, 3) := by decide +kernel
theorem dX9_longOf_15 : decode cX9_longOf 15 = .ok (.goto 4, 3) := by decide +kernel
theorem dX9_longOf_18 : decode cX9_longOf 18 = .ok (.iconst 0, 1) := by decide +kernel
theorem dX9_longOf_19 : decode cX9_longOf 19 = .ok (.ireturn, 1) := by decide +kernel
theorem dX9_look_0 : decode cX9_look 0 = .ok (.aload_n 0, 1) := by decide +kernel
theorem dX9_look_1 : decode cX9_look 1 = .ok (.iconst 0, 1) := by decide +kernel
theorem dX9_look_2 : decode cX9_look 2 = .ok (.putfield 58, 3) := by decide +kernel
theorem dX9_look_5 : decode cX9_look 5 = .ok (.aload_n 0, 1) := by decide +kernel
theorem dX9_look_6 : decode cX9_look 6 = .ok (.iload_n 1, 1) := by decide +kernel
theorem dX9_look_7 : decode cX9_look 7 = .ok (.iconst 0, 1) := by decide +kernel
theorem dX9_look_8 : decode cX9_look 8 = .ok (.iconst 5, 1) := by decide +kernel
theorem dX9_look_9 : decode cX9_look 9 = .ok (.invokevirtual 79, 3) := by decide +kernel
theorem dX9_look_12 : decode cX9_look 12 = .ok (.ifCond .eq 9, 3) := by decide +kernel
theorem dX9_look_15 : decode cX9_look 15 = .ok (.aload_n 0, 1) := by decide +kernel
theorem dX9_look_16 : decode cX9_look 16 = .ok (.iload_n 1, 1) := by decide +kernel
theorem dX9_look_17 : decode cX9_look 17 = .ok (.invokevirtual 144, 3) := by decide +kernel
theorem dX9_look_20 : decode cX9_look 20 = .ok (.ireturn, 1) := by decide +kernel
theorem dX9_look_21 : decode cX9_look 21 = .ok (.aload_n 0, 1) := by decide +kernel
theorem dX9_look_22 : decode cX9_look 22 = .ok (.iload_n 1, 1) := by decide +kernel
theorem dX9_look_23 : decode cX9_look 23 = .ok (.bipush 6, 2) := by decide +kernel
theorem dX9_look_25 : decode cX9_look 25 = .ok (.bipush 8, 2) := by decide +kernel
theorem dX9_look_27 : decode cX9_look 27 = .ok (.invokevirtual 79, 3) := by decide +kernel
theorem dX9_look_30 : decode cX9_look 30 = .ok (.ifCond .eq 10, 3) := by decide +kernel
theorem dX9_look_33 : decode cX9_look 33 = .ok (.aload_n 0, 1) := by decide +kernel
theorem dX9_look_34 : decode cX9_look 34 = .ok (.getfield 7, 3) := by decide +kernel
theorem dX9_look_37 : decode cX9_look 37 = .ok (.iload_n 1, 1) := by decide +kernel
theorem dX9_look_38 : decode cX9_look 38 = .ok (.iaload, 1) := by decide +kernel
theorem dX9_look_39 : decode cX9_look 39 = .ok (.ireturn, 1) := by decide +kernel
theorem dX9_look_40 : decode cX9_look 40 = .ok (.iload_n 1, 1) := by decide +kernel
theorem dX9_look_41 : decode cX9_look 41 = .ok (.bipush 9, 2) := by decide +kernel
theorem dX9_look_43 : decode cX9_look 43 = .ok (.if_icmp .ne 8, 3) := by decide +kernel
theorem dX9_look_46 : decode cX9_look 46 = .ok (.aload_n 0, 1) := by decide +kernel
theorem dX9_look_47 : decode cX9_look 47 = .ok (.invokevirtual 429, 3) := by decide +kernel
theorem dX9_look_50 : decode cX9_look 50 = .ok (.ireturn, 1) := by decide +kernel
theorem dX9_look_51 : decode cX9_look 51 = .ok (.iload_n 1, 1) := by decide +kernel
theorem dX9_look_52 : decode cX9_look 52 = .ok (.bipush 10, 2) := by decide +kernel
theorem dX9_look_54 : decode cX9_look 54 = .ok (.if_icmp .ne 11, 3) := by decide +kernel
theorem dX9_look_57 : decode cX9_look 57 = .ok (.aload_n 0, 1) := by decide +kernel
theorem dX9_look_58 : decode cX9_look 58 = .ok (.getfield 7, 3) := by decide +kernel
theorem dX9_look_61 : decode cX9_look 61 = .ok (.bipush 9, 2) := by decide +kernel
theorem dX9_look_63 : decode cX9_look 63 = .ok (.iaload, 1) := by decide +kernel
theorem dX9_look_64 : decode cX9_look 64 = .ok (.ireturn, 1) := by decide +kernel
theorem dX9_look_65 : decode cX9_look 65 = .ok (.iload_n 1, 1) := by decide +kernel
theorem dX9_look_66 : decode cX9_look 66 = .ok (.bipush 11, 2) := by decide +kernel
theorem dX9_look_68 : decode cX9_look 68 = .ok (.if_icmp .ne 12, 3) := by decide +kernel
theorem dX9_look_71 : decode cX9_look 71 = .ok (.aload_n 0, 1) := by decide +kernel
theorem dX9_look_72 : decode cX9_look 72 = .ok (.getfield 16, 3) := by decide +kernel
theorem dX9_look_75 : decode cX9_look 75 = .ok (.bipush 12, 2) := by decide +kernel
theorem dX9_look_77 : decode cX9_look 77 = .ok (.laload, 1) := by decide +kernel
theorem dX9_look_78 : decode cX9_look 78 = .ok (.l2i, 1) := by decide +kernel
theorem dX9_look_79 : decode cX9_look 79 = .ok (.ireturn, 1) := by decide +kernel
theorem dX9_look_80 : decode cX9_look 80 = .ok (.iload_n 1, 1) := by decide +kernel
theorem dX9_look_81 : decode cX9_look 81 = .ok (.bipush 12, 2) := by decide +kernel
theorem dX9_look_83 : decode cX9_look 83 = .ok (.if_icmp .ne 8, 3) := by decide +kernel
theorem dX9_look_86 : decode cX9_look 86 = .ok (.aload_n 0, 1) := by decide +kernel
theorem dX9_look_87 : decode cX9_look 87 = .ok (.invokevirtual 432, 3) := by decide +kernel
theorem dX9_look_90 : decode cX9_look 90 = .ok (.ireturn, 1) := by decide +kernel
theorem dX9_look_91 : decode cX9_look 91 = .ok (.iload_n 1, 1) := by decide +kernel
theorem dX9_look_92 : decode cX9_look 92 = .ok (.bipush 13, 2) := by decide +kernel
theorem dX9_look_94 : decode cX9_look 94 = .ok (.if_icmp .ne 8, 3) := by decide +kernel
theorem dX9_look_97 : decode cX9_look 97 = .ok (.aload_n 0, 1) := by decide +kernel
theorem dX9_look_98 : decode cX9_look 98 = .ok (.getfield 407, 3) := by decide +kernel
theorem dX9_look_101 : decode cX9_look 101 = .ok (.ireturn, 1) := by decide +kernel
theorem dX9_look_102 : decode cX9_look 102 = .ok (.iload_n 1, 1) := by decide +kernel
theorem dX9_look_103 : decode cX9_look 103 = .ok (.bipush 14, 2) := by decide +kernel
theorem dX9_look_105 : decode cX9_look 105 = .ok (.if_icmp .ne 11, 3) := by decide +kernel
theorem dX9_look_108 : decode cX9_look 108 = .ok (.aload_n 0, 1) := by decide +kernel
theorem dX9_look_109 : decode cX9_look 109 = .ok (.getfield 7, 3) := by decide +kernel
theorem dX9_look_112 : decode cX9_look 112 = .ok (.bipush 10, 2) := by decide +kernel
theorem dX9_look_114 : decode cX9_look 114 = .ok (.iaload, 1) := by decide +kernel
theorem dX9_look_115 : decode cX9_look 115 = .ok (.ireturn, 1) := by decide +kernel
theorem dX9_look_116 : decode cX9_look 116 = .ok (.iload_n 1, 1) := by decide +kernel
theorem dX9_look_117 : decode cX9_look 117 = .ok (.bipush 15, 2) := by decide +kernel
theorem dX9_look_119 : decode cX9_look 119 = .ok (.if_icmp .ne 10, 3) := by decide +kernel
theorem dX9_look_122 : decode cX9_look 122 = .ok (.aload_n 0, 1) := by decide +kernel
theorem dX9_look_123 : decode cX9_look 123 = .ok (.iconst (-1), 1) := by decide +kernel
theorem dX9_look_124 : decode cX9_look 124 = .ok (.iconst 0, 1) := by decide +kernel
theorem dX9_look_125 : decode cX9_look 125 = .ok (.invokevirtual 341, 3) := by decide +kernel
theorem dX9_look_128 : decode cX9_look 128 = .ok (.ireturn, 1) := by decide +kernel
theorem dX9_look_129 : decode cX9_look 129 = .ok (.iload_n 1, 1) := by decide +kernel
theorem dX9_look_130 : decode cX9_look 130 = .ok (.bipush 16, 2) := by decide +kernel
theorem dX9_look_132 : decode cX9_look 132 = .ok (.if_icmp .ne 8, 3) := by decide +kernel
theorem dX9_look_135 : decode cX9_look 135 = .ok (.aload_n 0, 1) := by decide +kernel
theorem dX9_look_136 : decode cX9_look 136 = .ok (.invokevirtual 435, 3) := by decide +kernel
theorem dX9_look_139 : decode cX9_look 139 = .ok (.ireturn, 1) := by decide +kernel
theorem dX9_look_140 : decode cX9_look 140 = .ok (.iload_n 1, 1) := by decide +kernel
theorem dX9_look_141 : decode cX9_look 141 = .ok (.bipush 17, 2) := by decide +kernel
theorem dX9_look_143 : decode cX9_look 143 = .ok (.if_icmp .ne 20, 3) := by decide +kernel
theorem dX9_look_146 : decode cX9_look 146 = .ok (.aload_n 0, 1) := by decide +kernel
theorem dX9_look_147 : decode cX9_look 147 = .ok (.getfield 7, 3) := by decide +kernel
theorem dX9_look_150 : decode cX9_look 150 = .ok (.bipush 11, 2) := by decide +kernel
theorem dX9_look_152 : decode cX9_look 152 = .ok (.iaload, 1) := by decide +kernel
theorem dX9_look_153 : decode cX9_look 153 = .ok (.iconst 1, 1) := by decide +kernel
theorem dX9_look_154 : decode cX9_look 154 = .ok (.aload_n 0, 1) := by decide +kernel
theorem dX9_look_155 : decode cX9_look 155 = .ok (.invokevirtual 61, 3) := by decide +kernel
theorem dX9_look_158 : decode cX9_look 158 = .ok (.ishl, 1) := by decide +kernel
theorem dX9_look_159 : decode cX9_look 159 = .ok (.iconst 1, 1) := by decide +kernel
theorem dX9_look_160 : decode cX9_look 160 = .ok (.isub, 1) := by decide +kernel
theorem dX9_look_161 : decode cX9_look 161 = .ok (.iand, 1) := by decide +kernel
theorem dX9_look_162 : decode cX9_look 162 = .ok (.ireturn, 1) := by decide +kernel
theorem dX9_look_163 : decode cX9_look 163 = .ok (.iload_n 1, 1) := by decide +kernel
theorem dX9_look_164 : decode cX9_look 164 = .ok (.bipush 18, 2) := by decide +kernel
theorem dX9_look_166 : decode cX9_look 166 = .ok (.if_icmp .ne 8, 3) := by decide +kernel
theorem dX9_look_169 : decode cX9_look 169 = .ok (.aload_n 0, 1) := by decide +kernel
theorem dX9_look_170 : decode cX9_look 170 = .ok (.invokevirtual 438, 3) := by decide +kernel
theorem dX9_look_173 : decode cX9_look 173 = .ok (.ireturn, 1) := by decide +kernel
theorem dX9_look_174 : decode cX9_look 174 = .ok (.iload_n 1, 1) := by decide +kernel
theorem dX9_look_175 : decode cX9_look 175 = .ok (.bipush 19, 2) := by decide +kernel
theorem dX9_look_177 : decode cX9_look 177 = .ok (.if_icmp .ne 13, 3) := by decide +kernel
theorem dX9_look_180 : decode cX9_look 180 = .ok (.aload_n 0, 1) := by decide +kernel
theorem dX9_look_181 : decode cX9_look 181 = .ok (.getfield 7, 3) := by decide +kernel
theorem dX9_look_184 : decode cX9_look 184 = .ok (.bipush 12, 2) := by decide +kernel
theorem dX9_look_186 : decode cX9_look 186 = .ok (.iaload, 1) := by decide +kernel
theorem dX9_look_187 : decode cX9_look 187 = .ok (.goto 6, 3) := by decide +kernel
theorem dX9_look_190 : decode cX9_look 190 = .ok (.ldc_w 330, 3) := by decide +kernel
theorem dX9_look_193 : decode cX9_look 193 = .ok (.ireturn, 1) := by decide +kernel
theorem dX9_lot_0 : decode cX9_lot 0 = .ok (.aload_n 0, 1) := by decide +kernel
theorem dX9_lot_1 : decode cX9_lot 1 = .ok (.iconst 0, 1) := by decide +kernel
theorem dX9_lot_2 : decode cX9_lot 2 = .ok (.putfield 58, 3) := by decide +kernel
theorem dX9_lot_5 : decode cX9_lot 5 = .ok (.aload_n 0, 1) := by decide +kernel
theorem dX9_lot_6 : decode cX9_lot 6 = .ok (.iload_n 1, 1) := by decide +kernel
theorem dX9_lot_7 : decode cX9_lot 7 = .ok (.invokevirtual 90, 3) := by decide +kernel
theorem dX9_lot_10 : decode cX9_lot 10 = .ok (.ifCond .eq 39, 3) := by decide +kernel
theorem dX9_lot_13 : decode cX9_lot 13 = .ok (.aload_n 0, 1) := by decide +kernel
theorem dX9_lot_14 : decode cX9_lot 14 = .ok (.iload_n 2, 1) := by decide +kernel
theorem dX9_lot_15 : decode cX9_lot 15 = .ok (.invokevirtual 94, 3) := by decide +kernel
theorem dX9_lot_18 : decode cX9_lot 18 = .ok (.ifCond .eq 31, 3) := by decide +kernel
theorem dX9_lot_21 : decode cX9_lot 21 = .ok (.aload_n 0, 1) := by decide +kernel
theorem dX9_lot_22 : decode cX9_lot 22 = .ok (.iload_n 3, 1) := by decide +kernel
theorem dX9_lot_23 : decode cX9_lot 23 = .ok (.iconst 0, 1) := by decide +kernel
theorem dX9_lot_24 : decode cX9_lot 24 = .ok (.aload_n 0, 1) := by decide +kernel
theorem dX9_lot_25 : decode cX9_lot 25 = .ok (.iload_n 1, 1) := by decide +kernel
theorem dX9_lot_26 : decode cX9_lot 26 = .ok (.iload_n 2, 1) := by decide +kernel
theorem dX9_lot_27 : decode cX9_lot 27 = .ok (.invokevirtual 110, 3) := by decide +kernel
theorem dX9_lot_30 : decode cX9_lot 30 = .ok (.iconst 1, 1) := by decide +kernel
theorem dX9_lot_31 : decode cX9_lot 31 = .ok (.isub, 1) := by decide +kernel
theorem dX9_lot_32 : decode cX9_lot 32 = .ok (.invokevirtual 79, 3) := by decide +kernel
theorem dX9_lot_35 : decode cX9_lot 35 = .ok (.ifCond .eq 14, 3) := by decide +kernel
theorem dX9_lot_38 : decode cX9_lot 38 = .ok (.aload_n 0, 1) := by decide +kernel
theorem dX9_lot_39 : decode cX9_lot 39 = .ok (.iload 4, 2) := by decide +kernel
theorem dX9_lot_41 : decode cX9_lot 41 = .ok (.iconst 0, 1) := by decide +kernel
theorem dX9_lot_42 : decode cX9_lot 42 = .ok (.iconst 1, 1) := by decide +kernel
theorem dX9_lot_43 : decode cX9_lot 43 = .ok (.invokevirtual 79, 3) := by decide +kernel
theorem dX9_lot_46 : decode cX9_lot 46 = .ok (.ifCond .ne 5, 3) := by decide +kernel
theorem dX9_lot_49 : decode cX9_lot 49 = .ok (.iconst (-1), 1) := by decide +kernel
theorem dX9_lot_50 : decode cX9_lot 50 = .ok (.ireturn, 1) := by decide +kernel
theorem dX9_lot_51 : decode cX9_lot 51 = .ok (.iload 4, 2) := by decide +kernel
theorem dX9_lot_53 : decode cX9_lot 53 = .ok (.ifCond .ne 13, 3) := by decide +kernel
theorem dX9_lot_56 : decode cX9_lot 56 = .ok (.aload_n 0, 1) := by decide +kernel
theorem dX9_lot_57 : decode cX9_lot 57 = .ok (.iload_n 1, 1) := by decide +kernel
theorem dX9_lot_58 : decode cX9_lot 58 = .ok (.iload_n 2, 1) := by decide +kernel
theorem dX9_lot_59 : decode cX9_lot 59 = .ok (.iload_n 3, 1) := by decide +kernel
theorem dX9_lot_60 : decode cX9_lot 60 = .ok (.invokevirtual 125, 3) := by decide +kernel
theorem dX9_lot_63 : decode cX9_lot 63 = .ok (.goto 10, 3) := by decide +kernel
theorem dX9_lot_66 : decode cX9_lot 66 = .ok (.aload_n 0, 1) := by decide +kernel
theorem dX9_lot_67 : decode cX9_lot 67 = .ok (.iload_n 1, 1) := by decide +kernel
theorem dX9_lot_68 : decode cX9_lot 68 = .ok (.iload_n 2, 1) := by decide +kernel
theorem dX9_lot_69 : decode cX9_lot 69 = .ok (.iload_n 3, 1) := by decide +kernel
theorem dX9_lot_70 : decode cX9_lot 70 = .ok (.invokevirtual 113, 3) := by decide +kernel
theorem dX9_lot_73 : decode cX9_lot 73 = .ok (.ireturn, 1) := by decide +kernel
theorem dX9_lotAt_0 : decode cX9_lotAt 0 = .ok (.bipush 102, 2) := by decide +kernel
theorem dX9_lotAt_2 : decode cX9_lotAt 2 = .ok (.aload_n 0, 1) := by decide +kernel
theorem dX9_lotAt_3 : decode cX9_lotAt 3 = .ok (.iload_n 1, 1) := by decide +kernel
theorem dX9_lotAt_4 : decode cX9_lotAt 4 = .ok (.iload_n 2, 1) := by decide +kernel
theorem dX9_lotAt_5 : decode cX9_lotAt 5 = .ok (.invokevirtual 65, 3) := by decide +kernel
theorem dX9_lotAt_8 : decode cX9_lotAt 8 = .ok (.imul, 1) := by decide +kernel
theorem dX9_lotAt_9 : decode cX9_lotAt 9 = .ok (.iload_n 3, 1) := by decide +kernel
theorem dX9_lotAt_10 : decode cX9_lotAt 10 = .ok (.iadd, 1) := by decide +kernel
theorem dX9_lotAt_11 : decode cX9_lotAt 11 = .ok (.ireturn, 1) := by decide +kernel
theorem dX9_lotMany_0 : decode cX9_lotMany 0 = .ok (.aload_n 0, 1) := by decide +kernel
theorem dX9_lotMany_1 : decode cX9_lotMany 1 = .ok (.getfield 7, 3) := by decide +kernel
theorem dX9_lotMany_4 : decode cX9_lotMany 4 = .ok (.sipush 348, 3) := by decide +kernel
theorem dX9_lotMany_7 : decode cX9_lotMany 7 = .ok (.aload_n 0, 1) := by decide +kernel
theorem dX9_lotMany_8 : decode cX9_lotMany 8 = .ok (.iload_n 1, 1) := by decide +kernel
theorem dX9_lotMany_9 : decode cX9_lotMany 9 = .ok (.iload_n 2, 1) := by decide +kernel
theorem dX9_lotMany_10 : decode cX9_lotMany 10 = .ok (.invokevirtual 65, 3) := by decide +kernel
theorem dX9_lotMany_13 : decode cX9_lotMany 13 = .ok (.iadd, 1) := by decide +kernel
theorem dX9_lotMany_14 : decode cX9_lotMany 14 = .ok (.iaload, 1) := by decide +kernel
theorem dX9_lotMany_15 : decode cX9_lotMany 15 = .ok (.ireturn, 1) := by decide +kernel
theorem dX9_lotOfDay_0 : decode cX9_lotOfDay 0 = .ok (.iconst 0, 1) := by decide +kernel
theorem dX9_lotOfDay_1 : decode cX9_lotOfDay 1 = .ok (.istore 4, 2) := by decide +kernel
theorem dX9_lotOfDay_3 : decode cX9_lotOfDay 3 = .ok (.iload 4, 2) := by decide +kernel
theorem dX9_lotOfDay_5 : decode cX9_lotOfDay 5 = .ok (.aload_n 0, 1) := by decide +kernel
theorem dX9_lotOfDay_6 : decode cX9_lotOfDay 6 = .ok (.iload_n 1, 1) := by decide +kernel
theorem dX9_lotOfDay_7 : decode cX9_lotOfDay 7 = .ok (.iload_n 2, 1) := by decide +kernel
theorem dX9_lotOfDay_8 : decode cX9_lotOfDay 8 = .ok (.invokevirtual 110, 3) := by decide +kernel
theorem dX9_lotOfDay_11 : decode cX9_lotOfDay 11 = .ok (.if_icmp .ge 33, 3) := by decide +kernel
theorem dX9_lotOfDay_14 : decode cX9_lotOfDay 14 = .ok (.aload_n 0, 1) := by decide +kernel
theorem dX9_lotOfDay_15 : decode cX9_lotOfDay 15 = .ok (.iload_n 1, 1) := by decide +kernel
theorem dX9_lotOfDay_16 : decode cX9_lotOfDay 16 = .ok (.iload_n 2, 1) := by decide +kernel
theorem dX9_lotOfDay_17 : decode cX9_lotOfDay 17 = .ok (.invokevirtual 122, 3) := by decide +kernel
theorem dX9_lotOfDay_20 : decode cX9_lotOfDay 20 = .ok (.ifCond .eq 24, 3) := by decide +kernel
theorem dX9_lotOfDay_23 : decode cX9_lotOfDay 23 = .ok (.aload_n 0, 1) := by decide +kernel
theorem dX9_lotOfDay_24 : decode cX9_lotOfDay 24 = .ok (.iload_n 1, 1) := by decide +kernel
theorem dX9_lotOfDay_25 : decode cX9_lotOfDay 25 = .ok (.iload_n 2, 1) := by decide +kernel
theorem dX9_lotOfDay_26 : decode cX9_lotOfDay 26 = .ok (.iload 4, 2) := by decide +kernel
theorem dX9_lotOfDay_28 : decode cX9_lotOfDay 28 = .ok (.invokevirtual 125, 3) := by decide +kernel
theorem dX9_lotOfDay_31 : decode cX9_lotOfDay 31 = .ok (.iload_n 3, 1) := by decide +kernel
theorem dX9_lotOfDay_32 : decode cX9_lotOfDay 32 = .ok (.if_icmp .ne 6, 3) := by decide +kernel
theorem dX9_lotOfDay_35 : decode cX9_lotOfDay 35 = .ok (.iload 4, 2) := by decide +kernel
theorem dX9_lotOfDay_37 : decode cX9_lotOfDay 37 = .ok (.ireturn, 1) := by decide +kernel
theorem dX9_lotOfDay_38 : decode cX9_lotOfDay 38 = .ok (.iinc 4 1, 3) := by decide +kernel
theorem dX9_lotOfDay_41 : decode cX9_lotOfDay 41 = .ok (.goto (-38), 3) := by decide +kernel
theorem dX9_lotOfDay_44 : decode cX9_lotOfDay 44 = .ok (.iconst (-1), 1) := by decide +kernel
theorem dX9_lotOfDay_45 : decode cX9_lotOfDay 45 = .ok (.ireturn, 1) := by decide +kernel
theorem dX9_lowOf_0 : decode cX9_lowOf 0 = .ok (.iload_n 1, 1) := by decide +kernel
theorem dX9_lowOf_1 : decode cX9_lowOf 1 = .ok (.iconst 2, 1) := by decide +kernel
theorem dX9_lowOf_2 : decode cX9_lowOf 2 = .ok (.if_icmp .ge 14, 3) := by decide +kernel
theorem dX9_lowOf_5 : decode cX9_lowOf 5 = .ok (.iload_n 2, 1) := by decide +kernel
theorem dX9_lowOf_6 : decode cX9_lowOf 6 = .ok (.iconst 3, 1) := by decide +kernel
theorem dX9_lowOf_7 : decode cX9_lowOf 7 = .ok (.if_icmp .ge 7, 3) := by decide +kernel
theorem dX9_lowOf_10 : decode cX9_lowOf 10 = .ok (.iconst 0, 1) := by decide +kernel
theorem dX9_lowOf_11 : decode cX9_lowOf 11 = .ok (.goto 4, 3) := by decide +kernel
theorem dX9_lowOf_14 : decode cX9_lowOf 14 = .ok (.iconst 1, 1) := by decide +kernel
theorem dX9_lowOf_15 : decode cX9_lowOf 15 = .ok (.ireturn, 1) := by decide +kernel
theorem dX9_lowOf_16 : decode cX9_lowOf 16 = .ok (.iload_n 1, 1) := by decide +kernel
theorem dX9_lowOf_17 : decode cX9_lowOf 17 = .ok (.bipush 6, 2) := by decide +kernel
theorem dX9_lowOf_19 : decode cX9_lowOf 19 = .ok (.if_icmp .ne 5, 3) := by decide +kernel
theorem dX9_lowOf_22 : decode cX9_lowOf 22 = .ok (.iload_n 2, 1) := by decide +kernel
theorem dX9_lowOf_23 : decode cX9_lowOf 23 = .ok (.ireturn, 1) := by decide +kernel
theorem dX9_lowOf_24 : decode cX9_lowOf 24 = .ok (.iload_n 1, 1) := by decide +kernel
theorem dX9_lowOf_25 : decode cX9_lowOf 25 = .ok (.bipush 7, 2) := by decide +kernel
theorem dX9_lowOf_27 : decode cX9_lowOf 27 = .ok (.if_icmp .ne 14, 3) := by decide +kernel
theorem dX9_lowOf_30 : decode cX9_lowOf 30 = .ok (.iload_n 2, 1) := by decide +kernel
theorem dX9_lowOf_31 : decode cX9_lowOf 31 = .ok (.iconst 2, 1) := by decide +kernel
theorem dX9_lowOf_32 : decode cX9_lowOf 32 = .ok (.if_icmp .ge 7, 3) := by decide +kernel
theorem dX9_lowOf_35 : decode cX9_lowOf 35 = .ok (.iconst 0, 1) := by decide +kernel
theorem dX9_lowOf_36 : decode cX9_lowOf 36 = .ok (.goto 4, 3) := by decide +kernel
theorem dX9_lowOf_39 : decode cX9_lowOf 39 = .ok (.iconst 1, 1) := by decide +kernel
theorem dX9_lowOf_40 : decode cX9_lowOf 40 = .ok (.ireturn, 1) := by decide +kernel
theorem dX9_lowOf_41 : decode cX9_lowOf 41 = .ok (.iload_n 1, 1) := by decide +kernel
theorem dX9_lowOf_42 : decode cX9_lowOf 42 = .ok (.bipush 8, 2) := by decide +kernel
theorem dX9_lowOf_44 : decode cX9_lowOf 44 = .ok (.if_icmp .le 7, 3) := by decide +kernel
theorem dX9_lowOf_47 : decode cX9_lowOf 47 = .ok (.iconst 1, 1) := by decide +kernel
theorem dX9_lowOf_48 : decode cX9_lowOf 48 = .ok (.goto 4, 3) := by decide +kernel
theorem dX9_lowOf_51 : decode cX9_lowOf 51 = .ok (.iconst 0, 1) := by decide +kernel
theorem dX9_lowOf_52 : decode cX9_lowOf 52 = .ok (.ireturn, 1) := by decide +kernel
theorem dX9_manyOf_0 : decode cX9_manyOf 0 = .ok (.iload_n 1, 1) := by decide +kernel
theorem dX9_manyOf_1 : decode cX9_manyOf 1 = .ok (.iconst 2, 1) := by decide +kernel
theorem dX9_manyOf_2 : decode cX9_manyOf 2 = .ok (.if_icmp .ge 7, 3) := by decide +kernel
theorem dX9_manyOf_5 : decode cX9_manyOf 5 = .ok (.iconst 5, 1) := by decide +kernel
theorem dX9_manyOf_6 : decode cX9_manyOf 6 = .ok (.goto 29, 3) := by decide +kernel
theorem dX9_manyOf_9 : decode cX9_manyOf 9 = .ok (.iload_n 1, 1) := by decide +kernel
theorem dX9_manyOf_10 : decode cX9_manyOf 10 = .ok (.iconst 4, 1) := by decide +kernel
theorem dX9_manyOf_11 : decode cX9_manyOf 11 = .ok (.if_icmp .le 9, 3) := by decide +kernel
theorem dX9_manyOf_14 : decode cX9_manyOf 14 = .ok (.iload_n 1, 1) := by decide +kernel
theorem dX9_manyOf_15 : decode cX9_manyOf 15 = .ok (.bipush 7, 2) := by decide +kernel
theorem dX9_manyOf_17 : decode cX9_manyOf 17 = .ok (.if_icmp .ne 7, 3) := by decide +kernel
theorem dX9_manyOf_20 : decode cX9_manyOf 20 = .ok (.iconst 3, 1) := by decide +kernel
theorem dX9_manyOf_21 : decode cX9_manyOf 21 = .ok (.goto 14, 3) := by decide +kernel
theorem dX9_manyOf_24 : decode cX9_manyOf 24 = .ok (.iload_n 1, 1) := by decide +kernel
theorem dX9_manyOf_25 : decode cX9_manyOf 25 = .ok (.bipush 6, 2) := by decide +kernel
theorem dX9_manyOf_27 : decode cX9_manyOf 27 = .ok (.if_icmp .gt 7, 3) := by decide +kernel
theorem dX9_manyOf_30 : decode cX9_manyOf 30 = .ok (.iconst 2, 1) := by decide +kernel
theorem dX9_manyOf_31 : decode cX9_manyOf 31 = .ok (.goto 4, 3) := by decide +kernel
theorem dX9_manyOf_34 : decode cX9_manyOf 34 = .ok (.iconst 1, 1) := by decide +kernel
theorem dX9_manyOf_35 : decode cX9_manyOf 35 = .ok (.ireturn, 1) := by decide +kernel
theorem dX9_margin_0 : decode cX9_margin 0 = .ok (.aload_n 0, 1) := by decide +kernel
theorem dX9_margin_1 : decode cX9_margin 1 = .ok (.iconst 0, 1) := by decide +kernel
theorem dX9_margin_2 : decode cX9_margin 2 = .ok (.putfield 58, 3) := by decide +kernel
theorem dX9_margin_5 : decode cX9_margin 5 = .ok (.aload_n 0, 1) := by decide +kernel
theorem dX9_margin_6 : decode cX9_margin 6 = .ok (.iload_n 1, 1) := by decide +kernel
theorem dX9_margin_7 : decode cX9_margin 7 = .ok (.invokevirtual 90, 3) := by decide +kernel
theorem dX9_margin_10 : decode cX9_margin 10 = .ok (.ifCond .eq 13, 3) := by decide +kernel
theorem dX9_margin_13 : decode cX9_margin 13 = .ok (.aload_n 0, 1) := by decide +kernel
theorem dX9_margin_14 : decode cX9_margin 14 = .ok (.iload_n 2, 1) := by decide +kernel
theorem dX9_margin_15 : decode cX9_margin 15 = .ok (.iconst 0, 1) := by decide +kernel
theorem dX9_margin_16 : decode cX9_margin 16 = .ok (.iconst 2, 1) := by decide +kernel
theorem dX9_margin_17 : decode cX9_margin 17 = .ok (.invokevirtual 79, 3) := by decide +kernel
theorem dX9_margin_20 : decode cX9_margin 20 = .ok (.ifCond .ne 7, 3) := by decide +kernel
theorem dX9_margin_23 : decode cX9_margin 23 = .ok (.ldc2_w 322, 3) := by decide +kernel
theorem dX9_margin_26 : decode cX9_margin 26 = .ok (.lreturn, 1) := by decide +kernel
theorem dX9_margin_27 : decode cX9_margin 27 = .ok (.iload_n 2, 1) := by decide +kernel
theorem dX9_margin_28 : decode cX9_margin 28 = .ok (.ifCond .ne 11, 3) := by decide +kernel
theorem dX9_margin_31 : decode cX9_margin 31 = .ok (.aload_n 0, 1) := by decide +kernel
theorem dX9_margin_32 : decode cX9_margin 32 = .ok (.iload_n 1, 1) := by decide +kernel
theorem dX9_margin_33 : decode cX9_margin 33 = .ok (.invokevirtual 318, 3) := by decide +kernel
theorem dX9_margin_36 : decode cX9_margin 36 = .ok (.goto 26, 3) := by decide +kernel
theorem dX9_margin_39 : decode cX9_margin 39 = .ok (.iload_n 2, 1) := by decide +kernel
theorem dX9_margin_40 : decode cX9_margin 40 = .ok (.iconst 1, 1) := by decide +kernel
theorem dX9_margin_41 : decode cX9_margin 41 = .ok (.if_icmp .ne 16, 3) := by decide +kernel
theorem dX9_margin_44 : decode cX9_margin 44 = .ok (.aload_n 0, 1) := by decide +kernel
theorem dX9_margin_45 : decode cX9_margin 45 = .ok (.getfield 7, 3) := by decide +kernel
theorem dX9_margin_48 : decode cX9_margin 48 = .ok (.bipush 46, 2) := by decide +kernel
theorem dX9_margin_50 : decode cX9_margin 50 = .ok (.iload_n 1, 1) := by decide +kernel
theorem dX9_margin_51 : decode cX9_margin 51 = .ok (.iadd, 1) := by decide +kernel
theorem dX9_margin_52 : decode cX9_margin 52 = .ok (.iaload, 1) := by decide +kernel
theorem dX9_margin_53 : decode cX9_margin 53 = .ok (.i2l, 1) := by decide +kernel
theorem dX9_margin_54 : decode cX9_margin 54 = .ok (.goto 8, 3) := by decide +kernel
theorem dX9_margin_57 : decode cX9_margin 57 = .ok (.aload_n 0, 1) := by decide +kernel
theorem dX9_margin_58 : decode cX9_margin 58 = .ok (.iload_n 1, 1) := by decide +kernel
theorem dX9_margin_59 : decode cX9_margin 59 = .ok (.invokevirtual 324, 3) := by decide +kernel
theorem dX9_margin_62 : decode cX9_margin 62 = .ok (.lreturn, 1) := by decide +kernel
theorem dX9_markedOf_0 : decode cX9_markedOf 0 = .ok (.aload_n 0, 1) := by decide +kernel
theorem dX9_markedOf_1 : decode cX9_markedOf 1 = .ok (.getfield 7, 3) := by decide +kernel
theorem dX9_markedOf_4 : decode cX9_markedOf 4 = .ok (.bipush 22, 2) := by decide +kernel
theorem dX9_markedOf_6 : decode cX9_markedOf 6 = .ok (.iload_n 1, 1) := by decide +kernel
theorem dX9_markedOf_7 : decode cX9_markedOf 7 = .ok (.iadd, 1) := by decide +kernel
theorem dX9_markedOf_8 : decode cX9_markedOf 8 = .ok (.iaload, 1) := by decide +kernel
theorem dX9_markedOf_9 : decode cX9_markedOf 9 = .ok (.bipush 100, 2) := by decide +kernel
theorem dX9_markedOf_11 : decode cX9_markedOf 11 = .ok (.iadd, 1) := by decide +kernel
theorem dX9_markedOf_12 : decode cX9_markedOf 12 = .ok (.ireturn, 1) := by decide +kernel
theorem dX9_marks_0 : decode cX9_marks 0 = .ok (.iconst 0, 1) := by decide +kernel
theorem dX9_marks_1 : decode cX9_marks 1 = .ok (.istore_n 2, 1) := by decide +kernel
theorem dX9_marks_2 : decode cX9_marks 2 = .ok (.iload_n 2, 1) := by decide +kernel
theorem dX9_marks_3 : decode cX9_marks 3 = .ok (.aload_n 0, 1) := by decide +kernel
theorem dX9_marks_4 : decode cX9_marks 4 = .ok (.invokevirtual 61, 3) := by decide +kernel
theorem dX9_marks_7 : decode cX9_marks 7 = .ok (.if_icmp .ge 34, 3) := by decide +kernel
theorem dX9_marks_10 : decode cX9_marks 10 = .ok (.aload_n 0, 1) := by decide +kernel
theorem dX9_marks_11 : decode cX9_marks 11 = .ok (.iload_n 2, 1) := by decide +kernel
theorem dX9_marks_12 : decode cX9_marks 12 = .ok (.aload_n 0, 1) := by decide +kernel
theorem dX9_marks_13 : decode cX9_marks 13 = .ok (.iload_n 2, 1) := by decide +kernel
theorem dX9_marks_14 : decode cX9_marks 14 = .ok (.iload_n 1, 1) := by decide +kernel
theorem dX9_marks_15 : decode cX9_marks 15 = .ok (.invokevirtual 119, 3) := by decide +kernel
theorem dX9_marks_18 : decode cX9_marks 18 = .ok (.i2l, 1) := by decide +kernel
theorem dX9_marks_19 : decode cX9_marks 19 = .ok (.aload_n 0, 1) := by decide +kernel
theorem dX9_marks_20 : decode cX9_marks 20 = .ok (.iload_n 1, 1) := by decide +kernel
theorem dX9_marks_21 : decode cX9_marks 21 = .ok (.invokevirtual 197, 3) := by decide +kernel
theorem dX9_marks_24 : decode cX9_marks 24 = .ok (.aload_n 0, 1) := by decide +kernel
theorem dX9_marks_25 : decode cX9_marks 25 = .ok (.iload_n 1, 1) := by decide +kernel
theorem dX9_marks_26 : decode cX9_marks 26 = .ok (.invokevirtual 203, 3) := by decide +kernel
theorem dX9_marks_29 : decode cX9_marks 29 = .ok (.isub, 1) := by decide +kernel
theorem dX9_marks_30 : decode cX9_marks 30 = .ok (.i2l, 1) := by decide +kernel
theorem dX9_marks_31 : decode cX9_marks 31 = .ok (.lmul, 1) := by decide +kernel
theorem dX9_marks_32 : decode cX9_marks 32 = .ok (.invokevirtual 206, 3) := by decide +kernel
theorem dX9_marks_35 : decode cX9_marks 35 = .ok (.iinc 2 1, 3) := by decide +kernel
theorem dX9_marks_38 : decode cX9_marks 38 = .ok (.goto (-36), 3) := by decide +kernel
theorem dX9_marks_41 : decode cX9_marks 41 = .ok (.aload_n 0, 1) := by decide +kernel
theorem dX9_marks_42 : decode cX9_marks 42 = .ok (.getfield 7, 3) := by decide +kernel
theorem dX9_marks_45 : decode cX9_marks 45 = .ok (.bipush 22, 2) := by decide +kernel
theorem dX9_marks_47 : decode cX9_marks 47 = .ok (.iload_n 1, 1) := by decide +kernel
theorem dX9_marks_48 : decode cX9_marks 48 = .ok (.iadd, 1) := by decide +kernel
theorem dX9_marks_49 : decode cX9_marks 49 = .ok (.aload_n 0, 1) := by decide +kernel
theorem dX9_marks_50 : decode cX9_marks 50 = .ok (.getfield 7, 3) := by decide +kernel
theorem dX9_marks_53 : decode cX9_marks 53 = .ok (.bipush 16, 2) := by decide +kernel
theorem dX9_marks_55 : decode cX9_marks 55 = .ok (.iload_n 1, 1) := by decide +kernel
theorem dX9_marks_56 : decode cX9_marks 56 = .ok (.iadd, 1) := by decide +kernel
theorem dX9_marks_57 : decode cX9_marks 57 = .ok (.iaload, 1) := by decide +kernel
theorem dX9_marks_58 : decode cX9_marks 58 = .ok (.iastore, 1) := by decide +kernel
theorem dX9_marks_59 : decode cX9_marks 59 = .ok (.aload_n 0, 1) := by decide +kernel
theorem dX9_marks_60 : decode cX9_marks 60 = .ok (.getfield 7, 3) := by decide +kernel
theorem dX9_marks_63 : decode cX9_marks 63 = .ok (.bipush 28, 2) := by decide +kernel
theorem dX9_marks_65 : decode cX9_marks 65 = .ok (.iload_n 1, 1) := by decide +kernel
theorem dX9_marks_66 : decode cX9_marks 66 = .ok (.iadd, 1) := by decide +kernel
theorem dX9_marks_67 : decode cX9_marks 67 = .ok (.iaload, 1) := by decide +kernel
theorem dX9_marks_68 : decode cX9_marks 68 = .ok (.istore_n 2, 1) := by decide +kernel
theorem dX9_marks_69 : decode cX9_marks 69 = .ok (.iconst 0, 1) := by decide +kernel
theorem dX9_marks_70 : decode cX9_marks 70 = .ok (.istore_n 3, 1) := by decide +kernel
theorem dX9_marks_71 : decode cX9_marks 71 = .ok (.iload_n 3, 1) := by decide +kernel
theorem dX9_marks_72 : decode cX9_marks 72 = .ok (.aload_n 0, 1) := by decide +kernel
theorem dX9_marks_73 : decode cX9_marks 73 = .ok (.invokevirtual 61, 3) := by decide +kernel
theorem dX9_marks_76 : decode cX9_marks 76 = .ok (.if_icmp .ge 56, 3) := by decide +kernel
theorem dX9_marks_79 : decode cX9_marks 79 = .ok (.aload_n 0, 1) := by decide +kernel
theorem dX9_marks_80 : decode cX9_marks 80 = .ok (.iload_n 3, 1) := by decide +kernel
theorem dX9_marks_81 : decode cX9_marks 81 = .ok (.iload_n 2, 1) := by decide +kernel
theorem dX9_marks_82 : decode cX9_marks 82 = .ok (.i2l, 1) := by decide +kernel
theorem dX9_marks_83 : decode cX9_marks 83 = .ok (.aload_n 0, 1) := by decide +kernel
theorem dX9_marks_84 : decode cX9_marks 84 = .ok (.iload_n 3, 1) := by decide +kernel
theorem dX9_marks_85 : decode cX9_marks 85 = .ok (.iload_n 1, 1) := by decide +kernel
theorem dX9_marks_86 : decode cX9_marks 86 = .ok (.invokevirtual 73, 3) := by decide +kernel
theorem dX9_marks_89 : decode cX9_marks 89 = .ok (.aload_n 0, 1) := by decide +kernel
theorem dX9_marks_90 : decode cX9_marks 90 = .ok (.iload_n 3, 1) := by decide +kernel
theorem dX9_marks_91 : decode cX9_marks 91 = .ok (.iload_n 1, 1) := by decide +kernel
theorem dX9_marks_92 : decode cX9_marks 92 = .ok (.invokevirtual 119, 3) := by decide +kernel
theorem dX9_marks_95 : decode cX9_marks 95 = .ok (.iadd, 1) := by decide +kernel
theorem dX9_marks_96 : decode cX9_marks 96 = .ok (.i2l, 1) := by decide +kernel
theorem dX9_marks_97 : decode cX9_marks 97 = .ok (.lmul, 1) := by decide +kernel
theorem dX9_marks_98 : decode cX9_marks 98 = .ok (.invokevirtual 206, 3) := by decide +kernel
theorem dX9_marks_101 : decode cX9_marks 101 = .ok (.aload_n 0, 1) := by decide +kernel
theorem dX9_marks_102 : decode cX9_marks 102 = .ok (.getfield 16, 3) := by decide +kernel
theorem dX9_marks_105 : decode cX9_marks 105 = .ok (.bipush 12, 2) := by decide +kernel
theorem dX9_marks_107 : decode cX9_marks 107 = .ok (.aload_n 0, 1) := by decide +kernel
theorem dX9_marks_108 : decode cX9_marks 108 = .ok (.getfield 16, 3) := by decide +kernel
theorem dX9_marks_111 : decode cX9_marks 111 = .ok (.bipush 12, 2) := by decide +kernel
theorem dX9_marks_113 : decode cX9_marks 113 = .ok (.laload, 1) := by decide +kernel
theorem dX9_marks_114 : decode cX9_marks 114 = .ok (.iload_n 2, 1) := by decide +kernel
theorem dX9_marks_115 : decode cX9_marks 115 = .ok (.i2l, 1) := by decide +kernel
theorem dX9_marks_116 : decode cX9_marks 116 = .ok (.aload_n 0, 1) := by decide +kernel
theorem dX9_marks_117 : decode cX9_marks 117 = .ok (.iload_n 3, 1) := by decide +kernel
theorem dX9_marks_118 : decode cX9_marks 118 = .ok (.iload_n 1, 1) := by decide +kernel
theorem dX9_marks_119 : decode cX9_marks 119 = .ok (.invokevirtual 73, 3) := by decide +kernel
theorem dX9_marks_122 : decode cX9_marks 122 = .ok (.i2l, 1) := by decide +kernel
theorem dX9_marks_123 : decode cX9_marks 123 = .ok (.lmul, 1) := by decide +kernel
theorem dX9_marks_124 : decode cX9_marks 124 = .ok (.lsub, 1) := by decide +kernel
theorem dX9_marks_125 : decode cX9_marks 125 = .ok (.lastore, 1) := by decide +kernel
theorem dX9_marks_126 : decode cX9_marks 126 = .ok (.iinc 3 1, 3) := by decide +kernel
theorem dX9_marks_129 : decode cX9_marks 129 = .ok (.goto (-58), 3) := by decide +kernel
theorem dX9_marks_132 : decode cX9_marks 132 = .ok (.aload_n 0, 1) := by decide +kernel
theorem dX9_marks_133 : decode cX9_marks 133 = .ok (.getfield 7, 3) := by decide +kernel
theorem dX9_marks_136 : decode cX9_marks 136 = .ok (.bipush 28, 2) := by decide +kernel
theorem dX9_marks_138 : decode cX9_marks 138 = .ok (.iload_n 1, 1) := by decide +kernel
theorem dX9_marks_139 : decode cX9_marks 139 = .ok (.iadd, 1) := by decide +kernel
theorem dX9_marks_140 : decode cX9_marks 140 = .ok (.iconst 0, 1) := by decide +kernel
theorem dX9_marks_141 : decode cX9_marks 141 = .ok (.iastore, 1) := by decide +kernel
theorem dX9_marks_142 : decode cX9_marks 142 = .ok (.iconst 0, 1) := by decide +kernel
theorem dX9_marks_143 : decode cX9_marks 143 = .ok (.istore_n 3, 1) := by decide +kernel
theorem dX9_marks_144 : decode cX9_marks 144 = .ok (.iload_n 3, 1) := by decide +kernel
theorem dX9_marks_145 : decode cX9_marks 145 = .ok (.aload_n 0, 1) := by decide +kernel
theorem dX9_marks_146 : decode cX9_marks 146 = .ok (.invokevirtual 61, 3) := by decide +kernel
theorem dX9_marks_149 : decode cX9_marks 149 = .ok (.if_icmp .ge 15, 3) := by decide +kernel
theorem dX9_marks_152 : decode cX9_marks 152 = .ok (.aload_n 0, 1) := by decide +kernel
theorem dX9_marks_153 : decode cX9_marks 153 = .ok (.iload_n 3, 1) := by decide +kernel
theorem dX9_marks_154 : decode cX9_marks 154 = .ok (.iload_n 1, 1) := by decide +kernel
theorem dX9_marks_155 : decode cX9_marks 155 = .ok (.invokevirtual 279, 3) := by decide +kernel
theorem dX9_marks_158 : decode cX9_marks 158 = .ok (.iinc 3 1, 3) := by decide +kernel
theorem dX9_marks_161 : decode cX9_marks 161 = .ok (.goto (-17), 3) := by decide +kernel
theorem dX9_marks_164 : decode cX9_marks 164 = .ok (.return_, 1) := by decide +kernel
theorem dX9_memberMany_0 : decode cX9_memberMany 0 = .ok (.aload_n 0, 1) := by decide +kernel
theorem dX9_memberMany_1 : decode cX9_memberMany 1 = .ok (.getfield 7, 3) := by decide +kernel
theorem dX9_memberMany_4 : decode cX9_memberMany 4 = .ok (.iconst 0, 1) := by decide +kernel
theorem dX9_memberMany_5 : decode cX9_memberMany 5 = .ok (.iaload, 1) := by decide +kernel
theorem dX9_memberMany_6 : decode cX9_memberMany 6 = .ok (.bipush 6, 2) := by decide +kernel
theorem dX9_memberMany_8 : decode cX9_memberMany 8 = .ok (.iadd, 1) := by decide +kernel
theorem dX9_memberMany_9 : decode cX9_memberMany 9 = .ok (.ireturn, 1) := by decide +kernel
theorem dX9_move_0 : decode cX9_move 0 = .ok (.aload_n 0, 1) := by decide +kernel
theorem dX9_move_1 : decode cX9_move 1 = .ok (.iconst 0, 1) := by decide +kernel
theorem dX9_move_2 : decode cX9_move 2 = .ok (.putfield 58, 3) := by decide +kernel
theorem dX9_move_5 : decode cX9_move 5 = .ok (.aload_n 0, 1) := by decide +kernel
theorem dX9_move_6 : decode cX9_move 6 = .ok (.iload_n 1, 1) := by decide +kernel
theorem dX9_move_7 : decode cX9_move 7 = .ok (.invokevirtual 90, 3) := by decide +kernel
theorem dX9_move_10 : decode cX9_move 10 = .ok (.ifCond .eq 41, 3) := by decide +kernel
theorem dX9_move_13 : decode cX9_move 13 = .ok (.aload_n 0, 1) := by decide +kernel
theorem dX9_move_14 : decode cX9_move 14 = .ok (.iload_n 2, 1) := by decide +kernel
theorem dX9_move_15 : decode cX9_move 15 = .ok (.invokevirtual 90, 3) := by decide +kernel
theorem dX9_move_18 : decode cX9_move 18 = .ok (.ifCond .eq 33, 3) := by decide +kernel
theorem dX9_move_21 : decode cX9_move 21 = .ok (.iload_n 1, 1) := by decide +kernel
theorem dX9_move_22 : decode cX9_move 22 = .ok (.iload_n 2, 1) := by decide +kernel
theorem dX9_move_23 : decode cX9_move 23 = .ok (.if_icmp .eq 28, 3) := by decide +kernel
theorem dX9_move_26 : decode cX9_move 26 = .ok (.aload_n 0, 1) := by decide +kernel
theorem dX9_move_27 : decode cX9_move 27 = .ok (.iload_n 3, 1) := by decide +kernel
theorem dX9_move_28 : decode cX9_move 28 = .ok (.invokevirtual 94, 3) := by decide +kernel
theorem dX9_move_31 : decode cX9_move 31 = .ok (.ifCond .eq 20, 3) := by decide +kernel
theorem dX9_move_34 : decode cX9_move 34 = .ok (.iload 4, 2) := by decide +kernel
theorem dX9_move_36 : decode cX9_move 36 = .ok (.iconst 1, 1) := by decide +kernel
theorem dX9_move_37 : decode cX9_move 37 = .ok (.if_icmp .lt 14, 3) := by decide +kernel
theorem dX9_move_40 : decode cX9_move 40 = .ok (.iload 4, 2) := by decide +kernel
theorem dX9_move_42 : decode cX9_move 42 = .ok (.aload_n 0, 1) := by decide +kernel
theorem dX9_move_43 : decode cX9_move 43 = .ok (.iload_n 1, 1) := by decide +kernel
theorem dX9_move_44 : decode cX9_move 44 = .ok (.iload_n 3, 1) := by decide +kernel
theorem dX9_move_45 : decode cX9_move 45 = .ok (.invokevirtual 98, 3) := by decide +kernel
theorem dX9_move_48 : decode cX9_move 48 = .ok (.if_icmp .le 5, 3) := by decide +kernel
theorem dX9_move_51 : decode cX9_move 51 = .ok (.iconst 0, 1) := by decide +kernel
theorem dX9_move_52 : decode cX9_move 52 = .ok (.ireturn, 1) := by decide +kernel
theorem dX9_move_53 : decode cX9_move 53 = .ok (.aload_n 0, 1) := by decide +kernel
theorem dX9_move_54 : decode cX9_move 54 = .ok (.iload_n 1, 1) := by decide +kernel
theorem dX9_move_55 : decode cX9_move 55 = .ok (.iload_n 3, 1) := by decide +kernel
theorem dX9_move_56 : decode cX9_move 56 = .ok (.iload 4, 2) := by decide +kernel
theorem dX9_move_58 : decode cX9_move 58 = .ok (.ineg, 1) := by decide +kernel
theorem dX9_move_59 : decode cX9_move 59 = .ok (.invokevirtual 101, 3) := by decide +kernel
theorem dX9_move_62 : decode cX9_move 62 = .ok (.aload_n 0, 1) := by decide +kernel
theorem dX9_move_63 : decode cX9_move 63 = .ok (.iload_n 2, 1) := by decide +kernel
theorem dX9_move_64 : decode cX9_move 64 = .ok (.iload_n 3, 1) := by decide +kernel
theorem dX9_move_65 : decode cX9_move 65 = .ok (.iload 4, 2) := by decide +kernel
theorem dX9_move_67 : decode cX9_move 67 = .ok (.invokevirtual 101, 3) := by decide +kernel
theorem dX9_move_70 : decode cX9_move 70 = .ok (.iconst 1, 1) := by decide +kernel
theorem dX9_move_71 : decode cX9_move 71 = .ok (.ireturn, 1) := by decide +kernel
theorem dX9_nets_0 : decode cX9_nets 0 = .ok (.iconst 0, 1) := by decide +kernel
theorem dX9_nets_1 : decode cX9_nets 1 = .ok (.istore_n 2, 1) := by decide +kernel
theorem dX9_nets_2 : decode cX9_nets 2 = .ok (.iload_n 2, 1) := by decide +kernel
theorem dX9_nets_3 : decode cX9_nets 3 = .ok (.aload_n 0, 1) := by decide +kernel
theorem dX9_nets_4 : decode cX9_nets 4 = .ok (.getfield 7, 3) := by decide +kernel
theorem dX9_nets_7 : decode cX9_nets 7 = .ok (.bipush 7, 2) := by decide +kernel
theorem dX9_nets_9 : decode cX9_nets 9 = .ok (.iaload, 1) := by decide +kernel
theorem dX9_nets_10 : decode cX9_nets 10 = .ok (.if_icmp .ge 126, 3) := by decide +kernel
theorem dX9_nets_13 : decode cX9_nets 13 = .ok (.aload_n 0, 1) := by decide +kernel
theorem dX9_nets_14 : decode cX9_nets 14 = .ok (.iload_n 2, 1) := by decide +kernel
theorem dX9_nets_15 : decode cX9_nets 15 = .ok (.iload_n 1, 1) := by decide +kernel
theorem dX9_nets_16 : decode cX9_nets 16 = .ok (.iconst 0, 1) := by decide +kernel
theorem dX9_nets_17 : decode cX9_nets 17 = .ok (.invokevirtual 217, 3) := by decide +kernel
theorem dX9_nets_20 : decode cX9_nets 20 = .ok (.ifCond .ne 6, 3) := by decide +kernel
theorem dX9_nets_23 : decode cX9_nets 23 = .ok (.goto 107, 3) := by decide +kernel
theorem dX9_nets_26 : decode cX9_nets 26 = .ok (.aload_n 0, 1) := by decide +kernel
theorem dX9_nets_27 : decode cX9_nets 27 = .ok (.iload_n 2, 1) := by decide +kernel
theorem dX9_nets_28 : decode cX9_nets 28 = .ok (.bipush 7, 2) := by decide +kernel
theorem dX9_nets_30 : decode cX9_nets 30 = .ok (.invokevirtual 151, 3) := by decide +kernel
theorem dX9_nets_33 : decode cX9_nets 33 = .ok (.istore_n 3, 1) := by decide +kernel
theorem dX9_nets_34 : decode cX9_nets 34 = .ok (.iload_n 3, 1) := by decide +kernel
theorem dX9_nets_35 : decode cX9_nets 35 = .ok (.i2l, 1) := by decide +kernel
theorem dX9_nets_36 : decode cX9_nets 36 = .ok (.aload_n 0, 1) := by decide +kernel
theorem dX9_nets_37 : decode cX9_nets 37 = .ok (.iload_n 2, 1) := by decide +kernel
theorem dX9_nets_38 : decode cX9_nets 38 = .ok (.iconst 4, 1) := by decide +kernel
theorem dX9_nets_39 : decode cX9_nets 39 = .ok (.invokevirtual 151, 3) := by decide +kernel
theorem dX9_nets_42 : decode cX9_nets 42 = .ok (.aload_n 0, 1) := by decide +kernel
theorem dX9_nets_43 : decode cX9_nets 43 = .ok (.iload_n 1, 1) := by decide +kernel
theorem dX9_nets_44 : decode cX9_nets 44 = .ok (.invokevirtual 203, 3) := by decide +kernel
theorem dX9_nets_47 : decode cX9_nets 47 = .ok (.isub, 1) := by decide +kernel
theorem dX9_nets_48 : decode cX9_nets 48 = .ok (.i2l, 1) := by decide +kernel
theorem dX9_nets_49 : decode cX9_nets 49 = .ok (.lmul, 1) := by decide +kernel
theorem dX9_nets_50 : decode cX9_nets 50 = .ok (.lstore 4, 2) := by decide +kernel
theorem dX9_nets_52 : decode cX9_nets 52 = .ok (.aload_n 0, 1) := by decide +kernel
theorem dX9_nets_53 : decode cX9_nets 53 = .ok (.aload_n 0, 1) := by decide +kernel
theorem dX9_nets_54 : decode cX9_nets 54 = .ok (.iload_n 2, 1) := by decide +kernel
theorem dX9_nets_55 : decode cX9_nets 55 = .ok (.iconst 0, 1) := by decide +kernel
theorem dX9_nets_56 : decode cX9_nets 56 = .ok (.invokevirtual 151, 3) := by decide +kernel
theorem dX9_nets_59 : decode cX9_nets 59 = .ok (.lload 4, 2) := by decide +kernel
theorem dX9_nets_61 : decode cX9_nets 61 = .ok (.lneg, 1) := by decide +kernel
theorem dX9_nets_62 : decode cX9_nets 62 = .ok (.invokevirtual 206, 3) := by decide +kernel
theorem dX9_nets_65 : decode cX9_nets 65 = .ok (.aload_n 0, 1) := by decide +kernel
theorem dX9_nets_66 : decode cX9_nets 66 = .ok (.aload_n 0, 1) := by decide +kernel
theorem dX9_nets_67 : decode cX9_nets 67 = .ok (.iload_n 2, 1) := by decide +kernel
theorem dX9_nets_68 : decode cX9_nets 68 = .ok (.iconst 1, 1) := by decide +kernel
theorem dX9_nets_69 : decode cX9_nets 69 = .ok (.invokevirtual 151, 3) := by decide +kernel
theorem dX9_nets_72 : decode cX9_nets 72 = .ok (.lload 4, 2) := by decide +kernel
theorem dX9_nets_74 : decode cX9_nets 74 = .ok (.invokevirtual 206, 3) := by decide +kernel
theorem dX9_nets_77 : decode cX9_nets 77 = .ok (.aload_n 0, 1) := by decide +kernel
theorem dX9_nets_78 : decode cX9_nets 78 = .ok (.aload_n 0, 1) := by decide +kernel
theorem dX9_nets_79 : decode cX9_nets 79 = .ok (.iload_n 2, 1) := by decide +kernel
theorem dX9_nets_80 : decode cX9_nets 80 = .ok (.iconst 0, 1) := by decide +kernel
theorem dX9_nets_81 : decode cX9_nets 81 = .ok (.invokevirtual 151, 3) := by decide +kernel
theorem dX9_nets_84 : decode cX9_nets 84 = .ok (.iload_n 1, 1) := by decide +kernel
theorem dX9_nets_85 : decode cX9_nets 85 = .ok (.iload_n 3, 1) := by decide +kernel
theorem dX9_nets_86 : decode cX9_nets 86 = .ok (.aload_n 0, 1) := by decide +kernel
theorem dX9_nets_87 : decode cX9_nets 87 = .ok (.getfield 7, 3) := by decide +kernel
theorem dX9_nets_90 : decode cX9_nets 90 = .ok (.bipush 6, 2) := by decide +kernel
theorem dX9_nets_92 : decode cX9_nets 92 = .ok (.iaload, 1) := by decide +kernel
theorem dX9_nets_93 : decode cX9_nets 93 = .ok (.invokevirtual 247, 3) := by decide +kernel
theorem dX9_nets_96 : decode cX9_nets 96 = .ok (.aload_n 0, 1) := by decide +kernel
theorem dX9_nets_97 : decode cX9_nets 97 = .ok (.aload_n 0, 1) := by decide +kernel
theorem dX9_nets_98 : decode cX9_nets 98 = .ok (.iload_n 2, 1) := by decide +kernel
theorem dX9_nets_99 : decode cX9_nets 99 = .ok (.iconst 1, 1) := by decide +kernel
theorem dX9_nets_100 : decode cX9_nets 100 = .ok (.invokevirtual 151, 3) := by decide +kernel
theorem dX9_nets_103 : decode cX9_nets 103 = .ok (.iload_n 1, 1) := by decide +kernel
theorem dX9_nets_104 : decode cX9_nets 104 = .ok (.iload_n 3, 1) := by decide +kernel
theorem dX9_nets_105 : decode cX9_nets 105 = .ok (.ineg, 1) := by decide +kernel
theorem dX9_nets_106 : decode cX9_nets 106 = .ok (.aload_n 0, 1) := by decide +kernel
theorem dX9_nets_107 : decode cX9_nets 107 = .ok (.getfield 7, 3) := by decide +kernel
theorem dX9_nets_110 : decode cX9_nets 110 = .ok (.bipush 6, 2) := by decide +kernel
theorem dX9_nets_112 : decode cX9_nets 112 = .ok (.iaload, 1) := by decide +kernel
theorem dX9_nets_113 : decode cX9_nets 113 = .ok (.invokevirtual 247, 3) := by decide +kernel
theorem dX9_nets_116 : decode cX9_nets 116 = .ok (.aload_n 0, 1) := by decide +kernel
theorem dX9_nets_117 : decode cX9_nets 117 = .ok (.getfield 7, 3) := by decide +kernel
theorem dX9_nets_120 : decode cX9_nets 120 = .ok (.aload_n 0, 1) := by decide +kernel
theorem dX9_nets_121 : decode cX9_nets 121 = .ok (.iload_n 2, 1) := by decide +kernel
theorem dX9_nets_122 : decode cX9_nets 122 = .ok (.invokevirtual 141, 3) := by decide +kernel
theorem dX9_nets_125 : decode cX9_nets 125 = .ok (.bipush 7, 2) := by decide +kernel
theorem dX9_nets_127 : decode cX9_nets 127 = .ok (.iadd, 1) := by decide +kernel
theorem dX9_nets_128 : decode cX9_nets 128 = .ok (.iconst 0, 1) := by decide +kernel
theorem dX9_nets_129 : decode cX9_nets 129 = .ok (.iastore, 1) := by decide +kernel
theorem dX9_nets_130 : decode cX9_nets 130 = .ok (.iinc 2 1, 3) := by decide +kernel
theorem dX9_nets_133 : decode cX9_nets 133 = .ok (.goto (-131), 3) := by decide +kernel
theorem dX9_nets_136 : decode cX9_nets 136 = .ok (.return_, 1) := by decide +kernel
theorem dX9_newNotice_0 : decode cX9_newNotice 0 = .ok (.aload_n 0, 1) := by decide +kernel
theorem dX9_newNotice_1 : decode cX9_newNotice 1 = .ok (.aload_n 0, 1) := by decide +kernel
theorem dX9_newNotice_2 : decode cX9_newNotice 2 = .ok (.getfield 7, 3) := by decide +kernel
theorem dX9_newNotice_5 : decode cX9_newNotice 5 = .ok (.bipush 8, 2) := by decide +kernel
theorem dX9_newNotice_7 : decode cX9_newNotice 7 = .ok (.iaload, 1) := by decide +kernel
theorem dX9_newNotice_8 : decode cX9_newNotice 8 = .ok (.invokevirtual 154, 3) := by decide +kernel
theorem dX9_newNotice_11 : decode cX9_newNotice 11 = .ok (.istore 5, 2) := by decide +kernel
theorem dX9_newNotice_13 : decode cX9_newNotice 13 = .ok (.iconst 0, 1) := by decide +kernel
theorem dX9_newNotice_14 : decode cX9_newNotice 14 = .ok (.istore 6, 2) := by decide +kernel
theorem dX9_newNotice_16 : decode cX9_newNotice 16 = .ok (.iload 6, 2) := by decide +kernel
theorem dX9_newNotice_18 : decode cX9_newNotice 18 = .ok (.bipush 20, 2) := by decide +kernel
theorem dX9_newNotice_20 : decode cX9_newNotice 20 = .ok (.if_icmp .ge 20, 3) := by decide +kernel
theorem dX9_newNotice_23 : decode cX9_newNotice 23 = .ok (.aload_n 0, 1) := by decide +kernel
theorem dX9_newNotice_24 : decode cX9_newNotice 24 = .ok (.getfield 7, 3) := by decide +kernel
theorem dX9_newNotice_27 : decode cX9_newNotice 27 = .ok (.iload 5, 2) := by decide +kernel
theorem dX9_newNotice_29 : decode cX9_newNotice 29 = .ok (.iload 6, 2) := by decide +kernel
theorem dX9_newNotice_31 : decode cX9_newNotice 31 = .ok (.iadd, 1) := by decide +kernel
theorem dX9_newNotice_32 : decode cX9_newNotice 32 = .ok (.iconst 0, 1) := by decide +kernel
theorem dX9_newNotice_33 : decode cX9_newNotice 33 = .ok (.iastore, 1) := by decide +kernel
theorem dX9_newNotice_34 : decode cX9_newNotice 34 = .ok (.iinc 6 1, 3) := by decide +kernel
theorem dX9_newNotice_37 : decode cX9_newNotice 37 = .ok (.goto (-21), 3) := by decide +kernel
theorem dX9_newNotice_40 : decode cX9_newNotice 40 = .ok (.aload_n 0, 1) := by decide +kernel
theorem dX9_newNotice_41 : decode cX9_newNotice 41 = .ok (.getfield 7, 3) := by decide +kernel
theorem dX9_newNotice_44 : decode cX9_newNotice 44 = .ok (.iload 5, 2) := by decide +kernel
theorem dX9_newNotice_46 : decode cX9_newNotice 46 = .ok (.iconst 0, 1) := by decide +kernel
theorem dX9_newNotice_47 : decode cX9_newNotice 47 = .ok (.iadd, 1) := by decide +kernel
theorem dX9_newNotice_48 : decode cX9_newNotice 48 = .ok (.iload_n 1, 1) := by decide +kernel
theorem dX9_newNotice_49 : decode cX9_newNotice 49 = .ok (.iastore, 1) := by decide +kernel
theorem dX9_newNotice_50 : decode cX9_newNotice 50 = .ok (.aload_n 0, 1) := by decide +kernel
theorem dX9_newNotice_51 : decode cX9_newNotice 51 = .ok (.getfield 7, 3) := by decide +kernel
theorem dX9_newNotice_54 : decode cX9_newNotice 54 = .ok (.iload 5, 2) := by decide +kernel
theorem dX9_newNotice_56 : decode cX9_newNotice 56 = .ok (.iconst 1, 1) := by decide +kernel
theorem dX9_newNotice_57 : decode cX9_newNotice 57 = .ok (.iadd, 1) := by decide +kernel
theorem dX9_newNotice_58 : decode cX9_newNotice 58 = .ok (.iload_n 2, 1) := by decide +kernel
theorem dX9_newNotice_59 : decode cX9_newNotice 59 = .ok (.iastore, 1) := by decide +kernel
theorem dX9_newNotice_60 : decode cX9_newNotice 60 = .ok (.aload_n 0, 1) := by decide +kernel
theorem dX9_newNotice_61 : decode cX9_newNotice 61 = .ok (.getfield 7, 3) := by decide +kernel
theorem dX9_newNotice_64 : decode cX9_newNotice 64 = .ok (.iload 5, 2) := by decide +kernel
theorem dX9_newNotice_66 : decode cX9_newNotice 66 = .ok (.iconst 2, 1) := by decide +kernel
theorem dX9_newNotice_67 : decode cX9_newNotice 67 = .ok (.iadd, 1) := by decide +kernel
theorem dX9_newNotice_68 : decode cX9_newNotice 68 = .ok (.iload_n 3, 1) := by decide +kernel
theorem dX9_newNotice_69 : decode cX9_newNotice 69 = .ok (.iastore, 1) := by decide +kernel
theorem dX9_newNotice_70 : decode cX9_newNotice 70 = .ok (.aload_n 0, 1) := by decide +kernel
theorem dX9_newNotice_71 : decode cX9_newNotice 71 = .ok (.getfield 7, 3) := by decide +kernel
theorem dX9_newNotice_74 : decode cX9_newNotice 74 = .ok (.iload 5, 2) := by decide +kernel
theorem dX9_newNotice_76 : decode cX9_newNotice 76 = .ok (.iconst 3, 1) := by decide +kernel
theorem dX9_newNotice_77 : decode cX9_newNotice 77 = .ok (.iadd, 1) := by decide +kernel
theorem dX9_newNotice_78 : decode cX9_newNotice 78 = .ok (.aload_n 0, 1) := by decide +kernel
theorem dX9_newNotice_79 : decode cX9_newNotice 79 = .ok (.getfield 7, 3) := by decide +kernel
theorem dX9_newNotice_82 : decode cX9_newNotice 82 = .ok (.bipush 6, 2) := by decide +kernel
theorem dX9_newNotice_84 : decode cX9_newNotice 84 = .ok (.iaload, 1) := by decide +kernel
theorem dX9_newNotice_85 : decode cX9_newNotice 85 = .ok (.aload_n 0, 1) := by decide +kernel
theorem dX9_newNotice_86 : decode cX9_newNotice 86 = .ok (.iconst 4, 1) := by decide +kernel
theorem dX9_newNotice_87 : decode cX9_newNotice 87 = .ok (.invokevirtual 144, 3) := by decide +kernel
theorem dX9_newNotice_90 : decode cX9_newNotice 90 = .ok (.iadd, 1) := by decide +kernel
theorem dX9_newNotice_91 : decode cX9_newNotice 91 = .ok (.iastore, 1) := by decide +kernel
theorem dX9_newNotice_92 : decode cX9_newNotice 92 = .ok (.aload_n 0, 1) := by decide +kernel
theorem dX9_newNotice_93 : decode cX9_newNotice 93 = .ok (.getfield 7, 3) := by decide +kernel
theorem dX9_newNotice_96 : decode cX9_newNotice 96 = .ok (.iload 5, 2) := by decide +kernel
theorem dX9_newNotice_98 : decode cX9_newNotice 98 = .ok (.iconst 4, 1) := by decide +kernel
theorem dX9_newNotice_99 : decode cX9_newNotice 99 = .ok (.iadd, 1) := by decide +kernel
theorem dX9_newNotice_100 : decode cX9_newNotice 100 = .ok (.iconst 1, 1) := by decide +kernel
theorem dX9_newNotice_101 : decode cX9_newNotice 101 = .ok (.iastore, 1) := by decide +kernel
theorem dX9_newNotice_102 : decode cX9_newNotice 102 = .ok (.aload_n 0, 1) := by decide +kernel
theorem dX9_newNotice_103 : decode cX9_newNotice 103 = .ok (.getfield 7, 3) := by decide +kernel
