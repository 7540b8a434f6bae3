theorem dX10_addsProduct_92 : decode cX10_addsProduct 92 = .ok (.imul, 1) := by decide +kernel
theorem dX10_addsProduct_93 : decode cX10_addsProduct 93 = .ok (.iload 7, 2) := by decide +kernel
theorem dX10_addsProduct_95 : decode cX10_addsProduct 95 = .ok (.iadd, 1) := by decide +kernel
theorem dX10_addsProduct_96 : decode cX10_addsProduct 96 = .ok (.iconst 4, 1) := by decide +kernel
theorem dX10_addsProduct_97 : decode cX10_addsProduct 97 = .ok (.imul, 1) := by decide +kernel
theorem dX10_addsProduct_98 : decode cX10_addsProduct 98 = .ok (.iload 8, 2) := by decide +kernel
theorem dX10_addsProduct_100 : decode cX10_addsProduct 100 = .ok (.iadd, 1) := by decide +kernel
theorem dX10_addsProduct_101 : decode cX10_addsProduct 101 = .ok (.bipush 7, 2) := by decide +kernel
theorem dX10_addsProduct_103 : decode cX10_addsProduct 103 = .ok (.imul, 1) := by decide +kernel
theorem dX10_addsProduct_104 : decode cX10_addsProduct 104 = .ok (.iload_n 2, 1) := by decide +kernel
theorem dX10_addsProduct_105 : decode cX10_addsProduct 105 = .ok (.iconst 5, 1) := by decide +kernel
theorem dX10_addsProduct_106 : decode cX10_addsProduct 106 = .ok (.irem, 1) := by decide +kernel
theorem dX10_addsProduct_107 : decode cX10_addsProduct 107 = .ok (.iadd, 1) := by decide +kernel
theorem dX10_addsProduct_108 : decode cX10_addsProduct 108 = .ok (.iload 4, 2) := by decide +kernel
theorem dX10_addsProduct_110 : decode cX10_addsProduct 110 = .ok (.iconst 3, 1) := by decide +kernel
theorem dX10_addsProduct_111 : decode cX10_addsProduct 111 = .ok (.irem, 1) := by decide +kernel
theorem dX10_addsProduct_112 : decode cX10_addsProduct 112 = .ok (.iadd, 1) := by decide +kernel
theorem dX10_addsProduct_113 : decode cX10_addsProduct 113 = .ok (.istore 9, 2) := by decide +kernel
theorem dX10_addsProduct_115 : decode cX10_addsProduct 115 = .ok (.aload_n 0, 1) := by decide +kernel
theorem dX10_addsProduct_116 : decode cX10_addsProduct 116 = .ok (.getfield 31, 3) := by decide +kernel
theorem dX10_addsProduct_119 : decode cX10_addsProduct 119 = .ok (.iload 9, 2) := by decide +kernel
theorem dX10_addsProduct_121 : decode cX10_addsProduct 121 = .ok (.aload_n 0, 1) := by decide +kernel
theorem dX10_addsProduct_122 : decode cX10_addsProduct 122 = .ok (.getfield 31, 3) := by decide +kernel
theorem dX10_addsProduct_125 : decode cX10_addsProduct 125 = .ok (.iload 9, 2) := by decide +kernel
theorem dX10_addsProduct_127 : decode cX10_addsProduct 127 = .ok (.iaload, 1) := by decide +kernel
theorem dX10_addsProduct_128 : decode cX10_addsProduct 128 = .ok (.iload_n 3, 1) := by decide +kernel
theorem dX10_addsProduct_129 : decode cX10_addsProduct 129 = .ok (.iload 5, 2) := by decide +kernel
theorem dX10_addsProduct_131 : decode cX10_addsProduct 131 = .ok (.imul, 1) := by decide +kernel
theorem dX10_addsProduct_132 : decode cX10_addsProduct 132 = .ok (.iadd, 1) := by decide +kernel
theorem dX10_addsProduct_133 : decode cX10_addsProduct 133 = .ok (.aload_n 0, 1) := by decide +kernel
theorem dX10_addsProduct_134 : decode cX10_addsProduct 134 = .ok (.invokevirtual 76, 3) := by decide +kernel
theorem dX10_addsProduct_137 : decode cX10_addsProduct 137 = .ok (.irem, 1) := by decide +kernel
theorem dX10_addsProduct_138 : decode cX10_addsProduct 138 = .ok (.iastore, 1) := by decide +kernel
theorem dX10_addsProduct_139 : decode cX10_addsProduct 139 = .ok (.iinc 4 1, 3) := by decide +kernel
theorem dX10_addsProduct_142 : decode cX10_addsProduct 142 = .ok (.goto (-123), 3) := by decide +kernel
theorem dX10_addsProduct_145 : decode cX10_addsProduct 145 = .ok (.iinc 2 1, 3) := by decide +kernel
theorem dX10_addsProduct_148 : decode cX10_addsProduct 148 = .ok (.goto (-146), 3) := by decide +kernel
theorem dX10_addsProduct_151 : decode cX10_addsProduct 151 = .ok (.return_, 1) := by decide +kernel
theorem dX10_findsDixon_0 : decode cX10_findsDixon 0 = .ok (.iconst 0, 1) := by decide +kernel
theorem dX10_findsDixon_1 : decode cX10_findsDixon 1 = .ok (.istore_n 1, 1) := by decide +kernel
theorem dX10_findsDixon_2 : decode cX10_findsDixon 2 = .ok (.iload_n 1, 1) := by decide +kernel
theorem dX10_findsDixon_3 : decode cX10_findsDixon 3 = .ok (.iconst 3, 1) := by decide +kernel
theorem dX10_findsDixon_4 : decode cX10_findsDixon 4 = .ok (.if_icmp .ge 19, 3) := by decide +kernel
theorem dX10_findsDixon_7 : decode cX10_findsDixon 7 = .ok (.aload_n 0, 1) := by decide +kernel
theorem dX10_findsDixon_8 : decode cX10_findsDixon 8 = .ok (.iload_n 1, 1) := by decide +kernel
theorem dX10_findsDixon_9 : decode cX10_findsDixon 9 = .ok (.invokevirtual 173, 3) := by decide +kernel
theorem dX10_findsDixon_12 : decode cX10_findsDixon 12 = .ok (.aload_n 0, 1) := by decide +kernel
theorem dX10_findsDixon_13 : decode cX10_findsDixon 13 = .ok (.iload_n 1, 1) := by decide +kernel
theorem dX10_findsDixon_14 : decode cX10_findsDixon 14 = .ok (.invokevirtual 176, 3) := by decide +kernel
theorem dX10_findsDixon_17 : decode cX10_findsDixon 17 = .ok (.iinc 1 1, 3) := by decide +kernel
theorem dX10_findsDixon_20 : decode cX10_findsDixon 20 = .ok (.goto (-18), 3) := by decide +kernel
theorem dX10_findsDixon_23 : decode cX10_findsDixon 23 = .ok (.iconst 0, 1) := by decide +kernel
theorem dX10_findsDixon_24 : decode cX10_findsDixon 24 = .ok (.istore_n 1, 1) := by decide +kernel
theorem dX10_findsDixon_25 : decode cX10_findsDixon 25 = .ok (.iload_n 1, 1) := by decide +kernel
theorem dX10_findsDixon_26 : decode cX10_findsDixon 26 = .ok (.sipush 1344, 3) := by decide +kernel
theorem dX10_findsDixon_29 : decode cX10_findsDixon 29 = .ok (.if_icmp .ge 16, 3) := by decide +kernel
theorem dX10_findsDixon_32 : decode cX10_findsDixon 32 = .ok (.aload_n 0, 1) := by decide +kernel
theorem dX10_findsDixon_33 : decode cX10_findsDixon 33 = .ok (.getfield 31, 3) := by decide +kernel
theorem dX10_findsDixon_36 : decode cX10_findsDixon 36 = .ok (.iload_n 1, 1) := by decide +kernel
theorem dX10_findsDixon_37 : decode cX10_findsDixon 37 = .ok (.iconst 0, 1) := by decide +kernel
theorem dX10_findsDixon_38 : decode cX10_findsDixon 38 = .ok (.iastore, 1) := by decide +kernel
theorem dX10_findsDixon_39 : decode cX10_findsDixon 39 = .ok (.iinc 1 1, 3) := by decide +kernel
theorem dX10_findsDixon_42 : decode cX10_findsDixon 42 = .ok (.goto (-17), 3) := by decide +kernel
theorem dX10_findsDixon_45 : decode cX10_findsDixon 45 = .ok (.iconst 0, 1) := by decide +kernel
theorem dX10_findsDixon_46 : decode cX10_findsDixon 46 = .ok (.istore_n 1, 1) := by decide +kernel
theorem dX10_findsDixon_47 : decode cX10_findsDixon 47 = .ok (.iload_n 1, 1) := by decide +kernel
theorem dX10_findsDixon_48 : decode cX10_findsDixon 48 = .ok (.iconst 3, 1) := by decide +kernel
theorem dX10_findsDixon_49 : decode cX10_findsDixon 49 = .ok (.if_icmp .ge 66, 3) := by decide +kernel
theorem dX10_findsDixon_52 : decode cX10_findsDixon 52 = .ok (.iconst 0, 1) := by decide +kernel
theorem dX10_findsDixon_53 : decode cX10_findsDixon 53 = .ok (.istore_n 2, 1) := by decide +kernel
theorem dX10_findsDixon_54 : decode cX10_findsDixon 54 = .ok (.iload_n 2, 1) := by decide +kernel
theorem dX10_findsDixon_55 : decode cX10_findsDixon 55 = .ok (.sipush 640, 3) := by decide +kernel
theorem dX10_findsDixon_58 : decode cX10_findsDixon 58 = .ok (.if_icmp .ge 16, 3) := by decide +kernel
theorem dX10_findsDixon_61 : decode cX10_findsDixon 61 = .ok (.aload_n 0, 1) := by decide +kernel
theorem dX10_findsDixon_62 : decode cX10_findsDixon 62 = .ok (.getfield 28, 3) := by decide +kernel
theorem dX10_findsDixon_65 : decode cX10_findsDixon 65 = .ok (.iload_n 2, 1) := by decide +kernel
theorem dX10_findsDixon_66 : decode cX10_findsDixon 66 = .ok (.iconst 0, 1) := by decide +kernel
theorem dX10_findsDixon_67 : decode cX10_findsDixon 67 = .ok (.iastore, 1) := by decide +kernel
theorem dX10_findsDixon_68 : decode cX10_findsDixon 68 = .ok (.iinc 2 1, 3) := by decide +kernel
theorem dX10_findsDixon_71 : decode cX10_findsDixon 71 = .ok (.goto (-17), 3) := by decide +kernel
theorem dX10_findsDixon_74 : decode cX10_findsDixon 74 = .ok (.aload_n 0, 1) := by decide +kernel
theorem dX10_findsDixon_75 : decode cX10_findsDixon 75 = .ok (.iload_n 1, 1) := by decide +kernel
theorem dX10_findsDixon_76 : decode cX10_findsDixon 76 = .ok (.iconst 1, 1) := by decide +kernel
theorem dX10_findsDixon_77 : decode cX10_findsDixon 77 = .ok (.iadd, 1) := by decide +kernel
theorem dX10_findsDixon_78 : decode cX10_findsDixon 78 = .ok (.iconst 3, 1) := by decide +kernel
theorem dX10_findsDixon_79 : decode cX10_findsDixon 79 = .ok (.irem, 1) := by decide +kernel
theorem dX10_findsDixon_80 : decode cX10_findsDixon 80 = .ok (.iload_n 1, 1) := by decide +kernel
theorem dX10_findsDixon_81 : decode cX10_findsDixon 81 = .ok (.iconst 2, 1) := by decide +kernel
theorem dX10_findsDixon_82 : decode cX10_findsDixon 82 = .ok (.iadd, 1) := by decide +kernel
theorem dX10_findsDixon_83 : decode cX10_findsDixon 83 = .ok (.iconst 3, 1) := by decide +kernel
theorem dX10_findsDixon_84 : decode cX10_findsDixon 84 = .ok (.irem, 1) := by decide +kernel
theorem dX10_findsDixon_85 : decode cX10_findsDixon 85 = .ok (.iconst 1, 1) := by decide +kernel
theorem dX10_findsDixon_86 : decode cX10_findsDixon 86 = .ok (.invokevirtual 179, 3) := by decide +kernel
theorem dX10_findsDixon_89 : decode cX10_findsDixon 89 = .ok (.aload_n 0, 1) := by decide +kernel
theorem dX10_findsDixon_90 : decode cX10_findsDixon 90 = .ok (.iload_n 1, 1) := by decide +kernel
theorem dX10_findsDixon_91 : decode cX10_findsDixon 91 = .ok (.iconst 2, 1) := by decide +kernel
theorem dX10_findsDixon_92 : decode cX10_findsDixon 92 = .ok (.iadd, 1) := by decide +kernel
theorem dX10_findsDixon_93 : decode cX10_findsDixon 93 = .ok (.iconst 3, 1) := by decide +kernel
theorem dX10_findsDixon_94 : decode cX10_findsDixon 94 = .ok (.irem, 1) := by decide +kernel
theorem dX10_findsDixon_95 : decode cX10_findsDixon 95 = .ok (.iload_n 1, 1) := by decide +kernel
theorem dX10_findsDixon_96 : decode cX10_findsDixon 96 = .ok (.iconst 1, 1) := by decide +kernel
theorem dX10_findsDixon_97 : decode cX10_findsDixon 97 = .ok (.iadd, 1) := by decide +kernel
theorem dX10_findsDixon_98 : decode cX10_findsDixon 98 = .ok (.iconst 3, 1) := by decide +kernel
theorem dX10_findsDixon_99 : decode cX10_findsDixon 99 = .ok (.irem, 1) := by decide +kernel
theorem dX10_findsDixon_100 : decode cX10_findsDixon 100 = .ok (.iconst (-1), 1) := by decide +kernel
theorem dX10_findsDixon_101 : decode cX10_findsDixon 101 = .ok (.invokevirtual 179, 3) := by decide +kernel
theorem dX10_findsDixon_104 : decode cX10_findsDixon 104 = .ok (.aload_n 0, 1) := by decide +kernel
theorem dX10_findsDixon_105 : decode cX10_findsDixon 105 = .ok (.iload_n 1, 1) := by decide +kernel
theorem dX10_findsDixon_106 : decode cX10_findsDixon 106 = .ok (.invokevirtual 183, 3) := by decide +kernel
theorem dX10_findsDixon_109 : decode cX10_findsDixon 109 = .ok (.iinc 1 1, 3) := by decide +kernel
theorem dX10_findsDixon_112 : decode cX10_findsDixon 112 = .ok (.goto (-65), 3) := by decide +kernel
theorem dX10_findsDixon_115 : decode cX10_findsDixon 115 = .ok (.iconst 0, 1) := by decide +kernel
theorem dX10_findsDixon_116 : decode cX10_findsDixon 116 = .ok (.istore_n 1, 1) := by decide +kernel
theorem dX10_findsDixon_117 : decode cX10_findsDixon 117 = .ok (.iload_n 1, 1) := by decide +kernel
theorem dX10_findsDixon_118 : decode cX10_findsDixon 118 = .ok (.aload_n 0, 1) := by decide +kernel
theorem dX10_findsDixon_119 : decode cX10_findsDixon 119 = .ok (.getfield 186, 3) := by decide +kernel
theorem dX10_findsDixon_122 : decode cX10_findsDixon 122 = .ok (.if_icmp .ge 109, 3) := by decide +kernel
theorem dX10_findsDixon_125 : decode cX10_findsDixon 125 = .ok (.iconst 0, 1) := by decide +kernel
theorem dX10_findsDixon_126 : decode cX10_findsDixon 126 = .ok (.istore_n 2, 1) := by decide +kernel
theorem dX10_findsDixon_127 : decode cX10_findsDixon 127 = .ok (.iload_n 2, 1) := by decide +kernel
theorem dX10_findsDixon_128 : decode cX10_findsDixon 128 = .ok (.aload_n 0, 1) := by decide +kernel
theorem dX10_findsDixon_129 : decode cX10_findsDixon 129 = .ok (.getfield 186, 3) := by decide +kernel
theorem dX10_findsDixon_132 : decode cX10_findsDixon 132 = .ok (.if_icmp .ge 93, 3) := by decide +kernel
theorem dX10_findsDixon_135 : decode cX10_findsDixon 135 = .ok (.bipush 6, 2) := by decide +kernel
theorem dX10_findsDixon_137 : decode cX10_findsDixon 137 = .ok (.iconst 4, 1) := by decide +kernel
theorem dX10_findsDixon_138 : decode cX10_findsDixon 138 = .ok (.iload_n 1, 1) := by decide +kernel
theorem dX10_findsDixon_139 : decode cX10_findsDixon 139 = .ok (.aload_n 0, 1) := by decide +kernel
theorem dX10_findsDixon_140 : decode cX10_findsDixon 140 = .ok (.getfield 189, 3) := by decide +kernel
theorem dX10_findsDixon_143 : decode cX10_findsDixon 143 = .ok (.irem, 1) := by decide +kernel
theorem dX10_findsDixon_144 : decode cX10_findsDixon 144 = .ok (.imul, 1) := by decide +kernel
theorem dX10_findsDixon_145 : decode cX10_findsDixon 145 = .ok (.iload_n 1, 1) := by decide +kernel
theorem dX10_findsDixon_146 : decode cX10_findsDixon 146 = .ok (.aload_n 0, 1) := by decide +kernel
theorem dX10_findsDixon_147 : decode cX10_findsDixon 147 = .ok (.getfield 189, 3) := by decide +kernel
theorem dX10_findsDixon_150 : decode cX10_findsDixon 150 = .ok (.idiv, 1) := by decide +kernel
theorem dX10_findsDixon_151 : decode cX10_findsDixon 151 = .ok (.iadd, 1) := by decide +kernel
theorem dX10_findsDixon_152 : decode cX10_findsDixon 152 = .ok (.imul, 1) := by decide +kernel
theorem dX10_findsDixon_153 : decode cX10_findsDixon 153 = .ok (.iload_n 2, 1) := by decide +kernel
theorem dX10_findsDixon_154 : decode cX10_findsDixon 154 = .ok (.iconst 2, 1) := by decide +kernel
theorem dX10_findsDixon_155 : decode cX10_findsDixon 155 = .ok (.aload_n 0, 1) := by decide +kernel
theorem dX10_findsDixon_156 : decode cX10_findsDixon 156 = .ok (.getfield 189, 3) := by decide +kernel
theorem dX10_findsDixon_159 : decode cX10_findsDixon 159 = .ok (.imul, 1) := by decide +kernel
theorem dX10_findsDixon_160 : decode cX10_findsDixon 160 = .ok (.irem, 1) := by decide +kernel
theorem dX10_findsDixon_161 : decode cX10_findsDixon 161 = .ok (.iadd, 1) := by decide +kernel
theorem dX10_findsDixon_162 : decode cX10_findsDixon 162 = .ok (.iconst 4, 1) := by decide +kernel
theorem dX10_findsDixon_163 : decode cX10_findsDixon 163 = .ok (.imul, 1) := by decide +kernel
theorem dX10_findsDixon_164 : decode cX10_findsDixon 164 = .ok (.iload_n 2, 1) := by decide +kernel
theorem dX10_findsDixon_165 : decode cX10_findsDixon 165 = .ok (.iconst 2, 1) := by decide +kernel
theorem dX10_findsDixon_166 : decode cX10_findsDixon 166 = .ok (.aload_n 0, 1) := by decide +kernel
theorem dX10_findsDixon_167 : decode cX10_findsDixon 167 = .ok (.getfield 189, 3) := by decide +kernel
theorem dX10_findsDixon_170 : decode cX10_findsDixon 170 = .ok (.imul, 1) := by decide +kernel
theorem dX10_findsDixon_171 : decode cX10_findsDixon 171 = .ok (.idiv, 1) := by decide +kernel
theorem dX10_findsDixon_172 : decode cX10_findsDixon 172 = .ok (.iadd, 1) := by decide +kernel
theorem dX10_findsDixon_173 : decode cX10_findsDixon 173 = .ok (.bipush 7, 2) := by decide +kernel
theorem dX10_findsDixon_175 : decode cX10_findsDixon 175 = .ok (.imul, 1) := by decide +kernel
theorem dX10_findsDixon_176 : decode cX10_findsDixon 176 = .ok (.istore_n 3, 1) := by decide +kernel
theorem dX10_findsDixon_177 : decode cX10_findsDixon 177 = .ok (.iconst 0, 1) := by decide +kernel
theorem dX10_findsDixon_178 : decode cX10_findsDixon 178 = .ok (.istore 4, 2) := by decide +kernel
theorem dX10_findsDixon_180 : decode cX10_findsDixon 180 = .ok (.iload 4, 2) := by decide +kernel
theorem dX10_findsDixon_182 : decode cX10_findsDixon 182 = .ok (.bipush 7, 2) := by decide +kernel
theorem dX10_findsDixon_184 : decode cX10_findsDixon 184 = .ok (.if_icmp .ge 35, 3) := by decide +kernel
theorem dX10_findsDixon_187 : decode cX10_findsDixon 187 = .ok (.aload_n 0, 1) := by decide +kernel
theorem dX10_findsDixon_188 : decode cX10_findsDixon 188 = .ok (.getfield 34, 3) := by decide +kernel
theorem dX10_findsDixon_191 : decode cX10_findsDixon 191 = .ok (.bipush 8, 2) := by decide +kernel
theorem dX10_findsDixon_193 : decode cX10_findsDixon 193 = .ok (.iload_n 1, 1) := by decide +kernel
theorem dX10_findsDixon_194 : decode cX10_findsDixon 194 = .ok (.imul, 1) := by decide +kernel
theorem dX10_findsDixon_195 : decode cX10_findsDixon 195 = .ok (.iload_n 2, 1) := by decide +kernel
theorem dX10_findsDixon_196 : decode cX10_findsDixon 196 = .ok (.iadd, 1) := by decide +kernel
theorem dX10_findsDixon_197 : decode cX10_findsDixon 197 = .ok (.bipush 7, 2) := by decide +kernel
theorem dX10_findsDixon_199 : decode cX10_findsDixon 199 = .ok (.imul, 1) := by decide +kernel
theorem dX10_findsDixon_200 : decode cX10_findsDixon 200 = .ok (.iload 4, 2) := by decide +kernel
theorem dX10_findsDixon_202 : decode cX10_findsDixon 202 = .ok (.iadd, 1) := by decide +kernel
theorem dX10_findsDixon_203 : decode cX10_findsDixon 203 = .ok (.aload_n 0, 1) := by decide +kernel
theorem dX10_findsDixon_204 : decode cX10_findsDixon 204 = .ok (.getfield 31, 3) := by decide +kernel
theorem dX10_findsDixon_207 : decode cX10_findsDixon 207 = .ok (.iload_n 3, 1) := by decide +kernel
theorem dX10_findsDixon_208 : decode cX10_findsDixon 208 = .ok (.iload 4, 2) := by decide +kernel
theorem dX10_findsDixon_210 : decode cX10_findsDixon 210 = .ok (.iadd, 1) := by decide +kernel
theorem dX10_findsDixon_211 : decode cX10_findsDixon 211 = .ok (.iaload, 1) := by decide +kernel
theorem dX10_findsDixon_212 : decode cX10_findsDixon 212 = .ok (.iastore, 1) := by decide +kernel
theorem dX10_findsDixon_213 : decode cX10_findsDixon 213 = .ok (.iinc 4 1, 3) := by decide +kernel
theorem dX10_findsDixon_216 : decode cX10_findsDixon 216 = .ok (.goto (-36), 3) := by decide +kernel
theorem dX10_findsDixon_219 : decode cX10_findsDixon 219 = .ok (.iinc 2 1, 3) := by decide +kernel
theorem dX10_findsDixon_222 : decode cX10_findsDixon 222 = .ok (.goto (-95), 3) := by decide +kernel
theorem dX10_findsDixon_225 : decode cX10_findsDixon 225 = .ok (.iinc 1 1, 3) := by decide +kernel
theorem dX10_findsDixon_228 : decode cX10_findsDixon 228 = .ok (.goto (-111), 3) := by decide +kernel
theorem dX10_findsDixon_231 : decode cX10_findsDixon 231 = .ok (.return_, 1) := by decide +kernel
theorem dX10_entryValue_0 : decode cX10_entryValue 0 = .ok (.iconst 0, 1) := by decide +kernel
theorem dX10_entryValue_1 : decode cX10_entryValue 1 = .ok (.istore 4, 2) := by decide +kernel
theorem dX10_entryValue_3 : decode cX10_entryValue 3 = .ok (.bipush 6, 2) := by decide +kernel
theorem dX10_entryValue_5 : decode cX10_entryValue 5 = .ok (.istore 5, 2) := by decide +kernel
theorem dX10_entryValue_7 : decode cX10_entryValue 7 = .ok (.iload 5, 2) := by decide +kernel
theorem dX10_entryValue_9 : decode cX10_entryValue 9 = .ok (.ifCond .lt 38, 3) := by decide +kernel
theorem dX10_entryValue_12 : decode cX10_entryValue 12 = .ok (.iload 4, 2) := by decide +kernel
theorem dX10_entryValue_14 : decode cX10_entryValue 14 = .ok (.iload_n 3, 1) := by decide +kernel
theorem dX10_entryValue_15 : decode cX10_entryValue 15 = .ok (.imul, 1) := by decide +kernel
theorem dX10_entryValue_16 : decode cX10_entryValue 16 = .ok (.aload_n 0, 1) := by decide +kernel
theorem dX10_entryValue_17 : decode cX10_entryValue 17 = .ok (.getfield 34, 3) := by decide +kernel
theorem dX10_entryValue_20 : decode cX10_entryValue 20 = .ok (.bipush 8, 2) := by decide +kernel
theorem dX10_entryValue_22 : decode cX10_entryValue 22 = .ok (.iload_n 1, 1) := by decide +kernel
theorem dX10_entryValue_23 : decode cX10_entryValue 23 = .ok (.imul, 1) := by decide +kernel
theorem dX10_entryValue_24 : decode cX10_entryValue 24 = .ok (.iload_n 2, 1) := by decide +kernel
theorem dX10_entryValue_25 : decode cX10_entryValue 25 = .ok (.iadd, 1) := by decide +kernel
theorem dX10_entryValue_26 : decode cX10_entryValue 26 = .ok (.bipush 7, 2) := by decide +kernel
theorem dX10_entryValue_28 : decode cX10_entryValue 28 = .ok (.imul, 1) := by decide +kernel
theorem dX10_entryValue_29 : decode cX10_entryValue 29 = .ok (.iload 5, 2) := by decide +kernel
theorem dX10_entryValue_31 : decode cX10_entryValue 31 = .ok (.iadd, 1) := by decide +kernel
theorem dX10_entryValue_32 : decode cX10_entryValue 32 = .ok (.iaload, 1) := by decide +kernel
theorem dX10_entryValue_33 : decode cX10_entryValue 33 = .ok (.iadd, 1) := by decide +kernel
theorem dX10_entryValue_34 : decode cX10_entryValue 34 = .ok (.aload_n 0, 1) := by decide +kernel
theorem dX10_entryValue_35 : decode cX10_entryValue 35 = .ok (.invokevirtual 76, 3) := by decide +kernel
theorem dX10_entryValue_38 : decode cX10_entryValue 38 = .ok (.irem, 1) := by decide +kernel
theorem dX10_entryValue_39 : decode cX10_entryValue 39 = .ok (.istore 4, 2) := by decide +kernel
theorem dX10_entryValue_41 : decode cX10_entryValue 41 = .ok (.iinc 5 (-1), 3) := by decide +kernel
theorem dX10_entryValue_44 : decode cX10_entryValue 44 = .ok (.goto (-37), 3) := by decide +kernel
theorem dX10_entryValue_47 : decode cX10_entryValue 47 = .ok (.iload 4, 2) := by decide +kernel
theorem dX10_entryValue_49 : decode cX10_entryValue 49 = .ok (.ireturn, 1) := by decide +kernel
theorem dX10_lays_0 : decode cX10_lays 0 = .ok (.iconst 0, 1) := by decide +kernel
theorem dX10_lays_1 : decode cX10_lays 1 = .ok (.istore_n 3, 1) := by decide +kernel
theorem dX10_lays_2 : decode cX10_lays 2 = .ok (.iload_n 3, 1) := by decide +kernel
theorem dX10_lays_3 : decode cX10_lays 3 = .ok (.aload_n 0, 1) := by decide +kernel
theorem dX10_lays_4 : decode cX10_lays 4 = .ok (.getfield 186, 3) := by decide +kernel
theorem dX10_lays_7 : decode cX10_lays 7 = .ok (.if_icmp .ge 62, 3) := by decide +kernel
theorem dX10_lays_10 : decode cX10_lays 10 = .ok (.iconst 0, 1) := by decide +kernel
theorem dX10_lays_11 : decode cX10_lays 11 = .ok (.istore 4, 2) := by decide +kernel
theorem dX10_lays_13 : decode cX10_lays 13 = .ok (.iload 4, 2) := by decide +kernel
theorem dX10_lays_15 : decode cX10_lays 15 = .ok (.aload_n 0, 1) := by decide +kernel
theorem dX10_lays_16 : decode cX10_lays 16 = .ok (.getfield 186, 3) := by decide +kernel
theorem dX10_lays_19 : decode cX10_lays 19 = .ok (.if_icmp .ge 44, 3) := by decide +kernel
theorem dX10_lays_22 : decode cX10_lays 22 = .ok (.aload_n 0, 1) := by decide +kernel
theorem dX10_lays_23 : decode cX10_lays 23 = .ok (.getfield 46, 3) := by decide +kernel
theorem dX10_lays_26 : decode cX10_lays 26 = .ok (.bipush 8, 2) := by decide +kernel
theorem dX10_lays_28 : decode cX10_lays 28 = .ok (.iload_n 3, 1) := by decide +kernel
theorem dX10_lays_29 : decode cX10_lays 29 = .ok (.imul, 1) := by decide +kernel
theorem dX10_lays_30 : decode cX10_lays 30 = .ok (.iload 4, 2) := by decide +kernel
theorem dX10_lays_32 : decode cX10_lays 32 = .ok (.iadd, 1) := by decide +kernel
theorem dX10_lays_33 : decode cX10_lays 33 = .ok (.iload_n 2, 1) := by decide +kernel
theorem dX10_lays_34 : decode cX10_lays 34 = .ok (.ifCond .eq 14, 3) := by decide +kernel
theorem dX10_lays_37 : decode cX10_lays 37 = .ok (.aload_n 0, 1) := by decide +kernel
theorem dX10_lays_38 : decode cX10_lays 38 = .ok (.iload 4, 2) := by decide +kernel
theorem dX10_lays_40 : decode cX10_lays 40 = .ok (.iload_n 3, 1) := by decide +kernel
theorem dX10_lays_41 : decode cX10_lays 41 = .ok (.iload_n 1, 1) := by decide +kernel
theorem dX10_lays_42 : decode cX10_lays 42 = .ok (.invokevirtual 192, 3) := by decide +kernel
theorem dX10_lays_45 : decode cX10_lays 45 = .ok (.goto 11, 3) := by decide +kernel
theorem dX10_lays_48 : decode cX10_lays 48 = .ok (.aload_n 0, 1) := by decide +kernel
theorem dX10_lays_49 : decode cX10_lays 49 = .ok (.iload_n 3, 1) := by decide +kernel
theorem dX10_lays_50 : decode cX10_lays 50 = .ok (.iload 4, 2) := by decide +kernel
theorem dX10_lays_52 : decode cX10_lays 52 = .ok (.iload_n 1, 1) := by decide +kernel
theorem dX10_lays_53 : decode cX10_lays 53 = .ok (.invokevirtual 192, 3) := by decide +kernel
theorem dX10_lays_56 : decode cX10_lays 56 = .ok (.iastore, 1) := by decide +kernel
theorem dX10_lays_57 : decode cX10_lays 57 = .ok (.iinc 4 1, 3) := by decide +kernel
theorem dX10_lays_60 : decode cX10_lays 60 = .ok (.goto (-47), 3) := by decide +kernel
theorem dX10_lays_63 : decode cX10_lays 63 = .ok (.iinc 3 1, 3) := by decide +kernel
theorem dX10_lays_66 : decode cX10_lays 66 = .ok (.goto (-64), 3) := by decide +kernel
theorem dX10_lays_69 : decode cX10_lays 69 = .ok (.return_, 1) := by decide +kernel
theorem dX10_keeps_0 : decode cX10_keeps 0 = .ok (.iconst 0, 1) := by decide +kernel
theorem dX10_keeps_1 : decode cX10_keeps 1 = .ok (.istore_n 2, 1) := by decide +kernel
theorem dX10_keeps_2 : decode cX10_keeps 2 = .ok (.iload_n 2, 1) := by decide +kernel
theorem dX10_keeps_3 : decode cX10_keeps 3 = .ok (.aload_n 0, 1) := by decide +kernel
theorem dX10_keeps_4 : decode cX10_keeps 4 = .ok (.getfield 195, 3) := by decide +kernel
theorem dX10_keeps_7 : decode cX10_keeps 7 = .ok (.if_icmp .ge 91, 3) := by decide +kernel
theorem dX10_keeps_10 : decode cX10_keeps 10 = .ok (.aload_n 0, 1) := by decide +kernel
theorem dX10_keeps_11 : decode cX10_keeps 11 = .ok (.getfield 46, 3) := by decide +kernel
theorem dX10_keeps_14 : decode cX10_keeps 14 = .ok (.bipush 8, 2) := by decide +kernel
theorem dX10_keeps_16 : decode cX10_keeps 16 = .ok (.iload_n 1, 1) := by decide +kernel
theorem dX10_keeps_17 : decode cX10_keeps 17 = .ok (.imul, 1) := by decide +kernel
theorem dX10_keeps_18 : decode cX10_keeps 18 = .ok (.aload_n 0, 1) := by decide +kernel
theorem dX10_keeps_19 : decode cX10_keeps 19 = .ok (.getfield 52, 3) := by decide +kernel
theorem dX10_keeps_22 : decode cX10_keeps 22 = .ok (.iload_n 2, 1) := by decide +kernel
theorem dX10_keeps_23 : decode cX10_keeps 23 = .ok (.iaload, 1) := by decide +kernel
theorem dX10_keeps_24 : decode cX10_keeps 24 = .ok (.iadd, 1) := by decide +kernel
theorem dX10_keeps_25 : decode cX10_keeps 25 = .ok (.iaload, 1) := by decide +kernel
theorem dX10_keeps_26 : decode cX10_keeps 26 = .ok (.istore_n 3, 1) := by decide +kernel
theorem dX10_keeps_27 : decode cX10_keeps 27 = .ok (.iconst 0, 1) := by decide +kernel
theorem dX10_keeps_28 : decode cX10_keeps 28 = .ok (.istore 4, 2) := by decide +kernel
theorem dX10_keeps_30 : decode cX10_keeps 30 = .ok (.iload 4, 2) := by decide +kernel
theorem dX10_keeps_32 : decode cX10_keeps 32 = .ok (.aload_n 0, 1) := by decide +kernel
theorem dX10_keeps_33 : decode cX10_keeps 33 = .ok (.getfield 186, 3) := by decide +kernel
theorem dX10_keeps_36 : decode cX10_keeps 36 = .ok (.if_icmp .ge 56, 3) := by decide +kernel
theorem dX10_keeps_39 : decode cX10_keeps 39 = .ok (.iload_n 3, 1) := by decide +kernel
theorem dX10_keeps_40 : decode cX10_keeps 40 = .ok (.ifCond .eq 52, 3) := by decide +kernel
theorem dX10_keeps_43 : decode cX10_keeps 43 = .ok (.aload_n 0, 1) := by decide +kernel
theorem dX10_keeps_44 : decode cX10_keeps 44 = .ok (.getfield 46, 3) := by decide +kernel
theorem dX10_keeps_47 : decode cX10_keeps 47 = .ok (.bipush 8, 2) := by decide +kernel
theorem dX10_keeps_49 : decode cX10_keeps 49 = .ok (.iload_n 1, 1) := by decide +kernel
theorem dX10_keeps_50 : decode cX10_keeps 50 = .ok (.imul, 1) := by decide +kernel
theorem dX10_keeps_51 : decode cX10_keeps 51 = .ok (.iload 4, 2) := by decide +kernel
theorem dX10_keeps_53 : decode cX10_keeps 53 = .ok (.iadd, 1) := by decide +kernel
theorem dX10_keeps_54 : decode cX10_keeps 54 = .ok (.aload_n 0, 1) := by decide +kernel
theorem dX10_keeps_55 : decode cX10_keeps 55 = .ok (.aload_n 0, 1) := by decide +kernel
theorem dX10_keeps_56 : decode cX10_keeps 56 = .ok (.getfield 46, 3) := by decide +kernel
theorem dX10_keeps_59 : decode cX10_keeps 59 = .ok (.bipush 8, 2) := by decide +kernel
theorem dX10_keeps_61 : decode cX10_keeps 61 = .ok (.iload_n 1, 1) := by decide +kernel
theorem dX10_keeps_62 : decode cX10_keeps 62 = .ok (.imul, 1) := by decide +kernel
theorem dX10_keeps_63 : decode cX10_keeps 63 = .ok (.iload 4, 2) := by decide +kernel
theorem dX10_keeps_65 : decode cX10_keeps 65 = .ok (.iadd, 1) := by decide +kernel
theorem dX10_keeps_66 : decode cX10_keeps 66 = .ok (.iaload, 1) := by decide +kernel
theorem dX10_keeps_67 : decode cX10_keeps 67 = .ok (.iload_n 3, 1) := by decide +kernel
theorem dX10_keeps_68 : decode cX10_keeps 68 = .ok (.aload_n 0, 1) := by decide +kernel
theorem dX10_keeps_69 : decode cX10_keeps 69 = .ok (.getfield 49, 3) := by decide +kernel
theorem dX10_keeps_72 : decode cX10_keeps 72 = .ok (.bipush 8, 2) := by decide +kernel
theorem dX10_keeps_74 : decode cX10_keeps 74 = .ok (.iload_n 2, 1) := by decide +kernel
theorem dX10_keeps_75 : decode cX10_keeps 75 = .ok (.imul, 1) := by decide +kernel
theorem dX10_keeps_76 : decode cX10_keeps 76 = .ok (.iload 4, 2) := by decide +kernel
theorem dX10_keeps_78 : decode cX10_keeps 78 = .ok (.iadd, 1) := by decide +kernel
theorem dX10_keeps_79 : decode cX10_keeps 79 = .ok (.iaload, 1) := by decide +kernel
theorem dX10_keeps_80 : decode cX10_keeps 80 = .ok (.imul, 1) := by decide +kernel
theorem dX10_keeps_81 : decode cX10_keeps 81 = .ok (.isub, 1) := by decide +kernel
theorem dX10_keeps_82 : decode cX10_keeps 82 = .ok (.invokevirtual 128, 3) := by decide +kernel
theorem dX10_keeps_85 : decode cX10_keeps 85 = .ok (.iastore, 1) := by decide +kernel
theorem dX10_keeps_86 : decode cX10_keeps 86 = .ok (.iinc 4 1, 3) := by decide +kernel
theorem dX10_keeps_89 : decode cX10_keeps 89 = .ok (.goto (-59), 3) := by decide +kernel
theorem dX10_keeps_92 : decode cX10_keeps 92 = .ok (.iinc 2 1, 3) := by decide +kernel
theorem dX10_keeps_95 : decode cX10_keeps 95 = .ok (.goto (-93), 3) := by decide +kernel
theorem dX10_keeps_98 : decode cX10_keeps 98 = .ok (.iconst 0, 1) := by decide +kernel
theorem dX10_keeps_99 : decode cX10_keeps 99 = .ok (.istore_n 2, 1) := by decide +kernel
theorem dX10_keeps_100 : decode cX10_keeps 100 = .ok (.iload_n 2, 1) := by decide +kernel
theorem dX10_keeps_101 : decode cX10_keeps 101 = .ok (.aload_n 0, 1) := by decide +kernel
theorem dX10_keeps_102 : decode cX10_keeps 102 = .ok (.getfield 186, 3) := by decide +kernel
theorem dX10_keeps_105 : decode cX10_keeps 105 = .ok (.if_icmp .ge 23, 3) := by decide +kernel
theorem dX10_keeps_108 : decode cX10_keeps 108 = .ok (.aload_n 0, 1) := by decide +kernel
theorem dX10_keeps_109 : decode cX10_keeps 109 = .ok (.getfield 46, 3) := by decide +kernel
theorem dX10_keeps_112 : decode cX10_keeps 112 = .ok (.bipush 8, 2) := by decide +kernel
theorem dX10_keeps_114 : decode cX10_keeps 114 = .ok (.iload_n 1, 1) := by decide +kernel
theorem dX10_keeps_115 : decode cX10_keeps 115 = .ok (.imul, 1) := by decide +kernel
theorem dX10_keeps_116 : decode cX10_keeps 116 = .ok (.iload_n 2, 1) := by decide +kernel
theorem dX10_keeps_117 : decode cX10_keeps 117 = .ok (.iadd, 1) := by decide +kernel
theorem dX10_keeps_118 : decode cX10_keeps 118 = .ok (.iaload, 1) := by decide +kernel
theorem dX10_keeps_119 : decode cX10_keeps 119 = .ok (.ifCond .ne 9, 3) := by decide +kernel
theorem dX10_keeps_122 : decode cX10_keeps 122 = .ok (.iinc 2 1, 3) := by decide +kernel
theorem dX10_keeps_125 : decode cX10_keeps 125 = .ok (.goto (-25), 3) := by decide +kernel
theorem dX10_keeps_128 : decode cX10_keeps 128 = .ok (.iload_n 2, 1) := by decide +kernel
theorem dX10_keeps_129 : decode cX10_keeps 129 = .ok (.aload_n 0, 1) := by decide +kernel
theorem dX10_keeps_130 : decode cX10_keeps 130 = .ok (.getfield 186, 3) := by decide +kernel
theorem dX10_keeps_133 : decode cX10_keeps 133 = .ok (.if_icmp .ne 5, 3) := by decide +kernel
theorem dX10_keeps_136 : decode cX10_keeps 136 = .ok (.iconst 0, 1) := by decide +kernel
theorem dX10_keeps_137 : decode cX10_keeps 137 = .ok (.ireturn, 1) := by decide +kernel
theorem dX10_keeps_138 : decode cX10_keeps 138 = .ok (.aload_n 0, 1) := by decide +kernel
theorem dX10_keeps_139 : decode cX10_keeps 139 = .ok (.aload_n 0, 1) := by decide +kernel
theorem dX10_keeps_140 : decode cX10_keeps 140 = .ok (.getfield 46, 3) := by decide +kernel
theorem dX10_keeps_143 : decode cX10_keeps 143 = .ok (.bipush 8, 2) := by decide +kernel
theorem dX10_keeps_145 : decode cX10_keeps 145 = .ok (.iload_n 1, 1) := by decide +kernel
theorem dX10_keeps_146 : decode cX10_keeps 146 = .ok (.imul, 1) := by decide +kernel
theorem dX10_keeps_147 : decode cX10_keeps 147 = .ok (.iload_n 2, 1) := by decide +kernel
theorem dX10_keeps_148 : decode cX10_keeps 148 = .ok (.iadd, 1) := by decide +kernel
theorem dX10_keeps_149 : decode cX10_keeps 149 = .ok (.iaload, 1) := by decide +kernel
theorem dX10_keeps_150 : decode cX10_keeps 150 = .ok (.invokevirtual 198, 3) := by decide +kernel
theorem dX10_keeps_153 : decode cX10_keeps 153 = .ok (.istore_n 3, 1) := by decide +kernel
theorem dX10_keeps_154 : decode cX10_keeps 154 = .ok (.iconst 0, 1) := by decide +kernel
theorem dX10_keeps_155 : decode cX10_keeps 155 = .ok (.istore 4, 2) := by decide +kernel
theorem dX10_keeps_157 : decode cX10_keeps 157 = .ok (.iload 4, 2) := by decide +kernel
theorem dX10_keeps_159 : decode cX10_keeps 159 = .ok (.aload_n 0, 1) := by decide +kernel
theorem dX10_keeps_160 : decode cX10_keeps 160 = .ok (.getfield 186, 3) := by decide +kernel
theorem dX10_keeps_163 : decode cX10_keeps 163 = .ok (.if_icmp .ge 43, 3) := by decide +kernel
theorem dX10_keeps_166 : decode cX10_keeps 166 = .ok (.aload_n 0, 1) := by decide +kernel
theorem dX10_keeps_167 : decode cX10_keeps 167 = .ok (.getfield 49, 3) := by decide +kernel
theorem dX10_keeps_170 : decode cX10_keeps 170 = .ok (.bipush 8, 2) := by decide +kernel
theorem dX10_keeps_172 : decode cX10_keeps 172 = .ok (.aload_n 0, 1) := by decide +kernel
theorem dX10_keeps_173 : decode cX10_keeps 173 = .ok (.getfield 195, 3) := by decide +kernel
theorem dX10_keeps_176 : decode cX10_keeps 176 = .ok (.imul, 1) := by decide +kernel
theorem dX10_keeps_177 : decode cX10_keeps 177 = .ok (.iload 4, 2) := by decide +kernel
theorem dX10_keeps_179 : decode cX10_keeps 179 = .ok (.iadd, 1) := by decide +kernel
theorem dX10_keeps_180 : decode cX10_keeps 180 = .ok (.aload_n 0, 1) := by decide +kernel
theorem dX10_keeps_181 : decode cX10_keeps 181 = .ok (.getfield 46, 3) := by decide +kernel
theorem dX10_keeps_184 : decode cX10_keeps 184 = .ok (.bipush 8, 2) := by decide +kernel
theorem dX10_keeps_186 : decode cX10_keeps 186 = .ok (.iload_n 1, 1) := by decide +kernel
theorem dX10_keeps_187 : decode cX10_keeps 187 = .ok (.imul, 1) := by decide +kernel
theorem dX10_keeps_188 : decode cX10_keeps 188 = .ok (.iload 4, 2) := by decide +kernel
theorem dX10_keeps_190 : decode cX10_keeps 190 = .ok (.iadd, 1) := by decide +kernel
theorem dX10_keeps_191 : decode cX10_keeps 191 = .ok (.iaload, 1) := by decide +kernel
theorem dX10_keeps_192 : decode cX10_keeps 192 = .ok (.iload_n 3, 1) := by decide +kernel
theorem dX10_keeps_193 : decode cX10_keeps 193 = .ok (.imul, 1) := by decide +kernel
theorem dX10_keeps_194 : decode cX10_keeps 194 = .ok (.aload_n 0, 1) := by decide +kernel
theorem dX10_keeps_195 : decode cX10_keeps 195 = .ok (.invokevirtual 76, 3) := by decide +kernel
theorem dX10_keeps_198 : decode cX10_keeps 198 = .ok (.irem, 1) := by decide +kernel
theorem dX10_keeps_199 : decode cX10_keeps 199 = .ok (.iastore, 1) := by decide +kernel
theorem dX10_keeps_200 : decode cX10_keeps 200 = .ok (.iinc 4 1, 3) := by decide +kernel
theorem dX10_keeps_203 : decode cX10_keeps 203 = .ok (.goto (-46), 3) := by decide +kernel
theorem dX10_keeps_206 : decode cX10_keeps 206 = .ok (.aload_n 0, 1) := by decide +kernel
theorem dX10_keeps_207 : decode cX10_keeps 207 = .ok (.getfield 52, 3) := by decide +kernel
theorem dX10_keeps_210 : decode cX10_keeps 210 = .ok (.aload_n 0, 1) := by decide +kernel
theorem dX10_keeps_211 : decode cX10_keeps 211 = .ok (.getfield 195, 3) := by decide +kernel
theorem dX10_keeps_214 : decode cX10_keeps 214 = .ok (.iload_n 2, 1) := by decide +kernel
theorem dX10_keeps_215 : decode cX10_keeps 215 = .ok (.iastore, 1) := by decide +kernel
theorem dX10_keeps_216 : decode cX10_keeps 216 = .ok (.aload_n 0, 1) := by decide +kernel
theorem dX10_keeps_217 : decode cX10_keeps 217 = .ok (.dup, 1) := by decide +kernel
theorem dX10_keeps_218 : decode cX10_keeps 218 = .ok (.getfield 195, 3) := by decide +kernel
theorem dX10_keeps_221 : decode cX10_keeps 221 = .ok (.iconst 1, 1) := by decide +kernel
theorem dX10_keeps_222 : decode cX10_keeps 222 = .ok (.iadd, 1) := by decide +kernel
theorem dX10_keeps_223 : decode cX10_keeps 223 = .ok (.putfield 195, 3) := by decide +kernel
theorem dX10_keeps_226 : decode cX10_keeps 226 = .ok (.iconst 1, 1) := by decide +kernel
theorem dX10_keeps_227 : decode cX10_keeps 227 = .ok (.ireturn, 1) := by decide +kernel
theorem dX10_independent_0 : decode cX10_independent 0 = .ok (.aload_n 0, 1) := by decide +kernel
theorem dX10_independent_1 : decode cX10_independent 1 = .ok (.iconst 0, 1) := by decide +kernel
theorem dX10_independent_2 : decode cX10_independent 2 = .ok (.putfield 195, 3) := by decide +kernel
theorem dX10_independent_5 : decode cX10_independent 5 = .ok (.iconst 0, 1) := by decide +kernel
theorem dX10_independent_6 : decode cX10_independent 6 = .ok (.istore_n 2, 1) := by decide +kernel
theorem dX10_independent_7 : decode cX10_independent 7 = .ok (.iload_n 1, 1) := by decide +kernel
theorem dX10_independent_8 : decode cX10_independent 8 = .ok (.istore_n 3, 1) := by decide +kernel
theorem dX10_independent_9 : decode cX10_independent 9 = .ok (.iload_n 3, 1) := by decide +kernel
theorem dX10_independent_10 : decode cX10_independent 10 = .ok (.aload_n 0, 1) := by decide +kernel
theorem dX10_independent_11 : decode cX10_independent 11 = .ok (.getfield 186, 3) := by decide +kernel
theorem dX10_independent_14 : decode cX10_independent 14 = .ok (.if_icmp .ge 27, 3) := by decide +kernel
theorem dX10_independent_17 : decode cX10_independent 17 = .ok (.iload_n 2, 1) := by decide +kernel
theorem dX10_independent_18 : decode cX10_independent 18 = .ok (.aload_n 0, 1) := by decide +kernel
theorem dX10_independent_19 : decode cX10_independent 19 = .ok (.iload_n 3, 1) := by decide +kernel
theorem dX10_independent_20 : decode cX10_independent 20 = .ok (.invokevirtual 201, 3) := by decide +kernel
theorem dX10_independent_23 : decode cX10_independent 23 = .ok (.ifCond .eq 9, 3) := by decide +kernel
theorem dX10_independent_26 : decode cX10_independent 26 = .ok (.iconst 1, 1) := by decide +kernel
theorem dX10_independent_27 : decode cX10_independent 27 = .ok (.iload_n 3, 1) := by decide +kernel
theorem dX10_independent_28 : decode cX10_independent 28 = .ok (.ishl, 1) := by decide +kernel
theorem dX10_independent_29 : decode cX10_independent 29 = .ok (.goto 4, 3) := by decide +kernel
theorem dX10_independent_32 : decode cX10_independent 32 = .ok (.iconst 0, 1) := by decide +kernel
theorem dX10_independent_33 : decode cX10_independent 33 = .ok (.ior, 1) := by decide +kernel
theorem dX10_independent_34 : decode cX10_independent 34 = .ok (.istore_n 2, 1) := by decide +kernel
theorem dX10_independent_35 : decode cX10_independent 35 = .ok (.iinc 3 1, 3) := by decide +kernel
theorem dX10_independent_38 : decode cX10_independent 38 = .ok (.goto (-29), 3) := by decide +kernel
theorem dX10_independent_41 : decode cX10_independent 41 = .ok (.iload_n 2, 1) := by decide +kernel
theorem dX10_independent_42 : decode cX10_independent 42 = .ok (.ireturn, 1) := by decide +kernel
theorem dX10_bits_0 : decode cX10_bits 0 = .ok (.iconst 0, 1) := by decide +kernel
theorem dX10_bits_1 : decode cX10_bits 1 = .ok (.istore_n 1, 1) := by decide +kernel
theorem dX10_bits_2 : decode cX10_bits 2 = .ok (.iconst 0, 1) := by decide +kernel
theorem dX10_bits_3 : decode cX10_bits 3 = .ok (.istore_n 2, 1) := by decide +kernel
theorem dX10_bits_4 : decode cX10_bits 4 = .ok (.iload_n 2, 1) := by decide +kernel
theorem dX10_bits_5 : decode cX10_bits 5 = .ok (.bipush 31, 2) := by decide +kernel
theorem dX10_bits_7 : decode cX10_bits 7 = .ok (.if_icmp .ge 17, 3) := by decide +kernel
theorem dX10_bits_10 : decode cX10_bits 10 = .ok (.iload_n 1, 1) := by decide +kernel
theorem dX10_bits_11 : decode cX10_bits 11 = .ok (.iload_n 0, 1) := by decide +kernel
theorem dX10_bits_12 : decode cX10_bits 12 = .ok (.iload_n 2, 1) := by decide +kernel
theorem dX10_bits_13 : decode cX10_bits 13 = .ok (.ishr, 1) := by decide +kernel
theorem dX10_bits_14 : decode cX10_bits 14 = .ok (.iconst 1, 1) := by decide +kernel
theorem dX10_bits_15 : decode cX10_bits 15 = .ok (.iand, 1) := by decide +kernel
theorem dX10_bits_16 : decode cX10_bits 16 = .ok (.iadd, 1) := by decide +kernel
theorem dX10_bits_17 : decode cX10_bits 17 = .ok (.istore_n 1, 1) := by decide +kernel
theorem dX10_bits_18 : decode cX10_bits 18 = .ok (.iinc 2 1, 3) := by decide +kernel
theorem dX10_bits_21 : decode cX10_bits 21 = .ok (.goto (-17), 3) := by decide +kernel
theorem dX10_bits_24 : decode cX10_bits 24 = .ok (.iload_n 1, 1) := by decide +kernel
theorem dX10_bits_25 : decode cX10_bits 25 = .ok (.ireturn, 1) := by decide +kernel
theorem dX10_findsRanks_0 : decode cX10_findsRanks 0 = .ok (.aload_n 0, 1) := by decide +kernel
theorem dX10_findsRanks_1 : decode cX10_findsRanks 1 = .ok (.bipush (-9), 2) := by decide +kernel
theorem dX10_findsRanks_3 : decode cX10_findsRanks 3 = .ok (.putfield 204, 3) := by decide +kernel
theorem dX10_findsRanks_6 : decode cX10_findsRanks 6 = .ok (.iconst 0, 1) := by decide +kernel
theorem dX10_findsRanks_7 : decode cX10_findsRanks 7 = .ok (.istore_n 1, 1) := by decide +kernel
theorem dX10_findsRanks_8 : decode cX10_findsRanks 8 = .ok (.iconst 0, 1) := by decide +kernel
theorem dX10_findsRanks_9 : decode cX10_findsRanks 9 = .ok (.istore_n 2, 1) := by decide +kernel
theorem dX10_findsRanks_10 : decode cX10_findsRanks 10 = .ok (.iload_n 2, 1) := by decide +kernel
theorem dX10_findsRanks_11 : decode cX10_findsRanks 11 = .ok (.aload_n 0, 1) := by decide +kernel
theorem dX10_findsRanks_12 : decode cX10_findsRanks 12 = .ok (.invokevirtual 76, 3) := by decide +kernel
theorem dX10_findsRanks_15 : decode cX10_findsRanks 15 = .ok (.if_icmp .ge 110, 3) := by decide +kernel
theorem dX10_findsRanks_18 : decode cX10_findsRanks 18 = .ok (.aload_n 0, 1) := by decide +kernel
theorem dX10_findsRanks_19 : decode cX10_findsRanks 19 = .ok (.iload_n 2, 1) := by decide +kernel
theorem dX10_findsRanks_20 : decode cX10_findsRanks 20 = .ok (.iconst 0, 1) := by decide +kernel
theorem dX10_findsRanks_21 : decode cX10_findsRanks 21 = .ok (.invokevirtual 207, 3) := by decide +kernel
theorem dX10_findsRanks_24 : decode cX10_findsRanks 24 = .ok (.aload_n 0, 1) := by decide +kernel
theorem dX10_findsRanks_25 : decode cX10_findsRanks 25 = .ok (.getfield 37, 3) := by decide +kernel
theorem dX10_findsRanks_28 : decode cX10_findsRanks 28 = .ok (.iload_n 2, 1) := by decide +kernel
theorem dX10_findsRanks_29 : decode cX10_findsRanks 29 = .ok (.aload_n 0, 1) := by decide +kernel
theorem dX10_findsRanks_30 : decode cX10_findsRanks 30 = .ok (.iconst 0, 1) := by decide +kernel
theorem dX10_findsRanks_31 : decode cX10_findsRanks 31 = .ok (.invokevirtual 211, 3) := by decide +kernel
theorem dX10_findsRanks_34 : decode cX10_findsRanks 34 = .ok (.invokestatic 214, 3) := by decide +kernel
theorem dX10_findsRanks_37 : decode cX10_findsRanks 37 = .ok (.iastore, 1) := by decide +kernel
theorem dX10_findsRanks_38 : decode cX10_findsRanks 38 = .ok (.aload_n 0, 1) := by decide +kernel
theorem dX10_findsRanks_39 : decode cX10_findsRanks 39 = .ok (.iload_n 2, 1) := by decide +kernel
theorem dX10_findsRanks_40 : decode cX10_findsRanks 40 = .ok (.iconst 0, 1) := by decide +kernel
theorem dX10_findsRanks_41 : decode cX10_findsRanks 41 = .ok (.invokevirtual 207, 3) := by decide +kernel
theorem dX10_findsRanks_44 : decode cX10_findsRanks 44 = .ok (.aload_n 0, 1) := by decide +kernel
theorem dX10_findsRanks_45 : decode cX10_findsRanks 45 = .ok (.iconst 1, 1) := by decide +kernel
theorem dX10_findsRanks_46 : decode cX10_findsRanks 46 = .ok (.invokevirtual 211, 3) := by decide +kernel
theorem dX10_findsRanks_49 : decode cX10_findsRanks 49 = .ok (.invokestatic 214, 3) := by decide +kernel
theorem dX10_findsRanks_52 : decode cX10_findsRanks 52 = .ok (.istore_n 3, 1) := by decide +kernel
theorem dX10_findsRanks_53 : decode cX10_findsRanks 53 = .ok (.iload_n 3, 1) := by decide +kernel
theorem dX10_findsRanks_54 : decode cX10_findsRanks 54 = .ok (.iload_n 1, 1) := by decide +kernel
theorem dX10_findsRanks_55 : decode cX10_findsRanks 55 = .ok (.if_icmp .le 7, 3) := by decide +kernel
theorem dX10_findsRanks_58 : decode cX10_findsRanks 58 = .ok (.iload_n 3, 1) := by decide +kernel
theorem dX10_findsRanks_59 : decode cX10_findsRanks 59 = .ok (.goto 4, 3) := by decide +kernel
theorem dX10_findsRanks_62 : decode cX10_findsRanks 62 = .ok (.iload_n 1, 1) := by decide +kernel
theorem dX10_findsRanks_63 : decode cX10_findsRanks 63 = .ok (.istore_n 1, 1) := by decide +kernel
theorem dX10_findsRanks_64 : decode cX10_findsRanks 64 = .ok (.aload_n 0, 1) := by decide +kernel
theorem dX10_findsRanks_65 : decode cX10_findsRanks 65 = .ok (.aload_n 0, 1) := by decide +kernel
theorem dX10_findsRanks_66 : decode cX10_findsRanks 66 = .ok (.getfield 37, 3) := by decide +kernel
theorem dX10_findsRanks_69 : decode cX10_findsRanks 69 = .ok (.iload_n 2, 1) := by decide +kernel
theorem dX10_findsRanks_70 : decode cX10_findsRanks 70 = .ok (.iaload, 1) := by decide +kernel
theorem dX10_findsRanks_71 : decode cX10_findsRanks 71 = .ok (.aload_n 0, 1) := by decide +kernel
theorem dX10_findsRanks_72 : decode cX10_findsRanks 72 = .ok (.getfield 204, 3) := by decide +kernel
theorem dX10_findsRanks_75 : decode cX10_findsRanks 75 = .ok (.if_icmp .le 7, 3) := by decide +kernel
theorem dX10_findsRanks_78 : decode cX10_findsRanks 78 = .ok (.iload_n 2, 1) := by decide +kernel
theorem dX10_findsRanks_79 : decode cX10_findsRanks 79 = .ok (.goto 7, 3) := by decide +kernel
theorem dX10_findsRanks_82 : decode cX10_findsRanks 82 = .ok (.aload_n 0, 1) := by decide +kernel
theorem dX10_findsRanks_83 : decode cX10_findsRanks 83 = .ok (.getfield 217, 3) := by decide +kernel
theorem dX10_findsRanks_86 : decode cX10_findsRanks 86 = .ok (.putfield 217, 3) := by decide +kernel
theorem dX10_findsRanks_89 : decode cX10_findsRanks 89 = .ok (.aload_n 0, 1) := by decide +kernel
theorem dX10_findsRanks_90 : decode cX10_findsRanks 90 = .ok (.aload_n 0, 1) := by decide +kernel
theorem dX10_findsRanks_91 : decode cX10_findsRanks 91 = .ok (.getfield 37, 3) := by decide +kernel
theorem dX10_findsRanks_94 : decode cX10_findsRanks 94 = .ok (.iload_n 2, 1) := by decide +kernel
theorem dX10_findsRanks_95 : decode cX10_findsRanks 95 = .ok (.iaload, 1) := by decide +kernel
theorem dX10_findsRanks_96 : decode cX10_findsRanks 96 = .ok (.aload_n 0, 1) := by decide +kernel
theorem dX10_findsRanks_97 : decode cX10_findsRanks 97 = .ok (.getfield 204, 3) := by decide +kernel
theorem dX10_findsRanks_100 : decode cX10_findsRanks 100 = .ok (.if_icmp .le 12, 3) := by decide +kernel
theorem dX10_findsRanks_103 : decode cX10_findsRanks 103 = .ok (.aload_n 0, 1) := by decide +kernel
theorem dX10_findsRanks_104 : decode cX10_findsRanks 104 = .ok (.getfield 37, 3) := by decide +kernel
theorem dX10_findsRanks_107 : decode cX10_findsRanks 107 = .ok (.iload_n 2, 1) := by decide +kernel
theorem dX10_findsRanks_108 : decode cX10_findsRanks 108 = .ok (.iaload, 1) := by decide +kernel
theorem dX10_findsRanks_109 : decode cX10_findsRanks 109 = .ok (.goto 7, 3) := by decide +kernel
theorem dX10_findsRanks_112 : decode cX10_findsRanks 112 = .ok (.aload_n 0, 1) := by decide +kernel
theorem dX10_findsRanks_113 : decode cX10_findsRanks 113 = .ok (.getfield 204, 3) := by decide +kernel
theorem dX10_findsRanks_116 : decode cX10_findsRanks 116 = .ok (.putfield 204, 3) := by decide +kernel
theorem dX10_findsRanks_119 : decode cX10_findsRanks 119 = .ok (.iinc 2 1, 3) := by decide +kernel
theorem dX10_findsRanks_122 : decode cX10_findsRanks 122 = .ok (.goto (-112), 3) := by decide +kernel
theorem dX10_findsRanks_125 : decode cX10_findsRanks 125 = .ok (.aload_n 0, 1) := by decide +kernel
theorem dX10_findsRanks_126 : decode cX10_findsRanks 126 = .ok (.iload_n 1, 1) := by decide +kernel
theorem dX10_findsRanks_127 : decode cX10_findsRanks 127 = .ok (.aload_n 0, 1) := by decide +kernel
theorem dX10_findsRanks_128 : decode cX10_findsRanks 128 = .ok (.getfield 204, 3) := by decide +kernel
theorem dX10_findsRanks_131 : decode cX10_findsRanks 131 = .ok (.if_icmp .ge 7, 3) := by decide +kernel
theorem dX10_findsRanks_134 : decode cX10_findsRanks 134 = .ok (.iconst 1, 1) := by decide +kernel
theorem dX10_findsRanks_135 : decode cX10_findsRanks 135 = .ok (.goto 4, 3) := by decide +kernel
theorem dX10_findsRanks_138 : decode cX10_findsRanks 138 = .ok (.iconst 0, 1) := by decide +kernel
theorem dX10_findsRanks_139 : decode cX10_findsRanks 139 = .ok (.putfield 220, 3) := by decide +kernel
theorem dX10_findsRanks_142 : decode cX10_findsRanks 142 = .ok (.aload_n 0, 1) := by decide +kernel
theorem dX10_findsRanks_143 : decode cX10_findsRanks 143 = .ok (.aload_n 0, 1) := by decide +kernel
theorem dX10_findsRanks_144 : decode cX10_findsRanks 144 = .ok (.getfield 217, 3) := by decide +kernel
theorem dX10_findsRanks_147 : decode cX10_findsRanks 147 = .ok (.iconst 0, 1) := by decide +kernel
theorem dX10_findsRanks_148 : decode cX10_findsRanks 148 = .ok (.invokevirtual 207, 3) := by decide +kernel
theorem dX10_findsRanks_151 : decode cX10_findsRanks 151 = .ok (.aload_n 0, 1) := by decide +kernel
theorem dX10_findsRanks_152 : decode cX10_findsRanks 152 = .ok (.aload_n 0, 1) := by decide +kernel
theorem dX10_findsRanks_153 : decode cX10_findsRanks 153 = .ok (.iconst 0, 1) := by decide +kernel
theorem dX10_findsRanks_154 : decode cX10_findsRanks 154 = .ok (.invokevirtual 211, 3) := by decide +kernel
theorem dX10_findsRanks_157 : decode cX10_findsRanks 157 = .ok (.putfield 223, 3) := by decide +kernel
theorem dX10_findsRanks_160 : decode cX10_findsRanks 160 = .ok (.aload_n 0, 1) := by decide +kernel
theorem dX10_findsRanks_161 : decode cX10_findsRanks 161 = .ok (.aload_n 0, 1) := by decide +kernel
theorem dX10_findsRanks_162 : decode cX10_findsRanks 162 = .ok (.getfield 217, 3) := by decide +kernel
theorem dX10_findsRanks_165 : decode cX10_findsRanks 165 = .ok (.iconst 1, 1) := by decide +kernel
theorem dX10_findsRanks_166 : decode cX10_findsRanks 166 = .ok (.invokevirtual 207, 3) := by decide +kernel
theorem dX10_findsRanks_169 : decode cX10_findsRanks 169 = .ok (.aload_n 0, 1) := by decide +kernel
theorem dX10_findsRanks_170 : decode cX10_findsRanks 170 = .ok (.aload_n 0, 1) := by decide +kernel
theorem dX10_findsRanks_171 : decode cX10_findsRanks 171 = .ok (.iconst 0, 1) := by decide +kernel
theorem dX10_findsRanks_172 : decode cX10_findsRanks 172 = .ok (.invokevirtual 211, 3) := by decide +kernel
theorem dX10_findsRanks_175 : decode cX10_findsRanks 175 = .ok (.putfield 226, 3) := by decide +kernel
theorem dX10_findsRanks_178 : decode cX10_findsRanks 178 = .ok (.return_, 1) := by decide +kernel
theorem dX10_place_0 : decode cX10_place 0 = .ok (.iconst 0, 1) := by decide +kernel
theorem dX10_place_1 : decode cX10_place 1 = .ok (.istore_n 2, 1) := by decide +kernel
theorem dX10_place_2 : decode cX10_place 2 = .ok (.iload_n 1, 1) := by decide +kernel
theorem dX10_place_3 : decode cX10_place 3 = .ok (.istore_n 3, 1) := by decide +kernel
theorem dX10_place_4 : decode cX10_place 4 = .ok (.iconst 0, 1) := by decide +kernel
theorem dX10_place_5 : decode cX10_place 5 = .ok (.istore 4, 2) := by decide +kernel
theorem dX10_place_7 : decode cX10_place 7 = .ok (.iload 4, 2) := by decide +kernel
theorem dX10_place_9 : decode cX10_place 9 = .ok (.bipush 8, 2) := by decide +kernel
theorem dX10_place_11 : decode cX10_place 11 = .ok (.if_icmp .ge 33, 3) := by decide +kernel
theorem dX10_place_14 : decode cX10_place 14 = .ok (.iload_n 0, 1) := by decide +kernel
theorem dX10_place_15 : decode cX10_place 15 = .ok (.iload 4, 2) := by decide +kernel
theorem dX10_place_17 : decode cX10_place 17 = .ok (.ishr, 1) := by decide +kernel
theorem dX10_place_18 : decode cX10_place 18 = .ok (.iconst 1, 1) := by decide +kernel
theorem dX10_place_19 : decode cX10_place 19 = .ok (.iand, 1) := by decide +kernel
theorem dX10_place_20 : decode cX10_place 20 = .ok (.iconst 1, 1) := by decide +kernel
theorem dX10_place_21 : decode cX10_place 21 = .ok (.if_icmp .ne 17, 3) := by decide +kernel
theorem dX10_place_24 : decode cX10_place 24 = .ok (.iload_n 3, 1) := by decide +kernel
theorem dX10_place_25 : decode cX10_place 25 = .ok (.ifCond .ne 8, 3) := by decide +kernel
theorem dX10_place_28 : decode cX10_place 28 = .ok (.iload 4, 2) := by decide +kernel
theorem dX10_place_30 : decode cX10_place 30 = .ok (.goto 4, 3) := by decide +kernel
theorem dX10_place_33 : decode cX10_place 33 = .ok (.iload_n 2, 1) := by decide +kernel
theorem dX10_place_34 : decode cX10_place 34 = .ok (.istore_n 2, 1) := by decide +kernel
theorem dX10_place_35 : decode cX10_place 35 = .ok (.iinc 3 (-1), 3) := by decide +kernel
theorem dX10_place_38 : decode cX10_place 38 = .ok (.iinc 4 1, 3) := by decide +kernel
theorem dX10_place_41 : decode cX10_place 41 = .ok (.goto (-34), 3) := by decide +kernel
theorem dX10_place_44 : decode cX10_place 44 = .ok (.iload_n 2, 1) := by decide +kernel
theorem dX10_place_45 : decode cX10_place 45 = .ok (.ireturn, 1) := by decide +kernel
theorem dX10_findsPart_0 : decode cX10_findsPart 0 = .ok (.iload_n 1, 1) := by decide +kernel
theorem dX10_findsPart_1 : decode cX10_findsPart 1 = .ok (.invokestatic 214, 3) := by decide +kernel
theorem dX10_findsPart_4 : decode cX10_findsPart 4 = .ok (.istore_n 2, 1) := by decide +kernel
theorem dX10_findsPart_5 : decode cX10_findsPart 5 = .ok (.aload_n 0, 1) := by decide +kernel
theorem dX10_findsPart_6 : decode cX10_findsPart 6 = .ok (.getfield 223, 3) := by decide +kernel
theorem dX10_findsPart_9 : decode cX10_findsPart 9 = .ok (.iload_n 2, 1) := by decide +kernel
theorem dX10_findsPart_10 : decode cX10_findsPart 10 = .ok (.iconst 1, 1) := by decide +kernel
theorem dX10_findsPart_11 : decode cX10_findsPart 11 = .ok (.isub, 1) := by decide +kernel
theorem dX10_findsPart_12 : decode cX10_findsPart 12 = .ok (.invokestatic 229, 3) := by decide +kernel
theorem dX10_findsPart_15 : decode cX10_findsPart 15 = .ok (.istore_n 3, 1) := by decide +kernel
theorem dX10_findsPart_16 : decode cX10_findsPart 16 = .ok (.iconst 0, 1) := by decide +kernel
theorem dX10_findsPart_17 : decode cX10_findsPart 17 = .ok (.istore 4, 2) := by decide +kernel
theorem dX10_findsPart_19 : decode cX10_findsPart 19 = .ok (.iload 4, 2) := by decide +kernel
theorem dX10_findsPart_21 : decode cX10_findsPart 21 = .ok (.bipush 49, 2) := by decide +kernel
theorem dX10_findsPart_23 : decode cX10_findsPart 23 = .ok (.if_icmp .ge 22, 3) := by decide +kernel
theorem dX10_findsPart_26 : decode cX10_findsPart 26 = .ok (.aload_n 0, 1) := by decide +kernel
theorem dX10_findsPart_27 : decode cX10_findsPart 27 = .ok (.getfield 55, 3) := by decide +kernel
theorem dX10_findsPart_30 : decode cX10_findsPart 30 = .ok (.bipush 49, 2) := by decide +kernel
theorem dX10_findsPart_32 : decode cX10_findsPart 32 = .ok (.iload_n 1, 1) := by decide +kernel
theorem dX10_findsPart_33 : decode cX10_findsPart 33 = .ok (.imul, 1) := by decide +kernel
theorem dX10_findsPart_34 : decode cX10_findsPart 34 = .ok (.iload 4, 2) := by decide +kernel
theorem dX10_findsPart_36 : decode cX10_findsPart 36 = .ok (.iadd, 1) := by decide +kernel
theorem dX10_findsPart_37 : decode cX10_findsPart 37 = .ok (.iconst 0, 1) := by decide +kernel
theorem dX10_findsPart_38 : decode cX10_findsPart 38 = .ok (.iastore, 1) := by decide +kernel
theorem dX10_findsPart_39 : decode cX10_findsPart 39 = .ok (.iinc 4 1, 3) := by decide +kernel
theorem dX10_findsPart_42 : decode cX10_findsPart 42 = .ok (.goto (-23), 3) := by decide +kernel
theorem dX10_findsPart_45 : decode cX10_findsPart 45 = .ok (.iload_n 2, 1) := by decide +kernel
theorem dX10_findsPart_46 : decode cX10_findsPart 46 = .ok (.iconst 1, 1) := by decide +kernel
theorem dX10_findsPart_47 : decode cX10_findsPart 47 = .ok (.isub, 1) := by decide +kernel
theorem dX10_findsPart_48 : decode cX10_findsPart 48 = .ok (.istore 4, 2) := by decide +kernel
theorem dX10_findsPart_50 : decode cX10_findsPart 50 = .ok (.iconst 0, 1) := by decide +kernel
theorem dX10_findsPart_51 : decode cX10_findsPart 51 = .ok (.istore 5, 2) := by decide +kernel
theorem dX10_findsPart_53 : decode cX10_findsPart 53 = .ok (.iload 5, 2) := by decide +kernel
theorem dX10_findsPart_55 : decode cX10_findsPart 55 = .ok (.aload_n 0, 1) := by decide +kernel
theorem dX10_findsPart_56 : decode cX10_findsPart 56 = .ok (.getfield 204, 3) := by decide +kernel
theorem dX10_findsPart_59 : decode cX10_findsPart 59 = .ok (.if_icmp .ge 167, 3) := by decide +kernel
theorem dX10_findsPart_62 : decode cX10_findsPart 62 = .ok (.iload_n 1, 1) := by decide +kernel
theorem dX10_findsPart_63 : decode cX10_findsPart 63 = .ok (.iload 5, 2) := by decide +kernel
theorem dX10_findsPart_65 : decode cX10_findsPart 65 = .ok (.ishr, 1) := by decide +kernel
theorem dX10_findsPart_66 : decode cX10_findsPart 66 = .ok (.iconst 1, 1) := by decide +kernel
theorem dX10_findsPart_67 : decode cX10_findsPart 67 = .ok (.iand, 1) := by decide +kernel
theorem dX10_findsPart_68 : decode cX10_findsPart 68 = .ok (.iconst 1, 1) := by decide +kernel
theorem dX10_findsPart_69 : decode cX10_findsPart 69 = .ok (.if_icmp .ne 151, 3) := by decide +kernel
theorem dX10_findsPart_72 : decode cX10_findsPart 72 = .ok (.aload_n 0, 1) := by decide +kernel
theorem dX10_findsPart_73 : decode cX10_findsPart 73 = .ok (.getfield 226, 3) := by decide +kernel
theorem dX10_findsPart_76 : decode cX10_findsPart 76 = .ok (.iload 5, 2) := by decide +kernel
theorem dX10_findsPart_78 : decode cX10_findsPart 78 = .ok (.invokestatic 229, 3) := by decide +kernel
theorem dX10_findsPart_81 : decode cX10_findsPart 81 = .ok (.istore 6, 2) := by decide +kernel
theorem dX10_findsPart_83 : decode cX10_findsPart 83 = .ok (.bipush 49, 2) := by decide +kernel
theorem dX10_findsPart_85 : decode cX10_findsPart 85 = .ok (.iload_n 1, 1) := by decide +kernel
theorem dX10_findsPart_86 : decode cX10_findsPart 86 = .ok (.iconst 1, 1) := by decide +kernel
theorem dX10_findsPart_87 : decode cX10_findsPart 87 = .ok (.iload 5, 2) := by decide +kernel
theorem dX10_findsPart_89 : decode cX10_findsPart 89 = .ok (.ishl, 1) := by decide +kernel
theorem dX10_findsPart_90 : decode cX10_findsPart 90 = .ok (.iconst (-1), 1) := by decide +kernel
theorem dX10_findsPart_91 : decode cX10_findsPart 91 = .ok (.ixor, 1) := by decide +kernel
theorem dX10_findsPart_92 : decode cX10_findsPart 92 = .ok (.iand, 1) := by decide +kernel
theorem dX10_findsPart_93 : decode cX10_findsPart 93 = .ok (.imul, 1) := by decide +kernel
theorem dX10_findsPart_94 : decode cX10_findsPart 94 = .ok (.istore 7, 2) := by decide +kernel
theorem dX10_findsPart_96 : decode cX10_findsPart 96 = .ok (.iconst 0, 1) := by decide +kernel
theorem dX10_findsPart_97 : decode cX10_findsPart 97 = .ok (.istore 8, 2) := by decide +kernel
theorem dX10_findsPart_99 : decode cX10_findsPart 99 = .ok (.iload 8, 2) := by decide +kernel
theorem dX10_findsPart_101 : decode cX10_findsPart 101 = .ok (.bipush 7, 2) := by decide +kernel
theorem dX10_findsPart_103 : decode cX10_findsPart 103 = .ok (.if_icmp .ge 114, 3) := by decide +kernel
theorem dX10_findsPart_106 : decode cX10_findsPart 106 = .ok (.aload_n 0, 1) := by decide +kernel
theorem dX10_findsPart_107 : decode cX10_findsPart 107 = .ok (.getfield 34, 3) := by decide +kernel
theorem dX10_findsPart_110 : decode cX10_findsPart 110 = .ok (.bipush 8, 2) := by decide +kernel
theorem dX10_findsPart_112 : decode cX10_findsPart 112 = .ok (.iload_n 3, 1) := by decide +kernel
theorem dX10_findsPart_113 : decode cX10_findsPart 113 = .ok (.imul, 1) := by decide +kernel
theorem dX10_findsPart_114 : decode cX10_findsPart 114 = .ok (.iload 6, 2) := by decide +kernel
theorem dX10_findsPart_116 : decode cX10_findsPart 116 = .ok (.iadd, 1) := by decide +kernel
theorem dX10_findsPart_117 : decode cX10_findsPart 117 = .ok (.bipush 7, 2) := by decide +kernel
theorem dX10_findsPart_119 : decode cX10_findsPart 119 = .ok (.imul, 1) := by decide +kernel
theorem dX10_findsPart_120 : decode cX10_findsPart 120 = .ok (.iload 8, 2) := by decide +kernel
theorem dX10_findsPart_122 : decode cX10_findsPart 122 = .ok (.iadd, 1) := by decide +kernel
theorem dX10_findsPart_123 : decode cX10_findsPart 123 = .ok (.iaload, 1) := by decide +kernel
theorem dX10_findsPart_124 : decode cX10_findsPart 124 = .ok (.iload 4, 2) := by decide +kernel
theorem dX10_findsPart_126 : decode cX10_findsPart 126 = .ok (.iconst 2, 1) := by decide +kernel
theorem dX10_findsPart_127 : decode cX10_findsPart 127 = .ok (.irem, 1) := by decide +kernel
theorem dX10_findsPart_128 : decode cX10_findsPart 128 = .ok (.ifCond .ne 7, 3) := by decide +kernel
theorem dX10_findsPart_131 : decode cX10_findsPart 131 = .ok (.iconst 1, 1) := by decide +kernel
theorem dX10_findsPart_132 : decode cX10_findsPart 132 = .ok (.goto 4, 3) := by decide +kernel
theorem dX10_findsPart_135 : decode cX10_findsPart 135 = .ok (.iconst (-1), 1) := by decide +kernel
theorem dX10_findsPart_136 : decode cX10_findsPart 136 = .ok (.imul, 1) := by decide +kernel
theorem dX10_findsPart_137 : decode cX10_findsPart 137 = .ok (.istore 9, 2) := by decide +kernel
theorem dX10_findsPart_139 : decode cX10_findsPart 139 = .ok (.iconst 0, 1) := by decide +kernel
theorem dX10_findsPart_140 : decode cX10_findsPart 140 = .ok (.istore 10, 2) := by decide +kernel
theorem dX10_findsPart_142 : decode cX10_findsPart 142 = .ok (.iload 10, 2) := by decide +kernel
theorem dX10_findsPart_144 : decode cX10_findsPart 144 = .ok (.iload 8, 2) := by decide +kernel
theorem dX10_findsPart_146 : decode cX10_findsPart 146 = .ok (.iadd, 1) := by decide +kernel
theorem dX10_findsPart_147 : decode cX10_findsPart 147 = .ok (.bipush 49, 2) := by decide +kernel
theorem dX10_findsPart_149 : decode cX10_findsPart 149 = .ok (.if_icmp .ge 62, 3) := by decide +kernel
theorem dX10_findsPart_152 : decode cX10_findsPart 152 = .ok (.iload 9, 2) := by decide +kernel
theorem dX10_findsPart_154 : decode cX10_findsPart 154 = .ok (.ifCond .eq 57, 3) := by decide +kernel
theorem dX10_findsPart_157 : decode cX10_findsPart 157 = .ok (.aload_n 0, 1) := by decide +kernel
theorem dX10_findsPart_158 : decode cX10_findsPart 158 = .ok (.getfield 55, 3) := by decide +kernel
theorem dX10_findsPart_161 : decode cX10_findsPart 161 = .ok (.bipush 49, 2) := by decide +kernel
theorem dX10_findsPart_163 : decode cX10_findsPart 163 = .ok (.iload_n 1, 1) := by decide +kernel
theorem dX10_findsPart_164 : decode cX10_findsPart 164 = .ok (.imul, 1) := by decide +kernel
theorem dX10_findsPart_165 : decode cX10_findsPart 165 = .ok (.iload 10, 2) := by decide +kernel
theorem dX10_findsPart_167 : decode cX10_findsPart 167 = .ok (.iadd, 1) := by decide +kernel
theorem dX10_findsPart_168 : decode cX10_findsPart 168 = .ok (.iload 8, 2) := by decide +kernel
theorem dX10_findsPart_170 : decode cX10_findsPart 170 = .ok (.iadd, 1) := by decide +kernel
theorem dX10_findsPart_171 : decode cX10_findsPart 171 = .ok (.aload_n 0, 1) := by decide +kernel
theorem dX10_findsPart_172 : decode cX10_findsPart 172 = .ok (.aload_n 0, 1) := by decide +kernel
theorem dX10_findsPart_173 : decode cX10_findsPart 173 = .ok (.getfield 55, 3) := by decide +kernel
theorem dX10_findsPart_176 : decode cX10_findsPart 176 = .ok (.bipush 49, 2) := by decide +kernel
theorem dX10_findsPart_178 : decode cX10_findsPart 178 = .ok (.iload_n 1, 1) := by decide +kernel
theorem dX10_findsPart_179 : decode cX10_findsPart 179 = .ok (.imul, 1) := by decide +kernel
theorem dX10_findsPart_180 : decode cX10_findsPart 180 = .ok (.iload 10, 2) := by decide +kernel
theorem dX10_findsPart_182 : decode cX10_findsPart 182 = .ok (.iadd, 1) := by decide +kernel
theorem dX10_findsPart_183 : decode cX10_findsPart 183 = .ok (.iload 8, 2) := by decide +kernel
theorem dX10_findsPart_185 : decode cX10_findsPart 185 = .ok (.iadd, 1) := by decide +kernel
theorem dX10_findsPart_186 : decode cX10_findsPart 186 = .ok (.iaload, 1) := by decide +kernel
theorem dX10_findsPart_187 : decode cX10_findsPart 187 = .ok (.iload 9, 2) := by decide +kernel
theorem dX10_findsPart_189 : decode cX10_findsPart 189 = .ok (.aload_n 0, 1) := by decide +kernel
theorem dX10_findsPart_190 : decode cX10_findsPart 190 = .ok (.getfield 55, 3) := by decide +kernel
theorem dX10_findsPart_193 : decode cX10_findsPart 193 = .ok (.iload 7, 2) := by decide +kernel
theorem dX10_findsPart_195 : decode cX10_findsPart 195 = .ok (.iload 10, 2) := by decide +kernel
theorem dX10_findsPart_197 : decode cX10_findsPart 197 = .ok (.iadd, 1) := by decide +kernel
theorem dX10_findsPart_198 : decode cX10_findsPart 198 = .ok (.iaload, 1) := by decide +kernel
theorem dX10_findsPart_199 : decode cX10_findsPart 199 = .ok (.imul, 1) := by decide +kernel
theorem dX10_findsPart_200 : decode cX10_findsPart 200 = .ok (.iadd, 1) := by decide +kernel
theorem dX10_findsPart_201 : decode cX10_findsPart 201 = .ok (.invokevirtual 128, 3) := by decide +kernel
theorem dX10_findsPart_204 : decode cX10_findsPart 204 = .ok (.iastore, 1) := by decide +kernel
theorem dX10_findsPart_205 : decode cX10_findsPart 205 = .ok (.iinc 10 1, 3) := by decide +kernel
theorem dX10_findsPart_208 : decode cX10_findsPart 208 = .ok (.goto (-66), 3) := by decide +kernel
theorem dX10_findsPart_211 : decode cX10_findsPart 211 = .ok (.iinc 8 1, 3) := by decide +kernel
theorem dX10_findsPart_214 : decode cX10_findsPart 214 = .ok (.goto (-115), 3) := by decide +kernel
theorem dX10_findsPart_217 : decode cX10_findsPart 217 = .ok (.iinc 4 (-1), 3) := by decide +kernel
theorem dX10_findsPart_220 : decode cX10_findsPart 220 = .ok (.iinc 5 1, 3) := by decide +kernel
theorem dX10_findsPart_223 : decode cX10_findsPart 223 = .ok (.goto (-170), 3) := by decide +kernel
theorem dX10_findsPart_226 : decode cX10_findsPart 226 = .ok (.return_, 1) := by decide +kernel
theorem dX10_findsEliminant_0 : decode cX10_findsEliminant 0 = .ok (.iconst 0, 1) := by decide +kernel
theorem dX10_findsEliminant_1 : decode cX10_findsEliminant 1 = .ok (.istore_n 1, 1) := by decide +kernel
theorem dX10_findsEliminant_2 : decode cX10_findsEliminant 2 = .ok (.iload_n 1, 1) := by decide +kernel
theorem dX10_findsEliminant_3 : decode cX10_findsEliminant 3 = .ok (.bipush 49, 2) := by decide +kernel
theorem dX10_findsEliminant_5 : decode cX10_findsEliminant 5 = .ok (.if_icmp .ge 24, 3) := by decide +kernel
theorem dX10_findsEliminant_8 : decode cX10_findsEliminant 8 = .ok (.aload_n 0, 1) := by decide +kernel
theorem dX10_findsEliminant_9 : decode cX10_findsEliminant 9 = .ok (.getfield 55, 3) := by decide +kernel
theorem dX10_findsEliminant_12 : decode cX10_findsEliminant 12 = .ok (.iload_n 1, 1) := by decide +kernel
theorem dX10_findsEliminant_13 : decode cX10_findsEliminant 13 = .ok (.iload_n 1, 1) := by decide +kernel
theorem dX10_findsEliminant_14 : decode cX10_findsEliminant 14 = .ok (.ifCond .ne 7, 3) := by decide +kernel
theorem dX10_findsEliminant_17 : decode cX10_findsEliminant 17 = .ok (.iconst 1, 1) := by decide +kernel
theorem dX10_findsEliminant_18 : decode cX10_findsEliminant 18 = .ok (.goto 4, 3) := by decide +kernel
theorem dX10_findsEliminant_21 : decode cX10_findsEliminant 21 = .ok (.iconst 0, 1) := by decide +kernel
theorem dX10_findsEliminant_22 : decode cX10_findsEliminant 22 = .ok (.iastore, 1) := by decide +kernel
theorem dX10_findsEliminant_23 : decode cX10_findsEliminant 23 = .ok (.iinc 1 1, 3) := by decide +kernel
theorem dX10_findsEliminant_26 : decode cX10_findsEliminant 26 = .ok (.goto (-24), 3) := by decide +kernel
theorem dX10_findsEliminant_29 : decode cX10_findsEliminant 29 = .ok (.iconst 1, 1) := by decide +kernel
theorem dX10_findsEliminant_30 : decode cX10_findsEliminant 30 = .ok (.istore_n 1, 1) := by decide +kernel
theorem dX10_findsEliminant_31 : decode cX10_findsEliminant 31 = .ok (.iload_n 1, 1) := by decide +kernel
theorem dX10_findsEliminant_32 : decode cX10_findsEliminant 32 = .ok (.iconst 1, 1) := by decide +kernel
theorem dX10_findsEliminant_33 : decode cX10_findsEliminant 33 = .ok (.aload_n 0, 1) := by decide +kernel
theorem dX10_findsEliminant_34 : decode cX10_findsEliminant 34 = .ok (.getfield 204, 3) := by decide +kernel
theorem dX10_findsEliminant_37 : decode cX10_findsEliminant 37 = .ok (.ishl, 1) := by decide +kernel
theorem dX10_findsEliminant_38 : decode cX10_findsEliminant 38 = .ok (.if_icmp .ge 14, 3) := by decide +kernel
theorem dX10_findsEliminant_41 : decode cX10_findsEliminant 41 = .ok (.aload_n 0, 1) := by decide +kernel
theorem dX10_findsEliminant_42 : decode cX10_findsEliminant 42 = .ok (.iload_n 1, 1) := by decide +kernel
theorem dX10_findsEliminant_43 : decode cX10_findsEliminant 43 = .ok (.invokevirtual 232, 3) := by decide +kernel
theorem dX10_findsEliminant_46 : decode cX10_findsEliminant 46 = .ok (.iinc 1 1, 3) := by decide +kernel
theorem dX10_findsEliminant_49 : decode cX10_findsEliminant 49 = .ok (.goto (-18), 3) := by decide +kernel
theorem dX10_findsEliminant_52 : decode cX10_findsEliminant 52 = .ok (.iconst 0, 1) := by decide +kernel
theorem dX10_findsEliminant_53 : decode cX10_findsEliminant 53 = .ok (.istore_n 1, 1) := by decide +kernel
theorem dX10_findsEliminant_54 : decode cX10_findsEliminant 54 = .ok (.iload_n 1, 1) := by decide +kernel
theorem dX10_findsEliminant_55 : decode cX10_findsEliminant 55 = .ok (.bipush 49, 2) := by decide +kernel
theorem dX10_findsEliminant_57 : decode cX10_findsEliminant 57 = .ok (.if_icmp .ge 45, 3) := by decide +kernel
theorem dX10_findsEliminant_60 : decode cX10_findsEliminant 60 = .ok (.aload_n 0, 1) := by decide +kernel
theorem dX10_findsEliminant_61 : decode cX10_findsEliminant 61 = .ok (.getfield 40, 3) := by decide +kernel
theorem dX10_findsEliminant_64 : decode cX10_findsEliminant 64 = .ok (.iload_n 1, 1) := by decide +kernel
theorem dX10_findsEliminant_65 : decode cX10_findsEliminant 65 = .ok (.aload_n 0, 1) := by decide +kernel
theorem dX10_findsEliminant_66 : decode cX10_findsEliminant 66 = .ok (.getfield 55, 3) := by decide +kernel
theorem dX10_findsEliminant_69 : decode cX10_findsEliminant 69 = .ok (.bipush 49, 2) := by decide +kernel
theorem dX10_findsEliminant_71 : decode cX10_findsEliminant 71 = .ok (.iconst 1, 1) := by decide +kernel
theorem dX10_findsEliminant_72 : decode cX10_findsEliminant 72 = .ok (.aload_n 0, 1) := by decide +kernel
theorem dX10_findsEliminant_73 : decode cX10_findsEliminant 73 = .ok (.getfield 204, 3) := by decide +kernel
theorem dX10_findsEliminant_76 : decode cX10_findsEliminant 76 = .ok (.ishl, 1) := by decide +kernel
theorem dX10_findsEliminant_77 : decode cX10_findsEliminant 77 = .ok (.iconst 1, 1) := by decide +kernel
theorem dX10_findsEliminant_78 : decode cX10_findsEliminant 78 = .ok (.isub, 1) := by decide +kernel
theorem dX10_findsEliminant_79 : decode cX10_findsEliminant 79 = .ok (.imul, 1) := by decide +kernel
theorem dX10_findsEliminant_80 : decode cX10_findsEliminant 80 = .ok (.iload_n 1, 1) := by decide +kernel
theorem dX10_findsEliminant_81 : decode cX10_findsEliminant 81 = .ok (.iadd, 1) := by decide +kernel
theorem dX10_findsEliminant_82 : decode cX10_findsEliminant 82 = .ok (.iaload, 1) := by decide +kernel
theorem dX10_findsEliminant_83 : decode cX10_findsEliminant 83 = .ok (.iastore, 1) := by decide +kernel
theorem dX10_findsEliminant_84 : decode cX10_findsEliminant 84 = .ok (.aload_n 0, 1) := by decide +kernel
theorem dX10_findsEliminant_85 : decode cX10_findsEliminant 85 = .ok (.getfield 43, 3) := by decide +kernel
theorem dX10_findsEliminant_88 : decode cX10_findsEliminant 88 = .ok (.iload_n 1, 1) := by decide +kernel
theorem dX10_findsEliminant_89 : decode cX10_findsEliminant 89 = .ok (.aload_n 0, 1) := by decide +kernel
theorem dX10_findsEliminant_90 : decode cX10_findsEliminant 90 = .ok (.getfield 40, 3) := by decide +kernel
theorem dX10_findsEliminant_93 : decode cX10_findsEliminant 93 = .ok (.iload_n 1, 1) := by decide +kernel
theorem dX10_findsEliminant_94 : decode cX10_findsEliminant 94 = .ok (.iaload, 1) := by decide +kernel
theorem dX10_findsEliminant_95 : decode cX10_findsEliminant 95 = .ok (.iastore, 1) := by decide +kernel
theorem dX10_findsEliminant_96 : decode cX10_findsEliminant 96 = .ok (.iinc 1 1, 3) := by decide +kernel
theorem dX10_findsEliminant_99 : decode cX10_findsEliminant 99 = .ok (.goto (-45), 3) := by decide +kernel
theorem dX10_findsEliminant_102 : decode cX10_findsEliminant 102 = .ok (.return_, 1) := by decide +kernel
theorem dX10_valueAt_0 : decode cX10_valueAt 0 = .ok (.iconst 0, 1) := by decide +kernel
theorem dX10_valueAt_1 : decode cX10_valueAt 1 = .ok (.istore_n 3, 1) := by decide +kernel
theorem dX10_valueAt_2 : decode cX10_valueAt 2 = .ok (.bipush 48, 2) := by decide +kernel
theorem dX10_valueAt_4 : decode cX10_valueAt 4 = .ok (.istore 4, 2) := by decide +kernel
theorem dX10_valueAt_6 : decode cX10_valueAt 6 = .ok (.iload 4, 2) := by decide +kernel
theorem dX10_valueAt_8 : decode cX10_valueAt 8 = .ok (.ifCond .lt 23, 3) := by decide +kernel
theorem dX10_valueAt_11 : decode cX10_valueAt 11 = .ok (.iload_n 3, 1) := by decide +kernel
theorem dX10_valueAt_12 : decode cX10_valueAt 12 = .ok (.iload_n 2, 1) := by decide +kernel
theorem dX10_valueAt_13 : decode cX10_valueAt 13 = .ok (.imul, 1) := by decide +kernel
theorem dX10_valueAt_14 : decode cX10_valueAt 14 = .ok (.aload_n 1, 1) := by decide +kernel
theorem dX10_valueAt_15 : decode cX10_valueAt 15 = .ok (.iload 4, 2) := by decide +kernel
theorem dX10_valueAt_17 : decode cX10_valueAt 17 = .ok (.iaload, 1) := by decide +kernel
theorem dX10_valueAt_18 : decode cX10_valueAt 18 = .ok (.iadd, 1) := by decide +kernel
theorem dX10_valueAt_19 : decode cX10_valueAt 19 = .ok (.aload_n 0, 1) := by decide +kernel
theorem dX10_valueAt_20 : decode cX10_valueAt 20 = .ok (.invokevirtual 76, 3) := by decide +kernel
theorem dX10_valueAt_23 : decode cX10_valueAt 23 = .ok (.irem, 1) := by decide +kernel
theorem dX10_valueAt_24 : decode cX10_valueAt 24 = .ok (.istore_n 3, 1) := by decide +kernel
theorem dX10_valueAt_25 : decode cX10_valueAt 25 = .ok (.iinc 4 (-1), 3) := by decide +kernel
theorem dX10_valueAt_28 : decode cX10_valueAt 28 = .ok (.goto (-22), 3) := by decide +kernel
theorem dX10_valueAt_31 : decode cX10_valueAt 31 = .ok (.iload_n 3, 1) := by decide +kernel
theorem dX10_valueAt_32 : decode cX10_valueAt 32 = .ok (.ireturn, 1) := by decide +kernel
theorem dX10_divides_0 : decode cX10_divides 0 = .ok (.iconst 0, 1) := by decide +kernel
theorem dX10_divides_1 : decode cX10_divides 1 = .ok (.istore_n 3, 1) := by decide +kernel
theorem dX10_divides_2 : decode cX10_divides 2 = .ok (.bipush 48, 2) := by decide +kernel
theorem dX10_divides_4 : decode cX10_divides 4 = .ok (.istore 4, 2) := by decide +kernel
theorem dX10_divides_6 : decode cX10_divides 6 = .ok (.iload 4, 2) := by decide +kernel
theorem dX10_divides_8 : decode cX10_divides 8 = .ok (.ifCond .lt 32, 3) := by decide +kernel
theorem dX10_divides_11 : decode cX10_divides 11 = .ok (.aload_n 1, 1) := by decide +kernel
theorem dX10_divides_12 : decode cX10_divides 12 = .ok (.iload 4, 2) := by decide +kernel
theorem dX10_divides_14 : decode cX10_divides 14 = .ok (.iaload, 1) := by decide +kernel
theorem dX10_divides_15 : decode cX10_divides 15 = .ok (.iload_n 3, 1) := by decide +kernel
theorem dX10_divides_16 : decode cX10_divides 16 = .ok (.iload_n 2, 1) := by decide +kernel
theorem dX10_divides_17 : decode cX10_divides 17 = .ok (.imul, 1) := by decide +kernel
theorem dX10_divides_18 : decode cX10_divides 18 = .ok (.iadd, 1) := by decide +kernel
theorem dX10_divides_19 : decode cX10_divides 19 = .ok (.aload_n 0, 1) := by decide +kernel
theorem dX10_divides_20 : decode cX10_divides 20 = .ok (.invokevirtual 76, 3) := by decide +kernel
theorem dX10_divides_23 : decode cX10_divides 23 = .ok (.irem, 1) := by decide +kernel
theorem dX10_divides_24 : decode cX10_divides 24 = .ok (.istore 5, 2) := by decide +kernel
theorem dX10_divides_26 : decode cX10_divides 26 = .ok (.aload_n 1, 1) := by decide +kernel
theorem dX10_divides_27 : decode cX10_divides 27 = .ok (.iload 4, 2) := by decide +kernel
theorem dX10_divides_29 : decode cX10_divides 29 = .ok (.iload_n 3, 1) := by decide +kernel
theorem dX10_divides_30 : decode cX10_divides 30 = .ok (.iastore, 1) := by decide +kernel
theorem dX10_divides_31 : decode cX10_divides 31 = .ok (.iload 5, 2) := by decide +kernel
theorem dX10_divides_33 : decode cX10_divides 33 = .ok (.istore_n 3, 1) := by decide +kernel
theorem dX10_divides_34 : decode cX10_divides 34 = .ok (.iinc 4 (-1), 3) := by decide +kernel
theorem dX10_divides_37 : decode cX10_divides 37 = .ok (.goto (-31), 3) := by decide +kernel
theorem dX10_divides_40 : decode cX10_divides 40 = .ok (.return_, 1) := by decide +kernel
theorem dX10_degreeIn_0 : decode cX10_degreeIn 0 = .ok (.bipush 48, 2) := by decide +kernel
theorem dX10_degreeIn_2 : decode cX10_degreeIn 2 = .ok (.istore_n 1, 1) := by decide +kernel
theorem dX10_degreeIn_3 : decode cX10_degreeIn 3 = .ok (.iload_n 1, 1) := by decide +kernel
theorem dX10_degreeIn_4 : decode cX10_degreeIn 4 = .ok (.ifCond .le 15, 3) := by decide +kernel
theorem dX10_degreeIn_7 : decode cX10_degreeIn 7 = .ok (.aload_n 0, 1) := by decide +kernel
theorem dX10_degreeIn_8 : decode cX10_degreeIn 8 = .ok (.iload_n 1, 1) := by decide +kernel
theorem dX10_degreeIn_9 : decode cX10_degreeIn 9 = .ok (.iaload, 1) := by decide +kernel
theorem dX10_degreeIn_10 : decode cX10_degreeIn 10 = .ok (.ifCond .ne 9, 3) := by decide +kernel
theorem dX10_degreeIn_13 : decode cX10_degreeIn 13 = .ok (.iinc 1 (-1), 3) := by decide +kernel
theorem dX10_degreeIn_16 : decode cX10_degreeIn 16 = .ok (.goto (-13), 3) := by decide +kernel
theorem dX10_degreeIn_19 : decode cX10_degreeIn 19 = .ok (.iload_n 1, 1) := by decide +kernel
theorem dX10_degreeIn_20 : decode cX10_degreeIn 20 = .ok (.ireturn, 1) := by decide +kernel
theorem dX10_reduces_0 : decode cX10_reduces 0 = .ok (.aload_n 0, 1) := by decide +kernel
theorem dX10_reduces_1 : decode cX10_reduces 1 = .ok (.invokevirtual 235, 3) := by decide +kernel
theorem dX10_reduces_4 : decode cX10_reduces 4 = .ok (.aload_n 0, 1) := by decide +kernel
theorem dX10_reduces_5 : decode cX10_reduces 5 = .ok (.iconst 0, 1) := by decide +kernel
theorem dX10_reduces_6 : decode cX10_reduces 6 = .ok (.putfield 238, 3) := by decide +kernel
theorem dX10_reduces_9 : decode cX10_reduces 9 = .ok (.iconst 0, 1) := by decide +kernel
theorem dX10_reduces_10 : decode cX10_reduces 10 = .ok (.istore_n 1, 1) := by decide +kernel
theorem dX10_reduces_11 : decode cX10_reduces 11 = .ok (.iload_n 1, 1) := by decide +kernel
theorem dX10_reduces_12 : decode cX10_reduces 12 = .ok (.aload_n 0, 1) := by decide +kernel
theorem dX10_reduces_13 : decode cX10_reduces 13 = .ok (.invokevirtual 76, 3) := by decide +kernel
theorem dX10_reduces_16 : decode cX10_reduces 16 = .ok (.if_icmp .ge 86, 3) := by decide +kernel
theorem dX10_reduces_19 : decode cX10_reduces 19 = .ok (.aload_n 0, 1) := by decide +kernel
theorem dX10_reduces_20 : decode cX10_reduces 20 = .ok (.aload_n 0, 1) := by decide +kernel
theorem dX10_reduces_21 : decode cX10_reduces 21 = .ok (.getfield 40, 3) := by decide +kernel
theorem dX10_reduces_24 : decode cX10_reduces 24 = .ok (.iload_n 1, 1) := by decide +kernel
theorem dX10_reduces_25 : decode cX10_reduces 25 = .ok (.invokevirtual 241, 3) := by decide +kernel
theorem dX10_reduces_28 : decode cX10_reduces 28 = .ok (.ifCond .ne 18, 3) := by decide +kernel
theorem dX10_reduces_31 : decode cX10_reduces 31 = .ok (.aload_n 0, 1) := by decide +kernel
theorem dX10_reduces_32 : decode cX10_reduces 32 = .ok (.getfield 245, 3) := by decide +kernel
theorem dX10_reduces_35 : decode cX10_reduces 35 = .ok (.iload_n 1, 1) := by decide +kernel
theorem dX10_reduces_36 : decode cX10_reduces 36 = .ok (.ishr, 1) := by decide +kernel
theorem dX10_reduces_37 : decode cX10_reduces 37 = .ok (.iconst 1, 1) := by decide +kernel
theorem dX10_reduces_38 : decode cX10_reduces 38 = .ok (.iand, 1) := by decide +kernel
theorem dX10_reduces_39 : decode cX10_reduces 39 = .ok (.ifCond .ne 7, 3) := by decide +kernel
theorem dX10_reduces_42 : decode cX10_reduces 42 = .ok (.iconst 1, 1) := by decide +kernel
theorem dX10_reduces_43 : decode cX10_reduces 43 = .ok (.goto 4, 3) := by decide +kernel
theorem dX10_reduces_46 : decode cX10_reduces 46 = .ok (.iconst 0, 1) := by decide +kernel
theorem dX10_reduces_47 : decode cX10_reduces 47 = .ok (.istore_n 2, 1) := by decide +kernel
theorem dX10_reduces_48 : decode cX10_reduces 48 = .ok (.aload_n 0, 1) := by decide +kernel
theorem dX10_reduces_49 : decode cX10_reduces 49 = .ok (.dup, 1) := by decide +kernel
theorem dX10_reduces_50 : decode cX10_reduces 50 = .ok (.getfield 238, 3) := by decide +kernel
theorem dX10_reduces_53 : decode cX10_reduces 53 = .ok (.iload_n 2, 1) := by decide +kernel
theorem dX10_reduces_54 : decode cX10_reduces 54 = .ok (.ifCond .eq 9, 3) := by decide +kernel
theorem dX10_reduces_57 : decode cX10_reduces 57 = .ok (.iconst 1, 1) := by decide +kernel
theorem dX10_reduces_58 : decode cX10_reduces 58 = .ok (.iload_n 1, 1) := by decide +kernel
theorem dX10_reduces_59 : decode cX10_reduces 59 = .ok (.ishl, 1) := by decide +kernel
theorem dX10_reduces_60 : decode cX10_reduces 60 = .ok (.goto 4, 3) := by decide +kernel
theorem dX10_reduces_63 : decode cX10_reduces 63 = .ok (.iconst 0, 1) := by decide +kernel
theorem dX10_reduces_64 : decode cX10_reduces 64 = .ok (.ior, 1) := by decide +kernel
theorem dX10_reduces_65 : decode cX10_reduces 65 = .ok (.putfield 238, 3) := by decide +kernel
theorem dX10_reduces_68 : decode cX10_reduces 68 = .ok (.iload_n 2, 1) := by decide +kernel
theorem dX10_reduces_69 : decode cX10_reduces 69 = .ok (.ifCond .eq 27, 3) := by decide +kernel
theorem dX10_reduces_72 : decode cX10_reduces 72 = .ok (.aload_n 0, 1) := by decide +kernel
theorem dX10_reduces_73 : decode cX10_reduces 73 = .ok (.aload_n 0, 1) := by decide +kernel
theorem dX10_reduces_74 : decode cX10_reduces 74 = .ok (.getfield 43, 3) := by decide +kernel
theorem dX10_reduces_77 : decode cX10_reduces 77 = .ok (.iload_n 1, 1) := by decide +kernel
theorem dX10_reduces_78 : decode cX10_reduces 78 = .ok (.invokevirtual 241, 3) := by decide +kernel
theorem dX10_reduces_81 : decode cX10_reduces 81 = .ok (.ifCond .ne 15, 3) := by decide +kernel
theorem dX10_reduces_84 : decode cX10_reduces 84 = .ok (.aload_n 0, 1) := by decide +kernel
theorem dX10_reduces_85 : decode cX10_reduces 85 = .ok (.aload_n 0, 1) := by decide +kernel
theorem dX10_reduces_86 : decode cX10_reduces 86 = .ok (.getfield 43, 3) := by decide +kernel
theorem dX10_reduces_89 : decode cX10_reduces 89 = .ok (.iload_n 1, 1) := by decide +kernel
theorem dX10_reduces_90 : decode cX10_reduces 90 = .ok (.invokevirtual 248, 3) := by decide +kernel
theorem dX10_reduces_93 : decode cX10_reduces 93 = .ok (.goto (-25), 3) := by decide +kernel
theorem dX10_reduces_96 : decode cX10_reduces 96 = .ok (.iinc 1 1, 3) := by decide +kernel
theorem dX10_reduces_99 : decode cX10_reduces 99 = .ok (.goto (-88), 3) := by decide +kernel
theorem dX10_reduces_102 : decode cX10_reduces 102 = .ok (.aload_n 0, 1) := by decide +kernel
theorem dX10_reduces_103 : decode cX10_reduces 103 = .ok (.aload_n 0, 1) := by decide +kernel
theorem dX10_reduces_104 : decode cX10_reduces 104 = .ok (.getfield 43, 3) := by decide +kernel
theorem dX10_reduces_107 : decode cX10_reduces 107 = .ok (.aload_n 0, 1) := by decide +kernel
theorem dX10_reduces_108 : decode cX10_reduces 108 = .ok (.getfield 43, 3) := by decide +kernel
theorem dX10_reduces_111 : decode cX10_reduces 111 = .ok (.invokestatic 252, 3) := by decide +kernel
theorem dX10_reduces_114 : decode cX10_reduces 114 = .ok (.iaload, 1) := by decide +kernel
theorem dX10_reduces_115 : decode cX10_reduces 115 = .ok (.invokevirtual 198, 3) := by decide +kernel
theorem dX10_reduces_118 : decode cX10_reduces 118 = .ok (.istore_n 1, 1) := by decide +kernel
theorem dX10_reduces_119 : decode cX10_reduces 119 = .ok (.iconst 0, 1) := by decide +kernel
theorem dX10_reduces_120 : decode cX10_reduces 120 = .ok (.istore_n 2, 1) := by decide +kernel
theorem dX10_reduces_121 : decode cX10_reduces 121 = .ok (.iload_n 2, 1) := by decide +kernel
theorem dX10_reduces_122 : decode cX10_reduces 122 = .ok (.bipush 49, 2) := by decide +kernel
theorem dX10_reduces_124 : decode cX10_reduces 124 = .ok (.if_icmp .ge 28, 3) := by decide +kernel
theorem dX10_reduces_127 : decode cX10_reduces 127 = .ok (.aload_n 0, 1) := by decide +kernel
theorem dX10_reduces_128 : decode cX10_reduces 128 = .ok (.getfield 43, 3) := by decide +kernel
theorem dX10_reduces_131 : decode cX10_reduces 131 = .ok (.iload_n 2, 1) := by decide +kernel
theorem dX10_reduces_132 : decode cX10_reduces 132 = .ok (.aload_n 0, 1) := by decide +kernel
theorem dX10_reduces_133 : decode cX10_reduces 133 = .ok (.getfield 43, 3) := by decide +kernel
theorem dX10_reduces_136 : decode cX10_reduces 136 = .ok (.iload_n 2, 1) := by decide +kernel
theorem dX10_reduces_137 : decode cX10_reduces 137 = .ok (.iaload, 1) := by decide +kernel
theorem dX10_reduces_138 : decode cX10_reduces 138 = .ok (.iload_n 1, 1) := by decide +kernel
theorem dX10_reduces_139 : decode cX10_reduces 139 = .ok (.imul, 1) := by decide +kernel
theorem dX10_reduces_140 : decode cX10_reduces 140 = .ok (.aload_n 0, 1) := by decide +kernel
theorem dX10_reduces_141 : decode cX10_reduces 141 = .ok (.invokevirtual 76, 3) := by decide +kernel
theorem dX10_reduces_144 : decode cX10_reduces 144 = .ok (.irem, 1) := by decide +kernel
theorem dX10_reduces_145 : decode cX10_reduces 145 = .ok (.iastore, 1) := by decide +kernel
theorem dX10_reduces_146 : decode cX10_reduces 146 = .ok (.iinc 2 1, 3) := by decide +kernel
theorem dX10_reduces_149 : decode cX10_reduces 149 = .ok (.goto (-28), 3) := by decide +kernel
theorem dX10_reduces_152 : decode cX10_reduces 152 = .ok (.return_, 1) := by decide +kernel
theorem dX10_knows_0 : decode cX10_knows 0 = .ok (.aload_n 0, 1) := by decide +kernel
theorem dX10_knows_1 : decode cX10_knows 1 = .ok (.getfield 95, 3) := by decide +kernel
theorem dX10_knows_4 : decode cX10_knows 4 = .ok (.ifCond .eq 4, 3) := by decide +kernel
theorem dX10_knows_7 : decode cX10_knows 7 = .ok (.return_, 1) := by decide +kernel
theorem dX10_knows_8 : decode cX10_knows 8 = .ok (.aload_n 0, 1) := by decide +kernel
theorem dX10_knows_9 : decode cX10_knows 9 = .ok (.iconst 1, 1) := by decide +kernel
theorem dX10_knows_10 : decode cX10_knows 10 = .ok (.putfield 95, 3) := by decide +kernel
theorem dX10_knows_13 : decode cX10_knows 13 = .ok (.aload_n 0, 1) := by decide +kernel
theorem dX10_knows_14 : decode cX10_knows 14 = .ok (.aload_n 0, 1) := by decide +kernel
theorem dX10_knows_15 : decode cX10_knows 15 = .ok (.iconst 0, 1) := by decide +kernel
theorem dX10_knows_16 : decode cX10_knows 16 = .ok (.invokevirtual 170, 3) := by decide +kernel
theorem dX10_knows_19 : decode cX10_knows 19 = .ok (.putfield 189, 3) := by decide +kernel
theorem dX10_knows_22 : decode cX10_knows 22 = .ok (.aload_n 0, 1) := by decide +kernel
theorem dX10_knows_23 : decode cX10_knows 23 = .ok (.aload_n 0, 1) := by decide +kernel
theorem dX10_knows_24 : decode cX10_knows 24 = .ok (.iconst 1, 1) := by decide +kernel
theorem dX10_knows_25 : decode cX10_knows 25 = .ok (.invokevirtual 170, 3) := by decide +kernel
theorem dX10_knows_28 : decode cX10_knows 28 = .ok (.putfield 256, 3) := by decide +kernel
theorem dX10_knows_31 : decode cX10_knows 31 = .ok (.aload_n 0, 1) := by decide +kernel
theorem dX10_knows_32 : decode cX10_knows 32 = .ok (.iconst 2, 1) := by decide +kernel
theorem dX10_knows_33 : decode cX10_knows 33 = .ok (.aload_n 0, 1) := by decide +kernel
theorem dX10_knows_34 : decode cX10_knows 34 = .ok (.getfield 189, 3) := by decide +kernel
theorem dX10_knows_37 : decode cX10_knows 37 = .ok (.imul, 1) := by decide +kernel
theorem dX10_knows_38 : decode cX10_knows 38 = .ok (.aload_n 0, 1) := by decide +kernel
theorem dX10_knows_39 : decode cX10_knows 39 = .ok (.getfield 256, 3) := by decide +kernel
theorem dX10_knows_42 : decode cX10_knows 42 = .ok (.imul, 1) := by decide +kernel
theorem dX10_knows_43 : decode cX10_knows 43 = .ok (.putfield 186, 3) := by decide +kernel
theorem dX10_knows_46 : decode cX10_knows 46 = .ok (.aload_n 0, 1) := by decide +kernel
theorem dX10_knows_47 : decode cX10_knows 47 = .ok (.invokevirtual 259, 3) := by decide +kernel
theorem dX10_knows_50 : decode cX10_knows 50 = .ok (.aload_n 0, 1) := by decide +kernel
theorem dX10_knows_51 : decode cX10_knows 51 = .ok (.invokevirtual 262, 3) := by decide +kernel
theorem dX10_knows_54 : decode cX10_knows 54 = .ok (.aload_n 0, 1) := by decide +kernel
theorem dX10_knows_55 : decode cX10_knows 55 = .ok (.invokevirtual 265, 3) := by decide +kernel
theorem dX10_knows_58 : decode cX10_knows 58 = .ok (.aload_n 0, 1) := by decide +kernel
theorem dX10_knows_59 : decode cX10_knows 59 = .ok (.invokevirtual 268, 3) := by decide +kernel
theorem dX10_knows_62 : decode cX10_knows 62 = .ok (.return_, 1) := by decide +kernel
theorem dX10_has_0 : decode cX10_has 0 = .ok (.aload_n 0, 1) := by decide +kernel
theorem dX10_has_1 : decode cX10_has 1 = .ok (.invokevirtual 271, 3) := by decide +kernel
theorem dX10_has_4 : decode cX10_has 4 = .ok (.istore_n 1, 1) := by decide +kernel
theorem dX10_has_5 : decode cX10_has 5 = .ok (.iload_n 1, 1) := by decide +kernel
theorem dX10_has_6 : decode cX10_has 6 = .ok (.ifCond .eq 7, 3) := by decide +kernel
theorem dX10_has_9 : decode cX10_has 9 = .ok (.aload_n 0, 1) := by decide +kernel
theorem dX10_has_10 : decode cX10_has 10 = .ok (.invokevirtual 274, 3) := by decide +kernel
theorem dX10_has_13 : decode cX10_has 13 = .ok (.iload_n 1, 1) := by decide +kernel
theorem dX10_has_14 : decode cX10_has 14 = .ok (.ireturn, 1) := by decide +kernel
theorem dX10_size_0 : decode cX10_size 0 = .ok (.aload_n 0, 1) := by decide +kernel
theorem dX10_size_1 : decode cX10_size 1 = .ok (.invokevirtual 271, 3) := by decide +kernel
theorem dX10_size_4 : decode cX10_size 4 = .ok (.ifCond .eq 19, 3) := by decide +kernel
theorem dX10_size_7 : decode cX10_size 7 = .ok (.iconst 2, 1) := by decide +kernel
theorem dX10_size_8 : decode cX10_size 8 = .ok (.aload_n 0, 1) := by decide +kernel
theorem dX10_size_9 : decode cX10_size 9 = .ok (.iconst 0, 1) := by decide +kernel
theorem dX10_size_10 : decode cX10_size 10 = .ok (.invokevirtual 170, 3) := by decide +kernel
theorem dX10_size_13 : decode cX10_size 13 = .ok (.imul, 1) := by decide +kernel
theorem dX10_size_14 : decode cX10_size 14 = .ok (.aload_n 0, 1) := by decide +kernel
theorem dX10_size_15 : decode cX10_size 15 = .ok (.iconst 1, 1) := by decide +kernel
theorem dX10_size_16 : decode cX10_size 16 = .ok (.invokevirtual 170, 3) := by decide +kernel
theorem dX10_size_19 : decode cX10_size 19 = .ok (.imul, 1) := by decide +kernel
theorem dX10_size_20 : decode cX10_size 20 = .ok (.goto 5, 3) := by decide +kernel
theorem dX10_size_23 : decode cX10_size 23 = .ok (.bipush (-2), 2) := by decide +kernel
theorem dX10_size_25 : decode cX10_size 25 = .ok (.ireturn, 1) := by decide +kernel
theorem dX10_isCell_0 : decode cX10_isCell 0 = .ok (.iload_n 1, 1) := by decide +kernel
theorem dX10_isCell_1 : decode cX10_isCell 1 = .ok (.iconst 0, 1) := by decide +kernel
theorem dX10_isCell_2 : decode cX10_isCell 2 = .ok (.aload_n 0, 1) := by decide +kernel
theorem dX10_isCell_3 : decode cX10_isCell 3 = .ok (.getfield 186, 3) := by decide +kernel
theorem dX10_isCell_6 : decode cX10_isCell 6 = .ok (.iconst 1, 1) := by decide +kernel
theorem dX10_isCell_7 : decode cX10_isCell 7 = .ok (.isub, 1) := by decide +kernel
theorem dX10_isCell_8 : decode cX10_isCell 8 = .ok (.invokestatic 80, 3) := by decide +kernel
theorem dX10_isCell_11 : decode cX10_isCell 11 = .ok (.ifCond .eq 21, 3) := by decide +kernel
theorem dX10_isCell_14 : decode cX10_isCell 14 = .ok (.iload_n 2, 1) := by decide +kernel
theorem dX10_isCell_15 : decode cX10_isCell 15 = .ok (.iconst 0, 1) := by decide +kernel
theorem dX10_isCell_16 : decode cX10_isCell 16 = .ok (.aload_n 0, 1) := by decide +kernel
theorem dX10_isCell_17 : decode cX10_isCell 17 = .ok (.getfield 186, 3) := by decide +kernel
theorem dX10_isCell_20 : decode cX10_isCell 20 = .ok (.iconst 1, 1) := by decide +kernel
theorem dX10_isCell_21 : decode cX10_isCell 21 = .ok (.isub, 1) := by decide +kernel
theorem dX10_isCell_22 : decode cX10_isCell 22 = .ok (.invokestatic 80, 3) := by decide +kernel
theorem dX10_isCell_25 : decode cX10_isCell 25 = .ok (.ifCond .eq 7, 3) := by decide +kernel
theorem dX10_isCell_28 : decode cX10_isCell 28 = .ok (.iconst 1, 1) := by decide +kernel
theorem dX10_isCell_29 : decode cX10_isCell 29 = .ok (.goto 4, 3) := by decide +kernel
theorem dX10_isCell_32 : decode cX10_isCell 32 = .ok (.iconst 0, 1) := by decide +kernel
theorem dX10_isCell_33 : decode cX10_isCell 33 = .ok (.ireturn, 1) := by decide +kernel
theorem dX10_entry_0 : decode cX10_entry 0 = .ok (.iload_n 3, 1) := by decide +kernel
theorem dX10_entry_1 : decode cX10_entry 1 = .ok (.iconst 0, 1) := by decide +kernel
theorem dX10_entry_2 : decode cX10_entry 2 = .ok (.bipush 6, 2) := by decide +kernel
theorem dX10_entry_4 : decode cX10_entry 4 = .ok (.invokestatic 80, 3) := by decide +kernel
theorem dX10_entry_7 : decode cX10_entry 7 = .ok (.ifCond .ne 5, 3) := by decide +kernel
theorem dX10_entry_10 : decode cX10_entry 10 = .ok (.iconst (-1), 1) := by decide +kernel
theorem dX10_entry_11 : decode cX10_entry 11 = .ok (.ireturn, 1) := by decide +kernel
theorem dX10_entry_12 : decode cX10_entry 12 = .ok (.aload_n 0, 1) := by decide +kernel
theorem dX10_entry_13 : decode cX10_entry 13 = .ok (.invokevirtual 277, 3) := by decide +kernel
theorem dX10_entry_16 : decode cX10_entry 16 = .ok (.ifCond .ne 6, 3) := by decide +kernel
theorem dX10_entry_19 : decode cX10_entry 19 = .ok (.bipush (-2), 2) := by decide +kernel
theorem dX10_entry_21 : decode cX10_entry 21 = .ok (.ireturn, 1) := by decide +kernel
theorem dX10_entry_22 : decode cX10_entry 22 = .ok (.aload_n 0, 1) := by decide +kernel
theorem dX10_entry_23 : decode cX10_entry 23 = .ok (.iload_n 1, 1) := by decide +kernel
theorem dX10_entry_24 : decode cX10_entry 24 = .ok (.iload_n 2, 1) := by decide +kernel
theorem dX10_entry_25 : decode cX10_entry 25 = .ok (.invokevirtual 280, 3) := by decide +kernel
theorem dX10_entry_28 : decode cX10_entry 28 = .ok (.ifCond .eq 22, 3) := by decide +kernel
theorem dX10_entry_31 : decode cX10_entry 31 = .ok (.aload_n 0, 1) := by decide +kernel
theorem dX10_entry_32 : decode cX10_entry 32 = .ok (.getfield 34, 3) := by decide +kernel
theorem dX10_entry_35 : decode cX10_entry 35 = .ok (.bipush 8, 2) := by decide +kernel
theorem dX10_entry_37 : decode cX10_entry 37 = .ok (.iload_n 1, 1) := by decide +kernel
theorem dX10_entry_38 : decode cX10_entry 38 = .ok (.imul, 1) := by decide +kernel
theorem dX10_entry_39 : decode cX10_entry 39 = .ok (.iload_n 2, 1) := by decide +kernel
theorem dX10_entry_40 : decode cX10_entry 40 = .ok (.iadd, 1) := by decide +kernel
theorem dX10_entry_41 : decode cX10_entry 41 = .ok (.bipush 7, 2) := by decide +kernel
theorem dX10_entry_43 : decode cX10_entry 43 = .ok (.imul, 1) := by decide +kernel
theorem dX10_entry_44 : decode cX10_entry 44 = .ok (.iload_n 3, 1) := by decide +kernel
theorem dX10_entry_45 : decode cX10_entry 45 = .ok (.iadd, 1) := by decide +kernel
theorem dX10_entry_46 : decode cX10_entry 46 = .ok (.iaload, 1) := by decide +kernel
theorem dX10_entry_47 : decode cX10_entry 47 = .ok (.goto 4, 3) := by decide +kernel
theorem dX10_entry_50 : decode cX10_entry 50 = .ok (.iconst (-1), 1) := by decide +kernel
theorem dX10_entry_51 : decode cX10_entry 51 = .ok (.ireturn, 1) := by decide +kernel
theorem dX10_entryAt_0 : decode cX10_entryAt 0 = .ok (.aload_n 0, 1) := by decide +kernel
theorem dX10_entryAt_1 : decode cX10_entryAt 1 = .ok (.iload_n 3, 1) := by decide +kernel
theorem dX10_entryAt_2 : decode cX10_entryAt 2 = .ok (.invokevirtual 142, 3) := by decide +kernel
theorem dX10_entryAt_5 : decode cX10_entryAt 5 = .ok (.ifCond .ne 5, 3) := by decide +kernel
theorem dX10_entryAt_8 : decode cX10_entryAt 8 = .ok (.iconst (-1), 1) := by decide +kernel
theorem dX10_entryAt_9 : decode cX10_entryAt 9 = .ok (.ireturn, 1) := by decide +kernel
theorem dX10_entryAt_10 : decode cX10_entryAt 10 = .ok (.aload_n 0, 1) := by decide +kernel
theorem dX10_entryAt_11 : decode cX10_entryAt 11 = .ok (.invokevirtual 277, 3) := by decide +kernel
theorem dX10_entryAt_14 : decode cX10_entryAt 14 = .ok (.ifCond .ne 6, 3) := by decide +kernel
theorem dX10_entryAt_17 : decode cX10_entryAt 17 = .ok (.bipush (-2), 2) := by decide +kernel
theorem dX10_entryAt_19 : decode cX10_entryAt 19 = .ok (.ireturn, 1) := by decide +kernel
theorem dX10_entryAt_20 : decode cX10_entryAt 20 = .ok (.aload_n 0, 1) := by decide +kernel
theorem dX10_entryAt_21 : decode cX10_entryAt 21 = .ok (.iload_n 1, 1) := by decide +kernel
theorem dX10_entryAt_22 : decode cX10_entryAt 22 = .ok (.iload_n 2, 1) := by decide +kernel
theorem dX10_entryAt_23 : decode cX10_entryAt 23 = .ok (.invokevirtual 280, 3) := by decide +kernel
theorem dX10_entryAt_26 : decode cX10_entryAt 26 = .ok (.ifCond .eq 13, 3) := by decide +kernel
theorem dX10_entryAt_29 : decode cX10_entryAt 29 = .ok (.aload_n 0, 1) := by decide +kernel
theorem dX10_entryAt_30 : decode cX10_entryAt 30 = .ok (.iload_n 1, 1) := by decide +kernel
theorem dX10_entryAt_31 : decode cX10_entryAt 31 = .ok (.iload_n 2, 1) := by decide +kernel
theorem dX10_entryAt_32 : decode cX10_entryAt 32 = .ok (.iload_n 3, 1) := by decide +kernel
theorem dX10_entryAt_33 : decode cX10_entryAt 33 = .ok (.invokevirtual 192, 3) := by decide +kernel
theorem dX10_entryAt_36 : decode cX10_entryAt 36 = .ok (.goto 4, 3) := by decide +kernel
theorem dX10_entryAt_39 : decode cX10_entryAt 39 = .ok (.iconst (-1), 1) := by decide +kernel
theorem dX10_entryAt_40 : decode cX10_entryAt 40 = .ok (.ireturn, 1) := by decide +kernel
theorem dX10_rankAt_0 : decode cX10_rankAt 0 = .ok (.aload_n 0, 1) := by decide +kernel
theorem dX10_rankAt_1 : decode cX10_rankAt 1 = .ok (.iload_n 1, 1) := by decide +kernel
theorem dX10_rankAt_2 : decode cX10_rankAt 2 = .ok (.invokevirtual 142, 3) := by decide +kernel
theorem dX10_rankAt_5 : decode cX10_rankAt 5 = .ok (.ifCond .ne 5, 3) := by decide +kernel
theorem dX10_rankAt_8 : decode cX10_rankAt 8 = .ok (.iconst (-1), 1) := by decide +kernel
theorem dX10_rankAt_9 : decode cX10_rankAt 9 = .ok (.ireturn, 1) := by decide +kernel
theorem dX10_rankAt_10 : decode cX10_rankAt 10 = .ok (.aload_n 0, 1) := by decide +kernel
theorem dX10_rankAt_11 : decode cX10_rankAt 11 = .ok (.invokevirtual 277, 3) := by decide +kernel
theorem dX10_rankAt_14 : decode cX10_rankAt 14 = .ok (.ifCond .eq 12, 3) := by decide +kernel
theorem dX10_rankAt_17 : decode cX10_rankAt 17 = .ok (.aload_n 0, 1) := by decide +kernel
theorem dX10_rankAt_18 : decode cX10_rankAt 18 = .ok (.getfield 37, 3) := by decide +kernel
theorem dX10_rankAt_21 : decode cX10_rankAt 21 = .ok (.iload_n 1, 1) := by decide +kernel
theorem dX10_rankAt_22 : decode cX10_rankAt 22 = .ok (.iaload, 1) := by decide +kernel
theorem dX10_rankAt_23 : decode cX10_rankAt 23 = .ok (.goto 5, 3) := by decide +kernel
theorem dX10_rankAt_26 : decode cX10_rankAt 26 = .ok (.bipush (-2), 2) := by decide +kernel
theorem dX10_rankAt_28 : decode cX10_rankAt 28 = .ok (.ireturn, 1) := by decide +kernel
theorem dX10_rank_0 : decode cX10_rank 0 = .ok (.aload_n 0, 1) := by decide +kernel
theorem dX10_rank_1 : decode cX10_rank 1 = .ok (.invokevirtual 277, 3) := by decide +kernel
theorem dX10_rank_4 : decode cX10_rank 4 = .ok (.ifCond .eq 10, 3) := by decide +kernel
theorem dX10_rank_7 : decode cX10_rank 7 = .ok (.aload_n 0, 1) := by decide +kernel
theorem dX10_rank_8 : decode cX10_rank 8 = .ok (.getfield 204, 3) := by decide +kernel
theorem dX10_rank_11 : decode cX10_rank 11 = .ok (.goto 5, 3) := by decide +kernel
theorem dX10_rank_14 : decode cX10_rank 14 = .ok (.bipush (-2), 2) := by decide +kernel
theorem dX10_rank_16 : decode cX10_rank 16 = .ok (.ireturn, 1) := by decide +kernel
theorem dX10_pivotPoint_0 : decode cX10_pivotPoint 0 = .ok (.aload_n 0, 1) := by decide +kernel
theorem dX10_pivotPoint_1 : decode cX10_pivotPoint 1 = .ok (.invokevirtual 277, 3) := by decide +kernel
theorem dX10_pivotPoint_4 : decode cX10_pivotPoint 4 = .ok (.ifCond .eq 10, 3) := by decide +kernel
theorem dX10_pivotPoint_7 : decode cX10_pivotPoint 7 = .ok (.aload_n 0, 1) := by decide +kernel
theorem dX10_pivotPoint_8 : decode cX10_pivotPoint 8 = .ok (.getfield 217, 3) := by decide +kernel
theorem dX10_pivotPoint_11 : decode cX10_pivotPoint 11 = .ok (.goto 5, 3) := by decide +kernel
theorem dX10_pivotPoint_14 : decode cX10_pivotPoint 14 = .ok (.bipush (-2), 2) := by decide +kernel
theorem dX10_pivotPoint_16 : decode cX10_pivotPoint 16 = .ok (.ireturn, 1) := by decide +kernel
theorem dX10_selected_0 : decode cX10_selected 0 = .ok (.aload_n 0, 1) := by decide +kernel
theorem dX10_selected_1 : decode cX10_selected 1 = .ok (.invokevirtual 277, 3) := by decide +kernel
theorem dX10_selected_4 : decode cX10_selected 4 = .ok (.ifCond .ne 8, 3) := by decide +kernel
theorem dX10_selected_7 : decode cX10_selected 7 = .ok (.bipush (-2), 2) := by decide +kernel
theorem dX10_selected_9 : decode cX10_selected 9 = .ok (.goto 18, 3) := by decide +kernel
theorem dX10_selected_12 : decode cX10_selected 12 = .ok (.iload_n 1, 1) := by decide +kernel
theorem dX10_selected_13 : decode cX10_selected 13 = .ok (.ifCond .eq 10, 3) := by decide +kernel
theorem dX10_selected_16 : decode cX10_selected 16 = .ok (.aload_n 0, 1) := by decide +kernel
theorem dX10_selected_17 : decode cX10_selected 17 = .ok (.getfield 223, 3) := by decide +kernel
theorem dX10_selected_20 : decode cX10_selected 20 = .ok (.goto 7, 3) := by decide +kernel
theorem dX10_selected_23 : decode cX10_selected 23 = .ok (.aload_n 0, 1) := by decide +kernel
theorem dX10_selected_24 : decode cX10_selected 24 = .ok (.getfield 226, 3) := by decide +kernel
theorem dX10_selected_27 : decode cX10_selected 27 = .ok (.ireturn, 1) := by decide +kernel
theorem dX10_rankDrops_0 : decode cX10_rankDrops 0 = .ok (.aload_n 0, 1) := by decide +kernel
theorem dX10_rankDrops_1 : decode cX10_rankDrops 1 = .ok (.invokevirtual 277, 3) := by decide +kernel
theorem dX10_rankDrops_4 : decode cX10_rankDrops 4 = .ok (.ifCond .ne 6, 3) := by decide +kernel
theorem dX10_rankDrops_7 : decode cX10_rankDrops 7 = .ok (.bipush (-2), 2) := by decide +kernel
theorem dX10_rankDrops_9 : decode cX10_rankDrops 9 = .ok (.ireturn, 1) := by decide +kernel
theorem dX10_rankDrops_10 : decode cX10_rankDrops 10 = .ok (.iconst 0, 1) := by decide +kernel
theorem dX10_rankDrops_11 : decode cX10_rankDrops 11 = .ok (.istore_n 1, 1) := by decide +kernel
theorem dX10_rankDrops_12 : decode cX10_rankDrops 12 = .ok (.iconst 0, 1) := by decide +kernel
theorem dX10_rankDrops_13 : decode cX10_rankDrops 13 = .ok (.istore_n 2, 1) := by decide +kernel
theorem dX10_rankDrops_14 : decode cX10_rankDrops 14 = .ok (.iload_n 2, 1) := by decide +kernel
theorem dX10_rankDrops_15 : decode cX10_rankDrops 15 = .ok (.aload_n 0, 1) := by decide +kernel
theorem dX10_rankDrops_16 : decode cX10_rankDrops 16 = .ok (.invokevirtual 76, 3) := by decide +kernel
theorem dX10_rankDrops_19 : decode cX10_rankDrops 19 = .ok (.if_icmp .ge 32, 3) := by decide +kernel
theorem dX10_rankDrops_22 : decode cX10_rankDrops 22 = .ok (.iload_n 1, 1) := by decide +kernel
theorem dX10_rankDrops_23 : decode cX10_rankDrops 23 = .ok (.aload_n 0, 1) := by decide +kernel
theorem dX10_rankDrops_24 : decode cX10_rankDrops 24 = .ok (.getfield 37, 3) := by decide +kernel
theorem dX10_rankDrops_27 : decode cX10_rankDrops 27 = .ok (.iload_n 2, 1) := by decide +kernel
theorem dX10_rankDrops_28 : decode cX10_rankDrops 28 = .ok (.iaload, 1) := by decide +kernel
theorem dX10_rankDrops_29 : decode cX10_rankDrops 29 = .ok (.aload_n 0, 1) := by decide +kernel
theorem dX10_rankDrops_30 : decode cX10_rankDrops 30 = .ok (.getfield 204, 3) := by decide +kernel
theorem dX10_rankDrops_33 : decode cX10_rankDrops 33 = .ok (.if_icmp .ge 9, 3) := by decide +kernel
theorem dX10_rankDrops_36 : decode cX10_rankDrops 36 = .ok (.iconst 1, 1) := by decide +kernel
theorem dX10_rankDrops_37 : decode cX10_rankDrops 37 = .ok (.iload_n 2, 1) := by decide +kernel
theorem dX10_rankDrops_38 : decode cX10_rankDrops 38 = .ok (.ishl, 1) := by decide +kernel
theorem dX10_rankDrops_39 : decode cX10_rankDrops 39 = .ok (.goto 4, 3) := by decide +kernel
theorem dX10_rankDrops_42 : decode cX10_rankDrops 42 = .ok (.iconst 0, 1) := by decide +kernel
theorem dX10_rankDrops_43 : decode cX10_rankDrops 43 = .ok (.ior, 1) := by decide +kernel
theorem dX10_rankDrops_44 : decode cX10_rankDrops 44 = .ok (.istore_n 1, 1) := by decide +kernel
theorem dX10_rankDrops_45 : decode cX10_rankDrops 45 = .ok (.iinc 2 1, 3) := by decide +kernel
theorem dX10_rankDrops_48 : decode cX10_rankDrops 48 = .ok (.goto (-34), 3) := by decide +kernel
theorem dX10_rankDrops_51 : decode cX10_rankDrops 51 = .ok (.iload_n 1, 1) := by decide +kernel
theorem dX10_rankDrops_52 : decode cX10_rankDrops 52 = .ok (.ireturn, 1) := by decide +kernel
theorem dX10_condition_0 : decode cX10_condition 0 = .ok (.aload_n 0, 1) := by decide +kernel
theorem dX10_condition_1 : decode cX10_condition 1 = .ok (.invokevirtual 277, 3) := by decide +kernel
theorem dX10_condition_4 : decode cX10_condition 4 = .ok (.ifCond .ne 8, 3) := by decide +kernel
theorem dX10_condition_7 : decode cX10_condition 7 = .ok (.bipush (-2), 2) := by decide +kernel
theorem dX10_condition_9 : decode cX10_condition 9 = .ok (.goto 15, 3) := by decide +kernel
theorem dX10_condition_12 : decode cX10_condition 12 = .ok (.aload_n 0, 1) := by decide +kernel
theorem dX10_condition_13 : decode cX10_condition 13 = .ok (.getfield 220, 3) := by decide +kernel
theorem dX10_condition_16 : decode cX10_condition 16 = .ok (.ifCond .eq 7, 3) := by decide +kernel
theorem dX10_condition_19 : decode cX10_condition 19 = .ok (.iconst 1, 1) := by decide +kernel
theorem dX10_condition_20 : decode cX10_condition 20 = .ok (.goto 4, 3) := by decide +kernel
theorem dX10_condition_23 : decode cX10_condition 23 = .ok (.iconst 0, 1) := by decide +kernel
theorem dX10_condition_24 : decode cX10_condition 24 = .ok (.ireturn, 1) := by decide +kernel
theorem dX10_eliminantDegree_0 : decode cX10_eliminantDegree 0 = .ok (.aload_n 0, 1) := by decide +kernel
theorem dX10_eliminantDegree_1 : decode cX10_eliminantDegree 1 = .ok (.invokevirtual 277, 3) := by decide +kernel
theorem dX10_eliminantDegree_4 : decode cX10_eliminantDegree 4 = .ok (.ifCond .ne 8, 3) := by decide +kernel
theorem dX10_eliminantDegree_7 : decode cX10_eliminantDegree 7 = .ok (.bipush (-2), 2) := by decide +kernel
theorem dX10_eliminantDegree_9 : decode cX10_eliminantDegree 9 = .ok (.goto 21, 3) := by decide +kernel
theorem dX10_eliminantDegree_12 : decode cX10_eliminantDegree 12 = .ok (.iload_n 1, 1) := by decide +kernel
theorem dX10_eliminantDegree_13 : decode cX10_eliminantDegree 13 = .ok (.ifCond .eq 10, 3) := by decide +kernel
theorem dX10_eliminantDegree_16 : decode cX10_eliminantDegree 16 = .ok (.aload_n 0, 1) := by decide +kernel
theorem dX10_eliminantDegree_17 : decode cX10_eliminantDegree 17 = .ok (.getfield 43, 3) := by decide +kernel
theorem dX10_eliminantDegree_20 : decode cX10_eliminantDegree 20 = .ok (.goto 7, 3) := by decide +kernel
theorem dX10_eliminantDegree_23 : decode cX10_eliminantDegree 23 = .ok (.aload_n 0, 1) := by decide +kernel
theorem dX10_eliminantDegree_24 : decode cX10_eliminantDegree 24 = .ok (.getfield 40, 3) := by decide +kernel
theorem dX10_eliminantDegree_27 : decode cX10_eliminantDegree 27 = .ok (.invokestatic 252, 3) := by decide +kernel
theorem dX10_eliminantDegree_30 : decode cX10_eliminantDegree 30 = .ok (.ireturn, 1) := by decide +kernel
theorem dX10_eliminant_0 : decode cX10_eliminant 0 = .ok (.iload_n 2, 1) := by decide +kernel
theorem dX10_eliminant_1 : decode cX10_eliminant 1 = .ok (.iconst 0, 1) := by decide +kernel
theorem dX10_eliminant_2 : decode cX10_eliminant 2 = .ok (.bipush 48, 2) := by decide +kernel
theorem dX10_eliminant_4 : decode cX10_eliminant 4 = .ok (.invokestatic 80, 3) := by decide +kernel
theorem dX10_eliminant_7 : decode cX10_eliminant 7 = .ok (.ifCond .ne 5, 3) := by decide +kernel
theorem dX10_eliminant_10 : decode cX10_eliminant 10 = .ok (.iconst (-1), 1) := by decide +kernel
theorem dX10_eliminant_11 : decode cX10_eliminant 11 = .ok (.ireturn, 1) := by decide +kernel
theorem dX10_eliminant_12 : decode cX10_eliminant 12 = .ok (.aload_n 0, 1) := by decide +kernel
theorem dX10_eliminant_13 : decode cX10_eliminant 13 = .ok (.invokevirtual 277, 3) := by decide +kernel
theorem dX10_eliminant_16 : decode cX10_eliminant 16 = .ok (.ifCond .ne 8, 3) := by decide +kernel
theorem dX10_eliminant_19 : decode cX10_eliminant 19 = .ok (.bipush (-2), 2) := by decide +kernel
theorem dX10_eliminant_21 : decode cX10_eliminant 21 = .ok (.goto 22, 3) := by decide +kernel
theorem dX10_eliminant_24 : decode cX10_eliminant 24 = .ok (.iload_n 1, 1) := by decide +kernel
theorem dX10_eliminant_25 : decode cX10_eliminant 25 = .ok (.ifCond .eq 12, 3) := by decide +kernel
theorem dX10_eliminant_28 : decode cX10_eliminant 28 = .ok (.aload_n 0, 1) := by decide +kernel
theorem dX10_eliminant_29 : decode cX10_eliminant 29 = .ok (.getfield 43, 3) := by decide +kernel
theorem dX10_eliminant_32 : decode cX10_eliminant 32 = .ok (.iload_n 2, 1) := by decide +kernel
theorem dX10_eliminant_33 : decode cX10_eliminant 33 = .ok (.iaload, 1) := by decide +kernel
theorem dX10_eliminant_34 : decode cX10_eliminant 34 = .ok (.goto 9, 3) := by decide +kernel
theorem dX10_eliminant_37 : decode cX10_eliminant 37 = .ok (.aload_n 0, 1) := by decide +kernel
theorem dX10_eliminant_38 : decode cX10_eliminant 38 = .ok (.getfield 40, 3) := by decide +kernel
theorem dX10_eliminant_41 : decode cX10_eliminant 41 = .ok (.iload_n 2, 1) := by decide +kernel
theorem dX10_eliminant_42 : decode cX10_eliminant 42 = .ok (.iaload, 1) := by decide +kernel
theorem dX10_eliminant_43 : decode cX10_eliminant 43 = .ok (.ireturn, 1) := by decide +kernel
theorem dX10_eliminantAt_0 : decode cX10_eliminantAt 0 = .ok (.aload_n 0, 1) := by decide +kernel
theorem dX10_eliminantAt_1 : decode cX10_eliminantAt 1 = .ok (.iload_n 2, 1) := by decide +kernel
theorem dX10_eliminantAt_2 : decode cX10_eliminantAt 2 = .ok (.invokevirtual 142, 3) := by decide +kernel
theorem dX10_eliminantAt_5 : decode cX10_eliminantAt 5 = .ok (.ifCond .ne 5, 3) := by decide +kernel
theorem dX10_eliminantAt_8 : decode cX10_eliminantAt 8 = .ok (.iconst (-1), 1) := by decide +kernel
theorem dX10_eliminantAt_9 : decode cX10_eliminantAt 9 = .ok (.ireturn, 1) := by decide +kernel
theorem dX10_eliminantAt_10 : decode cX10_eliminantAt 10 = .ok (.aload_n 0, 1) := by decide +kernel
theorem dX10_eliminantAt_11 : decode cX10_eliminantAt 11 = .ok (.invokevirtual 277, 3) := by decide +kernel
theorem dX10_eliminantAt_14 : decode cX10_eliminantAt 14 = .ok (.ifCond .ne 8, 3) := by decide +kernel
theorem dX10_eliminantAt_17 : decode cX10_eliminantAt 17 = .ok (.bipush (-2), 2) := by decide +kernel
theorem dX10_eliminantAt_19 : decode cX10_eliminantAt 19 = .ok (.goto 23, 3) := by decide +kernel
theorem dX10_eliminantAt_22 : decode cX10_eliminantAt 22 = .ok (.aload_n 0, 1) := by decide +kernel
theorem dX10_eliminantAt_23 : decode cX10_eliminantAt 23 = .ok (.iload_n 1, 1) := by decide +kernel
theorem dX10_eliminantAt_24 : decode cX10_eliminantAt 24 = .ok (.ifCond .eq 10, 3) := by decide +kernel
theorem dX10_eliminantAt_27 : decode cX10_eliminantAt 27 = .ok (.aload_n 0, 1) := by decide +kernel
theorem dX10_eliminantAt_28 : decode cX10_eliminantAt 28 = .ok (.getfield 43, 3) := by decide +kernel
theorem dX10_eliminantAt_31 : decode cX10_eliminantAt 31 = .ok (.goto 7, 3) := by decide +kernel
theorem dX10_eliminantAt_34 : decode cX10_eliminantAt 34 = .ok (.aload_n 0, 1) := by decide +kernel
theorem dX10_eliminantAt_35 : decode cX10_eliminantAt 35 = .ok (.getfield 40, 3) := by decide +kernel
theorem dX10_eliminantAt_38 : decode cX10_eliminantAt 38 = .ok (.iload_n 2, 1) := by decide +kernel
theorem dX10_eliminantAt_39 : decode cX10_eliminantAt 39 = .ok (.invokevirtual 241, 3) := by decide +kernel
theorem dX10_eliminantAt_42 : decode cX10_eliminantAt 42 = .ok (.ireturn, 1) := by decide +kernel
theorem dX10_multiplicity_0 : decode cX10_multiplicity 0 = .ok (.aload_n 0, 1) := by decide +kernel
theorem dX10_multiplicity_1 : decode cX10_multiplicity 1 = .ok (.iload_n 1, 1) := by decide +kernel
theorem dX10_multiplicity_2 : decode cX10_multiplicity 2 = .ok (.invokevirtual 142, 3) := by decide +kernel
theorem dX10_multiplicity_5 : decode cX10_multiplicity 5 = .ok (.ifCond .ne 5, 3) := by decide +kernel
theorem dX10_multiplicity_8 : decode cX10_multiplicity 8 = .ok (.iconst (-1), 1) := by decide +kernel
theorem dX10_multiplicity_9 : decode cX10_multiplicity 9 = .ok (.ireturn, 1) := by decide +kernel
theorem dX10_multiplicity_10 : decode cX10_multiplicity 10 = .ok (.aload_n 0, 1) := by decide +kernel
theorem dX10_multiplicity_11 : decode cX10_multiplicity 11 = .ok (.invokevirtual 277, 3) := by decide +kernel
theorem dX10_multiplicity_14 : decode cX10_multiplicity 14 = .ok (.ifCond .ne 6, 3) := by decide +kernel
theorem dX10_multiplicity_17 : decode cX10_multiplicity 17 = .ok (.bipush (-2), 2) := by decide +kernel
theorem dX10_multiplicity_19 : decode cX10_multiplicity 19 = .ok (.ireturn, 1) := by decide +kernel
theorem dX10_multiplicity_20 : decode cX10_multiplicity 20 = .ok (.iconst 0, 1) := by decide +kernel
theorem dX10_multiplicity_21 : decode cX10_multiplicity 21 = .ok (.istore_n 2, 1) := by decide +kernel
theorem dX10_multiplicity_22 : decode cX10_multiplicity 22 = .ok (.iload_n 2, 1) := by decide +kernel
theorem dX10_multiplicity_23 : decode cX10_multiplicity 23 = .ok (.bipush 49, 2) := by decide +kernel
theorem dX10_multiplicity_25 : decode cX10_multiplicity 25 = .ok (.if_icmp .ge 21, 3) := by decide +kernel
theorem dX10_multiplicity_28 : decode cX10_multiplicity 28 = .ok (.aload_n 0, 1) := by decide +kernel
theorem dX10_multiplicity_29 : decode cX10_multiplicity 29 = .ok (.getfield 58, 3) := by decide +kernel
theorem dX10_multiplicity_32 : decode cX10_multiplicity 32 = .ok (.iload_n 2, 1) := by decide +kernel
theorem dX10_multiplicity_33 : decode cX10_multiplicity 33 = .ok (.aload_n 0, 1) := by decide +kernel
theorem dX10_multiplicity_34 : decode cX10_multiplicity 34 = .ok (.getfield 40, 3) := by decide +kernel
theorem dX10_multiplicity_37 : decode cX10_multiplicity 37 = .ok (.iload_n 2, 1) := by decide +kernel
theorem dX10_multiplicity_38 : decode cX10_multiplicity 38 = .ok (.iaload, 1) := by decide +kernel
theorem dX10_multiplicity_39 : decode cX10_multiplicity 39 = .ok (.iastore, 1) := by decide +kernel
theorem dX10_multiplicity_40 : decode cX10_multiplicity 40 = .ok (.iinc 2 1, 3) := by decide +kernel
theorem dX10_multiplicity_43 : decode cX10_multiplicity 43 = .ok (.goto (-21), 3) := by decide +kernel
theorem dX10_multiplicity_46 : decode cX10_multiplicity 46 = .ok (.iconst 0, 1) := by decide +kernel
theorem dX10_multiplicity_47 : decode cX10_multiplicity 47 = .ok (.istore_n 2, 1) := by decide +kernel
theorem dX10_multiplicity_48 : decode cX10_multiplicity 48 = .ok (.aload_n 0, 1) := by decide +kernel
theorem dX10_multiplicity_49 : decode cX10_multiplicity 49 = .ok (.aload_n 0, 1) := by decide +kernel
theorem dX10_multiplicity_50 : decode cX10_multiplicity 50 = .ok (.getfield 58, 3) := by decide +kernel
theorem dX10_multiplicity_53 : decode cX10_multiplicity 53 = .ok (.iload_n 1, 1) := by decide +kernel
theorem dX10_multiplicity_54 : decode cX10_multiplicity 54 = .ok (.invokevirtual 241, 3) := by decide +kernel
theorem dX10_multiplicity_57 : decode cX10_multiplicity 57 = .ok (.ifCond .ne 18, 3) := by decide +kernel
theorem dX10_multiplicity_60 : decode cX10_multiplicity 60 = .ok (.aload_n 0, 1) := by decide +kernel
theorem dX10_multiplicity_61 : decode cX10_multiplicity 61 = .ok (.aload_n 0, 1) := by decide +kernel
theorem dX10_multiplicity_62 : decode cX10_multiplicity 62 = .ok (.getfield 58, 3) := by decide +kernel
theorem dX10_multiplicity_65 : decode cX10_multiplicity 65 = .ok (.iload_n 1, 1) := by decide +kernel
theorem dX10_multiplicity_66 : decode cX10_multiplicity 66 = .ok (.invokevirtual 248, 3) := by decide +kernel
theorem dX10_multiplicity_69 : decode cX10_multiplicity 69 = .ok (.iinc 2 1, 3) := by decide +kernel
theorem dX10_multiplicity_72 : decode cX10_multiplicity 72 = .ok (.goto (-24), 3) := by decide +kernel
theorem dX10_multiplicity_75 : decode cX10_multiplicity 75 = .ok (.iload_n 2, 1) := by decide +kernel
theorem dX10_multiplicity_76 : decode cX10_multiplicity 76 = .ok (.ireturn, 1) := by decide +kernel
theorem dX10_extraneous_0 : decode cX10_extraneous 0 = .ok (.aload_n 0, 1) := by decide +kernel
theorem dX10_extraneous_1 : decode cX10_extraneous 1 = .ok (.invokevirtual 277, 3) := by decide +kernel
theorem dX10_extraneous_4 : decode cX10_extraneous 4 = .ok (.ifCond .eq 10, 3) := by decide +kernel
theorem dX10_extraneous_7 : decode cX10_extraneous 7 = .ok (.aload_n 0, 1) := by decide +kernel
theorem dX10_extraneous_8 : decode cX10_extraneous 8 = .ok (.getfield 238, 3) := by decide +kernel
theorem dX10_extraneous_11 : decode cX10_extraneous 11 = .ok (.goto 5, 3) := by decide +kernel
theorem dX10_extraneous_14 : decode cX10_extraneous 14 = .ok (.bipush (-2), 2) := by decide +kernel
theorem dX10_extraneous_16 : decode cX10_extraneous 16 = .ok (.ireturn, 1) := by decide +kernel
theorem dX10_roots_0 : decode cX10_roots 0 = .ok (.iconst 0, 1) := by decide +kernel
theorem dX10_roots_1 : decode cX10_roots 1 = .ok (.istore_n 3, 1) := by decide +kernel
theorem dX10_roots_2 : decode cX10_roots 2 = .ok (.iload_n 3, 1) := by decide +kernel
theorem dX10_roots_3 : decode cX10_roots 3 = .ok (.bipush 27, 2) := by decide +kernel
theorem dX10_roots_5 : decode cX10_roots 5 = .ok (.if_icmp .ge 33, 3) := by decide +kernel
theorem dX10_roots_8 : decode cX10_roots 8 = .ok (.aload_n 0, 1) := by decide +kernel
theorem dX10_roots_9 : decode cX10_roots 9 = .ok (.getfield 64, 3) := by decide +kernel
theorem dX10_roots_12 : decode cX10_roots 12 = .ok (.iload_n 3, 1) := by decide +kernel
theorem dX10_roots_13 : decode cX10_roots 13 = .ok (.aload_n 0, 1) := by decide +kernel
theorem dX10_roots_14 : decode cX10_roots 14 = .ok (.iload_n 3, 1) := by decide +kernel
theorem dX10_roots_15 : decode cX10_roots 15 = .ok (.bipush 9, 2) := by decide +kernel
theorem dX10_roots_17 : decode cX10_roots 17 = .ok (.idiv, 1) := by decide +kernel
theorem dX10_roots_18 : decode cX10_roots 18 = .ok (.iload_n 3, 1) := by decide +kernel
theorem dX10_roots_19 : decode cX10_roots 19 = .ok (.bipush 9, 2) := by decide +kernel
theorem dX10_roots_21 : decode cX10_roots 21 = .ok (.irem, 1) := by decide +kernel
theorem dX10_roots_22 : decode cX10_roots 22 = .ok (.iconst 3, 1) := by decide +kernel
theorem dX10_roots_23 : decode cX10_roots 23 = .ok (.idiv, 1) := by decide +kernel
theorem dX10_roots_24 : decode cX10_roots 24 = .ok (.iload_n 3, 1) := by decide +kernel
theorem dX10_roots_25 : decode cX10_roots 25 = .ok (.iconst 3, 1) := by decide +kernel
theorem dX10_roots_26 : decode cX10_roots 26 = .ok (.irem, 1) := by decide +kernel
theorem dX10_roots_27 : decode cX10_roots 27 = .ok (.iload_n 1, 1) := by decide +kernel
theorem dX10_roots_28 : decode cX10_roots 28 = .ok (.invokevirtual 163, 3) := by decide +kernel
theorem dX10_roots_31 : decode cX10_roots 31 = .ok (.iastore, 1) := by decide +kernel
theorem dX10_roots_32 : decode cX10_roots 32 = .ok (.iinc 3 1, 3) := by decide +kernel
theorem dX10_roots_35 : decode cX10_roots 35 = .ok (.goto (-33), 3) := by decide +kernel
theorem dX10_roots_38 : decode cX10_roots 38 = .ok (.iconst 0, 1) := by decide +kernel
theorem dX10_roots_39 : decode cX10_roots 39 = .ok (.istore_n 3, 1) := by decide +kernel
theorem dX10_roots_40 : decode cX10_roots 40 = .ok (.iconst 0, 1) := by decide +kernel
theorem dX10_roots_41 : decode cX10_roots 41 = .ok (.istore 4, 2) := by decide +kernel
theorem dX10_roots_43 : decode cX10_roots 43 = .ok (.iload 4, 2) := by decide +kernel
theorem dX10_roots_45 : decode cX10_roots 45 = .ok (.aload_n 0, 1) := by decide +kernel
theorem dX10_roots_46 : decode cX10_roots 46 = .ok (.invokevirtual 76, 3) := by decide +kernel
theorem dX10_roots_49 : decode cX10_roots 49 = .ok (.if_icmp .ge 227, 3) := by decide +kernel
theorem dX10_roots_52 : decode cX10_roots 52 = .ok (.iconst 0, 1) := by decide +kernel
theorem dX10_roots_53 : decode cX10_roots 53 = .ok (.istore 5, 2) := by decide +kernel
theorem dX10_roots_55 : decode cX10_roots 55 = .ok (.iload 5, 2) := by decide +kernel
theorem dX10_roots_57 : decode cX10_roots 57 = .ok (.bipush 9, 2) := by decide +kernel
theorem dX10_roots_59 : decode cX10_roots 59 = .ok (.if_icmp .ge 77, 3) := by decide +kernel
theorem dX10_roots_62 : decode cX10_roots 62 = .ok (.bipush 9, 2) := by decide +kernel
theorem dX10_roots_64 : decode cX10_roots 64 = .ok (.iload 5, 2) := by decide +kernel
theorem dX10_roots_66 : decode cX10_roots 66 = .ok (.iconst 3, 1) := by decide +kernel
theorem dX10_roots_67 : decode cX10_roots 67 = .ok (.idiv, 1) := by decide +kernel
theorem dX10_roots_68 : decode cX10_roots 68 = .ok (.imul, 1) := by decide +kernel
theorem dX10_roots_69 : decode cX10_roots 69 = .ok (.iload 5, 2) := by decide +kernel
theorem dX10_roots_71 : decode cX10_roots 71 = .ok (.iconst 3, 1) := by decide +kernel
theorem dX10_roots_72 : decode cX10_roots 72 = .ok (.irem, 1) := by decide +kernel
theorem dX10_roots_73 : decode cX10_roots 73 = .ok (.iadd, 1) := by decide +kernel
theorem dX10_roots_74 : decode cX10_roots 74 = .ok (.istore 6, 2) := by decide +kernel
theorem dX10_roots_76 : decode cX10_roots 76 = .ok (.aload_n 0, 1) := by decide +kernel
theorem dX10_roots_77 : decode cX10_roots 77 = .ok (.getfield 67, 3) := by decide +kernel
theorem dX10_roots_80 : decode cX10_roots 80 = .ok (.iload 5, 2) := by decide +kernel
theorem dX10_roots_82 : decode cX10_roots 82 = .ok (.aload_n 0, 1) := by decide +kernel
theorem dX10_roots_83 : decode cX10_roots 83 = .ok (.getfield 64, 3) := by decide +kernel
theorem dX10_roots_86 : decode cX10_roots 86 = .ok (.iload 6, 2) := by decide +kernel
theorem dX10_roots_88 : decode cX10_roots 88 = .ok (.iaload, 1) := by decide +kernel
theorem dX10_roots_89 : decode cX10_roots 89 = .ok (.aload_n 0, 1) := by decide +kernel
theorem dX10_roots_90 : decode cX10_roots 90 = .ok (.getfield 64, 3) := by decide +kernel
theorem dX10_roots_93 : decode cX10_roots 93 = .ok (.iload 6, 2) := by decide +kernel
theorem dX10_roots_95 : decode cX10_roots 95 = .ok (.iconst 3, 1) := by decide +kernel
theorem dX10_roots_96 : decode cX10_roots 96 = .ok (.iadd, 1) := by decide +kernel
theorem dX10_roots_97 : decode cX10_roots 97 = .ok (.iaload, 1) := by decide +kernel
theorem dX10_roots_98 : decode cX10_roots 98 = .ok (.iload 4, 2) := by decide +kernel
theorem dX10_roots_100 : decode cX10_roots 100 = .ok (.imul, 1) := by decide +kernel
theorem dX10_roots_101 : decode cX10_roots 101 = .ok (.iadd, 1) := by decide +kernel
theorem dX10_roots_102 : decode cX10_roots 102 = .ok (.aload_n 0, 1) := by decide +kernel
theorem dX10_roots_103 : decode cX10_roots 103 = .ok (.getfield 64, 3) := by decide +kernel
theorem dX10_roots_106 : decode cX10_roots 106 = .ok (.iload 6, 2) := by decide +kernel
theorem dX10_roots_108 : decode cX10_roots 108 = .ok (.bipush 6, 2) := by decide +kernel
theorem dX10_roots_110 : decode cX10_roots 110 = .ok (.iadd, 1) := by decide +kernel
theorem dX10_roots_111 : decode cX10_roots 111 = .ok (.iaload, 1) := by decide +kernel
theorem dX10_roots_112 : decode cX10_roots 112 = .ok (.iload 4, 2) := by decide +kernel
theorem dX10_roots_114 : decode cX10_roots 114 = .ok (.iload 4, 2) := by decide +kernel
theorem dX10_roots_116 : decode cX10_roots 116 = .ok (.imul, 1) := by decide +kernel
theorem dX10_roots_117 : decode cX10_roots 117 = .ok (.aload_n 0, 1) := by decide +kernel
theorem dX10_roots_118 : decode cX10_roots 118 = .ok (.invokevirtual 76, 3) := by decide +kernel
theorem dX10_roots_121 : decode cX10_roots 121 = .ok (.irem, 1) := by decide +kernel
theorem dX10_roots_122 : decode cX10_roots 122 = .ok (.imul, 1) := by decide +kernel
theorem dX10_roots_123 : decode cX10_roots 123 = .ok (.iadd, 1) := by decide +kernel
theorem dX10_roots_124 : decode cX10_roots 124 = .ok (.aload_n 0, 1) := by decide +kernel
theorem dX10_roots_125 : decode cX10_roots 125 = .ok (.invokevirtual 76, 3) := by decide +kernel
theorem dX10_roots_128 : decode cX10_roots 128 = .ok (.irem, 1) := by decide +kernel
theorem dX10_roots_129 : decode cX10_roots 129 = .ok (.iastore, 1) := by decide +kernel
theorem dX10_roots_130 : decode cX10_roots 130 = .ok (.iinc 5 1, 3) := by decide +kernel
theorem dX10_roots_133 : decode cX10_roots 133 = .ok (.goto (-78), 3) := by decide +kernel
theorem dX10_roots_136 : decode cX10_roots 136 = .ok (.iconst 0, 1) := by decide +kernel
theorem dX10_roots_137 : decode cX10_roots 137 = .ok (.istore 5, 2) := by decide +kernel
theorem dX10_roots_139 : decode cX10_roots 139 = .ok (.iload 5, 2) := by decide +kernel
theorem dX10_roots_141 : decode cX10_roots 141 = .ok (.aload_n 0, 1) := by decide +kernel
theorem dX10_roots_142 : decode cX10_roots 142 = .ok (.invokevirtual 76, 3) := by decide +kernel
theorem dX10_roots_145 : decode cX10_roots 145 = .ok (.if_icmp .ge 125, 3) := by decide +kernel
theorem dX10_roots_148 : decode cX10_roots 148 = .ok (.iload 5, 2) := by decide +kernel
theorem dX10_roots_150 : decode cX10_roots 150 = .ok (.iload 5, 2) := by decide +kernel
theorem dX10_roots_152 : decode cX10_roots 152 = .ok (.imul, 1) := by decide +kernel
theorem dX10_roots_153 : decode cX10_roots 153 = .ok (.aload_n 0, 1) := by decide +kernel
theorem dX10_roots_154 : decode cX10_roots 154 = .ok (.invokevirtual 76, 3) := by decide +kernel
theorem dX10_roots_157 : decode cX10_roots 157 = .ok (.irem, 1) := by decide +kernel
theorem dX10_roots_158 : decode cX10_roots 158 = .ok (.istore 6, 2) := by decide +kernel
theorem dX10_roots_160 : decode cX10_roots 160 = .ok (.iconst 1, 1) := by decide +kernel
theorem dX10_roots_161 : decode cX10_roots 161 = .ok (.istore 7, 2) := by decide +kernel
theorem dX10_roots_163 : decode cX10_roots 163 = .ok (.iconst 0, 1) := by decide +kernel
theorem dX10_roots_164 : decode cX10_roots 164 = .ok (.istore 8, 2) := by decide +kernel
theorem dX10_roots_166 : decode cX10_roots 166 = .ok (.iload 8, 2) := by decide +kernel
theorem dX10_roots_168 : decode cX10_roots 168 = .ok (.bipush 9, 2) := by decide +kernel
theorem dX10_roots_170 : decode cX10_roots 170 = .ok (.if_icmp .ge 62, 3) := by decide +kernel
theorem dX10_roots_173 : decode cX10_roots 173 = .ok (.iload 7, 2) := by decide +kernel
theorem dX10_roots_175 : decode cX10_roots 175 = .ok (.ifCond .eq 57, 3) := by decide +kernel
theorem dX10_roots_178 : decode cX10_roots 178 = .ok (.aload_n 0, 1) := by decide +kernel
theorem dX10_roots_179 : decode cX10_roots 179 = .ok (.getfield 67, 3) := by decide +kernel
theorem dX10_roots_182 : decode cX10_roots 182 = .ok (.iload 8, 2) := by decide +kernel
theorem dX10_roots_184 : decode cX10_roots 184 = .ok (.iaload, 1) := by decide +kernel
theorem dX10_roots_185 : decode cX10_roots 185 = .ok (.aload_n 0, 1) := by decide +kernel
theorem dX10_roots_186 : decode cX10_roots 186 = .ok (.getfield 67, 3) := by decide +kernel
theorem dX10_roots_189 : decode cX10_roots 189 = .ok (.iload 8, 2) := by decide +kernel
theorem dX10_roots_191 : decode cX10_roots 191 = .ok (.iconst 1, 1) := by decide +kernel
theorem dX10_roots_192 : decode cX10_roots 192 = .ok (.iadd, 1) := by decide +kernel
theorem dX10_roots_193 : decode cX10_roots 193 = .ok (.iaload, 1) := by decide +kernel
theorem dX10_roots_194 : decode cX10_roots 194 = .ok (.iload 5, 2) := by decide +kernel
theorem dX10_roots_196 : decode cX10_roots 196 = .ok (.imul, 1) := by decide +kernel
theorem dX10_roots_197 : decode cX10_roots 197 = .ok (.iadd, 1) := by decide +kernel
theorem dX10_roots_198 : decode cX10_roots 198 = .ok (.aload_n 0, 1) := by decide +kernel
theorem dX10_roots_199 : decode cX10_roots 199 = .ok (.getfield 67, 3) := by decide +kernel
theorem dX10_roots_202 : decode cX10_roots 202 = .ok (.iload 8, 2) := by decide +kernel
theorem dX10_roots_204 : decode cX10_roots 204 = .ok (.iconst 2, 1) := by decide +kernel
theorem dX10_roots_205 : decode cX10_roots 205 = .ok (.iadd, 1) := by decide +kernel
theorem dX10_roots_206 : decode cX10_roots 206 = .ok (.iaload, 1) := by decide +kernel
theorem dX10_roots_207 : decode cX10_roots 207 = .ok (.iload 6, 2) := by decide +kernel
theorem dX10_roots_209 : decode cX10_roots 209 = .ok (.imul, 1) := by decide +kernel
theorem dX10_roots_210 : decode cX10_roots 210 = .ok (.iadd, 1) := by decide +kernel
theorem dX10_roots_211 : decode cX10_roots 211 = .ok (.aload_n 0, 1) := by decide +kernel
theorem dX10_roots_212 : decode cX10_roots 212 = .ok (.invokevirtual 76, 3) := by decide +kernel
theorem dX10_roots_215 : decode cX10_roots 215 = .ok (.irem, 1) := by decide +kernel
theorem dX10_roots_216 : decode cX10_roots 216 = .ok (.ifCond .ne 7, 3) := by decide +kernel
theorem dX10_roots_219 : decode cX10_roots 219 = .ok (.iconst 1, 1) := by decide +kernel
theorem dX10_roots_220 : decode cX10_roots 220 = .ok (.goto 4, 3) := by decide +kernel
theorem dX10_roots_223 : decode cX10_roots 223 = .ok (.iconst 0, 1) := by decide +kernel
theorem dX10_roots_224 : decode cX10_roots 224 = .ok (.istore 7, 2) := by decide +kernel
theorem dX10_roots_226 : decode cX10_roots 226 = .ok (.iinc 8 3, 3) := by decide +kernel
theorem dX10_roots_229 : decode cX10_roots 229 = .ok (.goto (-63), 3) := by decide +kernel
theorem dX10_roots_232 : decode cX10_roots 232 = .ok (.iload 7, 2) := by decide +kernel
theorem dX10_roots_234 : decode cX10_roots 234 = .ok (.ifCond .eq 17, 3) := by decide +kernel
theorem dX10_roots_237 : decode cX10_roots 237 = .ok (.iload_n 3, 1) := by decide +kernel
theorem dX10_roots_238 : decode cX10_roots 238 = .ok (.iload_n 2, 1) := by decide +kernel
theorem dX10_roots_239 : decode cX10_roots 239 = .ok (.if_icmp .ne 12, 3) := by decide +kernel
theorem dX10_roots_242 : decode cX10_roots 242 = .ok (.bipush 100, 2) := by decide +kernel
theorem dX10_roots_244 : decode cX10_roots 244 = .ok (.iload 4, 2) := by decide +kernel
theorem dX10_roots_246 : decode cX10_roots 246 = .ok (.imul, 1) := by decide +kernel
theorem dX10_roots_247 : decode cX10_roots 247 = .ok (.iload 5, 2) := by decide +kernel
theorem dX10_roots_249 : decode cX10_roots 249 = .ok (.iadd, 1) := by decide +kernel
theorem dX10_roots_250 : decode cX10_roots 250 = .ok (.ireturn, 1) := by decide +kernel
theorem dX10_roots_251 : decode cX10_roots 251 = .ok (.iload_n 3, 1) := by decide +kernel
theorem dX10_roots_252 : decode cX10_roots 252 = .ok (.iload 7, 2) := by decide +kernel
theorem dX10_roots_254 : decode cX10_roots 254 = .ok (.ifCond .eq 7, 3) := by decide +kernel
theorem dX10_roots_257 : decode cX10_roots 257 = .ok (.iconst 1, 1) := by decide +kernel
theorem dX10_roots_258 : decode cX10_roots 258 = .ok (.goto 4, 3) := by decide +kernel
theorem dX10_roots_261 : decode cX10_roots 261 = .ok (.iconst 0, 1) := by decide +kernel
theorem dX10_roots_262 : decode cX10_roots 262 = .ok (.iadd, 1) := by decide +kernel
theorem dX10_roots_263 : decode cX10_roots 263 = .ok (.istore_n 3, 1) := by decide +kernel
theorem dX10_roots_264 : decode cX10_roots 264 = .ok (.iinc 5 1, 3) := by decide +kernel
theorem dX10_roots_267 : decode cX10_roots 267 = .ok (.goto (-128), 3) := by decide +kernel
theorem dX10_roots_270 : decode cX10_roots 270 = .ok (.iinc 4 1, 3) := by decide +kernel
theorem dX10_roots_273 : decode cX10_roots 273 = .ok (.goto (-230), 3) := by decide +kernel
theorem dX10_roots_276 : decode cX10_roots 276 = .ok (.iload_n 2, 1) := by decide +kernel
theorem dX10_roots_277 : decode cX10_roots 277 = .ok (.bipush (-9), 2) := by decide +kernel
theorem dX10_roots_279 : decode cX10_roots 279 = .ok (.if_icmp .ne 7, 3) := by decide +kernel
theorem dX10_roots_282 : decode cX10_roots 282 = .ok (.iload_n 3, 1) := by decide +kernel
theorem dX10_roots_283 : decode cX10_roots 283 = .ok (.goto 5, 3) := by decide +kernel
theorem dX10_roots_286 : decode cX10_roots 286 = .ok (.bipush (-9), 2) := by decide +kernel
theorem dX10_roots_288 : decode cX10_roots 288 = .ok (.ireturn, 1) := by decide +kernel
theorem dX10_knowsRoots_0 : decode cX10_knowsRoots 0 = .ok (.aload_n 0, 1) := by decide +kernel
theorem dX10_knowsRoots_1 : decode cX10_knowsRoots 1 = .ok (.getfield 99, 3) := by decide +kernel
theorem dX10_knowsRoots_4 : decode cX10_knowsRoots 4 = .ok (.ifCond .eq 4, 3) := by decide +kernel
theorem dX10_knowsRoots_7 : decode cX10_knowsRoots 7 = .ok (.return_, 1) := by decide +kernel
theorem dX10_knowsRoots_8 : decode cX10_knowsRoots 8 = .ok (.aload_n 0, 1) := by decide +kernel
theorem dX10_knowsRoots_9 : decode cX10_knowsRoots 9 = .ok (.iconst 1, 1) := by decide +kernel
theorem dX10_knowsRoots_10 : decode cX10_knowsRoots 10 = .ok (.putfield 99, 3) := by decide +kernel
theorem dX10_knowsRoots_13 : decode cX10_knowsRoots 13 = .ok (.aload_n 0, 1) := by decide +kernel
theorem dX10_knowsRoots_14 : decode cX10_knowsRoots 14 = .ok (.iconst 0, 1) := by decide +kernel
theorem dX10_knowsRoots_15 : decode cX10_knowsRoots 15 = .ok (.putfield 245, 3) := by decide +kernel
theorem dX10_knowsRoots_18 : decode cX10_knowsRoots 18 = .ok (.aload_n 0, 1) := by decide +kernel
theorem dX10_knowsRoots_19 : decode cX10_knowsRoots 19 = .ok (.iconst 0, 1) := by decide +kernel
theorem dX10_knowsRoots_20 : decode cX10_knowsRoots 20 = .ok (.putfield 284, 3) := by decide +kernel
theorem dX10_knowsRoots_23 : decode cX10_knowsRoots 23 = .ok (.iconst 0, 1) := by decide +kernel
theorem dX10_knowsRoots_24 : decode cX10_knowsRoots 24 = .ok (.istore_n 1, 1) := by decide +kernel
theorem dX10_knowsRoots_25 : decode cX10_knowsRoots 25 = .ok (.iload_n 1, 1) := by decide +kernel
theorem dX10_knowsRoots_26 : decode cX10_knowsRoots 26 = .ok (.aload_n 0, 1) := by decide +kernel
theorem dX10_knowsRoots_27 : decode cX10_knowsRoots 27 = .ok (.invokevirtual 76, 3) := by decide +kernel
theorem dX10_knowsRoots_30 : decode cX10_knowsRoots 30 = .ok (.if_icmp .ge 62, 3) := by decide +kernel
theorem dX10_knowsRoots_33 : decode cX10_knowsRoots 33 = .ok (.aload_n 0, 1) := by decide +kernel
theorem dX10_knowsRoots_34 : decode cX10_knowsRoots 34 = .ok (.getfield 61, 3) := by decide +kernel
theorem dX10_knowsRoots_37 : decode cX10_knowsRoots 37 = .ok (.iload_n 1, 1) := by decide +kernel
theorem dX10_knowsRoots_38 : decode cX10_knowsRoots 38 = .ok (.aload_n 0, 1) := by decide +kernel
theorem dX10_knowsRoots_39 : decode cX10_knowsRoots 39 = .ok (.iload_n 1, 1) := by decide +kernel
theorem dX10_knowsRoots_40 : decode cX10_knowsRoots 40 = .ok (.bipush (-9), 2) := by decide +kernel
theorem dX10_knowsRoots_42 : decode cX10_knowsRoots 42 = .ok (.invokevirtual 287, 3) := by decide +kernel
theorem dX10_knowsRoots_45 : decode cX10_knowsRoots 45 = .ok (.iastore, 1) := by decide +kernel
theorem dX10_knowsRoots_46 : decode cX10_knowsRoots 46 = .ok (.aload_n 0, 1) := by decide +kernel
theorem dX10_knowsRoots_47 : decode cX10_knowsRoots 47 = .ok (.dup, 1) := by decide +kernel
theorem dX10_knowsRoots_48 : decode cX10_knowsRoots 48 = .ok (.getfield 245, 3) := by decide +kernel
theorem dX10_knowsRoots_51 : decode cX10_knowsRoots 51 = .ok (.aload_n 0, 1) := by decide +kernel
theorem dX10_knowsRoots_52 : decode cX10_knowsRoots 52 = .ok (.getfield 61, 3) := by decide +kernel
theorem dX10_knowsRoots_55 : decode cX10_knowsRoots 55 = .ok (.iload_n 1, 1) := by decide +kernel
theorem dX10_knowsRoots_56 : decode cX10_knowsRoots 56 = .ok (.iaload, 1) := by decide +kernel
theorem dX10_knowsRoots_57 : decode cX10_knowsRoots 57 = .ok (.ifCond .le 9, 3) := by decide +kernel
theorem dX10_knowsRoots_60 : decode cX10_knowsRoots 60 = .ok (.iconst 1, 1) := by decide +kernel
theorem dX10_knowsRoots_61 : decode cX10_knowsRoots 61 = .ok (.iload_n 1, 1) := by decide +kernel
theorem dX10_knowsRoots_62 : decode cX10_knowsRoots 62 = .ok (.ishl, 1) := by decide +kernel
theorem dX10_knowsRoots_63 : decode cX10_knowsRoots 63 = .ok (.goto 4, 3) := by decide +kernel
theorem dX10_knowsRoots_66 : decode cX10_knowsRoots 66 = .ok (.iconst 0, 1) := by decide +kernel
theorem dX10_knowsRoots_67 : decode cX10_knowsRoots 67 = .ok (.ior, 1) := by decide +kernel
theorem dX10_knowsRoots_68 : decode cX10_knowsRoots 68 = .ok (.putfield 245, 3) := by decide +kernel
theorem dX10_knowsRoots_71 : decode cX10_knowsRoots 71 = .ok (.aload_n 0, 1) := by decide +kernel
theorem dX10_knowsRoots_72 : decode cX10_knowsRoots 72 = .ok (.dup, 1) := by decide +kernel
theorem dX10_knowsRoots_73 : decode cX10_knowsRoots 73 = .ok (.getfield 284, 3) := by decide +kernel
theorem dX10_knowsRoots_76 : decode cX10_knowsRoots 76 = .ok (.aload_n 0, 1) := by decide +kernel
theorem dX10_knowsRoots_77 : decode cX10_knowsRoots 77 = .ok (.getfield 61, 3) := by decide +kernel
theorem dX10_knowsRoots_80 : decode cX10_knowsRoots 80 = .ok (.iload_n 1, 1) := by decide +kernel
theorem dX10_knowsRoots_81 : decode cX10_knowsRoots 81 = .ok (.iaload, 1) := by decide +kernel
theorem dX10_knowsRoots_82 : decode cX10_knowsRoots 82 = .ok (.iadd, 1) := by decide +kernel
theorem dX10_knowsRoots_83 : decode cX10_knowsRoots 83 = .ok (.putfield 284, 3) := by decide +kernel
theorem dX10_knowsRoots_86 : decode cX10_knowsRoots 86 = .ok (.iinc 1 1, 3) := by decide +kernel
theorem dX10_knowsRoots_89 : decode cX10_knowsRoots 89 = .ok (.goto (-64), 3) := by decide +kernel
theorem dX10_knowsRoots_92 : decode cX10_knowsRoots 92 = .ok (.return_, 1) := by decide +kernel
theorem dX10_commonRoots_0 : decode cX10_commonRoots 0 = .ok (.aload_n 0, 1) := by decide +kernel
theorem dX10_commonRoots_1 : decode cX10_commonRoots 1 = .ok (.iload_n 1, 1) := by decide +kernel
theorem dX10_commonRoots_2 : decode cX10_commonRoots 2 = .ok (.invokevirtual 142, 3) := by decide +kernel
theorem dX10_commonRoots_5 : decode cX10_commonRoots 5 = .ok (.ifCond .ne 5, 3) := by decide +kernel
theorem dX10_commonRoots_8 : decode cX10_commonRoots 8 = .ok (.iconst (-1), 1) := by decide +kernel
theorem dX10_commonRoots_9 : decode cX10_commonRoots 9 = .ok (.ireturn, 1) := by decide +kernel
theorem dX10_commonRoots_10 : decode cX10_commonRoots 10 = .ok (.aload_n 0, 1) := by decide +kernel
theorem dX10_commonRoots_11 : decode cX10_commonRoots 11 = .ok (.invokevirtual 235, 3) := by decide +kernel
theorem dX10_commonRoots_14 : decode cX10_commonRoots 14 = .ok (.aload_n 0, 1) := by decide +kernel
theorem dX10_commonRoots_15 : decode cX10_commonRoots 15 = .ok (.getfield 61, 3) := by decide +kernel
theorem dX10_commonRoots_18 : decode cX10_commonRoots 18 = .ok (.iload_n 1, 1) := by decide +kernel
theorem dX10_commonRoots_19 : decode cX10_commonRoots 19 = .ok (.iaload, 1) := by decide +kernel
theorem dX10_commonRoots_20 : decode cX10_commonRoots 20 = .ok (.ireturn, 1) := by decide +kernel
theorem dX10_commonRoot_0 : decode cX10_commonRoot 0 = .ok (.aload_n 0, 1) := by decide +kernel
theorem dX10_commonRoot_1 : decode cX10_commonRoot 1 = .ok (.iload_n 1, 1) := by decide +kernel
theorem dX10_commonRoot_2 : decode cX10_commonRoot 2 = .ok (.invokevirtual 142, 3) := by decide +kernel
theorem dX10_commonRoot_5 : decode cX10_commonRoot 5 = .ok (.ifCond .eq 16, 3) := by decide +kernel
theorem dX10_commonRoot_8 : decode cX10_commonRoot 8 = .ok (.iload_n 2, 1) := by decide +kernel
theorem dX10_commonRoot_9 : decode cX10_commonRoot 9 = .ok (.ifCond .lt 12, 3) := by decide +kernel
theorem dX10_commonRoot_12 : decode cX10_commonRoot 12 = .ok (.aload_n 0, 1) := by decide +kernel
theorem dX10_commonRoot_13 : decode cX10_commonRoot 13 = .ok (.iload_n 1, 1) := by decide +kernel
theorem dX10_commonRoot_14 : decode cX10_commonRoot 14 = .ok (.iload_n 2, 1) := by decide +kernel
theorem dX10_commonRoot_15 : decode cX10_commonRoot 15 = .ok (.invokevirtual 287, 3) := by decide +kernel
theorem dX10_commonRoot_18 : decode cX10_commonRoot 18 = .ok (.goto 4, 3) := by decide +kernel
theorem dX10_commonRoot_21 : decode cX10_commonRoot 21 = .ok (.iconst (-1), 1) := by decide +kernel
theorem dX10_commonRoot_22 : decode cX10_commonRoot 22 = .ok (.ireturn, 1) := by decide +kernel
theorem dX10_solvable_0 : decode cX10_solvable 0 = .ok (.aload_n 0, 1) := by decide +kernel
theorem dX10_solvable_1 : decode cX10_solvable 1 = .ok (.invokevirtual 235, 3) := by decide +kernel
theorem dX10_solvable_4 : decode cX10_solvable 4 = .ok (.aload_n 0, 1) := by decide +kernel
theorem dX10_solvable_5 : decode cX10_solvable 5 = .ok (.getfield 245, 3) := by decide +kernel
theorem dX10_solvable_8 : decode cX10_solvable 8 = .ok (.ireturn, 1) := by decide +kernel
theorem dX10_kernel_0 : decode cX10_kernel 0 = .ok (.aload_n 0, 1) := by decide +kernel
theorem dX10_kernel_1 : decode cX10_kernel 1 = .ok (.iload_n 1, 1) := by decide +kernel
theorem dX10_kernel_2 : decode cX10_kernel 2 = .ok (.invokevirtual 142, 3) := by decide +kernel
theorem dX10_kernel_5 : decode cX10_kernel 5 = .ok (.ifCond .ne 5, 3) := by decide +kernel
theorem dX10_kernel_8 : decode cX10_kernel 8 = .ok (.iconst (-1), 1) := by decide +kernel
theorem dX10_kernel_9 : decode cX10_kernel 9 = .ok (.ireturn, 1) := by decide +kernel
theorem dX10_kernel_10 : decode cX10_kernel 10 = .ok (.aload_n 0, 1) := by decide +kernel
theorem dX10_kernel_11 : decode cX10_kernel 11 = .ok (.invokevirtual 277, 3) := by decide +kernel
theorem dX10_kernel_14 : decode cX10_kernel 14 = .ok (.ifCond .eq 17, 3) := by decide +kernel
theorem dX10_kernel_17 : decode cX10_kernel 17 = .ok (.aload_n 0, 1) := by decide +kernel
theorem dX10_kernel_18 : decode cX10_kernel 18 = .ok (.getfield 186, 3) := by decide +kernel
theorem dX10_kernel_21 : decode cX10_kernel 21 = .ok (.aload_n 0, 1) := by decide +kernel
theorem dX10_kernel_22 : decode cX10_kernel 22 = .ok (.getfield 37, 3) := by decide +kernel
theorem dX10_kernel_25 : decode cX10_kernel 25 = .ok (.iload_n 1, 1) := by decide +kernel
theorem dX10_kernel_26 : decode cX10_kernel 26 = .ok (.iaload, 1) := by decide +kernel
theorem dX10_kernel_27 : decode cX10_kernel 27 = .ok (.isub, 1) := by decide +kernel
theorem dX10_kernel_28 : decode cX10_kernel 28 = .ok (.goto 5, 3) := by decide +kernel
theorem dX10_kernel_31 : decode cX10_kernel 31 = .ok (.bipush (-2), 2) := by decide +kernel
theorem dX10_kernel_33 : decode cX10_kernel 33 = .ok (.ireturn, 1) := by decide +kernel
theorem dX10_findsKernel_0 : decode cX10_findsKernel 0 = .ok (.aload_n 0, 1) := by decide +kernel
theorem dX10_findsKernel_1 : decode cX10_findsKernel 1 = .ok (.iload_n 1, 1) := by decide +kernel
theorem dX10_findsKernel_2 : decode cX10_findsKernel 2 = .ok (.iconst 0, 1) := by decide +kernel
theorem dX10_findsKernel_3 : decode cX10_findsKernel 3 = .ok (.invokevirtual 207, 3) := by decide +kernel
theorem dX10_findsKernel_6 : decode cX10_findsKernel 6 = .ok (.iconst 0, 1) := by decide +kernel
theorem dX10_findsKernel_7 : decode cX10_findsKernel 7 = .ok (.istore_n 2, 1) := by decide +kernel
theorem dX10_findsKernel_8 : decode cX10_findsKernel 8 = .ok (.iload_n 2, 1) := by decide +kernel
theorem dX10_findsKernel_9 : decode cX10_findsKernel 9 = .ok (.bipush 64, 2) := by decide +kernel
theorem dX10_findsKernel_11 : decode cX10_findsKernel 11 = .ok (.if_icmp .ge 31, 3) := by decide +kernel
theorem dX10_findsKernel_14 : decode cX10_findsKernel 14 = .ok (.aload_n 0, 1) := by decide +kernel
theorem dX10_findsKernel_15 : decode cX10_findsKernel 15 = .ok (.getfield 73, 3) := by decide +kernel
theorem dX10_findsKernel_18 : decode cX10_findsKernel 18 = .ok (.iload_n 2, 1) := by decide +kernel
theorem dX10_findsKernel_19 : decode cX10_findsKernel 19 = .ok (.iload_n 2, 1) := by decide +kernel
theorem dX10_findsKernel_20 : decode cX10_findsKernel 20 = .ok (.bipush 8, 2) := by decide +kernel
theorem dX10_findsKernel_22 : decode cX10_findsKernel 22 = .ok (.idiv, 1) := by decide +kernel
theorem dX10_findsKernel_23 : decode cX10_findsKernel 23 = .ok (.iload_n 2, 1) := by decide +kernel
theorem dX10_findsKernel_24 : decode cX10_findsKernel 24 = .ok (.bipush 8, 2) := by decide +kernel
theorem dX10_findsKernel_26 : decode cX10_findsKernel 26 = .ok (.irem, 1) := by decide +kernel
theorem dX10_findsKernel_27 : decode cX10_findsKernel 27 = .ok (.if_icmp .ne 7, 3) := by decide +kernel
theorem dX10_findsKernel_30 : decode cX10_findsKernel 30 = .ok (.iconst 1, 1) := by decide +kernel
theorem dX10_findsKernel_31 : decode cX10_findsKernel 31 = .ok (.goto 4, 3) := by decide +kernel
theorem dX10_findsKernel_34 : decode cX10_findsKernel 34 = .ok (.iconst 0, 1) := by decide +kernel
theorem dX10_findsKernel_35 : decode cX10_findsKernel 35 = .ok (.iastore, 1) := by decide +kernel
theorem dX10_findsKernel_36 : decode cX10_findsKernel 36 = .ok (.iinc 2 1, 3) := by decide +kernel
theorem dX10_findsKernel_39 : decode cX10_findsKernel 39 = .ok (.goto (-31), 3) := by decide +kernel
theorem dX10_findsKernel_42 : decode cX10_findsKernel 42 = .ok (.iconst 0, 1) := by decide +kernel
theorem dX10_findsKernel_43 : decode cX10_findsKernel 43 = .ok (.istore_n 2, 1) := by decide +kernel
theorem dX10_findsKernel_44 : decode cX10_findsKernel 44 = .ok (.iconst 0, 1) := by decide +kernel
theorem dX10_findsKernel_45 : decode cX10_findsKernel 45 = .ok (.istore_n 3, 1) := by decide +kernel
theorem dX10_findsKernel_46 : decode cX10_findsKernel 46 = .ok (.iload_n 3, 1) := by decide +kernel
theorem dX10_findsKernel_47 : decode cX10_findsKernel 47 = .ok (.aload_n 0, 1) := by decide +kernel
theorem dX10_findsKernel_48 : decode cX10_findsKernel 48 = .ok (.getfield 186, 3) := by decide +kernel
theorem dX10_findsKernel_51 : decode cX10_findsKernel 51 = .ok (.if_icmp .ge 67, 3) := by decide +kernel
theorem dX10_findsKernel_54 : decode cX10_findsKernel 54 = .ok (.iload_n 2, 1) := by decide +kernel
theorem dX10_findsKernel_55 : decode cX10_findsKernel 55 = .ok (.istore 4, 2) := by decide +kernel
theorem dX10_findsKernel_57 : decode cX10_findsKernel 57 = .ok (.iload 4, 2) := by decide +kernel
theorem dX10_findsKernel_59 : decode cX10_findsKernel 59 = .ok (.aload_n 0, 1) := by decide +kernel
theorem dX10_findsKernel_60 : decode cX10_findsKernel 60 = .ok (.getfield 186, 3) := by decide +kernel
theorem dX10_findsKernel_63 : decode cX10_findsKernel 63 = .ok (.if_icmp .ge 24, 3) := by decide +kernel
theorem dX10_findsKernel_66 : decode cX10_findsKernel 66 = .ok (.aload_n 0, 1) := by decide +kernel
theorem dX10_findsKernel_67 : decode cX10_findsKernel 67 = .ok (.getfield 46, 3) := by decide +kernel
theorem dX10_findsKernel_70 : decode cX10_findsKernel 70 = .ok (.bipush 8, 2) := by decide +kernel
theorem dX10_findsKernel_72 : decode cX10_findsKernel 72 = .ok (.iload 4, 2) := by decide +kernel
theorem dX10_findsKernel_74 : decode cX10_findsKernel 74 = .ok (.imul, 1) := by decide +kernel
theorem dX10_findsKernel_75 : decode cX10_findsKernel 75 = .ok (.iload_n 3, 1) := by decide +kernel
theorem dX10_findsKernel_76 : decode cX10_findsKernel 76 = .ok (.iadd, 1) := by decide +kernel
theorem dX10_findsKernel_77 : decode cX10_findsKernel 77 = .ok (.iaload, 1) := by decide +kernel
theorem dX10_findsKernel_78 : decode cX10_findsKernel 78 = .ok (.ifCond .ne 9, 3) := by decide +kernel
theorem dX10_findsKernel_81 : decode cX10_findsKernel 81 = .ok (.iinc 4 1, 3) := by decide +kernel
theorem dX10_findsKernel_84 : decode cX10_findsKernel 84 = .ok (.goto (-27), 3) := by decide +kernel
theorem dX10_findsKernel_87 : decode cX10_findsKernel 87 = .ok (.iload 4, 2) := by decide +kernel
theorem dX10_findsKernel_89 : decode cX10_findsKernel 89 = .ok (.aload_n 0, 1) := by decide +kernel
theorem dX10_findsKernel_90 : decode cX10_findsKernel 90 = .ok (.getfield 186, 3) := by decide +kernel
theorem dX10_findsKernel_93 : decode cX10_findsKernel 93 = .ok (.if_icmp .ge 19, 3) := by decide +kernel
theorem dX10_findsKernel_96 : decode cX10_findsKernel 96 = .ok (.aload_n 0, 1) := by decide +kernel
theorem dX10_findsKernel_97 : decode cX10_findsKernel 97 = .ok (.iload 4, 2) := by decide +kernel
theorem dX10_findsKernel_99 : decode cX10_findsKernel 99 = .ok (.iload_n 2, 1) := by decide +kernel
theorem dX10_findsKernel_100 : decode cX10_findsKernel 100 = .ok (.invokevirtual 290, 3) := by decide +kernel
theorem dX10_findsKernel_103 : decode cX10_findsKernel 103 = .ok (.aload_n 0, 1) := by decide +kernel
theorem dX10_findsKernel_104 : decode cX10_findsKernel 104 = .ok (.iload_n 2, 1) := by decide +kernel
theorem dX10_findsKernel_105 : decode cX10_findsKernel 105 = .ok (.iload_n 3, 1) := by decide +kernel
theorem dX10_findsKernel_106 : decode cX10_findsKernel 106 = .ok (.invokevirtual 294, 3) := by decide +kernel
theorem dX10_findsKernel_109 : decode cX10_findsKernel 109 = .ok (.iinc 2 1, 3) := by decide +kernel
theorem dX10_findsKernel_112 : decode cX10_findsKernel 112 = .ok (.iinc 3 1, 3) := by decide +kernel
theorem dX10_findsKernel_115 : decode cX10_findsKernel 115 = .ok (.goto (-69), 3) := by decide +kernel
theorem dX10_findsKernel_118 : decode cX10_findsKernel 118 = .ok (.iconst 0, 1) := by decide +kernel
theorem dX10_findsKernel_119 : decode cX10_findsKernel 119 = .ok (.istore_n 3, 1) := by decide +kernel
theorem dX10_findsKernel_120 : decode cX10_findsKernel 120 = .ok (.iload_n 3, 1) := by decide +kernel
theorem dX10_findsKernel_121 : decode cX10_findsKernel 121 = .ok (.aload_n 0, 1) := by decide +kernel
theorem dX10_findsKernel_122 : decode cX10_findsKernel 122 = .ok (.getfield 186, 3) := by decide +kernel
theorem dX10_findsKernel_125 : decode cX10_findsKernel 125 = .ok (.if_icmp .ge 31, 3) := by decide +kernel
theorem dX10_findsKernel_128 : decode cX10_findsKernel 128 = .ok (.aload_n 0, 1) := by decide +kernel
theorem dX10_findsKernel_129 : decode cX10_findsKernel 129 = .ok (.getfield 70, 3) := by decide +kernel
theorem dX10_findsKernel_132 : decode cX10_findsKernel 132 = .ok (.iload_n 3, 1) := by decide +kernel
theorem dX10_findsKernel_133 : decode cX10_findsKernel 133 = .ok (.aload_n 0, 1) := by decide +kernel
theorem dX10_findsKernel_134 : decode cX10_findsKernel 134 = .ok (.getfield 73, 3) := by decide +kernel
theorem dX10_findsKernel_137 : decode cX10_findsKernel 137 = .ok (.bipush 8, 2) := by decide +kernel
theorem dX10_findsKernel_139 : decode cX10_findsKernel 139 = .ok (.aload_n 0, 1) := by decide +kernel
theorem dX10_findsKernel_140 : decode cX10_findsKernel 140 = .ok (.getfield 186, 3) := by decide +kernel
theorem dX10_findsKernel_143 : decode cX10_findsKernel 143 = .ok (.iconst 1, 1) := by decide +kernel
theorem dX10_findsKernel_144 : decode cX10_findsKernel 144 = .ok (.isub, 1) := by decide +kernel
theorem dX10_findsKernel_145 : decode cX10_findsKernel 145 = .ok (.imul, 1) := by decide +kernel
theorem dX10_findsKernel_146 : decode cX10_findsKernel 146 = .ok (.iload_n 3, 1) := by decide +kernel
theorem dX10_findsKernel_147 : decode cX10_findsKernel 147 = .ok (.iadd, 1) := by decide +kernel
theorem dX10_findsKernel_148 : decode cX10_findsKernel 148 = .ok (.iaload, 1) := by decide +kernel
theorem dX10_findsKernel_149 : decode cX10_findsKernel 149 = .ok (.iastore, 1) := by decide +kernel
theorem dX10_findsKernel_150 : decode cX10_findsKernel 150 = .ok (.iinc 3 1, 3) := by decide +kernel
theorem dX10_findsKernel_153 : decode cX10_findsKernel 153 = .ok (.goto (-33), 3) := by decide +kernel
theorem dX10_findsKernel_156 : decode cX10_findsKernel 156 = .ok (.return_, 1) := by decide +kernel
theorem dX10_exchanges_0 : decode cX10_exchanges 0 = .ok (.iconst 0, 1) := by decide +kernel
theorem dX10_exchanges_1 : decode cX10_exchanges 1 = .ok (.istore_n 3, 1) := by decide +kernel
