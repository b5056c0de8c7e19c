theorem dX10_signHere_113 : decode cX10_signHere 113 = .ok (.bipush (-7), 2) := by decide +kernel
theorem dX10_signHere_115 : decode cX10_signHere 115 = .ok (.ireturn, 1) := by decide +kernel
theorem dX10_signHere_116 : decode cX10_signHere 116 = .ok (.bipush (-8), 2) := by decide +kernel
theorem dX10_signHere_118 : decode cX10_signHere 118 = .ok (.ireturn, 1) := by decide +kernel
theorem dX10_signHere_119 : decode cX10_signHere 119 = .ok (.bipush (-9), 2) := by decide +kernel
theorem dX10_signHere_121 : decode cX10_signHere 121 = .ok (.ireturn, 1) := by decide +kernel
theorem dX10_signHere_122 : decode cX10_signHere 122 = .ok (.iconst 0, 1) := by decide +kernel
theorem dX10_signHere_123 : decode cX10_signHere 123 = .ok (.ireturn, 1) := by decide +kernel
theorem dX10_takesPart_0 : decode cX10_takesPart 0 = .ok (.aload_n 0, 1) := by decide +kernel
theorem dX10_takesPart_1 : decode cX10_takesPart 1 = .ok (.getfield 218, 3) := by decide +kernel
theorem dX10_takesPart_4 : decode cX10_takesPart 4 = .ok (.iconst 1, 1) := by decide +kernel
theorem dX10_takesPart_5 : decode cX10_takesPart 5 = .ok (.if_icmp .ne 31, 3) := by decide +kernel
theorem dX10_takesPart_8 : decode cX10_takesPart 8 = .ok (.aload_n 0, 1) := by decide +kernel
theorem dX10_takesPart_9 : decode cX10_takesPart 9 = .ok (.getfield 209, 3) := by decide +kernel
theorem dX10_takesPart_12 : decode cX10_takesPart 12 = .ok (.aload_n 0, 1) := by decide +kernel
theorem dX10_takesPart_13 : decode cX10_takesPart 13 = .ok (.getfield 212, 3) := by decide +kernel
theorem dX10_takesPart_16 : decode cX10_takesPart 16 = .ok (.isub, 1) := by decide +kernel
theorem dX10_takesPart_17 : decode cX10_takesPart 17 = .ok (.iconst 1, 1) := by decide +kernel
theorem dX10_takesPart_18 : decode cX10_takesPart 18 = .ok (.if_icmp .ne 18, 3) := by decide +kernel
theorem dX10_takesPart_21 : decode cX10_takesPart 21 = .ok (.aload_n 0, 1) := by decide +kernel
theorem dX10_takesPart_22 : decode cX10_takesPart 22 = .ok (.aload_n 0, 1) := by decide +kernel
theorem dX10_takesPart_23 : decode cX10_takesPart 23 = .ok (.getfield 224, 3) := by decide +kernel
theorem dX10_takesPart_26 : decode cX10_takesPart 26 = .ok (.invokevirtual 245, 3) := by decide +kernel
theorem dX10_takesPart_29 : decode cX10_takesPart 29 = .ok (.ifCond .lt 7, 3) := by decide +kernel
theorem dX10_takesPart_32 : decode cX10_takesPart 32 = .ok (.iconst 1, 1) := by decide +kernel
theorem dX10_takesPart_33 : decode cX10_takesPart 33 = .ok (.goto 4, 3) := by decide +kernel
theorem dX10_takesPart_36 : decode cX10_takesPart 36 = .ok (.iconst 0, 1) := by decide +kernel
theorem dX10_takesPart_37 : decode cX10_takesPart 37 = .ok (.istore_n 1, 1) := by decide +kernel
theorem dX10_takesPart_38 : decode cX10_takesPart 38 = .ok (.aload_n 0, 1) := by decide +kernel
theorem dX10_takesPart_39 : decode cX10_takesPart 39 = .ok (.getfield 218, 3) := by decide +kernel
theorem dX10_takesPart_42 : decode cX10_takesPart 42 = .ok (.iconst 2, 1) := by decide +kernel
theorem dX10_takesPart_43 : decode cX10_takesPart 43 = .ok (.if_icmp .eq 9, 3) := by decide +kernel
theorem dX10_takesPart_46 : decode cX10_takesPart 46 = .ok (.iload_n 1, 1) := by decide +kernel
theorem dX10_takesPart_47 : decode cX10_takesPart 47 = .ok (.ifCond .ne 5, 3) := by decide +kernel
theorem dX10_takesPart_50 : decode cX10_takesPart 50 = .ok (.iconst 0, 1) := by decide +kernel
theorem dX10_takesPart_51 : decode cX10_takesPart 51 = .ok (.ireturn, 1) := by decide +kernel
theorem dX10_takesPart_52 : decode cX10_takesPart 52 = .ok (.aload_n 0, 1) := by decide +kernel
theorem dX10_takesPart_53 : decode cX10_takesPart 53 = .ok (.getfield 35, 3) := by decide +kernel
theorem dX10_takesPart_56 : decode cX10_takesPart 56 = .ok (.aload_n 0, 1) := by decide +kernel
theorem dX10_takesPart_57 : decode cX10_takesPart 57 = .ok (.getfield 242, 3) := by decide +kernel
theorem dX10_takesPart_60 : decode cX10_takesPart 60 = .ok (.aload_n 0, 1) := by decide +kernel
theorem dX10_takesPart_61 : decode cX10_takesPart 61 = .ok (.getfield 218, 3) := by decide +kernel
theorem dX10_takesPart_64 : decode cX10_takesPart 64 = .ok (.iconst 2, 1) := by decide +kernel
theorem dX10_takesPart_65 : decode cX10_takesPart 65 = .ok (.if_icmp .ne 10, 3) := by decide +kernel
theorem dX10_takesPart_68 : decode cX10_takesPart 68 = .ok (.aload_n 0, 1) := by decide +kernel
theorem dX10_takesPart_69 : decode cX10_takesPart 69 = .ok (.getfield 224, 3) := by decide +kernel
theorem dX10_takesPart_72 : decode cX10_takesPart 72 = .ok (.goto 15, 3) := by decide +kernel
theorem dX10_takesPart_75 : decode cX10_takesPart 75 = .ok (.sipush 10000, 3) := by decide +kernel
theorem dX10_takesPart_78 : decode cX10_takesPart 78 = .ok (.aload_n 0, 1) := by decide +kernel
theorem dX10_takesPart_79 : decode cX10_takesPart 79 = .ok (.aload_n 0, 1) := by decide +kernel
theorem dX10_takesPart_80 : decode cX10_takesPart 80 = .ok (.getfield 224, 3) := by decide +kernel
theorem dX10_takesPart_83 : decode cX10_takesPart 83 = .ok (.invokevirtual 245, 3) := by decide +kernel
theorem dX10_takesPart_86 : decode cX10_takesPart 86 = .ok (.iadd, 1) := by decide +kernel
theorem dX10_takesPart_87 : decode cX10_takesPart 87 = .ok (.iastore, 1) := by decide +kernel
theorem dX10_takesPart_88 : decode cX10_takesPart 88 = .ok (.aload_n 0, 1) := by decide +kernel
theorem dX10_takesPart_89 : decode cX10_takesPart 89 = .ok (.dup, 1) := by decide +kernel
theorem dX10_takesPart_90 : decode cX10_takesPart 90 = .ok (.getfield 242, 3) := by decide +kernel
theorem dX10_takesPart_93 : decode cX10_takesPart 93 = .ok (.iconst 1, 1) := by decide +kernel
theorem dX10_takesPart_94 : decode cX10_takesPart 94 = .ok (.iadd, 1) := by decide +kernel
theorem dX10_takesPart_95 : decode cX10_takesPart 95 = .ok (.putfield 242, 3) := by decide +kernel
theorem dX10_takesPart_98 : decode cX10_takesPart 98 = .ok (.aload_n 0, 1) := by decide +kernel
theorem dX10_takesPart_99 : decode cX10_takesPart 99 = .ok (.dup, 1) := by decide +kernel
theorem dX10_takesPart_100 : decode cX10_takesPart 100 = .ok (.getfield 248, 3) := by decide +kernel
theorem dX10_takesPart_103 : decode cX10_takesPart 103 = .ok (.iconst 1, 1) := by decide +kernel
theorem dX10_takesPart_104 : decode cX10_takesPart 104 = .ok (.iadd, 1) := by decide +kernel
theorem dX10_takesPart_105 : decode cX10_takesPart 105 = .ok (.putfield 248, 3) := by decide +kernel
theorem dX10_takesPart_108 : decode cX10_takesPart 108 = .ok (.aload_n 0, 1) := by decide +kernel
theorem dX10_takesPart_109 : decode cX10_takesPart 109 = .ok (.bipush 6, 2) := by decide +kernel
theorem dX10_takesPart_111 : decode cX10_takesPart 111 = .ok (.invokevirtual 251, 3) := by decide +kernel
theorem dX10_takesPart_114 : decode cX10_takesPart 114 = .ok (.aload_n 0, 1) := by decide +kernel
theorem dX10_takesPart_115 : decode cX10_takesPart 115 = .ok (.invokevirtual 233, 3) := by decide +kernel
theorem dX10_takesPart_118 : decode cX10_takesPart 118 = .ok (.iconst 1, 1) := by decide +kernel
theorem dX10_takesPart_119 : decode cX10_takesPart 119 = .ok (.ireturn, 1) := by decide +kernel
theorem dX10_takesE_0 : decode cX10_takesE 0 = .ok (.iconst 0, 1) := by decide +kernel
theorem dX10_takesE_1 : decode cX10_takesE 1 = .ok (.istore_n 1, 1) := by decide +kernel
theorem dX10_takesE_2 : decode cX10_takesE 2 = .ok (.iconst 0, 1) := by decide +kernel
theorem dX10_takesE_3 : decode cX10_takesE 3 = .ok (.istore_n 2, 1) := by decide +kernel
theorem dX10_takesE_4 : decode cX10_takesE 4 = .ok (.iconst 1, 1) := by decide +kernel
theorem dX10_takesE_5 : decode cX10_takesE 5 = .ok (.istore_n 3, 1) := by decide +kernel
theorem dX10_takesE_6 : decode cX10_takesE 6 = .ok (.aload_n 0, 1) := by decide +kernel
theorem dX10_takesE_7 : decode cX10_takesE 7 = .ok (.iconst 0, 1) := by decide +kernel
theorem dX10_takesE_8 : decode cX10_takesE 8 = .ok (.putfield 242, 3) := by decide +kernel
theorem dX10_takesE_11 : decode cX10_takesE 11 = .ok (.aload_n 0, 1) := by decide +kernel
theorem dX10_takesE_12 : decode cX10_takesE 12 = .ok (.iconst 0, 1) := by decide +kernel
theorem dX10_takesE_13 : decode cX10_takesE 13 = .ok (.putfield 248, 3) := by decide +kernel
theorem dX10_takesE_16 : decode cX10_takesE 16 = .ok (.aload_n 0, 1) := by decide +kernel
theorem dX10_takesE_17 : decode cX10_takesE 17 = .ok (.iconst 0, 1) := by decide +kernel
theorem dX10_takesE_18 : decode cX10_takesE 18 = .ok (.putfield 236, 3) := by decide +kernel
theorem dX10_takesE_21 : decode cX10_takesE 21 = .ok (.aload_n 0, 1) := by decide +kernel
theorem dX10_takesE_22 : decode cX10_takesE 22 = .ok (.getfield 41, 3) := by decide +kernel
theorem dX10_takesE_25 : decode cX10_takesE 25 = .ok (.iconst 0, 1) := by decide +kernel
theorem dX10_takesE_26 : decode cX10_takesE 26 = .ok (.iconst 0, 1) := by decide +kernel
theorem dX10_takesE_27 : decode cX10_takesE 27 = .ok (.bastore, 1) := by decide +kernel
theorem dX10_takesE_28 : decode cX10_takesE 28 = .ok (.iload_n 3, 1) := by decide +kernel
theorem dX10_takesE_29 : decode cX10_takesE 29 = .ok (.ifCond .ne 10, 3) := by decide +kernel
theorem dX10_takesE_32 : decode cX10_takesE 32 = .ok (.aload_n 0, 1) := by decide +kernel
theorem dX10_takesE_33 : decode cX10_takesE 33 = .ok (.getfield 218, 3) := by decide +kernel
theorem dX10_takesE_36 : decode cX10_takesE 36 = .ok (.ifCond .eq 309, 3) := by decide +kernel
theorem dX10_takesE_39 : decode cX10_takesE 39 = .ok (.iload_n 3, 1) := by decide +kernel
theorem dX10_takesE_40 : decode cX10_takesE 40 = .ok (.ifCond .eq 140, 3) := by decide +kernel
theorem dX10_takesE_43 : decode cX10_takesE 43 = .ok (.aload_n 0, 1) := by decide +kernel
theorem dX10_takesE_44 : decode cX10_takesE 44 = .ok (.getfield 218, 3) := by decide +kernel
theorem dX10_takesE_47 : decode cX10_takesE 47 = .ok (.iconst 3, 1) := by decide +kernel
theorem dX10_takesE_48 : decode cX10_takesE 48 = .ok (.if_icmp .ne 49, 3) := by decide +kernel
theorem dX10_takesE_51 : decode cX10_takesE 51 = .ok (.aload_n 0, 1) := by decide +kernel
theorem dX10_takesE_52 : decode cX10_takesE 52 = .ok (.getfield 224, 3) := by decide +kernel
theorem dX10_takesE_55 : decode cX10_takesE 55 = .ok (.bipush 33, 2) := by decide +kernel
theorem dX10_takesE_57 : decode cX10_takesE 57 = .ok (.if_icmp .ne 40, 3) := by decide +kernel
theorem dX10_takesE_60 : decode cX10_takesE 60 = .ok (.iload_n 2, 1) := by decide +kernel
theorem dX10_takesE_61 : decode cX10_takesE 61 = .ok (.bipush 8, 2) := by decide +kernel
theorem dX10_takesE_63 : decode cX10_takesE 63 = .ok (.if_icmp .ge 34, 3) := by decide +kernel
theorem dX10_takesE_66 : decode cX10_takesE 66 = .ok (.aload_n 0, 1) := by decide +kernel
theorem dX10_takesE_67 : decode cX10_takesE 67 = .ok (.getfield 38, 3) := by decide +kernel
theorem dX10_takesE_70 : decode cX10_takesE 70 = .ok (.aload_n 0, 1) := by decide +kernel
theorem dX10_takesE_71 : decode cX10_takesE 71 = .ok (.getfield 236, 3) := by decide +kernel
theorem dX10_takesE_74 : decode cX10_takesE 74 = .ok (.bipush (-10), 2) := by decide +kernel
theorem dX10_takesE_76 : decode cX10_takesE 76 = .ok (.iastore, 1) := by decide +kernel
theorem dX10_takesE_77 : decode cX10_takesE 77 = .ok (.aload_n 0, 1) := by decide +kernel
theorem dX10_takesE_78 : decode cX10_takesE 78 = .ok (.dup, 1) := by decide +kernel
theorem dX10_takesE_79 : decode cX10_takesE 79 = .ok (.getfield 236, 3) := by decide +kernel
theorem dX10_takesE_82 : decode cX10_takesE 82 = .ok (.iconst 1, 1) := by decide +kernel
theorem dX10_takesE_83 : decode cX10_takesE 83 = .ok (.iadd, 1) := by decide +kernel
theorem dX10_takesE_84 : decode cX10_takesE 84 = .ok (.putfield 236, 3) := by decide +kernel
theorem dX10_takesE_87 : decode cX10_takesE 87 = .ok (.iinc 2 1, 3) := by decide +kernel
theorem dX10_takesE_90 : decode cX10_takesE 90 = .ok (.aload_n 0, 1) := by decide +kernel
theorem dX10_takesE_91 : decode cX10_takesE 91 = .ok (.invokevirtual 233, 3) := by decide +kernel
theorem dX10_takesE_94 : decode cX10_takesE 94 = .ok (.goto 78, 3) := by decide +kernel
theorem dX10_takesE_97 : decode cX10_takesE 97 = .ok (.aload_n 0, 1) := by decide +kernel
theorem dX10_takesE_98 : decode cX10_takesE 98 = .ok (.getfield 218, 3) := by decide +kernel
theorem dX10_takesE_101 : decode cX10_takesE 101 = .ok (.iconst 3, 1) := by decide +kernel
theorem dX10_takesE_102 : decode cX10_takesE 102 = .ok (.if_icmp .ne 56, 3) := by decide +kernel
theorem dX10_takesE_105 : decode cX10_takesE 105 = .ok (.aload_n 0, 1) := by decide +kernel
theorem dX10_takesE_106 : decode cX10_takesE 106 = .ok (.getfield 224, 3) := by decide +kernel
theorem dX10_takesE_109 : decode cX10_takesE 109 = .ok (.bipush 40, 2) := by decide +kernel
theorem dX10_takesE_111 : decode cX10_takesE 111 = .ok (.if_icmp .ne 47, 3) := by decide +kernel
theorem dX10_takesE_114 : decode cX10_takesE 114 = .ok (.iload_n 1, 1) := by decide +kernel
theorem dX10_takesE_115 : decode cX10_takesE 115 = .ok (.bipush 8, 2) := by decide +kernel
theorem dX10_takesE_117 : decode cX10_takesE 117 = .ok (.if_icmp .ge 41, 3) := by decide +kernel
theorem dX10_takesE_120 : decode cX10_takesE 120 = .ok (.aload_n 0, 1) := by decide +kernel
theorem dX10_takesE_121 : decode cX10_takesE 121 = .ok (.getfield 38, 3) := by decide +kernel
theorem dX10_takesE_124 : decode cX10_takesE 124 = .ok (.aload_n 0, 1) := by decide +kernel
theorem dX10_takesE_125 : decode cX10_takesE 125 = .ok (.getfield 236, 3) := by decide +kernel
theorem dX10_takesE_128 : decode cX10_takesE 128 = .ok (.bipush (-11), 2) := by decide +kernel
theorem dX10_takesE_130 : decode cX10_takesE 130 = .ok (.iastore, 1) := by decide +kernel
theorem dX10_takesE_131 : decode cX10_takesE 131 = .ok (.aload_n 0, 1) := by decide +kernel
theorem dX10_takesE_132 : decode cX10_takesE 132 = .ok (.dup, 1) := by decide +kernel
theorem dX10_takesE_133 : decode cX10_takesE 133 = .ok (.getfield 236, 3) := by decide +kernel
theorem dX10_takesE_136 : decode cX10_takesE 136 = .ok (.iconst 1, 1) := by decide +kernel
theorem dX10_takesE_137 : decode cX10_takesE 137 = .ok (.iadd, 1) := by decide +kernel
theorem dX10_takesE_138 : decode cX10_takesE 138 = .ok (.putfield 236, 3) := by decide +kernel
theorem dX10_takesE_141 : decode cX10_takesE 141 = .ok (.iinc 1 1, 3) := by decide +kernel
theorem dX10_takesE_144 : decode cX10_takesE 144 = .ok (.aload_n 0, 1) := by decide +kernel
theorem dX10_takesE_145 : decode cX10_takesE 145 = .ok (.getfield 41, 3) := by decide +kernel
theorem dX10_takesE_148 : decode cX10_takesE 148 = .ok (.iload_n 1, 1) := by decide +kernel
theorem dX10_takesE_149 : decode cX10_takesE 149 = .ok (.iconst 0, 1) := by decide +kernel
theorem dX10_takesE_150 : decode cX10_takesE 150 = .ok (.bastore, 1) := by decide +kernel
theorem dX10_takesE_151 : decode cX10_takesE 151 = .ok (.aload_n 0, 1) := by decide +kernel
theorem dX10_takesE_152 : decode cX10_takesE 152 = .ok (.invokevirtual 233, 3) := by decide +kernel
theorem dX10_takesE_155 : decode cX10_takesE 155 = .ok (.goto 17, 3) := by decide +kernel
theorem dX10_takesE_158 : decode cX10_takesE 158 = .ok (.aload_n 0, 1) := by decide +kernel
theorem dX10_takesE_159 : decode cX10_takesE 159 = .ok (.invokevirtual 254, 3) := by decide +kernel
theorem dX10_takesE_162 : decode cX10_takesE 162 = .ok (.ifCond .eq 8, 3) := by decide +kernel
theorem dX10_takesE_165 : decode cX10_takesE 165 = .ok (.iconst 0, 1) := by decide +kernel
theorem dX10_takesE_166 : decode cX10_takesE 166 = .ok (.istore_n 3, 1) := by decide +kernel
theorem dX10_takesE_167 : decode cX10_takesE 167 = .ok (.goto 5, 3) := by decide +kernel
theorem dX10_takesE_170 : decode cX10_takesE 170 = .ok (.iconst 0, 1) := by decide +kernel
theorem dX10_takesE_171 : decode cX10_takesE 171 = .ok (.ireturn, 1) := by decide +kernel
theorem dX10_takesE_172 : decode cX10_takesE 172 = .ok (.aload_n 0, 1) := by decide +kernel
theorem dX10_takesE_173 : decode cX10_takesE 173 = .ok (.invokevirtual 257, 3) := by decide +kernel
theorem dX10_takesE_176 : decode cX10_takesE 176 = .ok (.istore_n 2, 1) := by decide +kernel
theorem dX10_takesE_177 : decode cX10_takesE 177 = .ok (.goto (-149), 3) := by decide +kernel
theorem dX10_takesE_180 : decode cX10_takesE 180 = .ok (.aload_n 0, 1) := by decide +kernel
theorem dX10_takesE_181 : decode cX10_takesE 181 = .ok (.getfield 218, 3) := by decide +kernel
theorem dX10_takesE_184 : decode cX10_takesE 184 = .ok (.iconst 3, 1) := by decide +kernel
theorem dX10_takesE_185 : decode cX10_takesE 185 = .ok (.if_icmp .ne 52, 3) := by decide +kernel
theorem dX10_takesE_188 : decode cX10_takesE 188 = .ok (.aload_n 0, 1) := by decide +kernel
theorem dX10_takesE_189 : decode cX10_takesE 189 = .ok (.getfield 224, 3) := by decide +kernel
theorem dX10_takesE_192 : decode cX10_takesE 192 = .ok (.bipush 41, 2) := by decide +kernel
theorem dX10_takesE_194 : decode cX10_takesE 194 = .ok (.if_icmp .ne 43, 3) := by decide +kernel
theorem dX10_takesE_197 : decode cX10_takesE 197 = .ok (.iload_n 1, 1) := by decide +kernel
theorem dX10_takesE_198 : decode cX10_takesE 198 = .ok (.ifCond .le 39, 3) := by decide +kernel
theorem dX10_takesE_201 : decode cX10_takesE 201 = .ok (.aload_n 0, 1) := by decide +kernel
theorem dX10_takesE_202 : decode cX10_takesE 202 = .ok (.iconst 0, 1) := by decide +kernel
theorem dX10_takesE_203 : decode cX10_takesE 203 = .ok (.invokevirtual 251, 3) := by decide +kernel
theorem dX10_takesE_206 : decode cX10_takesE 206 = .ok (.aload_n 0, 1) := by decide +kernel
theorem dX10_takesE_207 : decode cX10_takesE 207 = .ok (.dup, 1) := by decide +kernel
theorem dX10_takesE_208 : decode cX10_takesE 208 = .ok (.getfield 236, 3) := by decide +kernel
theorem dX10_takesE_211 : decode cX10_takesE 211 = .ok (.iconst 1, 1) := by decide +kernel
theorem dX10_takesE_212 : decode cX10_takesE 212 = .ok (.isub, 1) := by decide +kernel
theorem dX10_takesE_213 : decode cX10_takesE 213 = .ok (.putfield 236, 3) := by decide +kernel
theorem dX10_takesE_216 : decode cX10_takesE 216 = .ok (.iinc 1 (-1), 3) := by decide +kernel
theorem dX10_takesE_219 : decode cX10_takesE 219 = .ok (.aload_n 0, 1) := by decide +kernel
theorem dX10_takesE_220 : decode cX10_takesE 220 = .ok (.bipush 6, 2) := by decide +kernel
theorem dX10_takesE_222 : decode cX10_takesE 222 = .ok (.invokevirtual 251, 3) := by decide +kernel
theorem dX10_takesE_225 : decode cX10_takesE 225 = .ok (.aload_n 0, 1) := by decide +kernel
theorem dX10_takesE_226 : decode cX10_takesE 226 = .ok (.invokevirtual 257, 3) := by decide +kernel
theorem dX10_takesE_229 : decode cX10_takesE 229 = .ok (.istore_n 2, 1) := by decide +kernel
theorem dX10_takesE_230 : decode cX10_takesE 230 = .ok (.aload_n 0, 1) := by decide +kernel
theorem dX10_takesE_231 : decode cX10_takesE 231 = .ok (.invokevirtual 233, 3) := by decide +kernel
theorem dX10_takesE_234 : decode cX10_takesE 234 = .ok (.goto (-206), 3) := by decide +kernel
theorem dX10_takesE_237 : decode cX10_takesE 237 = .ok (.aload_n 0, 1) := by decide +kernel
theorem dX10_takesE_238 : decode cX10_takesE 238 = .ok (.invokevirtual 260, 3) := by decide +kernel
theorem dX10_takesE_241 : decode cX10_takesE 241 = .ok (.istore 4, 2) := by decide +kernel
theorem dX10_takesE_243 : decode cX10_takesE 243 = .ok (.iload 4, 2) := by decide +kernel
theorem dX10_takesE_245 : decode cX10_takesE 245 = .ok (.ifCond .eq 21, 3) := by decide +kernel
theorem dX10_takesE_248 : decode cX10_takesE 248 = .ok (.iload 4, 2) := by decide +kernel
theorem dX10_takesE_250 : decode cX10_takesE 250 = .ok (.invokestatic 239, 3) := by decide +kernel
theorem dX10_takesE_253 : decode cX10_takesE 253 = .ok (.iconst 3, 1) := by decide +kernel
theorem dX10_takesE_254 : decode cX10_takesE 254 = .ok (.if_icmp .ne 14, 3) := by decide +kernel
theorem dX10_takesE_257 : decode cX10_takesE 257 = .ok (.aload_n 0, 1) := by decide +kernel
theorem dX10_takesE_258 : decode cX10_takesE 258 = .ok (.getfield 41, 3) := by decide +kernel
theorem dX10_takesE_261 : decode cX10_takesE 261 = .ok (.iload_n 1, 1) := by decide +kernel
theorem dX10_takesE_262 : decode cX10_takesE 262 = .ok (.baload, 1) := by decide +kernel
theorem dX10_takesE_263 : decode cX10_takesE 263 = .ok (.ifCond .eq 5, 3) := by decide +kernel
theorem dX10_takesE_266 : decode cX10_takesE 266 = .ok (.iconst 0, 1) := by decide +kernel
theorem dX10_takesE_267 : decode cX10_takesE 267 = .ok (.ireturn, 1) := by decide +kernel
theorem dX10_takesE_268 : decode cX10_takesE 268 = .ok (.aload_n 0, 1) := by decide +kernel
theorem dX10_takesE_269 : decode cX10_takesE 269 = .ok (.getfield 41, 3) := by decide +kernel
theorem dX10_takesE_272 : decode cX10_takesE 272 = .ok (.iload_n 1, 1) := by decide +kernel
theorem dX10_takesE_273 : decode cX10_takesE 273 = .ok (.iload 4, 2) := by decide +kernel
theorem dX10_takesE_275 : decode cX10_takesE 275 = .ok (.invokestatic 239, 3) := by decide +kernel
theorem dX10_takesE_278 : decode cX10_takesE 278 = .ok (.iconst 3, 1) := by decide +kernel
theorem dX10_takesE_279 : decode cX10_takesE 279 = .ok (.if_icmp .eq 21, 3) := by decide +kernel
theorem dX10_takesE_282 : decode cX10_takesE 282 = .ok (.iload 4, 2) := by decide +kernel
theorem dX10_takesE_284 : decode cX10_takesE 284 = .ok (.invokestatic 239, 3) := by decide +kernel
theorem dX10_takesE_287 : decode cX10_takesE 287 = .ok (.iconst 3, 1) := by decide +kernel
theorem dX10_takesE_288 : decode cX10_takesE 288 = .ok (.if_icmp .le 16, 3) := by decide +kernel
theorem dX10_takesE_291 : decode cX10_takesE 291 = .ok (.aload_n 0, 1) := by decide +kernel
theorem dX10_takesE_292 : decode cX10_takesE 292 = .ok (.getfield 41, 3) := by decide +kernel
theorem dX10_takesE_295 : decode cX10_takesE 295 = .ok (.iload_n 1, 1) := by decide +kernel
theorem dX10_takesE_296 : decode cX10_takesE 296 = .ok (.baload, 1) := by decide +kernel
theorem dX10_takesE_297 : decode cX10_takesE 297 = .ok (.ifCond .eq 7, 3) := by decide +kernel
theorem dX10_takesE_300 : decode cX10_takesE 300 = .ok (.iconst 1, 1) := by decide +kernel
theorem dX10_takesE_301 : decode cX10_takesE 301 = .ok (.goto 4, 3) := by decide +kernel
theorem dX10_takesE_304 : decode cX10_takesE 304 = .ok (.iconst 0, 1) := by decide +kernel
theorem dX10_takesE_305 : decode cX10_takesE 305 = .ok (.bastore, 1) := by decide +kernel
theorem dX10_takesE_306 : decode cX10_takesE 306 = .ok (.aload_n 0, 1) := by decide +kernel
theorem dX10_takesE_307 : decode cX10_takesE 307 = .ok (.iload 4, 2) := by decide +kernel
theorem dX10_takesE_309 : decode cX10_takesE 309 = .ok (.invokestatic 239, 3) := by decide +kernel
theorem dX10_takesE_312 : decode cX10_takesE 312 = .ok (.invokevirtual 251, 3) := by decide +kernel
theorem dX10_takesE_315 : decode cX10_takesE 315 = .ok (.aload_n 0, 1) := by decide +kernel
theorem dX10_takesE_316 : decode cX10_takesE 316 = .ok (.getfield 38, 3) := by decide +kernel
theorem dX10_takesE_319 : decode cX10_takesE 319 = .ok (.aload_n 0, 1) := by decide +kernel
theorem dX10_takesE_320 : decode cX10_takesE 320 = .ok (.getfield 236, 3) := by decide +kernel
theorem dX10_takesE_323 : decode cX10_takesE 323 = .ok (.iload 4, 2) := by decide +kernel
theorem dX10_takesE_325 : decode cX10_takesE 325 = .ok (.iastore, 1) := by decide +kernel
theorem dX10_takesE_326 : decode cX10_takesE 326 = .ok (.aload_n 0, 1) := by decide +kernel
theorem dX10_takesE_327 : decode cX10_takesE 327 = .ok (.dup, 1) := by decide +kernel
theorem dX10_takesE_328 : decode cX10_takesE 328 = .ok (.getfield 236, 3) := by decide +kernel
theorem dX10_takesE_331 : decode cX10_takesE 331 = .ok (.iconst 1, 1) := by decide +kernel
theorem dX10_takesE_332 : decode cX10_takesE 332 = .ok (.iadd, 1) := by decide +kernel
theorem dX10_takesE_333 : decode cX10_takesE 333 = .ok (.putfield 236, 3) := by decide +kernel
theorem dX10_takesE_336 : decode cX10_takesE 336 = .ok (.iconst 1, 1) := by decide +kernel
theorem dX10_takesE_337 : decode cX10_takesE 337 = .ok (.istore_n 3, 1) := by decide +kernel
theorem dX10_takesE_338 : decode cX10_takesE 338 = .ok (.aload_n 0, 1) := by decide +kernel
theorem dX10_takesE_339 : decode cX10_takesE 339 = .ok (.invokevirtual 233, 3) := by decide +kernel
theorem dX10_takesE_342 : decode cX10_takesE 342 = .ok (.goto (-314), 3) := by decide +kernel
theorem dX10_takesE_345 : decode cX10_takesE 345 = .ok (.aload_n 0, 1) := by decide +kernel
theorem dX10_takesE_346 : decode cX10_takesE 346 = .ok (.iconst 0, 1) := by decide +kernel
theorem dX10_takesE_347 : decode cX10_takesE 347 = .ok (.invokevirtual 251, 3) := by decide +kernel
theorem dX10_takesE_350 : decode cX10_takesE 350 = .ok (.iload_n 1, 1) := by decide +kernel
theorem dX10_takesE_351 : decode cX10_takesE 351 = .ok (.ifCond .ne 7, 3) := by decide +kernel
theorem dX10_takesE_354 : decode cX10_takesE 354 = .ok (.iconst 1, 1) := by decide +kernel
theorem dX10_takesE_355 : decode cX10_takesE 355 = .ok (.goto 4, 3) := by decide +kernel
theorem dX10_takesE_358 : decode cX10_takesE 358 = .ok (.iconst 0, 1) := by decide +kernel
theorem dX10_takesE_359 : decode cX10_takesE 359 = .ok (.ireturn, 1) := by decide +kernel
theorem dX10_notsOpen_0 : decode cX10_notsOpen 0 = .ok (.iconst 0, 1) := by decide +kernel
theorem dX10_notsOpen_1 : decode cX10_notsOpen 1 = .ok (.istore_n 1, 1) := by decide +kernel
theorem dX10_notsOpen_2 : decode cX10_notsOpen 2 = .ok (.iconst 0, 1) := by decide +kernel
theorem dX10_notsOpen_3 : decode cX10_notsOpen 3 = .ok (.istore_n 2, 1) := by decide +kernel
theorem dX10_notsOpen_4 : decode cX10_notsOpen 4 = .ok (.iload_n 2, 1) := by decide +kernel
theorem dX10_notsOpen_5 : decode cX10_notsOpen 5 = .ok (.aload_n 0, 1) := by decide +kernel
theorem dX10_notsOpen_6 : decode cX10_notsOpen 6 = .ok (.getfield 236, 3) := by decide +kernel
theorem dX10_notsOpen_9 : decode cX10_notsOpen 9 = .ok (.if_icmp .ge 28, 3) := by decide +kernel
theorem dX10_notsOpen_12 : decode cX10_notsOpen 12 = .ok (.iload_n 1, 1) := by decide +kernel
theorem dX10_notsOpen_13 : decode cX10_notsOpen 13 = .ok (.aload_n 0, 1) := by decide +kernel
theorem dX10_notsOpen_14 : decode cX10_notsOpen 14 = .ok (.getfield 38, 3) := by decide +kernel
theorem dX10_notsOpen_17 : decode cX10_notsOpen 17 = .ok (.iload_n 2, 1) := by decide +kernel
theorem dX10_notsOpen_18 : decode cX10_notsOpen 18 = .ok (.iaload, 1) := by decide +kernel
theorem dX10_notsOpen_19 : decode cX10_notsOpen 19 = .ok (.bipush (-10), 2) := by decide +kernel
theorem dX10_notsOpen_21 : decode cX10_notsOpen 21 = .ok (.if_icmp .ne 7, 3) := by decide +kernel
theorem dX10_notsOpen_24 : decode cX10_notsOpen 24 = .ok (.iconst 1, 1) := by decide +kernel
theorem dX10_notsOpen_25 : decode cX10_notsOpen 25 = .ok (.goto 4, 3) := by decide +kernel
theorem dX10_notsOpen_28 : decode cX10_notsOpen 28 = .ok (.iconst 0, 1) := by decide +kernel
theorem dX10_notsOpen_29 : decode cX10_notsOpen 29 = .ok (.iadd, 1) := by decide +kernel
theorem dX10_notsOpen_30 : decode cX10_notsOpen 30 = .ok (.istore_n 1, 1) := by decide +kernel
theorem dX10_notsOpen_31 : decode cX10_notsOpen 31 = .ok (.iinc 2 1, 3) := by decide +kernel
theorem dX10_notsOpen_34 : decode cX10_notsOpen 34 = .ok (.goto (-30), 3) := by decide +kernel
theorem dX10_notsOpen_37 : decode cX10_notsOpen 37 = .ok (.iload_n 1, 1) := by decide +kernel
theorem dX10_notsOpen_38 : decode cX10_notsOpen 38 = .ok (.ireturn, 1) := by decide +kernel
theorem dX10_text_0 : decode cX10_text 0 = .ok (.aload_n 0, 1) := by decide +kernel
theorem dX10_text_1 : decode cX10_text 1 = .ok (.iconst 0, 1) := by decide +kernel
theorem dX10_text_2 : decode cX10_text 2 = .ok (.putfield 209, 3) := by decide +kernel
theorem dX10_text_5 : decode cX10_text 5 = .ok (.aload_n 0, 1) := by decide +kernel
theorem dX10_text_6 : decode cX10_text 6 = .ok (.iconst (-1), 1) := by decide +kernel
theorem dX10_text_7 : decode cX10_text 7 = .ok (.putfield 215, 3) := by decide +kernel
theorem dX10_text_10 : decode cX10_text 10 = .ok (.aload_n 0, 1) := by decide +kernel
theorem dX10_text_11 : decode cX10_text 11 = .ok (.invokevirtual 233, 3) := by decide +kernel
theorem dX10_text_14 : decode cX10_text 14 = .ok (.aload_n 0, 1) := by decide +kernel
theorem dX10_text_15 : decode cX10_text 15 = .ok (.invokevirtual 263, 3) := by decide +kernel
theorem dX10_text_18 : decode cX10_text 18 = .ok (.ifCond .eq 14, 3) := by decide +kernel
theorem dX10_text_21 : decode cX10_text 21 = .ok (.aload_n 0, 1) := by decide +kernel
theorem dX10_text_22 : decode cX10_text 22 = .ok (.invokevirtual 266, 3) := by decide +kernel
theorem dX10_text_25 : decode cX10_text 25 = .ok (.ifCond .eq 7, 3) := by decide +kernel
theorem dX10_text_28 : decode cX10_text 28 = .ok (.iconst 1, 1) := by decide +kernel
theorem dX10_text_29 : decode cX10_text 29 = .ok (.goto 4, 3) := by decide +kernel
theorem dX10_text_32 : decode cX10_text 32 = .ok (.iconst 0, 1) := by decide +kernel
theorem dX10_text_33 : decode cX10_text 33 = .ok (.istore_n 1, 1) := by decide +kernel
theorem dX10_text_34 : decode cX10_text 34 = .ok (.aload_n 0, 1) := by decide +kernel
theorem dX10_text_35 : decode cX10_text 35 = .ok (.iconst 0, 1) := by decide +kernel
theorem dX10_text_36 : decode cX10_text 36 = .ok (.putfield 205, 3) := by decide +kernel
theorem dX10_text_39 : decode cX10_text 39 = .ok (.iload_n 1, 1) := by decide +kernel
theorem dX10_text_40 : decode cX10_text 40 = .ok (.ifCond .ne 11, 3) := by decide +kernel
theorem dX10_text_43 : decode cX10_text 43 = .ok (.bipush (-100), 2) := by decide +kernel
theorem dX10_text_45 : decode cX10_text 45 = .ok (.aload_n 0, 1) := by decide +kernel
theorem dX10_text_46 : decode cX10_text 46 = .ok (.getfield 212, 3) := by decide +kernel
theorem dX10_text_49 : decode cX10_text 49 = .ok (.isub, 1) := by decide +kernel
theorem dX10_text_50 : decode cX10_text 50 = .ok (.ireturn, 1) := by decide +kernel
theorem dX10_text_51 : decode cX10_text 51 = .ok (.aload_n 0, 1) := by decide +kernel
theorem dX10_text_52 : decode cX10_text 52 = .ok (.getfield 9, 3) := by decide +kernel
theorem dX10_text_55 : decode cX10_text 55 = .ok (.bipush 8, 2) := by decide +kernel
theorem dX10_text_57 : decode cX10_text 57 = .ok (.iaload, 1) := by decide +kernel
theorem dX10_text_58 : decode cX10_text 58 = .ok (.bipush 14, 2) := by decide +kernel
theorem dX10_text_60 : decode cX10_text 60 = .ok (.if_icmp .ne 6, 3) := by decide +kernel
theorem dX10_text_63 : decode cX10_text 63 = .ok (.ldc 87, 2) := by decide +kernel
theorem dX10_text_65 : decode cX10_text 65 = .ok (.ireturn, 1) := by decide +kernel
theorem dX10_text_66 : decode cX10_text 66 = .ok (.aload_n 0, 1) := by decide +kernel
theorem dX10_text_67 : decode cX10_text 67 = .ok (.getfield 9, 3) := by decide +kernel
theorem dX10_text_70 : decode cX10_text 70 = .ok (.bipush 8, 2) := by decide +kernel
theorem dX10_text_72 : decode cX10_text 72 = .ok (.iaload, 1) := by decide +kernel
theorem dX10_text_73 : decode cX10_text 73 = .ok (.istore_n 2, 1) := by decide +kernel
theorem dX10_text_74 : decode cX10_text 74 = .ok (.aload_n 0, 1) := by decide +kernel
theorem dX10_text_75 : decode cX10_text 75 = .ok (.getfield 9, 3) := by decide +kernel
theorem dX10_text_78 : decode cX10_text 78 = .ok (.bipush 65, 2) := by decide +kernel
theorem dX10_text_80 : decode cX10_text 80 = .ok (.iconst 2, 1) := by decide +kernel
theorem dX10_text_81 : decode cX10_text 81 = .ok (.iload_n 2, 1) := by decide +kernel
theorem dX10_text_82 : decode cX10_text 82 = .ok (.imul, 1) := by decide +kernel
theorem dX10_text_83 : decode cX10_text 83 = .ok (.iadd, 1) := by decide +kernel
theorem dX10_text_84 : decode cX10_text 84 = .ok (.sipush 1000, 3) := by decide +kernel
theorem dX10_text_87 : decode cX10_text 87 = .ok (.aload_n 0, 1) := by decide +kernel
theorem dX10_text_88 : decode cX10_text 88 = .ok (.getfield 230, 3) := by decide +kernel
theorem dX10_text_91 : decode cX10_text 91 = .ok (.imul, 1) := by decide +kernel
theorem dX10_text_92 : decode cX10_text 92 = .ok (.aload_n 0, 1) := by decide +kernel
theorem dX10_text_93 : decode cX10_text 93 = .ok (.getfield 242, 3) := by decide +kernel
theorem dX10_text_96 : decode cX10_text 96 = .ok (.iadd, 1) := by decide +kernel
theorem dX10_text_97 : decode cX10_text 97 = .ok (.iastore, 1) := by decide +kernel
theorem dX10_text_98 : decode cX10_text 98 = .ok (.aload_n 0, 1) := by decide +kernel
theorem dX10_text_99 : decode cX10_text 99 = .ok (.getfield 9, 3) := by decide +kernel
theorem dX10_text_102 : decode cX10_text 102 = .ok (.bipush 65, 2) := by decide +kernel
theorem dX10_text_104 : decode cX10_text 104 = .ok (.iconst 2, 1) := by decide +kernel
theorem dX10_text_105 : decode cX10_text 105 = .ok (.iload_n 2, 1) := by decide +kernel
theorem dX10_text_106 : decode cX10_text 106 = .ok (.imul, 1) := by decide +kernel
theorem dX10_text_107 : decode cX10_text 107 = .ok (.iadd, 1) := by decide +kernel
theorem dX10_text_108 : decode cX10_text 108 = .ok (.iconst 1, 1) := by decide +kernel
theorem dX10_text_109 : decode cX10_text 109 = .ok (.iadd, 1) := by decide +kernel
theorem dX10_text_110 : decode cX10_text 110 = .ok (.aload_n 0, 1) := by decide +kernel
theorem dX10_text_111 : decode cX10_text 111 = .ok (.getfield 248, 3) := by decide +kernel
theorem dX10_text_114 : decode cX10_text 114 = .ok (.iastore, 1) := by decide +kernel
theorem dX10_text_115 : decode cX10_text 115 = .ok (.iconst 0, 1) := by decide +kernel
theorem dX10_text_116 : decode cX10_text 116 = .ok (.istore_n 3, 1) := by decide +kernel
theorem dX10_text_117 : decode cX10_text 117 = .ok (.iload_n 3, 1) := by decide +kernel
theorem dX10_text_118 : decode cX10_text 118 = .ok (.aload_n 0, 1) := by decide +kernel
theorem dX10_text_119 : decode cX10_text 119 = .ok (.getfield 242, 3) := by decide +kernel
theorem dX10_text_122 : decode cX10_text 122 = .ok (.if_icmp .ge 29, 3) := by decide +kernel
theorem dX10_text_125 : decode cX10_text 125 = .ok (.aload_n 0, 1) := by decide +kernel
theorem dX10_text_126 : decode cX10_text 126 = .ok (.getfield 9, 3) := by decide +kernel
theorem dX10_text_129 : decode cX10_text 129 = .ok (.bipush 93, 2) := by decide +kernel
theorem dX10_text_131 : decode cX10_text 131 = .ok (.bipush 96, 2) := by decide +kernel
theorem dX10_text_133 : decode cX10_text 133 = .ok (.iload_n 2, 1) := by decide +kernel
theorem dX10_text_134 : decode cX10_text 134 = .ok (.imul, 1) := by decide +kernel
theorem dX10_text_135 : decode cX10_text 135 = .ok (.iadd, 1) := by decide +kernel
theorem dX10_text_136 : decode cX10_text 136 = .ok (.iload_n 3, 1) := by decide +kernel
theorem dX10_text_137 : decode cX10_text 137 = .ok (.iadd, 1) := by decide +kernel
theorem dX10_text_138 : decode cX10_text 138 = .ok (.aload_n 0, 1) := by decide +kernel
theorem dX10_text_139 : decode cX10_text 139 = .ok (.getfield 35, 3) := by decide +kernel
theorem dX10_text_142 : decode cX10_text 142 = .ok (.iload_n 3, 1) := by decide +kernel
theorem dX10_text_143 : decode cX10_text 143 = .ok (.iaload, 1) := by decide +kernel
theorem dX10_text_144 : decode cX10_text 144 = .ok (.iastore, 1) := by decide +kernel
theorem dX10_text_145 : decode cX10_text 145 = .ok (.iinc 3 1, 3) := by decide +kernel
theorem dX10_text_148 : decode cX10_text 148 = .ok (.goto (-31), 3) := by decide +kernel
theorem dX10_text_151 : decode cX10_text 151 = .ok (.aload_n 0, 1) := by decide +kernel
theorem dX10_text_152 : decode cX10_text 152 = .ok (.getfield 9, 3) := by decide +kernel
theorem dX10_text_155 : decode cX10_text 155 = .ok (.bipush 8, 2) := by decide +kernel
theorem dX10_text_157 : decode cX10_text 157 = .ok (.dup2, 1) := by decide +kernel
theorem dX10_text_158 : decode cX10_text 158 = .ok (.iaload, 1) := by decide +kernel
theorem dX10_text_159 : decode cX10_text 159 = .ok (.iconst 1, 1) := by decide +kernel
theorem dX10_text_160 : decode cX10_text 160 = .ok (.iadd, 1) := by decide +kernel
theorem dX10_text_161 : decode cX10_text 161 = .ok (.iastore, 1) := by decide +kernel
theorem dX10_text_162 : decode cX10_text 162 = .ok (.iload_n 2, 1) := by decide +kernel
theorem dX10_text_163 : decode cX10_text 163 = .ok (.ireturn, 1) := by decide +kernel
theorem dX10_textTold_0 : decode cX10_textTold 0 = .ok (.iload_n 1, 1) := by decide +kernel
theorem dX10_textTold_1 : decode cX10_textTold 1 = .ok (.iconst 0, 1) := by decide +kernel
theorem dX10_textTold_2 : decode cX10_textTold 2 = .ok (.aload_n 0, 1) := by decide +kernel
theorem dX10_textTold_3 : decode cX10_textTold 3 = .ok (.getfield 9, 3) := by decide +kernel
theorem dX10_textTold_6 : decode cX10_textTold 6 = .ok (.bipush 8, 2) := by decide +kernel
theorem dX10_textTold_8 : decode cX10_textTold 8 = .ok (.iaload, 1) := by decide +kernel
theorem dX10_textTold_9 : decode cX10_textTold 9 = .ok (.iconst 1, 1) := by decide +kernel
theorem dX10_textTold_10 : decode cX10_textTold 10 = .ok (.isub, 1) := by decide +kernel
theorem dX10_textTold_11 : decode cX10_textTold 11 = .ok (.invokestatic 78, 3) := by decide +kernel
theorem dX10_textTold_14 : decode cX10_textTold 14 = .ok (.ifCond .eq 12, 3) := by decide +kernel
theorem dX10_textTold_17 : decode cX10_textTold 17 = .ok (.iload_n 2, 1) := by decide +kernel
theorem dX10_textTold_18 : decode cX10_textTold 18 = .ok (.iconst 0, 1) := by decide +kernel
theorem dX10_textTold_19 : decode cX10_textTold 19 = .ok (.iconst 1, 1) := by decide +kernel
theorem dX10_textTold_20 : decode cX10_textTold 20 = .ok (.invokestatic 78, 3) := by decide +kernel
theorem dX10_textTold_23 : decode cX10_textTold 23 = .ok (.ifCond .ne 6, 3) := by decide +kernel
theorem dX10_textTold_26 : decode cX10_textTold 26 = .ok (.ldc 86, 2) := by decide +kernel
theorem dX10_textTold_28 : decode cX10_textTold 28 = .ok (.ireturn, 1) := by decide +kernel
theorem dX10_textTold_29 : decode cX10_textTold 29 = .ok (.iload_n 2, 1) := by decide +kernel
theorem dX10_textTold_30 : decode cX10_textTold 30 = .ok (.ifCond .ne 21, 3) := by decide +kernel
theorem dX10_textTold_33 : decode cX10_textTold 33 = .ok (.aload_n 0, 1) := by decide +kernel
theorem dX10_textTold_34 : decode cX10_textTold 34 = .ok (.getfield 9, 3) := by decide +kernel
theorem dX10_textTold_37 : decode cX10_textTold 37 = .ok (.bipush 65, 2) := by decide +kernel
theorem dX10_textTold_39 : decode cX10_textTold 39 = .ok (.iconst 2, 1) := by decide +kernel
theorem dX10_textTold_40 : decode cX10_textTold 40 = .ok (.iload_n 1, 1) := by decide +kernel
theorem dX10_textTold_41 : decode cX10_textTold 41 = .ok (.imul, 1) := by decide +kernel
theorem dX10_textTold_42 : decode cX10_textTold 42 = .ok (.iadd, 1) := by decide +kernel
theorem dX10_textTold_43 : decode cX10_textTold 43 = .ok (.iaload, 1) := by decide +kernel
theorem dX10_textTold_44 : decode cX10_textTold 44 = .ok (.sipush 1000, 3) := by decide +kernel
theorem dX10_textTold_47 : decode cX10_textTold 47 = .ok (.idiv, 1) := by decide +kernel
theorem dX10_textTold_48 : decode cX10_textTold 48 = .ok (.goto 16, 3) := by decide +kernel
theorem dX10_textTold_51 : decode cX10_textTold 51 = .ok (.aload_n 0, 1) := by decide +kernel
theorem dX10_textTold_52 : decode cX10_textTold 52 = .ok (.getfield 9, 3) := by decide +kernel
theorem dX10_textTold_55 : decode cX10_textTold 55 = .ok (.bipush 65, 2) := by decide +kernel
theorem dX10_textTold_57 : decode cX10_textTold 57 = .ok (.iconst 2, 1) := by decide +kernel
theorem dX10_textTold_58 : decode cX10_textTold 58 = .ok (.iload_n 1, 1) := by decide +kernel
theorem dX10_textTold_59 : decode cX10_textTold 59 = .ok (.imul, 1) := by decide +kernel
theorem dX10_textTold_60 : decode cX10_textTold 60 = .ok (.iadd, 1) := by decide +kernel
theorem dX10_textTold_61 : decode cX10_textTold 61 = .ok (.iconst 1, 1) := by decide +kernel
theorem dX10_textTold_62 : decode cX10_textTold 62 = .ok (.iadd, 1) := by decide +kernel
theorem dX10_textTold_63 : decode cX10_textTold 63 = .ok (.iaload, 1) := by decide +kernel
theorem dX10_textTold_64 : decode cX10_textTold 64 = .ok (.ireturn, 1) := by decide +kernel
theorem dX10_counts_0 : decode cX10_counts 0 = .ok (.aload_n 0, 1) := by decide +kernel
theorem dX10_counts_1 : decode cX10_counts 1 = .ok (.getfield 9, 3) := by decide +kernel
theorem dX10_counts_4 : decode cX10_counts 4 = .ok (.bipush 8, 2) := by decide +kernel
theorem dX10_counts_6 : decode cX10_counts 6 = .ok (.iaload, 1) := by decide +kernel
theorem dX10_counts_7 : decode cX10_counts 7 = .ok (.iconst 1, 1) := by decide +kernel
theorem dX10_counts_8 : decode cX10_counts 8 = .ok (.isub, 1) := by decide +kernel
theorem dX10_counts_9 : decode cX10_counts 9 = .ok (.istore_n 2, 1) := by decide +kernel
theorem dX10_counts_10 : decode cX10_counts 10 = .ok (.iload_n 2, 1) := by decide +kernel
theorem dX10_counts_11 : decode cX10_counts 11 = .ok (.ifCond .lt 30, 3) := by decide +kernel
theorem dX10_counts_14 : decode cX10_counts 14 = .ok (.aload_n 0, 1) := by decide +kernel
theorem dX10_counts_15 : decode cX10_counts 15 = .ok (.getfield 9, 3) := by decide +kernel
theorem dX10_counts_18 : decode cX10_counts 18 = .ok (.bipush 65, 2) := by decide +kernel
theorem dX10_counts_20 : decode cX10_counts 20 = .ok (.iconst 2, 1) := by decide +kernel
theorem dX10_counts_21 : decode cX10_counts 21 = .ok (.iload_n 2, 1) := by decide +kernel
theorem dX10_counts_22 : decode cX10_counts 22 = .ok (.imul, 1) := by decide +kernel
theorem dX10_counts_23 : decode cX10_counts 23 = .ok (.iadd, 1) := by decide +kernel
theorem dX10_counts_24 : decode cX10_counts 24 = .ok (.iaload, 1) := by decide +kernel
theorem dX10_counts_25 : decode cX10_counts 25 = .ok (.sipush 1000, 3) := by decide +kernel
theorem dX10_counts_28 : decode cX10_counts 28 = .ok (.idiv, 1) := by decide +kernel
theorem dX10_counts_29 : decode cX10_counts 29 = .ok (.iload_n 1, 1) := by decide +kernel
theorem dX10_counts_30 : decode cX10_counts 30 = .ok (.if_icmp .ne 5, 3) := by decide +kernel
theorem dX10_counts_33 : decode cX10_counts 33 = .ok (.iload_n 2, 1) := by decide +kernel
theorem dX10_counts_34 : decode cX10_counts 34 = .ok (.ireturn, 1) := by decide +kernel
theorem dX10_counts_35 : decode cX10_counts 35 = .ok (.iinc 2 (-1), 3) := by decide +kernel
theorem dX10_counts_38 : decode cX10_counts 38 = .ok (.goto (-28), 3) := by decide +kernel
theorem dX10_counts_41 : decode cX10_counts 41 = .ok (.iconst (-1), 1) := by decide +kernel
theorem dX10_counts_42 : decode cX10_counts 42 = .ok (.ireturn, 1) := by decide +kernel
theorem dX10_why_0 : decode cX10_why 0 = .ok (.iload_n 1, 1) := by decide +kernel
theorem dX10_why_1 : decode cX10_why 1 = .ok (.iconst 0, 1) := by decide +kernel
theorem dX10_why_2 : decode cX10_why 2 = .ok (.iconst 2, 1) := by decide +kernel
theorem dX10_why_3 : decode cX10_why 3 = .ok (.invokestatic 78, 3) := by decide +kernel
theorem dX10_why_6 : decode cX10_why 6 = .ok (.ifCond .ne 6, 3) := by decide +kernel
theorem dX10_why_9 : decode cX10_why 9 = .ok (.ldc 86, 2) := by decide +kernel
theorem dX10_why_11 : decode cX10_why 11 = .ok (.ireturn, 1) := by decide +kernel
theorem dX10_why_12 : decode cX10_why 12 = .ok (.aload_n 0, 1) := by decide +kernel
theorem dX10_why_13 : decode cX10_why 13 = .ok (.iload_n 1, 1) := by decide +kernel
theorem dX10_why_14 : decode cX10_why 14 = .ok (.invokevirtual 92, 3) := by decide +kernel
theorem dX10_why_17 : decode cX10_why 17 = .ok (.istore_n 2, 1) := by decide +kernel
theorem dX10_why_18 : decode cX10_why 18 = .ok (.iload_n 2, 1) := by decide +kernel
theorem dX10_why_19 : decode cX10_why 19 = .ok (.ifCond .ge 8, 3) := by decide +kernel
theorem dX10_why_22 : decode cX10_why 22 = .ok (.ldc 185, 2) := by decide +kernel
theorem dX10_why_24 : decode cX10_why 24 = .ok (.goto 4, 3) := by decide +kernel
theorem dX10_why_27 : decode cX10_why 27 = .ok (.iload_n 2, 1) := by decide +kernel
theorem dX10_why_28 : decode cX10_why 28 = .ok (.ireturn, 1) := by decide +kernel
theorem dX10_two_0 : decode cX10_two 0 = .ok (.iload_n 0, 1) := by decide +kernel
theorem dX10_two_1 : decode cX10_two 1 = .ok (.tableswitch 120 (-8) (-1) #[116, 112, 108, 97, 86, 75, 61, 47], 47) := by decide +kernel
theorem dX10_two_48 : decode cX10_two 48 = .ok (.iload_n 1, 1) := by decide +kernel
theorem dX10_two_49 : decode cX10_two 49 = .ok (.ifCond .ne 7, 3) := by decide +kernel
theorem dX10_two_52 : decode cX10_two 52 = .ok (.iload_n 2, 1) := by decide +kernel
theorem dX10_two_53 : decode cX10_two 53 = .ok (.ifCond .eq 7, 3) := by decide +kernel
theorem dX10_two_56 : decode cX10_two 56 = .ok (.iconst 1, 1) := by decide +kernel
theorem dX10_two_57 : decode cX10_two 57 = .ok (.goto 4, 3) := by decide +kernel
theorem dX10_two_60 : decode cX10_two 60 = .ok (.iconst 0, 1) := by decide +kernel
theorem dX10_two_61 : decode cX10_two 61 = .ok (.ireturn, 1) := by decide +kernel
theorem dX10_two_62 : decode cX10_two 62 = .ok (.iload_n 1, 1) := by decide +kernel
theorem dX10_two_63 : decode cX10_two 63 = .ok (.ifCond .eq 11, 3) := by decide +kernel
theorem dX10_two_66 : decode cX10_two 66 = .ok (.iload_n 2, 1) := by decide +kernel
theorem dX10_two_67 : decode cX10_two 67 = .ok (.ifCond .eq 7, 3) := by decide +kernel
theorem dX10_two_70 : decode cX10_two 70 = .ok (.iconst 1, 1) := by decide +kernel
theorem dX10_two_71 : decode cX10_two 71 = .ok (.goto 4, 3) := by decide +kernel
theorem dX10_two_74 : decode cX10_two 74 = .ok (.iconst 0, 1) := by decide +kernel
theorem dX10_two_75 : decode cX10_two 75 = .ok (.ireturn, 1) := by decide +kernel
theorem dX10_two_76 : decode cX10_two 76 = .ok (.iload_n 1, 1) := by decide +kernel
theorem dX10_two_77 : decode cX10_two 77 = .ok (.iload_n 2, 1) := by decide +kernel
theorem dX10_two_78 : decode cX10_two 78 = .ok (.if_icmp .ge 7, 3) := by decide +kernel
theorem dX10_two_81 : decode cX10_two 81 = .ok (.iconst 1, 1) := by decide +kernel
theorem dX10_two_82 : decode cX10_two 82 = .ok (.goto 4, 3) := by decide +kernel
theorem dX10_two_85 : decode cX10_two 85 = .ok (.iconst 0, 1) := by decide +kernel
theorem dX10_two_86 : decode cX10_two 86 = .ok (.ireturn, 1) := by decide +kernel
theorem dX10_two_87 : decode cX10_two 87 = .ok (.iload_n 1, 1) := by decide +kernel
theorem dX10_two_88 : decode cX10_two 88 = .ok (.iload_n 2, 1) := by decide +kernel
theorem dX10_two_89 : decode cX10_two 89 = .ok (.if_icmp .ne 7, 3) := by decide +kernel
theorem dX10_two_92 : decode cX10_two 92 = .ok (.iconst 1, 1) := by decide +kernel
theorem dX10_two_93 : decode cX10_two 93 = .ok (.goto 4, 3) := by decide +kernel
theorem dX10_two_96 : decode cX10_two 96 = .ok (.iconst 0, 1) := by decide +kernel
theorem dX10_two_97 : decode cX10_two 97 = .ok (.ireturn, 1) := by decide +kernel
theorem dX10_two_98 : decode cX10_two 98 = .ok (.iload_n 1, 1) := by decide +kernel
theorem dX10_two_99 : decode cX10_two 99 = .ok (.iload_n 2, 1) := by decide +kernel
theorem dX10_two_100 : decode cX10_two 100 = .ok (.if_icmp .le 7, 3) := by decide +kernel
theorem dX10_two_103 : decode cX10_two 103 = .ok (.iconst 1, 1) := by decide +kernel
theorem dX10_two_104 : decode cX10_two 104 = .ok (.goto 4, 3) := by decide +kernel
theorem dX10_two_107 : decode cX10_two 107 = .ok (.iconst 0, 1) := by decide +kernel
theorem dX10_two_108 : decode cX10_two 108 = .ok (.ireturn, 1) := by decide +kernel
theorem dX10_two_109 : decode cX10_two 109 = .ok (.iload_n 1, 1) := by decide +kernel
theorem dX10_two_110 : decode cX10_two 110 = .ok (.iload_n 2, 1) := by decide +kernel
theorem dX10_two_111 : decode cX10_two 111 = .ok (.iadd, 1) := by decide +kernel
theorem dX10_two_112 : decode cX10_two 112 = .ok (.ireturn, 1) := by decide +kernel
theorem dX10_two_113 : decode cX10_two 113 = .ok (.iload_n 1, 1) := by decide +kernel
theorem dX10_two_114 : decode cX10_two 114 = .ok (.iload_n 2, 1) := by decide +kernel
theorem dX10_two_115 : decode cX10_two 115 = .ok (.isub, 1) := by decide +kernel
theorem dX10_two_116 : decode cX10_two 116 = .ok (.ireturn, 1) := by decide +kernel
theorem dX10_two_117 : decode cX10_two 117 = .ok (.iload_n 1, 1) := by decide +kernel
theorem dX10_two_118 : decode cX10_two 118 = .ok (.iload_n 2, 1) := by decide +kernel
theorem dX10_two_119 : decode cX10_two 119 = .ok (.imul, 1) := by decide +kernel
theorem dX10_two_120 : decode cX10_two 120 = .ok (.ireturn, 1) := by decide +kernel
theorem dX10_two_121 : decode cX10_two 121 = .ok (.iload_n 2, 1) := by decide +kernel
theorem dX10_two_122 : decode cX10_two 122 = .ok (.ifCond .ne 7, 3) := by decide +kernel
theorem dX10_two_125 : decode cX10_two 125 = .ok (.iconst 0, 1) := by decide +kernel
theorem dX10_two_126 : decode cX10_two 126 = .ok (.goto 6, 3) := by decide +kernel
theorem dX10_two_129 : decode cX10_two 129 = .ok (.iload_n 1, 1) := by decide +kernel
theorem dX10_two_130 : decode cX10_two 130 = .ok (.iload_n 2, 1) := by decide +kernel
theorem dX10_two_131 : decode cX10_two 131 = .ok (.idiv, 1) := by decide +kernel
theorem dX10_two_132 : decode cX10_two 132 = .ok (.ireturn, 1) := by decide +kernel
theorem dX10_worksOut_0 : decode cX10_worksOut 0 = .ok (.iconst 0, 1) := by decide +kernel
theorem dX10_worksOut_1 : decode cX10_worksOut 1 = .ok (.istore_n 2, 1) := by decide +kernel
theorem dX10_worksOut_2 : decode cX10_worksOut 2 = .ok (.aload_n 0, 1) := by decide +kernel
theorem dX10_worksOut_3 : decode cX10_worksOut 3 = .ok (.getfield 9, 3) := by decide +kernel
theorem dX10_worksOut_6 : decode cX10_worksOut 6 = .ok (.bipush 65, 2) := by decide +kernel
theorem dX10_worksOut_8 : decode cX10_worksOut 8 = .ok (.iconst 2, 1) := by decide +kernel
theorem dX10_worksOut_9 : decode cX10_worksOut 9 = .ok (.iload_n 1, 1) := by decide +kernel
theorem dX10_worksOut_10 : decode cX10_worksOut 10 = .ok (.imul, 1) := by decide +kernel
theorem dX10_worksOut_11 : decode cX10_worksOut 11 = .ok (.iadd, 1) := by decide +kernel
theorem dX10_worksOut_12 : decode cX10_worksOut 12 = .ok (.iaload, 1) := by decide +kernel
theorem dX10_worksOut_13 : decode cX10_worksOut 13 = .ok (.sipush 1000, 3) := by decide +kernel
theorem dX10_worksOut_16 : decode cX10_worksOut 16 = .ok (.irem, 1) := by decide +kernel
theorem dX10_worksOut_17 : decode cX10_worksOut 17 = .ok (.istore_n 3, 1) := by decide +kernel
theorem dX10_worksOut_18 : decode cX10_worksOut 18 = .ok (.iconst 0, 1) := by decide +kernel
theorem dX10_worksOut_19 : decode cX10_worksOut 19 = .ok (.istore 4, 2) := by decide +kernel
theorem dX10_worksOut_21 : decode cX10_worksOut 21 = .ok (.iload 4, 2) := by decide +kernel
theorem dX10_worksOut_23 : decode cX10_worksOut 23 = .ok (.iload_n 3, 1) := by decide +kernel
theorem dX10_worksOut_24 : decode cX10_worksOut 24 = .ok (.if_icmp .ge 131, 3) := by decide +kernel
theorem dX10_worksOut_27 : decode cX10_worksOut 27 = .ok (.aload_n 0, 1) := by decide +kernel
theorem dX10_worksOut_28 : decode cX10_worksOut 28 = .ok (.getfield 9, 3) := by decide +kernel
theorem dX10_worksOut_31 : decode cX10_worksOut 31 = .ok (.bipush 93, 2) := by decide +kernel
theorem dX10_worksOut_33 : decode cX10_worksOut 33 = .ok (.bipush 96, 2) := by decide +kernel
theorem dX10_worksOut_35 : decode cX10_worksOut 35 = .ok (.iload_n 1, 1) := by decide +kernel
theorem dX10_worksOut_36 : decode cX10_worksOut 36 = .ok (.imul, 1) := by decide +kernel
theorem dX10_worksOut_37 : decode cX10_worksOut 37 = .ok (.iadd, 1) := by decide +kernel
theorem dX10_worksOut_38 : decode cX10_worksOut 38 = .ok (.iload 4, 2) := by decide +kernel
theorem dX10_worksOut_40 : decode cX10_worksOut 40 = .ok (.iadd, 1) := by decide +kernel
theorem dX10_worksOut_41 : decode cX10_worksOut 41 = .ok (.iaload, 1) := by decide +kernel
theorem dX10_worksOut_42 : decode cX10_worksOut 42 = .ok (.istore 5, 2) := by decide +kernel
theorem dX10_worksOut_44 : decode cX10_worksOut 44 = .ok (.iload 5, 2) := by decide +kernel
theorem dX10_worksOut_46 : decode cX10_worksOut 46 = .ok (.ifCond .lt 39, 3) := by decide +kernel
theorem dX10_worksOut_49 : decode cX10_worksOut 49 = .ok (.aload_n 0, 1) := by decide +kernel
theorem dX10_worksOut_50 : decode cX10_worksOut 50 = .ok (.getfield 45, 3) := by decide +kernel
theorem dX10_worksOut_53 : decode cX10_worksOut 53 = .ok (.iload_n 2, 1) := by decide +kernel
theorem dX10_worksOut_54 : decode cX10_worksOut 54 = .ok (.iload 5, 2) := by decide +kernel
theorem dX10_worksOut_56 : decode cX10_worksOut 56 = .ok (.sipush 10000, 3) := by decide +kernel
theorem dX10_worksOut_59 : decode cX10_worksOut 59 = .ok (.if_icmp .ge 8, 3) := by decide +kernel
theorem dX10_worksOut_62 : decode cX10_worksOut 62 = .ok (.iload 5, 2) := by decide +kernel
theorem dX10_worksOut_64 : decode cX10_worksOut 64 = .ok (.goto 14, 3) := by decide +kernel
theorem dX10_worksOut_67 : decode cX10_worksOut 67 = .ok (.aload_n 0, 1) := by decide +kernel
theorem dX10_worksOut_68 : decode cX10_worksOut 68 = .ok (.getfield 48, 3) := by decide +kernel
theorem dX10_worksOut_71 : decode cX10_worksOut 71 = .ok (.iload 5, 2) := by decide +kernel
theorem dX10_worksOut_73 : decode cX10_worksOut 73 = .ok (.sipush 10000, 3) := by decide +kernel
theorem dX10_worksOut_76 : decode cX10_worksOut 76 = .ok (.isub, 1) := by decide +kernel
theorem dX10_worksOut_77 : decode cX10_worksOut 77 = .ok (.iaload, 1) := by decide +kernel
theorem dX10_worksOut_78 : decode cX10_worksOut 78 = .ok (.iastore, 1) := by decide +kernel
theorem dX10_worksOut_79 : decode cX10_worksOut 79 = .ok (.iinc 2 1, 3) := by decide +kernel
theorem dX10_worksOut_82 : decode cX10_worksOut 82 = .ok (.goto 67, 3) := by decide +kernel
theorem dX10_worksOut_85 : decode cX10_worksOut 85 = .ok (.iload 5, 2) := by decide +kernel
theorem dX10_worksOut_87 : decode cX10_worksOut 87 = .ok (.bipush (-10), 2) := by decide +kernel
theorem dX10_worksOut_89 : decode cX10_worksOut 89 = .ok (.if_icmp .ne 30, 3) := by decide +kernel
theorem dX10_worksOut_92 : decode cX10_worksOut 92 = .ok (.aload_n 0, 1) := by decide +kernel
theorem dX10_worksOut_93 : decode cX10_worksOut 93 = .ok (.getfield 45, 3) := by decide +kernel
theorem dX10_worksOut_96 : decode cX10_worksOut 96 = .ok (.iload_n 2, 1) := by decide +kernel
theorem dX10_worksOut_97 : decode cX10_worksOut 97 = .ok (.iconst 1, 1) := by decide +kernel
theorem dX10_worksOut_98 : decode cX10_worksOut 98 = .ok (.isub, 1) := by decide +kernel
theorem dX10_worksOut_99 : decode cX10_worksOut 99 = .ok (.aload_n 0, 1) := by decide +kernel
theorem dX10_worksOut_100 : decode cX10_worksOut 100 = .ok (.getfield 45, 3) := by decide +kernel
theorem dX10_worksOut_103 : decode cX10_worksOut 103 = .ok (.iload_n 2, 1) := by decide +kernel
theorem dX10_worksOut_104 : decode cX10_worksOut 104 = .ok (.iconst 1, 1) := by decide +kernel
theorem dX10_worksOut_105 : decode cX10_worksOut 105 = .ok (.isub, 1) := by decide +kernel
theorem dX10_worksOut_106 : decode cX10_worksOut 106 = .ok (.iaload, 1) := by decide +kernel
theorem dX10_worksOut_107 : decode cX10_worksOut 107 = .ok (.ifCond .ne 7, 3) := by decide +kernel
theorem dX10_worksOut_110 : decode cX10_worksOut 110 = .ok (.iconst 1, 1) := by decide +kernel
theorem dX10_worksOut_111 : decode cX10_worksOut 111 = .ok (.goto 4, 3) := by decide +kernel
theorem dX10_worksOut_114 : decode cX10_worksOut 114 = .ok (.iconst 0, 1) := by decide +kernel
theorem dX10_worksOut_115 : decode cX10_worksOut 115 = .ok (.iastore, 1) := by decide +kernel
theorem dX10_worksOut_116 : decode cX10_worksOut 116 = .ok (.goto 33, 3) := by decide +kernel
theorem dX10_worksOut_119 : decode cX10_worksOut 119 = .ok (.iinc 2 (-1), 3) := by decide +kernel
theorem dX10_worksOut_122 : decode cX10_worksOut 122 = .ok (.aload_n 0, 1) := by decide +kernel
theorem dX10_worksOut_123 : decode cX10_worksOut 123 = .ok (.getfield 45, 3) := by decide +kernel
theorem dX10_worksOut_126 : decode cX10_worksOut 126 = .ok (.iload_n 2, 1) := by decide +kernel
theorem dX10_worksOut_127 : decode cX10_worksOut 127 = .ok (.iconst 1, 1) := by decide +kernel
theorem dX10_worksOut_128 : decode cX10_worksOut 128 = .ok (.isub, 1) := by decide +kernel
theorem dX10_worksOut_129 : decode cX10_worksOut 129 = .ok (.iload 5, 2) := by decide +kernel
theorem dX10_worksOut_131 : decode cX10_worksOut 131 = .ok (.aload_n 0, 1) := by decide +kernel
theorem dX10_worksOut_132 : decode cX10_worksOut 132 = .ok (.getfield 45, 3) := by decide +kernel
theorem dX10_worksOut_135 : decode cX10_worksOut 135 = .ok (.iload_n 2, 1) := by decide +kernel
theorem dX10_worksOut_136 : decode cX10_worksOut 136 = .ok (.iconst 1, 1) := by decide +kernel
theorem dX10_worksOut_137 : decode cX10_worksOut 137 = .ok (.isub, 1) := by decide +kernel
theorem dX10_worksOut_138 : decode cX10_worksOut 138 = .ok (.iaload, 1) := by decide +kernel
theorem dX10_worksOut_139 : decode cX10_worksOut 139 = .ok (.aload_n 0, 1) := by decide +kernel
theorem dX10_worksOut_140 : decode cX10_worksOut 140 = .ok (.getfield 45, 3) := by decide +kernel
theorem dX10_worksOut_143 : decode cX10_worksOut 143 = .ok (.iload_n 2, 1) := by decide +kernel
theorem dX10_worksOut_144 : decode cX10_worksOut 144 = .ok (.iaload, 1) := by decide +kernel
theorem dX10_worksOut_145 : decode cX10_worksOut 145 = .ok (.invokestatic 269, 3) := by decide +kernel
theorem dX10_worksOut_148 : decode cX10_worksOut 148 = .ok (.iastore, 1) := by decide +kernel
theorem dX10_worksOut_149 : decode cX10_worksOut 149 = .ok (.iinc 4 1, 3) := by decide +kernel
theorem dX10_worksOut_152 : decode cX10_worksOut 152 = .ok (.goto (-131), 3) := by decide +kernel
theorem dX10_worksOut_155 : decode cX10_worksOut 155 = .ok (.aload_n 0, 1) := by decide +kernel
theorem dX10_worksOut_156 : decode cX10_worksOut 156 = .ok (.getfield 45, 3) := by decide +kernel
theorem dX10_worksOut_159 : decode cX10_worksOut 159 = .ok (.iconst 0, 1) := by decide +kernel
theorem dX10_worksOut_160 : decode cX10_worksOut 160 = .ok (.iaload, 1) := by decide +kernel
theorem dX10_worksOut_161 : decode cX10_worksOut 161 = .ok (.ireturn, 1) := by decide +kernel
theorem dX10_isSheet_0 : decode cX10_isSheet 0 = .ok (.iload_n 0, 1) := by decide +kernel
theorem dX10_isSheet_1 : decode cX10_isSheet 1 = .ok (.iconst 0, 1) := by decide +kernel
theorem dX10_isSheet_2 : decode cX10_isSheet 2 = .ok (.iconst 3, 1) := by decide +kernel
theorem dX10_isSheet_3 : decode cX10_isSheet 3 = .ok (.invokestatic 78, 3) := by decide +kernel
theorem dX10_isSheet_6 : decode cX10_isSheet 6 = .ok (.ireturn, 1) := by decide +kernel
theorem dX10_isSlot_0 : decode cX10_isSlot 0 = .ok (.iload_n 0, 1) := by decide +kernel
theorem dX10_isSlot_1 : decode cX10_isSlot 1 = .ok (.iconst 0, 1) := by decide +kernel
theorem dX10_isSlot_2 : decode cX10_isSlot 2 = .ok (.iconst 4, 1) := by decide +kernel
theorem dX10_isSlot_3 : decode cX10_isSlot 3 = .ok (.invokestatic 78, 3) := by decide +kernel
theorem dX10_isSlot_6 : decode cX10_isSlot 6 = .ok (.ireturn, 1) := by decide +kernel
theorem dX10_sheet_0 : decode cX10_sheet 0 = .ok (.iload_n 1, 1) := by decide +kernel
theorem dX10_sheet_1 : decode cX10_sheet 1 = .ok (.invokestatic 198, 3) := by decide +kernel
theorem dX10_sheet_4 : decode cX10_sheet 4 = .ok (.ifCond .eq 22, 3) := by decide +kernel
theorem dX10_sheet_7 : decode cX10_sheet 7 = .ok (.iload_n 2, 1) := by decide +kernel
theorem dX10_sheet_8 : decode cX10_sheet 8 = .ok (.iconst (-1), 1) := by decide +kernel
theorem dX10_sheet_9 : decode cX10_sheet 9 = .ok (.iconst 1, 1) := by decide +kernel
theorem dX10_sheet_10 : decode cX10_sheet 10 = .ok (.invokestatic 78, 3) := by decide +kernel
theorem dX10_sheet_13 : decode cX10_sheet 13 = .ok (.ifCond .eq 13, 3) := by decide +kernel
theorem dX10_sheet_16 : decode cX10_sheet 16 = .ok (.iload_n 2, 1) := by decide +kernel
theorem dX10_sheet_17 : decode cX10_sheet 17 = .ok (.ifCond .lt 12, 3) := by decide +kernel
theorem dX10_sheet_20 : decode cX10_sheet 20 = .ok (.iload_n 3, 1) := by decide +kernel
theorem dX10_sheet_21 : decode cX10_sheet 21 = .ok (.bipush 24, 2) := by decide +kernel
theorem dX10_sheet_23 : decode cX10_sheet 23 = .ok (.if_icmp .le 6, 3) := by decide +kernel
theorem dX10_sheet_26 : decode cX10_sheet 26 = .ok (.ldc 86, 2) := by decide +kernel
theorem dX10_sheet_28 : decode cX10_sheet 28 = .ok (.ireturn, 1) := by decide +kernel
theorem dX10_sheet_29 : decode cX10_sheet 29 = .ok (.iload_n 2, 1) := by decide +kernel
theorem dX10_sheet_30 : decode cX10_sheet 30 = .ok (.ifCond .lt 11, 3) := by decide +kernel
theorem dX10_sheet_33 : decode cX10_sheet 33 = .ok (.iload_n 3, 1) := by decide +kernel
theorem dX10_sheet_34 : decode cX10_sheet 34 = .ok (.ifCond .ge 7, 3) := by decide +kernel
theorem dX10_sheet_37 : decode cX10_sheet 37 = .ok (.ldc_w 272, 3) := by decide +kernel
theorem dX10_sheet_40 : decode cX10_sheet 40 = .ok (.ireturn, 1) := by decide +kernel
theorem dX10_sheet_41 : decode cX10_sheet 41 = .ok (.aload_n 0, 1) := by decide +kernel
theorem dX10_sheet_42 : decode cX10_sheet 42 = .ok (.getfield 51, 3) := by decide +kernel
theorem dX10_sheet_45 : decode cX10_sheet 45 = .ok (.iload_n 1, 1) := by decide +kernel
theorem dX10_sheet_46 : decode cX10_sheet 46 = .ok (.iload_n 2, 1) := by decide +kernel
theorem dX10_sheet_47 : decode cX10_sheet 47 = .ok (.iastore, 1) := by decide +kernel
theorem dX10_sheet_48 : decode cX10_sheet 48 = .ok (.aload_n 0, 1) := by decide +kernel
theorem dX10_sheet_49 : decode cX10_sheet 49 = .ok (.getfield 54, 3) := by decide +kernel
theorem dX10_sheet_52 : decode cX10_sheet 52 = .ok (.iload_n 1, 1) := by decide +kernel
theorem dX10_sheet_53 : decode cX10_sheet 53 = .ok (.iload_n 2, 1) := by decide +kernel
theorem dX10_sheet_54 : decode cX10_sheet 54 = .ok (.ifCond .ge 7, 3) := by decide +kernel
theorem dX10_sheet_57 : decode cX10_sheet 57 = .ok (.iconst 0, 1) := by decide +kernel
theorem dX10_sheet_58 : decode cX10_sheet 58 = .ok (.goto 4, 3) := by decide +kernel
theorem dX10_sheet_61 : decode cX10_sheet 61 = .ok (.iload_n 3, 1) := by decide +kernel
theorem dX10_sheet_62 : decode cX10_sheet 62 = .ok (.iastore, 1) := by decide +kernel
theorem dX10_sheet_63 : decode cX10_sheet 63 = .ok (.iconst 0, 1) := by decide +kernel
theorem dX10_sheet_64 : decode cX10_sheet 64 = .ok (.istore 4, 2) := by decide +kernel
theorem dX10_sheet_66 : decode cX10_sheet 66 = .ok (.iload 4, 2) := by decide +kernel
theorem dX10_sheet_68 : decode cX10_sheet 68 = .ok (.bipush 24, 2) := by decide +kernel
theorem dX10_sheet_70 : decode cX10_sheet 70 = .ok (.if_icmp .ge 22, 3) := by decide +kernel
theorem dX10_sheet_73 : decode cX10_sheet 73 = .ok (.aload_n 0, 1) := by decide +kernel
theorem dX10_sheet_74 : decode cX10_sheet 74 = .ok (.getfield 57, 3) := by decide +kernel
theorem dX10_sheet_77 : decode cX10_sheet 77 = .ok (.bipush 24, 2) := by decide +kernel
theorem dX10_sheet_79 : decode cX10_sheet 79 = .ok (.iload_n 1, 1) := by decide +kernel
theorem dX10_sheet_80 : decode cX10_sheet 80 = .ok (.imul, 1) := by decide +kernel
theorem dX10_sheet_81 : decode cX10_sheet 81 = .ok (.iload 4, 2) := by decide +kernel
theorem dX10_sheet_83 : decode cX10_sheet 83 = .ok (.iadd, 1) := by decide +kernel
theorem dX10_sheet_84 : decode cX10_sheet 84 = .ok (.iconst 0, 1) := by decide +kernel
theorem dX10_sheet_85 : decode cX10_sheet 85 = .ok (.iastore, 1) := by decide +kernel
theorem dX10_sheet_86 : decode cX10_sheet 86 = .ok (.iinc 4 1, 3) := by decide +kernel
theorem dX10_sheet_89 : decode cX10_sheet 89 = .ok (.goto (-23), 3) := by decide +kernel
theorem dX10_sheet_92 : decode cX10_sheet 92 = .ok (.aload_n 0, 1) := by decide +kernel
theorem dX10_sheet_93 : decode cX10_sheet 93 = .ok (.getfield 54, 3) := by decide +kernel
theorem dX10_sheet_96 : decode cX10_sheet 96 = .ok (.iload_n 1, 1) := by decide +kernel
theorem dX10_sheet_97 : decode cX10_sheet 97 = .ok (.iaload, 1) := by decide +kernel
theorem dX10_sheet_98 : decode cX10_sheet 98 = .ok (.ireturn, 1) := by decide +kernel
theorem dX10_mark_0 : decode cX10_mark 0 = .ok (.iload_n 1, 1) := by decide +kernel
theorem dX10_mark_1 : decode cX10_mark 1 = .ok (.invokestatic 198, 3) := by decide +kernel
theorem dX10_mark_4 : decode cX10_mark 4 = .ok (.ifCond .ne 6, 3) := by decide +kernel
theorem dX10_mark_7 : decode cX10_mark 7 = .ok (.ldc 86, 2) := by decide +kernel
theorem dX10_mark_9 : decode cX10_mark 9 = .ok (.ireturn, 1) := by decide +kernel
theorem dX10_mark_10 : decode cX10_mark 10 = .ok (.aload_n 0, 1) := by decide +kernel
theorem dX10_mark_11 : decode cX10_mark 11 = .ok (.getfield 51, 3) := by decide +kernel
theorem dX10_mark_14 : decode cX10_mark 14 = .ok (.iload_n 1, 1) := by decide +kernel
theorem dX10_mark_15 : decode cX10_mark 15 = .ok (.iaload, 1) := by decide +kernel
theorem dX10_mark_16 : decode cX10_mark 16 = .ok (.ifCond .ge 6, 3) := by decide +kernel
theorem dX10_mark_19 : decode cX10_mark 19 = .ok (.ldc 201, 2) := by decide +kernel
theorem dX10_mark_21 : decode cX10_mark 21 = .ok (.ireturn, 1) := by decide +kernel
theorem dX10_mark_22 : decode cX10_mark 22 = .ok (.iload_n 2, 1) := by decide +kernel
theorem dX10_mark_23 : decode cX10_mark 23 = .ok (.iconst 0, 1) := by decide +kernel
theorem dX10_mark_24 : decode cX10_mark 24 = .ok (.aload_n 0, 1) := by decide +kernel
theorem dX10_mark_25 : decode cX10_mark 25 = .ok (.getfield 54, 3) := by decide +kernel
theorem dX10_mark_28 : decode cX10_mark 28 = .ok (.iload_n 1, 1) := by decide +kernel
theorem dX10_mark_29 : decode cX10_mark 29 = .ok (.iaload, 1) := by decide +kernel
theorem dX10_mark_30 : decode cX10_mark 30 = .ok (.iconst 1, 1) := by decide +kernel
theorem dX10_mark_31 : decode cX10_mark 31 = .ok (.isub, 1) := by decide +kernel
theorem dX10_mark_32 : decode cX10_mark 32 = .ok (.invokestatic 78, 3) := by decide +kernel
theorem dX10_mark_35 : decode cX10_mark 35 = .ok (.ifCond .ne 7, 3) := by decide +kernel
theorem dX10_mark_38 : decode cX10_mark 38 = .ok (.ldc_w 273, 3) := by decide +kernel
theorem dX10_mark_41 : decode cX10_mark 41 = .ok (.ireturn, 1) := by decide +kernel
theorem dX10_mark_42 : decode cX10_mark 42 = .ok (.aload_n 0, 1) := by decide +kernel
theorem dX10_mark_43 : decode cX10_mark 43 = .ok (.getfield 51, 3) := by decide +kernel
theorem dX10_mark_46 : decode cX10_mark 46 = .ok (.iload_n 1, 1) := by decide +kernel
theorem dX10_mark_47 : decode cX10_mark 47 = .ok (.iaload, 1) := by decide +kernel
theorem dX10_mark_48 : decode cX10_mark 48 = .ok (.ifCond .ne 12, 3) := by decide +kernel
theorem dX10_mark_51 : decode cX10_mark 51 = .ok (.iload_n 3, 1) := by decide +kernel
theorem dX10_mark_52 : decode cX10_mark 52 = .ok (.ldc 185, 2) := by decide +kernel
theorem dX10_mark_54 : decode cX10_mark 54 = .ok (.if_icmp .ne 6, 3) := by decide +kernel
theorem dX10_mark_57 : decode cX10_mark 57 = .ok (.ldc 121, 2) := by decide +kernel
theorem dX10_mark_59 : decode cX10_mark 59 = .ok (.ireturn, 1) := by decide +kernel
theorem dX10_mark_60 : decode cX10_mark 60 = .ok (.aload_n 0, 1) := by decide +kernel
theorem dX10_mark_61 : decode cX10_mark 61 = .ok (.getfield 51, 3) := by decide +kernel
theorem dX10_mark_64 : decode cX10_mark 64 = .ok (.iload_n 1, 1) := by decide +kernel
theorem dX10_mark_65 : decode cX10_mark 65 = .ok (.iaload, 1) := by decide +kernel
theorem dX10_mark_66 : decode cX10_mark 66 = .ok (.iconst 1, 1) := by decide +kernel
theorem dX10_mark_67 : decode cX10_mark 67 = .ok (.if_icmp .ne 25, 3) := by decide +kernel
theorem dX10_mark_70 : decode cX10_mark 70 = .ok (.iload_n 3, 1) := by decide +kernel
theorem dX10_mark_71 : decode cX10_mark 71 = .ok (.ldc 185, 2) := by decide +kernel
theorem dX10_mark_73 : decode cX10_mark 73 = .ok (.if_icmp .eq 19, 3) := by decide +kernel
theorem dX10_mark_76 : decode cX10_mark 76 = .ok (.iload_n 3, 1) := by decide +kernel
theorem dX10_mark_77 : decode cX10_mark 77 = .ok (.ldc_w 274, 3) := by decide +kernel
theorem dX10_mark_80 : decode cX10_mark 80 = .ok (.ldc_w 275, 3) := by decide +kernel
theorem dX10_mark_83 : decode cX10_mark 83 = .ok (.invokestatic 78, 3) := by decide +kernel
theorem dX10_mark_86 : decode cX10_mark 86 = .ok (.ifCond .ne 6, 3) := by decide +kernel
theorem dX10_mark_89 : decode cX10_mark 89 = .ok (.ldc 86, 2) := by decide +kernel
theorem dX10_mark_91 : decode cX10_mark 91 = .ok (.ireturn, 1) := by decide +kernel
theorem dX10_mark_92 : decode cX10_mark 92 = .ok (.aload_n 0, 1) := by decide +kernel
theorem dX10_mark_93 : decode cX10_mark 93 = .ok (.getfield 57, 3) := by decide +kernel
theorem dX10_mark_96 : decode cX10_mark 96 = .ok (.bipush 24, 2) := by decide +kernel
theorem dX10_mark_98 : decode cX10_mark 98 = .ok (.iload_n 1, 1) := by decide +kernel
theorem dX10_mark_99 : decode cX10_mark 99 = .ok (.imul, 1) := by decide +kernel
theorem dX10_mark_100 : decode cX10_mark 100 = .ok (.iload_n 2, 1) := by decide +kernel
theorem dX10_mark_101 : decode cX10_mark 101 = .ok (.iadd, 1) := by decide +kernel
theorem dX10_mark_102 : decode cX10_mark 102 = .ok (.aload_n 0, 1) := by decide +kernel
theorem dX10_mark_103 : decode cX10_mark 103 = .ok (.getfield 51, 3) := by decide +kernel
theorem dX10_mark_106 : decode cX10_mark 106 = .ok (.iload_n 1, 1) := by decide +kernel
theorem dX10_mark_107 : decode cX10_mark 107 = .ok (.iaload, 1) := by decide +kernel
theorem dX10_mark_108 : decode cX10_mark 108 = .ok (.ifCond .ne 8, 3) := by decide +kernel
theorem dX10_mark_111 : decode cX10_mark 111 = .ok (.iload_n 3, 1) := by decide +kernel
theorem dX10_mark_112 : decode cX10_mark 112 = .ok (.i2s, 1) := by decide +kernel
theorem dX10_mark_113 : decode cX10_mark 113 = .ok (.goto 4, 3) := by decide +kernel
theorem dX10_mark_116 : decode cX10_mark 116 = .ok (.iload_n 3, 1) := by decide +kernel
theorem dX10_mark_117 : decode cX10_mark 117 = .ok (.iastore, 1) := by decide +kernel
theorem dX10_mark_118 : decode cX10_mark 118 = .ok (.iconst 1, 1) := by decide +kernel
theorem dX10_mark_119 : decode cX10_mark 119 = .ok (.ireturn, 1) := by decide +kernel
theorem dX10_pour_0 : decode cX10_pour 0 = .ok (.iload_n 1, 1) := by decide +kernel
theorem dX10_pour_1 : decode cX10_pour 1 = .ok (.invokestatic 198, 3) := by decide +kernel
theorem dX10_pour_4 : decode cX10_pour 4 = .ok (.ifCond .ne 6, 3) := by decide +kernel
theorem dX10_pour_7 : decode cX10_pour 7 = .ok (.ldc 86, 2) := by decide +kernel
theorem dX10_pour_9 : decode cX10_pour 9 = .ok (.ireturn, 1) := by decide +kernel
theorem dX10_pour_10 : decode cX10_pour 10 = .ok (.aload_n 0, 1) := by decide +kernel
theorem dX10_pour_11 : decode cX10_pour 11 = .ok (.getfield 51, 3) := by decide +kernel
theorem dX10_pour_14 : decode cX10_pour 14 = .ok (.iload_n 1, 1) := by decide +kernel
theorem dX10_pour_15 : decode cX10_pour 15 = .ok (.iaload, 1) := by decide +kernel
theorem dX10_pour_16 : decode cX10_pour 16 = .ok (.ifCond .ge 6, 3) := by decide +kernel
theorem dX10_pour_19 : decode cX10_pour 19 = .ok (.ldc 201, 2) := by decide +kernel
theorem dX10_pour_21 : decode cX10_pour 21 = .ok (.ireturn, 1) := by decide +kernel
theorem dX10_pour_22 : decode cX10_pour 22 = .ok (.iconst 0, 1) := by decide +kernel
theorem dX10_pour_23 : decode cX10_pour 23 = .ok (.istore_n 2, 1) := by decide +kernel
theorem dX10_pour_24 : decode cX10_pour 24 = .ok (.iconst 0, 1) := by decide +kernel
theorem dX10_pour_25 : decode cX10_pour 25 = .ok (.istore_n 3, 1) := by decide +kernel
theorem dX10_pour_26 : decode cX10_pour 26 = .ok (.iload_n 3, 1) := by decide +kernel
theorem dX10_pour_27 : decode cX10_pour 27 = .ok (.aload_n 0, 1) := by decide +kernel
theorem dX10_pour_28 : decode cX10_pour 28 = .ok (.getfield 54, 3) := by decide +kernel
theorem dX10_pour_31 : decode cX10_pour 31 = .ok (.iload_n 1, 1) := by decide +kernel
theorem dX10_pour_32 : decode cX10_pour 32 = .ok (.iaload, 1) := by decide +kernel
theorem dX10_pour_33 : decode cX10_pour 33 = .ok (.if_icmp .ge 86, 3) := by decide +kernel
theorem dX10_pour_36 : decode cX10_pour 36 = .ok (.iload_n 3, 1) := by decide +kernel
theorem dX10_pour_37 : decode cX10_pour 37 = .ok (.aload_n 0, 1) := by decide +kernel
theorem dX10_pour_38 : decode cX10_pour 38 = .ok (.getfield 9, 3) := by decide +kernel
theorem dX10_pour_41 : decode cX10_pour 41 = .ok (.iconst 1, 1) := by decide +kernel
theorem dX10_pour_42 : decode cX10_pour 42 = .ok (.iaload, 1) := by decide +kernel
theorem dX10_pour_43 : decode cX10_pour 43 = .ok (.if_icmp .ge 76, 3) := by decide +kernel
theorem dX10_pour_46 : decode cX10_pour 46 = .ok (.aload_n 0, 1) := by decide +kernel
theorem dX10_pour_47 : decode cX10_pour 47 = .ok (.getfield 57, 3) := by decide +kernel
theorem dX10_pour_50 : decode cX10_pour 50 = .ok (.bipush 24, 2) := by decide +kernel
theorem dX10_pour_52 : decode cX10_pour 52 = .ok (.iload_n 1, 1) := by decide +kernel
theorem dX10_pour_53 : decode cX10_pour 53 = .ok (.imul, 1) := by decide +kernel
theorem dX10_pour_54 : decode cX10_pour 54 = .ok (.iload_n 3, 1) := by decide +kernel
theorem dX10_pour_55 : decode cX10_pour 55 = .ok (.iadd, 1) := by decide +kernel
theorem dX10_pour_56 : decode cX10_pour 56 = .ok (.iaload, 1) := by decide +kernel
theorem dX10_pour_57 : decode cX10_pour 57 = .ok (.istore 4, 2) := by decide +kernel
theorem dX10_pour_59 : decode cX10_pour 59 = .ok (.iload 4, 2) := by decide +kernel
theorem dX10_pour_61 : decode cX10_pour 61 = .ok (.ldc 185, 2) := by decide +kernel
theorem dX10_pour_63 : decode cX10_pour 63 = .ok (.if_icmp .ne 12, 3) := by decide +kernel
theorem dX10_pour_66 : decode cX10_pour 66 = .ok (.aload_n 0, 1) := by decide +kernel
theorem dX10_pour_67 : decode cX10_pour 67 = .ok (.iload_n 3, 1) := by decide +kernel
theorem dX10_pour_68 : decode cX10_pour 68 = .ok (.iconst 1, 1) := by decide +kernel
theorem dX10_pour_69 : decode cX10_pour 69 = .ok (.invokevirtual 96, 3) := by decide +kernel
theorem dX10_pour_72 : decode cX10_pour 72 = .ok (.goto 11, 3) := by decide +kernel
theorem dX10_pour_75 : decode cX10_pour 75 = .ok (.iload 4, 2) := by decide +kernel
theorem dX10_pour_77 : decode cX10_pour 77 = .ok (.iconst 0, 1) := by decide +kernel
theorem dX10_pour_78 : decode cX10_pour 78 = .ok (.bipush 99, 2) := by decide +kernel
theorem dX10_pour_80 : decode cX10_pour 80 = .ok (.invokestatic 103, 3) := by decide +kernel
theorem dX10_pour_83 : decode cX10_pour 83 = .ok (.istore 5, 2) := by decide +kernel
theorem dX10_pour_85 : decode cX10_pour 85 = .ok (.iload_n 2, 1) := by decide +kernel
theorem dX10_pour_86 : decode cX10_pour 86 = .ok (.aload_n 0, 1) := by decide +kernel
theorem dX10_pour_87 : decode cX10_pour 87 = .ok (.bipush 9, 2) := by decide +kernel
theorem dX10_pour_89 : decode cX10_pour 89 = .ok (.bipush 7, 2) := by decide +kernel
theorem dX10_pour_91 : decode cX10_pour 91 = .ok (.iload_n 3, 1) := by decide +kernel
theorem dX10_pour_92 : decode cX10_pour 92 = .ok (.imul, 1) := by decide +kernel
theorem dX10_pour_93 : decode cX10_pour 93 = .ok (.iadd, 1) := by decide +kernel
theorem dX10_pour_94 : decode cX10_pour 94 = .ok (.iconst 1, 1) := by decide +kernel
theorem dX10_pour_95 : decode cX10_pour 95 = .ok (.iadd, 1) := by decide +kernel
theorem dX10_pour_96 : decode cX10_pour 96 = .ok (.iload 5, 2) := by decide +kernel
theorem dX10_pour_98 : decode cX10_pour 98 = .ok (.invokevirtual 122, 3) := by decide +kernel
theorem dX10_pour_101 : decode cX10_pour 101 = .ok (.iload 5, 2) := by decide +kernel
theorem dX10_pour_103 : decode cX10_pour 103 = .ok (.if_icmp .ne 7, 3) := by decide +kernel
theorem dX10_pour_106 : decode cX10_pour 106 = .ok (.iconst 0, 1) := by decide +kernel
theorem dX10_pour_107 : decode cX10_pour 107 = .ok (.goto 4, 3) := by decide +kernel
theorem dX10_pour_110 : decode cX10_pour 110 = .ok (.iconst 1, 1) := by decide +kernel
theorem dX10_pour_111 : decode cX10_pour 111 = .ok (.iadd, 1) := by decide +kernel
theorem dX10_pour_112 : decode cX10_pour 112 = .ok (.istore_n 2, 1) := by decide +kernel
theorem dX10_pour_113 : decode cX10_pour 113 = .ok (.iinc 3 1, 3) := by decide +kernel
theorem dX10_pour_116 : decode cX10_pour 116 = .ok (.goto (-90), 3) := by decide +kernel
theorem dX10_pour_119 : decode cX10_pour 119 = .ok (.iload_n 2, 1) := by decide +kernel
theorem dX10_pour_120 : decode cX10_pour 120 = .ok (.ireturn, 1) := by decide +kernel
theorem dX10_reads_0 : decode cX10_reads 0 = .ok (.iload_n 1, 1) := by decide +kernel
theorem dX10_reads_1 : decode cX10_reads 1 = .ok (.invokestatic 198, 3) := by decide +kernel
theorem dX10_reads_4 : decode cX10_reads 4 = .ok (.ifCond .ne 6, 3) := by decide +kernel
theorem dX10_reads_7 : decode cX10_reads 7 = .ok (.ldc 86, 2) := by decide +kernel
theorem dX10_reads_9 : decode cX10_reads 9 = .ok (.ireturn, 1) := by decide +kernel
theorem dX10_reads_10 : decode cX10_reads 10 = .ok (.aload_n 0, 1) := by decide +kernel
theorem dX10_reads_11 : decode cX10_reads 11 = .ok (.getfield 51, 3) := by decide +kernel
theorem dX10_reads_14 : decode cX10_reads 14 = .ok (.iload_n 1, 1) := by decide +kernel
theorem dX10_reads_15 : decode cX10_reads 15 = .ok (.iaload, 1) := by decide +kernel
theorem dX10_reads_16 : decode cX10_reads 16 = .ok (.ifCond .ge 6, 3) := by decide +kernel
theorem dX10_reads_19 : decode cX10_reads 19 = .ok (.ldc 201, 2) := by decide +kernel
theorem dX10_reads_21 : decode cX10_reads 21 = .ok (.ireturn, 1) := by decide +kernel
theorem dX10_reads_22 : decode cX10_reads 22 = .ok (.iconst 0, 1) := by decide +kernel
theorem dX10_reads_23 : decode cX10_reads 23 = .ok (.istore_n 2, 1) := by decide +kernel
theorem dX10_reads_24 : decode cX10_reads 24 = .ok (.iload_n 2, 1) := by decide +kernel
theorem dX10_reads_25 : decode cX10_reads 25 = .ok (.aload_n 0, 1) := by decide +kernel
theorem dX10_reads_26 : decode cX10_reads 26 = .ok (.getfield 54, 3) := by decide +kernel
theorem dX10_reads_29 : decode cX10_reads 29 = .ok (.iload_n 1, 1) := by decide +kernel
theorem dX10_reads_30 : decode cX10_reads 30 = .ok (.iaload, 1) := by decide +kernel
theorem dX10_reads_31 : decode cX10_reads 31 = .ok (.if_icmp .ge 38, 3) := by decide +kernel
theorem dX10_reads_34 : decode cX10_reads 34 = .ok (.aload_n 0, 1) := by decide +kernel
theorem dX10_reads_35 : decode cX10_reads 35 = .ok (.getfield 57, 3) := by decide +kernel
theorem dX10_reads_38 : decode cX10_reads 38 = .ok (.bipush 24, 2) := by decide +kernel
theorem dX10_reads_40 : decode cX10_reads 40 = .ok (.iload_n 1, 1) := by decide +kernel
theorem dX10_reads_41 : decode cX10_reads 41 = .ok (.imul, 1) := by decide +kernel
theorem dX10_reads_42 : decode cX10_reads 42 = .ok (.iload_n 2, 1) := by decide +kernel
theorem dX10_reads_43 : decode cX10_reads 43 = .ok (.iadd, 1) := by decide +kernel
theorem dX10_reads_44 : decode cX10_reads 44 = .ok (.iaload, 1) := by decide +kernel
theorem dX10_reads_45 : decode cX10_reads 45 = .ok (.istore_n 3, 1) := by decide +kernel
theorem dX10_reads_46 : decode cX10_reads 46 = .ok (.iload_n 3, 1) := by decide +kernel
theorem dX10_reads_47 : decode cX10_reads 47 = .ok (.ldc 185, 2) := by decide +kernel
theorem dX10_reads_49 : decode cX10_reads 49 = .ok (.if_icmp .eq 14, 3) := by decide +kernel
theorem dX10_reads_52 : decode cX10_reads 52 = .ok (.iload_n 3, 1) := by decide +kernel
theorem dX10_reads_53 : decode cX10_reads 53 = .ok (.aload_n 0, 1) := by decide +kernel
theorem dX10_reads_54 : decode cX10_reads 54 = .ok (.iload_n 2, 1) := by decide +kernel
theorem dX10_reads_55 : decode cX10_reads 55 = .ok (.invokevirtual 182, 3) := by decide +kernel
theorem dX10_reads_58 : decode cX10_reads 58 = .ok (.if_icmp .eq 5, 3) := by decide +kernel
theorem dX10_reads_61 : decode cX10_reads 61 = .ok (.iload_n 2, 1) := by decide +kernel
theorem dX10_reads_62 : decode cX10_reads 62 = .ok (.ireturn, 1) := by decide +kernel
theorem dX10_reads_63 : decode cX10_reads 63 = .ok (.iinc 2 1, 3) := by decide +kernel
theorem dX10_reads_66 : decode cX10_reads 66 = .ok (.goto (-42), 3) := by decide +kernel
theorem dX10_reads_69 : decode cX10_reads 69 = .ok (.ldc 185, 2) := by decide +kernel
theorem dX10_reads_71 : decode cX10_reads 71 = .ok (.ireturn, 1) := by decide +kernel
theorem dX10_copy_0 : decode cX10_copy 0 = .ok (.iload_n 1, 1) := by decide +kernel
theorem dX10_copy_1 : decode cX10_copy 1 = .ok (.invokestatic 198, 3) := by decide +kernel
theorem dX10_copy_4 : decode cX10_copy 4 = .ok (.ifCond .eq 10, 3) := by decide +kernel
theorem dX10_copy_7 : decode cX10_copy 7 = .ok (.iload_n 3, 1) := by decide +kernel
theorem dX10_copy_8 : decode cX10_copy 8 = .ok (.invokestatic 198, 3) := by decide +kernel
theorem dX10_copy_11 : decode cX10_copy 11 = .ok (.ifCond .ne 6, 3) := by decide +kernel
theorem dX10_copy_14 : decode cX10_copy 14 = .ok (.ldc 86, 2) := by decide +kernel
theorem dX10_copy_16 : decode cX10_copy 16 = .ok (.ireturn, 1) := by decide +kernel
theorem dX10_copy_17 : decode cX10_copy 17 = .ok (.aload_n 0, 1) := by decide +kernel
theorem dX10_copy_18 : decode cX10_copy 18 = .ok (.getfield 51, 3) := by decide +kernel
theorem dX10_copy_21 : decode cX10_copy 21 = .ok (.iload_n 1, 1) := by decide +kernel
theorem dX10_copy_22 : decode cX10_copy 22 = .ok (.iaload, 1) := by decide +kernel
theorem dX10_copy_23 : decode cX10_copy 23 = .ok (.ifCond .lt 12, 3) := by decide +kernel
theorem dX10_copy_26 : decode cX10_copy 26 = .ok (.aload_n 0, 1) := by decide +kernel
theorem dX10_copy_27 : decode cX10_copy 27 = .ok (.getfield 51, 3) := by decide +kernel
theorem dX10_copy_30 : decode cX10_copy 30 = .ok (.iload_n 3, 1) := by decide +kernel
theorem dX10_copy_31 : decode cX10_copy 31 = .ok (.iaload, 1) := by decide +kernel
theorem dX10_copy_32 : decode cX10_copy 32 = .ok (.ifCond .ge 6, 3) := by decide +kernel
theorem dX10_copy_35 : decode cX10_copy 35 = .ok (.ldc 201, 2) := by decide +kernel
theorem dX10_copy_37 : decode cX10_copy 37 = .ok (.ireturn, 1) := by decide +kernel
theorem dX10_copy_38 : decode cX10_copy 38 = .ok (.aload_n 0, 1) := by decide +kernel
theorem dX10_copy_39 : decode cX10_copy 39 = .ok (.getfield 51, 3) := by decide +kernel
theorem dX10_copy_42 : decode cX10_copy 42 = .ok (.iload_n 1, 1) := by decide +kernel
theorem dX10_copy_43 : decode cX10_copy 43 = .ok (.iaload, 1) := by decide +kernel
theorem dX10_copy_44 : decode cX10_copy 44 = .ok (.aload_n 0, 1) := by decide +kernel
theorem dX10_copy_45 : decode cX10_copy 45 = .ok (.getfield 51, 3) := by decide +kernel
theorem dX10_copy_48 : decode cX10_copy 48 = .ok (.iload_n 3, 1) := by decide +kernel
theorem dX10_copy_49 : decode cX10_copy 49 = .ok (.iaload, 1) := by decide +kernel
theorem dX10_copy_50 : decode cX10_copy 50 = .ok (.if_icmp .eq 6, 3) := by decide +kernel
theorem dX10_copy_53 : decode cX10_copy 53 = .ok (.ldc 121, 2) := by decide +kernel
theorem dX10_copy_55 : decode cX10_copy 55 = .ok (.ireturn, 1) := by decide +kernel
theorem dX10_copy_56 : decode cX10_copy 56 = .ok (.iload_n 2, 1) := by decide +kernel
theorem dX10_copy_57 : decode cX10_copy 57 = .ok (.ifCond .lt 40, 3) := by decide +kernel
theorem dX10_copy_60 : decode cX10_copy 60 = .ok (.iload 4, 2) := by decide +kernel
theorem dX10_copy_62 : decode cX10_copy 62 = .ok (.ifCond .lt 35, 3) := by decide +kernel
theorem dX10_copy_65 : decode cX10_copy 65 = .ok (.iload 5, 2) := by decide +kernel
theorem dX10_copy_67 : decode cX10_copy 67 = .ok (.ifCond .lt 30, 3) := by decide +kernel
theorem dX10_copy_70 : decode cX10_copy 70 = .ok (.iload_n 2, 1) := by decide +kernel
theorem dX10_copy_71 : decode cX10_copy 71 = .ok (.aload_n 0, 1) := by decide +kernel
theorem dX10_copy_72 : decode cX10_copy 72 = .ok (.getfield 54, 3) := by decide +kernel
theorem dX10_copy_75 : decode cX10_copy 75 = .ok (.iload_n 1, 1) := by decide +kernel
theorem dX10_copy_76 : decode cX10_copy 76 = .ok (.iaload, 1) := by decide +kernel
theorem dX10_copy_77 : decode cX10_copy 77 = .ok (.iload 5, 2) := by decide +kernel
theorem dX10_copy_79 : decode cX10_copy 79 = .ok (.isub, 1) := by decide +kernel
theorem dX10_copy_80 : decode cX10_copy 80 = .ok (.if_icmp .gt 17, 3) := by decide +kernel
theorem dX10_copy_83 : decode cX10_copy 83 = .ok (.iload 4, 2) := by decide +kernel
theorem dX10_copy_85 : decode cX10_copy 85 = .ok (.aload_n 0, 1) := by decide +kernel
theorem dX10_copy_86 : decode cX10_copy 86 = .ok (.getfield 54, 3) := by decide +kernel
theorem dX10_copy_89 : decode cX10_copy 89 = .ok (.iload_n 3, 1) := by decide +kernel
theorem dX10_copy_90 : decode cX10_copy 90 = .ok (.iaload, 1) := by decide +kernel
theorem dX10_copy_91 : decode cX10_copy 91 = .ok (.iload 5, 2) := by decide +kernel
theorem dX10_copy_93 : decode cX10_copy 93 = .ok (.isub, 1) := by decide +kernel
theorem dX10_copy_94 : decode cX10_copy 94 = .ok (.if_icmp .le 7, 3) := by decide +kernel
theorem dX10_copy_97 : decode cX10_copy 97 = .ok (.ldc_w 273, 3) := by decide +kernel
theorem dX10_copy_100 : decode cX10_copy 100 = .ok (.ireturn, 1) := by decide +kernel
theorem dX10_copy_101 : decode cX10_copy 101 = .ok (.iconst 0, 1) := by decide +kernel
theorem dX10_copy_102 : decode cX10_copy 102 = .ok (.istore 6, 2) := by decide +kernel
theorem dX10_copy_104 : decode cX10_copy 104 = .ok (.iload 6, 2) := by decide +kernel
theorem dX10_copy_106 : decode cX10_copy 106 = .ok (.iload 5, 2) := by decide +kernel
theorem dX10_copy_108 : decode cX10_copy 108 = .ok (.if_icmp .ge 30, 3) := by decide +kernel
theorem dX10_copy_111 : decode cX10_copy 111 = .ok (.aload_n 0, 1) := by decide +kernel
theorem dX10_copy_112 : decode cX10_copy 112 = .ok (.getfield 72, 3) := by decide +kernel
theorem dX10_copy_115 : decode cX10_copy 115 = .ok (.iload 6, 2) := by decide +kernel
theorem dX10_copy_117 : decode cX10_copy 117 = .ok (.aload_n 0, 1) := by decide +kernel
theorem dX10_copy_118 : decode cX10_copy 118 = .ok (.getfield 57, 3) := by decide +kernel
theorem dX10_copy_121 : decode cX10_copy 121 = .ok (.bipush 24, 2) := by decide +kernel
theorem dX10_copy_123 : decode cX10_copy 123 = .ok (.iload_n 1, 1) := by decide +kernel
theorem dX10_copy_124 : decode cX10_copy 124 = .ok (.imul, 1) := by decide +kernel
theorem dX10_copy_125 : decode cX10_copy 125 = .ok (.iload_n 2, 1) := by decide +kernel
theorem dX10_copy_126 : decode cX10_copy 126 = .ok (.iadd, 1) := by decide +kernel
theorem dX10_copy_127 : decode cX10_copy 127 = .ok (.iload 6, 2) := by decide +kernel
theorem dX10_copy_129 : decode cX10_copy 129 = .ok (.iadd, 1) := by decide +kernel
theorem dX10_copy_130 : decode cX10_copy 130 = .ok (.iaload, 1) := by decide +kernel
theorem dX10_copy_131 : decode cX10_copy 131 = .ok (.iastore, 1) := by decide +kernel
theorem dX10_copy_132 : decode cX10_copy 132 = .ok (.iinc 6 1, 3) := by decide +kernel
theorem dX10_copy_135 : decode cX10_copy 135 = .ok (.goto (-31), 3) := by decide +kernel
theorem dX10_copy_138 : decode cX10_copy 138 = .ok (.iconst 0, 1) := by decide +kernel
theorem dX10_copy_139 : decode cX10_copy 139 = .ok (.istore 6, 2) := by decide +kernel
theorem dX10_copy_141 : decode cX10_copy 141 = .ok (.iload 6, 2) := by decide +kernel
theorem dX10_copy_143 : decode cX10_copy 143 = .ok (.iload 5, 2) := by decide +kernel
theorem dX10_copy_145 : decode cX10_copy 145 = .ok (.if_icmp .ge 31, 3) := by decide +kernel
theorem dX10_copy_148 : decode cX10_copy 148 = .ok (.aload_n 0, 1) := by decide +kernel
theorem dX10_copy_149 : decode cX10_copy 149 = .ok (.getfield 57, 3) := by decide +kernel
theorem dX10_copy_152 : decode cX10_copy 152 = .ok (.bipush 24, 2) := by decide +kernel
theorem dX10_copy_154 : decode cX10_copy 154 = .ok (.iload_n 3, 1) := by decide +kernel
theorem dX10_copy_155 : decode cX10_copy 155 = .ok (.imul, 1) := by decide +kernel
theorem dX10_copy_156 : decode cX10_copy 156 = .ok (.iload 4, 2) := by decide +kernel
theorem dX10_copy_158 : decode cX10_copy 158 = .ok (.iadd, 1) := by decide +kernel
theorem dX10_copy_159 : decode cX10_copy 159 = .ok (.iload 6, 2) := by decide +kernel
theorem dX10_copy_161 : decode cX10_copy 161 = .ok (.iadd, 1) := by decide +kernel
theorem dX10_copy_162 : decode cX10_copy 162 = .ok (.aload_n 0, 1) := by decide +kernel
theorem dX10_copy_163 : decode cX10_copy 163 = .ok (.getfield 72, 3) := by decide +kernel
theorem dX10_copy_166 : decode cX10_copy 166 = .ok (.iload 6, 2) := by decide +kernel
theorem dX10_copy_168 : decode cX10_copy 168 = .ok (.iaload, 1) := by decide +kernel
theorem dX10_copy_169 : decode cX10_copy 169 = .ok (.iastore, 1) := by decide +kernel
theorem dX10_copy_170 : decode cX10_copy 170 = .ok (.iinc 6 1, 3) := by decide +kernel
theorem dX10_copy_173 : decode cX10_copy 173 = .ok (.goto (-32), 3) := by decide +kernel
theorem dX10_copy_176 : decode cX10_copy 176 = .ok (.iload 5, 2) := by decide +kernel
theorem dX10_copy_178 : decode cX10_copy 178 = .ok (.ireturn, 1) := by decide +kernel
theorem dX10_lay_0 : decode cX10_lay 0 = .ok (.iload_n 1, 1) := by decide +kernel
theorem dX10_lay_1 : decode cX10_lay 1 = .ok (.invokestatic 276, 3) := by decide +kernel
theorem dX10_lay_4 : decode cX10_lay 4 = .ok (.ifCond .eq 37, 3) := by decide +kernel
theorem dX10_lay_7 : decode cX10_lay 7 = .ok (.iload_n 2, 1) := by decide +kernel
theorem dX10_lay_8 : decode cX10_lay 8 = .ok (.iconst 0, 1) := by decide +kernel
theorem dX10_lay_9 : decode cX10_lay 9 = .ok (.iconst 3, 1) := by decide +kernel
theorem dX10_lay_10 : decode cX10_lay 10 = .ok (.invokestatic 78, 3) := by decide +kernel
theorem dX10_lay_13 : decode cX10_lay 13 = .ok (.ifCond .eq 28, 3) := by decide +kernel
theorem dX10_lay_16 : decode cX10_lay 16 = .ok (.iload_n 2, 1) := by decide +kernel
theorem dX10_lay_17 : decode cX10_lay 17 = .ok (.iconst 1, 1) := by decide +kernel
theorem dX10_lay_18 : decode cX10_lay 18 = .ok (.if_icmp .ne 11, 3) := by decide +kernel
theorem dX10_lay_21 : decode cX10_lay 21 = .ok (.aload_n 0, 1) := by decide +kernel
theorem dX10_lay_22 : decode cX10_lay 22 = .ok (.iload_n 3, 1) := by decide +kernel
theorem dX10_lay_23 : decode cX10_lay 23 = .ok (.invokevirtual 107, 3) := by decide +kernel
theorem dX10_lay_26 : decode cX10_lay 26 = .ok (.ifCond .eq 15, 3) := by decide +kernel
theorem dX10_lay_29 : decode cX10_lay 29 = .ok (.iload_n 2, 1) := by decide +kernel
theorem dX10_lay_30 : decode cX10_lay 30 = .ok (.iconst 2, 1) := by decide +kernel
theorem dX10_lay_31 : decode cX10_lay 31 = .ok (.if_icmp .ne 13, 3) := by decide +kernel
theorem dX10_lay_34 : decode cX10_lay 34 = .ok (.iload_n 3, 1) := by decide +kernel
theorem dX10_lay_35 : decode cX10_lay 35 = .ok (.invokestatic 198, 3) := by decide +kernel
theorem dX10_lay_38 : decode cX10_lay 38 = .ok (.ifCond .ne 6, 3) := by decide +kernel
theorem dX10_lay_41 : decode cX10_lay 41 = .ok (.ldc 86, 2) := by decide +kernel
theorem dX10_lay_43 : decode cX10_lay 43 = .ok (.ireturn, 1) := by decide +kernel
theorem dX10_lay_44 : decode cX10_lay 44 = .ok (.iload_n 2, 1) := by decide +kernel
theorem dX10_lay_45 : decode cX10_lay 45 = .ok (.iconst 2, 1) := by decide +kernel
theorem dX10_lay_46 : decode cX10_lay 46 = .ok (.if_icmp .ne 15, 3) := by decide +kernel
theorem dX10_lay_49 : decode cX10_lay 49 = .ok (.aload_n 0, 1) := by decide +kernel
theorem dX10_lay_50 : decode cX10_lay 50 = .ok (.getfield 51, 3) := by decide +kernel
theorem dX10_lay_53 : decode cX10_lay 53 = .ok (.iload_n 3, 1) := by decide +kernel
theorem dX10_lay_54 : decode cX10_lay 54 = .ok (.iaload, 1) := by decide +kernel
theorem dX10_lay_55 : decode cX10_lay 55 = .ok (.ifCond .ge 6, 3) := by decide +kernel
theorem dX10_lay_58 : decode cX10_lay 58 = .ok (.ldc 201, 2) := by decide +kernel
theorem dX10_lay_60 : decode cX10_lay 60 = .ok (.ireturn, 1) := by decide +kernel
theorem dX10_lay_61 : decode cX10_lay 61 = .ok (.aload_n 0, 1) := by decide +kernel
theorem dX10_lay_62 : decode cX10_lay 62 = .ok (.getfield 60, 3) := by decide +kernel
theorem dX10_lay_65 : decode cX10_lay 65 = .ok (.iload_n 1, 1) := by decide +kernel
theorem dX10_lay_66 : decode cX10_lay 66 = .ok (.iaload, 1) := by decide +kernel
theorem dX10_lay_67 : decode cX10_lay 67 = .ok (.istore 4, 2) := by decide +kernel
theorem dX10_lay_69 : decode cX10_lay 69 = .ok (.aload_n 0, 1) := by decide +kernel
theorem dX10_lay_70 : decode cX10_lay 70 = .ok (.getfield 60, 3) := by decide +kernel
theorem dX10_lay_73 : decode cX10_lay 73 = .ok (.iload_n 1, 1) := by decide +kernel
theorem dX10_lay_74 : decode cX10_lay 74 = .ok (.iload_n 2, 1) := by decide +kernel
theorem dX10_lay_75 : decode cX10_lay 75 = .ok (.iastore, 1) := by decide +kernel
theorem dX10_lay_76 : decode cX10_lay 76 = .ok (.aload_n 0, 1) := by decide +kernel
theorem dX10_lay_77 : decode cX10_lay 77 = .ok (.getfield 63, 3) := by decide +kernel
theorem dX10_lay_80 : decode cX10_lay 80 = .ok (.iload_n 1, 1) := by decide +kernel
theorem dX10_lay_81 : decode cX10_lay 81 = .ok (.iload_n 2, 1) := by decide +kernel
theorem dX10_lay_82 : decode cX10_lay 82 = .ok (.iconst 1, 1) := by decide +kernel
theorem dX10_lay_83 : decode cX10_lay 83 = .ok (.if_icmp .ne 12, 3) := by decide +kernel
theorem dX10_lay_86 : decode cX10_lay 86 = .ok (.aload_n 0, 1) := by decide +kernel
theorem dX10_lay_87 : decode cX10_lay 87 = .ok (.iload_n 3, 1) := by decide +kernel
theorem dX10_lay_88 : decode cX10_lay 88 = .ok (.iconst 0, 1) := by decide +kernel
theorem dX10_lay_89 : decode cX10_lay 89 = .ok (.invokevirtual 96, 3) := by decide +kernel
theorem dX10_lay_92 : decode cX10_lay 92 = .ok (.goto 18, 3) := by decide +kernel
theorem dX10_lay_95 : decode cX10_lay 95 = .ok (.iload_n 2, 1) := by decide +kernel
theorem dX10_lay_96 : decode cX10_lay 96 = .ok (.iconst 2, 1) := by decide +kernel
theorem dX10_lay_97 : decode cX10_lay 97 = .ok (.if_icmp .ne 12, 3) := by decide +kernel
theorem dX10_lay_100 : decode cX10_lay 100 = .ok (.aload_n 0, 1) := by decide +kernel
theorem dX10_lay_101 : decode cX10_lay 101 = .ok (.getfield 54, 3) := by decide +kernel
theorem dX10_lay_104 : decode cX10_lay 104 = .ok (.iload_n 3, 1) := by decide +kernel
theorem dX10_lay_105 : decode cX10_lay 105 = .ok (.iaload, 1) := by decide +kernel
theorem dX10_lay_106 : decode cX10_lay 106 = .ok (.goto 4, 3) := by decide +kernel
theorem dX10_lay_109 : decode cX10_lay 109 = .ok (.iload_n 3, 1) := by decide +kernel
theorem dX10_lay_110 : decode cX10_lay 110 = .ok (.iastore, 1) := by decide +kernel
theorem dX10_lay_111 : decode cX10_lay 111 = .ok (.aload_n 0, 1) := by decide +kernel
theorem dX10_lay_112 : decode cX10_lay 112 = .ok (.getfield 66, 3) := by decide +kernel
theorem dX10_lay_115 : decode cX10_lay 115 = .ok (.iload_n 1, 1) := by decide +kernel
theorem dX10_lay_116 : decode cX10_lay 116 = .ok (.iload_n 2, 1) := by decide +kernel
theorem dX10_lay_117 : decode cX10_lay 117 = .ok (.iconst 1, 1) := by decide +kernel
theorem dX10_lay_118 : decode cX10_lay 118 = .ok (.if_icmp .ne 11, 3) := by decide +kernel
theorem dX10_lay_121 : decode cX10_lay 121 = .ok (.aload_n 0, 1) := by decide +kernel
theorem dX10_lay_122 : decode cX10_lay 122 = .ok (.iload_n 3, 1) := by decide +kernel
theorem dX10_lay_123 : decode cX10_lay 123 = .ok (.invokevirtual 114, 3) := by decide +kernel
theorem dX10_lay_126 : decode cX10_lay 126 = .ok (.goto 4, 3) := by decide +kernel
theorem dX10_lay_129 : decode cX10_lay 129 = .ok (.iconst 0, 1) := by decide +kernel
theorem dX10_lay_130 : decode cX10_lay 130 = .ok (.iastore, 1) := by decide +kernel
theorem dX10_lay_131 : decode cX10_lay 131 = .ok (.iconst 0, 1) := by decide +kernel
theorem dX10_lay_132 : decode cX10_lay 132 = .ok (.istore 5, 2) := by decide +kernel
theorem dX10_lay_134 : decode cX10_lay 134 = .ok (.iload 5, 2) := by decide +kernel
theorem dX10_lay_136 : decode cX10_lay 136 = .ok (.bipush 24, 2) := by decide +kernel
theorem dX10_lay_138 : decode cX10_lay 138 = .ok (.if_icmp .ge 38, 3) := by decide +kernel
theorem dX10_lay_141 : decode cX10_lay 141 = .ok (.iload_n 2, 1) := by decide +kernel
theorem dX10_lay_142 : decode cX10_lay 142 = .ok (.iconst 2, 1) := by decide +kernel
theorem dX10_lay_143 : decode cX10_lay 143 = .ok (.if_icmp .ne 33, 3) := by decide +kernel
theorem dX10_lay_146 : decode cX10_lay 146 = .ok (.aload_n 0, 1) := by decide +kernel
theorem dX10_lay_147 : decode cX10_lay 147 = .ok (.getfield 69, 3) := by decide +kernel
theorem dX10_lay_150 : decode cX10_lay 150 = .ok (.bipush 24, 2) := by decide +kernel
theorem dX10_lay_152 : decode cX10_lay 152 = .ok (.iload_n 1, 1) := by decide +kernel
theorem dX10_lay_153 : decode cX10_lay 153 = .ok (.imul, 1) := by decide +kernel
theorem dX10_lay_154 : decode cX10_lay 154 = .ok (.iload 5, 2) := by decide +kernel
theorem dX10_lay_156 : decode cX10_lay 156 = .ok (.iadd, 1) := by decide +kernel
theorem dX10_lay_157 : decode cX10_lay 157 = .ok (.aload_n 0, 1) := by decide +kernel
theorem dX10_lay_158 : decode cX10_lay 158 = .ok (.getfield 57, 3) := by decide +kernel
theorem dX10_lay_161 : decode cX10_lay 161 = .ok (.bipush 24, 2) := by decide +kernel
theorem dX10_lay_163 : decode cX10_lay 163 = .ok (.iload_n 3, 1) := by decide +kernel
theorem dX10_lay_164 : decode cX10_lay 164 = .ok (.imul, 1) := by decide +kernel
theorem dX10_lay_165 : decode cX10_lay 165 = .ok (.iload 5, 2) := by decide +kernel
theorem dX10_lay_167 : decode cX10_lay 167 = .ok (.iadd, 1) := by decide +kernel
theorem dX10_lay_168 : decode cX10_lay 168 = .ok (.iaload, 1) := by decide +kernel
theorem dX10_lay_169 : decode cX10_lay 169 = .ok (.iastore, 1) := by decide +kernel
theorem dX10_lay_170 : decode cX10_lay 170 = .ok (.iinc 5 1, 3) := by decide +kernel
theorem dX10_lay_173 : decode cX10_lay 173 = .ok (.goto (-39), 3) := by decide +kernel
theorem dX10_lay_176 : decode cX10_lay 176 = .ok (.iload 4, 2) := by decide +kernel
theorem dX10_lay_178 : decode cX10_lay 178 = .ok (.ireturn, 1) := by decide +kernel
theorem dX10_ask_0 : decode cX10_ask 0 = .ok (.iload_n 1, 1) := by decide +kernel
theorem dX10_ask_1 : decode cX10_ask 1 = .ok (.invokestatic 276, 3) := by decide +kernel
theorem dX10_ask_4 : decode cX10_ask 4 = .ok (.ifCond .eq 12, 3) := by decide +kernel
theorem dX10_ask_7 : decode cX10_ask 7 = .ok (.iload_n 2, 1) := by decide +kernel
theorem dX10_ask_8 : decode cX10_ask 8 = .ok (.iconst 0, 1) := by decide +kernel
theorem dX10_ask_9 : decode cX10_ask 9 = .ok (.iconst 5, 1) := by decide +kernel
theorem dX10_ask_10 : decode cX10_ask 10 = .ok (.invokestatic 78, 3) := by decide +kernel
theorem dX10_ask_13 : decode cX10_ask 13 = .ok (.ifCond .ne 6, 3) := by decide +kernel
theorem dX10_ask_16 : decode cX10_ask 16 = .ok (.ldc 86, 2) := by decide +kernel
theorem dX10_ask_18 : decode cX10_ask 18 = .ok (.ireturn, 1) := by decide +kernel
theorem dX10_ask_19 : decode cX10_ask 19 = .ok (.aload_n 0, 1) := by decide +kernel
theorem dX10_ask_20 : decode cX10_ask 20 = .ok (.getfield 60, 3) := by decide +kernel
theorem dX10_ask_23 : decode cX10_ask 23 = .ok (.iload_n 1, 1) := by decide +kernel
theorem dX10_ask_24 : decode cX10_ask 24 = .ok (.iaload, 1) := by decide +kernel
theorem dX10_ask_25 : decode cX10_ask 25 = .ok (.ifCond .ne 6, 3) := by decide +kernel
theorem dX10_ask_28 : decode cX10_ask 28 = .ok (.ldc 201, 2) := by decide +kernel
theorem dX10_ask_30 : decode cX10_ask 30 = .ok (.ireturn, 1) := by decide +kernel
theorem dX10_ask_31 : decode cX10_ask 31 = .ok (.aload_n 0, 1) := by decide +kernel
theorem dX10_ask_32 : decode cX10_ask 32 = .ok (.getfield 60, 3) := by decide +kernel
theorem dX10_ask_35 : decode cX10_ask 35 = .ok (.iload_n 1, 1) := by decide +kernel
theorem dX10_ask_36 : decode cX10_ask 36 = .ok (.iaload, 1) := by decide +kernel
theorem dX10_ask_37 : decode cX10_ask 37 = .ok (.iconst 1, 1) := by decide +kernel
theorem dX10_ask_38 : decode cX10_ask 38 = .ok (.if_icmp .ne 25, 3) := by decide +kernel
theorem dX10_ask_41 : decode cX10_ask 41 = .ok (.aload_n 0, 1) := by decide +kernel
theorem dX10_ask_42 : decode cX10_ask 42 = .ok (.getfield 63, 3) := by decide +kernel
theorem dX10_ask_45 : decode cX10_ask 45 = .ok (.iload_n 1, 1) := by decide +kernel
theorem dX10_ask_46 : decode cX10_ask 46 = .ok (.iaload, 1) := by decide +kernel
theorem dX10_ask_47 : decode cX10_ask 47 = .ok (.iload_n 2, 1) := by decide +kernel
theorem dX10_ask_48 : decode cX10_ask 48 = .ok (.invokestatic 117, 3) := by decide +kernel
theorem dX10_ask_51 : decode cX10_ask 51 = .ok (.ifCond .eq 12, 3) := by decide +kernel
theorem dX10_ask_54 : decode cX10_ask 54 = .ok (.aload_n 0, 1) := by decide +kernel
theorem dX10_ask_55 : decode cX10_ask 55 = .ok (.getfield 66, 3) := by decide +kernel
theorem dX10_ask_58 : decode cX10_ask 58 = .ok (.iload_n 1, 1) := by decide +kernel
theorem dX10_ask_59 : decode cX10_ask 59 = .ok (.iaload, 1) := by decide +kernel
theorem dX10_ask_60 : decode cX10_ask 60 = .ok (.goto 5, 3) := by decide +kernel
theorem dX10_ask_63 : decode cX10_ask 63 = .ok (.ldc 121, 2) := by decide +kernel
theorem dX10_ask_65 : decode cX10_ask 65 = .ok (.ireturn, 1) := by decide +kernel
theorem dX10_item_0 : decode cX10_item 0 = .ok (.iload_n 1, 1) := by decide +kernel
theorem dX10_item_1 : decode cX10_item 1 = .ok (.invokestatic 276, 3) := by decide +kernel
theorem dX10_item_4 : decode cX10_item 4 = .ok (.ifCond .ne 6, 3) := by decide +kernel
theorem dX10_item_7 : decode cX10_item 7 = .ok (.ldc 86, 2) := by decide +kernel
theorem dX10_item_9 : decode cX10_item 9 = .ok (.ireturn, 1) := by decide +kernel
theorem dX10_item_10 : decode cX10_item 10 = .ok (.aload_n 0, 1) := by decide +kernel
theorem dX10_item_11 : decode cX10_item 11 = .ok (.getfield 60, 3) := by decide +kernel
theorem dX10_item_14 : decode cX10_item 14 = .ok (.iload_n 1, 1) := by decide +kernel
theorem dX10_item_15 : decode cX10_item 15 = .ok (.iaload, 1) := by decide +kernel
theorem dX10_item_16 : decode cX10_item 16 = .ok (.ifCond .ne 6, 3) := by decide +kernel
theorem dX10_item_19 : decode cX10_item 19 = .ok (.ldc 201, 2) := by decide +kernel
theorem dX10_item_21 : decode cX10_item 21 = .ok (.ireturn, 1) := by decide +kernel
theorem dX10_item_22 : decode cX10_item 22 = .ok (.aload_n 0, 1) := by decide +kernel
theorem dX10_item_23 : decode cX10_item 23 = .ok (.getfield 60, 3) := by decide +kernel
theorem dX10_item_26 : decode cX10_item 26 = .ok (.iload_n 1, 1) := by decide +kernel
theorem dX10_item_27 : decode cX10_item 27 = .ok (.iaload, 1) := by decide +kernel
theorem dX10_item_28 : decode cX10_item 28 = .ok (.iconst 2, 1) := by decide +kernel
theorem dX10_item_29 : decode cX10_item 29 = .ok (.if_icmp .eq 6, 3) := by decide +kernel
theorem dX10_item_32 : decode cX10_item 32 = .ok (.ldc 121, 2) := by decide +kernel
theorem dX10_item_34 : decode cX10_item 34 = .ok (.ireturn, 1) := by decide +kernel
theorem dX10_item_35 : decode cX10_item 35 = .ok (.iload_n 2, 1) := by decide +kernel
theorem dX10_item_36 : decode cX10_item 36 = .ok (.iconst 0, 1) := by decide +kernel
theorem dX10_item_37 : decode cX10_item 37 = .ok (.aload_n 0, 1) := by decide +kernel
theorem dX10_item_38 : decode cX10_item 38 = .ok (.getfield 63, 3) := by decide +kernel
theorem dX10_item_41 : decode cX10_item 41 = .ok (.iload_n 1, 1) := by decide +kernel
theorem dX10_item_42 : decode cX10_item 42 = .ok (.iaload, 1) := by decide +kernel
theorem dX10_item_43 : decode cX10_item 43 = .ok (.iconst 1, 1) := by decide +kernel
theorem dX10_item_44 : decode cX10_item 44 = .ok (.isub, 1) := by decide +kernel
theorem dX10_item_45 : decode cX10_item 45 = .ok (.invokestatic 78, 3) := by decide +kernel
theorem dX10_item_48 : decode cX10_item 48 = .ok (.ifCond .ne 7, 3) := by decide +kernel
theorem dX10_item_51 : decode cX10_item 51 = .ok (.ldc_w 273, 3) := by decide +kernel
theorem dX10_item_54 : decode cX10_item 54 = .ok (.ireturn, 1) := by decide +kernel
theorem dX10_item_55 : decode cX10_item 55 = .ok (.aload_n 0, 1) := by decide +kernel
theorem dX10_item_56 : decode cX10_item 56 = .ok (.getfield 69, 3) := by decide +kernel
theorem dX10_item_59 : decode cX10_item 59 = .ok (.bipush 24, 2) := by decide +kernel
theorem dX10_item_61 : decode cX10_item 61 = .ok (.iload_n 1, 1) := by decide +kernel
theorem dX10_item_62 : decode cX10_item 62 = .ok (.imul, 1) := by decide +kernel
theorem dX10_item_63 : decode cX10_item 63 = .ok (.iload_n 2, 1) := by decide +kernel
theorem dX10_item_64 : decode cX10_item 64 = .ok (.iadd, 1) := by decide +kernel
theorem dX10_item_65 : decode cX10_item 65 = .ok (.iaload, 1) := by decide +kernel
theorem dX10_item_66 : decode cX10_item 66 = .ok (.istore_n 3, 1) := by decide +kernel
theorem dX10_item_67 : decode cX10_item 67 = .ok (.iload_n 3, 1) := by decide +kernel
theorem dX10_item_68 : decode cX10_item 68 = .ok (.ldc 185, 2) := by decide +kernel
theorem dX10_item_70 : decode cX10_item 70 = .ok (.if_icmp .ne 8, 3) := by decide +kernel
theorem dX10_item_73 : decode cX10_item 73 = .ok (.ldc 121, 2) := by decide +kernel
theorem dX10_item_75 : decode cX10_item 75 = .ok (.goto 4, 3) := by decide +kernel
theorem dX10_item_78 : decode cX10_item 78 = .ok (.iload_n 3, 1) := by decide +kernel
theorem dX10_item_79 : decode cX10_item 79 = .ok (.ireturn, 1) := by decide +kernel
theorem dX10_rest_0 : decode cX10_rest 0 = .ok (.iload_n 1, 1) := by decide +kernel
theorem dX10_rest_1 : decode cX10_rest 1 = .ok (.invokestatic 276, 3) := by decide +kernel
theorem dX10_rest_4 : decode cX10_rest 4 = .ok (.ifCond .ne 6, 3) := by decide +kernel
theorem dX10_rest_7 : decode cX10_rest 7 = .ok (.ldc 86, 2) := by decide +kernel
theorem dX10_rest_9 : decode cX10_rest 9 = .ok (.ireturn, 1) := by decide +kernel
theorem dX10_rest_10 : decode cX10_rest 10 = .ok (.aload_n 0, 1) := by decide +kernel
theorem dX10_rest_11 : decode cX10_rest 11 = .ok (.getfield 60, 3) := by decide +kernel
theorem dX10_rest_14 : decode cX10_rest 14 = .ok (.iload_n 1, 1) := by decide +kernel
theorem dX10_rest_15 : decode cX10_rest 15 = .ok (.iaload, 1) := by decide +kernel
theorem dX10_rest_16 : decode cX10_rest 16 = .ok (.ifCond .ne 6, 3) := by decide +kernel
theorem dX10_rest_19 : decode cX10_rest 19 = .ok (.ldc 201, 2) := by decide +kernel
theorem dX10_rest_21 : decode cX10_rest 21 = .ok (.ireturn, 1) := by decide +kernel
theorem dX10_rest_22 : decode cX10_rest 22 = .ok (.aload_n 0, 1) := by decide +kernel
theorem dX10_rest_23 : decode cX10_rest 23 = .ok (.getfield 60, 3) := by decide +kernel
theorem dX10_rest_26 : decode cX10_rest 26 = .ok (.iload_n 1, 1) := by decide +kernel
theorem dX10_rest_27 : decode cX10_rest 27 = .ok (.iaload, 1) := by decide +kernel
theorem dX10_rest_28 : decode cX10_rest 28 = .ok (.iconst 3, 1) := by decide +kernel
theorem dX10_rest_29 : decode cX10_rest 29 = .ok (.if_icmp .eq 6, 3) := by decide +kernel
theorem dX10_rest_32 : decode cX10_rest 32 = .ok (.ldc 121, 2) := by decide +kernel
theorem dX10_rest_34 : decode cX10_rest 34 = .ok (.ireturn, 1) := by decide +kernel
theorem dX10_rest_35 : decode cX10_rest 35 = .ok (.iload_n 2, 1) := by decide +kernel
theorem dX10_rest_36 : decode cX10_rest 36 = .ok (.ifCond .ne 9, 3) := by decide +kernel
theorem dX10_rest_39 : decode cX10_rest 39 = .ok (.ldc_w 279, 3) := by decide +kernel
theorem dX10_rest_42 : decode cX10_rest 42 = .ok (.goto 20, 3) := by decide +kernel
theorem dX10_rest_45 : decode cX10_rest 45 = .ok (.iload_n 2, 1) := by decide +kernel
theorem dX10_rest_46 : decode cX10_rest 46 = .ok (.iconst (-1), 1) := by decide +kernel
theorem dX10_rest_47 : decode cX10_rest 47 = .ok (.if_icmp .ne 7, 3) := by decide +kernel
theorem dX10_rest_50 : decode cX10_rest 50 = .ok (.iconst 0, 1) := by decide +kernel
theorem dX10_rest_51 : decode cX10_rest 51 = .ok (.goto 11, 3) := by decide +kernel
theorem dX10_rest_54 : decode cX10_rest 54 = .ok (.aload_n 0, 1) := by decide +kernel
theorem dX10_rest_55 : decode cX10_rest 55 = .ok (.getfield 63, 3) := by decide +kernel
theorem dX10_rest_58 : decode cX10_rest 58 = .ok (.iload_n 1, 1) := by decide +kernel
theorem dX10_rest_59 : decode cX10_rest 59 = .ok (.iaload, 1) := by decide +kernel
theorem dX10_rest_60 : decode cX10_rest 60 = .ok (.iload_n 2, 1) := by decide +kernel
theorem dX10_rest_61 : decode cX10_rest 61 = .ok (.irem, 1) := by decide +kernel
theorem dX10_rest_62 : decode cX10_rest 62 = .ok (.ireturn, 1) := by decide +kernel
theorem dX10_tell_0 : decode cX10_tell 0 = .ok (.aload_n 0, 1) := by decide +kernel
theorem dX10_tell_1 : decode cX10_tell 1 = .ok (.getfield 280, 3) := by decide +kernel
theorem dX10_tell_4 : decode cX10_tell 4 = .ok (.bipush 60, 2) := by decide +kernel
theorem dX10_tell_6 : decode cX10_tell 6 = .ok (.if_icmp .ne 6, 3) := by decide +kernel
theorem dX10_tell_9 : decode cX10_tell 9 = .ok (.ldc 87, 2) := by decide +kernel
theorem dX10_tell_11 : decode cX10_tell 11 = .ok (.ireturn, 1) := by decide +kernel
theorem dX10_tell_12 : decode cX10_tell 12 = .ok (.aload_n 0, 1) := by decide +kernel
theorem dX10_tell_13 : decode cX10_tell 13 = .ok (.getfield 75, 3) := by decide +kernel
theorem dX10_tell_16 : decode cX10_tell 16 = .ok (.aload_n 0, 1) := by decide +kernel
theorem dX10_tell_17 : decode cX10_tell 17 = .ok (.getfield 280, 3) := by decide +kernel
theorem dX10_tell_20 : decode cX10_tell 20 = .ok (.iload_n 1, 1) := by decide +kernel
theorem dX10_tell_21 : decode cX10_tell 21 = .ok (.iastore, 1) := by decide +kernel
theorem dX10_tell_22 : decode cX10_tell 22 = .ok (.aload_n 0, 1) := by decide +kernel
theorem dX10_tell_23 : decode cX10_tell 23 = .ok (.dup, 1) := by decide +kernel
theorem dX10_tell_24 : decode cX10_tell 24 = .ok (.getfield 280, 3) := by decide +kernel
theorem dX10_tell_27 : decode cX10_tell 27 = .ok (.iconst 1, 1) := by decide +kernel
theorem dX10_tell_28 : decode cX10_tell 28 = .ok (.iadd, 1) := by decide +kernel
theorem dX10_tell_29 : decode cX10_tell 29 = .ok (.putfield 280, 3) := by decide +kernel
theorem dX10_tell_32 : decode cX10_tell 32 = .ok (.aload_n 0, 1) := by decide +kernel
theorem dX10_tell_33 : decode cX10_tell 33 = .ok (.getfield 280, 3) := by decide +kernel
theorem dX10_tell_36 : decode cX10_tell 36 = .ok (.ireturn, 1) := by decide +kernel
theorem dX10_check_0 : decode cX10_check 0 = .ok (.aload_n 0, 1) := by decide +kernel
theorem dX10_check_1 : decode cX10_check 1 = .ok (.getfield 280, 3) := by decide +kernel
theorem dX10_check_4 : decode cX10_check 4 = .ok (.istore_n 2, 1) := by decide +kernel
theorem dX10_check_5 : decode cX10_check 5 = .ok (.aload_n 0, 1) := by decide +kernel
theorem dX10_check_6 : decode cX10_check 6 = .ok (.iconst 0, 1) := by decide +kernel
theorem dX10_check_7 : decode cX10_check 7 = .ok (.putfield 280, 3) := by decide +kernel
theorem dX10_check_10 : decode cX10_check 10 = .ok (.iload_n 1, 1) := by decide +kernel
theorem dX10_check_11 : decode cX10_check 11 = .ok (.iconst 1, 1) := by decide +kernel
theorem dX10_check_12 : decode cX10_check 12 = .ok (.bipush 30, 2) := by decide +kernel
theorem dX10_check_14 : decode cX10_check 14 = .ok (.invokestatic 78, 3) := by decide +kernel
theorem dX10_check_17 : decode cX10_check 17 = .ok (.ifCond .ne 6, 3) := by decide +kernel
theorem dX10_check_20 : decode cX10_check 20 = .ok (.ldc 86, 2) := by decide +kernel
theorem dX10_check_22 : decode cX10_check 22 = .ok (.ireturn, 1) := by decide +kernel
theorem dX10_check_23 : decode cX10_check 23 = .ok (.aload_n 0, 1) := by decide +kernel
theorem dX10_check_24 : decode cX10_check 24 = .ok (.getfield 283, 3) := by decide +kernel
theorem dX10_check_27 : decode cX10_check 27 = .ok (.ifCond .ne 7, 3) := by decide +kernel
theorem dX10_check_30 : decode cX10_check 30 = .ok (.ldc_w 279, 3) := by decide +kernel
theorem dX10_check_33 : decode cX10_check 33 = .ok (.ireturn, 1) := by decide +kernel
theorem dX10_check_34 : decode cX10_check 34 = .ok (.aload_n 0, 1) := by decide +kernel
theorem dX10_check_35 : decode cX10_check 35 = .ok (.getfield 9, 3) := by decide +kernel
theorem dX10_check_38 : decode cX10_check 38 = .ok (.aload_n 0, 1) := by decide +kernel
theorem dX10_check_39 : decode cX10_check 39 = .ok (.getfield 16, 3) := by decide +kernel
theorem dX10_check_42 : decode cX10_check 42 = .ok (.invokestatic 287, 3) := by decide +kernel
theorem dX10_check_45 : decode cX10_check 45 = .ok (.aload_n 0, 1) := by decide +kernel
theorem dX10_check_46 : decode cX10_check 46 = .ok (.getfield 13, 3) := by decide +kernel
theorem dX10_check_49 : decode cX10_check 49 = .ok (.aload_n 0, 1) := by decide +kernel
theorem dX10_check_50 : decode cX10_check 50 = .ok (.getfield 9, 3) := by decide +kernel
theorem dX10_check_53 : decode cX10_check 53 = .ok (.invokestatic 287, 3) := by decide +kernel
theorem dX10_check_56 : decode cX10_check 56 = .ok (.iconst 0, 1) := by decide +kernel
theorem dX10_check_57 : decode cX10_check 57 = .ok (.istore_n 3, 1) := by decide +kernel
theorem dX10_check_58 : decode cX10_check 58 = .ok (.iconst 0, 1) := by decide +kernel
theorem dX10_check_59 : decode cX10_check 59 = .ok (.istore 4, 2) := by decide +kernel
theorem dX10_check_61 : decode cX10_check 61 = .ok (.iload 4, 2) := by decide +kernel
theorem dX10_check_63 : decode cX10_check 63 = .ok (.iload_n 1, 1) := by decide +kernel
theorem dX10_check_64 : decode cX10_check 64 = .ok (.if_icmp .ge 88, 3) := by decide +kernel
theorem dX10_check_67 : decode cX10_check 67 = .ok (.iload_n 3, 1) := by decide +kernel
theorem dX10_check_68 : decode cX10_check 68 = .ok (.iconst 2, 1) := by decide +kernel
theorem dX10_check_69 : decode cX10_check 69 = .ok (.iload 4, 2) := by decide +kernel
theorem dX10_check_71 : decode cX10_check 71 = .ok (.imul, 1) := by decide +kernel
theorem dX10_check_72 : decode cX10_check 72 = .ok (.if_icmp .ne 80, 3) := by decide +kernel
theorem dX10_check_75 : decode cX10_check 75 = .ok (.aload_n 0, 1) := by decide +kernel
theorem dX10_check_76 : decode cX10_check 76 = .ok (.invokevirtual 169, 3) := by decide +kernel
theorem dX10_check_79 : decode cX10_check 79 = .ok (.istore 5, 2) := by decide +kernel
theorem dX10_check_81 : decode cX10_check 81 = .ok (.iload_n 3, 1) := by decide +kernel
theorem dX10_check_82 : decode cX10_check 82 = .ok (.iload_n 3, 1) := by decide +kernel
theorem dX10_check_83 : decode cX10_check 83 = .ok (.iload_n 2, 1) := by decide +kernel
theorem dX10_check_84 : decode cX10_check 84 = .ok (.if_icmp .ge 20, 3) := by decide +kernel
theorem dX10_check_87 : decode cX10_check 87 = .ok (.aload_n 0, 1) := by decide +kernel
theorem dX10_check_88 : decode cX10_check 88 = .ok (.getfield 75, 3) := by decide +kernel
theorem dX10_check_91 : decode cX10_check 91 = .ok (.iload_n 3, 1) := by decide +kernel
theorem dX10_check_92 : decode cX10_check 92 = .ok (.iaload, 1) := by decide +kernel
theorem dX10_check_93 : decode cX10_check 93 = .ok (.aload_n 0, 1) := by decide +kernel
theorem dX10_check_94 : decode cX10_check 94 = .ok (.invokevirtual 155, 3) := by decide +kernel
theorem dX10_check_97 : decode cX10_check 97 = .ok (.if_icmp .ne 7, 3) := by decide +kernel
theorem dX10_check_100 : decode cX10_check 100 = .ok (.iconst 1, 1) := by decide +kernel
theorem dX10_check_101 : decode cX10_check 101 = .ok (.goto 4, 3) := by decide +kernel
theorem dX10_check_104 : decode cX10_check 104 = .ok (.iconst 0, 1) := by decide +kernel
theorem dX10_check_105 : decode cX10_check 105 = .ok (.iadd, 1) := by decide +kernel
theorem dX10_check_106 : decode cX10_check 106 = .ok (.istore_n 3, 1) := by decide +kernel
theorem dX10_check_107 : decode cX10_check 107 = .ok (.iload_n 3, 1) := by decide +kernel
theorem dX10_check_108 : decode cX10_check 108 = .ok (.iload_n 3, 1) := by decide +kernel
theorem dX10_check_109 : decode cX10_check 109 = .ok (.iconst 2, 1) := by decide +kernel
theorem dX10_check_110 : decode cX10_check 110 = .ok (.iload 4, 2) := by decide +kernel
theorem dX10_check_112 : decode cX10_check 112 = .ok (.imul, 1) := by decide +kernel
theorem dX10_check_113 : decode cX10_check 113 = .ok (.iconst 1, 1) := by decide +kernel
theorem dX10_check_114 : decode cX10_check 114 = .ok (.iadd, 1) := by decide +kernel
theorem dX10_check_115 : decode cX10_check 115 = .ok (.if_icmp .ne 28, 3) := by decide +kernel
theorem dX10_check_118 : decode cX10_check 118 = .ok (.iload_n 3, 1) := by decide +kernel
theorem dX10_check_119 : decode cX10_check 119 = .ok (.iload_n 2, 1) := by decide +kernel
theorem dX10_check_120 : decode cX10_check 120 = .ok (.if_icmp .ge 23, 3) := by decide +kernel
theorem dX10_check_123 : decode cX10_check 123 = .ok (.aload_n 0, 1) := by decide +kernel
theorem dX10_check_124 : decode cX10_check 124 = .ok (.getfield 75, 3) := by decide +kernel
theorem dX10_check_127 : decode cX10_check 127 = .ok (.iload_n 3, 1) := by decide +kernel
theorem dX10_check_128 : decode cX10_check 128 = .ok (.iaload, 1) := by decide +kernel
theorem dX10_check_129 : decode cX10_check 129 = .ok (.aload_n 0, 1) := by decide +kernel
theorem dX10_check_130 : decode cX10_check 130 = .ok (.getfield 9, 3) := by decide +kernel
theorem dX10_check_133 : decode cX10_check 133 = .ok (.bipush 7, 2) := by decide +kernel
theorem dX10_check_135 : decode cX10_check 135 = .ok (.iaload, 1) := by decide +kernel
theorem dX10_check_136 : decode cX10_check 136 = .ok (.if_icmp .ne 7, 3) := by decide +kernel
theorem dX10_check_139 : decode cX10_check 139 = .ok (.iconst 1, 1) := by decide +kernel
theorem dX10_check_140 : decode cX10_check 140 = .ok (.goto 4, 3) := by decide +kernel
theorem dX10_check_143 : decode cX10_check 143 = .ok (.iconst 0, 1) := by decide +kernel
theorem dX10_check_144 : decode cX10_check 144 = .ok (.iadd, 1) := by decide +kernel
theorem dX10_check_145 : decode cX10_check 145 = .ok (.istore_n 3, 1) := by decide +kernel
theorem dX10_check_146 : decode cX10_check 146 = .ok (.iinc 4 1, 3) := by decide +kernel
theorem dX10_check_149 : decode cX10_check 149 = .ok (.goto (-88), 3) := by decide +kernel
theorem dX10_check_152 : decode cX10_check 152 = .ok (.aload_n 0, 1) := by decide +kernel
theorem dX10_check_153 : decode cX10_check 153 = .ok (.getfield 16, 3) := by decide +kernel
theorem dX10_check_156 : decode cX10_check 156 = .ok (.aload_n 0, 1) := by decide +kernel
theorem dX10_check_157 : decode cX10_check 157 = .ok (.getfield 9, 3) := by decide +kernel
theorem dX10_check_160 : decode cX10_check 160 = .ok (.invokestatic 287, 3) := by decide +kernel
theorem dX10_check_163 : decode cX10_check 163 = .ok (.iload_n 3, 1) := by decide +kernel
theorem dX10_check_164 : decode cX10_check 164 = .ok (.iload_n 2, 1) := by decide +kernel
theorem dX10_check_165 : decode cX10_check 165 = .ok (.if_icmp .ne 14, 3) := by decide +kernel
theorem dX10_check_168 : decode cX10_check 168 = .ok (.iload_n 3, 1) := by decide +kernel
theorem dX10_check_169 : decode cX10_check 169 = .ok (.iconst 2, 1) := by decide +kernel
theorem dX10_check_170 : decode cX10_check 170 = .ok (.iload_n 1, 1) := by decide +kernel
theorem dX10_check_171 : decode cX10_check 171 = .ok (.imul, 1) := by decide +kernel
theorem dX10_check_172 : decode cX10_check 172 = .ok (.if_icmp .ne 7, 3) := by decide +kernel
theorem dX10_check_175 : decode cX10_check 175 = .ok (.iconst 0, 1) := by decide +kernel
theorem dX10_check_176 : decode cX10_check 176 = .ok (.goto 6, 3) := by decide +kernel
theorem dX10_check_179 : decode cX10_check 179 = .ok (.iconst 1, 1) := by decide +kernel
theorem dX10_check_180 : decode cX10_check 180 = .ok (.iload_n 3, 1) := by decide +kernel
theorem dX10_check_181 : decode cX10_check 181 = .ok (.iadd, 1) := by decide +kernel
theorem dX10_check_182 : decode cX10_check 182 = .ok (.ireturn, 1) := by decide +kernel
theorem dX10_keep_0 : decode cX10_keep 0 = .ok (.aload_n 0, 1) := by decide +kernel
theorem dX10_keep_1 : decode cX10_keep 1 = .ok (.getfield 9, 3) := by decide +kernel
theorem dX10_keep_4 : decode cX10_keep 4 = .ok (.aload_n 0, 1) := by decide +kernel
theorem dX10_keep_5 : decode cX10_keep 5 = .ok (.getfield 13, 3) := by decide +kernel
theorem dX10_keep_8 : decode cX10_keep 8 = .ok (.invokestatic 287, 3) := by decide +kernel
theorem dX10_keep_11 : decode cX10_keep 11 = .ok (.aload_n 0, 1) := by decide +kernel
theorem dX10_keep_12 : decode cX10_keep 12 = .ok (.iconst 1, 1) := by decide +kernel
theorem dX10_keep_13 : decode cX10_keep 13 = .ok (.putfield 283, 3) := by decide +kernel
theorem dX10_keep_16 : decode cX10_keep 16 = .ok (.aload_n 0, 1) := by decide +kernel
theorem dX10_keep_17 : decode cX10_keep 17 = .ok (.getfield 9, 3) := by decide +kernel
theorem dX10_keep_20 : decode cX10_keep 20 = .ok (.iconst 1, 1) := by decide +kernel
theorem dX10_keep_21 : decode cX10_keep 21 = .ok (.iaload, 1) := by decide +kernel
theorem dX10_keep_22 : decode cX10_keep 22 = .ok (.ireturn, 1) := by decide +kernel
theorem dX10_back_0 : decode cX10_back 0 = .ok (.aload_n 0, 1) := by decide +kernel
theorem dX10_back_1 : decode cX10_back 1 = .ok (.getfield 283, 3) := by decide +kernel
theorem dX10_back_4 : decode cX10_back 4 = .ok (.ifCond .ne 7, 3) := by decide +kernel
theorem dX10_back_7 : decode cX10_back 7 = .ok (.ldc_w 279, 3) := by decide +kernel
theorem dX10_back_10 : decode cX10_back 10 = .ok (.ireturn, 1) := by decide +kernel
theorem dX10_back_11 : decode cX10_back 11 = .ok (.aload_n 0, 1) := by decide +kernel
theorem dX10_back_12 : decode cX10_back 12 = .ok (.getfield 13, 3) := by decide +kernel
theorem dX10_back_15 : decode cX10_back 15 = .ok (.aload_n 0, 1) := by decide +kernel
theorem dX10_back_16 : decode cX10_back 16 = .ok (.getfield 9, 3) := by decide +kernel
theorem dX10_back_19 : decode cX10_back 19 = .ok (.invokestatic 287, 3) := by decide +kernel
theorem dX10_back_22 : decode cX10_back 22 = .ok (.aload_n 0, 1) := by decide +kernel
theorem dX10_back_23 : decode cX10_back 23 = .ok (.getfield 9, 3) := by decide +kernel
theorem dX10_back_26 : decode cX10_back 26 = .ok (.iconst 1, 1) := by decide +kernel
theorem dX10_back_27 : decode cX10_back 27 = .ok (.iaload, 1) := by decide +kernel
theorem dX10_back_28 : decode cX10_back 28 = .ok (.ireturn, 1) := by decide +kernel
theorem dX10_hearing_0 : decode cX10_hearing 0 = .ok (.iconst 0, 1) := by decide +kernel
theorem dX10_hearing_1 : decode cX10_hearing 1 = .ok (.istore_n 1, 1) := by decide +kernel
theorem dX10_hearing_2 : decode cX10_hearing 2 = .ok (.iconst 0, 1) := by decide +kernel
theorem dX10_hearing_3 : decode cX10_hearing 3 = .ok (.istore_n 2, 1) := by decide +kernel
theorem dX10_hearing_4 : decode cX10_hearing 4 = .ok (.iload_n 2, 1) := by decide +kernel
theorem dX10_hearing_5 : decode cX10_hearing 5 = .ok (.aload_n 0, 1) := by decide +kernel
theorem dX10_hearing_6 : decode cX10_hearing 6 = .ok (.getfield 9, 3) := by decide +kernel
theorem dX10_hearing_9 : decode cX10_hearing 9 = .ok (.iconst 1, 1) := by decide +kernel
theorem dX10_hearing_10 : decode cX10_hearing 10 = .ok (.iaload, 1) := by decide +kernel
theorem dX10_hearing_11 : decode cX10_hearing 11 = .ok (.if_icmp .ge 21, 3) := by decide +kernel
theorem dX10_hearing_14 : decode cX10_hearing 14 = .ok (.iload_n 1, 1) := by decide +kernel
theorem dX10_hearing_15 : decode cX10_hearing 15 = .ok (.aload_n 0, 1) := by decide +kernel
theorem dX10_hearing_16 : decode cX10_hearing 16 = .ok (.iload_n 2, 1) := by decide +kernel
theorem dX10_hearing_17 : decode cX10_hearing 17 = .ok (.bipush 6, 2) := by decide +kernel
theorem dX10_hearing_19 : decode cX10_hearing 19 = .ok (.invokevirtual 96, 3) := by decide +kernel
theorem dX10_hearing_22 : decode cX10_hearing 22 = .ok (.iload_n 2, 1) := by decide +kernel
theorem dX10_hearing_23 : decode cX10_hearing 23 = .ok (.ishl, 1) := by decide +kernel
theorem dX10_hearing_24 : decode cX10_hearing 24 = .ok (.ior, 1) := by decide +kernel
theorem dX10_hearing_25 : decode cX10_hearing 25 = .ok (.istore_n 1, 1) := by decide +kernel
theorem dX10_hearing_26 : decode cX10_hearing 26 = .ok (.iinc 2 1, 3) := by decide +kernel
theorem dX10_hearing_29 : decode cX10_hearing 29 = .ok (.goto (-25), 3) := by decide +kernel
theorem dX10_hearing_32 : decode cX10_hearing 32 = .ok (.iload_n 1, 1) := by decide +kernel
theorem dX10_hearing_33 : decode cX10_hearing 33 = .ok (.ireturn, 1) := by decide +kernel
theorem dX10_count_0 : decode cX10_count 0 = .ok (.iload_n 1, 1) := by decide +kernel
theorem dX10_count_1 : decode cX10_count 1 = .ok (.tableswitch 116 0 11 #[63, 70, 77, 77, 77, 77, 77, 86, 91, 99, 104, 109], 63) := by decide +kernel
theorem dX10_count_64 : decode cX10_count 64 = .ok (.aload_n 0, 1) := by decide +kernel
theorem dX10_count_65 : decode cX10_count 65 = .ok (.getfield 9, 3) := by decide +kernel
theorem dX10_count_68 : decode cX10_count 68 = .ok (.iconst 1, 1) := by decide +kernel
theorem dX10_count_69 : decode cX10_count 69 = .ok (.iaload, 1) := by decide +kernel
theorem dX10_count_70 : decode cX10_count 70 = .ok (.ireturn, 1) := by decide +kernel
theorem dX10_count_71 : decode cX10_count 71 = .ok (.aload_n 0, 1) := by decide +kernel
theorem dX10_count_72 : decode cX10_count 72 = .ok (.getfield 9, 3) := by decide +kernel
theorem dX10_count_75 : decode cX10_count 75 = .ok (.iconst 2, 1) := by decide +kernel
theorem dX10_count_76 : decode cX10_count 76 = .ok (.iaload, 1) := by decide +kernel
theorem dX10_count_77 : decode cX10_count 77 = .ok (.ireturn, 1) := by decide +kernel
theorem dX10_count_78 : decode cX10_count 78 = .ok (.aload_n 0, 1) := by decide +kernel
theorem dX10_count_79 : decode cX10_count 79 = .ok (.getfield 9, 3) := by decide +kernel
theorem dX10_count_82 : decode cX10_count 82 = .ok (.iconst 1, 1) := by decide +kernel
theorem dX10_count_83 : decode cX10_count 83 = .ok (.iload_n 1, 1) := by decide +kernel
theorem dX10_count_84 : decode cX10_count 84 = .ok (.iadd, 1) := by decide +kernel
theorem dX10_count_85 : decode cX10_count 85 = .ok (.iaload, 1) := by decide +kernel
theorem dX10_count_86 : decode cX10_count 86 = .ok (.ireturn, 1) := by decide +kernel
theorem dX10_count_87 : decode cX10_count 87 = .ok (.aload_n 0, 1) := by decide +kernel
theorem dX10_count_88 : decode cX10_count 88 = .ok (.invokevirtual 290, 3) := by decide +kernel
theorem dX10_count_91 : decode cX10_count 91 = .ok (.ireturn, 1) := by decide +kernel
theorem dX10_count_92 : decode cX10_count 92 = .ok (.aload_n 0, 1) := by decide +kernel
theorem dX10_count_93 : decode cX10_count 93 = .ok (.getfield 9, 3) := by decide +kernel
theorem dX10_count_96 : decode cX10_count 96 = .ok (.bipush 8, 2) := by decide +kernel
theorem dX10_count_98 : decode cX10_count 98 = .ok (.iaload, 1) := by decide +kernel
theorem dX10_count_99 : decode cX10_count 99 = .ok (.ireturn, 1) := by decide +kernel
theorem dX10_count_100 : decode cX10_count 100 = .ok (.aload_n 0, 1) := by decide +kernel
theorem dX10_count_101 : decode cX10_count 101 = .ok (.getfield 280, 3) := by decide +kernel
theorem dX10_count_104 : decode cX10_count 104 = .ok (.ireturn, 1) := by decide +kernel
theorem dX10_count_105 : decode cX10_count 105 = .ok (.aload_n 0, 1) := by decide +kernel
theorem dX10_count_106 : decode cX10_count 106 = .ok (.getfield 205, 3) := by decide +kernel
theorem dX10_count_109 : decode cX10_count 109 = .ok (.ireturn, 1) := by decide +kernel
theorem dX10_count_110 : decode cX10_count 110 = .ok (.aload_n 0, 1) := by decide +kernel
theorem dX10_count_111 : decode cX10_count 111 = .ok (.getfield 9, 3) := by decide +kernel
theorem dX10_count_114 : decode cX10_count 114 = .ok (.iconst 0, 1) := by decide +kernel
theorem dX10_count_115 : decode cX10_count 115 = .ok (.iaload, 1) := by decide +kernel
theorem dX10_count_116 : decode cX10_count 116 = .ok (.ireturn, 1) := by decide +kernel
theorem dX10_count_117 : decode cX10_count 117 = .ok (.ldc 86, 2) := by decide +kernel
theorem dX10_count_119 : decode cX10_count 119 = .ok (.ireturn, 1) := by decide +kernel
theorem dJ11_isValidCodePoint_9a6ad_0 : decode cJ11_isValidCodePoint_9a6ad 0 = .ok (.iload_n 0, 1) := by decide +kernel
theorem dJ11_isValidCodePoint_9a6ad_1 : decode cJ11_isValidCodePoint_9a6ad 1 = .ok (.bipush 16, 2) := by decide +kernel
theorem dJ11_isValidCodePoint_9a6ad_3 : decode cJ11_isValidCodePoint_9a6ad 3 = .ok (.iushr, 1) := by decide +kernel
theorem dJ11_isValidCodePoint_9a6ad_4 : decode cJ11_isValidCodePoint_9a6ad 4 = .ok (.istore_n 1, 1) := by decide +kernel
theorem dJ11_isValidCodePoint_9a6ad_5 : decode cJ11_isValidCodePoint_9a6ad 5 = .ok (.iload_n 1, 1) := by decide +kernel
theorem dJ11_isValidCodePoint_9a6ad_6 : decode cJ11_isValidCodePoint_9a6ad 6 = .ok (.bipush 17, 2) := by decide +kernel
theorem dJ11_isValidCodePoint_9a6ad_8 : decode cJ11_isValidCodePoint_9a6ad 8 = .ok (.if_icmp .ge 7, 3) := by decide +kernel
theorem dJ11_isValidCodePoint_9a6ad_11 : decode cJ11_isValidCodePoint_9a6ad 11 = .ok (.iconst 1, 1) := by decide +kernel
theorem dJ11_isValidCodePoint_9a6ad_12 : decode cJ11_isValidCodePoint_9a6ad 12 = .ok (.goto 4, 3) := by decide +kernel
theorem dJ11_isValidCodePoint_9a6ad_15 : decode cJ11_isValidCodePoint_9a6ad 15 = .ok (.iconst 0, 1) := by decide +kernel
theorem dJ11_isValidCodePoint_9a6ad_16 : decode cJ11_isValidCodePoint_9a6ad 16 = .ok (.ireturn, 1) := by decide +kernel
theorem dJ11_highSurrogate_5068e_0 : decode cJ11_highSurrogate_5068e 0 = .ok (.iload_n 0, 1) := by decide +kernel
theorem dJ11_highSurrogate_5068e_1 : decode cJ11_highSurrogate_5068e 1 = .ok (.bipush 10, 2) := by decide +kernel
theorem dJ11_highSurrogate_5068e_3 : decode cJ11_highSurrogate_5068e 3 = .ok (.iushr, 1) := by decide +kernel
theorem dJ11_highSurrogate_5068e_4 : decode cJ11_highSurrogate_5068e 4 = .ok (.ldc 110, 2) := by decide +kernel
theorem dJ11_highSurrogate_5068e_6 : decode cJ11_highSurrogate_5068e 6 = .ok (.iadd, 1) := by decide +kernel
theorem dJ11_highSurrogate_5068e_7 : decode cJ11_highSurrogate_5068e 7 = .ok (.i2c, 1) := by decide +kernel
theorem dJ11_highSurrogate_5068e_8 : decode cJ11_highSurrogate_5068e 8 = .ok (.ireturn, 1) := by decide +kernel
theorem dJ11_lowSurrogate_5068e_0 : decode cJ11_lowSurrogate_5068e 0 = .ok (.iload_n 0, 1) := by decide +kernel
theorem dJ11_lowSurrogate_5068e_1 : decode cJ11_lowSurrogate_5068e 1 = .ok (.sipush 1023, 3) := by decide +kernel
theorem dJ11_lowSurrogate_5068e_4 : decode cJ11_lowSurrogate_5068e 4 = .ok (.iand, 1) := by decide +kernel
theorem dJ11_lowSurrogate_5068e_5 : decode cJ11_lowSurrogate_5068e 5 = .ok (.ldc 76, 2) := by decide +kernel
theorem dJ11_lowSurrogate_5068e_7 : decode cJ11_lowSurrogate_5068e 7 = .ok (.iadd, 1) := by decide +kernel
theorem dJ11_lowSurrogate_5068e_8 : decode cJ11_lowSurrogate_5068e 8 = .ok (.i2c, 1) := by decide +kernel
theorem dJ11_lowSurrogate_5068e_9 : decode cJ11_lowSurrogate_5068e 9 = .ok (.ireturn, 1) := by decide +kernel
theorem dJ6_compare_7cf53_0 : decode cJ6_compare_7cf53 0 = .ok (.iload_n 0, 1) := by decide +kernel
theorem dJ6_compare_7cf53_1 : decode cJ6_compare_7cf53 1 = .ok (.iload_n 1, 1) := by decide +kernel
theorem dJ6_compare_7cf53_2 : decode cJ6_compare_7cf53 2 = .ok (.if_icmp .ge 7, 3) := by decide +kernel
theorem dJ6_compare_7cf53_5 : decode cJ6_compare_7cf53 5 = .ok (.iconst (-1), 1) := by decide +kernel
theorem dJ6_compare_7cf53_6 : decode cJ6_compare_7cf53 6 = .ok (.goto 13, 3) := by decide +kernel
theorem dJ6_compare_7cf53_9 : decode cJ6_compare_7cf53 9 = .ok (.iload_n 0, 1) := by decide +kernel
theorem dJ6_compare_7cf53_10 : decode cJ6_compare_7cf53 10 = .ok (.iload_n 1, 1) := by decide +kernel
theorem dJ6_compare_7cf53_11 : decode cJ6_compare_7cf53 11 = .ok (.if_icmp .ne 7, 3) := by decide +kernel
theorem dJ6_compare_7cf53_14 : decode cJ6_compare_7cf53 14 = .ok (.iconst 0, 1) := by decide +kernel
theorem dJ6_compare_7cf53_15 : decode cJ6_compare_7cf53 15 = .ok (.goto 4, 3) := by decide +kernel
theorem dJ6_compare_7cf53_18 : decode cJ6_compare_7cf53 18 = .ok (.iconst 1, 1) := by decide +kernel
theorem dJ6_compare_7cf53_19 : decode cJ6_compare_7cf53 19 = .ok (.ireturn, 1) := by decide +kernel
theorem dJ9_floorMod_7cf53_0 : decode cJ9_floorMod_7cf53 0 = .ok (.iload_n 0, 1) := by decide +kernel
theorem dJ9_floorMod_7cf53_1 : decode cJ9_floorMod_7cf53 1 = .ok (.iload_n 1, 1) := by decide +kernel
theorem dJ9_floorMod_7cf53_2 : decode cJ9_floorMod_7cf53 2 = .ok (.irem, 1) := by decide +kernel
theorem dJ9_floorMod_7cf53_3 : decode cJ9_floorMod_7cf53 3 = .ok (.istore_n 2, 1) := by decide +kernel
theorem dJ9_floorMod_7cf53_4 : decode cJ9_floorMod_7cf53 4 = .ok (.iload_n 0, 1) := by decide +kernel
theorem dJ9_floorMod_7cf53_5 : decode cJ9_floorMod_7cf53 5 = .ok (.iload_n 1, 1) := by decide +kernel
theorem dJ9_floorMod_7cf53_6 : decode cJ9_floorMod_7cf53 6 = .ok (.ixor, 1) := by decide +kernel
theorem dJ9_floorMod_7cf53_7 : decode cJ9_floorMod_7cf53 7 = .ok (.ifCond .ge 11, 3) := by decide +kernel
theorem dJ9_floorMod_7cf53_10 : decode cJ9_floorMod_7cf53 10 = .ok (.iload_n 2, 1) := by decide +kernel
theorem dJ9_floorMod_7cf53_11 : decode cJ9_floorMod_7cf53 11 = .ok (.ifCond .eq 7, 3) := by decide +kernel
theorem dJ9_floorMod_7cf53_14 : decode cJ9_floorMod_7cf53 14 = .ok (.iload_n 2, 1) := by decide +kernel
theorem dJ9_floorMod_7cf53_15 : decode cJ9_floorMod_7cf53 15 = .ok (.iload_n 1, 1) := by decide +kernel
theorem dJ9_floorMod_7cf53_16 : decode cJ9_floorMod_7cf53 16 = .ok (.iadd, 1) := by decide +kernel
theorem dJ9_floorMod_7cf53_17 : decode cJ9_floorMod_7cf53 17 = .ok (.ireturn, 1) := by decide +kernel
theorem dJ9_floorMod_7cf53_18 : decode cJ9_floorMod_7cf53 18 = .ok (.iload_n 2, 1) := by decide +kernel
theorem dJ9_floorMod_7cf53_19 : decode cJ9_floorMod_7cf53 19 = .ok (.ireturn, 1) := by decide +kernel
theorem dJ9_max_7cf53_0 : decode cJ9_max_7cf53 0 = .ok (.iload_n 0, 1) := by decide +kernel
theorem dJ9_max_7cf53_1 : decode cJ9_max_7cf53 1 = .ok (.iload_n 1, 1) := by decide +kernel
theorem dJ9_max_7cf53_2 : decode cJ9_max_7cf53 2 = .ok (.if_icmp .lt 7, 3) := by decide +kernel
theorem dJ9_max_7cf53_5 : decode cJ9_max_7cf53 5 = .ok (.iload_n 0, 1) := by decide +kernel
theorem dJ9_max_7cf53_6 : decode cJ9_max_7cf53 6 = .ok (.goto 4, 3) := by decide +kernel
theorem dJ9_max_7cf53_9 : decode cJ9_max_7cf53 9 = .ok (.iload_n 1, 1) := by decide +kernel
theorem dJ9_max_7cf53_10 : decode cJ9_max_7cf53 10 = .ok (.ireturn, 1) := by decide +kernel
theorem dJ9_min_7cf53_0 : decode cJ9_min_7cf53 0 = .ok (.iload_n 0, 1) := by decide +kernel
theorem dJ9_min_7cf53_1 : decode cJ9_min_7cf53 1 = .ok (.iload_n 1, 1) := by decide +kernel
theorem dJ9_min_7cf53_2 : decode cJ9_min_7cf53 2 = .ok (.if_icmp .gt 7, 3) := by decide +kernel
theorem dJ9_min_7cf53_5 : decode cJ9_min_7cf53 5 = .ok (.iload_n 0, 1) := by decide +kernel
theorem dJ9_min_7cf53_6 : decode cJ9_min_7cf53 6 = .ok (.goto 4, 3) := by decide +kernel
theorem dJ9_min_7cf53_9 : decode cJ9_min_7cf53 9 = .ok (.iload_n 1, 1) := by decide +kernel
theorem dJ9_min_7cf53_10 : decode cJ9_min_7cf53 10 = .ok (.ireturn, 1) := by decide +kernel
theorem dJ0_length_8abf5_0 : decode cJ0_length_8abf5 0 = .ok (.aload_n 0, 1) := by decide +kernel
theorem dJ0_length_8abf5_1 : decode cJ0_length_8abf5 1 = .ok (.getfield 9, 3) := by decide +kernel
theorem dJ0_length_8abf5_4 : decode cJ0_length_8abf5 4 = .ok (.arraylength, 1) := by decide +kernel
theorem dJ0_length_8abf5_5 : decode cJ0_length_8abf5 5 = .ok (.aload_n 0, 1) := by decide +kernel
theorem dJ0_length_8abf5_6 : decode cJ0_length_8abf5 6 = .ok (.invokevirtual 335, 3) := by decide +kernel
theorem dJ0_length_8abf5_9 : decode cJ0_length_8abf5 9 = .ok (.ishr, 1) := by decide +kernel
theorem dJ0_length_8abf5_10 : decode cJ0_length_8abf5 10 = .ok (.ireturn, 1) := by decide +kernel
theorem dJ0_charAt_5068e_0 : decode cJ0_charAt_5068e 0 = .ok (.aload_n 0, 1) := by decide +kernel
theorem dJ0_charAt_5068e_1 : decode cJ0_charAt_5068e 1 = .ok (.invokevirtual 492, 3) := by decide +kernel
theorem dJ0_charAt_5068e_4 : decode cJ0_charAt_5068e 4 = .ok (.ifCond .eq 12, 3) := by decide +kernel
theorem dJ0_charAt_5068e_7 : decode cJ0_charAt_5068e 7 = .ok (.aload_n 0, 1) := by decide +kernel
theorem dJ0_charAt_5068e_8 : decode cJ0_charAt_5068e 8 = .ok (.getfield 9, 3) := by decide +kernel
theorem dJ0_charAt_5068e_11 : decode cJ0_charAt_5068e 11 = .ok (.iload_n 1, 1) := by decide +kernel
theorem dJ0_charAt_5068e_12 : decode cJ0_charAt_5068e 12 = .ok (.invokestatic 495, 3) := by decide +kernel
theorem dJ0_charAt_5068e_15 : decode cJ0_charAt_5068e 15 = .ok (.ireturn, 1) := by decide +kernel
theorem dJ0_charAt_5068e_16 : decode cJ0_charAt_5068e 16 = .ok (.aload_n 0, 1) := by decide +kernel
theorem dJ0_charAt_5068e_17 : decode cJ0_charAt_5068e 17 = .ok (.getfield 9, 3) := by decide +kernel
theorem dJ0_charAt_5068e_20 : decode cJ0_charAt_5068e 20 = .ok (.iload_n 1, 1) := by decide +kernel
theorem dJ0_charAt_5068e_21 : decode cJ0_charAt_5068e 21 = .ok (.invokestatic 498, 3) := by decide +kernel
theorem dJ0_charAt_5068e_24 : decode cJ0_charAt_5068e 24 = .ok (.ireturn, 1) := by decide +kernel
theorem dJ0_indexOf_0f7a4_0 : decode cJ0_indexOf_0f7a4 0 = .ok (.aload_n 0, 1) := by decide +kernel
theorem dJ0_indexOf_0f7a4_1 : decode cJ0_indexOf_0f7a4 1 = .ok (.iload_n 1, 1) := by decide +kernel
theorem dJ0_indexOf_0f7a4_2 : decode cJ0_indexOf_0f7a4 2 = .ok (.iconst 0, 1) := by decide +kernel
theorem dJ0_indexOf_0f7a4_3 : decode cJ0_indexOf_0f7a4 3 = .ok (.invokevirtual 633, 3) := by decide +kernel
theorem dJ0_indexOf_0f7a4_6 : decode cJ0_indexOf_0f7a4 6 = .ok (.ireturn, 1) := by decide +kernel
theorem dJ0_indexOf_7cf53_0 : decode cJ0_indexOf_7cf53 0 = .ok (.aload_n 0, 1) := by decide +kernel
theorem dJ0_indexOf_7cf53_1 : decode cJ0_indexOf_7cf53 1 = .ok (.invokevirtual 492, 3) := by decide +kernel
theorem dJ0_indexOf_7cf53_4 : decode cJ0_indexOf_7cf53 4 = .ok (.ifCond .eq 19, 3) := by decide +kernel
theorem dJ0_indexOf_7cf53_7 : decode cJ0_indexOf_7cf53 7 = .ok (.aload_n 0, 1) := by decide +kernel
theorem dJ0_indexOf_7cf53_8 : decode cJ0_indexOf_7cf53 8 = .ok (.getfield 9, 3) := by decide +kernel
theorem dJ0_indexOf_7cf53_11 : decode cJ0_indexOf_7cf53 11 = .ok (.iload_n 1, 1) := by decide +kernel
theorem dJ0_indexOf_7cf53_12 : decode cJ0_indexOf_7cf53 12 = .ok (.iload_n 2, 1) := by decide +kernel
theorem dJ0_indexOf_7cf53_13 : decode cJ0_indexOf_7cf53 13 = .ok (.aload_n 0, 1) := by decide +kernel
theorem dJ0_indexOf_7cf53_14 : decode cJ0_indexOf_7cf53 14 = .ok (.invokevirtual 505, 3) := by decide +kernel
theorem dJ0_indexOf_7cf53_17 : decode cJ0_indexOf_7cf53 17 = .ok (.invokestatic 637, 3) := by decide +kernel
theorem dJ0_indexOf_7cf53_20 : decode cJ0_indexOf_7cf53 20 = .ok (.goto 16, 3) := by decide +kernel
theorem dJ0_indexOf_7cf53_23 : decode cJ0_indexOf_7cf53 23 = .ok (.aload_n 0, 1) := by decide +kernel
theorem dJ0_indexOf_7cf53_24 : decode cJ0_indexOf_7cf53 24 = .ok (.getfield 9, 3) := by decide +kernel
theorem dJ0_indexOf_7cf53_27 : decode cJ0_indexOf_7cf53 27 = .ok (.iload_n 1, 1) := by decide +kernel
theorem dJ0_indexOf_7cf53_28 : decode cJ0_indexOf_7cf53 28 = .ok (.iload_n 2, 1) := by decide +kernel
theorem dJ0_indexOf_7cf53_29 : decode cJ0_indexOf_7cf53 29 = .ok (.aload_n 0, 1) := by decide +kernel
theorem dJ0_indexOf_7cf53_30 : decode cJ0_indexOf_7cf53 30 = .ok (.invokevirtual 505, 3) := by decide +kernel
theorem dJ0_indexOf_7cf53_33 : decode cJ0_indexOf_7cf53 33 = .ok (.invokestatic 640, 3) := by decide +kernel
theorem dJ0_indexOf_7cf53_36 : decode cJ0_indexOf_7cf53 36 = .ok (.ireturn, 1) := by decide +kernel
theorem dJ0_coder_7d493_0 : decode cJ0_coder_7d493 0 = .ok (.getstatic 38, 3) := by decide +kernel
theorem dJ0_coder_7d493_3 : decode cJ0_coder_7d493 3 = .ok (.ifCond .eq 10, 3) := by decide +kernel
theorem dJ0_coder_7d493_6 : decode cJ0_coder_7d493 6 = .ok (.aload_n 0, 1) := by decide +kernel
theorem dJ0_coder_7d493_7 : decode cJ0_coder_7d493 7 = .ok (.getfield 15, 3) := by decide +kernel
theorem dJ0_coder_7d493_10 : decode cJ0_coder_7d493 10 = .ok (.goto 4, 3) := by decide +kernel
theorem dJ0_coder_7d493_13 : decode cJ0_coder_7d493 13 = .ok (.iconst 1, 1) := by decide +kernel
theorem dJ0_coder_7d493_14 : decode cJ0_coder_7d493 14 = .ok (.ireturn, 1) := by decide +kernel
theorem dJ0_isLatin1_aae02_0 : decode cJ0_isLatin1_aae02 0 = .ok (.getstatic 38, 3) := by decide +kernel
theorem dJ0_isLatin1_aae02_3 : decode cJ0_isLatin1_aae02 3 = .ok (.ifCond .eq 14, 3) := by decide +kernel
theorem dJ0_isLatin1_aae02_6 : decode cJ0_isLatin1_aae02 6 = .ok (.aload_n 0, 1) := by decide +kernel
theorem dJ0_isLatin1_aae02_7 : decode cJ0_isLatin1_aae02 7 = .ok (.getfield 15, 3) := by decide +kernel
theorem dJ0_isLatin1_aae02_10 : decode cJ0_isLatin1_aae02 10 = .ok (.ifCond .ne 7, 3) := by decide +kernel
theorem dJ0_isLatin1_aae02_13 : decode cJ0_isLatin1_aae02 13 = .ok (.iconst 1, 1) := by decide +kernel
theorem dJ0_isLatin1_aae02_14 : decode cJ0_isLatin1_aae02 14 = .ok (.goto 4, 3) := by decide +kernel
theorem dJ0_isLatin1_aae02_17 : decode cJ0_isLatin1_aae02 17 = .ok (.iconst 0, 1) := by decide +kernel
theorem dJ0_isLatin1_aae02_18 : decode cJ0_isLatin1_aae02 18 = .ok (.ireturn, 1) := by decide +kernel
theorem dJ0_checkIndex_df160_0 : decode cJ0_checkIndex_df160 0 = .ok (.iload_n 0, 1) := by decide +kernel
theorem dJ0_checkIndex_df160_1 : decode cJ0_checkIndex_df160 1 = .ok (.iload_n 1, 1) := by decide +kernel
theorem dJ0_checkIndex_df160_2 : decode cJ0_checkIndex_df160 2 = .ok (.getstatic 1053, 3) := by decide +kernel
theorem dJ0_checkIndex_df160_5 : decode cJ0_checkIndex_df160 5 = .ok (.invokestatic 1059, 3) := by decide +kernel
theorem dJ0_checkIndex_df160_8 : decode cJ0_checkIndex_df160 8 = .ok (.pop, 1) := by decide +kernel
theorem dJ0_checkIndex_df160_9 : decode cJ0_checkIndex_df160 9 = .ok (.return_, 1) := by decide +kernel
theorem dJ0_checkBoundsBeginEnd_23922_0 : decode cJ0_checkBoundsBeginEnd_23922 0 = .ok (.iload_n 0, 1) := by decide +kernel
theorem dJ0_checkBoundsBeginEnd_23922_1 : decode cJ0_checkBoundsBeginEnd_23922 1 = .ok (.iload_n 1, 1) := by decide +kernel
theorem dJ0_checkBoundsBeginEnd_23922_2 : decode cJ0_checkBoundsBeginEnd_23922 2 = .ok (.iload_n 2, 1) := by decide +kernel
theorem dJ0_checkBoundsBeginEnd_23922_3 : decode cJ0_checkBoundsBeginEnd_23922 3 = .ok (.getstatic 1053, 3) := by decide +kernel
theorem dJ0_checkBoundsBeginEnd_23922_6 : decode cJ0_checkBoundsBeginEnd_23922 6 = .ok (.invokestatic 1062, 3) := by decide +kernel
theorem dJ0_checkBoundsBeginEnd_23922_9 : decode cJ0_checkBoundsBeginEnd_23922 9 = .ok (.pop, 1) := by decide +kernel
theorem dJ0_checkBoundsBeginEnd_23922_10 : decode cJ0_checkBoundsBeginEnd_23922 10 = .ok (.return_, 1) := by decide +kernel
theorem dJ1_charAt_3b067_0 : decode cJ1_charAt_3b067 0 = .ok (.iload_n 1, 1) := by decide +kernel
theorem dJ1_charAt_3b067_1 : decode cJ1_charAt_3b067 1 = .ok (.aload_n 0, 1) := by decide +kernel
theorem dJ1_charAt_3b067_2 : decode cJ1_charAt_3b067 2 = .ok (.arraylength, 1) := by decide +kernel
theorem dJ1_charAt_3b067_3 : decode cJ1_charAt_3b067 3 = .ok (.invokestatic 9, 3) := by decide +kernel
theorem dJ1_charAt_3b067_6 : decode cJ1_charAt_3b067 6 = .ok (.aload_n 0, 1) := by decide +kernel
theorem dJ1_charAt_3b067_7 : decode cJ1_charAt_3b067 7 = .ok (.iload_n 1, 1) := by decide +kernel
theorem dJ1_charAt_3b067_8 : decode cJ1_charAt_3b067 8 = .ok (.baload, 1) := by decide +kernel
theorem dJ1_charAt_3b067_9 : decode cJ1_charAt_3b067 9 = .ok (.sipush 255, 3) := by decide +kernel
theorem dJ1_charAt_3b067_12 : decode cJ1_charAt_3b067 12 = .ok (.iand, 1) := by decide +kernel
theorem dJ1_charAt_3b067_13 : decode cJ1_charAt_3b067 13 = .ok (.i2c, 1) := by decide +kernel
theorem dJ1_charAt_3b067_14 : decode cJ1_charAt_3b067 14 = .ok (.ireturn, 1) := by decide +kernel
theorem dJ1_canEncode_9a6ad_0 : decode cJ1_canEncode_9a6ad 0 = .ok (.iload_n 0, 1) := by decide +kernel
theorem dJ1_canEncode_9a6ad_1 : decode cJ1_canEncode_9a6ad 1 = .ok (.ifCond .lt 14, 3) := by decide +kernel
theorem dJ1_canEncode_9a6ad_4 : decode cJ1_canEncode_9a6ad 4 = .ok (.iload_n 0, 1) := by decide +kernel
theorem dJ1_canEncode_9a6ad_5 : decode cJ1_canEncode_9a6ad 5 = .ok (.sipush 255, 3) := by decide +kernel
theorem dJ1_canEncode_9a6ad_8 : decode cJ1_canEncode_9a6ad 8 = .ok (.if_icmp .gt 7, 3) := by decide +kernel
theorem dJ1_canEncode_9a6ad_11 : decode cJ1_canEncode_9a6ad 11 = .ok (.iconst 1, 1) := by decide +kernel
theorem dJ1_canEncode_9a6ad_12 : decode cJ1_canEncode_9a6ad 12 = .ok (.goto 4, 3) := by decide +kernel
theorem dJ1_canEncode_9a6ad_15 : decode cJ1_canEncode_9a6ad 15 = .ok (.iconst 0, 1) := by decide +kernel
theorem dJ1_canEncode_9a6ad_16 : decode cJ1_canEncode_9a6ad 16 = .ok (.ireturn, 1) := by decide +kernel
theorem dJ1_indexOf_4cfef_0 : decode cJ1_indexOf_4cfef 0 = .ok (.iload_n 1, 1) := by decide +kernel
theorem dJ1_indexOf_4cfef_1 : decode cJ1_indexOf_4cfef 1 = .ok (.invokestatic 88, 3) := by decide +kernel
theorem dJ1_indexOf_4cfef_4 : decode cJ1_indexOf_4cfef 4 = .ok (.ifCond .ne 5, 3) := by decide +kernel
theorem dJ1_indexOf_4cfef_7 : decode cJ1_indexOf_4cfef 7 = .ok (.iconst (-1), 1) := by decide +kernel
theorem dJ1_indexOf_4cfef_8 : decode cJ1_indexOf_4cfef 8 = .ok (.ireturn, 1) := by decide +kernel
theorem dJ1_indexOf_4cfef_9 : decode cJ1_indexOf_4cfef 9 = .ok (.iload_n 2, 1) := by decide +kernel
theorem dJ1_indexOf_4cfef_10 : decode cJ1_indexOf_4cfef 10 = .ok (.iconst 0, 1) := by decide +kernel
theorem dJ1_indexOf_4cfef_11 : decode cJ1_indexOf_4cfef 11 = .ok (.invokestatic 92, 3) := by decide +kernel
theorem dJ1_indexOf_4cfef_14 : decode cJ1_indexOf_4cfef 14 = .ok (.istore_n 2, 1) := by decide +kernel
theorem dJ1_indexOf_4cfef_15 : decode cJ1_indexOf_4cfef 15 = .ok (.iload_n 3, 1) := by decide +kernel
theorem dJ1_indexOf_4cfef_16 : decode cJ1_indexOf_4cfef 16 = .ok (.aload_n 0, 1) := by decide +kernel
theorem dJ1_indexOf_4cfef_17 : decode cJ1_indexOf_4cfef 17 = .ok (.arraylength, 1) := by decide +kernel
theorem dJ1_indexOf_4cfef_18 : decode cJ1_indexOf_4cfef 18 = .ok (.invokestatic 38, 3) := by decide +kernel
theorem dJ1_indexOf_4cfef_21 : decode cJ1_indexOf_4cfef 21 = .ok (.istore_n 3, 1) := by decide +kernel
theorem dJ1_indexOf_4cfef_22 : decode cJ1_indexOf_4cfef 22 = .ok (.iload_n 2, 1) := by decide +kernel
theorem dJ1_indexOf_4cfef_23 : decode cJ1_indexOf_4cfef 23 = .ok (.iload_n 3, 1) := by decide +kernel
theorem dJ1_indexOf_4cfef_24 : decode cJ1_indexOf_4cfef 24 = .ok (.if_icmp .lt 5, 3) := by decide +kernel
theorem dJ1_indexOf_4cfef_27 : decode cJ1_indexOf_4cfef 27 = .ok (.iconst (-1), 1) := by decide +kernel
theorem dJ1_indexOf_4cfef_28 : decode cJ1_indexOf_4cfef 28 = .ok (.ireturn, 1) := by decide +kernel
theorem dJ1_indexOf_4cfef_29 : decode cJ1_indexOf_4cfef 29 = .ok (.aload_n 0, 1) := by decide +kernel
theorem dJ1_indexOf_4cfef_30 : decode cJ1_indexOf_4cfef 30 = .ok (.iload_n 1, 1) := by decide +kernel
theorem dJ1_indexOf_4cfef_31 : decode cJ1_indexOf_4cfef 31 = .ok (.iload_n 2, 1) := by decide +kernel
theorem dJ1_indexOf_4cfef_32 : decode cJ1_indexOf_4cfef 32 = .ok (.iload_n 3, 1) := by decide +kernel
theorem dJ1_indexOf_4cfef_33 : decode cJ1_indexOf_4cfef 33 = .ok (.invokestatic 95, 3) := by decide +kernel
theorem dJ1_indexOf_4cfef_36 : decode cJ1_indexOf_4cfef 36 = .ok (.ireturn, 1) := by decide +kernel
theorem dJ1_indexOfChar_4cfef_0 : decode cJ1_indexOfChar_4cfef 0 = .ok (.iload_n 1, 1) := by decide +kernel
theorem dJ1_indexOfChar_4cfef_1 : decode cJ1_indexOfChar_4cfef 1 = .ok (.i2b, 1) := by decide +kernel
theorem dJ1_indexOfChar_4cfef_2 : decode cJ1_indexOfChar_4cfef 2 = .ok (.istore 4, 2) := by decide +kernel
theorem dJ1_indexOfChar_4cfef_4 : decode cJ1_indexOfChar_4cfef 4 = .ok (.iload_n 2, 1) := by decide +kernel
theorem dJ1_indexOfChar_4cfef_5 : decode cJ1_indexOfChar_4cfef 5 = .ok (.istore 5, 2) := by decide +kernel
theorem dJ1_indexOfChar_4cfef_7 : decode cJ1_indexOfChar_4cfef 7 = .ok (.iload 5, 2) := by decide +kernel
theorem dJ1_indexOfChar_4cfef_9 : decode cJ1_indexOfChar_4cfef 9 = .ok (.iload_n 3, 1) := by decide +kernel
theorem dJ1_indexOfChar_4cfef_10 : decode cJ1_indexOfChar_4cfef 10 = .ok (.if_icmp .ge 21, 3) := by decide +kernel
theorem dJ1_indexOfChar_4cfef_13 : decode cJ1_indexOfChar_4cfef 13 = .ok (.aload_n 0, 1) := by decide +kernel
theorem dJ1_indexOfChar_4cfef_14 : decode cJ1_indexOfChar_4cfef 14 = .ok (.iload 5, 2) := by decide +kernel
theorem dJ1_indexOfChar_4cfef_16 : decode cJ1_indexOfChar_4cfef 16 = .ok (.baload, 1) := by decide +kernel
theorem dJ1_indexOfChar_4cfef_17 : decode cJ1_indexOfChar_4cfef 17 = .ok (.iload 4, 2) := by decide +kernel
theorem dJ1_indexOfChar_4cfef_19 : decode cJ1_indexOfChar_4cfef 19 = .ok (.if_icmp .ne 6, 3) := by decide +kernel
theorem dJ1_indexOfChar_4cfef_22 : decode cJ1_indexOfChar_4cfef 22 = .ok (.iload 5, 2) := by decide +kernel
theorem dJ1_indexOfChar_4cfef_24 : decode cJ1_indexOfChar_4cfef 24 = .ok (.ireturn, 1) := by decide +kernel
theorem dJ1_indexOfChar_4cfef_25 : decode cJ1_indexOfChar_4cfef 25 = .ok (.iinc 5 1, 3) := by decide +kernel
theorem dJ1_indexOfChar_4cfef_28 : decode cJ1_indexOfChar_4cfef 28 = .ok (.goto (-21), 3) := by decide +kernel
theorem dJ1_indexOfChar_4cfef_31 : decode cJ1_indexOfChar_4cfef 31 = .ok (.iconst (-1), 1) := by decide +kernel
theorem dJ1_indexOfChar_4cfef_32 : decode cJ1_indexOfChar_4cfef 32 = .ok (.ireturn, 1) := by decide +kernel
theorem dJ2_getChar_3b067_0 : decode cJ2_getChar_3b067 0 = .ok (.getstatic 44, 3) := by decide +kernel
theorem dJ2_getChar_3b067_3 : decode cJ2_getChar_3b067 3 = .ok (.ifCond .ne 25, 3) := by decide +kernel
theorem dJ2_getChar_3b067_6 : decode cJ2_getChar_3b067 6 = .ok (.iload_n 1, 1) := by decide +kernel
theorem dJ2_getChar_3b067_7 : decode cJ2_getChar_3b067 7 = .ok (.ifCond .lt 11, 3) := by decide +kernel
theorem dJ2_getChar_3b067_10 : decode cJ2_getChar_3b067 10 = .ok (.iload_n 1, 1) := by decide +kernel
theorem dJ2_getChar_3b067_11 : decode cJ2_getChar_3b067 11 = .ok (.aload_n 0, 1) := by decide +kernel
theorem dJ2_getChar_3b067_12 : decode cJ2_getChar_3b067 12 = .ok (.invokestatic 48, 3) := by decide +kernel
theorem dJ2_getChar_3b067_15 : decode cJ2_getChar_3b067 15 = .ok (.if_icmp .lt 13, 3) := by decide +kernel
theorem dJ2_getChar_3b067_18 : decode cJ2_getChar_3b067 18 = .ok (.new 52, 3) := by decide +kernel
theorem dJ2_getChar_3b067_21 : decode cJ2_getChar_3b067 21 = .ok (.dup, 1) := by decide +kernel
theorem dJ2_getChar_3b067_22 : decode cJ2_getChar_3b067 22 = .ok (.ldc 54, 2) := by decide +kernel
theorem dJ2_getChar_3b067_24 : decode cJ2_getChar_3b067 24 = .ok (.invokespecial 56, 3) := by decide +kernel
theorem dJ2_getChar_3b067_27 : decode cJ2_getChar_3b067 27 = .ok (.athrow, 1) := by decide +kernel
theorem dJ2_getChar_3b067_28 : decode cJ2_getChar_3b067 28 = .ok (.iload_n 1, 1) := by decide +kernel
theorem dJ2_getChar_3b067_29 : decode cJ2_getChar_3b067 29 = .ok (.iconst 1, 1) := by decide +kernel
theorem dJ2_getChar_3b067_30 : decode cJ2_getChar_3b067 30 = .ok (.ishl, 1) := by decide +kernel
theorem dJ2_getChar_3b067_31 : decode cJ2_getChar_3b067 31 = .ok (.istore_n 1, 1) := by decide +kernel
theorem dJ2_getChar_3b067_32 : decode cJ2_getChar_3b067 32 = .ok (.aload_n 0, 1) := by decide +kernel
theorem dJ2_getChar_3b067_33 : decode cJ2_getChar_3b067 33 = .ok (.iload_n 1, 1) := by decide +kernel
theorem dJ2_getChar_3b067_34 : decode cJ2_getChar_3b067 34 = .ok (.iinc 1 1, 3) := by decide +kernel
theorem dJ2_getChar_3b067_37 : decode cJ2_getChar_3b067 37 = .ok (.baload, 1) := by decide +kernel
theorem dJ2_getChar_3b067_38 : decode cJ2_getChar_3b067 38 = .ok (.sipush 255, 3) := by decide +kernel
theorem dJ2_getChar_3b067_41 : decode cJ2_getChar_3b067 41 = .ok (.iand, 1) := by decide +kernel
theorem dJ2_getChar_3b067_42 : decode cJ2_getChar_3b067 42 = .ok (.getstatic 59, 3) := by decide +kernel
theorem dJ2_getChar_3b067_45 : decode cJ2_getChar_3b067 45 = .ok (.ishl, 1) := by decide +kernel
theorem dJ2_getChar_3b067_46 : decode cJ2_getChar_3b067 46 = .ok (.aload_n 0, 1) := by decide +kernel
theorem dJ2_getChar_3b067_47 : decode cJ2_getChar_3b067 47 = .ok (.iload_n 1, 1) := by decide +kernel
theorem dJ2_getChar_3b067_48 : decode cJ2_getChar_3b067 48 = .ok (.baload, 1) := by decide +kernel
theorem dJ2_getChar_3b067_49 : decode cJ2_getChar_3b067 49 = .ok (.sipush 255, 3) := by decide +kernel
theorem dJ2_getChar_3b067_52 : decode cJ2_getChar_3b067 52 = .ok (.iand, 1) := by decide +kernel
theorem dJ2_getChar_3b067_53 : decode cJ2_getChar_3b067 53 = .ok (.getstatic 63, 3) := by decide +kernel
theorem dJ2_getChar_3b067_56 : decode cJ2_getChar_3b067 56 = .ok (.ishl, 1) := by decide +kernel
theorem dJ2_getChar_3b067_57 : decode cJ2_getChar_3b067 57 = .ok (.ior, 1) := by decide +kernel
theorem dJ2_getChar_3b067_58 : decode cJ2_getChar_3b067 58 = .ok (.i2c, 1) := by decide +kernel
theorem dJ2_getChar_3b067_59 : decode cJ2_getChar_3b067 59 = .ok (.ireturn, 1) := by decide +kernel
theorem dJ2_length_9d52b_0 : decode cJ2_length_9d52b 0 = .ok (.aload_n 0, 1) := by decide +kernel
theorem dJ2_length_9d52b_1 : decode cJ2_length_9d52b 1 = .ok (.arraylength, 1) := by decide +kernel
theorem dJ2_length_9d52b_2 : decode cJ2_length_9d52b 2 = .ok (.iconst 1, 1) := by decide +kernel
theorem dJ2_length_9d52b_3 : decode cJ2_length_9d52b 3 = .ok (.ishr, 1) := by decide +kernel
theorem dJ2_length_9d52b_4 : decode cJ2_length_9d52b 4 = .ok (.ireturn, 1) := by decide +kernel
theorem dJ2_indexOf_4cfef_0 : decode cJ2_indexOf_4cfef 0 = .ok (.iload_n 2, 1) := by decide +kernel
theorem dJ2_indexOf_4cfef_1 : decode cJ2_indexOf_4cfef 1 = .ok (.iconst 0, 1) := by decide +kernel
theorem dJ2_indexOf_4cfef_2 : decode cJ2_indexOf_4cfef 2 = .ok (.invokestatic 224, 3) := by decide +kernel
theorem dJ2_indexOf_4cfef_5 : decode cJ2_indexOf_4cfef 5 = .ok (.istore_n 2, 1) := by decide +kernel
theorem dJ2_indexOf_4cfef_6 : decode cJ2_indexOf_4cfef 6 = .ok (.iload_n 3, 1) := by decide +kernel
theorem dJ2_indexOf_4cfef_7 : decode cJ2_indexOf_4cfef 7 = .ok (.aload_n 0, 1) := by decide +kernel
theorem dJ2_indexOf_4cfef_8 : decode cJ2_indexOf_4cfef 8 = .ok (.arraylength, 1) := by decide +kernel
theorem dJ2_indexOf_4cfef_9 : decode cJ2_indexOf_4cfef 9 = .ok (.iconst 1, 1) := by decide +kernel
theorem dJ2_indexOf_4cfef_10 : decode cJ2_indexOf_4cfef 10 = .ok (.ishr, 1) := by decide +kernel
theorem dJ2_indexOf_4cfef_11 : decode cJ2_indexOf_4cfef 11 = .ok (.invokestatic 183, 3) := by decide +kernel
theorem dJ2_indexOf_4cfef_14 : decode cJ2_indexOf_4cfef 14 = .ok (.istore_n 3, 1) := by decide +kernel
theorem dJ2_indexOf_4cfef_15 : decode cJ2_indexOf_4cfef 15 = .ok (.iload_n 2, 1) := by decide +kernel
theorem dJ2_indexOf_4cfef_16 : decode cJ2_indexOf_4cfef 16 = .ok (.iload_n 3, 1) := by decide +kernel
theorem dJ2_indexOf_4cfef_17 : decode cJ2_indexOf_4cfef 17 = .ok (.if_icmp .lt 5, 3) := by decide +kernel
theorem dJ2_indexOf_4cfef_20 : decode cJ2_indexOf_4cfef 20 = .ok (.iconst (-1), 1) := by decide +kernel
theorem dJ2_indexOf_4cfef_21 : decode cJ2_indexOf_4cfef 21 = .ok (.ireturn, 1) := by decide +kernel
theorem dJ2_indexOf_4cfef_22 : decode cJ2_indexOf_4cfef 22 = .ok (.iload_n 1, 1) := by decide +kernel
theorem dJ2_indexOf_4cfef_23 : decode cJ2_indexOf_4cfef 23 = .ok (.ldc 227, 2) := by decide +kernel
theorem dJ2_indexOf_4cfef_25 : decode cJ2_indexOf_4cfef 25 = .ok (.if_icmp .ge 11, 3) := by decide +kernel
theorem dJ2_indexOf_4cfef_28 : decode cJ2_indexOf_4cfef 28 = .ok (.aload_n 0, 1) := by decide +kernel
theorem dJ2_indexOf_4cfef_29 : decode cJ2_indexOf_4cfef 29 = .ok (.iload_n 1, 1) := by decide +kernel
theorem dJ2_indexOf_4cfef_30 : decode cJ2_indexOf_4cfef 30 = .ok (.iload_n 2, 1) := by decide +kernel
theorem dJ2_indexOf_4cfef_31 : decode cJ2_indexOf_4cfef 31 = .ok (.iload_n 3, 1) := by decide +kernel
theorem dJ2_indexOf_4cfef_32 : decode cJ2_indexOf_4cfef 32 = .ok (.invokestatic 228, 3) := by decide +kernel
theorem dJ2_indexOf_4cfef_35 : decode cJ2_indexOf_4cfef 35 = .ok (.ireturn, 1) := by decide +kernel
theorem dJ2_indexOf_4cfef_36 : decode cJ2_indexOf_4cfef 36 = .ok (.aload_n 0, 1) := by decide +kernel
theorem dJ2_indexOf_4cfef_37 : decode cJ2_indexOf_4cfef 37 = .ok (.iload_n 1, 1) := by decide +kernel
theorem dJ2_indexOf_4cfef_38 : decode cJ2_indexOf_4cfef 38 = .ok (.iload_n 2, 1) := by decide +kernel
theorem dJ2_indexOf_4cfef_39 : decode cJ2_indexOf_4cfef 39 = .ok (.iload_n 3, 1) := by decide +kernel
theorem dJ2_indexOf_4cfef_40 : decode cJ2_indexOf_4cfef 40 = .ok (.invokestatic 232, 3) := by decide +kernel
theorem dJ2_indexOf_4cfef_43 : decode cJ2_indexOf_4cfef 43 = .ok (.ireturn, 1) := by decide +kernel
theorem dJ2_indexOfChar_4cfef_0 : decode cJ2_indexOfChar_4cfef 0 = .ok (.iload_n 2, 1) := by decide +kernel
theorem dJ2_indexOfChar_4cfef_1 : decode cJ2_indexOfChar_4cfef 1 = .ok (.iload_n 3, 1) := by decide +kernel
theorem dJ2_indexOfChar_4cfef_2 : decode cJ2_indexOfChar_4cfef 2 = .ok (.aload_n 0, 1) := by decide +kernel
theorem dJ2_indexOfChar_4cfef_3 : decode cJ2_indexOfChar_4cfef 3 = .ok (.invokestatic 96, 3) := by decide +kernel
theorem dJ2_indexOfChar_4cfef_6 : decode cJ2_indexOfChar_4cfef 6 = .ok (.aload_n 0, 1) := by decide +kernel
theorem dJ2_indexOfChar_4cfef_7 : decode cJ2_indexOfChar_4cfef 7 = .ok (.iload_n 1, 1) := by decide +kernel
theorem dJ2_indexOfChar_4cfef_8 : decode cJ2_indexOfChar_4cfef 8 = .ok (.iload_n 2, 1) := by decide +kernel
theorem dJ2_indexOfChar_4cfef_9 : decode cJ2_indexOfChar_4cfef 9 = .ok (.iload_n 3, 1) := by decide +kernel
theorem dJ2_indexOfChar_4cfef_10 : decode cJ2_indexOfChar_4cfef 10 = .ok (.invokestatic 244, 3) := by decide +kernel
theorem dJ2_indexOfChar_4cfef_13 : decode cJ2_indexOfChar_4cfef 13 = .ok (.ireturn, 1) := by decide +kernel
theorem dJ2_indexOfCharUnsafe_4cfef_0 : decode cJ2_indexOfCharUnsafe_4cfef 0 = .ok (.iload_n 2, 1) := by decide +kernel
theorem dJ2_indexOfCharUnsafe_4cfef_1 : decode cJ2_indexOfCharUnsafe_4cfef 1 = .ok (.istore 4, 2) := by decide +kernel
theorem dJ2_indexOfCharUnsafe_4cfef_3 : decode cJ2_indexOfCharUnsafe_4cfef 3 = .ok (.iload 4, 2) := by decide +kernel
theorem dJ2_indexOfCharUnsafe_4cfef_5 : decode cJ2_indexOfCharUnsafe_4cfef 5 = .ok (.iload_n 3, 1) := by decide +kernel
theorem dJ2_indexOfCharUnsafe_4cfef_6 : decode cJ2_indexOfCharUnsafe_4cfef 6 = .ok (.if_icmp .ge 22, 3) := by decide +kernel
theorem dJ2_indexOfCharUnsafe_4cfef_9 : decode cJ2_indexOfCharUnsafe_4cfef 9 = .ok (.aload_n 0, 1) := by decide +kernel
theorem dJ2_indexOfCharUnsafe_4cfef_10 : decode cJ2_indexOfCharUnsafe_4cfef 10 = .ok (.iload 4, 2) := by decide +kernel
theorem dJ2_indexOfCharUnsafe_4cfef_12 : decode cJ2_indexOfCharUnsafe_4cfef 12 = .ok (.invokestatic 71, 3) := by decide +kernel
theorem dJ2_indexOfCharUnsafe_4cfef_15 : decode cJ2_indexOfCharUnsafe_4cfef 15 = .ok (.iload_n 1, 1) := by decide +kernel
theorem dJ2_indexOfCharUnsafe_4cfef_16 : decode cJ2_indexOfCharUnsafe_4cfef 16 = .ok (.if_icmp .ne 6, 3) := by decide +kernel
theorem dJ2_indexOfCharUnsafe_4cfef_19 : decode cJ2_indexOfCharUnsafe_4cfef 19 = .ok (.iload 4, 2) := by decide +kernel
theorem dJ2_indexOfCharUnsafe_4cfef_21 : decode cJ2_indexOfCharUnsafe_4cfef 21 = .ok (.ireturn, 1) := by decide +kernel
theorem dJ2_indexOfCharUnsafe_4cfef_22 : decode cJ2_indexOfCharUnsafe_4cfef 22 = .ok (.iinc 4 1, 3) := by decide +kernel
theorem dJ2_indexOfCharUnsafe_4cfef_25 : decode cJ2_indexOfCharUnsafe_4cfef 25 = .ok (.goto (-22), 3) := by decide +kernel
theorem dJ2_indexOfCharUnsafe_4cfef_28 : decode cJ2_indexOfCharUnsafe_4cfef 28 = .ok (.iconst (-1), 1) := by decide +kernel
theorem dJ2_indexOfCharUnsafe_4cfef_29 : decode cJ2_indexOfCharUnsafe_4cfef 29 = .ok (.ireturn, 1) := by decide +kernel
theorem dJ2_indexOfSupplementary_4cfef_0 : decode cJ2_indexOfSupplementary_4cfef 0 = .ok (.iload_n 1, 1) := by decide +kernel
theorem dJ2_indexOfSupplementary_4cfef_1 : decode cJ2_indexOfSupplementary_4cfef 1 = .ok (.invokestatic 164, 3) := by decide +kernel
theorem dJ2_indexOfSupplementary_4cfef_4 : decode cJ2_indexOfSupplementary_4cfef 4 = .ok (.ifCond .eq 65, 3) := by decide +kernel
theorem dJ2_indexOfSupplementary_4cfef_7 : decode cJ2_indexOfSupplementary_4cfef 7 = .ok (.iload_n 1, 1) := by decide +kernel
theorem dJ2_indexOfSupplementary_4cfef_8 : decode cJ2_indexOfSupplementary_4cfef 8 = .ok (.invokestatic 157, 3) := by decide +kernel
theorem dJ2_indexOfSupplementary_4cfef_11 : decode cJ2_indexOfSupplementary_4cfef 11 = .ok (.istore 4, 2) := by decide +kernel
theorem dJ2_indexOfSupplementary_4cfef_13 : decode cJ2_indexOfSupplementary_4cfef 13 = .ok (.iload_n 1, 1) := by decide +kernel
theorem dJ2_indexOfSupplementary_4cfef_14 : decode cJ2_indexOfSupplementary_4cfef 14 = .ok (.invokestatic 161, 3) := by decide +kernel
theorem dJ2_indexOfSupplementary_4cfef_17 : decode cJ2_indexOfSupplementary_4cfef 17 = .ok (.istore 5, 2) := by decide +kernel
theorem dJ2_indexOfSupplementary_4cfef_19 : decode cJ2_indexOfSupplementary_4cfef 19 = .ok (.iload_n 2, 1) := by decide +kernel
theorem dJ2_indexOfSupplementary_4cfef_20 : decode cJ2_indexOfSupplementary_4cfef 20 = .ok (.iload_n 3, 1) := by decide +kernel
theorem dJ2_indexOfSupplementary_4cfef_21 : decode cJ2_indexOfSupplementary_4cfef 21 = .ok (.aload_n 0, 1) := by decide +kernel
theorem dJ2_indexOfSupplementary_4cfef_22 : decode cJ2_indexOfSupplementary_4cfef 22 = .ok (.invokestatic 96, 3) := by decide +kernel
theorem dJ2_indexOfSupplementary_4cfef_25 : decode cJ2_indexOfSupplementary_4cfef 25 = .ok (.iload_n 2, 1) := by decide +kernel
theorem dJ2_indexOfSupplementary_4cfef_26 : decode cJ2_indexOfSupplementary_4cfef 26 = .ok (.istore 6, 2) := by decide +kernel
theorem dJ2_indexOfSupplementary_4cfef_28 : decode cJ2_indexOfSupplementary_4cfef 28 = .ok (.iload 6, 2) := by decide +kernel
theorem dJ2_indexOfSupplementary_4cfef_30 : decode cJ2_indexOfSupplementary_4cfef 30 = .ok (.iload_n 3, 1) := by decide +kernel
theorem dJ2_indexOfSupplementary_4cfef_31 : decode cJ2_indexOfSupplementary_4cfef 31 = .ok (.iconst 1, 1) := by decide +kernel
theorem dJ2_indexOfSupplementary_4cfef_32 : decode cJ2_indexOfSupplementary_4cfef 32 = .ok (.isub, 1) := by decide +kernel
theorem dJ2_indexOfSupplementary_4cfef_33 : decode cJ2_indexOfSupplementary_4cfef 33 = .ok (.if_icmp .ge 36, 3) := by decide +kernel
theorem dJ2_indexOfSupplementary_4cfef_36 : decode cJ2_indexOfSupplementary_4cfef 36 = .ok (.aload_n 0, 1) := by decide +kernel
theorem dJ2_indexOfSupplementary_4cfef_37 : decode cJ2_indexOfSupplementary_4cfef 37 = .ok (.iload 6, 2) := by decide +kernel
theorem dJ2_indexOfSupplementary_4cfef_39 : decode cJ2_indexOfSupplementary_4cfef 39 = .ok (.invokestatic 71, 3) := by decide +kernel
theorem dJ2_indexOfSupplementary_4cfef_42 : decode cJ2_indexOfSupplementary_4cfef 42 = .ok (.iload 4, 2) := by decide +kernel
theorem dJ2_indexOfSupplementary_4cfef_44 : decode cJ2_indexOfSupplementary_4cfef 44 = .ok (.if_icmp .ne 19, 3) := by decide +kernel
theorem dJ2_indexOfSupplementary_4cfef_47 : decode cJ2_indexOfSupplementary_4cfef 47 = .ok (.aload_n 0, 1) := by decide +kernel
theorem dJ2_indexOfSupplementary_4cfef_48 : decode cJ2_indexOfSupplementary_4cfef 48 = .ok (.iload 6, 2) := by decide +kernel
theorem dJ2_indexOfSupplementary_4cfef_50 : decode cJ2_indexOfSupplementary_4cfef 50 = .ok (.iconst 1, 1) := by decide +kernel
theorem dJ2_indexOfSupplementary_4cfef_51 : decode cJ2_indexOfSupplementary_4cfef 51 = .ok (.iadd, 1) := by decide +kernel
theorem dJ2_indexOfSupplementary_4cfef_52 : decode cJ2_indexOfSupplementary_4cfef 52 = .ok (.invokestatic 71, 3) := by decide +kernel
theorem dJ2_indexOfSupplementary_4cfef_55 : decode cJ2_indexOfSupplementary_4cfef 55 = .ok (.iload 5, 2) := by decide +kernel
theorem dJ2_indexOfSupplementary_4cfef_57 : decode cJ2_indexOfSupplementary_4cfef 57 = .ok (.if_icmp .ne 6, 3) := by decide +kernel
theorem dJ2_indexOfSupplementary_4cfef_60 : decode cJ2_indexOfSupplementary_4cfef 60 = .ok (.iload 6, 2) := by decide +kernel
theorem dJ2_indexOfSupplementary_4cfef_62 : decode cJ2_indexOfSupplementary_4cfef 62 = .ok (.ireturn, 1) := by decide +kernel
theorem dJ2_indexOfSupplementary_4cfef_63 : decode cJ2_indexOfSupplementary_4cfef 63 = .ok (.iinc 6 1, 3) := by decide +kernel
theorem dJ2_indexOfSupplementary_4cfef_66 : decode cJ2_indexOfSupplementary_4cfef 66 = .ok (.goto (-38), 3) := by decide +kernel
theorem dJ2_indexOfSupplementary_4cfef_69 : decode cJ2_indexOfSupplementary_4cfef 69 = .ok (.iconst (-1), 1) := by decide +kernel
theorem dJ2_indexOfSupplementary_4cfef_70 : decode cJ2_indexOfSupplementary_4cfef 70 = .ok (.ireturn, 1) := by decide +kernel
theorem dJ2_charAt_3b067_0 : decode cJ2_charAt_3b067 0 = .ok (.iload_n 1, 1) := by decide +kernel
theorem dJ2_charAt_3b067_1 : decode cJ2_charAt_3b067 1 = .ok (.aload_n 0, 1) := by decide +kernel
theorem dJ2_charAt_3b067_2 : decode cJ2_charAt_3b067 2 = .ok (.invokestatic 67, 3) := by decide +kernel
theorem dJ2_charAt_3b067_5 : decode cJ2_charAt_3b067 5 = .ok (.aload_n 0, 1) := by decide +kernel
theorem dJ2_charAt_3b067_6 : decode cJ2_charAt_3b067 6 = .ok (.iload_n 1, 1) := by decide +kernel
theorem dJ2_charAt_3b067_7 : decode cJ2_charAt_3b067 7 = .ok (.invokestatic 71, 3) := by decide +kernel
theorem dJ2_charAt_3b067_10 : decode cJ2_charAt_3b067 10 = .ok (.ireturn, 1) := by decide +kernel
theorem dJ2_checkIndex_2214a_0 : decode cJ2_checkIndex_2214a 0 = .ok (.iload_n 0, 1) := by decide +kernel
theorem dJ2_checkIndex_2214a_1 : decode cJ2_checkIndex_2214a 1 = .ok (.aload_n 1, 1) := by decide +kernel
theorem dJ2_checkIndex_2214a_2 : decode cJ2_checkIndex_2214a 2 = .ok (.invokestatic 48, 3) := by decide +kernel
theorem dJ2_checkIndex_2214a_5 : decode cJ2_checkIndex_2214a 5 = .ok (.invokestatic 414, 3) := by decide +kernel
theorem dJ2_checkIndex_2214a_8 : decode cJ2_checkIndex_2214a 8 = .ok (.return_, 1) := by decide +kernel
theorem dJ2_checkBoundsBeginEnd_d044e_0 : decode cJ2_checkBoundsBeginEnd_d044e 0 = .ok (.iload_n 0, 1) := by decide +kernel
theorem dJ2_checkBoundsBeginEnd_d044e_1 : decode cJ2_checkBoundsBeginEnd_d044e 1 = .ok (.iload_n 1, 1) := by decide +kernel
theorem dJ2_checkBoundsBeginEnd_d044e_2 : decode cJ2_checkBoundsBeginEnd_d044e 2 = .ok (.aload_n 2, 1) := by decide +kernel
theorem dJ2_checkBoundsBeginEnd_d044e_3 : decode cJ2_checkBoundsBeginEnd_d044e 3 = .ok (.invokestatic 48, 3) := by decide +kernel
theorem dJ2_checkBoundsBeginEnd_d044e_6 : decode cJ2_checkBoundsBeginEnd_d044e 6 = .ok (.invokestatic 241, 3) := by decide +kernel
theorem dJ2_checkBoundsBeginEnd_d044e_9 : decode cJ2_checkBoundsBeginEnd_d044e 9 = .ok (.return_, 1) := by decide +kernel
theorem dJ3_checkIndex_8e157_0 : decode cJ3_checkIndex_8e157 0 = .ok (.iload_n 0, 1) := by decide +kernel
theorem dJ3_checkIndex_8e157_1 : decode cJ3_checkIndex_8e157 1 = .ok (.ifCond .lt 8, 3) := by decide +kernel
theorem dJ3_checkIndex_8e157_4 : decode cJ3_checkIndex_8e157 4 = .ok (.iload_n 0, 1) := by decide +kernel
theorem dJ3_checkIndex_8e157_5 : decode cJ3_checkIndex_8e157 5 = .ok (.iload_n 1, 1) := by decide +kernel
theorem dJ3_checkIndex_8e157_6 : decode cJ3_checkIndex_8e157 6 = .ok (.if_icmp .lt 10, 3) := by decide +kernel
theorem dJ3_checkIndex_8e157_9 : decode cJ3_checkIndex_8e157 9 = .ok (.aload_n 2, 1) := by decide +kernel
theorem dJ3_checkIndex_8e157_10 : decode cJ3_checkIndex_8e157 10 = .ok (.iload_n 0, 1) := by decide +kernel
theorem dJ3_checkIndex_8e157_11 : decode cJ3_checkIndex_8e157 11 = .ok (.iload_n 1, 1) := by decide +kernel
theorem dJ3_checkIndex_8e157_12 : decode cJ3_checkIndex_8e157 12 = .ok (.invokestatic 95, 3) := by decide +kernel
theorem dJ3_checkIndex_8e157_15 : decode cJ3_checkIndex_8e157 15 = .ok (.athrow, 1) := by decide +kernel
theorem dJ3_checkIndex_8e157_16 : decode cJ3_checkIndex_8e157 16 = .ok (.iload_n 0, 1) := by decide +kernel
theorem dJ3_checkIndex_8e157_17 : decode cJ3_checkIndex_8e157 17 = .ok (.ireturn, 1) := by decide +kernel
theorem dJ3_checkFromToIndex_8c36e_0 : decode cJ3_checkFromToIndex_8c36e 0 = .ok (.iload_n 0, 1) := by decide +kernel
theorem dJ3_checkFromToIndex_8c36e_1 : decode cJ3_checkFromToIndex_8c36e 1 = .ok (.ifCond .lt 13, 3) := by decide +kernel
theorem dJ3_checkFromToIndex_8c36e_4 : decode cJ3_checkFromToIndex_8c36e 4 = .ok (.iload_n 0, 1) := by decide +kernel
theorem dJ3_checkFromToIndex_8c36e_5 : decode cJ3_checkFromToIndex_8c36e 5 = .ok (.iload_n 1, 1) := by decide +kernel
theorem dJ3_checkFromToIndex_8c36e_6 : decode cJ3_checkFromToIndex_8c36e 6 = .ok (.if_icmp .gt 8, 3) := by decide +kernel
theorem dJ3_checkFromToIndex_8c36e_9 : decode cJ3_checkFromToIndex_8c36e 9 = .ok (.iload_n 1, 1) := by decide +kernel
theorem dJ3_checkFromToIndex_8c36e_10 : decode cJ3_checkFromToIndex_8c36e 10 = .ok (.iload_n 2, 1) := by decide +kernel
theorem dJ3_checkFromToIndex_8c36e_11 : decode cJ3_checkFromToIndex_8c36e 11 = .ok (.if_icmp .le 11, 3) := by decide +kernel
theorem dJ3_checkFromToIndex_8c36e_14 : decode cJ3_checkFromToIndex_8c36e 14 = .ok (.aload_n 3, 1) := by decide +kernel
theorem dJ3_checkFromToIndex_8c36e_15 : decode cJ3_checkFromToIndex_8c36e 15 = .ok (.iload_n 0, 1) := by decide +kernel
theorem dJ3_checkFromToIndex_8c36e_16 : decode cJ3_checkFromToIndex_8c36e 16 = .ok (.iload_n 1, 1) := by decide +kernel
theorem dJ3_checkFromToIndex_8c36e_17 : decode cJ3_checkFromToIndex_8c36e 17 = .ok (.iload_n 2, 1) := by decide +kernel
theorem dJ3_checkFromToIndex_8c36e_18 : decode cJ3_checkFromToIndex_8c36e 18 = .ok (.invokestatic 99, 3) := by decide +kernel
theorem dJ3_checkFromToIndex_8c36e_21 : decode cJ3_checkFromToIndex_8c36e 21 = .ok (.athrow, 1) := by decide +kernel
theorem dJ3_checkFromToIndex_8c36e_22 : decode cJ3_checkFromToIndex_8c36e 22 = .ok (.iload_n 0, 1) := by decide +kernel
theorem dJ3_checkFromToIndex_8c36e_23 : decode cJ3_checkFromToIndex_8c36e 23 = .ok (.ireturn, 1) := by decide +kernel
theorem dL_law_0 : decode cL_law 0 = .ok (.new 7, 3) := by decide +kernel
theorem dL_law_3 : decode cL_law 3 = .ok (.dup, 1) := by decide +kernel
theorem dL_law_4 : decode cL_law 4 = .ok (.invokespecial 9, 3) := by decide +kernel
theorem dL_law_7 : decode cL_law 7 = .ok (.astore_n 1, 1) := by decide +kernel
theorem dL_law_8 : decode cL_law 8 = .ok (.new 10, 3) := by decide +kernel
theorem dL_law_11 : decode cL_law 11 = .ok (.dup, 1) := by decide +kernel
theorem dL_law_12 : decode cL_law 12 = .ok (.invokespecial 12, 3) := by decide +kernel
theorem dL_law_15 : decode cL_law 15 = .ok (.astore_n 2, 1) := by decide +kernel
theorem dL_law_16 : decode cL_law 16 = .ok (.iconst 0, 1) := by decide +kernel
theorem dL_law_17 : decode cL_law 17 = .ok (.istore_n 3, 1) := by decide +kernel
theorem dL_law_18 : decode cL_law 18 = .ok (.iload_n 3, 1) := by decide +kernel
theorem dL_law_19 : decode cL_law 19 = .ok (.aload_n 0, 1) := by decide +kernel
theorem dL_law_20 : decode cL_law 20 = .ok (.arraylength, 1) := by decide +kernel
theorem dL_law_21 : decode cL_law 21 = .ok (.bipush 6, 2) := by decide +kernel
theorem dL_law_23 : decode cL_law 23 = .ok (.isub, 1) := by decide +kernel
theorem dL_law_24 : decode cL_law 24 = .ok (.if_icmp .gt 1330, 3) := by decide +kernel
theorem dL_law_27 : decode cL_law 27 = .ok (.aload_n 0, 1) := by decide +kernel
theorem dL_law_28 : decode cL_law 28 = .ok (.iload_n 3, 1) := by decide +kernel
theorem dL_law_29 : decode cL_law 29 = .ok (.iaload, 1) := by decide +kernel
theorem dL_law_30 : decode cL_law 30 = .ok (.bipush 63, 2) := by decide +kernel
theorem dL_law_32 : decode cL_law 32 = .ok (.iand, 1) := by decide +kernel
theorem dL_law_33 : decode cL_law 33 = .ok (.tableswitch 1315 0 39 #[175, 218, 251, 284, 317, 360, 373, 396, 419, 452, 465, 488, 511, 534, 557, 590, 613, 636, 679, 712, 725, 748, 791, 814, 827, 860, 883, 926, 969, 992, 1015, 1078, 1121, 1154, 1187, 1220, 1243, 1266, 1279, 1292], 175) := by decide +kernel
theorem dL_law_208 : decode cL_law 208 = .ok (.aload_n 1, 1) := by decide +kernel
theorem dL_law_209 : decode cL_law 209 = .ok (.aload_n 0, 1) := by decide +kernel
theorem dL_law_210 : decode cL_law 210 = .ok (.iload_n 3, 1) := by decide +kernel
theorem dL_law_211 : decode cL_law 211 = .ok (.iconst 1, 1) := by decide +kernel
theorem dL_law_212 : decode cL_law 212 = .ok (.iadd, 1) := by decide +kernel
theorem dL_law_213 : decode cL_law 213 = .ok (.iaload, 1) := by decide +kernel
theorem dL_law_214 : decode cL_law 214 = .ok (.aload_n 0, 1) := by decide +kernel
theorem dL_law_215 : decode cL_law 215 = .ok (.iload_n 3, 1) := by decide +kernel
theorem dL_law_216 : decode cL_law 216 = .ok (.iconst 2, 1) := by decide +kernel
theorem dL_law_217 : decode cL_law 217 = .ok (.iadd, 1) := by decide +kernel
theorem dL_law_218 : decode cL_law 218 = .ok (.iaload, 1) := by decide +kernel
theorem dL_law_219 : decode cL_law 219 = .ok (.aload_n 0, 1) := by decide +kernel
theorem dL_law_220 : decode cL_law 220 = .ok (.iload_n 3, 1) := by decide +kernel
theorem dL_law_221 : decode cL_law 221 = .ok (.iconst 3, 1) := by decide +kernel
theorem dL_law_222 : decode cL_law 222 = .ok (.iadd, 1) := by decide +kernel
theorem dL_law_223 : decode cL_law 223 = .ok (.iaload, 1) := by decide +kernel
theorem dL_law_224 : decode cL_law 224 = .ok (.invokevirtual 13, 3) := by decide +kernel
theorem dL_law_227 : decode cL_law 227 = .ok (.aload_n 2, 1) := by decide +kernel
theorem dL_law_228 : decode cL_law 228 = .ok (.aload_n 0, 1) := by decide +kernel
theorem dL_law_229 : decode cL_law 229 = .ok (.iload_n 3, 1) := by decide +kernel
theorem dL_law_230 : decode cL_law 230 = .ok (.iconst 1, 1) := by decide +kernel
theorem dL_law_231 : decode cL_law 231 = .ok (.iadd, 1) := by decide +kernel
theorem dL_law_232 : decode cL_law 232 = .ok (.iaload, 1) := by decide +kernel
theorem dL_law_233 : decode cL_law 233 = .ok (.aload_n 0, 1) := by decide +kernel
theorem dL_law_234 : decode cL_law 234 = .ok (.iload_n 3, 1) := by decide +kernel
theorem dL_law_235 : decode cL_law 235 = .ok (.iconst 2, 1) := by decide +kernel
theorem dL_law_236 : decode cL_law 236 = .ok (.iadd, 1) := by decide +kernel
theorem dL_law_237 : decode cL_law 237 = .ok (.iaload, 1) := by decide +kernel
theorem dL_law_238 : decode cL_law 238 = .ok (.aload_n 0, 1) := by decide +kernel
theorem dL_law_239 : decode cL_law 239 = .ok (.iload_n 3, 1) := by decide +kernel
theorem dL_law_240 : decode cL_law 240 = .ok (.iconst 3, 1) := by decide +kernel
theorem dL_law_241 : decode cL_law 241 = .ok (.iadd, 1) := by decide +kernel
theorem dL_law_242 : decode cL_law 242 = .ok (.iaload, 1) := by decide +kernel
theorem dL_law_243 : decode cL_law 243 = .ok (.invokevirtual 17, 3) := by decide +kernel
theorem dL_law_246 : decode cL_law 246 = .ok (.if_icmp .eq 1102, 3) := by decide +kernel
theorem dL_law_249 : decode cL_law 249 = .ok (.iconst 0, 1) := by decide +kernel
theorem dL_law_250 : decode cL_law 250 = .ok (.ireturn, 1) := by decide +kernel
theorem dL_law_251 : decode cL_law 251 = .ok (.aload_n 1, 1) := by decide +kernel
theorem dL_law_252 : decode cL_law 252 = .ok (.aload_n 0, 1) := by decide +kernel
theorem dL_law_253 : decode cL_law 253 = .ok (.iload_n 3, 1) := by decide +kernel
theorem dL_law_254 : decode cL_law 254 = .ok (.iconst 1, 1) := by decide +kernel
theorem dL_law_255 : decode cL_law 255 = .ok (.iadd, 1) := by decide +kernel
theorem dL_law_256 : decode cL_law 256 = .ok (.iaload, 1) := by decide +kernel
theorem dL_law_257 : decode cL_law 257 = .ok (.aload_n 0, 1) := by decide +kernel
theorem dL_law_258 : decode cL_law 258 = .ok (.iload_n 3, 1) := by decide +kernel
theorem dL_law_259 : decode cL_law 259 = .ok (.iconst 2, 1) := by decide +kernel
theorem dL_law_260 : decode cL_law 260 = .ok (.iadd, 1) := by decide +kernel
theorem dL_law_261 : decode cL_law 261 = .ok (.iaload, 1) := by decide +kernel
theorem dL_law_262 : decode cL_law 262 = .ok (.invokevirtual 18, 3) := by decide +kernel
theorem dL_law_265 : decode cL_law 265 = .ok (.aload_n 2, 1) := by decide +kernel
theorem dL_law_266 : decode cL_law 266 = .ok (.aload_n 0, 1) := by decide +kernel
theorem dL_law_267 : decode cL_law 267 = .ok (.iload_n 3, 1) := by decide +kernel
theorem dL_law_268 : decode cL_law 268 = .ok (.iconst 1, 1) := by decide +kernel
theorem dL_law_269 : decode cL_law 269 = .ok (.iadd, 1) := by decide +kernel
theorem dL_law_270 : decode cL_law 270 = .ok (.iaload, 1) := by decide +kernel
theorem dL_law_271 : decode cL_law 271 = .ok (.aload_n 0, 1) := by decide +kernel
theorem dL_law_272 : decode cL_law 272 = .ok (.iload_n 3, 1) := by decide +kernel
theorem dL_law_273 : decode cL_law 273 = .ok (.iconst 2, 1) := by decide +kernel
theorem dL_law_274 : decode cL_law 274 = .ok (.iadd, 1) := by decide +kernel
theorem dL_law_275 : decode cL_law 275 = .ok (.iaload, 1) := by decide +kernel
theorem dL_law_276 : decode cL_law 276 = .ok (.invokevirtual 22, 3) := by decide +kernel
theorem dL_law_279 : decode cL_law 279 = .ok (.if_icmp .eq 1069, 3) := by decide +kernel
theorem dL_law_282 : decode cL_law 282 = .ok (.iconst 0, 1) := by decide +kernel
theorem dL_law_283 : decode cL_law 283 = .ok (.ireturn, 1) := by decide +kernel
theorem dL_law_284 : decode cL_law 284 = .ok (.aload_n 1, 1) := by decide +kernel
theorem dL_law_285 : decode cL_law 285 = .ok (.aload_n 0, 1) := by decide +kernel
theorem dL_law_286 : decode cL_law 286 = .ok (.iload_n 3, 1) := by decide +kernel
theorem dL_law_287 : decode cL_law 287 = .ok (.iconst 1, 1) := by decide +kernel
theorem dL_law_288 : decode cL_law 288 = .ok (.iadd, 1) := by decide +kernel
theorem dL_law_289 : decode cL_law 289 = .ok (.iaload, 1) := by decide +kernel
theorem dL_law_290 : decode cL_law 290 = .ok (.aload_n 0, 1) := by decide +kernel
theorem dL_law_291 : decode cL_law 291 = .ok (.iload_n 3, 1) := by decide +kernel
theorem dL_law_292 : decode cL_law 292 = .ok (.iconst 2, 1) := by decide +kernel
theorem dL_law_293 : decode cL_law 293 = .ok (.iadd, 1) := by decide +kernel
theorem dL_law_294 : decode cL_law 294 = .ok (.iaload, 1) := by decide +kernel
theorem dL_law_295 : decode cL_law 295 = .ok (.invokevirtual 23, 3) := by decide +kernel
theorem dL_law_298 : decode cL_law 298 = .ok (.aload_n 2, 1) := by decide +kernel
theorem dL_law_299 : decode cL_law 299 = .ok (.aload_n 0, 1) := by decide +kernel
theorem dL_law_300 : decode cL_law 300 = .ok (.iload_n 3, 1) := by decide +kernel
theorem dL_law_301 : decode cL_law 301 = .ok (.iconst 1, 1) := by decide +kernel
theorem dL_law_302 : decode cL_law 302 = .ok (.iadd, 1) := by decide +kernel
theorem dL_law_303 : decode cL_law 303 = .ok (.iaload, 1) := by decide +kernel
theorem dL_law_304 : decode cL_law 304 = .ok (.aload_n 0, 1) := by decide +kernel
theorem dL_law_305 : decode cL_law 305 = .ok (.iload_n 3, 1) := by decide +kernel
theorem dL_law_306 : decode cL_law 306 = .ok (.iconst 2, 1) := by decide +kernel
theorem dL_law_307 : decode cL_law 307 = .ok (.iadd, 1) := by decide +kernel
theorem dL_law_308 : decode cL_law 308 = .ok (.iaload, 1) := by decide +kernel
theorem dL_law_309 : decode cL_law 309 = .ok (.invokevirtual 26, 3) := by decide +kernel
theorem dL_law_312 : decode cL_law 312 = .ok (.if_icmp .eq 1036, 3) := by decide +kernel
theorem dL_law_315 : decode cL_law 315 = .ok (.iconst 0, 1) := by decide +kernel
theorem dL_law_316 : decode cL_law 316 = .ok (.ireturn, 1) := by decide +kernel
theorem dL_law_317 : decode cL_law 317 = .ok (.aload_n 1, 1) := by decide +kernel
theorem dL_law_318 : decode cL_law 318 = .ok (.aload_n 0, 1) := by decide +kernel
theorem dL_law_319 : decode cL_law 319 = .ok (.iload_n 3, 1) := by decide +kernel
theorem dL_law_320 : decode cL_law 320 = .ok (.iconst 1, 1) := by decide +kernel
theorem dL_law_321 : decode cL_law 321 = .ok (.iadd, 1) := by decide +kernel
theorem dL_law_322 : decode cL_law 322 = .ok (.iaload, 1) := by decide +kernel
theorem dL_law_323 : decode cL_law 323 = .ok (.aload_n 0, 1) := by decide +kernel
theorem dL_law_324 : decode cL_law 324 = .ok (.iload_n 3, 1) := by decide +kernel
theorem dL_law_325 : decode cL_law 325 = .ok (.iconst 2, 1) := by decide +kernel
theorem dL_law_326 : decode cL_law 326 = .ok (.iadd, 1) := by decide +kernel
theorem dL_law_327 : decode cL_law 327 = .ok (.iaload, 1) := by decide +kernel
theorem dL_law_328 : decode cL_law 328 = .ok (.invokevirtual 27, 3) := by decide +kernel
theorem dL_law_331 : decode cL_law 331 = .ok (.aload_n 2, 1) := by decide +kernel
theorem dL_law_332 : decode cL_law 332 = .ok (.aload_n 0, 1) := by decide +kernel
theorem dL_law_333 : decode cL_law 333 = .ok (.iload_n 3, 1) := by decide +kernel
theorem dL_law_334 : decode cL_law 334 = .ok (.iconst 1, 1) := by decide +kernel
theorem dL_law_335 : decode cL_law 335 = .ok (.iadd, 1) := by decide +kernel
theorem dL_law_336 : decode cL_law 336 = .ok (.iaload, 1) := by decide +kernel
theorem dL_law_337 : decode cL_law 337 = .ok (.aload_n 0, 1) := by decide +kernel
theorem dL_law_338 : decode cL_law 338 = .ok (.iload_n 3, 1) := by decide +kernel
theorem dL_law_339 : decode cL_law 339 = .ok (.iconst 2, 1) := by decide +kernel
theorem dL_law_340 : decode cL_law 340 = .ok (.iadd, 1) := by decide +kernel
theorem dL_law_341 : decode cL_law 341 = .ok (.iaload, 1) := by decide +kernel
theorem dL_law_342 : decode cL_law 342 = .ok (.invokevirtual 30, 3) := by decide +kernel
theorem dL_law_345 : decode cL_law 345 = .ok (.if_icmp .eq 1003, 3) := by decide +kernel
theorem dL_law_348 : decode cL_law 348 = .ok (.iconst 0, 1) := by decide +kernel
theorem dL_law_349 : decode cL_law 349 = .ok (.ireturn, 1) := by decide +kernel
theorem dL_law_350 : decode cL_law 350 = .ok (.aload_n 1, 1) := by decide +kernel
theorem dL_law_351 : decode cL_law 351 = .ok (.aload_n 0, 1) := by decide +kernel
theorem dL_law_352 : decode cL_law 352 = .ok (.iload_n 3, 1) := by decide +kernel
theorem dL_law_353 : decode cL_law 353 = .ok (.iconst 1, 1) := by decide +kernel
theorem dL_law_354 : decode cL_law 354 = .ok (.iadd, 1) := by decide +kernel
theorem dL_law_355 : decode cL_law 355 = .ok (.iaload, 1) := by decide +kernel
theorem dL_law_356 : decode cL_law 356 = .ok (.aload_n 0, 1) := by decide +kernel
theorem dL_law_357 : decode cL_law 357 = .ok (.iload_n 3, 1) := by decide +kernel
theorem dL_law_358 : decode cL_law 358 = .ok (.iconst 2, 1) := by decide +kernel
theorem dL_law_359 : decode cL_law 359 = .ok (.iadd, 1) := by decide +kernel
theorem dL_law_360 : decode cL_law 360 = .ok (.iaload, 1) := by decide +kernel
theorem dL_law_361 : decode cL_law 361 = .ok (.aload_n 0, 1) := by decide +kernel
theorem dL_law_362 : decode cL_law 362 = .ok (.iload_n 3, 1) := by decide +kernel
theorem dL_law_363 : decode cL_law 363 = .ok (.iconst 3, 1) := by decide +kernel
theorem dL_law_364 : decode cL_law 364 = .ok (.iadd, 1) := by decide +kernel
theorem dL_law_365 : decode cL_law 365 = .ok (.iaload, 1) := by decide +kernel
theorem dL_law_366 : decode cL_law 366 = .ok (.invokevirtual 31, 3) := by decide +kernel
theorem dL_law_369 : decode cL_law 369 = .ok (.aload_n 2, 1) := by decide +kernel
theorem dL_law_370 : decode cL_law 370 = .ok (.aload_n 0, 1) := by decide +kernel
theorem dL_law_371 : decode cL_law 371 = .ok (.iload_n 3, 1) := by decide +kernel
theorem dL_law_372 : decode cL_law 372 = .ok (.iconst 1, 1) := by decide +kernel
theorem dL_law_373 : decode cL_law 373 = .ok (.iadd, 1) := by decide +kernel
theorem dL_law_374 : decode cL_law 374 = .ok (.iaload, 1) := by decide +kernel
theorem dL_law_375 : decode cL_law 375 = .ok (.aload_n 0, 1) := by decide +kernel
theorem dL_law_376 : decode cL_law 376 = .ok (.iload_n 3, 1) := by decide +kernel
theorem dL_law_377 : decode cL_law 377 = .ok (.iconst 2, 1) := by decide +kernel
theorem dL_law_378 : decode cL_law 378 = .ok (.iadd, 1) := by decide +kernel
theorem dL_law_379 : decode cL_law 379 = .ok (.iaload, 1) := by decide +kernel
theorem dL_law_380 : decode cL_law 380 = .ok (.aload_n 0, 1) := by decide +kernel
theorem dL_law_381 : decode cL_law 381 = .ok (.iload_n 3, 1) := by decide +kernel
theorem dL_law_382 : decode cL_law 382 = .ok (.iconst 3, 1) := by decide +kernel
theorem dL_law_383 : decode cL_law 383 = .ok (.iadd, 1) := by decide +kernel
theorem dL_law_384 : decode cL_law 384 = .ok (.iaload, 1) := by decide +kernel
theorem dL_law_385 : decode cL_law 385 = .ok (.invokevirtual 34, 3) := by decide +kernel
theorem dL_law_388 : decode cL_law 388 = .ok (.if_icmp .eq 960, 3) := by decide +kernel
theorem dL_law_391 : decode cL_law 391 = .ok (.iconst 0, 1) := by decide +kernel
theorem dL_law_392 : decode cL_law 392 = .ok (.ireturn, 1) := by decide +kernel
theorem dL_law_393 : decode cL_law 393 = .ok (.aload_n 1, 1) := by decide +kernel
theorem dL_law_394 : decode cL_law 394 = .ok (.invokevirtual 35, 3) := by decide +kernel
theorem dL_law_397 : decode cL_law 397 = .ok (.aload_n 2, 1) := by decide +kernel
theorem dL_law_398 : decode cL_law 398 = .ok (.invokevirtual 39, 3) := by decide +kernel
theorem dL_law_401 : decode cL_law 401 = .ok (.if_icmp .eq 947, 3) := by decide +kernel
theorem dL_law_404 : decode cL_law 404 = .ok (.iconst 0, 1) := by decide +kernel
theorem dL_law_405 : decode cL_law 405 = .ok (.ireturn, 1) := by decide +kernel
theorem dL_law_406 : decode cL_law 406 = .ok (.aload_n 1, 1) := by decide +kernel
theorem dL_law_407 : decode cL_law 407 = .ok (.aload_n 0, 1) := by decide +kernel
theorem dL_law_408 : decode cL_law 408 = .ok (.iload_n 3, 1) := by decide +kernel
theorem dL_law_409 : decode cL_law 409 = .ok (.iconst 1, 1) := by decide +kernel
theorem dL_law_410 : decode cL_law 410 = .ok (.iadd, 1) := by decide +kernel
theorem dL_law_411 : decode cL_law 411 = .ok (.iaload, 1) := by decide +kernel
theorem dL_law_412 : decode cL_law 412 = .ok (.invokevirtual 40, 3) := by decide +kernel
theorem dL_law_415 : decode cL_law 415 = .ok (.aload_n 2, 1) := by decide +kernel
theorem dL_law_416 : decode cL_law 416 = .ok (.aload_n 0, 1) := by decide +kernel
theorem dL_law_417 : decode cL_law 417 = .ok (.iload_n 3, 1) := by decide +kernel
theorem dL_law_418 : decode cL_law 418 = .ok (.iconst 1, 1) := by decide +kernel
theorem dL_law_419 : decode cL_law 419 = .ok (.iadd, 1) := by decide +kernel
theorem dL_law_420 : decode cL_law 420 = .ok (.iaload, 1) := by decide +kernel
theorem dL_law_421 : decode cL_law 421 = .ok (.invokevirtual 44, 3) := by decide +kernel
theorem dL_law_424 : decode cL_law 424 = .ok (.if_icmp .eq 924, 3) := by decide +kernel
theorem dL_law_427 : decode cL_law 427 = .ok (.iconst 0, 1) := by decide +kernel
theorem dL_law_428 : decode cL_law 428 = .ok (.ireturn, 1) := by decide +kernel
theorem dL_law_429 : decode cL_law 429 = .ok (.aload_n 1, 1) := by decide +kernel
theorem dL_law_430 : decode cL_law 430 = .ok (.aload_n 0, 1) := by decide +kernel
theorem dL_law_431 : decode cL_law 431 = .ok (.iload_n 3, 1) := by decide +kernel
theorem dL_law_432 : decode cL_law 432 = .ok (.iconst 1, 1) := by decide +kernel
theorem dL_law_433 : decode cL_law 433 = .ok (.iadd, 1) := by decide +kernel
theorem dL_law_434 : decode cL_law 434 = .ok (.iaload, 1) := by decide +kernel
theorem dL_law_435 : decode cL_law 435 = .ok (.invokevirtual 45, 3) := by decide +kernel
theorem dL_law_438 : decode cL_law 438 = .ok (.aload_n 2, 1) := by decide +kernel
theorem dL_law_439 : decode cL_law 439 = .ok (.aload_n 0, 1) := by decide +kernel
theorem dL_law_440 : decode cL_law 440 = .ok (.iload_n 3, 1) := by decide +kernel
theorem dL_law_441 : decode cL_law 441 = .ok (.iconst 1, 1) := by decide +kernel
theorem dL_law_442 : decode cL_law 442 = .ok (.iadd, 1) := by decide +kernel
theorem dL_law_443 : decode cL_law 443 = .ok (.iaload, 1) := by decide +kernel
theorem dL_law_444 : decode cL_law 444 = .ok (.invokevirtual 48, 3) := by decide +kernel
theorem dL_law_447 : decode cL_law 447 = .ok (.if_icmp .eq 901, 3) := by decide +kernel
theorem dL_law_450 : decode cL_law 450 = .ok (.iconst 0, 1) := by decide +kernel
theorem dL_law_451 : decode cL_law 451 = .ok (.ireturn, 1) := by decide +kernel
theorem dL_law_452 : decode cL_law 452 = .ok (.aload_n 1, 1) := by decide +kernel
theorem dL_law_453 : decode cL_law 453 = .ok (.aload_n 0, 1) := by decide +kernel
theorem dL_law_454 : decode cL_law 454 = .ok (.iload_n 3, 1) := by decide +kernel
theorem dL_law_455 : decode cL_law 455 = .ok (.iconst 1, 1) := by decide +kernel
theorem dL_law_456 : decode cL_law 456 = .ok (.iadd, 1) := by decide +kernel
theorem dL_law_457 : decode cL_law 457 = .ok (.iaload, 1) := by decide +kernel
theorem dL_law_458 : decode cL_law 458 = .ok (.aload_n 0, 1) := by decide +kernel
theorem dL_law_459 : decode cL_law 459 = .ok (.iload_n 3, 1) := by decide +kernel
theorem dL_law_460 : decode cL_law 460 = .ok (.iconst 2, 1) := by decide +kernel
theorem dL_law_461 : decode cL_law 461 = .ok (.iadd, 1) := by decide +kernel
theorem dL_law_462 : decode cL_law 462 = .ok (.iaload, 1) := by decide +kernel
theorem dL_law_463 : decode cL_law 463 = .ok (.invokevirtual 49, 3) := by decide +kernel
theorem dL_law_466 : decode cL_law 466 = .ok (.aload_n 2, 1) := by decide +kernel
theorem dL_law_467 : decode cL_law 467 = .ok (.aload_n 0, 1) := by decide +kernel
theorem dL_law_468 : decode cL_law 468 = .ok (.iload_n 3, 1) := by decide +kernel
theorem dL_law_469 : decode cL_law 469 = .ok (.iconst 1, 1) := by decide +kernel
theorem dL_law_470 : decode cL_law 470 = .ok (.iadd, 1) := by decide +kernel
theorem dL_law_471 : decode cL_law 471 = .ok (.iaload, 1) := by decide +kernel
theorem dL_law_472 : decode cL_law 472 = .ok (.aload_n 0, 1) := by decide +kernel
theorem dL_law_473 : decode cL_law 473 = .ok (.iload_n 3, 1) := by decide +kernel
theorem dL_law_474 : decode cL_law 474 = .ok (.iconst 2, 1) := by decide +kernel
theorem dL_law_475 : decode cL_law 475 = .ok (.iadd, 1) := by decide +kernel
theorem dL_law_476 : decode cL_law 476 = .ok (.iaload, 1) := by decide +kernel
theorem dL_law_477 : decode cL_law 477 = .ok (.invokevirtual 52, 3) := by decide +kernel
theorem dL_law_480 : decode cL_law 480 = .ok (.if_icmp .eq 868, 3) := by decide +kernel
theorem dL_law_483 : decode cL_law 483 = .ok (.iconst 0, 1) := by decide +kernel
theorem dL_law_484 : decode cL_law 484 = .ok (.ireturn, 1) := by decide +kernel
theorem dL_law_485 : decode cL_law 485 = .ok (.aload_n 1, 1) := by decide +kernel
theorem dL_law_486 : decode cL_law 486 = .ok (.invokevirtual 53, 3) := by decide +kernel
theorem dL_law_489 : decode cL_law 489 = .ok (.aload_n 2, 1) := by decide +kernel
theorem dL_law_490 : decode cL_law 490 = .ok (.invokevirtual 56, 3) := by decide +kernel
theorem dL_law_493 : decode cL_law 493 = .ok (.if_icmp .eq 855, 3) := by decide +kernel
theorem dL_law_496 : decode cL_law 496 = .ok (.iconst 0, 1) := by decide +kernel
theorem dL_law_497 : decode cL_law 497 = .ok (.ireturn, 1) := by decide +kernel
theorem dL_law_498 : decode cL_law 498 = .ok (.aload_n 1, 1) := by decide +kernel
theorem dL_law_499 : decode cL_law 499 = .ok (.aload_n 0, 1) := by decide +kernel
theorem dL_law_500 : decode cL_law 500 = .ok (.iload_n 3, 1) := by decide +kernel
theorem dL_law_501 : decode cL_law 501 = .ok (.iconst 1, 1) := by decide +kernel
theorem dL_law_502 : decode cL_law 502 = .ok (.iadd, 1) := by decide +kernel
theorem dL_law_503 : decode cL_law 503 = .ok (.iaload, 1) := by decide +kernel
theorem dL_law_504 : decode cL_law 504 = .ok (.invokevirtual 57, 3) := by decide +kernel
theorem dL_law_507 : decode cL_law 507 = .ok (.aload_n 2, 1) := by decide +kernel
theorem dL_law_508 : decode cL_law 508 = .ok (.aload_n 0, 1) := by decide +kernel
theorem dL_law_509 : decode cL_law 509 = .ok (.iload_n 3, 1) := by decide +kernel
theorem dL_law_510 : decode cL_law 510 = .ok (.iconst 1, 1) := by decide +kernel
theorem dL_law_511 : decode cL_law 511 = .ok (.iadd, 1) := by decide +kernel
theorem dL_law_512 : decode cL_law 512 = .ok (.iaload, 1) := by decide +kernel
theorem dL_law_513 : decode cL_law 513 = .ok (.invokevirtual 60, 3) := by decide +kernel
theorem dL_law_516 : decode cL_law 516 = .ok (.if_icmp .eq 832, 3) := by decide +kernel
theorem dL_law_519 : decode cL_law 519 = .ok (.iconst 0, 1) := by decide +kernel
theorem dL_law_520 : decode cL_law 520 = .ok (.ireturn, 1) := by decide +kernel
theorem dL_law_521 : decode cL_law 521 = .ok (.aload_n 1, 1) := by decide +kernel
theorem dL_law_522 : decode cL_law 522 = .ok (.aload_n 0, 1) := by decide +kernel
theorem dL_law_523 : decode cL_law 523 = .ok (.iload_n 3, 1) := by decide +kernel
theorem dL_law_524 : decode cL_law 524 = .ok (.iconst 1, 1) := by decide +kernel
theorem dL_law_525 : decode cL_law 525 = .ok (.iadd, 1) := by decide +kernel
theorem dL_law_526 : decode cL_law 526 = .ok (.iaload, 1) := by decide +kernel
theorem dL_law_527 : decode cL_law 527 = .ok (.invokevirtual 61, 3) := by decide +kernel
theorem dL_law_530 : decode cL_law 530 = .ok (.aload_n 2, 1) := by decide +kernel
theorem dL_law_531 : decode cL_law 531 = .ok (.aload_n 0, 1) := by decide +kernel
theorem dL_law_532 : decode cL_law 532 = .ok (.iload_n 3, 1) := by decide +kernel
theorem dL_law_533 : decode cL_law 533 = .ok (.iconst 1, 1) := by decide +kernel
theorem dL_law_534 : decode cL_law 534 = .ok (.iadd, 1) := by decide +kernel
theorem dL_law_535 : decode cL_law 535 = .ok (.iaload, 1) := by decide +kernel
theorem dL_law_536 : decode cL_law 536 = .ok (.invokevirtual 64, 3) := by decide +kernel
theorem dL_law_539 : decode cL_law 539 = .ok (.if_icmp .eq 809, 3) := by decide +kernel
theorem dL_law_542 : decode cL_law 542 = .ok (.iconst 0, 1) := by decide +kernel
theorem dL_law_543 : decode cL_law 543 = .ok (.ireturn, 1) := by decide +kernel
theorem dL_law_544 : decode cL_law 544 = .ok (.aload_n 1, 1) := by decide +kernel
theorem dL_law_545 : decode cL_law 545 = .ok (.aload_n 0, 1) := by decide +kernel
theorem dL_law_546 : decode cL_law 546 = .ok (.iload_n 3, 1) := by decide +kernel
theorem dL_law_547 : decode cL_law 547 = .ok (.iconst 1, 1) := by decide +kernel
theorem dL_law_548 : decode cL_law 548 = .ok (.iadd, 1) := by decide +kernel
theorem dL_law_549 : decode cL_law 549 = .ok (.iaload, 1) := by decide +kernel
theorem dL_law_550 : decode cL_law 550 = .ok (.invokevirtual 65, 3) := by decide +kernel
theorem dL_law_553 : decode cL_law 553 = .ok (.aload_n 2, 1) := by decide +kernel
theorem dL_law_554 : decode cL_law 554 = .ok (.aload_n 0, 1) := by decide +kernel
theorem dL_law_555 : decode cL_law 555 = .ok (.iload_n 3, 1) := by decide +kernel
theorem dL_law_556 : decode cL_law 556 = .ok (.iconst 1, 1) := by decide +kernel
theorem dL_law_557 : decode cL_law 557 = .ok (.iadd, 1) := by decide +kernel
theorem dL_law_558 : decode cL_law 558 = .ok (.iaload, 1) := by decide +kernel
theorem dL_law_559 : decode cL_law 559 = .ok (.invokevirtual 68, 3) := by decide +kernel
theorem dL_law_562 : decode cL_law 562 = .ok (.if_icmp .eq 786, 3) := by decide +kernel
theorem dL_law_565 : decode cL_law 565 = .ok (.iconst 0, 1) := by decide +kernel
theorem dL_law_566 : decode cL_law 566 = .ok (.ireturn, 1) := by decide +kernel
theorem dL_law_567 : decode cL_law 567 = .ok (.aload_n 1, 1) := by decide +kernel
theorem dL_law_568 : decode cL_law 568 = .ok (.aload_n 0, 1) := by decide +kernel
theorem dL_law_569 : decode cL_law 569 = .ok (.iload_n 3, 1) := by decide +kernel
theorem dL_law_570 : decode cL_law 570 = .ok (.iconst 1, 1) := by decide +kernel
theorem dL_law_571 : decode cL_law 571 = .ok (.iadd, 1) := by decide +kernel
theorem dL_law_572 : decode cL_law 572 = .ok (.iaload, 1) := by decide +kernel
theorem dL_law_573 : decode cL_law 573 = .ok (.invokevirtual 69, 3) := by decide +kernel
theorem dL_law_576 : decode cL_law 576 = .ok (.aload_n 2, 1) := by decide +kernel
theorem dL_law_577 : decode cL_law 577 = .ok (.aload_n 0, 1) := by decide +kernel
theorem dL_law_578 : decode cL_law 578 = .ok (.iload_n 3, 1) := by decide +kernel
theorem dL_law_579 : decode cL_law 579 = .ok (.iconst 1, 1) := by decide +kernel
theorem dL_law_580 : decode cL_law 580 = .ok (.iadd, 1) := by decide +kernel
theorem dL_law_581 : decode cL_law 581 = .ok (.iaload, 1) := by decide +kernel
theorem dL_law_582 : decode cL_law 582 = .ok (.invokevirtual 72, 3) := by decide +kernel
theorem dL_law_585 : decode cL_law 585 = .ok (.if_icmp .eq 763, 3) := by decide +kernel
theorem dL_law_588 : decode cL_law 588 = .ok (.iconst 0, 1) := by decide +kernel
theorem dL_law_589 : decode cL_law 589 = .ok (.ireturn, 1) := by decide +kernel
theorem dL_law_590 : decode cL_law 590 = .ok (.aload_n 1, 1) := by decide +kernel
theorem dL_law_591 : decode cL_law 591 = .ok (.aload_n 0, 1) := by decide +kernel
theorem dL_law_592 : decode cL_law 592 = .ok (.iload_n 3, 1) := by decide +kernel
theorem dL_law_593 : decode cL_law 593 = .ok (.iconst 1, 1) := by decide +kernel
theorem dL_law_594 : decode cL_law 594 = .ok (.iadd, 1) := by decide +kernel
theorem dL_law_595 : decode cL_law 595 = .ok (.iaload, 1) := by decide +kernel
theorem dL_law_596 : decode cL_law 596 = .ok (.aload_n 0, 1) := by decide +kernel
theorem dL_law_597 : decode cL_law 597 = .ok (.iload_n 3, 1) := by decide +kernel
theorem dL_law_598 : decode cL_law 598 = .ok (.iconst 2, 1) := by decide +kernel
theorem dL_law_599 : decode cL_law 599 = .ok (.iadd, 1) := by decide +kernel
theorem dL_law_600 : decode cL_law 600 = .ok (.iaload, 1) := by decide +kernel
theorem dL_law_601 : decode cL_law 601 = .ok (.invokevirtual 73, 3) := by decide +kernel
theorem dL_law_604 : decode cL_law 604 = .ok (.aload_n 2, 1) := by decide +kernel
theorem dL_law_605 : decode cL_law 605 = .ok (.aload_n 0, 1) := by decide +kernel
theorem dL_law_606 : decode cL_law 606 = .ok (.iload_n 3, 1) := by decide +kernel
theorem dL_law_607 : decode cL_law 607 = .ok (.iconst 1, 1) := by decide +kernel
theorem dL_law_608 : decode cL_law 608 = .ok (.iadd, 1) := by decide +kernel
theorem dL_law_609 : decode cL_law 609 = .ok (.iaload, 1) := by decide +kernel
theorem dL_law_610 : decode cL_law 610 = .ok (.aload_n 0, 1) := by decide +kernel
theorem dL_law_611 : decode cL_law 611 = .ok (.iload_n 3, 1) := by decide +kernel
theorem dL_law_612 : decode cL_law 612 = .ok (.iconst 2, 1) := by decide +kernel
theorem dL_law_613 : decode cL_law 613 = .ok (.iadd, 1) := by decide +kernel
theorem dL_law_614 : decode cL_law 614 = .ok (.iaload, 1) := by decide +kernel
theorem dL_law_615 : decode cL_law 615 = .ok (.invokevirtual 76, 3) := by decide +kernel
theorem dL_law_618 : decode cL_law 618 = .ok (.if_icmp .eq 730, 3) := by decide +kernel
theorem dL_law_621 : decode cL_law 621 = .ok (.iconst 0, 1) := by decide +kernel
theorem dL_law_622 : decode cL_law 622 = .ok (.ireturn, 1) := by decide +kernel
theorem dL_law_623 : decode cL_law 623 = .ok (.aload_n 1, 1) := by decide +kernel
theorem dL_law_624 : decode cL_law 624 = .ok (.aload_n 0, 1) := by decide +kernel
theorem dL_law_625 : decode cL_law 625 = .ok (.iload_n 3, 1) := by decide +kernel
theorem dL_law_626 : decode cL_law 626 = .ok (.iconst 1, 1) := by decide +kernel
theorem dL_law_627 : decode cL_law 627 = .ok (.iadd, 1) := by decide +kernel
theorem dL_law_628 : decode cL_law 628 = .ok (.iaload, 1) := by decide +kernel
theorem dL_law_629 : decode cL_law 629 = .ok (.invokevirtual 77, 3) := by decide +kernel
theorem dL_law_632 : decode cL_law 632 = .ok (.aload_n 2, 1) := by decide +kernel
theorem dL_law_633 : decode cL_law 633 = .ok (.aload_n 0, 1) := by decide +kernel
theorem dL_law_634 : decode cL_law 634 = .ok (.iload_n 3, 1) := by decide +kernel
theorem dL_law_635 : decode cL_law 635 = .ok (.iconst 1, 1) := by decide +kernel
theorem dL_law_636 : decode cL_law 636 = .ok (.iadd, 1) := by decide +kernel
theorem dL_law_637 : decode cL_law 637 = .ok (.iaload, 1) := by decide +kernel
theorem dL_law_638 : decode cL_law 638 = .ok (.invokevirtual 80, 3) := by decide +kernel
theorem dL_law_641 : decode cL_law 641 = .ok (.if_icmp .eq 707, 3) := by decide +kernel
theorem dL_law_644 : decode cL_law 644 = .ok (.iconst 0, 1) := by decide +kernel
theorem dL_law_645 : decode cL_law 645 = .ok (.ireturn, 1) := by decide +kernel
theorem dL_law_646 : decode cL_law 646 = .ok (.aload_n 1, 1) := by decide +kernel
theorem dL_law_647 : decode cL_law 647 = .ok (.aload_n 0, 1) := by decide +kernel
theorem dL_law_648 : decode cL_law 648 = .ok (.iload_n 3, 1) := by decide +kernel
theorem dL_law_649 : decode cL_law 649 = .ok (.iconst 1, 1) := by decide +kernel
theorem dL_law_650 : decode cL_law 650 = .ok (.iadd, 1) := by decide +kernel
theorem dL_law_651 : decode cL_law 651 = .ok (.iaload, 1) := by decide +kernel
theorem dL_law_652 : decode cL_law 652 = .ok (.invokevirtual 81, 3) := by decide +kernel
theorem dL_law_655 : decode cL_law 655 = .ok (.aload_n 2, 1) := by decide +kernel
theorem dL_law_656 : decode cL_law 656 = .ok (.aload_n 0, 1) := by decide +kernel
theorem dL_law_657 : decode cL_law 657 = .ok (.iload_n 3, 1) := by decide +kernel
theorem dL_law_658 : decode cL_law 658 = .ok (.iconst 1, 1) := by decide +kernel
theorem dL_law_659 : decode cL_law 659 = .ok (.iadd, 1) := by decide +kernel
theorem dL_law_660 : decode cL_law 660 = .ok (.iaload, 1) := by decide +kernel
theorem dL_law_661 : decode cL_law 661 = .ok (.invokevirtual 84, 3) := by decide +kernel
theorem dL_law_664 : decode cL_law 664 = .ok (.if_icmp .eq 684, 3) := by decide +kernel
theorem dL_law_667 : decode cL_law 667 = .ok (.iconst 0, 1) := by decide +kernel
theorem dL_law_668 : decode cL_law 668 = .ok (.ireturn, 1) := by decide +kernel
theorem dL_law_669 : decode cL_law 669 = .ok (.aload_n 1, 1) := by decide +kernel
theorem dL_law_670 : decode cL_law 670 = .ok (.aload_n 0, 1) := by decide +kernel
theorem dL_law_671 : decode cL_law 671 = .ok (.iload_n 3, 1) := by decide +kernel
theorem dL_law_672 : decode cL_law 672 = .ok (.iconst 1, 1) := by decide +kernel
theorem dL_law_673 : decode cL_law 673 = .ok (.iadd, 1) := by decide +kernel
theorem dL_law_674 : decode cL_law 674 = .ok (.iaload, 1) := by decide +kernel
theorem dL_law_675 : decode cL_law 675 = .ok (.aload_n 0, 1) := by decide +kernel
theorem dL_law_676 : decode cL_law 676 = .ok (.iload_n 3, 1) := by decide +kernel
theorem dL_law_677 : decode cL_law 677 = .ok (.iconst 2, 1) := by decide +kernel
theorem dL_law_678 : decode cL_law 678 = .ok (.iadd, 1) := by decide +kernel
theorem dL_law_679 : decode cL_law 679 = .ok (.iaload, 1) := by decide +kernel
theorem dL_law_680 : decode cL_law 680 = .ok (.aload_n 0, 1) := by decide +kernel
theorem dL_law_681 : decode cL_law 681 = .ok (.iload_n 3, 1) := by decide +kernel
theorem dL_law_682 : decode cL_law 682 = .ok (.iconst 3, 1) := by decide +kernel
theorem dL_law_683 : decode cL_law 683 = .ok (.iadd, 1) := by decide +kernel
theorem dL_law_684 : decode cL_law 684 = .ok (.iaload, 1) := by decide +kernel
theorem dL_law_685 : decode cL_law 685 = .ok (.invokevirtual 85, 3) := by decide +kernel
theorem dL_law_688 : decode cL_law 688 = .ok (.aload_n 2, 1) := by decide +kernel
theorem dL_law_689 : decode cL_law 689 = .ok (.aload_n 0, 1) := by decide +kernel
theorem dL_law_690 : decode cL_law 690 = .ok (.iload_n 3, 1) := by decide +kernel
theorem dL_law_691 : decode cL_law 691 = .ok (.iconst 1, 1) := by decide +kernel
theorem dL_law_692 : decode cL_law 692 = .ok (.iadd, 1) := by decide +kernel
theorem dL_law_693 : decode cL_law 693 = .ok (.iaload, 1) := by decide +kernel
theorem dL_law_694 : decode cL_law 694 = .ok (.aload_n 0, 1) := by decide +kernel
theorem dL_law_695 : decode cL_law 695 = .ok (.iload_n 3, 1) := by decide +kernel
theorem dL_law_696 : decode cL_law 696 = .ok (.iconst 2, 1) := by decide +kernel
theorem dL_law_697 : decode cL_law 697 = .ok (.iadd, 1) := by decide +kernel
theorem dL_law_698 : decode cL_law 698 = .ok (.iaload, 1) := by decide +kernel
theorem dL_law_699 : decode cL_law 699 = .ok (.aload_n 0, 1) := by decide +kernel
theorem dL_law_700 : decode cL_law 700 = .ok (.iload_n 3, 1) := by decide +kernel
theorem dL_law_701 : decode cL_law 701 = .ok (.iconst 3, 1) := by decide +kernel
theorem dL_law_702 : decode cL_law 702 = .ok (.iadd, 1) := by decide +kernel
theorem dL_law_703 : decode cL_law 703 = .ok (.iaload, 1) := by decide +kernel
theorem dL_law_704 : decode cL_law 704 = .ok (.invokevirtual 88, 3) := by decide +kernel
theorem dL_law_707 : decode cL_law 707 = .ok (.if_icmp .eq 641, 3) := by decide +kernel
theorem dL_law_710 : decode cL_law 710 = .ok (.iconst 0, 1) := by decide +kernel
theorem dL_law_711 : decode cL_law 711 = .ok (.ireturn, 1) := by decide +kernel
theorem dL_law_712 : decode cL_law 712 = .ok (.aload_n 1, 1) := by decide +kernel
theorem dL_law_713 : decode cL_law 713 = .ok (.aload_n 0, 1) := by decide +kernel
theorem dL_law_714 : decode cL_law 714 = .ok (.iload_n 3, 1) := by decide +kernel
theorem dL_law_715 : decode cL_law 715 = .ok (.iconst 1, 1) := by decide +kernel
theorem dL_law_716 : decode cL_law 716 = .ok (.iadd, 1) := by decide +kernel
theorem dL_law_717 : decode cL_law 717 = .ok (.iaload, 1) := by decide +kernel
theorem dL_law_718 : decode cL_law 718 = .ok (.aload_n 0, 1) := by decide +kernel
theorem dL_law_719 : decode cL_law 719 = .ok (.iload_n 3, 1) := by decide +kernel
theorem dL_law_720 : decode cL_law 720 = .ok (.iconst 2, 1) := by decide +kernel
theorem dL_law_721 : decode cL_law 721 = .ok (.iadd, 1) := by decide +kernel
theorem dL_law_722 : decode cL_law 722 = .ok (.iaload, 1) := by decide +kernel
theorem dL_law_723 : decode cL_law 723 = .ok (.invokevirtual 89, 3) := by decide +kernel
theorem dL_law_726 : decode cL_law 726 = .ok (.aload_n 2, 1) := by decide +kernel
theorem dL_law_727 : decode cL_law 727 = .ok (.aload_n 0, 1) := by decide +kernel
theorem dL_law_728 : decode cL_law 728 = .ok (.iload_n 3, 1) := by decide +kernel
theorem dL_law_729 : decode cL_law 729 = .ok (.iconst 1, 1) := by decide +kernel
theorem dL_law_730 : decode cL_law 730 = .ok (.iadd, 1) := by decide +kernel
theorem dL_law_731 : decode cL_law 731 = .ok (.iaload, 1) := by decide +kernel
theorem dL_law_732 : decode cL_law 732 = .ok (.aload_n 0, 1) := by decide +kernel
theorem dL_law_733 : decode cL_law 733 = .ok (.iload_n 3, 1) := by decide +kernel
theorem dL_law_734 : decode cL_law 734 = .ok (.iconst 2, 1) := by decide +kernel
theorem dL_law_735 : decode cL_law 735 = .ok (.iadd, 1) := by decide +kernel
theorem dL_law_736 : decode cL_law 736 = .ok (.iaload, 1) := by decide +kernel
theorem dL_law_737 : decode cL_law 737 = .ok (.invokevirtual 92, 3) := by decide +kernel
theorem dL_law_740 : decode cL_law 740 = .ok (.if_icmp .eq 608, 3) := by decide +kernel
theorem dL_law_743 : decode cL_law 743 = .ok (.iconst 0, 1) := by decide +kernel
theorem dL_law_744 : decode cL_law 744 = .ok (.ireturn, 1) := by decide +kernel
theorem dL_law_745 : decode cL_law 745 = .ok (.aload_n 1, 1) := by decide +kernel
theorem dL_law_746 : decode cL_law 746 = .ok (.invokevirtual 93, 3) := by decide +kernel
theorem dL_law_749 : decode cL_law 749 = .ok (.aload_n 2, 1) := by decide +kernel
theorem dL_law_750 : decode cL_law 750 = .ok (.invokevirtual 96, 3) := by decide +kernel
theorem dL_law_753 : decode cL_law 753 = .ok (.if_icmp .eq 595, 3) := by decide +kernel
theorem dL_law_756 : decode cL_law 756 = .ok (.iconst 0, 1) := by decide +kernel
theorem dL_law_757 : decode cL_law 757 = .ok (.ireturn, 1) := by decide +kernel
theorem dL_law_758 : decode cL_law 758 = .ok (.aload_n 1, 1) := by decide +kernel
theorem dL_law_759 : decode cL_law 759 = .ok (.aload_n 0, 1) := by decide +kernel
theorem dL_law_760 : decode cL_law 760 = .ok (.iload_n 3, 1) := by decide +kernel
theorem dL_law_761 : decode cL_law 761 = .ok (.iconst 1, 1) := by decide +kernel
theorem dL_law_762 : decode cL_law 762 = .ok (.iadd, 1) := by decide +kernel
theorem dL_law_763 : decode cL_law 763 = .ok (.iaload, 1) := by decide +kernel
theorem dL_law_764 : decode cL_law 764 = .ok (.invokevirtual 97, 3) := by decide +kernel
theorem dL_law_767 : decode cL_law 767 = .ok (.aload_n 2, 1) := by decide +kernel
theorem dL_law_768 : decode cL_law 768 = .ok (.aload_n 0, 1) := by decide +kernel
theorem dL_law_769 : decode cL_law 769 = .ok (.iload_n 3, 1) := by decide +kernel
theorem dL_law_770 : decode cL_law 770 = .ok (.iconst 1, 1) := by decide +kernel
theorem dL_law_771 : decode cL_law 771 = .ok (.iadd, 1) := by decide +kernel
theorem dL_law_772 : decode cL_law 772 = .ok (.iaload, 1) := by decide +kernel
theorem dL_law_773 : decode cL_law 773 = .ok (.invokevirtual 100, 3) := by decide +kernel
theorem dL_law_776 : decode cL_law 776 = .ok (.if_icmp .eq 572, 3) := by decide +kernel
theorem dL_law_779 : decode cL_law 779 = .ok (.iconst 0, 1) := by decide +kernel
theorem dL_law_780 : decode cL_law 780 = .ok (.ireturn, 1) := by decide +kernel
theorem dL_law_781 : decode cL_law 781 = .ok (.aload_n 1, 1) := by decide +kernel
theorem dL_law_782 : decode cL_law 782 = .ok (.aload_n 0, 1) := by decide +kernel
theorem dL_law_783 : decode cL_law 783 = .ok (.iload_n 3, 1) := by decide +kernel
theorem dL_law_784 : decode cL_law 784 = .ok (.iconst 1, 1) := by decide +kernel
theorem dL_law_785 : decode cL_law 785 = .ok (.iadd, 1) := by decide +kernel
theorem dL_law_786 : decode cL_law 786 = .ok (.iaload, 1) := by decide +kernel
theorem dL_law_787 : decode cL_law 787 = .ok (.aload_n 0, 1) := by decide +kernel
theorem dL_law_788 : decode cL_law 788 = .ok (.iload_n 3, 1) := by decide +kernel
theorem dL_law_789 : decode cL_law 789 = .ok (.iconst 2, 1) := by decide +kernel
theorem dL_law_790 : decode cL_law 790 = .ok (.iadd, 1) := by decide +kernel
theorem dL_law_791 : decode cL_law 791 = .ok (.iaload, 1) := by decide +kernel
theorem dL_law_792 : decode cL_law 792 = .ok (.aload_n 0, 1) := by decide +kernel
theorem dL_law_793 : decode cL_law 793 = .ok (.iload_n 3, 1) := by decide +kernel
theorem dL_law_794 : decode cL_law 794 = .ok (.iconst 3, 1) := by decide +kernel
theorem dL_law_795 : decode cL_law 795 = .ok (.iadd, 1) := by decide +kernel
theorem dL_law_796 : decode cL_law 796 = .ok (.iaload, 1) := by decide +kernel
theorem dL_law_797 : decode cL_law 797 = .ok (.invokevirtual 101, 3) := by decide +kernel
theorem dL_law_800 : decode cL_law 800 = .ok (.aload_n 2, 1) := by decide +kernel
theorem dL_law_801 : decode cL_law 801 = .ok (.aload_n 0, 1) := by decide +kernel
theorem dL_law_802 : decode cL_law 802 = .ok (.iload_n 3, 1) := by decide +kernel
theorem dL_law_803 : decode cL_law 803 = .ok (.iconst 1, 1) := by decide +kernel
theorem dL_law_804 : decode cL_law 804 = .ok (.iadd, 1) := by decide +kernel
theorem dL_law_805 : decode cL_law 805 = .ok (.iaload, 1) := by decide +kernel
theorem dL_law_806 : decode cL_law 806 = .ok (.aload_n 0, 1) := by decide +kernel
theorem dL_law_807 : decode cL_law 807 = .ok (.iload_n 3, 1) := by decide +kernel
theorem dL_law_808 : decode cL_law 808 = .ok (.iconst 2, 1) := by decide +kernel
theorem dL_law_809 : decode cL_law 809 = .ok (.iadd, 1) := by decide +kernel
theorem dL_law_810 : decode cL_law 810 = .ok (.iaload, 1) := by decide +kernel
theorem dL_law_811 : decode cL_law 811 = .ok (.aload_n 0, 1) := by decide +kernel
theorem dL_law_812 : decode cL_law 812 = .ok (.iload_n 3, 1) := by decide +kernel
theorem dL_law_813 : decode cL_law 813 = .ok (.iconst 3, 1) := by decide +kernel
theorem dL_law_814 : decode cL_law 814 = .ok (.iadd, 1) := by decide +kernel
theorem dL_law_815 : decode cL_law 815 = .ok (.iaload, 1) := by decide +kernel
theorem dL_law_816 : decode cL_law 816 = .ok (.invokevirtual 104, 3) := by decide +kernel
theorem dL_law_819 : decode cL_law 819 = .ok (.if_icmp .eq 529, 3) := by decide +kernel
theorem dL_law_822 : decode cL_law 822 = .ok (.iconst 0, 1) := by decide +kernel
theorem dL_law_823 : decode cL_law 823 = .ok (.ireturn, 1) := by decide +kernel
theorem dL_law_824 : decode cL_law 824 = .ok (.aload_n 1, 1) := by decide +kernel
theorem dL_law_825 : decode cL_law 825 = .ok (.aload_n 0, 1) := by decide +kernel
theorem dL_law_826 : decode cL_law 826 = .ok (.iload_n 3, 1) := by decide +kernel
theorem dL_law_827 : decode cL_law 827 = .ok (.iconst 1, 1) := by decide +kernel
theorem dL_law_828 : decode cL_law 828 = .ok (.iadd, 1) := by decide +kernel
theorem dL_law_829 : decode cL_law 829 = .ok (.iaload, 1) := by decide +kernel
theorem dL_law_830 : decode cL_law 830 = .ok (.invokevirtual 105, 3) := by decide +kernel
theorem dL_law_833 : decode cL_law 833 = .ok (.aload_n 2, 1) := by decide +kernel
theorem dL_law_834 : decode cL_law 834 = .ok (.aload_n 0, 1) := by decide +kernel
theorem dL_law_835 : decode cL_law 835 = .ok (.iload_n 3, 1) := by decide +kernel
theorem dL_law_836 : decode cL_law 836 = .ok (.iconst 1, 1) := by decide +kernel
theorem dL_law_837 : decode cL_law 837 = .ok (.iadd, 1) := by decide +kernel
theorem dL_law_838 : decode cL_law 838 = .ok (.iaload, 1) := by decide +kernel
theorem dL_law_839 : decode cL_law 839 = .ok (.invokevirtual 108, 3) := by decide +kernel
theorem dL_law_842 : decode cL_law 842 = .ok (.if_icmp .eq 506, 3) := by decide +kernel
theorem dL_law_845 : decode cL_law 845 = .ok (.iconst 0, 1) := by decide +kernel
theorem dL_law_846 : decode cL_law 846 = .ok (.ireturn, 1) := by decide +kernel
theorem dL_law_847 : decode cL_law 847 = .ok (.aload_n 1, 1) := by decide +kernel
theorem dL_law_848 : decode cL_law 848 = .ok (.invokevirtual 109, 3) := by decide +kernel
theorem dL_law_851 : decode cL_law 851 = .ok (.aload_n 2, 1) := by decide +kernel
theorem dL_law_852 : decode cL_law 852 = .ok (.invokevirtual 112, 3) := by decide +kernel
theorem dL_law_855 : decode cL_law 855 = .ok (.if_icmp .eq 493, 3) := by decide +kernel
theorem dL_law_858 : decode cL_law 858 = .ok (.iconst 0, 1) := by decide +kernel
theorem dL_law_859 : decode cL_law 859 = .ok (.ireturn, 1) := by decide +kernel
theorem dL_law_860 : decode cL_law 860 = .ok (.aload_n 1, 1) := by decide +kernel
theorem dL_law_861 : decode cL_law 861 = .ok (.aload_n 0, 1) := by decide +kernel
theorem dL_law_862 : decode cL_law 862 = .ok (.iload_n 3, 1) := by decide +kernel
theorem dL_law_863 : decode cL_law 863 = .ok (.iconst 1, 1) := by decide +kernel
theorem dL_law_864 : decode cL_law 864 = .ok (.iadd, 1) := by decide +kernel
theorem dL_law_865 : decode cL_law 865 = .ok (.iaload, 1) := by decide +kernel
theorem dL_law_866 : decode cL_law 866 = .ok (.aload_n 0, 1) := by decide +kernel
theorem dL_law_867 : decode cL_law 867 = .ok (.iload_n 3, 1) := by decide +kernel
theorem dL_law_868 : decode cL_law 868 = .ok (.iconst 2, 1) := by decide +kernel
theorem dL_law_869 : decode cL_law 869 = .ok (.iadd, 1) := by decide +kernel
theorem dL_law_870 : decode cL_law 870 = .ok (.iaload, 1) := by decide +kernel
theorem dL_law_871 : decode cL_law 871 = .ok (.invokevirtual 113, 3) := by decide +kernel
theorem dL_law_874 : decode cL_law 874 = .ok (.aload_n 2, 1) := by decide +kernel
theorem dL_law_875 : decode cL_law 875 = .ok (.aload_n 0, 1) := by decide +kernel
theorem dL_law_876 : decode cL_law 876 = .ok (.iload_n 3, 1) := by decide +kernel
theorem dL_law_877 : decode cL_law 877 = .ok (.iconst 1, 1) := by decide +kernel
theorem dL_law_878 : decode cL_law 878 = .ok (.iadd, 1) := by decide +kernel
theorem dL_law_879 : decode cL_law 879 = .ok (.iaload, 1) := by decide +kernel
theorem dL_law_880 : decode cL_law 880 = .ok (.aload_n 0, 1) := by decide +kernel
theorem dL_law_881 : decode cL_law 881 = .ok (.iload_n 3, 1) := by decide +kernel
theorem dL_law_882 : decode cL_law 882 = .ok (.iconst 2, 1) := by decide +kernel
theorem dL_law_883 : decode cL_law 883 = .ok (.iadd, 1) := by decide +kernel
theorem dL_law_884 : decode cL_law 884 = .ok (.iaload, 1) := by decide +kernel
theorem dL_law_885 : decode cL_law 885 = .ok (.invokevirtual 116, 3) := by decide +kernel
theorem dL_law_888 : decode cL_law 888 = .ok (.if_icmp .eq 460, 3) := by decide +kernel
theorem dL_law_891 : decode cL_law 891 = .ok (.iconst 0, 1) := by decide +kernel
theorem dL_law_892 : decode cL_law 892 = .ok (.ireturn, 1) := by decide +kernel
theorem dL_law_893 : decode cL_law 893 = .ok (.aload_n 1, 1) := by decide +kernel
theorem dL_law_894 : decode cL_law 894 = .ok (.aload_n 0, 1) := by decide +kernel
theorem dL_law_895 : decode cL_law 895 = .ok (.iload_n 3, 1) := by decide +kernel
theorem dL_law_896 : decode cL_law 896 = .ok (.iconst 1, 1) := by decide +kernel
theorem dL_law_897 : decode cL_law 897 = .ok (.iadd, 1) := by decide +kernel
theorem dL_law_898 : decode cL_law 898 = .ok (.iaload, 1) := by decide +kernel
theorem dL_law_899 : decode cL_law 899 = .ok (.invokevirtual 117, 3) := by decide +kernel
theorem dL_law_902 : decode cL_law 902 = .ok (.aload_n 2, 1) := by decide +kernel
theorem dL_law_903 : decode cL_law 903 = .ok (.aload_n 0, 1) := by decide +kernel
theorem dL_law_904 : decode cL_law 904 = .ok (.iload_n 3, 1) := by decide +kernel
theorem dL_law_905 : decode cL_law 905 = .ok (.iconst 1, 1) := by decide +kernel
theorem dL_law_906 : decode cL_law 906 = .ok (.iadd, 1) := by decide +kernel
theorem dL_law_907 : decode cL_law 907 = .ok (.iaload, 1) := by decide +kernel
theorem dL_law_908 : decode cL_law 908 = .ok (.invokevirtual 120, 3) := by decide +kernel
theorem dL_law_911 : decode cL_law 911 = .ok (.if_icmp .eq 437, 3) := by decide +kernel
theorem dL_law_914 : decode cL_law 914 = .ok (.iconst 0, 1) := by decide +kernel
theorem dL_law_915 : decode cL_law 915 = .ok (.ireturn, 1) := by decide +kernel
theorem dL_law_916 : decode cL_law 916 = .ok (.aload_n 1, 1) := by decide +kernel
theorem dL_law_917 : decode cL_law 917 = .ok (.aload_n 0, 1) := by decide +kernel
theorem dL_law_918 : decode cL_law 918 = .ok (.iload_n 3, 1) := by decide +kernel
theorem dL_law_919 : decode cL_law 919 = .ok (.iconst 1, 1) := by decide +kernel
theorem dL_law_920 : decode cL_law 920 = .ok (.iadd, 1) := by decide +kernel
theorem dL_law_921 : decode cL_law 921 = .ok (.iaload, 1) := by decide +kernel
theorem dL_law_922 : decode cL_law 922 = .ok (.aload_n 0, 1) := by decide +kernel
theorem dL_law_923 : decode cL_law 923 = .ok (.iload_n 3, 1) := by decide +kernel
theorem dL_law_924 : decode cL_law 924 = .ok (.iconst 2, 1) := by decide +kernel
theorem dL_law_925 : decode cL_law 925 = .ok (.iadd, 1) := by decide +kernel
theorem dL_law_926 : decode cL_law 926 = .ok (.iaload, 1) := by decide +kernel
theorem dL_law_927 : decode cL_law 927 = .ok (.aload_n 0, 1) := by decide +kernel
theorem dL_law_928 : decode cL_law 928 = .ok (.iload_n 3, 1) := by decide +kernel
theorem dL_law_929 : decode cL_law 929 = .ok (.iconst 3, 1) := by decide +kernel
theorem dL_law_930 : decode cL_law 930 = .ok (.iadd, 1) := by decide +kernel
theorem dL_law_931 : decode cL_law 931 = .ok (.iaload, 1) := by decide +kernel
theorem dL_law_932 : decode cL_law 932 = .ok (.invokevirtual 121, 3) := by decide +kernel
theorem dL_law_935 : decode cL_law 935 = .ok (.aload_n 2, 1) := by decide +kernel
theorem dL_law_936 : decode cL_law 936 = .ok (.aload_n 0, 1) := by decide +kernel
theorem dL_law_937 : decode cL_law 937 = .ok (.iload_n 3, 1) := by decide +kernel
theorem dL_law_938 : decode cL_law 938 = .ok (.iconst 1, 1) := by decide +kernel
theorem dL_law_939 : decode cL_law 939 = .ok (.iadd, 1) := by decide +kernel
theorem dL_law_940 : decode cL_law 940 = .ok (.iaload, 1) := by decide +kernel
theorem dL_law_941 : decode cL_law 941 = .ok (.aload_n 0, 1) := by decide +kernel
theorem dL_law_942 : decode cL_law 942 = .ok (.iload_n 3, 1) := by decide +kernel
theorem dL_law_943 : decode cL_law 943 = .ok (.iconst 2, 1) := by decide +kernel
theorem dL_law_944 : decode cL_law 944 = .ok (.iadd, 1) := by decide +kernel
theorem dL_law_945 : decode cL_law 945 = .ok (.iaload, 1) := by decide +kernel
theorem dL_law_946 : decode cL_law 946 = .ok (.aload_n 0, 1) := by decide +kernel
theorem dL_law_947 : decode cL_law 947 = .ok (.iload_n 3, 1) := by decide +kernel
theorem dL_law_948 : decode cL_law 948 = .ok (.iconst 3, 1) := by decide +kernel
theorem dL_law_949 : decode cL_law 949 = .ok (.iadd, 1) := by decide +kernel
theorem dL_law_950 : decode cL_law 950 = .ok (.iaload, 1) := by decide +kernel
theorem dL_law_951 : decode cL_law 951 = .ok (.invokevirtual 124, 3) := by decide +kernel
theorem dL_law_954 : decode cL_law 954 = .ok (.if_icmp .eq 394, 3) := by decide +kernel
theorem dL_law_957 : decode cL_law 957 = .ok (.iconst 0, 1) := by decide +kernel
theorem dL_law_958 : decode cL_law 958 = .ok (.ireturn, 1) := by decide +kernel
theorem dL_law_959 : decode cL_law 959 = .ok (.aload_n 1, 1) := by decide +kernel
theorem dL_law_960 : decode cL_law 960 = .ok (.aload_n 0, 1) := by decide +kernel
theorem dL_law_961 : decode cL_law 961 = .ok (.iload_n 3, 1) := by decide +kernel
theorem dL_law_962 : decode cL_law 962 = .ok (.iconst 1, 1) := by decide +kernel
theorem dL_law_963 : decode cL_law 963 = .ok (.iadd, 1) := by decide +kernel
theorem dL_law_964 : decode cL_law 964 = .ok (.iaload, 1) := by decide +kernel
theorem dL_law_965 : decode cL_law 965 = .ok (.aload_n 0, 1) := by decide +kernel
theorem dL_law_966 : decode cL_law 966 = .ok (.iload_n 3, 1) := by decide +kernel
theorem dL_law_967 : decode cL_law 967 = .ok (.iconst 2, 1) := by decide +kernel
theorem dL_law_968 : decode cL_law 968 = .ok (.iadd, 1) := by decide +kernel
theorem dL_law_969 : decode cL_law 969 = .ok (.iaload, 1) := by decide +kernel
theorem dL_law_970 : decode cL_law 970 = .ok (.aload_n 0, 1) := by decide +kernel
theorem dL_law_971 : decode cL_law 971 = .ok (.iload_n 3, 1) := by decide +kernel
theorem dL_law_972 : decode cL_law 972 = .ok (.iconst 3, 1) := by decide +kernel
theorem dL_law_973 : decode cL_law 973 = .ok (.iadd, 1) := by decide +kernel
theorem dL_law_974 : decode cL_law 974 = .ok (.iaload, 1) := by decide +kernel
theorem dL_law_975 : decode cL_law 975 = .ok (.invokevirtual 125, 3) := by decide +kernel
theorem dL_law_978 : decode cL_law 978 = .ok (.aload_n 2, 1) := by decide +kernel
theorem dL_law_979 : decode cL_law 979 = .ok (.aload_n 0, 1) := by decide +kernel
theorem dL_law_980 : decode cL_law 980 = .ok (.iload_n 3, 1) := by decide +kernel
theorem dL_law_981 : decode cL_law 981 = .ok (.iconst 1, 1) := by decide +kernel
theorem dL_law_982 : decode cL_law 982 = .ok (.iadd, 1) := by decide +kernel
theorem dL_law_983 : decode cL_law 983 = .ok (.iaload, 1) := by decide +kernel
theorem dL_law_984 : decode cL_law 984 = .ok (.aload_n 0, 1) := by decide +kernel
theorem dL_law_985 : decode cL_law 985 = .ok (.iload_n 3, 1) := by decide +kernel
theorem dL_law_986 : decode cL_law 986 = .ok (.iconst 2, 1) := by decide +kernel
theorem dL_law_987 : decode cL_law 987 = .ok (.iadd, 1) := by decide +kernel
theorem dL_law_988 : decode cL_law 988 = .ok (.iaload, 1) := by decide +kernel
theorem dL_law_989 : decode cL_law 989 = .ok (.aload_n 0, 1) := by decide +kernel
theorem dL_law_990 : decode cL_law 990 = .ok (.iload_n 3, 1) := by decide +kernel
theorem dL_law_991 : decode cL_law 991 = .ok (.iconst 3, 1) := by decide +kernel
theorem dL_law_992 : decode cL_law 992 = .ok (.iadd, 1) := by decide +kernel
theorem dL_law_993 : decode cL_law 993 = .ok (.iaload, 1) := by decide +kernel
theorem dL_law_994 : decode cL_law 994 = .ok (.invokevirtual 128, 3) := by decide +kernel
theorem dL_law_997 : decode cL_law 997 = .ok (.if_icmp .eq 351, 3) := by decide +kernel
theorem dL_law_1000 : decode cL_law 1000 = .ok (.iconst 0, 1) := by decide +kernel
theorem dL_law_1001 : decode cL_law 1001 = .ok (.ireturn, 1) := by decide +kernel
theorem dL_law_1002 : decode cL_law 1002 = .ok (.aload_n 1, 1) := by decide +kernel
theorem dL_law_1003 : decode cL_law 1003 = .ok (.aload_n 0, 1) := by decide +kernel
theorem dL_law_1004 : decode cL_law 1004 = .ok (.iload_n 3, 1) := by decide +kernel
theorem dL_law_1005 : decode cL_law 1005 = .ok (.iconst 1, 1) := by decide +kernel
theorem dL_law_1006 : decode cL_law 1006 = .ok (.iadd, 1) := by decide +kernel
theorem dL_law_1007 : decode cL_law 1007 = .ok (.iaload, 1) := by decide +kernel
theorem dL_law_1008 : decode cL_law 1008 = .ok (.invokevirtual 129, 3) := by decide +kernel
theorem dL_law_1011 : decode cL_law 1011 = .ok (.aload_n 2, 1) := by decide +kernel
theorem dL_law_1012 : decode cL_law 1012 = .ok (.aload_n 0, 1) := by decide +kernel
theorem dL_law_1013 : decode cL_law 1013 = .ok (.iload_n 3, 1) := by decide +kernel
theorem dL_law_1014 : decode cL_law 1014 = .ok (.iconst 1, 1) := by decide +kernel
theorem dL_law_1015 : decode cL_law 1015 = .ok (.iadd, 1) := by decide +kernel
theorem dL_law_1016 : decode cL_law 1016 = .ok (.iaload, 1) := by decide +kernel
theorem dL_law_1017 : decode cL_law 1017 = .ok (.invokevirtual 132, 3) := by decide +kernel
theorem dL_law_1020 : decode cL_law 1020 = .ok (.if_icmp .eq 328, 3) := by decide +kernel
theorem dL_law_1023 : decode cL_law 1023 = .ok (.iconst 0, 1) := by decide +kernel
theorem dL_law_1024 : decode cL_law 1024 = .ok (.ireturn, 1) := by decide +kernel
theorem dL_law_1025 : decode cL_law 1025 = .ok (.aload_n 1, 1) := by decide +kernel
theorem dL_law_1026 : decode cL_law 1026 = .ok (.aload_n 0, 1) := by decide +kernel
theorem dL_law_1027 : decode cL_law 1027 = .ok (.iload_n 3, 1) := by decide +kernel
theorem dL_law_1028 : decode cL_law 1028 = .ok (.iconst 1, 1) := by decide +kernel
theorem dL_law_1029 : decode cL_law 1029 = .ok (.iadd, 1) := by decide +kernel
theorem dL_law_1030 : decode cL_law 1030 = .ok (.iaload, 1) := by decide +kernel
theorem dL_law_1031 : decode cL_law 1031 = .ok (.invokevirtual 133, 3) := by decide +kernel
theorem dL_law_1034 : decode cL_law 1034 = .ok (.aload_n 2, 1) := by decide +kernel
theorem dL_law_1035 : decode cL_law 1035 = .ok (.aload_n 0, 1) := by decide +kernel
theorem dL_law_1036 : decode cL_law 1036 = .ok (.iload_n 3, 1) := by decide +kernel
theorem dL_law_1037 : decode cL_law 1037 = .ok (.iconst 1, 1) := by decide +kernel
theorem dL_law_1038 : decode cL_law 1038 = .ok (.iadd, 1) := by decide +kernel
theorem dL_law_1039 : decode cL_law 1039 = .ok (.iaload, 1) := by decide +kernel
theorem dL_law_1040 : decode cL_law 1040 = .ok (.invokevirtual 136, 3) := by decide +kernel
theorem dL_law_1043 : decode cL_law 1043 = .ok (.if_icmp .eq 305, 3) := by decide +kernel
theorem dL_law_1046 : decode cL_law 1046 = .ok (.iconst 0, 1) := by decide +kernel
theorem dL_law_1047 : decode cL_law 1047 = .ok (.ireturn, 1) := by decide +kernel
theorem dL_law_1048 : decode cL_law 1048 = .ok (.aload_n 1, 1) := by decide +kernel
theorem dL_law_1049 : decode cL_law 1049 = .ok (.aload_n 0, 1) := by decide +kernel
theorem dL_law_1050 : decode cL_law 1050 = .ok (.iload_n 3, 1) := by decide +kernel
theorem dL_law_1051 : decode cL_law 1051 = .ok (.iconst 1, 1) := by decide +kernel
theorem dL_law_1052 : decode cL_law 1052 = .ok (.iadd, 1) := by decide +kernel
theorem dL_law_1053 : decode cL_law 1053 = .ok (.iaload, 1) := by decide +kernel
theorem dL_law_1054 : decode cL_law 1054 = .ok (.aload_n 0, 1) := by decide +kernel
theorem dL_law_1055 : decode cL_law 1055 = .ok (.iload_n 3, 1) := by decide +kernel
theorem dL_law_1056 : decode cL_law 1056 = .ok (.iconst 2, 1) := by decide +kernel
theorem dL_law_1057 : decode cL_law 1057 = .ok (.iadd, 1) := by decide +kernel
theorem dL_law_1058 : decode cL_law 1058 = .ok (.iaload, 1) := by decide +kernel
theorem dL_law_1059 : decode cL_law 1059 = .ok (.aload_n 0, 1) := by decide +kernel
theorem dL_law_1060 : decode cL_law 1060 = .ok (.iload_n 3, 1) := by decide +kernel
theorem dL_law_1061 : decode cL_law 1061 = .ok (.iconst 3, 1) := by decide +kernel
theorem dL_law_1062 : decode cL_law 1062 = .ok (.iadd, 1) := by decide +kernel
theorem dL_law_1063 : decode cL_law 1063 = .ok (.iaload, 1) := by decide +kernel
theorem dL_law_1064 : decode cL_law 1064 = .ok (.aload_n 0, 1) := by decide +kernel
theorem dL_law_1065 : decode cL_law 1065 = .ok (.iload_n 3, 1) := by decide +kernel
theorem dL_law_1066 : decode cL_law 1066 = .ok (.iconst 4, 1) := by decide +kernel
theorem dL_law_1067 : decode cL_law 1067 = .ok (.iadd, 1) := by decide +kernel
theorem dL_law_1068 : decode cL_law 1068 = .ok (.iaload, 1) := by decide +kernel
theorem dL_law_1069 : decode cL_law 1069 = .ok (.aload_n 0, 1) := by decide +kernel
theorem dL_law_1070 : decode cL_law 1070 = .ok (.iload_n 3, 1) := by decide +kernel
theorem dL_law_1071 : decode cL_law 1071 = .ok (.iconst 5, 1) := by decide +kernel
theorem dL_law_1072 : decode cL_law 1072 = .ok (.iadd, 1) := by decide +kernel
theorem dL_law_1073 : decode cL_law 1073 = .ok (.iaload, 1) := by decide +kernel
theorem dL_law_1074 : decode cL_law 1074 = .ok (.invokevirtual 137, 3) := by decide +kernel
theorem dL_law_1077 : decode cL_law 1077 = .ok (.aload_n 2, 1) := by decide +kernel
theorem dL_law_1078 : decode cL_law 1078 = .ok (.aload_n 0, 1) := by decide +kernel
theorem dL_law_1079 : decode cL_law 1079 = .ok (.iload_n 3, 1) := by decide +kernel
theorem dL_law_1080 : decode cL_law 1080 = .ok (.iconst 1, 1) := by decide +kernel
theorem dL_law_1081 : decode cL_law 1081 = .ok (.iadd, 1) := by decide +kernel
theorem dL_law_1082 : decode cL_law 1082 = .ok (.iaload, 1) := by decide +kernel
theorem dL_law_1083 : decode cL_law 1083 = .ok (.aload_n 0, 1) := by decide +kernel
theorem dL_law_1084 : decode cL_law 1084 = .ok (.iload_n 3, 1) := by decide +kernel
theorem dL_law_1085 : decode cL_law 1085 = .ok (.iconst 2, 1) := by decide +kernel
theorem dL_law_1086 : decode cL_law 1086 = .ok (.iadd, 1) := by decide +kernel
theorem dL_law_1087 : decode cL_law 1087 = .ok (.iaload, 1) := by decide +kernel
theorem dL_law_1088 : decode cL_law 1088 = .ok (.aload_n 0, 1) := by decide +kernel
theorem dL_law_1089 : decode cL_law 1089 = .ok (.iload_n 3, 1) := by decide +kernel
theorem dL_law_1090 : decode cL_law 1090 = .ok (.iconst 3, 1) := by decide +kernel
theorem dL_law_1091 : decode cL_law 1091 = .ok (.iadd, 1) := by decide +kernel
theorem dL_law_1092 : decode cL_law 1092 = .ok (.iaload, 1) := by decide +kernel
theorem dL_law_1093 : decode cL_law 1093 = .ok (.aload_n 0, 1) := by decide +kernel
theorem dL_law_1094 : decode cL_law 1094 = .ok (.iload_n 3, 1) := by decide +kernel
theorem dL_law_1095 : decode cL_law 1095 = .ok (.iconst 4, 1) := by decide +kernel
theorem dL_law_1096 : decode cL_law 1096 = .ok (.iadd, 1) := by decide +kernel
theorem dL_law_1097 : decode cL_law 1097 = .ok (.iaload, 1) := by decide +kernel
theorem dL_law_1098 : decode cL_law 1098 = .ok (.aload_n 0, 1) := by decide +kernel
theorem dL_law_1099 : decode cL_law 1099 = .ok (.iload_n 3, 1) := by decide +kernel
theorem dL_law_1100 : decode cL_law 1100 = .ok (.iconst 5, 1) := by decide +kernel
theorem dL_law_1101 : decode cL_law 1101 = .ok (.iadd, 1) := by decide +kernel
theorem dL_law_1102 : decode cL_law 1102 = .ok (.iaload, 1) := by decide +kernel
theorem dL_law_1103 : decode cL_law 1103 = .ok (.invokevirtual 141, 3) := by decide +kernel
theorem dL_law_1106 : decode cL_law 1106 = .ok (.if_icmp .eq 242, 3) := by decide +kernel
theorem dL_law_1109 : decode cL_law 1109 = .ok (.iconst 0, 1) := by decide +kernel
theorem dL_law_1110 : decode cL_law 1110 = .ok (.ireturn, 1) := by decide +kernel
theorem dL_law_1111 : decode cL_law 1111 = .ok (.aload_n 1, 1) := by decide +kernel
theorem dL_law_1112 : decode cL_law 1112 = .ok (.aload_n 0, 1) := by decide +kernel
theorem dL_law_1113 : decode cL_law 1113 = .ok (.iload_n 3, 1) := by decide +kernel
theorem dL_law_1114 : decode cL_law 1114 = .ok (.iconst 1, 1) := by decide +kernel
theorem dL_law_1115 : decode cL_law 1115 = .ok (.iadd, 1) := by decide +kernel
theorem dL_law_1116 : decode cL_law 1116 = .ok (.iaload, 1) := by decide +kernel
theorem dL_law_1117 : decode cL_law 1117 = .ok (.aload_n 0, 1) := by decide +kernel
theorem dL_law_1118 : decode cL_law 1118 = .ok (.iload_n 3, 1) := by decide +kernel
theorem dL_law_1119 : decode cL_law 1119 = .ok (.iconst 2, 1) := by decide +kernel
theorem dL_law_1120 : decode cL_law 1120 = .ok (.iadd, 1) := by decide +kernel
theorem dL_law_1121 : decode cL_law 1121 = .ok (.iaload, 1) := by decide +kernel
theorem dL_law_1122 : decode cL_law 1122 = .ok (.aload_n 0, 1) := by decide +kernel
theorem dL_law_1123 : decode cL_law 1123 = .ok (.iload_n 3, 1) := by decide +kernel
theorem dL_law_1124 : decode cL_law 1124 = .ok (.iconst 3, 1) := by decide +kernel
theorem dL_law_1125 : decode cL_law 1125 = .ok (.iadd, 1) := by decide +kernel
theorem dL_law_1126 : decode cL_law 1126 = .ok (.iaload, 1) := by decide +kernel
theorem dL_law_1127 : decode cL_law 1127 = .ok (.invokevirtual 142, 3) := by decide +kernel
theorem dL_law_1130 : decode cL_law 1130 = .ok (.aload_n 2, 1) := by decide +kernel
theorem dL_law_1131 : decode cL_law 1131 = .ok (.aload_n 0, 1) := by decide +kernel
theorem dL_law_1132 : decode cL_law 1132 = .ok (.iload_n 3, 1) := by decide +kernel
theorem dL_law_1133 : decode cL_law 1133 = .ok (.iconst 1, 1) := by decide +kernel
theorem dL_law_1134 : decode cL_law 1134 = .ok (.iadd, 1) := by decide +kernel
theorem dL_law_1135 : decode cL_law 1135 = .ok (.iaload, 1) := by decide +kernel
theorem dL_law_1136 : decode cL_law 1136 = .ok (.aload_n 0, 1) := by decide +kernel
theorem dL_law_1137 : decode cL_law 1137 = .ok (.iload_n 3, 1) := by decide +kernel
theorem dL_law_1138 : decode cL_law 1138 = .ok (.iconst 2, 1) := by decide +kernel
theorem dL_law_1139 : decode cL_law 1139 = .ok (.iadd, 1) := by decide +kernel
theorem dL_law_1140 : decode cL_law 1140 = .ok (.iaload, 1) := by decide +kernel
theorem dL_law_1141 : decode cL_law 1141 = .ok (.aload_n 0, 1) := by decide +kernel
theorem dL_law_1142 : decode cL_law 1142 = .ok (.iload_n 3, 1) := by decide +kernel
theorem dL_law_1143 : decode cL_law 1143 = .ok (.iconst 3, 1) := by decide +kernel
theorem dL_law_1144 : decode cL_law 1144 = .ok (.iadd, 1) := by decide +kernel
theorem dL_law_1145 : decode cL_law 1145 = .ok (.iaload, 1) := by decide +kernel
theorem dL_law_1146 : decode cL_law 1146 = .ok (.invokevirtual 145, 3) := by decide +kernel
theorem dL_law_1149 : decode cL_law 1149 = .ok (.if_icmp .eq 199, 3) := by decide +kernel
theorem dL_law_1152 : decode cL_law 1152 = .ok (.iconst 0, 1) := by decide +kernel
theorem dL_law_1153 : decode cL_law 1153 = .ok (.ireturn, 1) := by decide +kernel
theorem dL_law_1154 : decode cL_law 1154 = .ok (.aload_n 1, 1) := by decide +kernel
theorem dL_law_1155 : decode cL_law 1155 = .ok (.aload_n 0, 1) := by decide +kernel
theorem dL_law_1156 : decode cL_law 1156 = .ok (.iload_n 3, 1) := by decide +kernel
theorem dL_law_1157 : decode cL_law 1157 = .ok (.iconst 1, 1) := by decide +kernel
theorem dL_law_1158 : decode cL_law 1158 = .ok (.iadd, 1) := by decide +kernel
theorem dL_law_1159 : decode cL_law 1159 = .ok (.iaload, 1) := by decide +kernel
theorem dL_law_1160 : decode cL_law 1160 = .ok (.aload_n 0, 1) := by decide +kernel
theorem dL_law_1161 : decode cL_law 1161 = .ok (.iload_n 3, 1) := by decide +kernel
theorem dL_law_1162 : decode cL_law 1162 = .ok (.iconst 2, 1) := by decide +kernel
theorem dL_law_1163 : decode cL_law 1163 = .ok (.iadd, 1) := by decide +kernel
theorem dL_law_1164 : decode cL_law 1164 = .ok (.iaload, 1) := by decide +kernel
theorem dL_law_1165 : decode cL_law 1165 = .ok (.invokevirtual 146, 3) := by decide +kernel
theorem dL_law_1168 : decode cL_law 1168 = .ok (.aload_n 2, 1) := by decide +kernel
theorem dL_law_1169 : decode cL_law 1169 = .ok (.aload_n 0, 1) := by decide +kernel
theorem dL_law_1170 : decode cL_law 1170 = .ok (.iload_n 3, 1) := by decide +kernel
theorem dL_law_1171 : decode cL_law 1171 = .ok (.iconst 1, 1) := by decide +kernel
theorem dL_law_1172 : decode cL_law 1172 = .ok (.iadd, 1) := by decide +kernel
theorem dL_law_1173 : decode cL_law 1173 = .ok (.iaload, 1) := by decide +kernel
theorem dL_law_1174 : decode cL_law 1174 = .ok (.aload_n 0, 1) := by decide +kernel
theorem dL_law_1175 : decode cL_law 1175 = .ok (.iload_n 3, 1) := by decide +kernel
theorem dL_law_1176 : decode cL_law 1176 = .ok (.iconst 2, 1) := by decide +kernel
theorem dL_law_1177 : decode cL_law 1177 = .ok (.iadd, 1) := by decide +kernel
theorem dL_law_1178 : decode cL_law 1178 = .ok (.iaload, 1) := by decide +kernel
theorem dL_law_1179 : decode cL_law 1179 = .ok (.invokevirtual 149, 3) := by decide +kernel
theorem dL_law_1182 : decode cL_law 1182 = .ok (.if_icmp .eq 166, 3) := by decide +kernel
theorem dL_law_1185 : decode cL_law 1185 = .ok (.iconst 0, 1) := by decide +kernel
theorem dL_law_1186 : decode cL_law 1186 = .ok (.ireturn, 1) := by decide +kernel
theorem dL_law_1187 : decode cL_law 1187 = .ok (.aload_n 1, 1) := by decide +kernel
theorem dL_law_1188 : decode cL_law 1188 = .ok (.aload_n 0, 1) := by decide +kernel
theorem dL_law_1189 : decode cL_law 1189 = .ok (.iload_n 3, 1) := by decide +kernel
theorem dL_law_1190 : decode cL_law 1190 = .ok (.iconst 1, 1) := by decide +kernel
theorem dL_law_1191 : decode cL_law 1191 = .ok (.iadd, 1) := by decide +kernel
theorem dL_law_1192 : decode cL_law 1192 = .ok (.iaload, 1) := by decide +kernel
theorem dL_law_1193 : decode cL_law 1193 = .ok (.aload_n 0, 1) := by decide +kernel
theorem dL_law_1194 : decode cL_law 1194 = .ok (.iload_n 3, 1) := by decide +kernel
theorem dL_law_1195 : decode cL_law 1195 = .ok (.iconst 2, 1) := by decide +kernel
theorem dL_law_1196 : decode cL_law 1196 = .ok (.iadd, 1) := by decide +kernel
theorem dL_law_1197 : decode cL_law 1197 = .ok (.iaload, 1) := by decide +kernel
theorem dL_law_1198 : decode cL_law 1198 = .ok (.invokevirtual 150, 3) := by decide +kernel
theorem dL_law_1201 : decode cL_law 1201 = .ok (.aload_n 2, 1) := by decide +kernel
theorem dL_law_1202 : decode cL_law 1202 = .ok (.aload_n 0, 1) := by decide +kernel
theorem dL_law_1203 : decode cL_law 1203 = .ok (.iload_n 3, 1) := by decide +kernel
theorem dL_law_1204 : decode cL_law 1204 = .ok (.iconst 1, 1) := by decide +kernel
theorem dL_law_1205 : decode cL_law 1205 = .ok (.iadd, 1) := by decide +kernel
theorem dL_law_1206 : decode cL_law 1206 = .ok (.iaload, 1) := by decide +kernel
theorem dL_law_1207 : decode cL_law 1207 = .ok (.aload_n 0, 1) := by decide +kernel
theorem dL_law_1208 : decode cL_law 1208 = .ok (.iload_n 3, 1) := by decide +kernel
theorem dL_law_1209 : decode cL_law 1209 = .ok (.iconst 2, 1) := by decide +kernel
theorem dL_law_1210 : decode cL_law 1210 = .ok (.iadd, 1) := by decide +kernel
theorem dL_law_1211 : decode cL_law 1211 = .ok (.iaload, 1) := by decide +kernel
theorem dL_law_1212 : decode cL_law 1212 = .ok (.invokevirtual 153, 3) := by decide +kernel
theorem dL_law_1215 : decode cL_law 1215 = .ok (.if_icmp .eq 133, 3) := by decide +kernel
theorem dL_law_1218 : decode cL_law 1218 = .ok (.iconst 0, 1) := by decide +kernel
theorem dL_law_1219 : decode cL_law 1219 = .ok (.ireturn, 1) := by decide +kernel
theorem dL_law_1220 : decode cL_law 1220 = .ok (.aload_n 1, 1) := by decide +kernel
theorem dL_law_1221 : decode cL_law 1221 = .ok (.aload_n 0, 1) := by decide +kernel
theorem dL_law_1222 : decode cL_law 1222 = .ok (.iload_n 3, 1) := by decide +kernel
theorem dL_law_1223 : decode cL_law 1223 = .ok (.iconst 1, 1) := by decide +kernel
theorem dL_law_1224 : decode cL_law 1224 = .ok (.iadd, 1) := by decide +kernel
theorem dL_law_1225 : decode cL_law 1225 = .ok (.iaload, 1) := by decide +kernel
theorem dL_law_1226 : decode cL_law 1226 = .ok (.aload_n 0, 1) := by decide +kernel
theorem dL_law_1227 : decode cL_law 1227 = .ok (.iload_n 3, 1) := by decide +kernel
theorem dL_law_1228 : decode cL_law 1228 = .ok (.iconst 2, 1) := by decide +kernel
theorem dL_law_1229 : decode cL_law 1229 = .ok (.iadd, 1) := by decide +kernel
theorem dL_law_1230 : decode cL_law 1230 = .ok (.iaload, 1) := by decide +kernel
theorem dL_law_1231 : decode cL_law 1231 = .ok (.invokevirtual 154, 3) := by decide +kernel
theorem dL_law_1234 : decode cL_law 1234 = .ok (.aload_n 2, 1) := by decide +kernel
theorem dL_law_1235 : decode cL_law 1235 = .ok (.aload_n 0, 1) := by decide +kernel
theorem dL_law_1236 : decode cL_law 1236 = .ok (.iload_n 3, 1) := by decide +kernel
theorem dL_law_1237 : decode cL_law 1237 = .ok (.iconst 1, 1) := by decide +kernel
theorem dL_law_1238 : decode cL_law 1238 = .ok (.iadd, 1) := by decide +kernel
theorem dL_law_1239 : decode cL_law 1239 = .ok (.iaload, 1) := by decide +kernel
theorem dL_law_1240 : decode cL_law 1240 = .ok (.aload_n 0, 1) := by decide +kernel
theorem dL_law_1241 : decode cL_law 1241 = .ok (.iload_n 3, 1) := by decide +kernel
theorem dL_law_1242 : decode cL_law 1242 = .ok (.iconst 2, 1) := by decide +kernel
theorem dL_law_1243 : decode cL_law 1243 = .ok (.iadd, 1) := by decide +kernel
theorem dL_law_1244 : decode cL_law 1244 = .ok (.iaload, 1) := by decide +kernel
theorem dL_law_1245 : decode cL_law 1245 = .ok (.invokevirtual 157, 3) := by decide +kernel
theorem dL_law_1248 : decode cL_law 1248 = .ok (.if_icmp .eq 100, 3) := by decide +kernel
theorem dL_law_1251 : decode cL_law 1251 = .ok (.iconst 0, 1) := by decide +kernel
theorem dL_law_1252 : decode cL_law 1252 = .ok (.ireturn, 1) := by decide +kernel
theorem dL_law_1253 : decode cL_law 1253 = .ok (.aload_n 1, 1) := by decide +kernel
theorem dL_law_1254 : decode cL_law 1254 = .ok (.aload_n 0, 1) := by decide +kernel
theorem dL_law_1255 : decode cL_law 1255 = .ok (.iload_n 3, 1) := by decide +kernel
theorem dL_law_1256 : decode cL_law 1256 = .ok (.iconst 1, 1) := by decide +kernel
theorem dL_law_1257 : decode cL_law 1257 = .ok (.iadd, 1) := by decide +kernel
theorem dL_law_1258 : decode cL_law 1258 = .ok (.iaload, 1) := by decide +kernel
theorem dL_law_1259 : decode cL_law 1259 = .ok (.invokevirtual 158, 3) := by decide +kernel
theorem dL_law_1262 : decode cL_law 1262 = .ok (.aload_n 2, 1) := by decide +kernel
theorem dL_law_1263 : decode cL_law 1263 = .ok (.aload_n 0, 1) := by decide +kernel
theorem dL_law_1264 : decode cL_law 1264 = .ok (.iload_n 3, 1) := by decide +kernel
theorem dL_law_1265 : decode cL_law 1265 = .ok (.iconst 1, 1) := by decide +kernel
theorem dL_law_1266 : decode cL_law 1266 = .ok (.iadd, 1) := by decide +kernel
theorem dL_law_1267 : decode cL_law 1267 = .ok (.iaload, 1) := by decide +kernel
theorem dL_law_1268 : decode cL_law 1268 = .ok (.invokevirtual 161, 3) := by decide +kernel
theorem dL_law_1271 : decode cL_law 1271 = .ok (.if_icmp .eq 77, 3) := by decide +kernel
theorem dL_law_1274 : decode cL_law 1274 = .ok (.iconst 0, 1) := by decide +kernel
theorem dL_law_1275 : decode cL_law 1275 = .ok (.ireturn, 1) := by decide +kernel
theorem dL_law_1276 : decode cL_law 1276 = .ok (.aload_n 1, 1) := by decide +kernel
theorem dL_law_1277 : decode cL_law 1277 = .ok (.aload_n 0, 1) := by decide +kernel
theorem dL_law_1278 : decode cL_law 1278 = .ok (.iload_n 3, 1) := by decide +kernel
theorem dL_law_1279 : decode cL_law 1279 = .ok (.iconst 1, 1) := by decide +kernel
theorem dL_law_1280 : decode cL_law 1280 = .ok (.iadd, 1) := by decide +kernel
theorem dL_law_1281 : decode cL_law 1281 = .ok (.iaload, 1) := by decide +kernel
theorem dL_law_1282 : decode cL_law 1282 = .ok (.invokevirtual 162, 3) := by decide +kernel
theorem dL_law_1285 : decode cL_law 1285 = .ok (.aload_n 2, 1) := by decide +kernel
theorem dL_law_1286 : decode cL_law 1286 = .ok (.aload_n 0, 1) := by decide +kernel
theorem dL_law_1287 : decode cL_law 1287 = .ok (.iload_n 3, 1) := by decide +kernel
theorem dL_law_1288 : decode cL_law 1288 = .ok (.iconst 1, 1) := by decide +kernel
theorem dL_law_1289 : decode cL_law 1289 = .ok (.iadd, 1) := by decide +kernel
theorem dL_law_1290 : decode cL_law 1290 = .ok (.iaload, 1) := by decide +kernel
theorem dL_law_1291 : decode cL_law 1291 = .ok (.invokevirtual 165, 3) := by decide +kernel
theorem dL_law_1294 : decode cL_law 1294 = .ok (.if_icmp .eq 54, 3) := by decide +kernel
theorem dL_law_1297 : decode cL_law 1297 = .ok (.iconst 0, 1) := by decide +kernel
theorem dL_law_1298 : decode cL_law 1298 = .ok (.ireturn, 1) := by decide +kernel
theorem dL_law_1299 : decode cL_law 1299 = .ok (.aload_n 1, 1) := by decide +kernel
theorem dL_law_1300 : decode cL_law 1300 = .ok (.invokevirtual 166, 3) := by decide +kernel
theorem dL_law_1303 : decode cL_law 1303 = .ok (.aload_n 2, 1) := by decide +kernel
theorem dL_law_1304 : decode cL_law 1304 = .ok (.invokevirtual 169, 3) := by decide +kernel
theorem dL_law_1307 : decode cL_law 1307 = .ok (.if_icmp .eq 41, 3) := by decide +kernel
theorem dL_law_1310 : decode cL_law 1310 = .ok (.iconst 0, 1) := by decide +kernel
theorem dL_law_1311 : decode cL_law 1311 = .ok (.ireturn, 1) := by decide +kernel
theorem dL_law_1312 : decode cL_law 1312 = .ok (.aload_n 1, 1) := by decide +kernel
theorem dL_law_1313 : decode cL_law 1313 = .ok (.invokevirtual 170, 3) := by decide +kernel
theorem dL_law_1316 : decode cL_law 1316 = .ok (.aload_n 2, 1) := by decide +kernel
theorem dL_law_1317 : decode cL_law 1317 = .ok (.invokevirtual 173, 3) := by decide +kernel
theorem dL_law_1320 : decode cL_law 1320 = .ok (.if_icmp .eq 28, 3) := by decide +kernel
theorem dL_law_1323 : decode cL_law 1323 = .ok (.iconst 0, 1) := by decide +kernel
theorem dL_law_1324 : decode cL_law 1324 = .ok (.ireturn, 1) := by decide +kernel
theorem dL_law_1325 : decode cL_law 1325 = .ok (.aload_n 1, 1) := by decide +kernel
theorem dL_law_1326 : decode cL_law 1326 = .ok (.aload_n 0, 1) := by decide +kernel
theorem dL_law_1327 : decode cL_law 1327 = .ok (.iload_n 3, 1) := by decide +kernel
theorem dL_law_1328 : decode cL_law 1328 = .ok (.iconst 1, 1) := by decide +kernel
theorem dL_law_1329 : decode cL_law 1329 = .ok (.iadd, 1) := by decide +kernel
theorem dL_law_1330 : decode cL_law 1330 = .ok (.iaload, 1) := by decide +kernel
theorem dL_law_1331 : decode cL_law 1331 = .ok (.invokevirtual 174, 3) := by decide +kernel
theorem dL_law_1334 : decode cL_law 1334 = .ok (.aload_n 2, 1) := by decide +kernel
theorem dL_law_1335 : decode cL_law 1335 = .ok (.aload_n 0, 1) := by decide +kernel
theorem dL_law_1336 : decode cL_law 1336 = .ok (.iload_n 3, 1) := by decide +kernel
theorem dL_law_1337 : decode cL_law 1337 = .ok (.iconst 1, 1) := by decide +kernel
theorem dL_law_1338 : decode cL_law 1338 = .ok (.iadd, 1) := by decide +kernel
theorem dL_law_1339 : decode cL_law 1339 = .ok (.iaload, 1) := by decide +kernel
theorem dL_law_1340 : decode cL_law 1340 = .ok (.invokevirtual 177, 3) := by decide +kernel
theorem dL_law_1343 : decode cL_law 1343 = .ok (.if_icmp .eq 5, 3) := by decide +kernel
theorem dL_law_1346 : decode cL_law 1346 = .ok (.iconst 0, 1) := by decide +kernel
theorem dL_law_1347 : decode cL_law 1347 = .ok (.ireturn, 1) := by decide +kernel
theorem dL_law_1348 : decode cL_law 1348 = .ok (.iinc 3 6, 3) := by decide +kernel
theorem dL_law_1351 : decode cL_law 1351 = .ok (.goto (-1333), 3) := by decide +kernel
theorem dL_law_1354 : decode cL_law 1354 = .ok (.iconst 1, 1) := by decide +kernel
theorem dL_law_1355 : decode cL_law 1355 = .ok (.ireturn, 1) := by decide +kernel
