theorem dX9_init_0 : decode cX9_init 0 = .ok (.aload_n 0, 1) := by decide +kernel
theorem dX9_init_1 : decode cX9_init 1 = .ok (.invokespecial 1, 3) := by decide +kernel
theorem dX9_init_4 : decode cX9_init 4 = .ok (.aload_n 0, 1) := by decide +kernel
theorem dX9_init_5 : decode cX9_init 5 = .ok (.sipush 300, 3) := by decide +kernel
theorem dX9_init_8 : decode cX9_init 8 = .ok (.newarray .int, 2) := by decide +kernel
theorem dX9_init_10 : decode cX9_init 10 = .ok (.putfield 7, 3) := by decide +kernel
theorem dX9_init_13 : decode cX9_init 13 = .ok (.aload_n 0, 1) := by decide +kernel
theorem dX9_init_14 : decode cX9_init 14 = .ok (.sipush 2800, 3) := by decide +kernel
theorem dX9_init_17 : decode cX9_init 17 = .ok (.newarray .int, 2) := by decide +kernel
theorem dX9_init_19 : decode cX9_init 19 = .ok (.putfield 13, 3) := by decide +kernel
theorem dX9_init_22 : decode cX9_init 22 = .ok (.aload_n 0, 1) := by decide +kernel
theorem dX9_init_23 : decode cX9_init 23 = .ok (.sipush 2800, 3) := by decide +kernel
theorem dX9_init_26 : decode cX9_init 26 = .ok (.newarray .int, 2) := by decide +kernel
theorem dX9_init_28 : decode cX9_init 28 = .ok (.putfield 16, 3) := by decide +kernel
theorem dX9_init_31 : decode cX9_init 31 = .ok (.aload_n 0, 1) := by decide +kernel
theorem dX9_init_32 : decode cX9_init 32 = .ok (.bipush 7, 2) := by decide +kernel
theorem dX9_init_34 : decode cX9_init 34 = .ok (.newarray .int, 2) := by decide +kernel
theorem dX9_init_36 : decode cX9_init 36 = .ok (.putfield 19, 3) := by decide +kernel
theorem dX9_init_39 : decode cX9_init 39 = .ok (.aload_n 0, 1) := by decide +kernel
theorem dX9_init_40 : decode cX9_init 40 = .ok (.bipush 7, 2) := by decide +kernel
theorem dX9_init_42 : decode cX9_init 42 = .ok (.newarray .int, 2) := by decide +kernel
theorem dX9_init_44 : decode cX9_init 44 = .ok (.putfield 22, 3) := by decide +kernel
theorem dX9_init_47 : decode cX9_init 47 = .ok (.aload_n 0, 1) := by decide +kernel
theorem dX9_init_48 : decode cX9_init 48 = .ok (.bipush 91, 2) := by decide +kernel
theorem dX9_init_50 : decode cX9_init 50 = .ok (.newarray .int, 2) := by decide +kernel
theorem dX9_init_52 : decode cX9_init 52 = .ok (.putfield 25, 3) := by decide +kernel
theorem dX9_init_55 : decode cX9_init 55 = .ok (.aload_n 0, 1) := by decide +kernel
theorem dX9_init_56 : decode cX9_init 56 = .ok (.bipush 91, 2) := by decide +kernel
theorem dX9_init_58 : decode cX9_init 58 = .ok (.newarray .int, 2) := by decide +kernel
theorem dX9_init_60 : decode cX9_init 60 = .ok (.putfield 28, 3) := by decide +kernel
theorem dX9_init_63 : decode cX9_init 63 = .ok (.aload_n 0, 1) := by decide +kernel
theorem dX9_init_64 : decode cX9_init 64 = .ok (.sipush 320, 3) := by decide +kernel
theorem dX9_init_67 : decode cX9_init 67 = .ok (.newarray .int, 2) := by decide +kernel
theorem dX9_init_69 : decode cX9_init 69 = .ok (.putfield 31, 3) := by decide +kernel
theorem dX9_init_72 : decode cX9_init 72 = .ok (.aload_n 0, 1) := by decide +kernel
theorem dX9_init_73 : decode cX9_init 73 = .ok (.sipush 320, 3) := by decide +kernel
theorem dX9_init_76 : decode cX9_init 76 = .ok (.newarray .int, 2) := by decide +kernel
theorem dX9_init_78 : decode cX9_init 78 = .ok (.putfield 34, 3) := by decide +kernel
theorem dX9_init_81 : decode cX9_init 81 = .ok (.aload_n 0, 1) := by decide +kernel
theorem dX9_init_82 : decode cX9_init 82 = .ok (.iconst 4, 1) := by decide +kernel
theorem dX9_init_83 : decode cX9_init 83 = .ok (.newarray .long, 2) := by decide +kernel
theorem dX9_init_85 : decode cX9_init 85 = .ok (.putfield 37, 3) := by decide +kernel
theorem dX9_init_88 : decode cX9_init 88 = .ok (.aload_n 0, 1) := by decide +kernel
theorem dX9_init_89 : decode cX9_init 89 = .ok (.bipush 10, 2) := by decide +kernel
theorem dX9_init_91 : decode cX9_init 91 = .ok (.newarray .int, 2) := by decide +kernel
theorem dX9_init_93 : decode cX9_init 93 = .ok (.putfield 41, 3) := by decide +kernel
theorem dX9_init_96 : decode cX9_init 96 = .ok (.aload_n 0, 1) := by decide +kernel
theorem dX9_init_97 : decode cX9_init 97 = .ok (.bipush 10, 2) := by decide +kernel
theorem dX9_init_99 : decode cX9_init 99 = .ok (.newarray .int, 2) := by decide +kernel
theorem dX9_init_101 : decode cX9_init 101 = .ok (.putfield 44, 3) := by decide +kernel
theorem dX9_init_104 : decode cX9_init 104 = .ok (.aload_n 0, 1) := by decide +kernel
theorem dX9_init_105 : decode cX9_init 105 = .ok (.bipush 10, 2) := by decide +kernel
theorem dX9_init_107 : decode cX9_init 107 = .ok (.newarray .int, 2) := by decide +kernel
theorem dX9_init_109 : decode cX9_init 109 = .ok (.putfield 47, 3) := by decide +kernel
theorem dX9_init_112 : decode cX9_init 112 = .ok (.aload_n 0, 1) := by decide +kernel
theorem dX9_init_113 : decode cX9_init 113 = .ok (.bipush 10, 2) := by decide +kernel
theorem dX9_init_115 : decode cX9_init 115 = .ok (.newarray .int, 2) := by decide +kernel
theorem dX9_init_117 : decode cX9_init 117 = .ok (.putfield 50, 3) := by decide +kernel
theorem dX9_init_120 : decode cX9_init 120 = .ok (.aload_n 0, 1) := by decide +kernel
theorem dX9_init_121 : decode cX9_init 121 = .ok (.bipush 10, 2) := by decide +kernel
theorem dX9_init_123 : decode cX9_init 123 = .ok (.newarray .int, 2) := by decide +kernel
theorem dX9_init_125 : decode cX9_init 125 = .ok (.putfield 53, 3) := by decide +kernel
theorem dX9_init_128 : decode cX9_init 128 = .ok (.aload_n 0, 1) := by decide +kernel
theorem dX9_init_129 : decode cX9_init 129 = .ok (.bipush 10, 2) := by decide +kernel
theorem dX9_init_131 : decode cX9_init 131 = .ok (.newarray .int, 2) := by decide +kernel
theorem dX9_init_133 : decode cX9_init 133 = .ok (.putfield 56, 3) := by decide +kernel
theorem dX9_init_136 : decode cX9_init 136 = .ok (.aload_n 0, 1) := by decide +kernel
theorem dX9_init_137 : decode cX9_init 137 = .ok (.sipush 320, 3) := by decide +kernel
theorem dX9_init_140 : decode cX9_init 140 = .ok (.newarray .long, 2) := by decide +kernel
theorem dX9_init_142 : decode cX9_init 142 = .ok (.putfield 59, 3) := by decide +kernel
theorem dX9_init_145 : decode cX9_init 145 = .ok (.aload_n 0, 1) := by decide +kernel
theorem dX9_init_146 : decode cX9_init 146 = .ok (.bipush 12, 2) := by decide +kernel
theorem dX9_init_148 : decode cX9_init 148 = .ok (.newarray .int, 2) := by decide +kernel
theorem dX9_init_150 : decode cX9_init 150 = .ok (.putfield 62, 3) := by decide +kernel
theorem dX9_init_153 : decode cX9_init 153 = .ok (.aload_n 0, 1) := by decide +kernel
theorem dX9_init_154 : decode cX9_init 154 = .ok (.bipush 12, 2) := by decide +kernel
theorem dX9_init_156 : decode cX9_init 156 = .ok (.newarray .int, 2) := by decide +kernel
theorem dX9_init_158 : decode cX9_init 158 = .ok (.putfield 65, 3) := by decide +kernel
theorem dX9_init_161 : decode cX9_init 161 = .ok (.aload_n 0, 1) := by decide +kernel
theorem dX9_init_162 : decode cX9_init 162 = .ok (.bipush 12, 2) := by decide +kernel
theorem dX9_init_164 : decode cX9_init 164 = .ok (.newarray .int, 2) := by decide +kernel
theorem dX9_init_166 : decode cX9_init 166 = .ok (.putfield 68, 3) := by decide +kernel
theorem dX9_init_169 : decode cX9_init 169 = .ok (.aload_n 0, 1) := by decide +kernel
theorem dX9_init_170 : decode cX9_init 170 = .ok (.bipush 12, 2) := by decide +kernel
theorem dX9_init_172 : decode cX9_init 172 = .ok (.newarray .int, 2) := by decide +kernel
theorem dX9_init_174 : decode cX9_init 174 = .ok (.putfield 71, 3) := by decide +kernel
theorem dX9_init_177 : decode cX9_init 177 = .ok (.aload_n 0, 1) := by decide +kernel
theorem dX9_init_178 : decode cX9_init 178 = .ok (.bipush 11, 2) := by decide +kernel
theorem dX9_init_180 : decode cX9_init 180 = .ok (.newarray .long, 2) := by decide +kernel
theorem dX9_init_182 : decode cX9_init 182 = .ok (.putfield 74, 3) := by decide +kernel
theorem dX9_init_185 : decode cX9_init 185 = .ok (.aload_n 0, 1) := by decide +kernel
theorem dX9_init_186 : decode cX9_init 186 = .ok (.bipush 100, 2) := by decide +kernel
theorem dX9_init_188 : decode cX9_init 188 = .ok (.newarray .int, 2) := by decide +kernel
theorem dX9_init_190 : decode cX9_init 190 = .ok (.putfield 77, 3) := by decide +kernel
theorem dX9_init_193 : decode cX9_init 193 = .ok (.aload_n 0, 1) := by decide +kernel
theorem dX9_init_194 : decode cX9_init 194 = .ok (.sipush 800, 3) := by decide +kernel
theorem dX9_init_197 : decode cX9_init 197 = .ok (.newarray .int, 2) := by decide +kernel
theorem dX9_init_199 : decode cX9_init 199 = .ok (.putfield 80, 3) := by decide +kernel
theorem dX9_init_202 : decode cX9_init 202 = .ok (.aload_n 0, 1) := by decide +kernel
theorem dX9_init_203 : decode cX9_init 203 = .ok (.sipush 320, 3) := by decide +kernel
theorem dX9_init_206 : decode cX9_init 206 = .ok (.newarray .int, 2) := by decide +kernel
theorem dX9_init_208 : decode cX9_init 208 = .ok (.putfield 83, 3) := by decide +kernel
theorem dX9_init_211 : decode cX9_init 211 = .ok (.aload_n 0, 1) := by decide +kernel
theorem dX9_init_212 : decode cX9_init 212 = .ok (.sipush 320, 3) := by decide +kernel
theorem dX9_init_215 : decode cX9_init 215 = .ok (.newarray .int, 2) := by decide +kernel
theorem dX9_init_217 : decode cX9_init 217 = .ok (.putfield 86, 3) := by decide +kernel
theorem dX9_init_220 : decode cX9_init 220 = .ok (.return_, 1) := by decide +kernel
theorem dX9_thrown_0 : decode cX9_thrown 0 = .ok (.aload_n 0, 1) := by decide +kernel
theorem dX9_thrown_1 : decode cX9_thrown 1 = .ok (.getfield 89, 3) := by decide +kernel
theorem dX9_thrown_4 : decode cX9_thrown 4 = .ok (.ireturn, 1) := by decide +kernel
theorem dX9_unit_0 : decode cX9_unit 0 = .ok (.aload_n 0, 1) := by decide +kernel
theorem dX9_unit_1 : decode cX9_unit 1 = .ok (.iconst 0, 1) := by decide +kernel
theorem dX9_unit_2 : decode cX9_unit 2 = .ok (.putfield 89, 3) := by decide +kernel
theorem dX9_unit_5 : decode cX9_unit 5 = .ok (.aload_n 0, 1) := by decide +kernel
theorem dX9_unit_6 : decode cX9_unit 6 = .ok (.getfield 93, 3) := by decide +kernel
theorem dX9_unit_9 : decode cX9_unit 9 = .ok (.sipush 300, 3) := by decide +kernel
theorem dX9_unit_12 : decode cX9_unit 12 = .ok (.if_icmp .ge 19, 3) := by decide +kernel
theorem dX9_unit_15 : decode cX9_unit 15 = .ok (.iload_n 1, 1) := by decide +kernel
theorem dX9_unit_16 : decode cX9_unit 16 = .ok (.bipush 33, 2) := by decide +kernel
theorem dX9_unit_18 : decode cX9_unit 18 = .ok (.if_icmp .lt 13, 3) := by decide +kernel
theorem dX9_unit_21 : decode cX9_unit 21 = .ok (.iload_n 1, 1) := by decide +kernel
theorem dX9_unit_22 : decode cX9_unit 22 = .ok (.bipush 126, 2) := by decide +kernel
theorem dX9_unit_24 : decode cX9_unit 24 = .ok (.if_icmp .gt 7, 3) := by decide +kernel
theorem dX9_unit_27 : decode cX9_unit 27 = .ok (.iconst 1, 1) := by decide +kernel
theorem dX9_unit_28 : decode cX9_unit 28 = .ok (.goto 4, 3) := by decide +kernel
theorem dX9_unit_31 : decode cX9_unit 31 = .ok (.iconst 0, 1) := by decide +kernel
theorem dX9_unit_32 : decode cX9_unit 32 = .ok (.istore_n 2, 1) := by decide +kernel
theorem dX9_unit_33 : decode cX9_unit 33 = .ok (.iload_n 2, 1) := by decide +kernel
theorem dX9_unit_34 : decode cX9_unit 34 = .ok (.ifCond .eq 23, 3) := by decide +kernel
theorem dX9_unit_37 : decode cX9_unit 37 = .ok (.aload_n 0, 1) := by decide +kernel
theorem dX9_unit_38 : decode cX9_unit 38 = .ok (.getfield 7, 3) := by decide +kernel
theorem dX9_unit_41 : decode cX9_unit 41 = .ok (.aload_n 0, 1) := by decide +kernel
theorem dX9_unit_42 : decode cX9_unit 42 = .ok (.getfield 93, 3) := by decide +kernel
theorem dX9_unit_45 : decode cX9_unit 45 = .ok (.iload_n 1, 1) := by decide +kernel
theorem dX9_unit_46 : decode cX9_unit 46 = .ok (.iastore, 1) := by decide +kernel
theorem dX9_unit_47 : decode cX9_unit 47 = .ok (.aload_n 0, 1) := by decide +kernel
theorem dX9_unit_48 : decode cX9_unit 48 = .ok (.dup, 1) := by decide +kernel
theorem dX9_unit_49 : decode cX9_unit 49 = .ok (.getfield 93, 3) := by decide +kernel
theorem dX9_unit_52 : decode cX9_unit 52 = .ok (.iconst 1, 1) := by decide +kernel
theorem dX9_unit_53 : decode cX9_unit 53 = .ok (.iadd, 1) := by decide +kernel
theorem dX9_unit_54 : decode cX9_unit 54 = .ok (.putfield 93, 3) := by decide +kernel
theorem dX9_unit_57 : decode cX9_unit 57 = .ok (.iload_n 2, 1) := by decide +kernel
theorem dX9_unit_58 : decode cX9_unit 58 = .ok (.ireturn, 1) := by decide +kernel
theorem dX9_here_0 : decode cX9_here 0 = .ok (.aload_n 0, 1) := by decide +kernel
theorem dX9_here_1 : decode cX9_here 1 = .ok (.getfield 96, 3) := by decide +kernel
theorem dX9_here_4 : decode cX9_here 4 = .ok (.aload_n 0, 1) := by decide +kernel
theorem dX9_here_5 : decode cX9_here 5 = .ok (.getfield 93, 3) := by decide +kernel
theorem dX9_here_8 : decode cX9_here 8 = .ok (.if_icmp .ge 15, 3) := by decide +kernel
theorem dX9_here_11 : decode cX9_here 11 = .ok (.aload_n 0, 1) := by decide +kernel
theorem dX9_here_12 : decode cX9_here 12 = .ok (.getfield 7, 3) := by decide +kernel
theorem dX9_here_15 : decode cX9_here 15 = .ok (.aload_n 0, 1) := by decide +kernel
theorem dX9_here_16 : decode cX9_here 16 = .ok (.getfield 96, 3) := by decide +kernel
theorem dX9_here_19 : decode cX9_here 19 = .ok (.iaload, 1) := by decide +kernel
theorem dX9_here_20 : decode cX9_here 20 = .ok (.goto 4, 3) := by decide +kernel
theorem dX9_here_23 : decode cX9_here 23 = .ok (.iconst (-1), 1) := by decide +kernel
theorem dX9_here_24 : decode cX9_here 24 = .ok (.ireturn, 1) := by decide +kernel
theorem dX9_fail_0 : decode cX9_fail 0 = .ok (.aload_n 0, 1) := by decide +kernel
theorem dX9_fail_1 : decode cX9_fail 1 = .ok (.aload_n 0, 1) := by decide +kernel
theorem dX9_fail_2 : decode cX9_fail 2 = .ok (.getfield 99, 3) := by decide +kernel
theorem dX9_fail_5 : decode cX9_fail 5 = .ok (.ifCond .ge 10, 3) := by decide +kernel
theorem dX9_fail_8 : decode cX9_fail 8 = .ok (.aload_n 0, 1) := by decide +kernel
theorem dX9_fail_9 : decode cX9_fail 9 = .ok (.getfield 96, 3) := by decide +kernel
theorem dX9_fail_12 : decode cX9_fail 12 = .ok (.goto 7, 3) := by decide +kernel
theorem dX9_fail_15 : decode cX9_fail 15 = .ok (.aload_n 0, 1) := by decide +kernel
theorem dX9_fail_16 : decode cX9_fail 16 = .ok (.getfield 99, 3) := by decide +kernel
theorem dX9_fail_19 : decode cX9_fail 19 = .ok (.putfield 99, 3) := by decide +kernel
theorem dX9_fail_22 : decode cX9_fail 22 = .ok (.return_, 1) := by decide +kernel
theorem dX9_isDigit_0 : decode cX9_isDigit 0 = .ok (.iload_n 0, 1) := by decide +kernel
theorem dX9_isDigit_1 : decode cX9_isDigit 1 = .ok (.bipush 48, 2) := by decide +kernel
theorem dX9_isDigit_3 : decode cX9_isDigit 3 = .ok (.if_icmp .lt 13, 3) := by decide +kernel
theorem dX9_isDigit_6 : decode cX9_isDigit 6 = .ok (.iload_n 0, 1) := by decide +kernel
theorem dX9_isDigit_7 : decode cX9_isDigit 7 = .ok (.bipush 57, 2) := by decide +kernel
theorem dX9_isDigit_9 : decode cX9_isDigit 9 = .ok (.if_icmp .gt 7, 3) := by decide +kernel
theorem dX9_isDigit_12 : decode cX9_isDigit 12 = .ok (.iconst 1, 1) := by decide +kernel
theorem dX9_isDigit_13 : decode cX9_isDigit 13 = .ok (.goto 4, 3) := by decide +kernel
theorem dX9_isDigit_16 : decode cX9_isDigit 16 = .ok (.iconst 0, 1) := by decide +kernel
theorem dX9_isDigit_17 : decode cX9_isDigit 17 = .ok (.ireturn, 1) := by decide +kernel
theorem dX9_emit_0 : decode cX9_emit 0 = .ok (.aload_n 0, 1) := by decide +kernel
theorem dX9_emit_1 : decode cX9_emit 1 = .ok (.getfield 13, 3) := by decide +kernel
theorem dX9_emit_4 : decode cX9_emit 4 = .ok (.sipush 2400, 3) := by decide +kernel
theorem dX9_emit_7 : decode cX9_emit 7 = .ok (.aload_n 0, 1) := by decide +kernel
theorem dX9_emit_8 : decode cX9_emit 8 = .ok (.getfield 19, 3) := by decide +kernel
theorem dX9_emit_11 : decode cX9_emit 11 = .ok (.bipush 6, 2) := by decide +kernel
theorem dX9_emit_13 : decode cX9_emit 13 = .ok (.iaload, 1) := by decide +kernel
theorem dX9_emit_14 : decode cX9_emit 14 = .ok (.iadd, 1) := by decide +kernel
theorem dX9_emit_15 : decode cX9_emit 15 = .ok (.iload_n 1, 1) := by decide +kernel
theorem dX9_emit_16 : decode cX9_emit 16 = .ok (.iastore, 1) := by decide +kernel
theorem dX9_emit_17 : decode cX9_emit 17 = .ok (.aload_n 0, 1) := by decide +kernel
theorem dX9_emit_18 : decode cX9_emit 18 = .ok (.getfield 16, 3) := by decide +kernel
theorem dX9_emit_21 : decode cX9_emit 21 = .ok (.sipush 2400, 3) := by decide +kernel
theorem dX9_emit_24 : decode cX9_emit 24 = .ok (.aload_n 0, 1) := by decide +kernel
theorem dX9_emit_25 : decode cX9_emit 25 = .ok (.getfield 19, 3) := by decide +kernel
theorem dX9_emit_28 : decode cX9_emit 28 = .ok (.bipush 6, 2) := by decide +kernel
theorem dX9_emit_30 : decode cX9_emit 30 = .ok (.iaload, 1) := by decide +kernel
theorem dX9_emit_31 : decode cX9_emit 31 = .ok (.iadd, 1) := by decide +kernel
theorem dX9_emit_32 : decode cX9_emit 32 = .ok (.iload_n 2, 1) := by decide +kernel
theorem dX9_emit_33 : decode cX9_emit 33 = .ok (.iastore, 1) := by decide +kernel
theorem dX9_emit_34 : decode cX9_emit 34 = .ok (.aload_n 0, 1) := by decide +kernel
theorem dX9_emit_35 : decode cX9_emit 35 = .ok (.getfield 19, 3) := by decide +kernel
theorem dX9_emit_38 : decode cX9_emit 38 = .ok (.bipush 6, 2) := by decide +kernel
theorem dX9_emit_40 : decode cX9_emit 40 = .ok (.dup2, 1) := by decide +kernel
theorem dX9_emit_41 : decode cX9_emit 41 = .ok (.iaload, 1) := by decide +kernel
theorem dX9_emit_42 : decode cX9_emit 42 = .ok (.iconst 1, 1) := by decide +kernel
theorem dX9_emit_43 : decode cX9_emit 43 = .ok (.iadd, 1) := by decide +kernel
theorem dX9_emit_44 : decode cX9_emit 44 = .ok (.iastore, 1) := by decide +kernel
theorem dX9_emit_45 : decode cX9_emit 45 = .ok (.return_, 1) := by decide +kernel
theorem dX9_push_0 : decode cX9_push 0 = .ok (.aload_n 0, 1) := by decide +kernel
theorem dX9_push_1 : decode cX9_push 1 = .ok (.getfield 31, 3) := by decide +kernel
theorem dX9_push_4 : decode cX9_push 4 = .ok (.aload_n 0, 1) := by decide +kernel
theorem dX9_push_5 : decode cX9_push 5 = .ok (.getfield 102, 3) := by decide +kernel
theorem dX9_push_8 : decode cX9_push 8 = .ok (.iload_n 1, 1) := by decide +kernel
theorem dX9_push_9 : decode cX9_push 9 = .ok (.iastore, 1) := by decide +kernel
theorem dX9_push_10 : decode cX9_push 10 = .ok (.aload_n 0, 1) := by decide +kernel
theorem dX9_push_11 : decode cX9_push 11 = .ok (.getfield 34, 3) := by decide +kernel
theorem dX9_push_14 : decode cX9_push 14 = .ok (.aload_n 0, 1) := by decide +kernel
theorem dX9_push_15 : decode cX9_push 15 = .ok (.getfield 102, 3) := by decide +kernel
theorem dX9_push_18 : decode cX9_push 18 = .ok (.iload_n 2, 1) := by decide +kernel
theorem dX9_push_19 : decode cX9_push 19 = .ok (.iastore, 1) := by decide +kernel
theorem dX9_push_20 : decode cX9_push 20 = .ok (.aload_n 0, 1) := by decide +kernel
theorem dX9_push_21 : decode cX9_push 21 = .ok (.dup, 1) := by decide +kernel
theorem dX9_push_22 : decode cX9_push 22 = .ok (.getfield 102, 3) := by decide +kernel
theorem dX9_push_25 : decode cX9_push 25 = .ok (.iconst 1, 1) := by decide +kernel
theorem dX9_push_26 : decode cX9_push 26 = .ok (.iadd, 1) := by decide +kernel
theorem dX9_push_27 : decode cX9_push 27 = .ok (.putfield 102, 3) := by decide +kernel
theorem dX9_push_30 : decode cX9_push 30 = .ok (.return_, 1) := by decide +kernel
theorem dX9_pop_0 : decode cX9_pop 0 = .ok (.aload_n 0, 1) := by decide +kernel
theorem dX9_pop_1 : decode cX9_pop 1 = .ok (.dup, 1) := by decide +kernel
theorem dX9_pop_2 : decode cX9_pop 2 = .ok (.getfield 102, 3) := by decide +kernel
theorem dX9_pop_5 : decode cX9_pop 5 = .ok (.iconst 1, 1) := by decide +kernel
theorem dX9_pop_6 : decode cX9_pop 6 = .ok (.isub, 1) := by decide +kernel
theorem dX9_pop_7 : decode cX9_pop 7 = .ok (.putfield 102, 3) := by decide +kernel
theorem dX9_pop_10 : decode cX9_pop 10 = .ok (.aload_n 0, 1) := by decide +kernel
theorem dX9_pop_11 : decode cX9_pop 11 = .ok (.aload_n 0, 1) := by decide +kernel
theorem dX9_pop_12 : decode cX9_pop 12 = .ok (.getfield 31, 3) := by decide +kernel
theorem dX9_pop_15 : decode cX9_pop 15 = .ok (.aload_n 0, 1) := by decide +kernel
theorem dX9_pop_16 : decode cX9_pop 16 = .ok (.getfield 102, 3) := by decide +kernel
theorem dX9_pop_19 : decode cX9_pop 19 = .ok (.iaload, 1) := by decide +kernel
theorem dX9_pop_20 : decode cX9_pop 20 = .ok (.aload_n 0, 1) := by decide +kernel
theorem dX9_pop_21 : decode cX9_pop 21 = .ok (.getfield 34, 3) := by decide +kernel
theorem dX9_pop_24 : decode cX9_pop 24 = .ok (.aload_n 0, 1) := by decide +kernel
theorem dX9_pop_25 : decode cX9_pop 25 = .ok (.getfield 102, 3) := by decide +kernel
theorem dX9_pop_28 : decode cX9_pop 28 = .ok (.iaload, 1) := by decide +kernel
theorem dX9_pop_29 : decode cX9_pop 29 = .ok (.invokevirtual 105, 3) := by decide +kernel
theorem dX9_pop_32 : decode cX9_pop 32 = .ok (.return_, 1) := by decide +kernel
theorem dX9_isWaiting_0 : decode cX9_isWaiting 0 = .ok (.aload_n 0, 1) := by decide +kernel
theorem dX9_isWaiting_1 : decode cX9_isWaiting 1 = .ok (.getfield 102, 3) := by decide +kernel
theorem dX9_isWaiting_4 : decode cX9_isWaiting 4 = .ok (.ifCond .le 37, 3) := by decide +kernel
theorem dX9_isWaiting_7 : decode cX9_isWaiting 7 = .ok (.aload_n 0, 1) := by decide +kernel
theorem dX9_isWaiting_8 : decode cX9_isWaiting 8 = .ok (.getfield 31, 3) := by decide +kernel
theorem dX9_isWaiting_11 : decode cX9_isWaiting 11 = .ok (.aload_n 0, 1) := by decide +kernel
theorem dX9_isWaiting_12 : decode cX9_isWaiting 12 = .ok (.getfield 102, 3) := by decide +kernel
theorem dX9_isWaiting_15 : decode cX9_isWaiting 15 = .ok (.iconst 1, 1) := by decide +kernel
theorem dX9_isWaiting_16 : decode cX9_isWaiting 16 = .ok (.isub, 1) := by decide +kernel
theorem dX9_isWaiting_17 : decode cX9_isWaiting 17 = .ok (.iaload, 1) := by decide +kernel
theorem dX9_isWaiting_18 : decode cX9_isWaiting 18 = .ok (.iload_n 1, 1) := by decide +kernel
theorem dX9_isWaiting_19 : decode cX9_isWaiting 19 = .ok (.if_icmp .lt 22, 3) := by decide +kernel
theorem dX9_isWaiting_22 : decode cX9_isWaiting 22 = .ok (.aload_n 0, 1) := by decide +kernel
theorem dX9_isWaiting_23 : decode cX9_isWaiting 23 = .ok (.getfield 31, 3) := by decide +kernel
theorem dX9_isWaiting_26 : decode cX9_isWaiting 26 = .ok (.aload_n 0, 1) := by decide +kernel
theorem dX9_isWaiting_27 : decode cX9_isWaiting 27 = .ok (.getfield 102, 3) := by decide +kernel
theorem dX9_isWaiting_30 : decode cX9_isWaiting 30 = .ok (.iconst 1, 1) := by decide +kernel
theorem dX9_isWaiting_31 : decode cX9_isWaiting 31 = .ok (.isub, 1) := by decide +kernel
theorem dX9_isWaiting_32 : decode cX9_isWaiting 32 = .ok (.iaload, 1) := by decide +kernel
theorem dX9_isWaiting_33 : decode cX9_isWaiting 33 = .ok (.iload_n 2, 1) := by decide +kernel
theorem dX9_isWaiting_34 : decode cX9_isWaiting 34 = .ok (.if_icmp .gt 7, 3) := by decide +kernel
theorem dX9_isWaiting_37 : decode cX9_isWaiting 37 = .ok (.iconst 1, 1) := by decide +kernel
theorem dX9_isWaiting_38 : decode cX9_isWaiting 38 = .ok (.goto 4, 3) := by decide +kernel
theorem dX9_isWaiting_41 : decode cX9_isWaiting 41 = .ok (.iconst 0, 1) := by decide +kernel
theorem dX9_isWaiting_42 : decode cX9_isWaiting 42 = .ok (.ireturn, 1) := by decide +kernel
theorem dX9_endFactor_0 : decode cX9_endFactor 0 = .ok (.aload_n 0, 1) := by decide +kernel
theorem dX9_endFactor_1 : decode cX9_endFactor 1 = .ok (.bipush 9, 2) := by decide +kernel
theorem dX9_endFactor_3 : decode cX9_endFactor 3 = .ok (.bipush 11, 2) := by decide +kernel
theorem dX9_endFactor_5 : decode cX9_endFactor 5 = .ok (.invokevirtual 109, 3) := by decide +kernel
theorem dX9_endFactor_8 : decode cX9_endFactor 8 = .ok (.ifCond .eq 10, 3) := by decide +kernel
theorem dX9_endFactor_11 : decode cX9_endFactor 11 = .ok (.aload_n 0, 1) := by decide +kernel
theorem dX9_endFactor_12 : decode cX9_endFactor 12 = .ok (.invokevirtual 113, 3) := by decide +kernel
theorem dX9_endFactor_15 : decode cX9_endFactor 15 = .ok (.goto (-15), 3) := by decide +kernel
theorem dX9_endFactor_18 : decode cX9_endFactor 18 = .ok (.return_, 1) := by decide +kernel
theorem dX9_kind_0 : decode cX9_kind 0 = .ok (.aload_n 0, 1) := by decide +kernel
theorem dX9_kind_1 : decode cX9_kind 1 = .ok (.dup, 1) := by decide +kernel
theorem dX9_kind_2 : decode cX9_kind 2 = .ok (.getfield 96, 3) := by decide +kernel
theorem dX9_kind_5 : decode cX9_kind 5 = .ok (.iconst 1, 1) := by decide +kernel
theorem dX9_kind_6 : decode cX9_kind 6 = .ok (.iadd, 1) := by decide +kernel
theorem dX9_kind_7 : decode cX9_kind 7 = .ok (.putfield 96, 3) := by decide +kernel
theorem dX9_kind_10 : decode cX9_kind 10 = .ok (.aload_n 0, 1) := by decide +kernel
theorem dX9_kind_11 : decode cX9_kind 11 = .ok (.invokevirtual 116, 3) := by decide +kernel
theorem dX9_kind_14 : decode cX9_kind 14 = .ok (.istore_n 1, 1) := by decide +kernel
theorem dX9_kind_15 : decode cX9_kind 15 = .ok (.iload_n 1, 1) := by decide +kernel
theorem dX9_kind_16 : decode cX9_kind 16 = .ok (.bipush 48, 2) := by decide +kernel
theorem dX9_kind_18 : decode cX9_kind 18 = .ok (.if_icmp .lt 9, 3) := by decide +kernel
theorem dX9_kind_21 : decode cX9_kind 21 = .ok (.iload_n 1, 1) := by decide +kernel
theorem dX9_kind_22 : decode cX9_kind 22 = .ok (.bipush 55, 2) := by decide +kernel
theorem dX9_kind_24 : decode cX9_kind 24 = .ok (.if_icmp .le 7, 3) := by decide +kernel
theorem dX9_kind_27 : decode cX9_kind 27 = .ok (.aload_n 0, 1) := by decide +kernel
theorem dX9_kind_28 : decode cX9_kind 28 = .ok (.invokevirtual 120, 3) := by decide +kernel
theorem dX9_kind_31 : decode cX9_kind 31 = .ok (.aload_n 0, 1) := by decide +kernel
theorem dX9_kind_32 : decode cX9_kind 32 = .ok (.dup, 1) := by decide +kernel
theorem dX9_kind_33 : decode cX9_kind 33 = .ok (.getfield 96, 3) := by decide +kernel
theorem dX9_kind_36 : decode cX9_kind 36 = .ok (.iconst 1, 1) := by decide +kernel
theorem dX9_kind_37 : decode cX9_kind 37 = .ok (.iadd, 1) := by decide +kernel
theorem dX9_kind_38 : decode cX9_kind 38 = .ok (.putfield 96, 3) := by decide +kernel
theorem dX9_kind_41 : decode cX9_kind 41 = .ok (.iload_n 1, 1) := by decide +kernel
theorem dX9_kind_42 : decode cX9_kind 42 = .ok (.bipush 48, 2) := by decide +kernel
theorem dX9_kind_44 : decode cX9_kind 44 = .ok (.isub, 1) := by decide +kernel
theorem dX9_kind_45 : decode cX9_kind 45 = .ok (.ireturn, 1) := by decide +kernel
theorem dX9_readNumber_0 : decode cX9_readNumber 0 = .ok (.iconst 0, 1) := by decide +kernel
theorem dX9_readNumber_1 : decode cX9_readNumber 1 = .ok (.istore_n 1, 1) := by decide +kernel
theorem dX9_readNumber_2 : decode cX9_readNumber 2 = .ok (.iconst 0, 1) := by decide +kernel
theorem dX9_readNumber_3 : decode cX9_readNumber 3 = .ok (.istore_n 2, 1) := by decide +kernel
theorem dX9_readNumber_4 : decode cX9_readNumber 4 = .ok (.iload_n 2, 1) := by decide +kernel
theorem dX9_readNumber_5 : decode cX9_readNumber 5 = .ok (.bipush 6, 2) := by decide +kernel
theorem dX9_readNumber_7 : decode cX9_readNumber 7 = .ok (.if_icmp .ge 42, 3) := by decide +kernel
theorem dX9_readNumber_10 : decode cX9_readNumber 10 = .ok (.aload_n 0, 1) := by decide +kernel
theorem dX9_readNumber_11 : decode cX9_readNumber 11 = .ok (.invokevirtual 116, 3) := by decide +kernel
theorem dX9_readNumber_14 : decode cX9_readNumber 14 = .ok (.invokestatic 123, 3) := by decide +kernel
theorem dX9_readNumber_17 : decode cX9_readNumber 17 = .ok (.ifCond .eq 32, 3) := by decide +kernel
theorem dX9_readNumber_20 : decode cX9_readNumber 20 = .ok (.bipush 10, 2) := by decide +kernel
theorem dX9_readNumber_22 : decode cX9_readNumber 22 = .ok (.iload_n 1, 1) := by decide +kernel
theorem dX9_readNumber_23 : decode cX9_readNumber 23 = .ok (.imul, 1) := by decide +kernel
theorem dX9_readNumber_24 : decode cX9_readNumber 24 = .ok (.aload_n 0, 1) := by decide +kernel
theorem dX9_readNumber_25 : decode cX9_readNumber 25 = .ok (.invokevirtual 116, 3) := by decide +kernel
theorem dX9_readNumber_28 : decode cX9_readNumber 28 = .ok (.iadd, 1) := by decide +kernel
theorem dX9_readNumber_29 : decode cX9_readNumber 29 = .ok (.bipush 48, 2) := by decide +kernel
theorem dX9_readNumber_31 : decode cX9_readNumber 31 = .ok (.isub, 1) := by decide +kernel
theorem dX9_readNumber_32 : decode cX9_readNumber 32 = .ok (.istore_n 1, 1) := by decide +kernel
theorem dX9_readNumber_33 : decode cX9_readNumber 33 = .ok (.iinc 2 1, 3) := by decide +kernel
theorem dX9_readNumber_36 : decode cX9_readNumber 36 = .ok (.aload_n 0, 1) := by decide +kernel
theorem dX9_readNumber_37 : decode cX9_readNumber 37 = .ok (.dup, 1) := by decide +kernel
theorem dX9_readNumber_38 : decode cX9_readNumber 38 = .ok (.getfield 96, 3) := by decide +kernel
theorem dX9_readNumber_41 : decode cX9_readNumber 41 = .ok (.iconst 1, 1) := by decide +kernel
theorem dX9_readNumber_42 : decode cX9_readNumber 42 = .ok (.iadd, 1) := by decide +kernel
theorem dX9_readNumber_43 : decode cX9_readNumber 43 = .ok (.putfield 96, 3) := by decide +kernel
theorem dX9_readNumber_46 : decode cX9_readNumber 46 = .ok (.goto (-42), 3) := by decide +kernel
theorem dX9_readNumber_49 : decode cX9_readNumber 49 = .ok (.aload_n 0, 1) := by decide +kernel
theorem dX9_readNumber_50 : decode cX9_readNumber 50 = .ok (.iconst 1, 1) := by decide +kernel
theorem dX9_readNumber_51 : decode cX9_readNumber 51 = .ok (.iload_n 1, 1) := by decide +kernel
theorem dX9_readNumber_52 : decode cX9_readNumber 52 = .ok (.invokevirtual 105, 3) := by decide +kernel
theorem dX9_readNumber_55 : decode cX9_readNumber 55 = .ok (.aload_n 0, 1) := by decide +kernel
theorem dX9_readNumber_56 : decode cX9_readNumber 56 = .ok (.invokevirtual 127, 3) := by decide +kernel
theorem dX9_readNumber_59 : decode cX9_readNumber 59 = .ok (.return_, 1) := by decide +kernel
theorem dX9_readLetter_0 : decode cX9_readLetter 0 = .ok (.aload_n 0, 1) := by decide +kernel
theorem dX9_readLetter_1 : decode cX9_readLetter 1 = .ok (.dup, 1) := by decide +kernel
theorem dX9_readLetter_2 : decode cX9_readLetter 2 = .ok (.getfield 96, 3) := by decide +kernel
theorem dX9_readLetter_5 : decode cX9_readLetter 5 = .ok (.iconst 1, 1) := by decide +kernel
theorem dX9_readLetter_6 : decode cX9_readLetter 6 = .ok (.iadd, 1) := by decide +kernel
theorem dX9_readLetter_7 : decode cX9_readLetter 7 = .ok (.putfield 96, 3) := by decide +kernel
theorem dX9_readLetter_10 : decode cX9_readLetter 10 = .ok (.aload_n 0, 1) := by decide +kernel
theorem dX9_readLetter_11 : decode cX9_readLetter 11 = .ok (.iload_n 1, 1) := by decide +kernel
theorem dX9_readLetter_12 : decode cX9_readLetter 12 = .ok (.iconst 0, 1) := by decide +kernel
theorem dX9_readLetter_13 : decode cX9_readLetter 13 = .ok (.invokevirtual 105, 3) := by decide +kernel
theorem dX9_readLetter_16 : decode cX9_readLetter 16 = .ok (.aload_n 0, 1) := by decide +kernel
theorem dX9_readLetter_17 : decode cX9_readLetter 17 = .ok (.invokevirtual 127, 3) := by decide +kernel
theorem dX9_readLetter_20 : decode cX9_readLetter 20 = .ok (.return_, 1) := by decide +kernel
theorem dX9_readKind_0 : decode cX9_readKind 0 = .ok (.aload_n 0, 1) := by decide +kernel
theorem dX9_readKind_1 : decode cX9_readKind 1 = .ok (.invokevirtual 130, 3) := by decide +kernel
theorem dX9_readKind_4 : decode cX9_readKind 4 = .ok (.istore_n 2, 1) := by decide +kernel
theorem dX9_readKind_5 : decode cX9_readKind 5 = .ok (.aload_n 0, 1) := by decide +kernel
theorem dX9_readKind_6 : decode cX9_readKind 6 = .ok (.iload_n 1, 1) := by decide +kernel
theorem dX9_readKind_7 : decode cX9_readKind 7 = .ok (.iload_n 2, 1) := by decide +kernel
theorem dX9_readKind_8 : decode cX9_readKind 8 = .ok (.invokevirtual 105, 3) := by decide +kernel
theorem dX9_readKind_11 : decode cX9_readKind 11 = .ok (.aload_n 0, 1) := by decide +kernel
theorem dX9_readKind_12 : decode cX9_readKind 12 = .ok (.invokevirtual 127, 3) := by decide +kernel
theorem dX9_readKind_15 : decode cX9_readKind 15 = .ok (.return_, 1) := by decide +kernel
theorem dX9_readFactor_0 : decode cX9_readFactor 0 = .ok (.iload_n 1, 1) := by decide +kernel
theorem dX9_readFactor_1 : decode cX9_readFactor 1 = .ok (.invokestatic 123, 3) := by decide +kernel
theorem dX9_readFactor_4 : decode cX9_readFactor 4 = .ok (.ifCond .eq 10, 3) := by decide +kernel
theorem dX9_readFactor_7 : decode cX9_readFactor 7 = .ok (.aload_n 0, 1) := by decide +kernel
theorem dX9_readFactor_8 : decode cX9_readFactor 8 = .ok (.invokevirtual 133, 3) := by decide +kernel
theorem dX9_readFactor_11 : decode cX9_readFactor 11 = .ok (.goto 216, 3) := by decide +kernel
theorem dX9_readFactor_14 : decode cX9_readFactor 14 = .ok (.iload_n 1, 1) := by decide +kernel
theorem dX9_readFactor_15 : decode cX9_readFactor 15 = .ok (.bipush 108, 2) := by decide +kernel
theorem dX9_readFactor_17 : decode cX9_readFactor 17 = .ok (.if_icmp .eq 15, 3) := by decide +kernel
theorem dX9_readFactor_20 : decode cX9_readFactor 20 = .ok (.iload_n 1, 1) := by decide +kernel
theorem dX9_readFactor_21 : decode cX9_readFactor 21 = .ok (.bipush 119, 2) := by decide +kernel
theorem dX9_readFactor_23 : decode cX9_readFactor 23 = .ok (.if_icmp .eq 9, 3) := by decide +kernel
theorem dX9_readFactor_26 : decode cX9_readFactor 26 = .ok (.iload_n 1, 1) := by decide +kernel
theorem dX9_readFactor_27 : decode cX9_readFactor 27 = .ok (.bipush 116, 2) := by decide +kernel
theorem dX9_readFactor_29 : decode cX9_readFactor 29 = .ok (.if_icmp .ne 31, 3) := by decide +kernel
theorem dX9_readFactor_32 : decode cX9_readFactor 32 = .ok (.aload_n 0, 1) := by decide +kernel
theorem dX9_readFactor_33 : decode cX9_readFactor 33 = .ok (.iload_n 1, 1) := by decide +kernel
theorem dX9_readFactor_34 : decode cX9_readFactor 34 = .ok (.bipush 108, 2) := by decide +kernel
theorem dX9_readFactor_36 : decode cX9_readFactor 36 = .ok (.if_icmp .ne 7, 3) := by decide +kernel
theorem dX9_readFactor_39 : decode cX9_readFactor 39 = .ok (.iconst 2, 1) := by decide +kernel
theorem dX9_readFactor_40 : decode cX9_readFactor 40 = .ok (.goto 14, 3) := by decide +kernel
theorem dX9_readFactor_43 : decode cX9_readFactor 43 = .ok (.iload_n 1, 1) := by decide +kernel
theorem dX9_readFactor_44 : decode cX9_readFactor 44 = .ok (.bipush 119, 2) := by decide +kernel
theorem dX9_readFactor_46 : decode cX9_readFactor 46 = .ok (.if_icmp .ne 7, 3) := by decide +kernel
theorem dX9_readFactor_49 : decode cX9_readFactor 49 = .ok (.iconst 3, 1) := by decide +kernel
theorem dX9_readFactor_50 : decode cX9_readFactor 50 = .ok (.goto 4, 3) := by decide +kernel
theorem dX9_readFactor_53 : decode cX9_readFactor 53 = .ok (.iconst 4, 1) := by decide +kernel
theorem dX9_readFactor_54 : decode cX9_readFactor 54 = .ok (.invokevirtual 136, 3) := by decide +kernel
theorem dX9_readFactor_57 : decode cX9_readFactor 57 = .ok (.goto 170, 3) := by decide +kernel
theorem dX9_readFactor_60 : decode cX9_readFactor 60 = .ok (.iload_n 1, 1) := by decide +kernel
theorem dX9_readFactor_61 : decode cX9_readFactor 61 = .ok (.bipush 110, 2) := by decide +kernel
theorem dX9_readFactor_63 : decode cX9_readFactor 63 = .ok (.if_icmp .eq 21, 3) := by decide +kernel
theorem dX9_readFactor_66 : decode cX9_readFactor 66 = .ok (.iload_n 1, 1) := by decide +kernel
theorem dX9_readFactor_67 : decode cX9_readFactor 67 = .ok (.bipush 97, 2) := by decide +kernel
theorem dX9_readFactor_69 : decode cX9_readFactor 69 = .ok (.if_icmp .eq 15, 3) := by decide +kernel
theorem dX9_readFactor_72 : decode cX9_readFactor 72 = .ok (.iload_n 1, 1) := by decide +kernel
theorem dX9_readFactor_73 : decode cX9_readFactor 73 = .ok (.bipush 115, 2) := by decide +kernel
theorem dX9_readFactor_75 : decode cX9_readFactor 75 = .ok (.if_icmp .eq 9, 3) := by decide +kernel
theorem dX9_readFactor_78 : decode cX9_readFactor 78 = .ok (.iload_n 1, 1) := by decide +kernel
theorem dX9_readFactor_79 : decode cX9_readFactor 79 = .ok (.bipush 101, 2) := by decide +kernel
theorem dX9_readFactor_81 : decode cX9_readFactor 81 = .ok (.if_icmp .ne 44, 3) := by decide +kernel
theorem dX9_readFactor_84 : decode cX9_readFactor 84 = .ok (.aload_n 0, 1) := by decide +kernel
theorem dX9_readFactor_85 : decode cX9_readFactor 85 = .ok (.iload_n 1, 1) := by decide +kernel
theorem dX9_readFactor_86 : decode cX9_readFactor 86 = .ok (.bipush 110, 2) := by decide +kernel
theorem dX9_readFactor_88 : decode cX9_readFactor 88 = .ok (.if_icmp .ne 7, 3) := by decide +kernel
theorem dX9_readFactor_91 : decode cX9_readFactor 91 = .ok (.iconst 5, 1) := by decide +kernel
theorem dX9_readFactor_92 : decode cX9_readFactor 92 = .ok (.goto 27, 3) := by decide +kernel
theorem dX9_readFactor_95 : decode cX9_readFactor 95 = .ok (.iload_n 1, 1) := by decide +kernel
theorem dX9_readFactor_96 : decode cX9_readFactor 96 = .ok (.bipush 97, 2) := by decide +kernel
theorem dX9_readFactor_98 : decode cX9_readFactor 98 = .ok (.if_icmp .ne 8, 3) := by decide +kernel
theorem dX9_readFactor_101 : decode cX9_readFactor 101 = .ok (.bipush 6, 2) := by decide +kernel
theorem dX9_readFactor_103 : decode cX9_readFactor 103 = .ok (.goto 16, 3) := by decide +kernel
theorem dX9_readFactor_106 : decode cX9_readFactor 106 = .ok (.iload_n 1, 1) := by decide +kernel
theorem dX9_readFactor_107 : decode cX9_readFactor 107 = .ok (.bipush 115, 2) := by decide +kernel
theorem dX9_readFactor_109 : decode cX9_readFactor 109 = .ok (.if_icmp .ne 8, 3) := by decide +kernel
theorem dX9_readFactor_112 : decode cX9_readFactor 112 = .ok (.bipush 7, 2) := by decide +kernel
theorem dX9_readFactor_114 : decode cX9_readFactor 114 = .ok (.goto 5, 3) := by decide +kernel
theorem dX9_readFactor_117 : decode cX9_readFactor 117 = .ok (.bipush 8, 2) := by decide +kernel
theorem dX9_readFactor_119 : decode cX9_readFactor 119 = .ok (.invokevirtual 140, 3) := by decide +kernel
theorem dX9_readFactor_122 : decode cX9_readFactor 122 = .ok (.goto 105, 3) := by decide +kernel
theorem dX9_readFactor_125 : decode cX9_readFactor 125 = .ok (.iload_n 1, 1) := by decide +kernel
theorem dX9_readFactor_126 : decode cX9_readFactor 126 = .ok (.bipush 99, 2) := by decide +kernel
theorem dX9_readFactor_128 : decode cX9_readFactor 128 = .ok (.if_icmp .ne 18, 3) := by decide +kernel
theorem dX9_readFactor_131 : decode cX9_readFactor 131 = .ok (.aload_n 0, 1) := by decide +kernel
theorem dX9_readFactor_132 : decode cX9_readFactor 132 = .ok (.invokevirtual 130, 3) := by decide +kernel
theorem dX9_readFactor_135 : decode cX9_readFactor 135 = .ok (.istore_n 3, 1) := by decide +kernel
theorem dX9_readFactor_136 : decode cX9_readFactor 136 = .ok (.aload_n 0, 1) := by decide +kernel
theorem dX9_readFactor_137 : decode cX9_readFactor 137 = .ok (.bipush 9, 2) := by decide +kernel
theorem dX9_readFactor_139 : decode cX9_readFactor 139 = .ok (.iload_n 3, 1) := by decide +kernel
theorem dX9_readFactor_140 : decode cX9_readFactor 140 = .ok (.invokevirtual 143, 3) := by decide +kernel
theorem dX9_readFactor_143 : decode cX9_readFactor 143 = .ok (.goto 82, 3) := by decide +kernel
theorem dX9_readFactor_146 : decode cX9_readFactor 146 = .ok (.iload_n 1, 1) := by decide +kernel
theorem dX9_readFactor_147 : decode cX9_readFactor 147 = .ok (.bipush 102, 2) := by decide +kernel
theorem dX9_readFactor_149 : decode cX9_readFactor 149 = .ok (.if_icmp .eq 9, 3) := by decide +kernel
theorem dX9_readFactor_152 : decode cX9_readFactor 152 = .ok (.iload_n 1, 1) := by decide +kernel
theorem dX9_readFactor_153 : decode cX9_readFactor 153 = .ok (.bipush 45, 2) := by decide +kernel
theorem dX9_readFactor_155 : decode cX9_readFactor 155 = .ok (.if_icmp .ne 34, 3) := by decide +kernel
theorem dX9_readFactor_158 : decode cX9_readFactor 158 = .ok (.aload_n 0, 1) := by decide +kernel
theorem dX9_readFactor_159 : decode cX9_readFactor 159 = .ok (.dup, 1) := by decide +kernel
theorem dX9_readFactor_160 : decode cX9_readFactor 160 = .ok (.getfield 96, 3) := by decide +kernel
theorem dX9_readFactor_163 : decode cX9_readFactor 163 = .ok (.iconst 1, 1) := by decide +kernel
theorem dX9_readFactor_164 : decode cX9_readFactor 164 = .ok (.iadd, 1) := by decide +kernel
theorem dX9_readFactor_165 : decode cX9_readFactor 165 = .ok (.putfield 96, 3) := by decide +kernel
theorem dX9_readFactor_168 : decode cX9_readFactor 168 = .ok (.aload_n 0, 1) := by decide +kernel
theorem dX9_readFactor_169 : decode cX9_readFactor 169 = .ok (.iload_n 1, 1) := by decide +kernel
theorem dX9_readFactor_170 : decode cX9_readFactor 170 = .ok (.bipush 102, 2) := by decide +kernel
theorem dX9_readFactor_172 : decode cX9_readFactor 172 = .ok (.if_icmp .ne 8, 3) := by decide +kernel
theorem dX9_readFactor_175 : decode cX9_readFactor 175 = .ok (.bipush 10, 2) := by decide +kernel
theorem dX9_readFactor_177 : decode cX9_readFactor 177 = .ok (.goto 5, 3) := by decide +kernel
theorem dX9_readFactor_180 : decode cX9_readFactor 180 = .ok (.bipush 11, 2) := by decide +kernel
theorem dX9_readFactor_182 : decode cX9_readFactor 182 = .ok (.iconst 0, 1) := by decide +kernel
theorem dX9_readFactor_183 : decode cX9_readFactor 183 = .ok (.invokevirtual 143, 3) := by decide +kernel
theorem dX9_readFactor_186 : decode cX9_readFactor 186 = .ok (.goto 39, 3) := by decide +kernel
theorem dX9_readFactor_189 : decode cX9_readFactor 189 = .ok (.iload_n 1, 1) := by decide +kernel
theorem dX9_readFactor_190 : decode cX9_readFactor 190 = .ok (.bipush 40, 2) := by decide +kernel
theorem dX9_readFactor_192 : decode cX9_readFactor 192 = .ok (.if_icmp .ne 29, 3) := by decide +kernel
theorem dX9_readFactor_195 : decode cX9_readFactor 195 = .ok (.iload_n 2, 1) := by decide +kernel
theorem dX9_readFactor_196 : decode cX9_readFactor 196 = .ok (.bipush 8, 2) := by decide +kernel
theorem dX9_readFactor_198 : decode cX9_readFactor 198 = .ok (.if_icmp .ge 23, 3) := by decide +kernel
theorem dX9_readFactor_201 : decode cX9_readFactor 201 = .ok (.aload_n 0, 1) := by decide +kernel
theorem dX9_readFactor_202 : decode cX9_readFactor 202 = .ok (.dup, 1) := by decide +kernel
theorem dX9_readFactor_203 : decode cX9_readFactor 203 = .ok (.getfield 96, 3) := by decide +kernel
theorem dX9_readFactor_206 : decode cX9_readFactor 206 = .ok (.iconst 1, 1) := by decide +kernel
theorem dX9_readFactor_207 : decode cX9_readFactor 207 = .ok (.iadd, 1) := by decide +kernel
theorem dX9_readFactor_208 : decode cX9_readFactor 208 = .ok (.putfield 96, 3) := by decide +kernel
theorem dX9_readFactor_211 : decode cX9_readFactor 211 = .ok (.aload_n 0, 1) := by decide +kernel
theorem dX9_readFactor_212 : decode cX9_readFactor 212 = .ok (.bipush 17, 2) := by decide +kernel
theorem dX9_readFactor_214 : decode cX9_readFactor 214 = .ok (.iconst 0, 1) := by decide +kernel
theorem dX9_readFactor_215 : decode cX9_readFactor 215 = .ok (.invokevirtual 143, 3) := by decide +kernel
theorem dX9_readFactor_218 : decode cX9_readFactor 218 = .ok (.goto 7, 3) := by decide +kernel
theorem dX9_readFactor_221 : decode cX9_readFactor 221 = .ok (.aload_n 0, 1) := by decide +kernel
theorem dX9_readFactor_222 : decode cX9_readFactor 222 = .ok (.invokevirtual 120, 3) := by decide +kernel
theorem dX9_readFactor_225 : decode cX9_readFactor 225 = .ok (.iconst 0, 1) := by decide +kernel
theorem dX9_readFactor_226 : decode cX9_readFactor 226 = .ok (.ireturn, 1) := by decide +kernel
theorem dX9_readFactor_227 : decode cX9_readFactor 227 = .ok (.iconst 1, 1) := by decide +kernel
theorem dX9_readFactor_228 : decode cX9_readFactor 228 = .ok (.ireturn, 1) := by decide +kernel
theorem dX9_readExpression_0 : decode cX9_readExpression 0 = .ok (.iconst 0, 1) := by decide +kernel
theorem dX9_readExpression_1 : decode cX9_readExpression 1 = .ok (.istore_n 1, 1) := by decide +kernel
theorem dX9_readExpression_2 : decode cX9_readExpression 2 = .ok (.iconst 1, 1) := by decide +kernel
theorem dX9_readExpression_3 : decode cX9_readExpression 3 = .ok (.istore_n 2, 1) := by decide +kernel
theorem dX9_readExpression_4 : decode cX9_readExpression 4 = .ok (.iconst 0, 1) := by decide +kernel
theorem dX9_readExpression_5 : decode cX9_readExpression 5 = .ok (.istore_n 3, 1) := by decide +kernel
theorem dX9_readExpression_6 : decode cX9_readExpression 6 = .ok (.iload_n 2, 1) := by decide +kernel
theorem dX9_readExpression_7 : decode cX9_readExpression 7 = .ok (.ifCond .eq 253, 3) := by decide +kernel
theorem dX9_readExpression_10 : decode cX9_readExpression 10 = .ok (.aload_n 0, 1) := by decide +kernel
theorem dX9_readExpression_11 : decode cX9_readExpression 11 = .ok (.getfield 99, 3) := by decide +kernel
theorem dX9_readExpression_14 : decode cX9_readExpression 14 = .ok (.ifCond .ge 246, 3) := by decide +kernel
theorem dX9_readExpression_17 : decode cX9_readExpression 17 = .ok (.aload_n 0, 1) := by decide +kernel
theorem dX9_readExpression_18 : decode cX9_readExpression 18 = .ok (.invokevirtual 116, 3) := by decide +kernel
theorem dX9_readExpression_21 : decode cX9_readExpression 21 = .ok (.istore 4, 2) := by decide +kernel
theorem dX9_readExpression_23 : decode cX9_readExpression 23 = .ok (.iload_n 1, 1) := by decide +kernel
theorem dX9_readExpression_24 : decode cX9_readExpression 24 = .ok (.ifCond .ne 29, 3) := by decide +kernel
theorem dX9_readExpression_27 : decode cX9_readExpression 27 = .ok (.aload_n 0, 1) := by decide +kernel
theorem dX9_readExpression_28 : decode cX9_readExpression 28 = .ok (.iload 4, 2) := by decide +kernel
theorem dX9_readExpression_30 : decode cX9_readExpression 30 = .ok (.iload_n 3, 1) := by decide +kernel
theorem dX9_readExpression_31 : decode cX9_readExpression 31 = .ok (.invokevirtual 146, 3) := by decide +kernel
theorem dX9_readExpression_34 : decode cX9_readExpression 34 = .ok (.istore_n 1, 1) := by decide +kernel
theorem dX9_readExpression_35 : decode cX9_readExpression 35 = .ok (.iload 4, 2) := by decide +kernel
theorem dX9_readExpression_37 : decode cX9_readExpression 37 = .ok (.bipush 40, 2) := by decide +kernel
theorem dX9_readExpression_39 : decode cX9_readExpression 39 = .ok (.if_icmp .ne 9, 3) := by decide +kernel
theorem dX9_readExpression_42 : decode cX9_readExpression 42 = .ok (.iload_n 3, 1) := by decide +kernel
theorem dX9_readExpression_43 : decode cX9_readExpression 43 = .ok (.iconst 1, 1) := by decide +kernel
theorem dX9_readExpression_44 : decode cX9_readExpression 44 = .ok (.iadd, 1) := by decide +kernel
theorem dX9_readExpression_45 : decode cX9_readExpression 45 = .ok (.goto 4, 3) := by decide +kernel
theorem dX9_readExpression_48 : decode cX9_readExpression 48 = .ok (.iload_n 3, 1) := by decide +kernel
theorem dX9_readExpression_49 : decode cX9_readExpression 49 = .ok (.istore_n 3, 1) := by decide +kernel
theorem dX9_readExpression_50 : decode cX9_readExpression 50 = .ok (.goto 207, 3) := by decide +kernel
theorem dX9_readExpression_53 : decode cX9_readExpression 53 = .ok (.iload 4, 2) := by decide +kernel
theorem dX9_readExpression_55 : decode cX9_readExpression 55 = .ok (.bipush 43, 2) := by decide +kernel
theorem dX9_readExpression_57 : decode cX9_readExpression 57 = .ok (.if_icmp .eq 10, 3) := by decide +kernel
theorem dX9_readExpression_60 : decode cX9_readExpression 60 = .ok (.iload 4, 2) := by decide +kernel
theorem dX9_readExpression_62 : decode cX9_readExpression 62 = .ok (.bipush 45, 2) := by decide +kernel
theorem dX9_readExpression_64 : decode cX9_readExpression 64 = .ok (.if_icmp .ne 55, 3) := by decide +kernel
theorem dX9_readExpression_67 : decode cX9_readExpression 67 = .ok (.aload_n 0, 1) := by decide +kernel
theorem dX9_readExpression_68 : decode cX9_readExpression 68 = .ok (.bipush 12, 2) := by decide +kernel
theorem dX9_readExpression_70 : decode cX9_readExpression 70 = .ok (.bipush 15, 2) := by decide +kernel
theorem dX9_readExpression_72 : decode cX9_readExpression 72 = .ok (.invokevirtual 109, 3) := by decide +kernel
theorem dX9_readExpression_75 : decode cX9_readExpression 75 = .ok (.ifCond .eq 10, 3) := by decide +kernel
theorem dX9_readExpression_78 : decode cX9_readExpression 78 = .ok (.aload_n 0, 1) := by decide +kernel
theorem dX9_readExpression_79 : decode cX9_readExpression 79 = .ok (.invokevirtual 113, 3) := by decide +kernel
theorem dX9_readExpression_82 : decode cX9_readExpression 82 = .ok (.goto (-15), 3) := by decide +kernel
theorem dX9_readExpression_85 : decode cX9_readExpression 85 = .ok (.aload_n 0, 1) := by decide +kernel
theorem dX9_readExpression_86 : decode cX9_readExpression 86 = .ok (.iload 4, 2) := by decide +kernel
theorem dX9_readExpression_88 : decode cX9_readExpression 88 = .ok (.bipush 43, 2) := by decide +kernel
theorem dX9_readExpression_90 : decode cX9_readExpression 90 = .ok (.if_icmp .ne 8, 3) := by decide +kernel
theorem dX9_readExpression_93 : decode cX9_readExpression 93 = .ok (.bipush 12, 2) := by decide +kernel
theorem dX9_readExpression_95 : decode cX9_readExpression 95 = .ok (.goto 5, 3) := by decide +kernel
theorem dX9_readExpression_98 : decode cX9_readExpression 98 = .ok (.bipush 13, 2) := by decide +kernel
theorem dX9_readExpression_100 : decode cX9_readExpression 100 = .ok (.iconst 0, 1) := by decide +kernel
theorem dX9_readExpression_101 : decode cX9_readExpression 101 = .ok (.invokevirtual 143, 3) := by decide +kernel
theorem dX9_readExpression_104 : decode cX9_readExpression 104 = .ok (.aload_n 0, 1) := by decide +kernel
theorem dX9_readExpression_105 : decode cX9_readExpression 105 = .ok (.dup, 1) := by decide +kernel
theorem dX9_readExpression_106 : decode cX9_readExpression 106 = .ok (.getfield 96, 3) := by decide +kernel
theorem dX9_readExpression_109 : decode cX9_readExpression 109 = .ok (.iconst 1, 1) := by decide +kernel
theorem dX9_readExpression_110 : decode cX9_readExpression 110 = .ok (.iadd, 1) := by decide +kernel
theorem dX9_readExpression_111 : decode cX9_readExpression 111 = .ok (.putfield 96, 3) := by decide +kernel
theorem dX9_readExpression_114 : decode cX9_readExpression 114 = .ok (.iconst 0, 1) := by decide +kernel
theorem dX9_readExpression_115 : decode cX9_readExpression 115 = .ok (.istore_n 1, 1) := by decide +kernel
theorem dX9_readExpression_116 : decode cX9_readExpression 116 = .ok (.goto 141, 3) := by decide +kernel
theorem dX9_readExpression_119 : decode cX9_readExpression 119 = .ok (.iload 4, 2) := by decide +kernel
theorem dX9_readExpression_121 : decode cX9_readExpression 121 = .ok (.bipush 42, 2) := by decide +kernel
theorem dX9_readExpression_123 : decode cX9_readExpression 123 = .ok (.if_icmp .eq 10, 3) := by decide +kernel
theorem dX9_readExpression_126 : decode cX9_readExpression 126 = .ok (.iload 4, 2) := by decide +kernel
theorem dX9_readExpression_128 : decode cX9_readExpression 128 = .ok (.bipush 47, 2) := by decide +kernel
theorem dX9_readExpression_130 : decode cX9_readExpression 130 = .ok (.if_icmp .ne 55, 3) := by decide +kernel
theorem dX9_readExpression_133 : decode cX9_readExpression 133 = .ok (.aload_n 0, 1) := by decide +kernel
theorem dX9_readExpression_134 : decode cX9_readExpression 134 = .ok (.bipush 14, 2) := by decide +kernel
theorem dX9_readExpression_136 : decode cX9_readExpression 136 = .ok (.bipush 15, 2) := by decide +kernel
theorem dX9_readExpression_138 : decode cX9_readExpression 138 = .ok (.invokevirtual 109, 3) := by decide +kernel
theorem dX9_readExpression_141 : decode cX9_readExpression 141 = .ok (.ifCond .eq 10, 3) := by decide +kernel
theorem dX9_readExpression_144 : decode cX9_readExpression 144 = .ok (.aload_n 0, 1) := by decide +kernel
theorem dX9_readExpression_145 : decode cX9_readExpression 145 = .ok (.invokevirtual 113, 3) := by decide +kernel
theorem dX9_readExpression_148 : decode cX9_readExpression 148 = .ok (.goto (-15), 3) := by decide +kernel
theorem dX9_readExpression_151 : decode cX9_readExpression 151 = .ok (.aload_n 0, 1) := by decide +kernel
theorem dX9_readExpression_152 : decode cX9_readExpression 152 = .ok (.iload 4, 2) := by decide +kernel
theorem dX9_readExpression_154 : decode cX9_readExpression 154 = .ok (.bipush 42, 2) := by decide +kernel
theorem dX9_readExpression_156 : decode cX9_readExpression 156 = .ok (.if_icmp .ne 8, 3) := by decide +kernel
theorem dX9_readExpression_159 : decode cX9_readExpression 159 = .ok (.bipush 14, 2) := by decide +kernel
theorem dX9_readExpression_161 : decode cX9_readExpression 161 = .ok (.goto 5, 3) := by decide +kernel
theorem dX9_readExpression_164 : decode cX9_readExpression 164 = .ok (.bipush 15, 2) := by decide +kernel
theorem dX9_readExpression_166 : decode cX9_readExpression 166 = .ok (.iconst 0, 1) := by decide +kernel
theorem dX9_readExpression_167 : decode cX9_readExpression 167 = .ok (.invokevirtual 143, 3) := by decide +kernel
theorem dX9_readExpression_170 : decode cX9_readExpression 170 = .ok (.aload_n 0, 1) := by decide +kernel
theorem dX9_readExpression_171 : decode cX9_readExpression 171 = .ok (.dup, 1) := by decide +kernel
theorem dX9_readExpression_172 : decode cX9_readExpression 172 = .ok (.getfield 96, 3) := by decide +kernel
theorem dX9_readExpression_175 : decode cX9_readExpression 175 = .ok (.iconst 1, 1) := by decide +kernel
theorem dX9_readExpression_176 : decode cX9_readExpression 176 = .ok (.iadd, 1) := by decide +kernel
theorem dX9_readExpression_177 : decode cX9_readExpression 177 = .ok (.putfield 96, 3) := by decide +kernel
theorem dX9_readExpression_180 : decode cX9_readExpression 180 = .ok (.iconst 0, 1) := by decide +kernel
theorem dX9_readExpression_181 : decode cX9_readExpression 181 = .ok (.istore_n 1, 1) := by decide +kernel
theorem dX9_readExpression_182 : decode cX9_readExpression 182 = .ok (.goto 75, 3) := by decide +kernel
theorem dX9_readExpression_185 : decode cX9_readExpression 185 = .ok (.iload 4, 2) := by decide +kernel
theorem dX9_readExpression_187 : decode cX9_readExpression 187 = .ok (.bipush 41, 2) := by decide +kernel
theorem dX9_readExpression_189 : decode cX9_readExpression 189 = .ok (.if_icmp .ne 55, 3) := by decide +kernel
theorem dX9_readExpression_192 : decode cX9_readExpression 192 = .ok (.iload_n 3, 1) := by decide +kernel
theorem dX9_readExpression_193 : decode cX9_readExpression 193 = .ok (.ifCond .le 51, 3) := by decide +kernel
theorem dX9_readExpression_196 : decode cX9_readExpression 196 = .ok (.aload_n 0, 1) := by decide +kernel
theorem dX9_readExpression_197 : decode cX9_readExpression 197 = .ok (.bipush 17, 2) := by decide +kernel
theorem dX9_readExpression_199 : decode cX9_readExpression 199 = .ok (.bipush 17, 2) := by decide +kernel
theorem dX9_readExpression_201 : decode cX9_readExpression 201 = .ok (.invokevirtual 109, 3) := by decide +kernel
theorem dX9_readExpression_204 : decode cX9_readExpression 204 = .ok (.ifCond .ne 10, 3) := by decide +kernel
theorem dX9_readExpression_207 : decode cX9_readExpression 207 = .ok (.aload_n 0, 1) := by decide +kernel
theorem dX9_readExpression_208 : decode cX9_readExpression 208 = .ok (.invokevirtual 113, 3) := by decide +kernel
theorem dX9_readExpression_211 : decode cX9_readExpression 211 = .ok (.goto (-15), 3) := by decide +kernel
theorem dX9_readExpression_214 : decode cX9_readExpression 214 = .ok (.aload_n 0, 1) := by decide +kernel
theorem dX9_readExpression_215 : decode cX9_readExpression 215 = .ok (.dup, 1) := by decide +kernel
theorem dX9_readExpression_216 : decode cX9_readExpression 216 = .ok (.getfield 102, 3) := by decide +kernel
theorem dX9_readExpression_219 : decode cX9_readExpression 219 = .ok (.iconst 1, 1) := by decide +kernel
theorem dX9_readExpression_220 : decode cX9_readExpression 220 = .ok (.isub, 1) := by decide +kernel
theorem dX9_readExpression_221 : decode cX9_readExpression 221 = .ok (.putfield 102, 3) := by decide +kernel
theorem dX9_readExpression_224 : decode cX9_readExpression 224 = .ok (.iinc 3 (-1), 3) := by decide +kernel
theorem dX9_readExpression_227 : decode cX9_readExpression 227 = .ok (.aload_n 0, 1) := by decide +kernel
theorem dX9_readExpression_228 : decode cX9_readExpression 228 = .ok (.dup, 1) := by decide +kernel
theorem dX9_readExpression_229 : decode cX9_readExpression 229 = .ok (.getfield 96, 3) := by decide +kernel
theorem dX9_readExpression_232 : decode cX9_readExpression 232 = .ok (.iconst 1, 1) := by decide +kernel
theorem dX9_readExpression_233 : decode cX9_readExpression 233 = .ok (.iadd, 1) := by decide +kernel
theorem dX9_readExpression_234 : decode cX9_readExpression 234 = .ok (.putfield 96, 3) := by decide +kernel
theorem dX9_readExpression_237 : decode cX9_readExpression 237 = .ok (.aload_n 0, 1) := by decide +kernel
theorem dX9_readExpression_238 : decode cX9_readExpression 238 = .ok (.invokevirtual 127, 3) := by decide +kernel
theorem dX9_readExpression_241 : decode cX9_readExpression 241 = .ok (.goto 16, 3) := by decide +kernel
theorem dX9_readExpression_244 : decode cX9_readExpression 244 = .ok (.iload_n 3, 1) := by decide +kernel
theorem dX9_readExpression_245 : decode cX9_readExpression 245 = .ok (.ifCond .le 10, 3) := by decide +kernel
theorem dX9_readExpression_248 : decode cX9_readExpression 248 = .ok (.aload_n 0, 1) := by decide +kernel
theorem dX9_readExpression_249 : decode cX9_readExpression 249 = .ok (.invokevirtual 120, 3) := by decide +kernel
theorem dX9_readExpression_252 : decode cX9_readExpression 252 = .ok (.goto 5, 3) := by decide +kernel
theorem dX9_readExpression_255 : decode cX9_readExpression 255 = .ok (.iconst 0, 1) := by decide +kernel
theorem dX9_readExpression_256 : decode cX9_readExpression 256 = .ok (.istore_n 2, 1) := by decide +kernel
theorem dX9_readExpression_257 : decode cX9_readExpression 257 = .ok (.goto (-251), 3) := by decide +kernel
theorem dX9_readExpression_260 : decode cX9_readExpression 260 = .ok (.aload_n 0, 1) := by decide +kernel
theorem dX9_readExpression_261 : decode cX9_readExpression 261 = .ok (.getfield 102, 3) := by decide +kernel
theorem dX9_readExpression_264 : decode cX9_readExpression 264 = .ok (.ifCond .le 17, 3) := by decide +kernel
theorem dX9_readExpression_267 : decode cX9_readExpression 267 = .ok (.aload_n 0, 1) := by decide +kernel
theorem dX9_readExpression_268 : decode cX9_readExpression 268 = .ok (.getfield 99, 3) := by decide +kernel
theorem dX9_readExpression_271 : decode cX9_readExpression 271 = .ok (.ifCond .ge 10, 3) := by decide +kernel
theorem dX9_readExpression_274 : decode cX9_readExpression 274 = .ok (.aload_n 0, 1) := by decide +kernel
theorem dX9_readExpression_275 : decode cX9_readExpression 275 = .ok (.invokevirtual 113, 3) := by decide +kernel
theorem dX9_readExpression_278 : decode cX9_readExpression 278 = .ok (.goto (-18), 3) := by decide +kernel
theorem dX9_readExpression_281 : decode cX9_readExpression 281 = .ok (.return_, 1) := by decide +kernel
theorem dX9_isCompare_0 : decode cX9_isCompare 0 = .ok (.iload_n 0, 1) := by decide +kernel
theorem dX9_isCompare_1 : decode cX9_isCompare 1 = .ok (.bipush 60, 2) := by decide +kernel
theorem dX9_isCompare_3 : decode cX9_isCompare 3 = .ok (.if_icmp .eq 21, 3) := by decide +kernel
theorem dX9_isCompare_6 : decode cX9_isCompare 6 = .ok (.iload_n 0, 1) := by decide +kernel
theorem dX9_isCompare_7 : decode cX9_isCompare 7 = .ok (.bipush 62, 2) := by decide +kernel
theorem dX9_isCompare_9 : decode cX9_isCompare 9 = .ok (.if_icmp .eq 15, 3) := by decide +kernel
theorem dX9_isCompare_12 : decode cX9_isCompare 12 = .ok (.iload_n 0, 1) := by decide +kernel
theorem dX9_isCompare_13 : decode cX9_isCompare 13 = .ok (.bipush 61, 2) := by decide +kernel
theorem dX9_isCompare_15 : decode cX9_isCompare 15 = .ok (.if_icmp .eq 9, 3) := by decide +kernel
theorem dX9_isCompare_18 : decode cX9_isCompare 18 = .ok (.iload_n 0, 1) := by decide +kernel
theorem dX9_isCompare_19 : decode cX9_isCompare 19 = .ok (.bipush 33, 2) := by decide +kernel
theorem dX9_isCompare_21 : decode cX9_isCompare 21 = .ok (.if_icmp .ne 7, 3) := by decide +kernel
theorem dX9_isCompare_24 : decode cX9_isCompare 24 = .ok (.iconst 1, 1) := by decide +kernel
theorem dX9_isCompare_25 : decode cX9_isCompare 25 = .ok (.goto 4, 3) := by decide +kernel
theorem dX9_isCompare_28 : decode cX9_isCompare 28 = .ok (.iconst 0, 1) := by decide +kernel
theorem dX9_isCompare_29 : decode cX9_isCompare 29 = .ok (.ireturn, 1) := by decide +kernel
theorem dX9_readCondition_0 : decode cX9_readCondition 0 = .ok (.aload_n 0, 1) := by decide +kernel
theorem dX9_readCondition_1 : decode cX9_readCondition 1 = .ok (.iconst 0, 1) := by decide +kernel
theorem dX9_readCondition_2 : decode cX9_readCondition 2 = .ok (.putfield 102, 3) := by decide +kernel
theorem dX9_readCondition_5 : decode cX9_readCondition 5 = .ok (.aload_n 0, 1) := by decide +kernel
theorem dX9_readCondition_6 : decode cX9_readCondition 6 = .ok (.invokevirtual 149, 3) := by decide +kernel
theorem dX9_readCondition_9 : decode cX9_readCondition 9 = .ok (.aload_n 0, 1) := by decide +kernel
theorem dX9_readCondition_10 : decode cX9_readCondition 10 = .ok (.invokevirtual 116, 3) := by decide +kernel
theorem dX9_readCondition_13 : decode cX9_readCondition 13 = .ok (.istore_n 1, 1) := by decide +kernel
theorem dX9_readCondition_14 : decode cX9_readCondition 14 = .ok (.iload_n 1, 1) := by decide +kernel
theorem dX9_readCondition_15 : decode cX9_readCondition 15 = .ok (.invokestatic 152, 3) := by decide +kernel
theorem dX9_readCondition_18 : decode cX9_readCondition 18 = .ok (.ifCond .ne 7, 3) := by decide +kernel
theorem dX9_readCondition_21 : decode cX9_readCondition 21 = .ok (.aload_n 0, 1) := by decide +kernel
theorem dX9_readCondition_22 : decode cX9_readCondition 22 = .ok (.invokevirtual 120, 3) := by decide +kernel
theorem dX9_readCondition_25 : decode cX9_readCondition 25 = .ok (.aload_n 0, 1) := by decide +kernel
theorem dX9_readCondition_26 : decode cX9_readCondition 26 = .ok (.dup, 1) := by decide +kernel
theorem dX9_readCondition_27 : decode cX9_readCondition 27 = .ok (.getfield 96, 3) := by decide +kernel
theorem dX9_readCondition_30 : decode cX9_readCondition 30 = .ok (.iconst 1, 1) := by decide +kernel
theorem dX9_readCondition_31 : decode cX9_readCondition 31 = .ok (.iadd, 1) := by decide +kernel
theorem dX9_readCondition_32 : decode cX9_readCondition 32 = .ok (.putfield 96, 3) := by decide +kernel
theorem dX9_readCondition_35 : decode cX9_readCondition 35 = .ok (.aload_n 0, 1) := by decide +kernel
theorem dX9_readCondition_36 : decode cX9_readCondition 36 = .ok (.getfield 99, 3) := by decide +kernel
theorem dX9_readCondition_39 : decode cX9_readCondition 39 = .ok (.ifCond .ge 14, 3) := by decide +kernel
theorem dX9_readCondition_42 : decode cX9_readCondition 42 = .ok (.aload_n 0, 1) := by decide +kernel
theorem dX9_readCondition_43 : decode cX9_readCondition 43 = .ok (.invokevirtual 149, 3) := by decide +kernel
theorem dX9_readCondition_46 : decode cX9_readCondition 46 = .ok (.aload_n 0, 1) := by decide +kernel
theorem dX9_readCondition_47 : decode cX9_readCondition 47 = .ok (.bipush 16, 2) := by decide +kernel
theorem dX9_readCondition_49 : decode cX9_readCondition 49 = .ok (.iload_n 1, 1) := by decide +kernel
theorem dX9_readCondition_50 : decode cX9_readCondition 50 = .ok (.invokevirtual 105, 3) := by decide +kernel
theorem dX9_readCondition_53 : decode cX9_readCondition 53 = .ok (.return_, 1) := by decide +kernel
theorem dX9_readRule_0 : decode cX9_readRule 0 = .ok (.bipush 78, 2) := by decide +kernel
theorem dX9_readRule_2 : decode cX9_readRule 2 = .ok (.aload_n 0, 1) := by decide +kernel
theorem dX9_readRule_3 : decode cX9_readRule 3 = .ok (.getfield 22, 3) := by decide +kernel
theorem dX9_readRule_6 : decode cX9_readRule 6 = .ok (.bipush 6, 2) := by decide +kernel
theorem dX9_readRule_8 : decode cX9_readRule 8 = .ok (.iaload, 1) := by decide +kernel
theorem dX9_readRule_9 : decode cX9_readRule 9 = .ok (.iadd, 1) := by decide +kernel
theorem dX9_readRule_10 : decode cX9_readRule 10 = .ok (.istore_n 1, 1) := by decide +kernel
theorem dX9_readRule_11 : decode cX9_readRule 11 = .ok (.aload_n 0, 1) := by decide +kernel
theorem dX9_readRule_12 : decode cX9_readRule 12 = .ok (.getfield 28, 3) := by decide +kernel
theorem dX9_readRule_15 : decode cX9_readRule 15 = .ok (.iload_n 1, 1) := by decide +kernel
theorem dX9_readRule_16 : decode cX9_readRule 16 = .ok (.aload_n 0, 1) := by decide +kernel
theorem dX9_readRule_17 : decode cX9_readRule 17 = .ok (.invokevirtual 116, 3) := by decide +kernel
theorem dX9_readRule_20 : decode cX9_readRule 20 = .ok (.bipush 48, 2) := by decide +kernel
theorem dX9_readRule_22 : decode cX9_readRule 22 = .ok (.isub, 1) := by decide +kernel
theorem dX9_readRule_23 : decode cX9_readRule 23 = .ok (.iastore, 1) := by decide +kernel
theorem dX9_readRule_24 : decode cX9_readRule 24 = .ok (.aload_n 0, 1) := by decide +kernel
theorem dX9_readRule_25 : decode cX9_readRule 25 = .ok (.getfield 25, 3) := by decide +kernel
theorem dX9_readRule_28 : decode cX9_readRule 28 = .ok (.iload_n 1, 1) := by decide +kernel
theorem dX9_readRule_29 : decode cX9_readRule 29 = .ok (.aload_n 0, 1) := by decide +kernel
theorem dX9_readRule_30 : decode cX9_readRule 30 = .ok (.getfield 19, 3) := by decide +kernel
theorem dX9_readRule_33 : decode cX9_readRule 33 = .ok (.bipush 6, 2) := by decide +kernel
theorem dX9_readRule_35 : decode cX9_readRule 35 = .ok (.iaload, 1) := by decide +kernel
theorem dX9_readRule_36 : decode cX9_readRule 36 = .ok (.iastore, 1) := by decide +kernel
theorem dX9_readRule_37 : decode cX9_readRule 37 = .ok (.aload_n 0, 1) := by decide +kernel
theorem dX9_readRule_38 : decode cX9_readRule 38 = .ok (.invokevirtual 116, 3) := by decide +kernel
theorem dX9_readRule_41 : decode cX9_readRule 41 = .ok (.invokestatic 123, 3) := by decide +kernel
theorem dX9_readRule_44 : decode cX9_readRule 44 = .ok (.ifCond .ne 7, 3) := by decide +kernel
theorem dX9_readRule_47 : decode cX9_readRule 47 = .ok (.aload_n 0, 1) := by decide +kernel
theorem dX9_readRule_48 : decode cX9_readRule 48 = .ok (.invokevirtual 120, 3) := by decide +kernel
theorem dX9_readRule_51 : decode cX9_readRule 51 = .ok (.aload_n 0, 1) := by decide +kernel
theorem dX9_readRule_52 : decode cX9_readRule 52 = .ok (.dup, 1) := by decide +kernel
theorem dX9_readRule_53 : decode cX9_readRule 53 = .ok (.getfield 96, 3) := by decide +kernel
theorem dX9_readRule_56 : decode cX9_readRule 56 = .ok (.iconst 1, 1) := by decide +kernel
theorem dX9_readRule_57 : decode cX9_readRule 57 = .ok (.iadd, 1) := by decide +kernel
theorem dX9_readRule_58 : decode cX9_readRule 58 = .ok (.putfield 96, 3) := by decide +kernel
theorem dX9_readRule_61 : decode cX9_readRule 61 = .ok (.aload_n 0, 1) := by decide +kernel
theorem dX9_readRule_62 : decode cX9_readRule 62 = .ok (.getfield 99, 3) := by decide +kernel
theorem dX9_readRule_65 : decode cX9_readRule 65 = .ok (.ifCond .ge 16, 3) := by decide +kernel
theorem dX9_readRule_68 : decode cX9_readRule 68 = .ok (.aload_n 0, 1) := by decide +kernel
theorem dX9_readRule_69 : decode cX9_readRule 69 = .ok (.invokevirtual 116, 3) := by decide +kernel
theorem dX9_readRule_72 : decode cX9_readRule 72 = .ok (.bipush 58, 2) := by decide +kernel
theorem dX9_readRule_74 : decode cX9_readRule 74 = .ok (.if_icmp .eq 7, 3) := by decide +kernel
theorem dX9_readRule_77 : decode cX9_readRule 77 = .ok (.aload_n 0, 1) := by decide +kernel
theorem dX9_readRule_78 : decode cX9_readRule 78 = .ok (.invokevirtual 120, 3) := by decide +kernel
theorem dX9_readRule_81 : decode cX9_readRule 81 = .ok (.aload_n 0, 1) := by decide +kernel
theorem dX9_readRule_82 : decode cX9_readRule 82 = .ok (.dup, 1) := by decide +kernel
theorem dX9_readRule_83 : decode cX9_readRule 83 = .ok (.getfield 96, 3) := by decide +kernel
theorem dX9_readRule_86 : decode cX9_readRule 86 = .ok (.iconst 1, 1) := by decide +kernel
theorem dX9_readRule_87 : decode cX9_readRule 87 = .ok (.iadd, 1) := by decide +kernel
theorem dX9_readRule_88 : decode cX9_readRule 88 = .ok (.putfield 96, 3) := by decide +kernel
theorem dX9_readRule_91 : decode cX9_readRule 91 = .ok (.iconst 0, 1) := by decide +kernel
theorem dX9_readRule_92 : decode cX9_readRule 92 = .ok (.istore_n 2, 1) := by decide +kernel
theorem dX9_readRule_93 : decode cX9_readRule 93 = .ok (.aload_n 0, 1) := by decide +kernel
theorem dX9_readRule_94 : decode cX9_readRule 94 = .ok (.invokevirtual 116, 3) := by decide +kernel
theorem dX9_readRule_97 : decode cX9_readRule 97 = .ok (.bipush 59, 2) := by decide +kernel
theorem dX9_readRule_99 : decode cX9_readRule 99 = .ok (.if_icmp .eq 15, 3) := by decide +kernel
theorem dX9_readRule_102 : decode cX9_readRule 102 = .ok (.aload_n 0, 1) := by decide +kernel
theorem dX9_readRule_103 : decode cX9_readRule 103 = .ok (.invokevirtual 116, 3) := by decide +kernel
theorem dX9_readRule_106 : decode cX9_readRule 106 = .ok (.iconst (-1), 1) := by decide +kernel
theorem dX9_readRule_107 : decode cX9_readRule 107 = .ok (.if_icmp .eq 7, 3) := by decide +kernel
theorem dX9_readRule_110 : decode cX9_readRule 110 = .ok (.iconst 1, 1) := by decide +kernel
theorem dX9_readRule_111 : decode cX9_readRule 111 = .ok (.goto 4, 3) := by decide +kernel
theorem dX9_readRule_114 : decode cX9_readRule 114 = .ok (.iconst 0, 1) := by decide +kernel
theorem dX9_readRule_115 : decode cX9_readRule 115 = .ok (.istore_n 3, 1) := by decide +kernel
theorem dX9_readRule_116 : decode cX9_readRule 116 = .ok (.iload_n 3, 1) := by decide +kernel
theorem dX9_readRule_117 : decode cX9_readRule 117 = .ok (.ifCond .eq 69, 3) := by decide +kernel
theorem dX9_readRule_120 : decode cX9_readRule 120 = .ok (.aload_n 0, 1) := by decide +kernel
theorem dX9_readRule_121 : decode cX9_readRule 121 = .ok (.getfield 99, 3) := by decide +kernel
theorem dX9_readRule_124 : decode cX9_readRule 124 = .ok (.ifCond .ge 62, 3) := by decide +kernel
theorem dX9_readRule_127 : decode cX9_readRule 127 = .ok (.aload_n 0, 1) := by decide +kernel
theorem dX9_readRule_128 : decode cX9_readRule 128 = .ok (.invokevirtual 155, 3) := by decide +kernel
theorem dX9_readRule_131 : decode cX9_readRule 131 = .ok (.iinc 2 1, 3) := by decide +kernel
theorem dX9_readRule_134 : decode cX9_readRule 134 = .ok (.aload_n 0, 1) := by decide +kernel
theorem dX9_readRule_135 : decode cX9_readRule 135 = .ok (.getfield 99, 3) := by decide +kernel
theorem dX9_readRule_138 : decode cX9_readRule 138 = .ok (.ifCond .ge 22, 3) := by decide +kernel
theorem dX9_readRule_141 : decode cX9_readRule 141 = .ok (.aload_n 0, 1) := by decide +kernel
theorem dX9_readRule_142 : decode cX9_readRule 142 = .ok (.invokevirtual 116, 3) := by decide +kernel
theorem dX9_readRule_145 : decode cX9_readRule 145 = .ok (.bipush 44, 2) := by decide +kernel
theorem dX9_readRule_147 : decode cX9_readRule 147 = .ok (.if_icmp .ne 13, 3) := by decide +kernel
theorem dX9_readRule_150 : decode cX9_readRule 150 = .ok (.iload_n 2, 1) := by decide +kernel
theorem dX9_readRule_151 : decode cX9_readRule 151 = .ok (.bipush 6, 2) := by decide +kernel
theorem dX9_readRule_153 : decode cX9_readRule 153 = .ok (.if_icmp .ge 7, 3) := by decide +kernel
theorem dX9_readRule_156 : decode cX9_readRule 156 = .ok (.iconst 1, 1) := by decide +kernel
theorem dX9_readRule_157 : decode cX9_readRule 157 = .ok (.goto 4, 3) := by decide +kernel
theorem dX9_readRule_160 : decode cX9_readRule 160 = .ok (.iconst 0, 1) := by decide +kernel
theorem dX9_readRule_161 : decode cX9_readRule 161 = .ok (.istore_n 3, 1) := by decide +kernel
theorem dX9_readRule_162 : decode cX9_readRule 162 = .ok (.aload_n 0, 1) := by decide +kernel
theorem dX9_readRule_163 : decode cX9_readRule 163 = .ok (.iload_n 3, 1) := by decide +kernel
theorem dX9_readRule_164 : decode cX9_readRule 164 = .ok (.ifCond .eq 12, 3) := by decide +kernel
theorem dX9_readRule_167 : decode cX9_readRule 167 = .ok (.aload_n 0, 1) := by decide +kernel
theorem dX9_readRule_168 : decode cX9_readRule 168 = .ok (.getfield 96, 3) := by decide +kernel
theorem dX9_readRule_171 : decode cX9_readRule 171 = .ok (.iconst 1, 1) := by decide +kernel
theorem dX9_readRule_172 : decode cX9_readRule 172 = .ok (.iadd, 1) := by decide +kernel
theorem dX9_readRule_173 : decode cX9_readRule 173 = .ok (.goto 7, 3) := by decide +kernel
theorem dX9_readRule_176 : decode cX9_readRule 176 = .ok (.aload_n 0, 1) := by decide +kernel
theorem dX9_readRule_177 : decode cX9_readRule 177 = .ok (.getfield 96, 3) := by decide +kernel
theorem dX9_readRule_180 : decode cX9_readRule 180 = .ok (.putfield 96, 3) := by decide +kernel
theorem dX9_readRule_183 : decode cX9_readRule 183 = .ok (.goto (-67), 3) := by decide +kernel
theorem dX9_readRule_186 : decode cX9_readRule 186 = .ok (.aload_n 0, 1) := by decide +kernel
theorem dX9_readRule_187 : decode cX9_readRule 187 = .ok (.getfield 22, 3) := by decide +kernel
theorem dX9_readRule_190 : decode cX9_readRule 190 = .ok (.bipush 6, 2) := by decide +kernel
theorem dX9_readRule_192 : decode cX9_readRule 192 = .ok (.dup2, 1) := by decide +kernel
theorem dX9_readRule_193 : decode cX9_readRule 193 = .ok (.iaload, 1) := by decide +kernel
theorem dX9_readRule_194 : decode cX9_readRule 194 = .ok (.iconst 1, 1) := by decide +kernel
theorem dX9_readRule_195 : decode cX9_readRule 195 = .ok (.iadd, 1) := by decide +kernel
theorem dX9_readRule_196 : decode cX9_readRule 196 = .ok (.iastore, 1) := by decide +kernel
theorem dX9_readRule_197 : decode cX9_readRule 197 = .ok (.aload_n 0, 1) := by decide +kernel
theorem dX9_readRule_198 : decode cX9_readRule 198 = .ok (.getfield 25, 3) := by decide +kernel
theorem dX9_readRule_201 : decode cX9_readRule 201 = .ok (.iload_n 1, 1) := by decide +kernel
theorem dX9_readRule_202 : decode cX9_readRule 202 = .ok (.iconst 1, 1) := by decide +kernel
theorem dX9_readRule_203 : decode cX9_readRule 203 = .ok (.iadd, 1) := by decide +kernel
theorem dX9_readRule_204 : decode cX9_readRule 204 = .ok (.aload_n 0, 1) := by decide +kernel
theorem dX9_readRule_205 : decode cX9_readRule 205 = .ok (.getfield 19, 3) := by decide +kernel
theorem dX9_readRule_208 : decode cX9_readRule 208 = .ok (.bipush 6, 2) := by decide +kernel
theorem dX9_readRule_210 : decode cX9_readRule 210 = .ok (.iaload, 1) := by decide +kernel
theorem dX9_readRule_211 : decode cX9_readRule 211 = .ok (.iastore, 1) := by decide +kernel
theorem dX9_readRule_212 : decode cX9_readRule 212 = .ok (.return_, 1) := by decide +kernel
theorem dX9_copy_0 : decode cX9_copy 0 = .ok (.iconst 0, 1) := by decide +kernel
theorem dX9_copy_1 : decode cX9_copy 1 = .ok (.istore_n 3, 1) := by decide +kernel
theorem dX9_copy_2 : decode cX9_copy 2 = .ok (.iload_n 3, 1) := by decide +kernel
theorem dX9_copy_3 : decode cX9_copy 3 = .ok (.sipush 400, 3) := by decide +kernel
theorem dX9_copy_6 : decode cX9_copy 6 = .ok (.if_icmp .ge 57, 3) := by decide +kernel
theorem dX9_copy_9 : decode cX9_copy 9 = .ok (.aload_n 0, 1) := by decide +kernel
theorem dX9_copy_10 : decode cX9_copy 10 = .ok (.getfield 13, 3) := by decide +kernel
theorem dX9_copy_13 : decode cX9_copy 13 = .ok (.sipush 400, 3) := by decide +kernel
theorem dX9_copy_16 : decode cX9_copy 16 = .ok (.iload_n 2, 1) := by decide +kernel
theorem dX9_copy_17 : decode cX9_copy 17 = .ok (.imul, 1) := by decide +kernel
theorem dX9_copy_18 : decode cX9_copy 18 = .ok (.iload_n 3, 1) := by decide +kernel
theorem dX9_copy_19 : decode cX9_copy 19 = .ok (.iadd, 1) := by decide +kernel
theorem dX9_copy_20 : decode cX9_copy 20 = .ok (.aload_n 0, 1) := by decide +kernel
theorem dX9_copy_21 : decode cX9_copy 21 = .ok (.getfield 13, 3) := by decide +kernel
theorem dX9_copy_24 : decode cX9_copy 24 = .ok (.sipush 400, 3) := by decide +kernel
theorem dX9_copy_27 : decode cX9_copy 27 = .ok (.iload_n 1, 1) := by decide +kernel
theorem dX9_copy_28 : decode cX9_copy 28 = .ok (.imul, 1) := by decide +kernel
theorem dX9_copy_29 : decode cX9_copy 29 = .ok (.iload_n 3, 1) := by decide +kernel
theorem dX9_copy_30 : decode cX9_copy 30 = .ok (.iadd, 1) := by decide +kernel
theorem dX9_copy_31 : decode cX9_copy 31 = .ok (.iaload, 1) := by decide +kernel
theorem dX9_copy_32 : decode cX9_copy 32 = .ok (.iastore, 1) := by decide +kernel
theorem dX9_copy_33 : decode cX9_copy 33 = .ok (.aload_n 0, 1) := by decide +kernel
theorem dX9_copy_34 : decode cX9_copy 34 = .ok (.getfield 16, 3) := by decide +kernel
theorem dX9_copy_37 : decode cX9_copy 37 = .ok (.sipush 400, 3) := by decide +kernel
theorem dX9_copy_40 : decode cX9_copy 40 = .ok (.iload_n 2, 1) := by decide +kernel
theorem dX9_copy_41 : decode cX9_copy 41 = .ok (.imul, 1) := by decide +kernel
theorem dX9_copy_42 : decode cX9_copy 42 = .ok (.iload_n 3, 1) := by decide +kernel
theorem dX9_copy_43 : decode cX9_copy 43 = .ok (.iadd, 1) := by decide +kernel
theorem dX9_copy_44 : decode cX9_copy 44 = .ok (.aload_n 0, 1) := by decide +kernel
theorem dX9_copy_45 : decode cX9_copy 45 = .ok (.getfield 16, 3) := by decide +kernel
theorem dX9_copy_48 : decode cX9_copy 48 = .ok (.sipush 400, 3) := by decide +kernel
theorem dX9_copy_51 : decode cX9_copy 51 = .ok (.iload_n 1, 1) := by decide +kernel
theorem dX9_copy_52 : decode cX9_copy 52 = .ok (.imul, 1) := by decide +kernel
theorem dX9_copy_53 : decode cX9_copy 53 = .ok (.iload_n 3, 1) := by decide +kernel
theorem dX9_copy_54 : decode cX9_copy 54 = .ok (.iadd, 1) := by decide +kernel
theorem dX9_copy_55 : decode cX9_copy 55 = .ok (.iaload, 1) := by decide +kernel
theorem dX9_copy_56 : decode cX9_copy 56 = .ok (.iastore, 1) := by decide +kernel
theorem dX9_copy_57 : decode cX9_copy 57 = .ok (.iinc 3 1, 3) := by decide +kernel
theorem dX9_copy_60 : decode cX9_copy 60 = .ok (.goto (-58), 3) := by decide +kernel
theorem dX9_copy_63 : decode cX9_copy 63 = .ok (.iconst 0, 1) := by decide +kernel
theorem dX9_copy_64 : decode cX9_copy 64 = .ok (.istore_n 3, 1) := by decide +kernel
theorem dX9_copy_65 : decode cX9_copy 65 = .ok (.iload_n 3, 1) := by decide +kernel
theorem dX9_copy_66 : decode cX9_copy 66 = .ok (.bipush 13, 2) := by decide +kernel
theorem dX9_copy_68 : decode cX9_copy 68 = .ok (.if_icmp .ge 53, 3) := by decide +kernel
theorem dX9_copy_71 : decode cX9_copy 71 = .ok (.aload_n 0, 1) := by decide +kernel
theorem dX9_copy_72 : decode cX9_copy 72 = .ok (.getfield 25, 3) := by decide +kernel
theorem dX9_copy_75 : decode cX9_copy 75 = .ok (.bipush 13, 2) := by decide +kernel
theorem dX9_copy_77 : decode cX9_copy 77 = .ok (.iload_n 2, 1) := by decide +kernel
theorem dX9_copy_78 : decode cX9_copy 78 = .ok (.imul, 1) := by decide +kernel
theorem dX9_copy_79 : decode cX9_copy 79 = .ok (.iload_n 3, 1) := by decide +kernel
theorem dX9_copy_80 : decode cX9_copy 80 = .ok (.iadd, 1) := by decide +kernel
theorem dX9_copy_81 : decode cX9_copy 81 = .ok (.aload_n 0, 1) := by decide +kernel
theorem dX9_copy_82 : decode cX9_copy 82 = .ok (.getfield 25, 3) := by decide +kernel
theorem dX9_copy_85 : decode cX9_copy 85 = .ok (.bipush 13, 2) := by decide +kernel
theorem dX9_copy_87 : decode cX9_copy 87 = .ok (.iload_n 1, 1) := by decide +kernel
theorem dX9_copy_88 : decode cX9_copy 88 = .ok (.imul, 1) := by decide +kernel
theorem dX9_copy_89 : decode cX9_copy 89 = .ok (.iload_n 3, 1) := by decide +kernel
theorem dX9_copy_90 : decode cX9_copy 90 = .ok (.iadd, 1) := by decide +kernel
theorem dX9_copy_91 : decode cX9_copy 91 = .ok (.iaload, 1) := by decide +kernel
theorem dX9_copy_92 : decode cX9_copy 92 = .ok (.iastore, 1) := by decide +kernel
theorem dX9_copy_93 : decode cX9_copy 93 = .ok (.aload_n 0, 1) := by decide +kernel
theorem dX9_copy_94 : decode cX9_copy 94 = .ok (.getfield 28, 3) := by decide +kernel
theorem dX9_copy_97 : decode cX9_copy 97 = .ok (.bipush 13, 2) := by decide +kernel
theorem dX9_copy_99 : decode cX9_copy 99 = .ok (.iload_n 2, 1) := by decide +kernel
theorem dX9_copy_100 : decode cX9_copy 100 = .ok (.imul, 1) := by decide +kernel
theorem dX9_copy_101 : decode cX9_copy 101 = .ok (.iload_n 3, 1) := by decide +kernel
theorem dX9_copy_102 : decode cX9_copy 102 = .ok (.iadd, 1) := by decide +kernel
theorem dX9_copy_103 : decode cX9_copy 103 = .ok (.aload_n 0, 1) := by decide +kernel
theorem dX9_copy_104 : decode cX9_copy 104 = .ok (.getfield 28, 3) := by decide +kernel
theorem dX9_copy_107 : decode cX9_copy 107 = .ok (.bipush 13, 2) := by decide +kernel
theorem dX9_copy_109 : decode cX9_copy 109 = .ok (.iload_n 1, 1) := by decide +kernel
theorem dX9_copy_110 : decode cX9_copy 110 = .ok (.imul, 1) := by decide +kernel
theorem dX9_copy_111 : decode cX9_copy 111 = .ok (.iload_n 3, 1) := by decide +kernel
theorem dX9_copy_112 : decode cX9_copy 112 = .ok (.iadd, 1) := by decide +kernel
theorem dX9_copy_113 : decode cX9_copy 113 = .ok (.iaload, 1) := by decide +kernel
theorem dX9_copy_114 : decode cX9_copy 114 = .ok (.iastore, 1) := by decide +kernel
theorem dX9_copy_115 : decode cX9_copy 115 = .ok (.iinc 3 1, 3) := by decide +kernel
theorem dX9_copy_118 : decode cX9_copy 118 = .ok (.goto (-53), 3) := by decide +kernel
theorem dX9_copy_121 : decode cX9_copy 121 = .ok (.aload_n 0, 1) := by decide +kernel
theorem dX9_copy_122 : decode cX9_copy 122 = .ok (.getfield 19, 3) := by decide +kernel
theorem dX9_copy_125 : decode cX9_copy 125 = .ok (.iload_n 2, 1) := by decide +kernel
theorem dX9_copy_126 : decode cX9_copy 126 = .ok (.aload_n 0, 1) := by decide +kernel
theorem dX9_copy_127 : decode cX9_copy 127 = .ok (.getfield 19, 3) := by decide +kernel
theorem dX9_copy_130 : decode cX9_copy 130 = .ok (.iload_n 1, 1) := by decide +kernel
theorem dX9_copy_131 : decode cX9_copy 131 = .ok (.iaload, 1) := by decide +kernel
theorem dX9_copy_132 : decode cX9_copy 132 = .ok (.iastore, 1) := by decide +kernel
theorem dX9_copy_133 : decode cX9_copy 133 = .ok (.aload_n 0, 1) := by decide +kernel
theorem dX9_copy_134 : decode cX9_copy 134 = .ok (.getfield 22, 3) := by decide +kernel
theorem dX9_copy_137 : decode cX9_copy 137 = .ok (.iload_n 2, 1) := by decide +kernel
theorem dX9_copy_138 : decode cX9_copy 138 = .ok (.aload_n 0, 1) := by decide +kernel
theorem dX9_copy_139 : decode cX9_copy 139 = .ok (.getfield 22, 3) := by decide +kernel
theorem dX9_copy_142 : decode cX9_copy 142 = .ok (.iload_n 1, 1) := by decide +kernel
theorem dX9_copy_143 : decode cX9_copy 143 = .ok (.iaload, 1) := by decide +kernel
theorem dX9_copy_144 : decode cX9_copy 144 = .ok (.iastore, 1) := by decide +kernel
theorem dX9_copy_145 : decode cX9_copy 145 = .ok (.return_, 1) := by decide +kernel
theorem dX9_read_0 : decode cX9_read 0 = .ok (.aload_n 0, 1) := by decide +kernel
theorem dX9_read_1 : decode cX9_read 1 = .ok (.iconst 0, 1) := by decide +kernel
theorem dX9_read_2 : decode cX9_read 2 = .ok (.putfield 89, 3) := by decide +kernel
theorem dX9_read_5 : decode cX9_read 5 = .ok (.aload_n 0, 1) := by decide +kernel
theorem dX9_read_6 : decode cX9_read 6 = .ok (.iconst 0, 1) := by decide +kernel
theorem dX9_read_7 : decode cX9_read 7 = .ok (.putfield 96, 3) := by decide +kernel
theorem dX9_read_10 : decode cX9_read 10 = .ok (.aload_n 0, 1) := by decide +kernel
theorem dX9_read_11 : decode cX9_read 11 = .ok (.iconst (-1), 1) := by decide +kernel
theorem dX9_read_12 : decode cX9_read 12 = .ok (.putfield 99, 3) := by decide +kernel
theorem dX9_read_15 : decode cX9_read 15 = .ok (.aload_n 0, 1) := by decide +kernel
theorem dX9_read_16 : decode cX9_read 16 = .ok (.getfield 19, 3) := by decide +kernel
theorem dX9_read_19 : decode cX9_read 19 = .ok (.bipush 6, 2) := by decide +kernel
theorem dX9_read_21 : decode cX9_read 21 = .ok (.iconst 0, 1) := by decide +kernel
theorem dX9_read_22 : decode cX9_read 22 = .ok (.iastore, 1) := by decide +kernel
theorem dX9_read_23 : decode cX9_read 23 = .ok (.aload_n 0, 1) := by decide +kernel
theorem dX9_read_24 : decode cX9_read 24 = .ok (.getfield 22, 3) := by decide +kernel
theorem dX9_read_27 : decode cX9_read 27 = .ok (.bipush 6, 2) := by decide +kernel
theorem dX9_read_29 : decode cX9_read 29 = .ok (.iconst 0, 1) := by decide +kernel
theorem dX9_read_30 : decode cX9_read 30 = .ok (.iastore, 1) := by decide +kernel
theorem dX9_read_31 : decode cX9_read 31 = .ok (.aload_n 0, 1) := by decide +kernel
theorem dX9_read_32 : decode cX9_read 32 = .ok (.invokevirtual 158, 3) := by decide +kernel
theorem dX9_read_35 : decode cX9_read 35 = .ok (.aload_n 0, 1) := by decide +kernel
theorem dX9_read_36 : decode cX9_read 36 = .ok (.getfield 99, 3) := by decide +kernel
theorem dX9_read_39 : decode cX9_read 39 = .ok (.ifCond .ge 63, 3) := by decide +kernel
theorem dX9_read_42 : decode cX9_read 42 = .ok (.aload_n 0, 1) := by decide +kernel
theorem dX9_read_43 : decode cX9_read 43 = .ok (.getfield 96, 3) := by decide +kernel
theorem dX9_read_46 : decode cX9_read 46 = .ok (.aload_n 0, 1) := by decide +kernel
theorem dX9_read_47 : decode cX9_read 47 = .ok (.getfield 93, 3) := by decide +kernel
theorem dX9_read_50 : decode cX9_read 50 = .ok (.if_icmp .ge 52, 3) := by decide +kernel
theorem dX9_read_53 : decode cX9_read 53 = .ok (.aload_n 0, 1) := by decide +kernel
theorem dX9_read_54 : decode cX9_read 54 = .ok (.invokevirtual 116, 3) := by decide +kernel
theorem dX9_read_57 : decode cX9_read 57 = .ok (.bipush 59, 2) := by decide +kernel
theorem dX9_read_59 : decode cX9_read 59 = .ok (.if_icmp .ne 15, 3) := by decide +kernel
theorem dX9_read_62 : decode cX9_read 62 = .ok (.aload_n 0, 1) := by decide +kernel
theorem dX9_read_63 : decode cX9_read 63 = .ok (.getfield 22, 3) := by decide +kernel
theorem dX9_read_66 : decode cX9_read 66 = .ok (.bipush 6, 2) := by decide +kernel
theorem dX9_read_68 : decode cX9_read 68 = .ok (.iaload, 1) := by decide +kernel
theorem dX9_read_69 : decode cX9_read 69 = .ok (.bipush 12, 2) := by decide +kernel
theorem dX9_read_71 : decode cX9_read 71 = .ok (.if_icmp .ne 7, 3) := by decide +kernel
theorem dX9_read_74 : decode cX9_read 74 = .ok (.aload_n 0, 1) := by decide +kernel
theorem dX9_read_75 : decode cX9_read 75 = .ok (.invokevirtual 120, 3) := by decide +kernel
theorem dX9_read_78 : decode cX9_read 78 = .ok (.aload_n 0, 1) := by decide +kernel
theorem dX9_read_79 : decode cX9_read 79 = .ok (.dup, 1) := by decide +kernel
theorem dX9_read_80 : decode cX9_read 80 = .ok (.getfield 96, 3) := by decide +kernel
theorem dX9_read_83 : decode cX9_read 83 = .ok (.iconst 1, 1) := by decide +kernel
theorem dX9_read_84 : decode cX9_read 84 = .ok (.iadd, 1) := by decide +kernel
theorem dX9_read_85 : decode cX9_read 85 = .ok (.putfield 96, 3) := by decide +kernel
theorem dX9_read_88 : decode cX9_read 88 = .ok (.aload_n 0, 1) := by decide +kernel
theorem dX9_read_89 : decode cX9_read 89 = .ok (.getfield 99, 3) := by decide +kernel
theorem dX9_read_92 : decode cX9_read 92 = .ok (.ifCond .ge (-57), 3) := by decide +kernel
theorem dX9_read_95 : decode cX9_read 95 = .ok (.aload_n 0, 1) := by decide +kernel
theorem dX9_read_96 : decode cX9_read 96 = .ok (.invokevirtual 158, 3) := by decide +kernel
theorem dX9_read_99 : decode cX9_read 99 = .ok (.goto (-64), 3) := by decide +kernel
theorem dX9_read_102 : decode cX9_read 102 = .ok (.aload_n 0, 1) := by decide +kernel
theorem dX9_read_103 : decode cX9_read 103 = .ok (.iconst 0, 1) := by decide +kernel
theorem dX9_read_104 : decode cX9_read 104 = .ok (.putfield 93, 3) := by decide +kernel
theorem dX9_read_107 : decode cX9_read 107 = .ok (.aload_n 0, 1) := by decide +kernel
theorem dX9_read_108 : decode cX9_read 108 = .ok (.getfield 99, 3) := by decide +kernel
theorem dX9_read_111 : decode cX9_read 111 = .ok (.ifCond .lt 10, 3) := by decide +kernel
theorem dX9_read_114 : decode cX9_read 114 = .ok (.iconst (-1), 1) := by decide +kernel
theorem dX9_read_115 : decode cX9_read 115 = .ok (.aload_n 0, 1) := by decide +kernel
theorem dX9_read_116 : decode cX9_read 116 = .ok (.getfield 99, 3) := by decide +kernel
theorem dX9_read_119 : decode cX9_read 119 = .ok (.isub, 1) := by decide +kernel
theorem dX9_read_120 : decode cX9_read 120 = .ok (.ireturn, 1) := by decide +kernel
theorem dX9_read_121 : decode cX9_read 121 = .ok (.aload_n 0, 1) := by decide +kernel
theorem dX9_read_122 : decode cX9_read 122 = .ok (.bipush 6, 2) := by decide +kernel
theorem dX9_read_124 : decode cX9_read 124 = .ok (.iconst 0, 1) := by decide +kernel
theorem dX9_read_125 : decode cX9_read 125 = .ok (.invokevirtual 161, 3) := by decide +kernel
theorem dX9_read_128 : decode cX9_read 128 = .ok (.aload_n 0, 1) := by decide +kernel
theorem dX9_read_129 : decode cX9_read 129 = .ok (.iconst 1, 1) := by decide +kernel
theorem dX9_read_130 : decode cX9_read 130 = .ok (.putfield 164, 3) := by decide +kernel
theorem dX9_read_133 : decode cX9_read 133 = .ok (.aload_n 0, 1) := by decide +kernel
theorem dX9_read_134 : decode cX9_read 134 = .ok (.getfield 22, 3) := by decide +kernel
theorem dX9_read_137 : decode cX9_read 137 = .ok (.iconst 0, 1) := by decide +kernel
theorem dX9_read_138 : decode cX9_read 138 = .ok (.iaload, 1) := by decide +kernel
theorem dX9_read_139 : decode cX9_read 139 = .ok (.ireturn, 1) := by decide +kernel
theorem dX9_insert_0 : decode cX9_insert 0 = .ok (.aload_n 0, 1) := by decide +kernel
theorem dX9_insert_1 : decode cX9_insert 1 = .ok (.getfield 168, 3) := by decide +kernel
theorem dX9_insert_4 : decode cX9_insert 4 = .ok (.istore_n 3, 1) := by decide +kernel
theorem dX9_insert_5 : decode cX9_insert 5 = .ok (.iload_n 3, 1) := by decide +kernel
theorem dX9_insert_6 : decode cX9_insert 6 = .ok (.iload_n 1, 1) := by decide +kernel
theorem dX9_insert_7 : decode cX9_insert 7 = .ok (.if_icmp .le 23, 3) := by decide +kernel
theorem dX9_insert_10 : decode cX9_insert 10 = .ok (.aload_n 0, 1) := by decide +kernel
theorem dX9_insert_11 : decode cX9_insert 11 = .ok (.getfield 80, 3) := by decide +kernel
theorem dX9_insert_14 : decode cX9_insert 14 = .ok (.iload_n 3, 1) := by decide +kernel
theorem dX9_insert_15 : decode cX9_insert 15 = .ok (.aload_n 0, 1) := by decide +kernel
theorem dX9_insert_16 : decode cX9_insert 16 = .ok (.getfield 80, 3) := by decide +kernel
theorem dX9_insert_19 : decode cX9_insert 19 = .ok (.iload_n 3, 1) := by decide +kernel
theorem dX9_insert_20 : decode cX9_insert 20 = .ok (.iconst 1, 1) := by decide +kernel
theorem dX9_insert_21 : decode cX9_insert 21 = .ok (.isub, 1) := by decide +kernel
theorem dX9_insert_22 : decode cX9_insert 22 = .ok (.iaload, 1) := by decide +kernel
theorem dX9_insert_23 : decode cX9_insert 23 = .ok (.iastore, 1) := by decide +kernel
theorem dX9_insert_24 : decode cX9_insert 24 = .ok (.iinc 3 (-1), 3) := by decide +kernel
theorem dX9_insert_27 : decode cX9_insert 27 = .ok (.goto (-22), 3) := by decide +kernel
theorem dX9_insert_30 : decode cX9_insert 30 = .ok (.aload_n 0, 1) := by decide +kernel
theorem dX9_insert_31 : decode cX9_insert 31 = .ok (.getfield 80, 3) := by decide +kernel
theorem dX9_insert_34 : decode cX9_insert 34 = .ok (.iload_n 1, 1) := by decide +kernel
theorem dX9_insert_35 : decode cX9_insert 35 = .ok (.iload_n 2, 1) := by decide +kernel
theorem dX9_insert_36 : decode cX9_insert 36 = .ok (.iastore, 1) := by decide +kernel
theorem dX9_insert_37 : decode cX9_insert 37 = .ok (.aload_n 0, 1) := by decide +kernel
theorem dX9_insert_38 : decode cX9_insert 38 = .ok (.dup, 1) := by decide +kernel
theorem dX9_insert_39 : decode cX9_insert 39 = .ok (.getfield 168, 3) := by decide +kernel
theorem dX9_insert_42 : decode cX9_insert 42 = .ok (.iconst 1, 1) := by decide +kernel
theorem dX9_insert_43 : decode cX9_insert 43 = .ok (.iadd, 1) := by decide +kernel
theorem dX9_insert_44 : decode cX9_insert 44 = .ok (.putfield 168, 3) := by decide +kernel
theorem dX9_insert_47 : decode cX9_insert 47 = .ok (.return_, 1) := by decide +kernel
theorem dX9_add_0 : decode cX9_add 0 = .ok (.aload_n 0, 1) := by decide +kernel
theorem dX9_add_1 : decode cX9_add 1 = .ok (.getfield 80, 3) := by decide +kernel
theorem dX9_add_4 : decode cX9_add 4 = .ok (.aload_n 0, 1) := by decide +kernel
theorem dX9_add_5 : decode cX9_add 5 = .ok (.getfield 168, 3) := by decide +kernel
theorem dX9_add_8 : decode cX9_add 8 = .ok (.iload_n 1, 1) := by decide +kernel
theorem dX9_add_9 : decode cX9_add 9 = .ok (.iastore, 1) := by decide +kernel
theorem dX9_add_10 : decode cX9_add 10 = .ok (.aload_n 0, 1) := by decide +kernel
theorem dX9_add_11 : decode cX9_add 11 = .ok (.dup, 1) := by decide +kernel
theorem dX9_add_12 : decode cX9_add 12 = .ok (.getfield 168, 3) := by decide +kernel
theorem dX9_add_15 : decode cX9_add 15 = .ok (.iconst 1, 1) := by decide +kernel
theorem dX9_add_16 : decode cX9_add 16 = .ok (.iadd, 1) := by decide +kernel
theorem dX9_add_17 : decode cX9_add 17 = .ok (.putfield 168, 3) := by decide +kernel
theorem dX9_add_20 : decode cX9_add 20 = .ok (.return_, 1) := by decide +kernel
theorem dX9_addNumber_0 : decode cX9_addNumber 0 = .ok (.iconst 1, 1) := by decide +kernel
theorem dX9_addNumber_1 : decode cX9_addNumber 1 = .ok (.istore_n 2, 1) := by decide +kernel
theorem dX9_addNumber_2 : decode cX9_addNumber 2 = .ok (.iload_n 1, 1) := by decide +kernel
theorem dX9_addNumber_3 : decode cX9_addNumber 3 = .ok (.iload_n 2, 1) := by decide +kernel
theorem dX9_addNumber_4 : decode cX9_addNumber 4 = .ok (.idiv, 1) := by decide +kernel
theorem dX9_addNumber_5 : decode cX9_addNumber 5 = .ok (.bipush 9, 2) := by decide +kernel
theorem dX9_addNumber_7 : decode cX9_addNumber 7 = .ok (.if_icmp .le 11, 3) := by decide +kernel
theorem dX9_addNumber_10 : decode cX9_addNumber 10 = .ok (.bipush 10, 2) := by decide +kernel
theorem dX9_addNumber_12 : decode cX9_addNumber 12 = .ok (.iload_n 2, 1) := by decide +kernel
theorem dX9_addNumber_13 : decode cX9_addNumber 13 = .ok (.imul, 1) := by decide +kernel
theorem dX9_addNumber_14 : decode cX9_addNumber 14 = .ok (.istore_n 2, 1) := by decide +kernel
theorem dX9_addNumber_15 : decode cX9_addNumber 15 = .ok (.goto (-13), 3) := by decide +kernel
theorem dX9_addNumber_18 : decode cX9_addNumber 18 = .ok (.iload_n 2, 1) := by decide +kernel
theorem dX9_addNumber_19 : decode cX9_addNumber 19 = .ok (.istore_n 3, 1) := by decide +kernel
theorem dX9_addNumber_20 : decode cX9_addNumber 20 = .ok (.iload_n 3, 1) := by decide +kernel
theorem dX9_addNumber_21 : decode cX9_addNumber 21 = .ok (.ifCond .le 24, 3) := by decide +kernel
theorem dX9_addNumber_24 : decode cX9_addNumber 24 = .ok (.aload_n 0, 1) := by decide +kernel
theorem dX9_addNumber_25 : decode cX9_addNumber 25 = .ok (.bipush 48, 2) := by decide +kernel
theorem dX9_addNumber_27 : decode cX9_addNumber 27 = .ok (.iload_n 1, 1) := by decide +kernel
theorem dX9_addNumber_28 : decode cX9_addNumber 28 = .ok (.iload_n 3, 1) := by decide +kernel
theorem dX9_addNumber_29 : decode cX9_addNumber 29 = .ok (.idiv, 1) := by decide +kernel
theorem dX9_addNumber_30 : decode cX9_addNumber 30 = .ok (.bipush 10, 2) := by decide +kernel
theorem dX9_addNumber_32 : decode cX9_addNumber 32 = .ok (.irem, 1) := by decide +kernel
theorem dX9_addNumber_33 : decode cX9_addNumber 33 = .ok (.iadd, 1) := by decide +kernel
theorem dX9_addNumber_34 : decode cX9_addNumber 34 = .ok (.invokevirtual 171, 3) := by decide +kernel
theorem dX9_addNumber_37 : decode cX9_addNumber 37 = .ok (.iload_n 3, 1) := by decide +kernel
theorem dX9_addNumber_38 : decode cX9_addNumber 38 = .ok (.bipush 10, 2) := by decide +kernel
theorem dX9_addNumber_40 : decode cX9_addNumber 40 = .ok (.idiv, 1) := by decide +kernel
theorem dX9_addNumber_41 : decode cX9_addNumber 41 = .ok (.istore_n 3, 1) := by decide +kernel
theorem dX9_addNumber_42 : decode cX9_addNumber 42 = .ok (.goto (-22), 3) := by decide +kernel
theorem dX9_addNumber_45 : decode cX9_addNumber 45 = .ok (.return_, 1) := by decide +kernel
theorem dX9_enclose_0 : decode cX9_enclose 0 = .ok (.aload_n 0, 1) := by decide +kernel
theorem dX9_enclose_1 : decode cX9_enclose 1 = .ok (.iload_n 1, 1) := by decide +kernel
theorem dX9_enclose_2 : decode cX9_enclose 2 = .ok (.bipush 40, 2) := by decide +kernel
theorem dX9_enclose_4 : decode cX9_enclose 4 = .ok (.invokevirtual 174, 3) := by decide +kernel
theorem dX9_enclose_7 : decode cX9_enclose 7 = .ok (.aload_n 0, 1) := by decide +kernel
theorem dX9_enclose_8 : decode cX9_enclose 8 = .ok (.bipush 41, 2) := by decide +kernel
theorem dX9_enclose_10 : decode cX9_enclose 10 = .ok (.invokevirtual 171, 3) := by decide +kernel
theorem dX9_enclose_13 : decode cX9_enclose 13 = .ok (.return_, 1) := by decide +kernel
theorem dX9_printSign_0 : decode cX9_printSign 0 = .ok (.iload_n 1, 1) := by decide +kernel
theorem dX9_printSign_1 : decode cX9_printSign 1 = .ok (.iconst 1, 1) := by decide +kernel
theorem dX9_printSign_2 : decode cX9_printSign 2 = .ok (.if_icmp .ne 29, 3) := by decide +kernel
theorem dX9_printSign_5 : decode cX9_printSign 5 = .ok (.aload_n 0, 1) := by decide +kernel
theorem dX9_printSign_6 : decode cX9_printSign 6 = .ok (.getfield 83, 3) := by decide +kernel
theorem dX9_printSign_9 : decode cX9_printSign 9 = .ok (.iload_n 3, 1) := by decide +kernel
theorem dX9_printSign_10 : decode cX9_printSign 10 = .ok (.aload_n 0, 1) := by decide +kernel
theorem dX9_printSign_11 : decode cX9_printSign 11 = .ok (.getfield 168, 3) := by decide +kernel
theorem dX9_printSign_14 : decode cX9_printSign 14 = .ok (.iastore, 1) := by decide +kernel
theorem dX9_printSign_15 : decode cX9_printSign 15 = .ok (.aload_n 0, 1) := by decide +kernel
theorem dX9_printSign_16 : decode cX9_printSign 16 = .ok (.getfield 86, 3) := by decide +kernel
theorem dX9_printSign_19 : decode cX9_printSign 19 = .ok (.iload_n 3, 1) := by decide +kernel
theorem dX9_printSign_20 : decode cX9_printSign 20 = .ok (.iconst 3, 1) := by decide +kernel
theorem dX9_printSign_21 : decode cX9_printSign 21 = .ok (.iastore, 1) := by decide +kernel
theorem dX9_printSign_22 : decode cX9_printSign 22 = .ok (.aload_n 0, 1) := by decide +kernel
theorem dX9_printSign_23 : decode cX9_printSign 23 = .ok (.iload_n 2, 1) := by decide +kernel
theorem dX9_printSign_24 : decode cX9_printSign 24 = .ok (.invokevirtual 177, 3) := by decide +kernel
theorem dX9_printSign_27 : decode cX9_printSign 27 = .ok (.iload_n 3, 1) := by decide +kernel
theorem dX9_printSign_28 : decode cX9_printSign 28 = .ok (.iconst 1, 1) := by decide +kernel
theorem dX9_printSign_29 : decode cX9_printSign 29 = .ok (.iadd, 1) := by decide +kernel
theorem dX9_printSign_30 : decode cX9_printSign 30 = .ok (.ireturn, 1) := by decide +kernel
theorem dX9_printSign_31 : decode cX9_printSign 31 = .ok (.iload_n 1, 1) := by decide +kernel
theorem dX9_printSign_32 : decode cX9_printSign 32 = .ok (.bipush 8, 2) := by decide +kernel
theorem dX9_printSign_34 : decode cX9_printSign 34 = .ok (.if_icmp .gt 30, 3) := by decide +kernel
theorem dX9_printSign_37 : decode cX9_printSign 37 = .ok (.aload_n 0, 1) := by decide +kernel
theorem dX9_printSign_38 : decode cX9_printSign 38 = .ok (.getfield 83, 3) := by decide +kernel
theorem dX9_printSign_41 : decode cX9_printSign 41 = .ok (.iload_n 3, 1) := by decide +kernel
theorem dX9_printSign_42 : decode cX9_printSign 42 = .ok (.aload_n 0, 1) := by decide +kernel
theorem dX9_printSign_43 : decode cX9_printSign 43 = .ok (.getfield 168, 3) := by decide +kernel
theorem dX9_printSign_46 : decode cX9_printSign 46 = .ok (.iastore, 1) := by decide +kernel
theorem dX9_printSign_47 : decode cX9_printSign 47 = .ok (.aload_n 0, 1) := by decide +kernel
theorem dX9_printSign_48 : decode cX9_printSign 48 = .ok (.getfield 86, 3) := by decide +kernel
theorem dX9_printSign_51 : decode cX9_printSign 51 = .ok (.iload_n 3, 1) := by decide +kernel
theorem dX9_printSign_52 : decode cX9_printSign 52 = .ok (.iconst 3, 1) := by decide +kernel
theorem dX9_printSign_53 : decode cX9_printSign 53 = .ok (.iastore, 1) := by decide +kernel
theorem dX9_printSign_54 : decode cX9_printSign 54 = .ok (.aload_n 0, 1) := by decide +kernel
theorem dX9_printSign_55 : decode cX9_printSign 55 = .ok (.iload_n 1, 1) := by decide +kernel
theorem dX9_printSign_56 : decode cX9_printSign 56 = .ok (.iload_n 2, 1) := by decide +kernel
theorem dX9_printSign_57 : decode cX9_printSign 57 = .ok (.invokevirtual 180, 3) := by decide +kernel
theorem dX9_printSign_60 : decode cX9_printSign 60 = .ok (.iload_n 3, 1) := by decide +kernel
theorem dX9_printSign_61 : decode cX9_printSign 61 = .ok (.iconst 1, 1) := by decide +kernel
theorem dX9_printSign_62 : decode cX9_printSign 62 = .ok (.iadd, 1) := by decide +kernel
theorem dX9_printSign_63 : decode cX9_printSign 63 = .ok (.ireturn, 1) := by decide +kernel
theorem dX9_printSign_64 : decode cX9_printSign 64 = .ok (.iload_n 1, 1) := by decide +kernel
theorem dX9_printSign_65 : decode cX9_printSign 65 = .ok (.bipush 11, 2) := by decide +kernel
theorem dX9_printSign_67 : decode cX9_printSign 67 = .ok (.if_icmp .gt 96, 3) := by decide +kernel
theorem dX9_printSign_70 : decode cX9_printSign 70 = .ok (.aload_n 0, 1) := by decide +kernel
theorem dX9_printSign_71 : decode cX9_printSign 71 = .ok (.getfield 86, 3) := by decide +kernel
theorem dX9_printSign_74 : decode cX9_printSign 74 = .ok (.iload_n 3, 1) := by decide +kernel
theorem dX9_printSign_75 : decode cX9_printSign 75 = .ok (.iconst 1, 1) := by decide +kernel
theorem dX9_printSign_76 : decode cX9_printSign 76 = .ok (.isub, 1) := by decide +kernel
theorem dX9_printSign_77 : decode cX9_printSign 77 = .ok (.iaload, 1) := by decide +kernel
theorem dX9_printSign_78 : decode cX9_printSign 78 = .ok (.iconst 3, 1) := by decide +kernel
theorem dX9_printSign_79 : decode cX9_printSign 79 = .ok (.if_icmp .ge 15, 3) := by decide +kernel
theorem dX9_printSign_82 : decode cX9_printSign 82 = .ok (.aload_n 0, 1) := by decide +kernel
theorem dX9_printSign_83 : decode cX9_printSign 83 = .ok (.aload_n 0, 1) := by decide +kernel
theorem dX9_printSign_84 : decode cX9_printSign 84 = .ok (.getfield 83, 3) := by decide +kernel
theorem dX9_printSign_87 : decode cX9_printSign 87 = .ok (.iload_n 3, 1) := by decide +kernel
theorem dX9_printSign_88 : decode cX9_printSign 88 = .ok (.iconst 1, 1) := by decide +kernel
theorem dX9_printSign_89 : decode cX9_printSign 89 = .ok (.isub, 1) := by decide +kernel
theorem dX9_printSign_90 : decode cX9_printSign 90 = .ok (.iaload, 1) := by decide +kernel
theorem dX9_printSign_91 : decode cX9_printSign 91 = .ok (.invokevirtual 183, 3) := by decide +kernel
theorem dX9_printSign_94 : decode cX9_printSign 94 = .ok (.iload_n 1, 1) := by decide +kernel
theorem dX9_printSign_95 : decode cX9_printSign 95 = .ok (.bipush 9, 2) := by decide +kernel
theorem dX9_printSign_97 : decode cX9_printSign 97 = .ok (.if_icmp .ne 19, 3) := by decide +kernel
theorem dX9_printSign_100 : decode cX9_printSign 100 = .ok (.aload_n 0, 1) := by decide +kernel
theorem dX9_printSign_101 : decode cX9_printSign 101 = .ok (.aload_n 0, 1) := by decide +kernel
theorem dX9_printSign_102 : decode cX9_printSign 102 = .ok (.getfield 83, 3) := by decide +kernel
theorem dX9_printSign_105 : decode cX9_printSign 105 = .ok (.iload_n 3, 1) := by decide +kernel
theorem dX9_printSign_106 : decode cX9_printSign 106 = .ok (.iconst 1, 1) := by decide +kernel
theorem dX9_printSign_107 : decode cX9_printSign 107 = .ok (.isub, 1) := by decide +kernel
theorem dX9_printSign_108 : decode cX9_printSign 108 = .ok (.iaload, 1) := by decide +kernel
theorem dX9_printSign_109 : decode cX9_printSign 109 = .ok (.bipush 48, 2) := by decide +kernel
theorem dX9_printSign_111 : decode cX9_printSign 111 = .ok (.iload_n 2, 1) := by decide +kernel
theorem dX9_printSign_112 : decode cX9_printSign 112 = .ok (.iadd, 1) := by decide +kernel
theorem dX9_printSign_113 : decode cX9_printSign 113 = .ok (.invokevirtual 174, 3) := by decide +kernel
theorem dX9_printSign_116 : decode cX9_printSign 116 = .ok (.aload_n 0, 1) := by decide +kernel
theorem dX9_printSign_117 : decode cX9_printSign 117 = .ok (.aload_n 0, 1) := by decide +kernel
theorem dX9_printSign_118 : decode cX9_printSign 118 = .ok (.getfield 83, 3) := by decide +kernel
theorem dX9_printSign_121 : decode cX9_printSign 121 = .ok (.iload_n 3, 1) := by decide +kernel
theorem dX9_printSign_122 : decode cX9_printSign 122 = .ok (.iconst 1, 1) := by decide +kernel
theorem dX9_printSign_123 : decode cX9_printSign 123 = .ok (.isub, 1) := by decide +kernel
theorem dX9_printSign_124 : decode cX9_printSign 124 = .ok (.iaload, 1) := by decide +kernel
theorem dX9_printSign_125 : decode cX9_printSign 125 = .ok (.iload_n 1, 1) := by decide +kernel
theorem dX9_printSign_126 : decode cX9_printSign 126 = .ok (.bipush 9, 2) := by decide +kernel
theorem dX9_printSign_128 : decode cX9_printSign 128 = .ok (.if_icmp .ne 8, 3) := by decide +kernel
theorem dX9_printSign_131 : decode cX9_printSign 131 = .ok (.bipush 99, 2) := by decide +kernel
theorem dX9_printSign_133 : decode cX9_printSign 133 = .ok (.goto 16, 3) := by decide +kernel
theorem dX9_printSign_136 : decode cX9_printSign 136 = .ok (.iload_n 1, 1) := by decide +kernel
theorem dX9_printSign_137 : decode cX9_printSign 137 = .ok (.bipush 10, 2) := by decide +kernel
theorem dX9_printSign_139 : decode cX9_printSign 139 = .ok (.if_icmp .ne 8, 3) := by decide +kernel
theorem dX9_printSign_142 : decode cX9_printSign 142 = .ok (.bipush 102, 2) := by decide +kernel
theorem dX9_printSign_144 : decode cX9_printSign 144 = .ok (.goto 5, 3) := by decide +kernel
theorem dX9_printSign_147 : decode cX9_printSign 147 = .ok (.bipush 45, 2) := by decide +kernel
theorem dX9_printSign_149 : decode cX9_printSign 149 = .ok (.invokevirtual 174, 3) := by decide +kernel
theorem dX9_printSign_152 : decode cX9_printSign 152 = .ok (.aload_n 0, 1) := by decide +kernel
theorem dX9_printSign_153 : decode cX9_printSign 153 = .ok (.getfield 86, 3) := by decide +kernel
theorem dX9_printSign_156 : decode cX9_printSign 156 = .ok (.iload_n 3, 1) := by decide +kernel
theorem dX9_printSign_157 : decode cX9_printSign 157 = .ok (.iconst 1, 1) := by decide +kernel
theorem dX9_printSign_158 : decode cX9_printSign 158 = .ok (.isub, 1) := by decide +kernel
theorem dX9_printSign_159 : decode cX9_printSign 159 = .ok (.iconst 3, 1) := by decide +kernel
theorem dX9_printSign_160 : decode cX9_printSign 160 = .ok (.iastore, 1) := by decide +kernel
theorem dX9_printSign_161 : decode cX9_printSign 161 = .ok (.iload_n 3, 1) := by decide +kernel
theorem dX9_printSign_162 : decode cX9_printSign 162 = .ok (.ireturn, 1) := by decide +kernel
theorem dX9_printSign_163 : decode cX9_printSign 163 = .ok (.aload_n 0, 1) := by decide +kernel
theorem dX9_printSign_164 : decode cX9_printSign 164 = .ok (.iload_n 1, 1) := by decide +kernel
theorem dX9_printSign_165 : decode cX9_printSign 165 = .ok (.iload_n 2, 1) := by decide +kernel
theorem dX9_printSign_166 : decode cX9_printSign 166 = .ok (.iload_n 3, 1) := by decide +kernel
theorem dX9_printSign_167 : decode cX9_printSign 167 = .ok (.invokevirtual 186, 3) := by decide +kernel
theorem dX9_printSign_170 : decode cX9_printSign 170 = .ok (.iload_n 3, 1) := by decide +kernel
theorem dX9_printSign_171 : decode cX9_printSign 171 = .ok (.iconst 1, 1) := by decide +kernel
theorem dX9_printSign_172 : decode cX9_printSign 172 = .ok (.isub, 1) := by decide +kernel
theorem dX9_printSign_173 : decode cX9_printSign 173 = .ok (.ireturn, 1) := by decide +kernel
theorem dX9_printAtom_0 : decode cX9_printAtom 0 = .ok (.iload_n 1, 1) := by decide +kernel
theorem dX9_printAtom_1 : decode cX9_printAtom 1 = .ok (.iconst 4, 1) := by decide +kernel
theorem dX9_printAtom_2 : decode cX9_printAtom 2 = .ok (.if_icmp .gt 30, 3) := by decide +kernel
theorem dX9_printAtom_5 : decode cX9_printAtom 5 = .ok (.aload_n 0, 1) := by decide +kernel
theorem dX9_printAtom_6 : decode cX9_printAtom 6 = .ok (.iload_n 1, 1) := by decide +kernel
theorem dX9_printAtom_7 : decode cX9_printAtom 7 = .ok (.iconst 2, 1) := by decide +kernel
theorem dX9_printAtom_8 : decode cX9_printAtom 8 = .ok (.if_icmp .ne 8, 3) := by decide +kernel
theorem dX9_printAtom_11 : decode cX9_printAtom 11 = .ok (.bipush 108, 2) := by decide +kernel
theorem dX9_printAtom_13 : decode cX9_printAtom 13 = .ok (.goto 15, 3) := by decide +kernel
theorem dX9_printAtom_16 : decode cX9_printAtom 16 = .ok (.iload_n 1, 1) := by decide +kernel
theorem dX9_printAtom_17 : decode cX9_printAtom 17 = .ok (.iconst 3, 1) := by decide +kernel
theorem dX9_printAtom_18 : decode cX9_printAtom 18 = .ok (.if_icmp .ne 8, 3) := by decide +kernel
theorem dX9_printAtom_21 : decode cX9_printAtom 21 = .ok (.bipush 119, 2) := by decide +kernel
theorem dX9_printAtom_23 : decode cX9_printAtom 23 = .ok (.goto 5, 3) := by decide +kernel
theorem dX9_printAtom_26 : decode cX9_printAtom 26 = .ok (.bipush 116, 2) := by decide +kernel
theorem dX9_printAtom_28 : decode cX9_printAtom 28 = .ok (.invokevirtual 171, 3) := by decide +kernel
theorem dX9_printAtom_31 : decode cX9_printAtom 31 = .ok (.return_, 1) := by decide +kernel
theorem dX9_printAtom_32 : decode cX9_printAtom 32 = .ok (.aload_n 0, 1) := by decide +kernel
theorem dX9_printAtom_33 : decode cX9_printAtom 33 = .ok (.iload_n 1, 1) := by decide +kernel
theorem dX9_printAtom_34 : decode cX9_printAtom 34 = .ok (.iconst 5, 1) := by decide +kernel
theorem dX9_printAtom_35 : decode cX9_printAtom 35 = .ok (.if_icmp .ne 8, 3) := by decide +kernel
theorem dX9_printAtom_38 : decode cX9_printAtom 38 = .ok (.bipush 110, 2) := by decide +kernel
theorem dX9_printAtom_40 : decode cX9_printAtom 40 = .ok (.goto 27, 3) := by decide +kernel
theorem dX9_printAtom_43 : decode cX9_printAtom 43 = .ok (.iload_n 1, 1) := by decide +kernel
theorem dX9_printAtom_44 : decode cX9_printAtom 44 = .ok (.bipush 6, 2) := by decide +kernel
theorem dX9_printAtom_46 : decode cX9_printAtom 46 = .ok (.if_icmp .ne 8, 3) := by decide +kernel
theorem dX9_printAtom_49 : decode cX9_printAtom 49 = .ok (.bipush 97, 2) := by decide +kernel
theorem dX9_printAtom_51 : decode cX9_printAtom 51 = .ok (.goto 16, 3) := by decide +kernel
theorem dX9_printAtom_54 : decode cX9_printAtom 54 = .ok (.iload_n 1, 1) := by decide +kernel
theorem dX9_printAtom_55 : decode cX9_printAtom 55 = .ok (.bipush 7, 2) := by decide +kernel
theorem dX9_printAtom_57 : decode cX9_printAtom 57 = .ok (.if_icmp .ne 8, 3) := by decide +kernel
theorem dX9_printAtom_60 : decode cX9_printAtom 60 = .ok (.bipush 115, 2) := by decide +kernel
theorem dX9_printAtom_62 : decode cX9_printAtom 62 = .ok (.goto 5, 3) := by decide +kernel
theorem dX9_printAtom_65 : decode cX9_printAtom 65 = .ok (.bipush 101, 2) := by decide +kernel
theorem dX9_printAtom_67 : decode cX9_printAtom 67 = .ok (.invokevirtual 171, 3) := by decide +kernel
theorem dX9_printAtom_70 : decode cX9_printAtom 70 = .ok (.aload_n 0, 1) := by decide +kernel
theorem dX9_printAtom_71 : decode cX9_printAtom 71 = .ok (.bipush 48, 2) := by decide +kernel
theorem dX9_printAtom_73 : decode cX9_printAtom 73 = .ok (.iload_n 2, 1) := by decide +kernel
theorem dX9_printAtom_74 : decode cX9_printAtom 74 = .ok (.iadd, 1) := by decide +kernel
theorem dX9_printAtom_75 : decode cX9_printAtom 75 = .ok (.invokevirtual 171, 3) := by decide +kernel
theorem dX9_printAtom_78 : decode cX9_printAtom 78 = .ok (.return_, 1) := by decide +kernel
theorem dX9_printBetween_0 : decode cX9_printBetween 0 = .ok (.iload_n 1, 1) := by decide +kernel
theorem dX9_printBetween_1 : decode cX9_printBetween 1 = .ok (.bipush 14, 2) := by decide +kernel
theorem dX9_printBetween_3 : decode cX9_printBetween 3 = .ok (.if_icmp .eq 9, 3) := by decide +kernel
theorem dX9_printBetween_6 : decode cX9_printBetween 6 = .ok (.iload_n 1, 1) := by decide +kernel
theorem dX9_printBetween_7 : decode cX9_printBetween 7 = .ok (.bipush 15, 2) := by decide +kernel
theorem dX9_printBetween_9 : decode cX9_printBetween 9 = .ok (.if_icmp .ne 7, 3) := by decide +kernel
theorem dX9_printBetween_12 : decode cX9_printBetween 12 = .ok (.iconst 1, 1) := by decide +kernel
theorem dX9_printBetween_13 : decode cX9_printBetween 13 = .ok (.goto 4, 3) := by decide +kernel
theorem dX9_printBetween_16 : decode cX9_printBetween 16 = .ok (.iconst 0, 1) := by decide +kernel
theorem dX9_printBetween_17 : decode cX9_printBetween 17 = .ok (.istore 4, 2) := by decide +kernel
theorem dX9_printBetween_19 : decode cX9_printBetween 19 = .ok (.aload_n 0, 1) := by decide +kernel
theorem dX9_printBetween_20 : decode cX9_printBetween 20 = .ok (.getfield 86, 3) := by decide +kernel
theorem dX9_printBetween_23 : decode cX9_printBetween 23 = .ok (.iload_n 3, 1) := by decide +kernel
theorem dX9_printBetween_24 : decode cX9_printBetween 24 = .ok (.iconst 1, 1) := by decide +kernel
theorem dX9_printBetween_25 : decode cX9_printBetween 25 = .ok (.isub, 1) := by decide +kernel
theorem dX9_printBetween_26 : decode cX9_printBetween 26 = .ok (.iaload, 1) := by decide +kernel
theorem dX9_printBetween_27 : decode cX9_printBetween 27 = .ok (.istore 5, 2) := by decide +kernel
theorem dX9_printBetween_29 : decode cX9_printBetween 29 = .ok (.iload_n 1, 1) := by decide +kernel
theorem dX9_printBetween_30 : decode cX9_printBetween 30 = .ok (.bipush 16, 2) := by decide +kernel
theorem dX9_printBetween_32 : decode cX9_printBetween 32 = .ok (.if_icmp .eq 32, 3) := by decide +kernel
theorem dX9_printBetween_35 : decode cX9_printBetween 35 = .ok (.iload 5, 2) := by decide +kernel
theorem dX9_printBetween_37 : decode cX9_printBetween 37 = .ok (.iconst 1, 1) := by decide +kernel
theorem dX9_printBetween_38 : decode cX9_printBetween 38 = .ok (.if_icmp .eq 14, 3) := by decide +kernel
theorem dX9_printBetween_41 : decode cX9_printBetween 41 = .ok (.iload 4, 2) := by decide +kernel
theorem dX9_printBetween_43 : decode cX9_printBetween 43 = .ok (.ifCond .eq 21, 3) := by decide +kernel
theorem dX9_printBetween_46 : decode cX9_printBetween 46 = .ok (.iload 5, 2) := by decide +kernel
theorem dX9_printBetween_48 : decode cX9_printBetween 48 = .ok (.iconst 2, 1) := by decide +kernel
theorem dX9_printBetween_49 : decode cX9_printBetween 49 = .ok (.if_icmp .ne 15, 3) := by decide +kernel
theorem dX9_printBetween_52 : decode cX9_printBetween 52 = .ok (.aload_n 0, 1) := by decide +kernel
theorem dX9_printBetween_53 : decode cX9_printBetween 53 = .ok (.aload_n 0, 1) := by decide +kernel
theorem dX9_printBetween_54 : decode cX9_printBetween 54 = .ok (.getfield 83, 3) := by decide +kernel
theorem dX9_printBetween_57 : decode cX9_printBetween 57 = .ok (.iload_n 3, 1) := by decide +kernel
theorem dX9_printBetween_58 : decode cX9_printBetween 58 = .ok (.iconst 1, 1) := by decide +kernel
theorem dX9_printBetween_59 : decode cX9_printBetween 59 = .ok (.isub, 1) := by decide +kernel
theorem dX9_printBetween_60 : decode cX9_printBetween 60 = .ok (.iaload, 1) := by decide +kernel
theorem dX9_printBetween_61 : decode cX9_printBetween 61 = .ok (.invokevirtual 183, 3) := by decide +kernel
theorem dX9_printBetween_64 : decode cX9_printBetween 64 = .ok (.aload_n 0, 1) := by decide +kernel
theorem dX9_printBetween_65 : decode cX9_printBetween 65 = .ok (.aload_n 0, 1) := by decide +kernel
theorem dX9_printBetween_66 : decode cX9_printBetween 66 = .ok (.getfield 83, 3) := by decide +kernel
theorem dX9_printBetween_69 : decode cX9_printBetween 69 = .ok (.iload_n 3, 1) := by decide +kernel
theorem dX9_printBetween_70 : decode cX9_printBetween 70 = .ok (.iconst 1, 1) := by decide +kernel
theorem dX9_printBetween_71 : decode cX9_printBetween 71 = .ok (.isub, 1) := by decide +kernel
theorem dX9_printBetween_72 : decode cX9_printBetween 72 = .ok (.iaload, 1) := by decide +kernel
theorem dX9_printBetween_73 : decode cX9_printBetween 73 = .ok (.iload_n 1, 1) := by decide +kernel
theorem dX9_printBetween_74 : decode cX9_printBetween 74 = .ok (.bipush 12, 2) := by decide +kernel
theorem dX9_printBetween_76 : decode cX9_printBetween 76 = .ok (.if_icmp .ne 8, 3) := by decide +kernel
theorem dX9_printBetween_79 : decode cX9_printBetween 79 = .ok (.bipush 43, 2) := by decide +kernel
theorem dX9_printBetween_81 : decode cX9_printBetween 81 = .ok (.goto 37, 3) := by decide +kernel
theorem dX9_printBetween_84 : decode cX9_printBetween 84 = .ok (.iload_n 1, 1) := by decide +kernel
theorem dX9_printBetween_85 : decode cX9_printBetween 85 = .ok (.bipush 13, 2) := by decide +kernel
theorem dX9_printBetween_87 : decode cX9_printBetween 87 = .ok (.if_icmp .ne 8, 3) := by decide +kernel
theorem dX9_printBetween_90 : decode cX9_printBetween 90 = .ok (.bipush 45, 2) := by decide +kernel
theorem dX9_printBetween_92 : decode cX9_printBetween 92 = .ok (.goto 26, 3) := by decide +kernel
theorem dX9_printBetween_95 : decode cX9_printBetween 95 = .ok (.iload_n 1, 1) := by decide +kernel
theorem dX9_printBetween_96 : decode cX9_printBetween 96 = .ok (.bipush 14, 2) := by decide +kernel
theorem dX9_printBetween_98 : decode cX9_printBetween 98 = .ok (.if_icmp .ne 8, 3) := by decide +kernel
theorem dX9_printBetween_101 : decode cX9_printBetween 101 = .ok (.bipush 42, 2) := by decide +kernel
theorem dX9_printBetween_103 : decode cX9_printBetween 103 = .ok (.goto 15, 3) := by decide +kernel
theorem dX9_printBetween_106 : decode cX9_printBetween 106 = .ok (.iload_n 1, 1) := by decide +kernel
theorem dX9_printBetween_107 : decode cX9_printBetween 107 = .ok (.bipush 15, 2) := by decide +kernel
theorem dX9_printBetween_109 : decode cX9_printBetween 109 = .ok (.if_icmp .ne 8, 3) := by decide +kernel
theorem dX9_printBetween_112 : decode cX9_printBetween 112 = .ok (.bipush 47, 2) := by decide +kernel
theorem dX9_printBetween_114 : decode cX9_printBetween 114 = .ok (.goto 4, 3) := by decide +kernel
theorem dX9_printBetween_117 : decode cX9_printBetween 117 = .ok (.iload_n 2, 1) := by decide +kernel
theorem dX9_printBetween_118 : decode cX9_printBetween 118 = .ok (.invokevirtual 174, 3) := by decide +kernel
theorem dX9_printBetween_121 : decode cX9_printBetween 121 = .ok (.iload 4, 2) := by decide +kernel
theorem dX9_printBetween_123 : decode cX9_printBetween 123 = .ok (.ifCond .eq 43, 3) := by decide +kernel
theorem dX9_printBetween_126 : decode cX9_printBetween 126 = .ok (.aload_n 0, 1) := by decide +kernel
theorem dX9_printBetween_127 : decode cX9_printBetween 127 = .ok (.getfield 86, 3) := by decide +kernel
theorem dX9_printBetween_130 : decode cX9_printBetween 130 = .ok (.iload_n 3, 1) := by decide +kernel
theorem dX9_printBetween_131 : decode cX9_printBetween 131 = .ok (.iconst 2, 1) := by decide +kernel
theorem dX9_printBetween_132 : decode cX9_printBetween 132 = .ok (.isub, 1) := by decide +kernel
theorem dX9_printBetween_133 : decode cX9_printBetween 133 = .ok (.iaload, 1) := by decide +kernel
theorem dX9_printBetween_134 : decode cX9_printBetween 134 = .ok (.iconst 1, 1) := by decide +kernel
theorem dX9_printBetween_135 : decode cX9_printBetween 135 = .ok (.if_icmp .ne 31, 3) := by decide +kernel
theorem dX9_printBetween_138 : decode cX9_printBetween 138 = .ok (.aload_n 0, 1) := by decide +kernel
theorem dX9_printBetween_139 : decode cX9_printBetween 139 = .ok (.aload_n 0, 1) := by decide +kernel
theorem dX9_printBetween_140 : decode cX9_printBetween 140 = .ok (.getfield 83, 3) := by decide +kernel
theorem dX9_printBetween_143 : decode cX9_printBetween 143 = .ok (.iload_n 3, 1) := by decide +kernel
theorem dX9_printBetween_144 : decode cX9_printBetween 144 = .ok (.iconst 1, 1) := by decide +kernel
theorem dX9_printBetween_145 : decode cX9_printBetween 145 = .ok (.isub, 1) := by decide +kernel
theorem dX9_printBetween_146 : decode cX9_printBetween 146 = .ok (.iaload, 1) := by decide +kernel
theorem dX9_printBetween_147 : decode cX9_printBetween 147 = .ok (.bipush 41, 2) := by decide +kernel
theorem dX9_printBetween_149 : decode cX9_printBetween 149 = .ok (.invokevirtual 174, 3) := by decide +kernel
theorem dX9_printBetween_152 : decode cX9_printBetween 152 = .ok (.aload_n 0, 1) := by decide +kernel
theorem dX9_printBetween_153 : decode cX9_printBetween 153 = .ok (.aload_n 0, 1) := by decide +kernel
theorem dX9_printBetween_154 : decode cX9_printBetween 154 = .ok (.getfield 83, 3) := by decide +kernel
theorem dX9_printBetween_157 : decode cX9_printBetween 157 = .ok (.iload_n 3, 1) := by decide +kernel
theorem dX9_printBetween_158 : decode cX9_printBetween 158 = .ok (.iconst 2, 1) := by decide +kernel
theorem dX9_printBetween_159 : decode cX9_printBetween 159 = .ok (.isub, 1) := by decide +kernel
theorem dX9_printBetween_160 : decode cX9_printBetween 160 = .ok (.iaload, 1) := by decide +kernel
theorem dX9_printBetween_161 : decode cX9_printBetween 161 = .ok (.bipush 40, 2) := by decide +kernel
theorem dX9_printBetween_163 : decode cX9_printBetween 163 = .ok (.invokevirtual 174, 3) := by decide +kernel
theorem dX9_printBetween_166 : decode cX9_printBetween 166 = .ok (.aload_n 0, 1) := by decide +kernel
theorem dX9_printBetween_167 : decode cX9_printBetween 167 = .ok (.getfield 86, 3) := by decide +kernel
theorem dX9_printBetween_170 : decode cX9_printBetween 170 = .ok (.iload_n 3, 1) := by decide +kernel
theorem dX9_printBetween_171 : decode cX9_printBetween 171 = .ok (.iconst 2, 1) := by decide +kernel
theorem dX9_printBetween_172 : decode cX9_printBetween 172 = .ok (.isub, 1) := by decide +kernel
theorem dX9_printBetween_173 : decode cX9_printBetween 173 = .ok (.iload 4, 2) := by decide +kernel
theorem dX9_printBetween_175 : decode cX9_printBetween 175 = .ok (.ifCond .eq 7, 3) := by decide +kernel
theorem dX9_printBetween_178 : decode cX9_printBetween 178 = .ok (.iconst 2, 1) := by decide +kernel
theorem dX9_printBetween_179 : decode cX9_printBetween 179 = .ok (.goto 4, 3) := by decide +kernel
theorem dX9_printBetween_182 : decode cX9_printBetween 182 = .ok (.iconst 1, 1) := by decide +kernel
theorem dX9_printBetween_183 : decode cX9_printBetween 183 = .ok (.iastore, 1) := by decide +kernel
theorem dX9_printBetween_184 : decode cX9_printBetween 184 = .ok (.return_, 1) := by decide +kernel
theorem dX9_print_0 : decode cX9_print 0 = .ok (.aload_n 0, 1) := by decide +kernel
theorem dX9_print_1 : decode cX9_print 1 = .ok (.iconst 0, 1) := by decide +kernel
theorem dX9_print_2 : decode cX9_print 2 = .ok (.putfield 168, 3) := by decide +kernel
theorem dX9_print_5 : decode cX9_print 5 = .ok (.iconst 0, 1) := by decide +kernel
theorem dX9_print_6 : decode cX9_print 6 = .ok (.istore_n 1, 1) := by decide +kernel
theorem dX9_print_7 : decode cX9_print 7 = .ok (.iload_n 1, 1) := by decide +kernel
theorem dX9_print_8 : decode cX9_print 8 = .ok (.aload_n 0, 1) := by decide +kernel
theorem dX9_print_9 : decode cX9_print 9 = .ok (.getfield 22, 3) := by decide +kernel
theorem dX9_print_12 : decode cX9_print 12 = .ok (.iconst 0, 1) := by decide +kernel
theorem dX9_print_13 : decode cX9_print 13 = .ok (.iaload, 1) := by decide +kernel
theorem dX9_print_14 : decode cX9_print 14 = .ok (.if_icmp .ge 120, 3) := by decide +kernel
theorem dX9_print_17 : decode cX9_print 17 = .ok (.iload_n 1, 1) := by decide +kernel
theorem dX9_print_18 : decode cX9_print 18 = .ok (.ifCond .le 9, 3) := by decide +kernel
theorem dX9_print_21 : decode cX9_print 21 = .ok (.aload_n 0, 1) := by decide +kernel
theorem dX9_print_22 : decode cX9_print 22 = .ok (.bipush 59, 2) := by decide +kernel
theorem dX9_print_24 : decode cX9_print 24 = .ok (.invokevirtual 171, 3) := by decide +kernel
theorem dX9_print_27 : decode cX9_print 27 = .ok (.aload_n 0, 1) := by decide +kernel
theorem dX9_print_28 : decode cX9_print 28 = .ok (.bipush 48, 2) := by decide +kernel
theorem dX9_print_30 : decode cX9_print 30 = .ok (.aload_n 0, 1) := by decide +kernel
theorem dX9_print_31 : decode cX9_print 31 = .ok (.getfield 28, 3) := by decide +kernel
theorem dX9_print_34 : decode cX9_print 34 = .ok (.iload_n 1, 1) := by decide +kernel
theorem dX9_print_35 : decode cX9_print 35 = .ok (.iaload, 1) := by decide +kernel
theorem dX9_print_36 : decode cX9_print 36 = .ok (.iadd, 1) := by decide +kernel
theorem dX9_print_37 : decode cX9_print 37 = .ok (.invokevirtual 171, 3) := by decide +kernel
theorem dX9_print_40 : decode cX9_print 40 = .ok (.aload_n 0, 1) := by decide +kernel
theorem dX9_print_41 : decode cX9_print 41 = .ok (.bipush 58, 2) := by decide +kernel
theorem dX9_print_43 : decode cX9_print 43 = .ok (.invokevirtual 171, 3) := by decide +kernel
theorem dX9_print_46 : decode cX9_print 46 = .ok (.iconst 0, 1) := by decide +kernel
theorem dX9_print_47 : decode cX9_print 47 = .ok (.istore_n 2, 1) := by decide +kernel
theorem dX9_print_48 : decode cX9_print 48 = .ok (.aload_n 0, 1) := by decide +kernel
theorem dX9_print_49 : decode cX9_print 49 = .ok (.getfield 25, 3) := by decide +kernel
theorem dX9_print_52 : decode cX9_print 52 = .ok (.iload_n 1, 1) := by decide +kernel
theorem dX9_print_53 : decode cX9_print 53 = .ok (.iaload, 1) := by decide +kernel
theorem dX9_print_54 : decode cX9_print 54 = .ok (.istore_n 3, 1) := by decide +kernel
theorem dX9_print_55 : decode cX9_print 55 = .ok (.iload_n 3, 1) := by decide +kernel
theorem dX9_print_56 : decode cX9_print 56 = .ok (.aload_n 0, 1) := by decide +kernel
theorem dX9_print_57 : decode cX9_print 57 = .ok (.getfield 25, 3) := by decide +kernel
theorem dX9_print_60 : decode cX9_print 60 = .ok (.iload_n 1, 1) := by decide +kernel
theorem dX9_print_61 : decode cX9_print 61 = .ok (.iconst 1, 1) := by decide +kernel
theorem dX9_print_62 : decode cX9_print 62 = .ok (.iadd, 1) := by decide +kernel
theorem dX9_print_63 : decode cX9_print 63 = .ok (.iaload, 1) := by decide +kernel
theorem dX9_print_64 : decode cX9_print 64 = .ok (.if_icmp .ge 64, 3) := by decide +kernel
theorem dX9_print_67 : decode cX9_print 67 = .ok (.iload_n 2, 1) := by decide +kernel
theorem dX9_print_68 : decode cX9_print 68 = .ok (.ifCond .ne 19, 3) := by decide +kernel
theorem dX9_print_71 : decode cX9_print 71 = .ok (.iload_n 3, 1) := by decide +kernel
theorem dX9_print_72 : decode cX9_print 72 = .ok (.aload_n 0, 1) := by decide +kernel
theorem dX9_print_73 : decode cX9_print 73 = .ok (.getfield 25, 3) := by decide +kernel
theorem dX9_print_76 : decode cX9_print 76 = .ok (.iload_n 1, 1) := by decide +kernel
theorem dX9_print_77 : decode cX9_print 77 = .ok (.iaload, 1) := by decide +kernel
theorem dX9_print_78 : decode cX9_print 78 = .ok (.if_icmp .le 9, 3) := by decide +kernel
theorem dX9_print_81 : decode cX9_print 81 = .ok (.aload_n 0, 1) := by decide +kernel
theorem dX9_print_82 : decode cX9_print 82 = .ok (.bipush 44, 2) := by decide +kernel
theorem dX9_print_84 : decode cX9_print 84 = .ok (.invokevirtual 171, 3) := by decide +kernel
theorem dX9_print_87 : decode cX9_print 87 = .ok (.aload_n 0, 1) := by decide +kernel
theorem dX9_print_88 : decode cX9_print 88 = .ok (.aload_n 0, 1) := by decide +kernel
theorem dX9_print_89 : decode cX9_print 89 = .ok (.getfield 13, 3) := by decide +kernel
theorem dX9_print_92 : decode cX9_print 92 = .ok (.iload_n 3, 1) := by decide +kernel
theorem dX9_print_93 : decode cX9_print 93 = .ok (.iaload, 1) := by decide +kernel
theorem dX9_print_94 : decode cX9_print 94 = .ok (.aload_n 0, 1) := by decide +kernel
theorem dX9_print_95 : decode cX9_print 95 = .ok (.getfield 16, 3) := by decide +kernel
theorem dX9_print_98 : decode cX9_print 98 = .ok (.iload_n 3, 1) := by decide +kernel
theorem dX9_print_99 : decode cX9_print 99 = .ok (.iaload, 1) := by decide +kernel
theorem dX9_print_100 : decode cX9_print 100 = .ok (.iload_n 2, 1) := by decide +kernel
theorem dX9_print_101 : decode cX9_print 101 = .ok (.invokevirtual 190, 3) := by decide +kernel
theorem dX9_print_104 : decode cX9_print 104 = .ok (.istore_n 2, 1) := by decide +kernel
theorem dX9_print_105 : decode cX9_print 105 = .ok (.aload_n 0, 1) := by decide +kernel
theorem dX9_print_106 : decode cX9_print 106 = .ok (.getfield 13, 3) := by decide +kernel
theorem dX9_print_109 : decode cX9_print 109 = .ok (.iload_n 3, 1) := by decide +kernel
theorem dX9_print_110 : decode cX9_print 110 = .ok (.iaload, 1) := by decide +kernel
theorem dX9_print_111 : decode cX9_print 111 = .ok (.bipush 16, 2) := by decide +kernel
theorem dX9_print_113 : decode cX9_print 113 = .ok (.if_icmp .ne 7, 3) := by decide +kernel
theorem dX9_print_116 : decode cX9_print 116 = .ok (.iconst 0, 1) := by decide +kernel
theorem dX9_print_117 : decode cX9_print 117 = .ok (.goto 4, 3) := by decide +kernel
theorem dX9_print_120 : decode cX9_print 120 = .ok (.iload_n 2, 1) := by decide +kernel
theorem dX9_print_121 : decode cX9_print 121 = .ok (.istore_n 2, 1) := by decide +kernel
theorem dX9_print_122 : decode cX9_print 122 = .ok (.iinc 3 1, 3) := by decide +kernel
theorem dX9_print_125 : decode cX9_print 125 = .ok (.goto (-70), 3) := by decide +kernel
theorem dX9_print_128 : decode cX9_print 128 = .ok (.iinc 1 1, 3) := by decide +kernel
theorem dX9_print_131 : decode cX9_print 131 = .ok (.goto (-124), 3) := by decide +kernel
theorem dX9_print_134 : decode cX9_print 134 = .ok (.return_, 1) := by decide +kernel
theorem dX9_write_0 : decode cX9_write 0 = .ok (.aload_n 0, 1) := by decide +kernel
theorem dX9_write_1 : decode cX9_write 1 = .ok (.aload_n 0, 1) := by decide +kernel
theorem dX9_write_2 : decode cX9_write 2 = .ok (.getfield 164, 3) := by decide +kernel
theorem dX9_write_5 : decode cX9_write 5 = .ok (.ifCond .ne 7, 3) := by decide +kernel
theorem dX9_write_8 : decode cX9_write 8 = .ok (.iconst 1, 1) := by decide +kernel
theorem dX9_write_9 : decode cX9_write 9 = .ok (.goto 12, 3) := by decide +kernel
theorem dX9_write_12 : decode cX9_write 12 = .ok (.iload_n 1, 1) := by decide +kernel
theorem dX9_write_13 : decode cX9_write 13 = .ok (.ifCond .ge 7, 3) := by decide +kernel
theorem dX9_write_16 : decode cX9_write 16 = .ok (.iconst 2, 1) := by decide +kernel
theorem dX9_write_17 : decode cX9_write 17 = .ok (.goto 4, 3) := by decide +kernel
theorem dX9_write_20 : decode cX9_write 20 = .ok (.iconst 0, 1) := by decide +kernel
theorem dX9_write_21 : decode cX9_write 21 = .ok (.putfield 89, 3) := by decide +kernel
theorem dX9_write_24 : decode cX9_write 24 = .ok (.aload_n 0, 1) := by decide +kernel
theorem dX9_write_25 : decode cX9_write 25 = .ok (.getfield 89, 3) := by decide +kernel
theorem dX9_write_28 : decode cX9_write 28 = .ok (.ifCond .le 5, 3) := by decide +kernel
theorem dX9_write_31 : decode cX9_write 31 = .ok (.iconst 0, 1) := by decide +kernel
theorem dX9_write_32 : decode cX9_write 32 = .ok (.ireturn, 1) := by decide +kernel
theorem dX9_write_33 : decode cX9_write 33 = .ok (.aload_n 0, 1) := by decide +kernel
theorem dX9_write_34 : decode cX9_write 34 = .ok (.invokevirtual 194, 3) := by decide +kernel
theorem dX9_write_37 : decode cX9_write 37 = .ok (.iload_n 1, 1) := by decide +kernel
theorem dX9_write_38 : decode cX9_write 38 = .ok (.aload_n 0, 1) := by decide +kernel
theorem dX9_write_39 : decode cX9_write 39 = .ok (.getfield 168, 3) := by decide +kernel
theorem dX9_write_42 : decode cX9_write 42 = .ok (.if_icmp .ge 12, 3) := by decide +kernel
theorem dX9_write_45 : decode cX9_write 45 = .ok (.aload_n 0, 1) := by decide +kernel
theorem dX9_write_46 : decode cX9_write 46 = .ok (.getfield 80, 3) := by decide +kernel
theorem dX9_write_49 : decode cX9_write 49 = .ok (.iload_n 1, 1) := by decide +kernel
theorem dX9_write_50 : decode cX9_write 50 = .ok (.iaload, 1) := by decide +kernel
theorem dX9_write_51 : decode cX9_write 51 = .ok (.goto 4, 3) := by decide +kernel
theorem dX9_write_54 : decode cX9_write 54 = .ok (.iconst (-1), 1) := by decide +kernel
theorem dX9_write_55 : decode cX9_write 55 = .ok (.ireturn, 1) := by decide +kernel
theorem dX9_edition_0 : decode cX9_edition 0 = .ok (.aload_n 0, 1) := by decide +kernel
theorem dX9_edition_1 : decode cX9_edition 1 = .ok (.aload_n 0, 1) := by decide +kernel
theorem dX9_edition_2 : decode cX9_edition 2 = .ok (.getfield 164, 3) := by decide +kernel
theorem dX9_edition_5 : decode cX9_edition 5 = .ok (.ifCond .eq 11, 3) := by decide +kernel
theorem dX9_edition_8 : decode cX9_edition 8 = .ok (.aload_n 0, 1) := by decide +kernel
theorem dX9_edition_9 : decode cX9_edition 9 = .ok (.getfield 197, 3) := by decide +kernel
theorem dX9_edition_12 : decode cX9_edition 12 = .ok (.iconst 4, 1) := by decide +kernel
theorem dX9_edition_13 : decode cX9_edition 13 = .ok (.if_icmp .ne 7, 3) := by decide +kernel
theorem dX9_edition_16 : decode cX9_edition 16 = .ok (.iconst 1, 1) := by decide +kernel
theorem dX9_edition_17 : decode cX9_edition 17 = .ok (.goto 37, 3) := by decide +kernel
theorem dX9_edition_20 : decode cX9_edition 20 = .ok (.lload_n 1, 1) := by decide +kernel
theorem dX9_edition_21 : decode cX9_edition 21 = .ok (.lconst 0, 1) := by decide +kernel
theorem dX9_edition_22 : decode cX9_edition 22 = .ok (.lcmp, 1) := by decide +kernel
theorem dX9_edition_23 : decode cX9_edition 23 = .ok (.ifCond .lt 26, 3) := by decide +kernel
theorem dX9_edition_26 : decode cX9_edition 26 = .ok (.aload_n 0, 1) := by decide +kernel
theorem dX9_edition_27 : decode cX9_edition 27 = .ok (.getfield 197, 3) := by decide +kernel
theorem dX9_edition_30 : decode cX9_edition 30 = .ok (.ifCond .le 23, 3) := by decide +kernel
theorem dX9_edition_33 : decode cX9_edition 33 = .ok (.lload_n 1, 1) := by decide +kernel
theorem dX9_edition_34 : decode cX9_edition 34 = .ok (.aload_n 0, 1) := by decide +kernel
theorem dX9_edition_35 : decode cX9_edition 35 = .ok (.getfield 37, 3) := by decide +kernel
theorem dX9_edition_38 : decode cX9_edition 38 = .ok (.aload_n 0, 1) := by decide +kernel
theorem dX9_edition_39 : decode cX9_edition 39 = .ok (.getfield 197, 3) := by decide +kernel
theorem dX9_edition_42 : decode cX9_edition 42 = .ok (.iconst 1, 1) := by decide +kernel
theorem dX9_edition_43 : decode cX9_edition 43 = .ok (.isub, 1) := by decide +kernel
theorem dX9_edition_44 : decode cX9_edition 44 = .ok (.laload, 1) := by decide +kernel
theorem dX9_edition_45 : decode cX9_edition 45 = .ok (.lcmp, 1) := by decide +kernel
theorem dX9_edition_46 : decode cX9_edition 46 = .ok (.ifCond .gt 7, 3) := by decide +kernel
theorem dX9_edition_49 : decode cX9_edition 49 = .ok (.iconst 2, 1) := by decide +kernel
theorem dX9_edition_50 : decode cX9_edition 50 = .ok (.goto 4, 3) := by decide +kernel
theorem dX9_edition_53 : decode cX9_edition 53 = .ok (.iconst 0, 1) := by decide +kernel
theorem dX9_edition_54 : decode cX9_edition 54 = .ok (.putfield 89, 3) := by decide +kernel
theorem dX9_edition_57 : decode cX9_edition 57 = .ok (.aload_n 0, 1) := by decide +kernel
theorem dX9_edition_58 : decode cX9_edition 58 = .ok (.getfield 89, 3) := by decide +kernel
theorem dX9_edition_61 : decode cX9_edition 61 = .ok (.ifCond .le 5, 3) := by decide +kernel
theorem dX9_edition_64 : decode cX9_edition 64 = .ok (.iconst 0, 1) := by decide +kernel
theorem dX9_edition_65 : decode cX9_edition 65 = .ok (.ireturn, 1) := by decide +kernel
theorem dX9_edition_66 : decode cX9_edition 66 = .ok (.aload_n 0, 1) := by decide +kernel
theorem dX9_edition_67 : decode cX9_edition 67 = .ok (.getfield 37, 3) := by decide +kernel
theorem dX9_edition_70 : decode cX9_edition 70 = .ok (.aload_n 0, 1) := by decide +kernel
theorem dX9_edition_71 : decode cX9_edition 71 = .ok (.getfield 197, 3) := by decide +kernel
theorem dX9_edition_74 : decode cX9_edition 74 = .ok (.lload_n 1, 1) := by decide +kernel
theorem dX9_edition_75 : decode cX9_edition 75 = .ok (.lastore, 1) := by decide +kernel
theorem dX9_edition_76 : decode cX9_edition 76 = .ok (.aload_n 0, 1) := by decide +kernel
theorem dX9_edition_77 : decode cX9_edition 77 = .ok (.dup, 1) := by decide +kernel
theorem dX9_edition_78 : decode cX9_edition 78 = .ok (.getfield 197, 3) := by decide +kernel
theorem dX9_edition_81 : decode cX9_edition 81 = .ok (.iconst 1, 1) := by decide +kernel
theorem dX9_edition_82 : decode cX9_edition 82 = .ok (.iadd, 1) := by decide +kernel
theorem dX9_edition_83 : decode cX9_edition 83 = .ok (.putfield 197, 3) := by decide +kernel
theorem dX9_edition_86 : decode cX9_edition 86 = .ok (.aload_n 0, 1) := by decide +kernel
theorem dX9_edition_87 : decode cX9_edition 87 = .ok (.iconst 0, 1) := by decide +kernel
theorem dX9_edition_88 : decode cX9_edition 88 = .ok (.aload_n 0, 1) := by decide +kernel
theorem dX9_edition_89 : decode cX9_edition 89 = .ok (.getfield 197, 3) := by decide +kernel
theorem dX9_edition_92 : decode cX9_edition 92 = .ok (.invokevirtual 161, 3) := by decide +kernel
theorem dX9_edition_95 : decode cX9_edition 95 = .ok (.aload_n 0, 1) := by decide +kernel
theorem dX9_edition_96 : decode cX9_edition 96 = .ok (.getfield 197, 3) := by decide +kernel
theorem dX9_edition_99 : decode cX9_edition 99 = .ok (.ireturn, 1) := by decide +kernel
theorem dX9_isSize_0 : decode cX9_isSize 0 = .ok (.iload_n 0, 1) := by decide +kernel
theorem dX9_isSize_1 : decode cX9_isSize 1 = .ok (.ifCond .lt 13, 3) := by decide +kernel
theorem dX9_isSize_4 : decode cX9_isSize 4 = .ok (.iload_n 0, 1) := by decide +kernel
theorem dX9_isSize_5 : decode cX9_isSize 5 = .ok (.ldc 200, 2) := by decide +kernel
theorem dX9_isSize_7 : decode cX9_isSize 7 = .ok (.if_icmp .gt 7, 3) := by decide +kernel
theorem dX9_isSize_10 : decode cX9_isSize 10 = .ok (.iconst 1, 1) := by decide +kernel
theorem dX9_isSize_11 : decode cX9_isSize 11 = .ok (.goto 4, 3) := by decide +kernel
theorem dX9_isSize_14 : decode cX9_isSize 14 = .ok (.iconst 0, 1) := by decide +kernel
theorem dX9_isSize_15 : decode cX9_isSize 15 = .ok (.ireturn, 1) := by decide +kernel
theorem dX9_board_0 : decode cX9_board 0 = .ok (.aload_n 0, 1) := by decide +kernel
theorem dX9_board_1 : decode cX9_board 1 = .ok (.iload_n 1, 1) := by decide +kernel
theorem dX9_board_2 : decode cX9_board 2 = .ok (.invokestatic 201, 3) := by decide +kernel
theorem dX9_board_5 : decode cX9_board 5 = .ok (.ifCond .eq 21, 3) := by decide +kernel
theorem dX9_board_8 : decode cX9_board 8 = .ok (.iload_n 2, 1) := by decide +kernel
theorem dX9_board_9 : decode cX9_board 9 = .ok (.invokestatic 201, 3) := by decide +kernel
theorem dX9_board_12 : decode cX9_board 12 = .ok (.ifCond .eq 14, 3) := by decide +kernel
theorem dX9_board_15 : decode cX9_board 15 = .ok (.iload_n 3, 1) := by decide +kernel
theorem dX9_board_16 : decode cX9_board 16 = .ok (.invokestatic 201, 3) := by decide +kernel
theorem dX9_board_19 : decode cX9_board 19 = .ok (.ifCond .eq 7, 3) := by decide +kernel
theorem dX9_board_22 : decode cX9_board 22 = .ok (.iconst 0, 1) := by decide +kernel
theorem dX9_board_23 : decode cX9_board 23 = .ok (.goto 4, 3) := by decide +kernel
theorem dX9_board_26 : decode cX9_board 26 = .ok (.iconst 1, 1) := by decide +kernel
theorem dX9_board_27 : decode cX9_board 27 = .ok (.putfield 89, 3) := by decide +kernel
theorem dX9_board_30 : decode cX9_board 30 = .ok (.aload_n 0, 1) := by decide +kernel
theorem dX9_board_31 : decode cX9_board 31 = .ok (.getfield 89, 3) := by decide +kernel
theorem dX9_board_34 : decode cX9_board 34 = .ok (.ifCond .ne 18, 3) := by decide +kernel
theorem dX9_board_37 : decode cX9_board 37 = .ok (.aload_n 0, 1) := by decide +kernel
theorem dX9_board_38 : decode cX9_board 38 = .ok (.iload_n 1, 1) := by decide +kernel
theorem dX9_board_39 : decode cX9_board 39 = .ok (.putfield 204, 3) := by decide +kernel
theorem dX9_board_42 : decode cX9_board 42 = .ok (.aload_n 0, 1) := by decide +kernel
theorem dX9_board_43 : decode cX9_board 43 = .ok (.iload_n 2, 1) := by decide +kernel
theorem dX9_board_44 : decode cX9_board 44 = .ok (.putfield 207, 3) := by decide +kernel
theorem dX9_board_47 : decode cX9_board 47 = .ok (.aload_n 0, 1) := by decide +kernel
theorem dX9_board_48 : decode cX9_board 48 = .ok (.iload_n 3, 1) := by decide +kernel
theorem dX9_board_49 : decode cX9_board 49 = .ok (.putfield 210, 3) := by decide +kernel
theorem dX9_board_52 : decode cX9_board 52 = .ok (.return_, 1) := by decide +kernel
theorem dX9_fault_0 : decode cX9_fault 0 = .ok (.iload_n 2, 1) := by decide +kernel
theorem dX9_fault_1 : decode cX9_fault 1 = .ok (.ifCond .lt 44, 3) := by decide +kernel
theorem dX9_fault_4 : decode cX9_fault 4 = .ok (.iload_n 2, 1) := by decide +kernel
theorem dX9_fault_5 : decode cX9_fault 5 = .ok (.bipush 7, 2) := by decide +kernel
theorem dX9_fault_7 : decode cX9_fault 7 = .ok (.if_icmp .gt 38, 3) := by decide +kernel
theorem dX9_fault_10 : decode cX9_fault 10 = .ok (.iload_n 3, 1) := by decide +kernel
theorem dX9_fault_11 : decode cX9_fault 11 = .ok (.invokestatic 201, 3) := by decide +kernel
theorem dX9_fault_14 : decode cX9_fault 14 = .ok (.ifCond .eq 31, 3) := by decide +kernel
theorem dX9_fault_17 : decode cX9_fault 17 = .ok (.iload 4, 2) := by decide +kernel
theorem dX9_fault_19 : decode cX9_fault 19 = .ok (.invokestatic 201, 3) := by decide +kernel
theorem dX9_fault_22 : decode cX9_fault 22 = .ok (.ifCond .eq 23, 3) := by decide +kernel
theorem dX9_fault_25 : decode cX9_fault 25 = .ok (.iload 5, 2) := by decide +kernel
theorem dX9_fault_27 : decode cX9_fault 27 = .ok (.invokestatic 201, 3) := by decide +kernel
theorem dX9_fault_30 : decode cX9_fault 30 = .ok (.ifCond .eq 15, 3) := by decide +kernel
theorem dX9_fault_33 : decode cX9_fault 33 = .ok (.iload 6, 2) := by decide +kernel
theorem dX9_fault_35 : decode cX9_fault 35 = .ok (.invokestatic 201, 3) := by decide +kernel
theorem dX9_fault_38 : decode cX9_fault 38 = .ok (.ifCond .eq 7, 3) := by decide +kernel
theorem dX9_fault_41 : decode cX9_fault 41 = .ok (.iconst 1, 1) := by decide +kernel
theorem dX9_fault_42 : decode cX9_fault 42 = .ok (.goto 4, 3) := by decide +kernel
theorem dX9_fault_45 : decode cX9_fault 45 = .ok (.iconst 0, 1) := by decide +kernel
theorem dX9_fault_46 : decode cX9_fault 46 = .ok (.istore 7, 2) := by decide +kernel
theorem dX9_fault_48 : decode cX9_fault 48 = .ok (.aload_n 0, 1) := by decide +kernel
theorem dX9_fault_49 : decode cX9_fault 49 = .ok (.iload_n 1, 1) := by decide +kernel
theorem dX9_fault_50 : decode cX9_fault 50 = .ok (.ifCond .lt 8, 3) := by decide +kernel
theorem dX9_fault_53 : decode cX9_fault 53 = .ok (.iload_n 1, 1) := by decide +kernel
theorem dX9_fault_54 : decode cX9_fault 54 = .ok (.iconst 1, 1) := by decide +kernel
theorem dX9_fault_55 : decode cX9_fault 55 = .ok (.if_icmp .le 7, 3) := by decide +kernel
theorem dX9_fault_58 : decode cX9_fault 58 = .ok (.iconst 1, 1) := by decide +kernel
theorem dX9_fault_59 : decode cX9_fault 59 = .ok (.goto 26, 3) := by decide +kernel
theorem dX9_fault_62 : decode cX9_fault 62 = .ok (.aload_n 0, 1) := by decide +kernel
theorem dX9_fault_63 : decode cX9_fault 63 = .ok (.getfield 213, 3) := by decide +kernel
theorem dX9_fault_66 : decode cX9_fault 66 = .ok (.bipush 10, 2) := by decide +kernel
theorem dX9_fault_68 : decode cX9_fault 68 = .ok (.if_icmp .ne 7, 3) := by decide +kernel
theorem dX9_fault_71 : decode cX9_fault 71 = .ok (.iconst 2, 1) := by decide +kernel
theorem dX9_fault_72 : decode cX9_fault 72 = .ok (.goto 13, 3) := by decide +kernel
theorem dX9_fault_75 : decode cX9_fault 75 = .ok (.iload 7, 2) := by decide +kernel
theorem dX9_fault_77 : decode cX9_fault 77 = .ok (.ifCond .eq 7, 3) := by decide +kernel
theorem dX9_fault_80 : decode cX9_fault 80 = .ok (.iconst 0, 1) := by decide +kernel
theorem dX9_fault_81 : decode cX9_fault 81 = .ok (.goto 4, 3) := by decide +kernel
theorem dX9_fault_84 : decode cX9_fault 84 = .ok (.iconst 3, 1) := by decide +kernel
theorem dX9_fault_85 : decode cX9_fault 85 = .ok (.putfield 89, 3) := by decide +kernel
theorem dX9_fault_88 : decode cX9_fault 88 = .ok (.aload_n 0, 1) := by decide +kernel
theorem dX9_fault_89 : decode cX9_fault 89 = .ok (.getfield 89, 3) := by decide +kernel
theorem dX9_fault_92 : decode cX9_fault 92 = .ok (.ifCond .le 5, 3) := by decide +kernel
theorem dX9_fault_95 : decode cX9_fault 95 = .ok (.iconst 0, 1) := by decide +kernel
theorem dX9_fault_96 : decode cX9_fault 96 = .ok (.ireturn, 1) := by decide +kernel
theorem dX9_fault_97 : decode cX9_fault 97 = .ok (.aload_n 0, 1) := by decide +kernel
theorem dX9_fault_98 : decode cX9_fault 98 = .ok (.getfield 41, 3) := by decide +kernel
theorem dX9_fault_101 : decode cX9_fault 101 = .ok (.aload_n 0, 1) := by decide +kernel
theorem dX9_fault_102 : decode cX9_fault 102 = .ok (.getfield 213, 3) := by decide +kernel
theorem dX9_fault_105 : decode cX9_fault 105 = .ok (.iload_n 1, 1) := by decide +kernel
theorem dX9_fault_106 : decode cX9_fault 106 = .ok (.iastore, 1) := by decide +kernel
theorem dX9_fault_107 : decode cX9_fault 107 = .ok (.aload_n 0, 1) := by decide +kernel
theorem dX9_fault_108 : decode cX9_fault 108 = .ok (.getfield 44, 3) := by decide +kernel
theorem dX9_fault_111 : decode cX9_fault 111 = .ok (.aload_n 0, 1) := by decide +kernel
theorem dX9_fault_112 : decode cX9_fault 112 = .ok (.getfield 213, 3) := by decide +kernel
theorem dX9_fault_115 : decode cX9_fault 115 = .ok (.iload_n 2, 1) := by decide +kernel
theorem dX9_fault_116 : decode cX9_fault 116 = .ok (.iastore, 1) := by decide +kernel
theorem dX9_fault_117 : decode cX9_fault 117 = .ok (.aload_n 0, 1) := by decide +kernel
theorem dX9_fault_118 : decode cX9_fault 118 = .ok (.getfield 47, 3) := by decide +kernel
theorem dX9_fault_121 : decode cX9_fault 121 = .ok (.aload_n 0, 1) := by decide +kernel
theorem dX9_fault_122 : decode cX9_fault 122 = .ok (.getfield 213, 3) := by decide +kernel
theorem dX9_fault_125 : decode cX9_fault 125 = .ok (.iload_n 3, 1) := by decide +kernel
theorem dX9_fault_126 : decode cX9_fault 126 = .ok (.iastore, 1) := by decide +kernel
theorem dX9_fault_127 : decode cX9_fault 127 = .ok (.aload_n 0, 1) := by decide +kernel
theorem dX9_fault_128 : decode cX9_fault 128 = .ok (.getfield 50, 3) := by decide +kernel
theorem dX9_fault_131 : decode cX9_fault 131 = .ok (.aload_n 0, 1) := by decide +kernel
theorem dX9_fault_132 : decode cX9_fault 132 = .ok (.getfield 213, 3) := by decide +kernel
theorem dX9_fault_135 : decode cX9_fault 135 = .ok (.iload 4, 2) := by decide +kernel
theorem dX9_fault_137 : decode cX9_fault 137 = .ok (.iastore, 1) := by decide +kernel
theorem dX9_fault_138 : decode cX9_fault 138 = .ok (.aload_n 0, 1) := by decide +kernel
theorem dX9_fault_139 : decode cX9_fault 139 = .ok (.getfield 53, 3) := by decide +kernel
theorem dX9_fault_142 : decode cX9_fault 142 = .ok (.aload_n 0, 1) := by decide +kernel
theorem dX9_fault_143 : decode cX9_fault 143 = .ok (.getfield 213, 3) := by decide +kernel
theorem dX9_fault_146 : decode cX9_fault 146 = .ok (.iload 5, 2) := by decide +kernel
theorem dX9_fault_148 : decode cX9_fault 148 = .ok (.iastore, 1) := by decide +kernel
theorem dX9_fault_149 : decode cX9_fault 149 = .ok (.aload_n 0, 1) := by decide +kernel
theorem dX9_fault_150 : decode cX9_fault 150 = .ok (.getfield 56, 3) := by decide +kernel
theorem dX9_fault_153 : decode cX9_fault 153 = .ok (.aload_n 0, 1) := by decide +kernel
theorem dX9_fault_154 : decode cX9_fault 154 = .ok (.getfield 213, 3) := by decide +kernel
theorem dX9_fault_157 : decode cX9_fault 157 = .ok (.iload 6, 2) := by decide +kernel
theorem dX9_fault_159 : decode cX9_fault 159 = .ok (.iastore, 1) := by decide +kernel
theorem dX9_fault_160 : decode cX9_fault 160 = .ok (.aload_n 0, 1) := by decide +kernel
theorem dX9_fault_161 : decode cX9_fault 161 = .ok (.dup, 1) := by decide +kernel
theorem dX9_fault_162 : decode cX9_fault 162 = .ok (.getfield 213, 3) := by decide +kernel
theorem dX9_fault_165 : decode cX9_fault 165 = .ok (.iconst 1, 1) := by decide +kernel
theorem dX9_fault_166 : decode cX9_fault 166 = .ok (.iadd, 1) := by decide +kernel
theorem dX9_fault_167 : decode cX9_fault 167 = .ok (.putfield 213, 3) := by decide +kernel
theorem dX9_fault_170 : decode cX9_fault 170 = .ok (.aload_n 0, 1) := by decide +kernel
theorem dX9_fault_171 : decode cX9_fault 171 = .ok (.getfield 213, 3) := by decide +kernel
theorem dX9_fault_174 : decode cX9_fault 174 = .ok (.ireturn, 1) := by decide +kernel
theorem dX9_clearFaults_0 : decode cX9_clearFaults 0 = .ok (.aload_n 0, 1) := by decide +kernel
theorem dX9_clearFaults_1 : decode cX9_clearFaults 1 = .ok (.iconst 0, 1) := by decide +kernel
theorem dX9_clearFaults_2 : decode cX9_clearFaults 2 = .ok (.putfield 89, 3) := by decide +kernel
theorem dX9_clearFaults_5 : decode cX9_clearFaults 5 = .ok (.aload_n 0, 1) := by decide +kernel
theorem dX9_clearFaults_6 : decode cX9_clearFaults 6 = .ok (.iconst 0, 1) := by decide +kernel
theorem dX9_clearFaults_7 : decode cX9_clearFaults 7 = .ok (.putfield 213, 3) := by decide +kernel
theorem dX9_clearFaults_10 : decode cX9_clearFaults 10 = .ok (.return_, 1) := by decide +kernel
theorem dX9_face_0 : decode cX9_face 0 = .ok (.aload_n 0, 1) := by decide +kernel
theorem dX9_face_1 : decode cX9_face 1 = .ok (.iload_n 1, 1) := by decide +kernel
theorem dX9_face_2 : decode cX9_face 2 = .ok (.ifCond .lt 8, 3) := by decide +kernel
theorem dX9_face_5 : decode cX9_face 5 = .ok (.iload_n 1, 1) := by decide +kernel
theorem dX9_face_6 : decode cX9_face 6 = .ok (.iconst 1, 1) := by decide +kernel
theorem dX9_face_7 : decode cX9_face 7 = .ok (.if_icmp .le 7, 3) := by decide +kernel
theorem dX9_face_10 : decode cX9_face 10 = .ok (.iconst 1, 1) := by decide +kernel
theorem dX9_face_11 : decode cX9_face 11 = .ok (.goto 4, 3) := by decide +kernel
theorem dX9_face_14 : decode cX9_face 14 = .ok (.iconst 0, 1) := by decide +kernel
theorem dX9_face_15 : decode cX9_face 15 = .ok (.putfield 89, 3) := by decide +kernel
theorem dX9_face_18 : decode cX9_face 18 = .ok (.aload_n 0, 1) := by decide +kernel
theorem dX9_face_19 : decode cX9_face 19 = .ok (.getfield 89, 3) := by decide +kernel
theorem dX9_face_22 : decode cX9_face 22 = .ok (.ifCond .le 7, 3) := by decide +kernel
theorem dX9_face_25 : decode cX9_face 25 = .ok (.iconst 0, 1) := by decide +kernel
theorem dX9_face_26 : decode cX9_face 26 = .ok (.goto 12, 3) := by decide +kernel
theorem dX9_face_29 : decode cX9_face 29 = .ok (.aload_n 0, 1) := by decide +kernel
theorem dX9_face_30 : decode cX9_face 30 = .ok (.iload_n 1, 1) := by decide +kernel
theorem dX9_face_31 : decode cX9_face 31 = .ok (.sipush 1023, 3) := by decide +kernel
theorem dX9_face_34 : decode cX9_face 34 = .ok (.invokevirtual 216, 3) := by decide +kernel
theorem dX9_face_37 : decode cX9_face 37 = .ok (.l2i, 1) := by decide +kernel
theorem dX9_face_38 : decode cX9_face 38 = .ok (.ireturn, 1) := by decide +kernel
theorem dX9_has_0 : decode cX9_has 0 = .ok (.iload_n 0, 1) := by decide +kernel
theorem dX9_has_1 : decode cX9_has 1 = .ok (.iload_n 1, 1) := by decide +kernel
theorem dX9_has_2 : decode cX9_has 2 = .ok (.ishr, 1) := by decide +kernel
theorem dX9_has_3 : decode cX9_has 3 = .ok (.iconst 1, 1) := by decide +kernel
theorem dX9_has_4 : decode cX9_has 4 = .ok (.iand, 1) := by decide +kernel
theorem dX9_has_5 : decode cX9_has 5 = .ok (.iconst 1, 1) := by decide +kernel
theorem dX9_has_6 : decode cX9_has 6 = .ok (.if_icmp .ne 7, 3) := by decide +kernel
theorem dX9_has_9 : decode cX9_has 9 = .ok (.iconst 1, 1) := by decide +kernel
theorem dX9_has_10 : decode cX9_has 10 = .ok (.goto 4, 3) := by decide +kernel
theorem dX9_has_13 : decode cX9_has 13 = .ok (.iconst 0, 1) := by decide +kernel
theorem dX9_has_14 : decode cX9_has 14 = .ok (.ireturn, 1) := by decide +kernel
theorem dX9_onFace_0 : decode cX9_onFace 0 = .ok (.lconst 0, 1) := by decide +kernel
theorem dX9_onFace_1 : decode cX9_onFace 1 = .ok (.lstore_n 3, 1) := by decide +kernel
theorem dX9_onFace_2 : decode cX9_onFace 2 = .ok (.iconst 0, 1) := by decide +kernel
theorem dX9_onFace_3 : decode cX9_onFace 3 = .ok (.istore 5, 2) := by decide +kernel
theorem dX9_onFace_5 : decode cX9_onFace 5 = .ok (.iload 5, 2) := by decide +kernel
theorem dX9_onFace_7 : decode cX9_onFace 7 = .ok (.aload_n 0, 1) := by decide +kernel
theorem dX9_onFace_8 : decode cX9_onFace 8 = .ok (.getfield 213, 3) := by decide +kernel
theorem dX9_onFace_11 : decode cX9_onFace 11 = .ok (.if_icmp .ge 37, 3) := by decide +kernel
theorem dX9_onFace_14 : decode cX9_onFace 14 = .ok (.iload_n 2, 1) := by decide +kernel
theorem dX9_onFace_15 : decode cX9_onFace 15 = .ok (.iload 5, 2) := by decide +kernel
theorem dX9_onFace_17 : decode cX9_onFace 17 = .ok (.invokestatic 220, 3) := by decide +kernel
theorem dX9_onFace_20 : decode cX9_onFace 20 = .ok (.ifCond .eq 20, 3) := by decide +kernel
theorem dX9_onFace_23 : decode cX9_onFace 23 = .ok (.aload_n 0, 1) := by decide +kernel
theorem dX9_onFace_24 : decode cX9_onFace 24 = .ok (.getfield 41, 3) := by decide +kernel
theorem dX9_onFace_27 : decode cX9_onFace 27 = .ok (.iload 5, 2) := by decide +kernel
theorem dX9_onFace_29 : decode cX9_onFace 29 = .ok (.iaload, 1) := by decide +kernel
theorem dX9_onFace_30 : decode cX9_onFace 30 = .ok (.iload_n 1, 1) := by decide +kernel
theorem dX9_onFace_31 : decode cX9_onFace 31 = .ok (.if_icmp .ne 9, 3) := by decide +kernel
theorem dX9_onFace_34 : decode cX9_onFace 34 = .ok (.lload_n 3, 1) := by decide +kernel
theorem dX9_onFace_35 : decode cX9_onFace 35 = .ok (.lconst 1, 1) := by decide +kernel
theorem dX9_onFace_36 : decode cX9_onFace 36 = .ok (.ladd, 1) := by decide +kernel
theorem dX9_onFace_37 : decode cX9_onFace 37 = .ok (.goto 4, 3) := by decide +kernel
theorem dX9_onFace_40 : decode cX9_onFace 40 = .ok (.lload_n 3, 1) := by decide +kernel
theorem dX9_onFace_41 : decode cX9_onFace 41 = .ok (.lstore_n 3, 1) := by decide +kernel
theorem dX9_onFace_42 : decode cX9_onFace 42 = .ok (.iinc 5 1, 3) := by decide +kernel
theorem dX9_onFace_45 : decode cX9_onFace 45 = .ok (.goto (-40), 3) := by decide +kernel
theorem dX9_onFace_48 : decode cX9_onFace 48 = .ok (.lload_n 3, 1) := by decide +kernel
theorem dX9_onFace_49 : decode cX9_onFace 49 = .ok (.lreturn, 1) := by decide +kernel
theorem dX9_worstOf_0 : decode cX9_worstOf 0 = .ok (.lconst 0, 1) := by decide +kernel
theorem dX9_worstOf_1 : decode cX9_worstOf 1 = .ok (.lstore 6, 2) := by decide +kernel
theorem dX9_worstOf_3 : decode cX9_worstOf 3 = .ok (.iconst 0, 1) := by decide +kernel
theorem dX9_worstOf_4 : decode cX9_worstOf 4 = .ok (.istore 8, 2) := by decide +kernel
theorem dX9_worstOf_6 : decode cX9_worstOf 6 = .ok (.iload 8, 2) := by decide +kernel
theorem dX9_worstOf_8 : decode cX9_worstOf 8 = .ok (.aload_n 0, 1) := by decide +kernel
theorem dX9_worstOf_9 : decode cX9_worstOf 9 = .ok (.getfield 213, 3) := by decide +kernel
theorem dX9_worstOf_12 : decode cX9_worstOf 12 = .ok (.if_icmp .ge 154, 3) := by decide +kernel
theorem dX9_worstOf_15 : decode cX9_worstOf 15 = .ok (.lconst 0, 1) := by decide +kernel
theorem dX9_worstOf_16 : decode cX9_worstOf 16 = .ok (.lstore 9, 2) := by decide +kernel
theorem dX9_worstOf_18 : decode cX9_worstOf 18 = .ok (.iconst 0, 1) := by decide +kernel
theorem dX9_worstOf_19 : decode cX9_worstOf 19 = .ok (.istore 11, 2) := by decide +kernel
theorem dX9_worstOf_21 : decode cX9_worstOf 21 = .ok (.iload 11, 2) := by decide +kernel
theorem dX9_worstOf_23 : decode cX9_worstOf 23 = .ok (.aload_n 0, 1) := by decide +kernel
theorem dX9_worstOf_24 : decode cX9_worstOf 24 = .ok (.getfield 213, 3) := by decide +kernel
theorem dX9_worstOf_27 : decode cX9_worstOf 27 = .ok (.if_icmp .ge 116, 3) := by decide +kernel
theorem dX9_worstOf_30 : decode cX9_worstOf 30 = .ok (.iload 5, 2) := by decide +kernel
theorem dX9_worstOf_32 : decode cX9_worstOf 32 = .ok (.iload 11, 2) := by decide +kernel
theorem dX9_worstOf_34 : decode cX9_worstOf 34 = .ok (.invokestatic 220, 3) := by decide +kernel
theorem dX9_worstOf_37 : decode cX9_worstOf 37 = .ok (.ifCond .eq 56, 3) := by decide +kernel
theorem dX9_worstOf_40 : decode cX9_worstOf 40 = .ok (.aload_n 0, 1) := by decide +kernel
theorem dX9_worstOf_41 : decode cX9_worstOf 41 = .ok (.getfield 44, 3) := by decide +kernel
theorem dX9_worstOf_44 : decode cX9_worstOf 44 = .ok (.iload 11, 2) := by decide +kernel
theorem dX9_worstOf_46 : decode cX9_worstOf 46 = .ok (.iaload, 1) := by decide +kernel
theorem dX9_worstOf_47 : decode cX9_worstOf 47 = .ok (.iload_n 1, 1) := by decide +kernel
theorem dX9_worstOf_48 : decode cX9_worstOf 48 = .ok (.if_icmp .ne 45, 3) := by decide +kernel
theorem dX9_worstOf_51 : decode cX9_worstOf 51 = .ok (.aload_n 0, 1) := by decide +kernel
theorem dX9_worstOf_52 : decode cX9_worstOf 52 = .ok (.getfield 47, 3) := by decide +kernel
theorem dX9_worstOf_55 : decode cX9_worstOf 55 = .ok (.iload 11, 2) := by decide +kernel
theorem dX9_worstOf_57 : decode cX9_worstOf 57 = .ok (.iaload, 1) := by decide +kernel
theorem dX9_worstOf_58 : decode cX9_worstOf 58 = .ok (.aload_n 0, 1) := by decide +kernel
theorem dX9_worstOf_59 : decode cX9_worstOf 59 = .ok (.getfield 47, 3) := by decide +kernel
theorem dX9_worstOf_62 : decode cX9_worstOf 62 = .ok (.iload 8, 2) := by decide +kernel
theorem dX9_worstOf_64 : decode cX9_worstOf 64 = .ok (.iaload, 1) := by decide +kernel
theorem dX9_worstOf_65 : decode cX9_worstOf 65 = .ok (.if_icmp .lt 28, 3) := by decide +kernel
theorem dX9_worstOf_68 : decode cX9_worstOf 68 = .ok (.aload_n 0, 1) := by decide +kernel
theorem dX9_worstOf_69 : decode cX9_worstOf 69 = .ok (.getfield 47, 3) := by decide +kernel
theorem dX9_worstOf_72 : decode cX9_worstOf 72 = .ok (.iload 11, 2) := by decide +kernel
theorem dX9_worstOf_74 : decode cX9_worstOf 74 = .ok (.iaload, 1) := by decide +kernel
theorem dX9_worstOf_75 : decode cX9_worstOf 75 = .ok (.aload_n 0, 1) := by decide +kernel
theorem dX9_worstOf_76 : decode cX9_worstOf 76 = .ok (.getfield 47, 3) := by decide +kernel
theorem dX9_worstOf_79 : decode cX9_worstOf 79 = .ok (.iload 8, 2) := by decide +kernel
theorem dX9_worstOf_81 : decode cX9_worstOf 81 = .ok (.iaload, 1) := by decide +kernel
theorem dX9_worstOf_82 : decode cX9_worstOf 82 = .ok (.isub, 1) := by decide +kernel
theorem dX9_worstOf_83 : decode cX9_worstOf 83 = .ok (.i2l, 1) := by decide +kernel
theorem dX9_worstOf_84 : decode cX9_worstOf 84 = .ok (.lload_n 2, 1) := by decide +kernel
theorem dX9_worstOf_85 : decode cX9_worstOf 85 = .ok (.lcmp, 1) := by decide +kernel
theorem dX9_worstOf_86 : decode cX9_worstOf 86 = .ok (.ifCond .ge 7, 3) := by decide +kernel
theorem dX9_worstOf_89 : decode cX9_worstOf 89 = .ok (.iconst 1, 1) := by decide +kernel
theorem dX9_worstOf_90 : decode cX9_worstOf 90 = .ok (.goto 4, 3) := by decide +kernel
theorem dX9_worstOf_93 : decode cX9_worstOf 93 = .ok (.iconst 0, 1) := by decide +kernel
theorem dX9_worstOf_94 : decode cX9_worstOf 94 = .ok (.istore 12, 2) := by decide +kernel
theorem dX9_worstOf_96 : decode cX9_worstOf 96 = .ok (.iload 12, 2) := by decide +kernel
theorem dX9_worstOf_98 : decode cX9_worstOf 98 = .ok (.ifCond .eq 35, 3) := by decide +kernel
theorem dX9_worstOf_101 : decode cX9_worstOf 101 = .ok (.lload 9, 2) := by decide +kernel
theorem dX9_worstOf_103 : decode cX9_worstOf 103 = .ok (.iload 4, 2) := by decide +kernel
theorem dX9_worstOf_105 : decode cX9_worstOf 105 = .ok (.ifCond .eq 23, 3) := by decide +kernel
theorem dX9_worstOf_108 : decode cX9_worstOf 108 = .ok (.aload_n 0, 1) := by decide +kernel
theorem dX9_worstOf_109 : decode cX9_worstOf 109 = .ok (.getfield 53, 3) := by decide +kernel
theorem dX9_worstOf_112 : decode cX9_worstOf 112 = .ok (.iload 11, 2) := by decide +kernel
theorem dX9_worstOf_114 : decode cX9_worstOf 114 = .ok (.iaload, 1) := by decide +kernel
theorem dX9_worstOf_115 : decode cX9_worstOf 115 = .ok (.i2l, 1) := by decide +kernel
theorem dX9_worstOf_116 : decode cX9_worstOf 116 = .ok (.aload_n 0, 1) := by decide +kernel
theorem dX9_worstOf_117 : decode cX9_worstOf 117 = .ok (.getfield 56, 3) := by decide +kernel
theorem dX9_worstOf_120 : decode cX9_worstOf 120 = .ok (.iload 11, 2) := by decide +kernel
theorem dX9_worstOf_122 : decode cX9_worstOf 122 = .ok (.iaload, 1) := by decide +kernel
theorem dX9_worstOf_123 : decode cX9_worstOf 123 = .ok (.i2l, 1) := by decide +kernel
theorem dX9_worstOf_124 : decode cX9_worstOf 124 = .ok (.lmul, 1) := by decide +kernel
theorem dX9_worstOf_125 : decode cX9_worstOf 125 = .ok (.goto 4, 3) := by decide +kernel
theorem dX9_worstOf_128 : decode cX9_worstOf 128 = .ok (.lconst 1, 1) := by decide +kernel
theorem dX9_worstOf_129 : decode cX9_worstOf 129 = .ok (.ladd, 1) := by decide +kernel
theorem dX9_worstOf_130 : decode cX9_worstOf 130 = .ok (.goto 5, 3) := by decide +kernel
theorem dX9_worstOf_133 : decode cX9_worstOf 133 = .ok (.lload 9, 2) := by decide +kernel
theorem dX9_worstOf_135 : decode cX9_worstOf 135 = .ok (.lstore 9, 2) := by decide +kernel
theorem dX9_worstOf_137 : decode cX9_worstOf 137 = .ok (.iinc 11 1, 3) := by decide +kernel
theorem dX9_worstOf_140 : decode cX9_worstOf 140 = .ok (.goto (-119), 3) := by decide +kernel
theorem dX9_worstOf_143 : decode cX9_worstOf 143 = .ok (.lload 9, 2) := by decide +kernel
theorem dX9_worstOf_145 : decode cX9_worstOf 145 = .ok (.lload 6, 2) := by decide +kernel
theorem dX9_worstOf_147 : decode cX9_worstOf 147 = .ok (.lcmp, 1) := by decide +kernel
theorem dX9_worstOf_148 : decode cX9_worstOf 148 = .ok (.ifCond .le 8, 3) := by decide +kernel
theorem dX9_worstOf_151 : decode cX9_worstOf 151 = .ok (.lload 9, 2) := by decide +kernel
theorem dX9_worstOf_153 : decode cX9_worstOf 153 = .ok (.goto 5, 3) := by decide +kernel
theorem dX9_worstOf_156 : decode cX9_worstOf 156 = .ok (.lload 6, 2) := by decide +kernel
theorem dX9_worstOf_158 : decode cX9_worstOf 158 = .ok (.lstore 6, 2) := by decide +kernel
theorem dX9_worstOf_160 : decode cX9_worstOf 160 = .ok (.iinc 8 1, 3) := by decide +kernel
theorem dX9_worstOf_163 : decode cX9_worstOf 163 = .ok (.goto (-157), 3) := by decide +kernel
theorem dX9_worstOf_166 : decode cX9_worstOf 166 = .ok (.lload_n 2, 1) := by decide +kernel
theorem dX9_worstOf_167 : decode cX9_worstOf 167 = .ok (.lconst 1, 1) := by decide +kernel
theorem dX9_worstOf_168 : decode cX9_worstOf 168 = .ok (.lcmp, 1) := by decide +kernel
theorem dX9_worstOf_169 : decode cX9_worstOf 169 = .ok (.ifCond .ge 7, 3) := by decide +kernel
theorem dX9_worstOf_172 : decode cX9_worstOf 172 = .ok (.lconst 0, 1) := by decide +kernel
theorem dX9_worstOf_173 : decode cX9_worstOf 173 = .ok (.goto 5, 3) := by decide +kernel
theorem dX9_worstOf_176 : decode cX9_worstOf 176 = .ok (.lload 6, 2) := by decide +kernel
theorem dX9_worstOf_178 : decode cX9_worstOf 178 = .ok (.lreturn, 1) := by decide +kernel
theorem dX9_ofKind_0 : decode cX9_ofKind 0 = .ok (.lconst 0, 1) := by decide +kernel
theorem dX9_ofKind_1 : decode cX9_ofKind 1 = .ok (.lstore 4, 2) := by decide +kernel
theorem dX9_ofKind_3 : decode cX9_ofKind 3 = .ok (.lconst 0, 1) := by decide +kernel
theorem dX9_ofKind_4 : decode cX9_ofKind 4 = .ok (.lstore 6, 2) := by decide +kernel
theorem dX9_ofKind_6 : decode cX9_ofKind 6 = .ok (.lconst 0, 1) := by decide +kernel
theorem dX9_ofKind_7 : decode cX9_ofKind 7 = .ok (.lstore 8, 2) := by decide +kernel
theorem dX9_ofKind_9 : decode cX9_ofKind 9 = .ok (.aload_n 0, 1) := by decide +kernel
theorem dX9_ofKind_10 : decode cX9_ofKind 10 = .ok (.getfield 207, 3) := by decide +kernel
theorem dX9_ofKind_13 : decode cX9_ofKind 13 = .ok (.i2l, 1) := by decide +kernel
theorem dX9_ofKind_14 : decode cX9_ofKind 14 = .ok (.lstore 10, 2) := by decide +kernel
theorem dX9_ofKind_16 : decode cX9_ofKind 16 = .ok (.iconst 0, 1) := by decide +kernel
theorem dX9_ofKind_17 : decode cX9_ofKind 17 = .ok (.istore 12, 2) := by decide +kernel
theorem dX9_ofKind_19 : decode cX9_ofKind 19 = .ok (.iload 12, 2) := by decide +kernel
theorem dX9_ofKind_21 : decode cX9_ofKind 21 = .ok (.aload_n 0, 1) := by decide +kernel
theorem dX9_ofKind_22 : decode cX9_ofKind 22 = .ok (.getfield 213, 3) := by decide +kernel
theorem dX9_ofKind_25 : decode cX9_ofKind 25 = .ok (.if_icmp .ge 190, 3) := by decide +kernel
theorem dX9_ofKind_28 : decode cX9_ofKind 28 = .ok (.iload_n 3, 1) := by decide +kernel
theorem dX9_ofKind_29 : decode cX9_ofKind 29 = .ok (.iload 12, 2) := by decide +kernel
theorem dX9_ofKind_31 : decode cX9_ofKind 31 = .ok (.invokestatic 220, 3) := by decide +kernel
theorem dX9_ofKind_34 : decode cX9_ofKind 34 = .ok (.ifCond .eq 175, 3) := by decide +kernel
theorem dX9_ofKind_37 : decode cX9_ofKind 37 = .ok (.aload_n 0, 1) := by decide +kernel
theorem dX9_ofKind_38 : decode cX9_ofKind 38 = .ok (.getfield 44, 3) := by decide +kernel
theorem dX9_ofKind_41 : decode cX9_ofKind 41 = .ok (.iload 12, 2) := by decide +kernel
theorem dX9_ofKind_43 : decode cX9_ofKind 43 = .ok (.iaload, 1) := by decide +kernel
theorem dX9_ofKind_44 : decode cX9_ofKind 44 = .ok (.iload_n 2, 1) := by decide +kernel
theorem dX9_ofKind_45 : decode cX9_ofKind 45 = .ok (.if_icmp .ne 164, 3) := by decide +kernel
theorem dX9_ofKind_48 : decode cX9_ofKind 48 = .ok (.aload_n 0, 1) := by decide +kernel
theorem dX9_ofKind_49 : decode cX9_ofKind 49 = .ok (.getfield 53, 3) := by decide +kernel
theorem dX9_ofKind_52 : decode cX9_ofKind 52 = .ok (.iload 12, 2) := by decide +kernel
theorem dX9_ofKind_54 : decode cX9_ofKind 54 = .ok (.iaload, 1) := by decide +kernel
theorem dX9_ofKind_55 : decode cX9_ofKind 55 = .ok (.aload_n 0, 1) := by decide +kernel
theorem dX9_ofKind_56 : decode cX9_ofKind 56 = .ok (.getfield 56, 3) := by decide +kernel
theorem dX9_ofKind_59 : decode cX9_ofKind 59 = .ok (.iload 12, 2) := by decide +kernel
theorem dX9_ofKind_61 : decode cX9_ofKind 61 = .ok (.iaload, 1) := by decide +kernel
theorem dX9_ofKind_62 : decode cX9_ofKind 62 = .ok (.if_icmp .le 13, 3) := by decide +kernel
theorem dX9_ofKind_65 : decode cX9_ofKind 65 = .ok (.aload_n 0, 1) := by decide +kernel
theorem dX9_ofKind_66 : decode cX9_ofKind 66 = .ok (.getfield 53, 3) := by decide +kernel
theorem dX9_ofKind_69 : decode cX9_ofKind 69 = .ok (.iload 12, 2) := by decide +kernel
theorem dX9_ofKind_71 : decode cX9_ofKind 71 = .ok (.iaload, 1) := by decide +kernel
theorem dX9_ofKind_72 : decode cX9_ofKind 72 = .ok (.goto 10, 3) := by decide +kernel
theorem dX9_ofKind_75 : decode cX9_ofKind 75 = .ok (.aload_n 0, 1) := by decide +kernel
theorem dX9_ofKind_76 : decode cX9_ofKind 76 = .ok (.getfield 56, 3) := by decide +kernel
theorem dX9_ofKind_79 : decode cX9_ofKind 79 = .ok (.iload 12, 2) := by decide +kernel
theorem dX9_ofKind_81 : decode cX9_ofKind 81 = .ok (.iaload, 1) := by decide +kernel
theorem dX9_ofKind_82 : decode cX9_ofKind 82 = .ok (.istore 13, 2) := by decide +kernel
theorem dX9_ofKind_84 : decode cX9_ofKind 84 = .ok (.aload_n 0, 1) := by decide +kernel
theorem dX9_ofKind_85 : decode cX9_ofKind 85 = .ok (.getfield 207, 3) := by decide +kernel
theorem dX9_ofKind_88 : decode cX9_ofKind 88 = .ok (.i2l, 1) := by decide +kernel
theorem dX9_ofKind_89 : decode cX9_ofKind 89 = .ok (.aload_n 0, 1) := by decide +kernel
theorem dX9_ofKind_90 : decode cX9_ofKind 90 = .ok (.getfield 50, 3) := by decide +kernel
theorem dX9_ofKind_93 : decode cX9_ofKind 93 = .ok (.iload 12, 2) := by decide +kernel
theorem dX9_ofKind_95 : decode cX9_ofKind 95 = .ok (.iaload, 1) := by decide +kernel
theorem dX9_ofKind_96 : decode cX9_ofKind 96 = .ok (.i2l, 1) := by decide +kernel
theorem dX9_ofKind_97 : decode cX9_ofKind 97 = .ok (.lsub, 1) := by decide +kernel
theorem dX9_ofKind_98 : decode cX9_ofKind 98 = .ok (.aload_n 0, 1) := by decide +kernel
theorem dX9_ofKind_99 : decode cX9_ofKind 99 = .ok (.getfield 56, 3) := by decide +kernel
theorem dX9_ofKind_102 : decode cX9_ofKind 102 = .ok (.iload 12, 2) := by decide +kernel
theorem dX9_ofKind_104 : decode cX9_ofKind 104 = .ok (.iaload, 1) := by decide +kernel
theorem dX9_ofKind_105 : decode cX9_ofKind 105 = .ok (.i2l, 1) := by decide +kernel
theorem dX9_ofKind_106 : decode cX9_ofKind 106 = .ok (.lsub, 1) := by decide +kernel
theorem dX9_ofKind_107 : decode cX9_ofKind 107 = .ok (.lstore 14, 2) := by decide +kernel
theorem dX9_ofKind_109 : decode cX9_ofKind 109 = .ok (.aload_n 0, 1) := by decide +kernel
theorem dX9_ofKind_110 : decode cX9_ofKind 110 = .ok (.getfield 50, 3) := by decide +kernel
theorem dX9_ofKind_113 : decode cX9_ofKind 113 = .ok (.iload 12, 2) := by decide +kernel
theorem dX9_ofKind_115 : decode cX9_ofKind 115 = .ok (.iaload, 1) := by decide +kernel
theorem dX9_ofKind_116 : decode cX9_ofKind 116 = .ok (.i2l, 1) := by decide +kernel
theorem dX9_ofKind_117 : decode cX9_ofKind 117 = .ok (.lload 14, 2) := by decide +kernel
theorem dX9_ofKind_119 : decode cX9_ofKind 119 = .ok (.lcmp, 1) := by decide +kernel
theorem dX9_ofKind_120 : decode cX9_ofKind 120 = .ok (.ifCond .ge 14, 3) := by decide +kernel
theorem dX9_ofKind_123 : decode cX9_ofKind 123 = .ok (.aload_n 0, 1) := by decide +kernel
theorem dX9_ofKind_124 : decode cX9_ofKind 124 = .ok (.getfield 50, 3) := by decide +kernel
theorem dX9_ofKind_127 : decode cX9_ofKind 127 = .ok (.iload 12, 2) := by decide +kernel
theorem dX9_ofKind_129 : decode cX9_ofKind 129 = .ok (.iaload, 1) := by decide +kernel
theorem dX9_ofKind_130 : decode cX9_ofKind 130 = .ok (.i2l, 1) := by decide +kernel
theorem dX9_ofKind_131 : decode cX9_ofKind 131 = .ok (.goto 5, 3) := by decide +kernel
theorem dX9_ofKind_134 : decode cX9_ofKind 134 = .ok (.lload 14, 2) := by decide +kernel
theorem dX9_ofKind_136 : decode cX9_ofKind 136 = .ok (.lstore 16, 2) := by decide +kernel
theorem dX9_ofKind_138 : decode cX9_ofKind 138 = .ok (.lload 4, 2) := by decide +kernel
theorem dX9_ofKind_140 : decode cX9_ofKind 140 = .ok (.lconst 0, 1) := by decide +kernel
theorem dX9_ofKind_141 : decode cX9_ofKind 141 = .ok (.lcmp, 1) := by decide +kernel
theorem dX9_ofKind_142 : decode cX9_ofKind 142 = .ok (.ifCond .eq 11, 3) := by decide +kernel
theorem dX9_ofKind_145 : decode cX9_ofKind 145 = .ok (.lload 16, 2) := by decide +kernel
theorem dX9_ofKind_147 : decode cX9_ofKind 147 = .ok (.lload 10, 2) := by decide +kernel
theorem dX9_ofKind_149 : decode cX9_ofKind 149 = .ok (.lcmp, 1) := by decide +kernel
theorem dX9_ofKind_150 : decode cX9_ofKind 150 = .ok (.ifCond .ge 8, 3) := by decide +kernel
theorem dX9_ofKind_153 : decode cX9_ofKind 153 = .ok (.lload 16, 2) := by decide +kernel
theorem dX9_ofKind_155 : decode cX9_ofKind 155 = .ok (.goto 5, 3) := by decide +kernel
theorem dX9_ofKind_158 : decode cX9_ofKind 158 = .ok (.lload 10, 2) := by decide +kernel
theorem dX9_ofKind_160 : decode cX9_ofKind 160 = .ok (.lstore 10, 2) := by decide +kernel
theorem dX9_ofKind_162 : decode cX9_ofKind 162 = .ok (.lload 4, 2) := by decide +kernel
theorem dX9_ofKind_164 : decode cX9_ofKind 164 = .ok (.lconst 1, 1) := by decide +kernel
theorem dX9_ofKind_165 : decode cX9_ofKind 165 = .ok (.ladd, 1) := by decide +kernel
theorem dX9_ofKind_166 : decode cX9_ofKind 166 = .ok (.lstore 4, 2) := by decide +kernel
theorem dX9_ofKind_168 : decode cX9_ofKind 168 = .ok (.lload 6, 2) := by decide +kernel
theorem dX9_ofKind_170 : decode cX9_ofKind 170 = .ok (.aload_n 0, 1) := by decide +kernel
theorem dX9_ofKind_171 : decode cX9_ofKind 171 = .ok (.getfield 53, 3) := by decide +kernel
theorem dX9_ofKind_174 : decode cX9_ofKind 174 = .ok (.iload 12, 2) := by decide +kernel
theorem dX9_ofKind_176 : decode cX9_ofKind 176 = .ok (.iaload, 1) := by decide +kernel
theorem dX9_ofKind_177 : decode cX9_ofKind 177 = .ok (.i2l, 1) := by decide +kernel
theorem dX9_ofKind_178 : decode cX9_ofKind 178 = .ok (.aload_n 0, 1) := by decide +kernel
theorem dX9_ofKind_179 : decode cX9_ofKind 179 = .ok (.getfield 56, 3) := by decide +kernel
theorem dX9_ofKind_182 : decode cX9_ofKind 182 = .ok (.iload 12, 2) := by decide +kernel
theorem dX9_ofKind_184 : decode cX9_ofKind 184 = .ok (.iaload, 1) := by decide +kernel
theorem dX9_ofKind_185 : decode cX9_ofKind 185 = .ok (.i2l, 1) := by decide +kernel
theorem dX9_ofKind_186 : decode cX9_ofKind 186 = .ok (.lmul, 1) := by decide +kernel
theorem dX9_ofKind_187 : decode cX9_ofKind 187 = .ok (.ladd, 1) := by decide +kernel
theorem dX9_ofKind_188 : decode cX9_ofKind 188 = .ok (.lstore 6, 2) := by decide +kernel
theorem dX9_ofKind_190 : decode cX9_ofKind 190 = .ok (.iload 13, 2) := by decide +kernel
theorem dX9_ofKind_192 : decode cX9_ofKind 192 = .ok (.i2l, 1) := by decide +kernel
theorem dX9_ofKind_193 : decode cX9_ofKind 193 = .ok (.lload 8, 2) := by decide +kernel
theorem dX9_ofKind_195 : decode cX9_ofKind 195 = .ok (.lcmp, 1) := by decide +kernel
theorem dX9_ofKind_196 : decode cX9_ofKind 196 = .ok (.ifCond .le 9, 3) := by decide +kernel
theorem dX9_ofKind_199 : decode cX9_ofKind 199 = .ok (.iload 13, 2) := by decide +kernel
theorem dX9_ofKind_201 : decode cX9_ofKind 201 = .ok (.i2l, 1) := by decide +kernel
theorem dX9_ofKind_202 : decode cX9_ofKind 202 = .ok (.goto 5, 3) := by decide +kernel
theorem dX9_ofKind_205 : decode cX9_ofKind 205 = .ok (.lload 8, 2) := by decide +kernel
theorem dX9_ofKind_207 : decode cX9_ofKind 207 = .ok (.lstore 8, 2) := by decide +kernel
theorem dX9_ofKind_209 : decode cX9_ofKind 209 = .ok (.iinc 12 1, 3) := by decide +kernel
theorem dX9_ofKind_212 : decode cX9_ofKind 212 = .ok (.goto (-193), 3) := by decide +kernel
theorem dX9_ofKind_215 : decode cX9_ofKind 215 = .ok (.iload_n 1, 1) := by decide +kernel
theorem dX9_ofKind_216 : decode cX9_ofKind 216 = .ok (.iconst 5, 1) := by decide +kernel
theorem dX9_ofKind_217 : decode cX9_ofKind 217 = .ok (.if_icmp .ne 8, 3) := by decide +kernel
theorem dX9_ofKind_220 : decode cX9_ofKind 220 = .ok (.lload 4, 2) := by decide +kernel
theorem dX9_ofKind_222 : decode cX9_ofKind 222 = .ok (.goto 27, 3) := by decide +kernel
theorem dX9_ofKind_225 : decode cX9_ofKind 225 = .ok (.iload_n 1, 1) := by decide +kernel
theorem dX9_ofKind_226 : decode cX9_ofKind 226 = .ok (.bipush 6, 2) := by decide +kernel
theorem dX9_ofKind_228 : decode cX9_ofKind 228 = .ok (.if_icmp .ne 8, 3) := by decide +kernel
theorem dX9_ofKind_231 : decode cX9_ofKind 231 = .ok (.lload 6, 2) := by decide +kernel
theorem dX9_ofKind_233 : decode cX9_ofKind 233 = .ok (.goto 16, 3) := by decide +kernel
theorem dX9_ofKind_236 : decode cX9_ofKind 236 = .ok (.iload_n 1, 1) := by decide +kernel
theorem dX9_ofKind_237 : decode cX9_ofKind 237 = .ok (.bipush 7, 2) := by decide +kernel
theorem dX9_ofKind_239 : decode cX9_ofKind 239 = .ok (.if_icmp .ne 8, 3) := by decide +kernel
theorem dX9_ofKind_242 : decode cX9_ofKind 242 = .ok (.lload 8, 2) := by decide +kernel
theorem dX9_ofKind_244 : decode cX9_ofKind 244 = .ok (.goto 5, 3) := by decide +kernel
theorem dX9_ofKind_247 : decode cX9_ofKind 247 = .ok (.lload 10, 2) := by decide +kernel
theorem dX9_ofKind_249 : decode cX9_ofKind 249 = .ok (.lreturn, 1) := by decide +kernel
theorem dX9_plain_0 : decode cX9_plain 0 = .ok (.iload_n 1, 1) := by decide +kernel
theorem dX9_plain_1 : decode cX9_plain 1 = .ok (.iconst 1, 1) := by decide +kernel
theorem dX9_plain_2 : decode cX9_plain 2 = .ok (.if_icmp .ne 6, 3) := by decide +kernel
theorem dX9_plain_5 : decode cX9_plain 5 = .ok (.iload_n 2, 1) := by decide +kernel
theorem dX9_plain_6 : decode cX9_plain 6 = .ok (.i2l, 1) := by decide +kernel
theorem dX9_plain_7 : decode cX9_plain 7 = .ok (.lreturn, 1) := by decide +kernel
theorem dX9_plain_8 : decode cX9_plain 8 = .ok (.iload_n 1, 1) := by decide +kernel
theorem dX9_plain_9 : decode cX9_plain 9 = .ok (.iconst 2, 1) := by decide +kernel
theorem dX9_plain_10 : decode cX9_plain 10 = .ok (.if_icmp .ne 11, 3) := by decide +kernel
theorem dX9_plain_13 : decode cX9_plain 13 = .ok (.aload_n 0, 1) := by decide +kernel
theorem dX9_plain_14 : decode cX9_plain 14 = .ok (.getfield 204, 3) := by decide +kernel
theorem dX9_plain_17 : decode cX9_plain 17 = .ok (.i2l, 1) := by decide +kernel
theorem dX9_plain_18 : decode cX9_plain 18 = .ok (.goto 36, 3) := by decide +kernel
theorem dX9_plain_21 : decode cX9_plain 21 = .ok (.iload_n 1, 1) := by decide +kernel
theorem dX9_plain_22 : decode cX9_plain 22 = .ok (.iconst 3, 1) := by decide +kernel
theorem dX9_plain_23 : decode cX9_plain 23 = .ok (.if_icmp .ne 11, 3) := by decide +kernel
theorem dX9_plain_26 : decode cX9_plain 26 = .ok (.aload_n 0, 1) := by decide +kernel
theorem dX9_plain_27 : decode cX9_plain 27 = .ok (.getfield 207, 3) := by decide +kernel
theorem dX9_plain_30 : decode cX9_plain 30 = .ok (.i2l, 1) := by decide +kernel
theorem dX9_plain_31 : decode cX9_plain 31 = .ok (.goto 23, 3) := by decide +kernel
theorem dX9_plain_34 : decode cX9_plain 34 = .ok (.iload_n 1, 1) := by decide +kernel
theorem dX9_plain_35 : decode cX9_plain 35 = .ok (.iconst 4, 1) := by decide +kernel
theorem dX9_plain_36 : decode cX9_plain 36 = .ok (.if_icmp .ne 11, 3) := by decide +kernel
theorem dX9_plain_39 : decode cX9_plain 39 = .ok (.aload_n 0, 1) := by decide +kernel
theorem dX9_plain_40 : decode cX9_plain 40 = .ok (.getfield 210, 3) := by decide +kernel
theorem dX9_plain_43 : decode cX9_plain 43 = .ok (.i2l, 1) := by decide +kernel
theorem dX9_plain_44 : decode cX9_plain 44 = .ok (.goto 10, 3) := by decide +kernel
theorem dX9_plain_47 : decode cX9_plain 47 = .ok (.aload_n 0, 1) := by decide +kernel
theorem dX9_plain_48 : decode cX9_plain 48 = .ok (.iload_n 1, 1) := by decide +kernel
theorem dX9_plain_49 : decode cX9_plain 49 = .ok (.iload_n 2, 1) := by decide +kernel
theorem dX9_plain_50 : decode cX9_plain 50 = .ok (.iload_n 3, 1) := by decide +kernel
theorem dX9_plain_51 : decode cX9_plain 51 = .ok (.invokevirtual 223, 3) := by decide +kernel
theorem dX9_plain_54 : decode cX9_plain 54 = .ok (.lreturn, 1) := by decide +kernel
theorem dX9_before_0 : decode cX9_before 0 = .ok (.iload_n 1, 1) := by decide +kernel
theorem dX9_before_1 : decode cX9_before 1 = .ok (.bipush 9, 2) := by decide +kernel
theorem dX9_before_3 : decode cX9_before 3 = .ok (.if_icmp .ne 13, 3) := by decide +kernel
theorem dX9_before_6 : decode cX9_before 6 = .ok (.aload_n 0, 1) := by decide +kernel
theorem dX9_before_7 : decode cX9_before 7 = .ok (.iload_n 2, 1) := by decide +kernel
theorem dX9_before_8 : decode cX9_before 8 = .ok (.lload_n 3, 1) := by decide +kernel
theorem dX9_before_9 : decode cX9_before 9 = .ok (.iconst 0, 1) := by decide +kernel
theorem dX9_before_10 : decode cX9_before 10 = .ok (.iload 5, 2) := by decide +kernel
theorem dX9_before_12 : decode cX9_before 12 = .ok (.invokevirtual 227, 3) := by decide +kernel
theorem dX9_before_15 : decode cX9_before 15 = .ok (.lreturn, 1) := by decide +kernel
theorem dX9_before_16 : decode cX9_before 16 = .ok (.iload_n 1, 1) := by decide +kernel
theorem dX9_before_17 : decode cX9_before 17 = .ok (.bipush 11, 2) := by decide +kernel
theorem dX9_before_19 : decode cX9_before 19 = .ok (.if_icmp .ne 6, 3) := by decide +kernel
theorem dX9_before_22 : decode cX9_before 22 = .ok (.lload_n 3, 1) := by decide +kernel
theorem dX9_before_23 : decode cX9_before 23 = .ok (.lneg, 1) := by decide +kernel
theorem dX9_before_24 : decode cX9_before 24 = .ok (.lreturn, 1) := by decide +kernel
theorem dX9_before_25 : decode cX9_before 25 = .ok (.lload_n 3, 1) := by decide +kernel
theorem dX9_before_26 : decode cX9_before 26 = .ok (.l2i, 1) := by decide +kernel
theorem dX9_before_27 : decode cX9_before 27 = .ok (.istore 6, 2) := by decide +kernel
theorem dX9_before_29 : decode cX9_before 29 = .ok (.aload_n 0, 1) := by decide +kernel
theorem dX9_before_30 : decode cX9_before 30 = .ok (.iload 6, 2) := by decide +kernel
theorem dX9_before_32 : decode cX9_before 32 = .ok (.ifCond .lt 9, 3) := by decide +kernel
theorem dX9_before_35 : decode cX9_before 35 = .ok (.iload 6, 2) := by decide +kernel
theorem dX9_before_37 : decode cX9_before 37 = .ok (.iconst 1, 1) := by decide +kernel
theorem dX9_before_38 : decode cX9_before 38 = .ok (.if_icmp .le 7, 3) := by decide +kernel
theorem dX9_before_41 : decode cX9_before 41 = .ok (.iconst 2, 1) := by decide +kernel
theorem dX9_before_42 : decode cX9_before 42 = .ok (.goto 4, 3) := by decide +kernel
theorem dX9_before_45 : decode cX9_before 45 = .ok (.iconst 0, 1) := by decide +kernel
theorem dX9_before_46 : decode cX9_before 46 = .ok (.putfield 231, 3) := by decide +kernel
theorem dX9_before_49 : decode cX9_before 49 = .ok (.aload_n 0, 1) := by decide +kernel
theorem dX9_before_50 : decode cX9_before 50 = .ok (.getfield 231, 3) := by decide +kernel
theorem dX9_before_53 : decode cX9_before 53 = .ok (.ifCond .le 7, 3) := by decide +kernel
theorem dX9_before_56 : decode cX9_before 56 = .ok (.lconst 0, 1) := by decide +kernel
theorem dX9_before_57 : decode cX9_before 57 = .ok (.goto 11, 3) := by decide +kernel
theorem dX9_before_60 : decode cX9_before 60 = .ok (.aload_n 0, 1) := by decide +kernel
theorem dX9_before_61 : decode cX9_before 61 = .ok (.iload 6, 2) := by decide +kernel
theorem dX9_before_63 : decode cX9_before 63 = .ok (.iload 5, 2) := by decide +kernel
theorem dX9_before_65 : decode cX9_before 65 = .ok (.invokevirtual 216, 3) := by decide +kernel
theorem dX9_before_68 : decode cX9_before 68 = .ok (.lreturn, 1) := by decide +kernel
theorem dX9_between_0 : decode cX9_between 0 = .ok (.iload_n 1, 1) := by decide +kernel
theorem dX9_between_1 : decode cX9_between 1 = .ok (.bipush 15, 2) := by decide +kernel
theorem dX9_between_3 : decode cX9_between 3 = .ok (.if_icmp .ne 35, 3) := by decide +kernel
theorem dX9_between_6 : decode cX9_between 6 = .ok (.aload_n 0, 1) := by decide +kernel
theorem dX9_between_7 : decode cX9_between 7 = .ok (.lload 4, 2) := by decide +kernel
theorem dX9_between_9 : decode cX9_between 9 = .ok (.lconst 0, 1) := by decide +kernel
theorem dX9_between_10 : decode cX9_between 10 = .ok (.lcmp, 1) := by decide +kernel
theorem dX9_between_11 : decode cX9_between 11 = .ok (.ifCond .ne 7, 3) := by decide +kernel
theorem dX9_between_14 : decode cX9_between 14 = .ok (.iconst 1, 1) := by decide +kernel
theorem dX9_between_15 : decode cX9_between 15 = .ok (.goto 4, 3) := by decide +kernel
theorem dX9_between_18 : decode cX9_between 18 = .ok (.iconst 0, 1) := by decide +kernel
theorem dX9_between_19 : decode cX9_between 19 = .ok (.putfield 231, 3) := by decide +kernel
theorem dX9_between_22 : decode cX9_between 22 = .ok (.lload 4, 2) := by decide +kernel
theorem dX9_between_24 : decode cX9_between 24 = .ok (.lconst 0, 1) := by decide +kernel
theorem dX9_between_25 : decode cX9_between 25 = .ok (.lcmp, 1) := by decide +kernel
theorem dX9_between_26 : decode cX9_between 26 = .ok (.ifCond .ne 7, 3) := by decide +kernel
theorem dX9_between_29 : decode cX9_between 29 = .ok (.lconst 0, 1) := by decide +kernel
theorem dX9_between_30 : decode cX9_between 30 = .ok (.goto 7, 3) := by decide +kernel
theorem dX9_between_33 : decode cX9_between 33 = .ok (.lload_n 2, 1) := by decide +kernel
theorem dX9_between_34 : decode cX9_between 34 = .ok (.lload 4, 2) := by decide +kernel
theorem dX9_between_36 : decode cX9_between 36 = .ok (.ldiv, 1) := by decide +kernel
theorem dX9_between_37 : decode cX9_between 37 = .ok (.lreturn, 1) := by decide +kernel
theorem dX9_between_38 : decode cX9_between 38 = .ok (.iload_n 1, 1) := by decide +kernel
theorem dX9_between_39 : decode cX9_between 39 = .ok (.bipush 12, 2) := by decide +kernel
theorem dX9_between_41 : decode cX9_between 41 = .ok (.if_icmp .ne 10, 3) := by decide +kernel
theorem dX9_between_44 : decode cX9_between 44 = .ok (.lload_n 2, 1) := by decide +kernel
theorem dX9_between_45 : decode cX9_between 45 = .ok (.lload 4, 2) := by decide +kernel
theorem dX9_between_47 : decode cX9_between 47 = .ok (.ladd, 1) := by decide +kernel
theorem dX9_between_48 : decode cX9_between 48 = .ok (.goto 20, 3) := by decide +kernel
theorem dX9_between_51 : decode cX9_between 51 = .ok (.iload_n 1, 1) := by decide +kernel
theorem dX9_between_52 : decode cX9_between 52 = .ok (.bipush 13, 2) := by decide +kernel
theorem dX9_between_54 : decode cX9_between 54 = .ok (.if_icmp .ne 10, 3) := by decide +kernel
theorem dX9_between_57 : decode cX9_between 57 = .ok (.lload_n 2, 1) := by decide +kernel
theorem dX9_between_58 : decode cX9_between 58 = .ok (.lload 4, 2) := by decide +kernel
theorem dX9_between_60 : decode cX9_between 60 = .ok (.lsub, 1) := by decide +kernel
theorem dX9_between_61 : decode cX9_between 61 = .ok (.goto 7, 3) := by decide +kernel
theorem dX9_between_64 : decode cX9_between 64 = .ok (.lload_n 2, 1) := by decide +kernel
theorem dX9_between_65 : decode cX9_between 65 = .ok (.lload 4, 2) := by decide +kernel
theorem dX9_between_67 : decode cX9_between 67 = .ok (.lmul, 1) := by decide +kernel
theorem dX9_between_68 : decode cX9_between 68 = .ok (.lreturn, 1) := by decide +kernel
theorem dX9_compares_0 : decode cX9_compares 0 = .ok (.iload_n 0, 1) := by decide +kernel
theorem dX9_compares_1 : decode cX9_compares 1 = .ok (.bipush 60, 2) := by decide +kernel
theorem dX9_compares_3 : decode cX9_compares 3 = .ok (.if_icmp .ne 17, 3) := by decide +kernel
theorem dX9_compares_6 : decode cX9_compares 6 = .ok (.lload_n 1, 1) := by decide +kernel
theorem dX9_compares_7 : decode cX9_compares 7 = .ok (.lload_n 3, 1) := by decide +kernel
theorem dX9_compares_8 : decode cX9_compares 8 = .ok (.lcmp, 1) := by decide +kernel
theorem dX9_compares_9 : decode cX9_compares 9 = .ok (.ifCond .ge 7, 3) := by decide +kernel
theorem dX9_compares_12 : decode cX9_compares 12 = .ok (.iconst 1, 1) := by decide +kernel
theorem dX9_compares_13 : decode cX9_compares 13 = .ok (.goto 58, 3) := by decide +kernel
theorem dX9_compares_16 : decode cX9_compares 16 = .ok (.iconst 0, 1) := by decide +kernel
theorem dX9_compares_17 : decode cX9_compares 17 = .ok (.goto 54, 3) := by decide +kernel
theorem dX9_compares_20 : decode cX9_compares 20 = .ok (.iload_n 0, 1) := by decide +kernel
theorem dX9_compares_21 : decode cX9_compares 21 = .ok (.bipush 62, 2) := by decide +kernel
theorem dX9_compares_23 : decode cX9_compares 23 = .ok (.if_icmp .ne 17, 3) := by decide +kernel
theorem dX9_compares_26 : decode cX9_compares 26 = .ok (.lload_n 1, 1) := by decide +kernel
theorem dX9_compares_27 : decode cX9_compares 27 = .ok (.lload_n 3, 1) := by decide +kernel
theorem dX9_compares_28 : decode cX9_compares 28 = .ok (.lcmp, 1) := by decide +kernel
theorem dX9_compares_29 : decode cX9_compares 29 = .ok (.ifCond .le 7, 3) := by decide +kernel
theorem dX9_compares_32 : decode cX9_compares 32 = .ok (.iconst 1, 1) := by decide +kernel
theorem dX9_compares_33 : decode cX9_compares 33 = .ok (.goto 38, 3) := by decide +kernel
theorem dX9_compares_36 : decode cX9_compares 36 = .ok (.iconst 0, 1) := by decide +kernel
theorem dX9_compares_37 : decode cX9_compares 37 = .ok (.goto 34, 3) := by decide +kernel
theorem dX9_compares_40 : decode cX9_compares 40 = .ok (.iload_n 0, 1) := by decide +kernel
theorem dX9_compares_41 : decode cX9_compares 41 = .ok (.bipush 61, 2) := by decide +kernel
theorem dX9_compares_43 : decode cX9_compares 43 = .ok (.if_icmp .ne 17, 3) := by decide +kernel
theorem dX9_compares_46 : decode cX9_compares 46 = .ok (.lload_n 1, 1) := by decide +kernel
theorem dX9_compares_47 : decode cX9_compares 47 = .ok (.lload_n 3, 1) := by decide +kernel
theorem dX9_compares_48 : decode cX9_compares 48 = .ok (.lcmp, 1) := by decide +kernel
theorem dX9_compares_49 : decode cX9_compares 49 = .ok (.ifCond .ne 7, 3) := by decide +kernel
theorem dX9_compares_52 : decode cX9_compares 52 = .ok (.iconst 1, 1) := by decide +kernel
theorem dX9_compares_53 : decode cX9_compares 53 = .ok (.goto 18, 3) := by decide +kernel
theorem dX9_compares_56 : decode cX9_compares 56 = .ok (.iconst 0, 1) := by decide +kernel
theorem dX9_compares_57 : decode cX9_compares 57 = .ok (.goto 14, 3) := by decide +kernel
theorem dX9_compares_60 : decode cX9_compares 60 = .ok (.lload_n 1, 1) := by decide +kernel
theorem dX9_compares_61 : decode cX9_compares 61 = .ok (.lload_n 3, 1) := by decide +kernel
theorem dX9_compares_62 : decode cX9_compares 62 = .ok (.lcmp, 1) := by decide +kernel
theorem dX9_compares_63 : decode cX9_compares 63 = .ok (.ifCond .eq 7, 3) := by decide +kernel
theorem dX9_compares_66 : decode cX9_compares 66 = .ok (.iconst 1, 1) := by decide +kernel
theorem dX9_compares_67 : decode cX9_compares 67 = .ok (.goto 4, 3) := by decide +kernel
theorem dX9_compares_70 : decode cX9_compares 70 = .ok (.iconst 0, 1) := by decide +kernel
theorem dX9_compares_71 : decode cX9_compares 71 = .ok (.ireturn, 1) := by decide +kernel
theorem dX9_holds_0 : decode cX9_holds 0 = .ok (.aload_n 0, 1) := by decide +kernel
theorem dX9_holds_1 : decode cX9_holds 1 = .ok (.iconst 0, 1) := by decide +kernel
theorem dX9_holds_2 : decode cX9_holds 2 = .ok (.putfield 234, 3) := by decide +kernel
theorem dX9_holds_5 : decode cX9_holds 5 = .ok (.aload_n 0, 1) := by decide +kernel
theorem dX9_holds_6 : decode cX9_holds 6 = .ok (.iconst 0, 1) := by decide +kernel
theorem dX9_holds_7 : decode cX9_holds 7 = .ok (.putfield 231, 3) := by decide +kernel
theorem dX9_holds_10 : decode cX9_holds 10 = .ok (.iconst 0, 1) := by decide +kernel
theorem dX9_holds_11 : decode cX9_holds 11 = .ok (.istore 4, 2) := by decide +kernel
theorem dX9_holds_13 : decode cX9_holds 13 = .ok (.aload_n 0, 1) := by decide +kernel
theorem dX9_holds_14 : decode cX9_holds 14 = .ok (.getfield 25, 3) := by decide +kernel
theorem dX9_holds_17 : decode cX9_holds 17 = .ok (.bipush 13, 2) := by decide +kernel
theorem dX9_holds_19 : decode cX9_holds 19 = .ok (.iload_n 1, 1) := by decide +kernel
theorem dX9_holds_20 : decode cX9_holds 20 = .ok (.imul, 1) := by decide +kernel
theorem dX9_holds_21 : decode cX9_holds 21 = .ok (.iload_n 2, 1) := by decide +kernel
theorem dX9_holds_22 : decode cX9_holds 22 = .ok (.iadd, 1) := by decide +kernel
theorem dX9_holds_23 : decode cX9_holds 23 = .ok (.iaload, 1) := by decide +kernel
theorem dX9_holds_24 : decode cX9_holds 24 = .ok (.istore 5, 2) := by decide +kernel
theorem dX9_holds_26 : decode cX9_holds 26 = .ok (.iload 5, 2) := by decide +kernel
theorem dX9_holds_28 : decode cX9_holds 28 = .ok (.aload_n 0, 1) := by decide +kernel
theorem dX9_holds_29 : decode cX9_holds 29 = .ok (.getfield 25, 3) := by decide +kernel
theorem dX9_holds_32 : decode cX9_holds 32 = .ok (.bipush 13, 2) := by decide +kernel
theorem dX9_holds_34 : decode cX9_holds 34 = .ok (.iload_n 1, 1) := by decide +kernel
theorem dX9_holds_35 : decode cX9_holds 35 = .ok (.imul, 1) := by decide +kernel
theorem dX9_holds_36 : decode cX9_holds 36 = .ok (.iload_n 2, 1) := by decide +kernel
theorem dX9_holds_37 : decode cX9_holds 37 = .ok (.iadd, 1) := by decide +kernel
theorem dX9_holds_38 : decode cX9_holds 38 = .ok (.iconst 1, 1) := by decide +kernel
theorem dX9_holds_39 : decode cX9_holds 39 = .ok (.iadd, 1) := by decide +kernel
theorem dX9_holds_40 : decode cX9_holds 40 = .ok (.iaload, 1) := by decide +kernel
theorem dX9_holds_41 : decode cX9_holds 41 = .ok (.if_icmp .ge 203, 3) := by decide +kernel
theorem dX9_holds_44 : decode cX9_holds 44 = .ok (.aload_n 0, 1) := by decide +kernel
theorem dX9_holds_45 : decode cX9_holds 45 = .ok (.getfield 13, 3) := by decide +kernel
theorem dX9_holds_48 : decode cX9_holds 48 = .ok (.sipush 400, 3) := by decide +kernel
theorem dX9_holds_51 : decode cX9_holds 51 = .ok (.iload_n 1, 1) := by decide +kernel
theorem dX9_holds_52 : decode cX9_holds 52 = .ok (.imul, 1) := by decide +kernel
theorem dX9_holds_53 : decode cX9_holds 53 = .ok (.iload 5, 2) := by decide +kernel
theorem dX9_holds_55 : decode cX9_holds 55 = .ok (.iadd, 1) := by decide +kernel
theorem dX9_holds_56 : decode cX9_holds 56 = .ok (.iaload, 1) := by decide +kernel
theorem dX9_holds_57 : decode cX9_holds 57 = .ok (.istore 6, 2) := by decide +kernel
theorem dX9_holds_59 : decode cX9_holds 59 = .ok (.aload_n 0, 1) := by decide +kernel
theorem dX9_holds_60 : decode cX9_holds 60 = .ok (.getfield 16, 3) := by decide +kernel
theorem dX9_holds_63 : decode cX9_holds 63 = .ok (.sipush 400, 3) := by decide +kernel
theorem dX9_holds_66 : decode cX9_holds 66 = .ok (.iload_n 1, 1) := by decide +kernel
theorem dX9_holds_67 : decode cX9_holds 67 = .ok (.imul, 1) := by decide +kernel
theorem dX9_holds_68 : decode cX9_holds 68 = .ok (.iload 5, 2) := by decide +kernel
theorem dX9_holds_70 : decode cX9_holds 70 = .ok (.iadd, 1) := by decide +kernel
theorem dX9_holds_71 : decode cX9_holds 71 = .ok (.iaload, 1) := by decide +kernel
theorem dX9_holds_72 : decode cX9_holds 72 = .ok (.istore 7, 2) := by decide +kernel
theorem dX9_holds_74 : decode cX9_holds 74 = .ok (.iload 6, 2) := by decide +kernel
theorem dX9_holds_76 : decode cX9_holds 76 = .ok (.bipush 16, 2) := by decide +kernel
theorem dX9_holds_78 : decode cX9_holds 78 = .ok (.if_icmp .ne 41, 3) := by decide +kernel
theorem dX9_holds_81 : decode cX9_holds 81 = .ok (.iload 7, 2) := by decide +kernel
theorem dX9_holds_83 : decode cX9_holds 83 = .ok (.aload_n 0, 1) := by decide +kernel
theorem dX9_holds_84 : decode cX9_holds 84 = .ok (.getfield 59, 3) := by decide +kernel
theorem dX9_holds_87 : decode cX9_holds 87 = .ok (.iconst 0, 1) := by decide +kernel
theorem dX9_holds_88 : decode cX9_holds 88 = .ok (.laload, 1) := by decide +kernel
theorem dX9_holds_89 : decode cX9_holds 89 = .ok (.aload_n 0, 1) := by decide +kernel
theorem dX9_holds_90 : decode cX9_holds 90 = .ok (.getfield 59, 3) := by decide +kernel
theorem dX9_holds_93 : decode cX9_holds 93 = .ok (.iconst 1, 1) := by decide +kernel
theorem dX9_holds_94 : decode cX9_holds 94 = .ok (.laload, 1) := by decide +kernel
theorem dX9_holds_95 : decode cX9_holds 95 = .ok (.invokestatic 237, 3) := by decide +kernel
theorem dX9_holds_98 : decode cX9_holds 98 = .ok (.ifCond .ne 5, 3) := by decide +kernel
theorem dX9_holds_101 : decode cX9_holds 101 = .ok (.iconst 0, 1) := by decide +kernel
theorem dX9_holds_102 : decode cX9_holds 102 = .ok (.ireturn, 1) := by decide +kernel
theorem dX9_holds_103 : decode cX9_holds 103 = .ok (.aload_n 0, 1) := by decide +kernel
theorem dX9_holds_104 : decode cX9_holds 104 = .ok (.dup, 1) := by decide +kernel
theorem dX9_holds_105 : decode cX9_holds 105 = .ok (.getfield 234, 3) := by decide +kernel
theorem dX9_holds_108 : decode cX9_holds 108 = .ok (.iconst 1, 1) := by decide +kernel
theorem dX9_holds_109 : decode cX9_holds 109 = .ok (.iadd, 1) := by decide +kernel
theorem dX9_holds_110 : decode cX9_holds 110 = .ok (.putfield 234, 3) := by decide +kernel
theorem dX9_holds_113 : decode cX9_holds 113 = .ok (.iconst 0, 1) := by decide +kernel
theorem dX9_holds_114 : decode cX9_holds 114 = .ok (.istore 4, 2) := by decide +kernel
theorem dX9_holds_116 : decode cX9_holds 116 = .ok (.goto 105, 3) := by decide +kernel
theorem dX9_holds_119 : decode cX9_holds 119 = .ok (.iload 6, 2) := by decide +kernel
theorem dX9_holds_121 : decode cX9_holds 121 = .ok (.bipush 8, 2) := by decide +kernel
theorem dX9_holds_123 : decode cX9_holds 123 = .ok (.if_icmp .gt 25, 3) := by decide +kernel
theorem dX9_holds_126 : decode cX9_holds 126 = .ok (.aload_n 0, 1) := by decide +kernel
theorem dX9_holds_127 : decode cX9_holds 127 = .ok (.getfield 59, 3) := by decide +kernel
theorem dX9_holds_130 : decode cX9_holds 130 = .ok (.iload 4, 2) := by decide +kernel
theorem dX9_holds_132 : decode cX9_holds 132 = .ok (.aload_n 0, 1) := by decide +kernel
theorem dX9_holds_133 : decode cX9_holds 133 = .ok (.iload 6, 2) := by decide +kernel
theorem dX9_holds_135 : decode cX9_holds 135 = .ok (.iload 7, 2) := by decide +kernel
theorem dX9_holds_137 : decode cX9_holds 137 = .ok (.iload_n 3, 1) := by decide +kernel
theorem dX9_holds_138 : decode cX9_holds 138 = .ok (.invokevirtual 241, 3) := by decide +kernel
theorem dX9_holds_141 : decode cX9_holds 141 = .ok (.lastore, 1) := by decide +kernel
theorem dX9_holds_142 : decode cX9_holds 142 = .ok (.iinc 4 1, 3) := by decide +kernel
theorem dX9_holds_145 : decode cX9_holds 145 = .ok (.goto 76, 3) := by decide +kernel
theorem dX9_holds_148 : decode cX9_holds 148 = .ok (.iload 6, 2) := by decide +kernel
theorem dX9_holds_150 : decode cX9_holds 150 = .ok (.bipush 11, 2) := by decide +kernel
theorem dX9_holds_152 : decode cX9_holds 152 = .ok (.if_icmp .gt 33, 3) := by decide +kernel
theorem dX9_holds_155 : decode cX9_holds 155 = .ok (.aload_n 0, 1) := by decide +kernel
theorem dX9_holds_156 : decode cX9_holds 156 = .ok (.getfield 59, 3) := by decide +kernel
theorem dX9_holds_159 : decode cX9_holds 159 = .ok (.iload 4, 2) := by decide +kernel
theorem dX9_holds_161 : decode cX9_holds 161 = .ok (.iconst 1, 1) := by decide +kernel
theorem dX9_holds_162 : decode cX9_holds 162 = .ok (.isub, 1) := by decide +kernel
theorem dX9_holds_163 : decode cX9_holds 163 = .ok (.aload_n 0, 1) := by decide +kernel
theorem dX9_holds_164 : decode cX9_holds 164 = .ok (.iload 6, 2) := by decide +kernel
theorem dX9_holds_166 : decode cX9_holds 166 = .ok (.iload 7, 2) := by decide +kernel
theorem dX9_holds_168 : decode cX9_holds 168 = .ok (.aload_n 0, 1) := by decide +kernel
theorem dX9_holds_169 : decode cX9_holds 169 = .ok (.getfield 59, 3) := by decide +kernel
theorem dX9_holds_172 : decode cX9_holds 172 = .ok (.iload 4, 2) := by decide +kernel
theorem dX9_holds_174 : decode cX9_holds 174 = .ok (.iconst 1, 1) := by decide +kernel
theorem dX9_holds_175 : decode cX9_holds 175 = .ok (.isub, 1) := by decide +kernel
theorem dX9_holds_176 : decode cX9_holds 176 = .ok (.laload, 1) := by decide +kernel
theorem dX9_holds_177 : decode cX9_holds 177 = .ok (.iload_n 3, 1) := by decide +kernel
theorem dX9_holds_178 : decode cX9_holds 178 = .ok (.invokevirtual 244, 3) := by decide +kernel
theorem dX9_holds_181 : decode cX9_holds 181 = .ok (.lastore, 1) := by decide +kernel
theorem dX9_holds_182 : decode cX9_holds 182 = .ok (.goto 39, 3) := by decide +kernel
theorem dX9_holds_185 : decode cX9_holds 185 = .ok (.aload_n 0, 1) := by decide +kernel
theorem dX9_holds_186 : decode cX9_holds 186 = .ok (.getfield 59, 3) := by decide +kernel
theorem dX9_holds_189 : decode cX9_holds 189 = .ok (.iload 4, 2) := by decide +kernel
theorem dX9_holds_191 : decode cX9_holds 191 = .ok (.iconst 2, 1) := by decide +kernel
theorem dX9_holds_192 : decode cX9_holds 192 = .ok (.isub, 1) := by decide +kernel
theorem dX9_holds_193 : decode cX9_holds 193 = .ok (.aload_n 0, 1) := by decide +kernel
theorem dX9_holds_194 : decode cX9_holds 194 = .ok (.iload 6, 2) := by decide +kernel
theorem dX9_holds_196 : decode cX9_holds 196 = .ok (.aload_n 0, 1) := by decide +kernel
theorem dX9_holds_197 : decode cX9_holds 197 = .ok (.getfield 59, 3) := by decide +kernel
theorem dX9_holds_200 : decode cX9_holds 200 = .ok (.iload 4, 2) := by decide +kernel
theorem dX9_holds_202 : decode cX9_holds 202 = .ok (.iconst 2, 1) := by decide +kernel
theorem dX9_holds_203 : decode cX9_holds 203 = .ok (.isub, 1) := by decide +kernel
theorem dX9_holds_204 : decode cX9_holds 204 = .ok (.laload, 1) := by decide +kernel
theorem dX9_holds_205 : decode cX9_holds 205 = .ok (.aload_n 0, 1) := by decide +kernel
theorem dX9_holds_206 : decode cX9_holds 206 = .ok (.getfield 59, 3) := by decide +kernel
theorem dX9_holds_209 : decode cX9_holds 209 = .ok (.iload 4, 2) := by decide +kernel
theorem dX9_holds_211 : decode cX9_holds 211 = .ok (.iconst 1, 1) := by decide +kernel
theorem dX9_holds_212 : decode cX9_holds 212 = .ok (.isub, 1) := by decide +kernel
theorem dX9_holds_213 : decode cX9_holds 213 = .ok (.laload, 1) := by decide +kernel
theorem dX9_holds_214 : decode cX9_holds 214 = .ok (.invokevirtual 248, 3) := by decide +kernel
theorem dX9_holds_217 : decode cX9_holds 217 = .ok (.lastore, 1) := by decide +kernel
theorem dX9_holds_218 : decode cX9_holds 218 = .ok (.iinc 4 (-1), 3) := by decide +kernel
theorem dX9_holds_221 : decode cX9_holds 221 = .ok (.aload_n 0, 1) := by decide +kernel
theorem dX9_holds_222 : decode cX9_holds 222 = .ok (.getfield 231, 3) := by decide +kernel
theorem dX9_holds_225 : decode cX9_holds 225 = .ok (.ifCond .le 13, 3) := by decide +kernel
theorem dX9_holds_228 : decode cX9_holds 228 = .ok (.aload_n 0, 1) := by decide +kernel
theorem dX9_holds_229 : decode cX9_holds 229 = .ok (.aload_n 0, 1) := by decide +kernel
theorem dX9_holds_230 : decode cX9_holds 230 = .ok (.getfield 234, 3) := by decide +kernel
theorem dX9_holds_233 : decode cX9_holds 233 = .ok (.putfield 252, 3) := by decide +kernel
theorem dX9_holds_236 : decode cX9_holds 236 = .ok (.iconst 0, 1) := by decide +kernel
theorem dX9_holds_237 : decode cX9_holds 237 = .ok (.ireturn, 1) := by decide +kernel
theorem dX9_holds_238 : decode cX9_holds 238 = .ok (.iinc 5 1, 3) := by decide +kernel
theorem dX9_holds_241 : decode cX9_holds 241 = .ok (.goto (-215), 3) := by decide +kernel
theorem dX9_holds_244 : decode cX9_holds 244 = .ok (.iconst 1, 1) := by decide +kernel
theorem dX9_holds_245 : decode cX9_holds 245 = .ok (.ireturn, 1) := by decide +kernel
theorem dX9_textFor_0 : decode cX9_textFor 0 = .ok (.iconst 0, 1) := by decide +kernel
theorem dX9_textFor_1 : decode cX9_textFor 1 = .ok (.istore_n 3, 1) := by decide +kernel
theorem dX9_textFor_2 : decode cX9_textFor 2 = .ok (.iconst 0, 1) := by decide +kernel
theorem dX9_textFor_3 : decode cX9_textFor 3 = .ok (.istore 4, 2) := by decide +kernel
theorem dX9_textFor_5 : decode cX9_textFor 5 = .ok (.iload 4, 2) := by decide +kernel
theorem dX9_textFor_7 : decode cX9_textFor 7 = .ok (.aload_n 0, 1) := by decide +kernel
theorem dX9_textFor_8 : decode cX9_textFor 8 = .ok (.getfield 197, 3) := by decide +kernel
theorem dX9_textFor_11 : decode cX9_textFor 11 = .ok (.if_icmp .ge 30, 3) := by decide +kernel
theorem dX9_textFor_14 : decode cX9_textFor 14 = .ok (.aload_n 0, 1) := by decide +kernel
theorem dX9_textFor_15 : decode cX9_textFor 15 = .ok (.getfield 37, 3) := by decide +kernel
theorem dX9_textFor_18 : decode cX9_textFor 18 = .ok (.iload 4, 2) := by decide +kernel
theorem dX9_textFor_20 : decode cX9_textFor 20 = .ok (.laload, 1) := by decide +kernel
theorem dX9_textFor_21 : decode cX9_textFor 21 = .ok (.lload_n 1, 1) := by decide +kernel
theorem dX9_textFor_22 : decode cX9_textFor 22 = .ok (.lcmp, 1) := by decide +kernel
theorem dX9_textFor_23 : decode cX9_textFor 23 = .ok (.ifCond .gt 10, 3) := by decide +kernel
theorem dX9_textFor_26 : decode cX9_textFor 26 = .ok (.iload 4, 2) := by decide +kernel
theorem dX9_textFor_28 : decode cX9_textFor 28 = .ok (.iconst 1, 1) := by decide +kernel
theorem dX9_textFor_29 : decode cX9_textFor 29 = .ok (.iadd, 1) := by decide +kernel
theorem dX9_textFor_30 : decode cX9_textFor 30 = .ok (.goto 4, 3) := by decide +kernel
theorem dX9_textFor_33 : decode cX9_textFor 33 = .ok (.iload_n 3, 1) := by decide +kernel
theorem dX9_textFor_34 : decode cX9_textFor 34 = .ok (.istore_n 3, 1) := by decide +kernel
theorem dX9_textFor_35 : decode cX9_textFor 35 = .ok (.iinc 4 1, 3) := by decide +kernel
theorem dX9_textFor_38 : decode cX9_textFor 38 = .ok (.goto (-33), 3) := by decide +kernel
theorem dX9_textFor_41 : decode cX9_textFor 41 = .ok (.iload_n 3, 1) := by decide +kernel
theorem dX9_textFor_42 : decode cX9_textFor 42 = .ok (.ireturn, 1) := by decide +kernel
theorem dX9_gradeBy_0 : decode cX9_gradeBy 0 = .ok (.iconst 0, 1) := by decide +kernel
theorem dX9_gradeBy_1 : decode cX9_gradeBy 1 = .ok (.istore_n 3, 1) := by decide +kernel
theorem dX9_gradeBy_2 : decode cX9_gradeBy 2 = .ok (.iload_n 3, 1) := by decide +kernel
theorem dX9_gradeBy_3 : decode cX9_gradeBy 3 = .ok (.aload_n 0, 1) := by decide +kernel
theorem dX9_gradeBy_4 : decode cX9_gradeBy 4 = .ok (.getfield 22, 3) := by decide +kernel
theorem dX9_gradeBy_7 : decode cX9_gradeBy 7 = .ok (.iload_n 1, 1) := by decide +kernel
theorem dX9_gradeBy_8 : decode cX9_gradeBy 8 = .ok (.iaload, 1) := by decide +kernel
theorem dX9_gradeBy_9 : decode cX9_gradeBy 9 = .ok (.if_icmp .ge 31, 3) := by decide +kernel
theorem dX9_gradeBy_12 : decode cX9_gradeBy 12 = .ok (.aload_n 0, 1) := by decide +kernel
theorem dX9_gradeBy_13 : decode cX9_gradeBy 13 = .ok (.iload_n 1, 1) := by decide +kernel
theorem dX9_gradeBy_14 : decode cX9_gradeBy 14 = .ok (.iload_n 3, 1) := by decide +kernel
theorem dX9_gradeBy_15 : decode cX9_gradeBy 15 = .ok (.iload_n 2, 1) := by decide +kernel
theorem dX9_gradeBy_16 : decode cX9_gradeBy 16 = .ok (.invokevirtual 255, 3) := by decide +kernel
theorem dX9_gradeBy_19 : decode cX9_gradeBy 19 = .ok (.ifCond .eq 15, 3) := by decide +kernel
theorem dX9_gradeBy_22 : decode cX9_gradeBy 22 = .ok (.aload_n 0, 1) := by decide +kernel
theorem dX9_gradeBy_23 : decode cX9_gradeBy 23 = .ok (.getfield 28, 3) := by decide +kernel
theorem dX9_gradeBy_26 : decode cX9_gradeBy 26 = .ok (.bipush 13, 2) := by decide +kernel
theorem dX9_gradeBy_28 : decode cX9_gradeBy 28 = .ok (.iload_n 1, 1) := by decide +kernel
theorem dX9_gradeBy_29 : decode cX9_gradeBy 29 = .ok (.imul, 1) := by decide +kernel
theorem dX9_gradeBy_30 : decode cX9_gradeBy 30 = .ok (.iload_n 3, 1) := by decide +kernel
theorem dX9_gradeBy_31 : decode cX9_gradeBy 31 = .ok (.iadd, 1) := by decide +kernel
theorem dX9_gradeBy_32 : decode cX9_gradeBy 32 = .ok (.iaload, 1) := by decide +kernel
theorem dX9_gradeBy_33 : decode cX9_gradeBy 33 = .ok (.ireturn, 1) := by decide +kernel
theorem dX9_gradeBy_34 : decode cX9_gradeBy 34 = .ok (.iinc 3 1, 3) := by decide +kernel
theorem dX9_gradeBy_37 : decode cX9_gradeBy 37 = .ok (.goto (-35), 3) := by decide +kernel
theorem dX9_gradeBy_40 : decode cX9_gradeBy 40 = .ok (.iconst (-1), 1) := by decide +kernel
theorem dX9_gradeBy_41 : decode cX9_gradeBy 41 = .ok (.ireturn, 1) := by decide +kernel
theorem dX9_walk_0 : decode cX9_walk 0 = .ok (.aload_n 0, 1) := by decide +kernel
theorem dX9_walk_1 : decode cX9_walk 1 = .ok (.aload_n 0, 1) := by decide +kernel
theorem dX9_walk_2 : decode cX9_walk 2 = .ok (.getfield 164, 3) := by decide +kernel
theorem dX9_walk_5 : decode cX9_walk 5 = .ok (.ifCond .eq 7, 3) := by decide +kernel
theorem dX9_walk_8 : decode cX9_walk 8 = .ok (.iconst 0, 1) := by decide +kernel
theorem dX9_walk_9 : decode cX9_walk 9 = .ok (.goto 4, 3) := by decide +kernel
theorem dX9_walk_12 : decode cX9_walk 12 = .ok (.iconst 1, 1) := by decide +kernel
theorem dX9_walk_13 : decode cX9_walk 13 = .ok (.putfield 89, 3) := by decide +kernel
theorem dX9_walk_16 : decode cX9_walk 16 = .ok (.aload_n 0, 1) := by decide +kernel
theorem dX9_walk_17 : decode cX9_walk 17 = .ok (.getfield 89, 3) := by decide +kernel
theorem dX9_walk_20 : decode cX9_walk 20 = .ok (.ifCond .le 7, 3) := by decide +kernel
theorem dX9_walk_23 : decode cX9_walk 23 = .ok (.iconst 0, 1) := by decide +kernel
theorem dX9_walk_24 : decode cX9_walk 24 = .ok (.goto 15, 3) := by decide +kernel
theorem dX9_walk_27 : decode cX9_walk 27 = .ok (.aload_n 0, 1) := by decide +kernel
theorem dX9_walk_28 : decode cX9_walk 28 = .ok (.aload_n 0, 1) := by decide +kernel
theorem dX9_walk_29 : decode cX9_walk 29 = .ok (.lload_n 1, 1) := by decide +kernel
theorem dX9_walk_30 : decode cX9_walk 30 = .ok (.invokevirtual 259, 3) := by decide +kernel
theorem dX9_walk_33 : decode cX9_walk 33 = .ok (.sipush 1023, 3) := by decide +kernel
theorem dX9_walk_36 : decode cX9_walk 36 = .ok (.invokevirtual 263, 3) := by decide +kernel
theorem dX9_walk_39 : decode cX9_walk 39 = .ok (.ireturn, 1) := by decide +kernel
theorem dX9_run_0 : decode cX9_run 0 = .ok (.aload_n 0, 1) := by decide +kernel
theorem dX9_run_1 : decode cX9_run 1 = .ok (.aload_n 0, 1) := by decide +kernel
theorem dX9_run_2 : decode cX9_run 2 = .ok (.getfield 164, 3) := by decide +kernel
theorem dX9_run_5 : decode cX9_run 5 = .ok (.ifCond .eq 7, 3) := by decide +kernel
theorem dX9_run_8 : decode cX9_run 8 = .ok (.iconst 0, 1) := by decide +kernel
theorem dX9_run_9 : decode cX9_run 9 = .ok (.goto 4, 3) := by decide +kernel
theorem dX9_run_12 : decode cX9_run 12 = .ok (.iconst 1, 1) := by decide +kernel
theorem dX9_run_13 : decode cX9_run 13 = .ok (.putfield 89, 3) := by decide +kernel
theorem dX9_run_16 : decode cX9_run 16 = .ok (.aload_n 0, 1) := by decide +kernel
theorem dX9_run_17 : decode cX9_run 17 = .ok (.getfield 89, 3) := by decide +kernel
theorem dX9_run_20 : decode cX9_run 20 = .ok (.ifCond .le 5, 3) := by decide +kernel
theorem dX9_run_23 : decode cX9_run 23 = .ok (.iconst 0, 1) := by decide +kernel
theorem dX9_run_24 : decode cX9_run 24 = .ok (.ireturn, 1) := by decide +kernel
theorem dX9_run_25 : decode cX9_run 25 = .ok (.aload_n 0, 1) := by decide +kernel
theorem dX9_run_26 : decode cX9_run 26 = .ok (.aload_n 0, 1) := by decide +kernel
theorem dX9_run_27 : decode cX9_run 27 = .ok (.lload_n 1, 1) := by decide +kernel
theorem dX9_run_28 : decode cX9_run 28 = .ok (.invokevirtual 259, 3) := by decide +kernel
theorem dX9_run_31 : decode cX9_run 31 = .ok (.iconst 5, 1) := by decide +kernel
theorem dX9_run_32 : decode cX9_run 32 = .ok (.invokevirtual 161, 3) := by decide +kernel
theorem dX9_run_35 : decode cX9_run 35 = .ok (.aload_n 0, 1) := by decide +kernel
theorem dX9_run_36 : decode cX9_run 36 = .ok (.iconst 1, 1) := by decide +kernel
theorem dX9_run_37 : decode cX9_run 37 = .ok (.putfield 267, 3) := by decide +kernel
theorem dX9_run_40 : decode cX9_run 40 = .ok (.aload_n 0, 1) := by decide +kernel
theorem dX9_run_41 : decode cX9_run 41 = .ok (.iconst 0, 1) := by decide +kernel
theorem dX9_run_42 : decode cX9_run 42 = .ok (.putfield 270, 3) := by decide +kernel
theorem dX9_run_45 : decode cX9_run 45 = .ok (.aload_n 0, 1) := by decide +kernel
theorem dX9_run_46 : decode cX9_run 46 = .ok (.iconst 0, 1) := by decide +kernel
theorem dX9_run_47 : decode cX9_run 47 = .ok (.putfield 273, 3) := by decide +kernel
theorem dX9_run_50 : decode cX9_run 50 = .ok (.iconst (-1), 1) := by decide +kernel
theorem dX9_run_51 : decode cX9_run 51 = .ok (.istore_n 3, 1) := by decide +kernel
theorem dX9_run_52 : decode cX9_run 52 = .ok (.iconst 1, 1) := by decide +kernel
theorem dX9_run_53 : decode cX9_run 53 = .ok (.istore 4, 2) := by decide +kernel
theorem dX9_run_55 : decode cX9_run 55 = .ok (.iload 4, 2) := by decide +kernel
theorem dX9_run_57 : decode cX9_run 57 = .ok (.ifCond .eq 146, 3) := by decide +kernel
theorem dX9_run_60 : decode cX9_run 60 = .ok (.aload_n 0, 1) := by decide +kernel
theorem dX9_run_61 : decode cX9_run 61 = .ok (.getfield 270, 3) := by decide +kernel
theorem dX9_run_64 : decode cX9_run 64 = .ok (.aload_n 0, 1) := by decide +kernel
theorem dX9_run_65 : decode cX9_run 65 = .ok (.getfield 22, 3) := by decide +kernel
theorem dX9_run_68 : decode cX9_run 68 = .ok (.iconst 5, 1) := by decide +kernel
theorem dX9_run_69 : decode cX9_run 69 = .ok (.iaload, 1) := by decide +kernel
theorem dX9_run_70 : decode cX9_run 70 = .ok (.if_icmp .ge 133, 3) := by decide +kernel
theorem dX9_run_73 : decode cX9_run 73 = .ok (.aload_n 0, 1) := by decide +kernel
theorem dX9_run_74 : decode cX9_run 74 = .ok (.iconst 5, 1) := by decide +kernel
theorem dX9_run_75 : decode cX9_run 75 = .ok (.aload_n 0, 1) := by decide +kernel
theorem dX9_run_76 : decode cX9_run 76 = .ok (.getfield 270, 3) := by decide +kernel
theorem dX9_run_79 : decode cX9_run 79 = .ok (.sipush 1023, 3) := by decide +kernel
theorem dX9_run_82 : decode cX9_run 82 = .ok (.invokevirtual 255, 3) := by decide +kernel
theorem dX9_run_85 : decode cX9_run 85 = .ok (.istore 5, 2) := by decide +kernel
theorem dX9_run_87 : decode cX9_run 87 = .ok (.aload_n 0, 1) := by decide +kernel
theorem dX9_run_88 : decode cX9_run 88 = .ok (.getfield 62, 3) := by decide +kernel
theorem dX9_run_91 : decode cX9_run 91 = .ok (.aload_n 0, 1) := by decide +kernel
theorem dX9_run_92 : decode cX9_run 92 = .ok (.getfield 270, 3) := by decide +kernel
theorem dX9_run_95 : decode cX9_run 95 = .ok (.aload_n 0, 1) := by decide +kernel
theorem dX9_run_96 : decode cX9_run 96 = .ok (.getfield 234, 3) := by decide +kernel
theorem dX9_run_99 : decode cX9_run 99 = .ok (.iastore, 1) := by decide +kernel
theorem dX9_run_100 : decode cX9_run 100 = .ok (.aload_n 0, 1) := by decide +kernel
theorem dX9_run_101 : decode cX9_run 101 = .ok (.getfield 231, 3) := by decide +kernel
theorem dX9_run_104 : decode cX9_run 104 = .ok (.ifCond .le 52, 3) := by decide +kernel
theorem dX9_run_107 : decode cX9_run 107 = .ok (.aload_n 0, 1) := by decide +kernel
theorem dX9_run_108 : decode cX9_run 108 = .ok (.getfield 65, 3) := by decide +kernel
theorem dX9_run_111 : decode cX9_run 111 = .ok (.aload_n 0, 1) := by decide +kernel
theorem dX9_run_112 : decode cX9_run 112 = .ok (.getfield 273, 3) := by decide +kernel
theorem dX9_run_115 : decode cX9_run 115 = .ok (.aload_n 0, 1) := by decide +kernel
theorem dX9_run_116 : decode cX9_run 116 = .ok (.getfield 270, 3) := by decide +kernel
theorem dX9_run_119 : decode cX9_run 119 = .ok (.iastore, 1) := by decide +kernel
theorem dX9_run_120 : decode cX9_run 120 = .ok (.aload_n 0, 1) := by decide +kernel
theorem dX9_run_121 : decode cX9_run 121 = .ok (.getfield 68, 3) := by decide +kernel
theorem dX9_run_124 : decode cX9_run 124 = .ok (.aload_n 0, 1) := by decide +kernel
theorem dX9_run_125 : decode cX9_run 125 = .ok (.getfield 273, 3) := by decide +kernel
theorem dX9_run_128 : decode cX9_run 128 = .ok (.aload_n 0, 1) := by decide +kernel
theorem dX9_run_129 : decode cX9_run 129 = .ok (.getfield 252, 3) := by decide +kernel
theorem dX9_run_132 : decode cX9_run 132 = .ok (.iastore, 1) := by decide +kernel
theorem dX9_run_133 : decode cX9_run 133 = .ok (.aload_n 0, 1) := by decide +kernel
theorem dX9_run_134 : decode cX9_run 134 = .ok (.getfield 71, 3) := by decide +kernel
theorem dX9_run_137 : decode cX9_run 137 = .ok (.aload_n 0, 1) := by decide +kernel
theorem dX9_run_138 : decode cX9_run 138 = .ok (.getfield 273, 3) := by decide +kernel
theorem dX9_run_141 : decode cX9_run 141 = .ok (.aload_n 0, 1) := by decide +kernel
theorem dX9_run_142 : decode cX9_run 142 = .ok (.getfield 231, 3) := by decide +kernel
theorem dX9_run_145 : decode cX9_run 145 = .ok (.iastore, 1) := by decide +kernel
theorem dX9_run_146 : decode cX9_run 146 = .ok (.aload_n 0, 1) := by decide +kernel
theorem dX9_run_147 : decode cX9_run 147 = .ok (.dup, 1) := by decide +kernel
theorem dX9_run_148 : decode cX9_run 148 = .ok (.getfield 273, 3) := by decide +kernel
theorem dX9_run_151 : decode cX9_run 151 = .ok (.iconst 1, 1) := by decide +kernel
theorem dX9_run_152 : decode cX9_run 152 = .ok (.iadd, 1) := by decide +kernel
theorem dX9_run_153 : decode cX9_run 153 = .ok (.putfield 273, 3) := by decide +kernel
theorem dX9_run_156 : decode cX9_run 156 = .ok (.iload 5, 2) := by decide +kernel
theorem dX9_run_158 : decode cX9_run 158 = .ok (.ifCond .eq 18, 3) := by decide +kernel
theorem dX9_run_161 : decode cX9_run 161 = .ok (.aload_n 0, 1) := by decide +kernel
theorem dX9_run_162 : decode cX9_run 162 = .ok (.getfield 28, 3) := by decide +kernel
theorem dX9_run_165 : decode cX9_run 165 = .ok (.bipush 65, 2) := by decide +kernel
theorem dX9_run_167 : decode cX9_run 167 = .ok (.aload_n 0, 1) := by decide +kernel
theorem dX9_run_168 : decode cX9_run 168 = .ok (.getfield 270, 3) := by decide +kernel
theorem dX9_run_171 : decode cX9_run 171 = .ok (.iadd, 1) := by decide +kernel
theorem dX9_run_172 : decode cX9_run 172 = .ok (.iaload, 1) := by decide +kernel
theorem dX9_run_173 : decode cX9_run 173 = .ok (.goto 4, 3) := by decide +kernel
theorem dX9_run_176 : decode cX9_run 176 = .ok (.iconst (-1), 1) := by decide +kernel
theorem dX9_run_177 : decode cX9_run 177 = .ok (.istore_n 3, 1) := by decide +kernel
theorem dX9_run_178 : decode cX9_run 178 = .ok (.iload 5, 2) := by decide +kernel
theorem dX9_run_180 : decode cX9_run 180 = .ok (.ifCond .ne 7, 3) := by decide +kernel
theorem dX9_run_183 : decode cX9_run 183 = .ok (.iconst 1, 1) := by decide +kernel
theorem dX9_run_184 : decode cX9_run 184 = .ok (.goto 4, 3) := by decide +kernel
theorem dX9_run_187 : decode cX9_run 187 = .ok (.iconst 0, 1) := by decide +kernel
theorem dX9_run_188 : decode cX9_run 188 = .ok (.istore 4, 2) := by decide +kernel
theorem dX9_run_190 : decode cX9_run 190 = .ok (.aload_n 0, 1) := by decide +kernel
theorem dX9_run_191 : decode cX9_run 191 = .ok (.dup, 1) := by decide +kernel
theorem dX9_run_192 : decode cX9_run 192 = .ok (.getfield 270, 3) := by decide +kernel
theorem dX9_run_195 : decode cX9_run 195 = .ok (.iconst 1, 1) := by decide +kernel
theorem dX9_run_196 : decode cX9_run 196 = .ok (.iadd, 1) := by decide +kernel
theorem dX9_run_197 : decode cX9_run 197 = .ok (.putfield 270, 3) := by decide +kernel
theorem dX9_run_200 : decode cX9_run 200 = .ok (.goto (-145), 3) := by decide +kernel
theorem dX9_run_203 : decode cX9_run 203 = .ok (.aload_n 0, 1) := by decide +kernel
theorem dX9_run_204 : decode cX9_run 204 = .ok (.getfield 74, 3) := by decide +kernel
theorem dX9_run_207 : decode cX9_run 207 = .ok (.iload_n 3, 1) := by decide +kernel
theorem dX9_run_208 : decode cX9_run 208 = .ok (.iconst 1, 1) := by decide +kernel
theorem dX9_run_209 : decode cX9_run 209 = .ok (.iadd, 1) := by decide +kernel
theorem dX9_run_210 : decode cX9_run 210 = .ok (.dup2, 1) := by decide +kernel
theorem dX9_run_211 : decode cX9_run 211 = .ok (.laload, 1) := by decide +kernel
theorem dX9_run_212 : decode cX9_run 212 = .ok (.lconst 1, 1) := by decide +kernel
theorem dX9_run_213 : decode cX9_run 213 = .ok (.ladd, 1) := by decide +kernel
theorem dX9_run_214 : decode cX9_run 214 = .ok (.lastore, 1) := by decide +kernel
theorem dX9_run_215 : decode cX9_run 215 = .ok (.iload_n 3, 1) := by decide +kernel
theorem dX9_run_216 : decode cX9_run 216 = .ok (.ireturn, 1) := by decide +kernel
theorem dX9_isGrade_0 : decode cX9_isGrade 0 = .ok (.iload_n 0, 1) := by decide +kernel
theorem dX9_isGrade_1 : decode cX9_isGrade 1 = .ok (.ifCond .lt 13, 3) := by decide +kernel
theorem dX9_isGrade_4 : decode cX9_isGrade 4 = .ok (.iload_n 0, 1) := by decide +kernel
theorem dX9_isGrade_5 : decode cX9_isGrade 5 = .ok (.bipush 9, 2) := by decide +kernel
theorem dX9_isGrade_7 : decode cX9_isGrade 7 = .ok (.if_icmp .gt 7, 3) := by decide +kernel
theorem dX9_isGrade_10 : decode cX9_isGrade 10 = .ok (.iconst 1, 1) := by decide +kernel
theorem dX9_isGrade_11 : decode cX9_isGrade 11 = .ok (.goto 4, 3) := by decide +kernel
theorem dX9_isGrade_14 : decode cX9_isGrade 14 = .ok (.iconst 0, 1) := by decide +kernel
theorem dX9_isGrade_15 : decode cX9_isGrade 15 = .ok (.ireturn, 1) := by decide +kernel
theorem dX9_why_0 : decode cX9_why 0 = .ok (.aload_n 0, 1) := by decide +kernel
theorem dX9_why_1 : decode cX9_why 1 = .ok (.aload_n 0, 1) := by decide +kernel
theorem dX9_why_2 : decode cX9_why 2 = .ok (.getfield 267, 3) := by decide +kernel
theorem dX9_why_5 : decode cX9_why 5 = .ok (.ifCond .ne 7, 3) := by decide +kernel
theorem dX9_why_8 : decode cX9_why 8 = .ok (.iconst 1, 1) := by decide +kernel
theorem dX9_why_9 : decode cX9_why 9 = .ok (.goto 19, 3) := by decide +kernel
theorem dX9_why_12 : decode cX9_why 12 = .ok (.iload_n 1, 1) := by decide +kernel
theorem dX9_why_13 : decode cX9_why 13 = .ok (.invokestatic 276, 3) := by decide +kernel
theorem dX9_why_16 : decode cX9_why 16 = .ok (.ifCond .eq 7, 3) := by decide +kernel
theorem dX9_why_19 : decode cX9_why 19 = .ok (.iload_n 2, 1) := by decide +kernel
theorem dX9_why_20 : decode cX9_why 20 = .ok (.ifCond .ge 7, 3) := by decide +kernel
theorem dX9_why_23 : decode cX9_why 23 = .ok (.iconst 2, 1) := by decide +kernel
theorem dX9_why_24 : decode cX9_why 24 = .ok (.goto 4, 3) := by decide +kernel
theorem dX9_why_27 : decode cX9_why 27 = .ok (.iconst 0, 1) := by decide +kernel
theorem dX9_why_28 : decode cX9_why 28 = .ok (.putfield 89, 3) := by decide +kernel
theorem dX9_why_31 : decode cX9_why 31 = .ok (.iload_n 2, 1) := by decide +kernel
theorem dX9_why_32 : decode cX9_why 32 = .ok (.istore_n 3, 1) := by decide +kernel
theorem dX9_why_33 : decode cX9_why 33 = .ok (.iconst 0, 1) := by decide +kernel
theorem dX9_why_34 : decode cX9_why 34 = .ok (.istore 4, 2) := by decide +kernel
theorem dX9_why_36 : decode cX9_why 36 = .ok (.aload_n 0, 1) := by decide +kernel
theorem dX9_why_37 : decode cX9_why 37 = .ok (.getfield 89, 3) := by decide +kernel
theorem dX9_why_40 : decode cX9_why 40 = .ok (.ifCond .ne 47, 3) := by decide +kernel
theorem dX9_why_43 : decode cX9_why 43 = .ok (.iload 4, 2) := by decide +kernel
theorem dX9_why_45 : decode cX9_why 45 = .ok (.aload_n 0, 1) := by decide +kernel
theorem dX9_why_46 : decode cX9_why 46 = .ok (.getfield 270, 3) := by decide +kernel
theorem dX9_why_49 : decode cX9_why 49 = .ok (.if_icmp .ge 38, 3) := by decide +kernel
theorem dX9_why_52 : decode cX9_why 52 = .ok (.aload_n 0, 1) := by decide +kernel
theorem dX9_why_53 : decode cX9_why 53 = .ok (.getfield 28, 3) := by decide +kernel
theorem dX9_why_56 : decode cX9_why 56 = .ok (.bipush 65, 2) := by decide +kernel
theorem dX9_why_58 : decode cX9_why 58 = .ok (.iload 4, 2) := by decide +kernel
theorem dX9_why_60 : decode cX9_why 60 = .ok (.iadd, 1) := by decide +kernel
theorem dX9_why_61 : decode cX9_why 61 = .ok (.iaload, 1) := by decide +kernel
theorem dX9_why_62 : decode cX9_why 62 = .ok (.iload_n 1, 1) := by decide +kernel
theorem dX9_why_63 : decode cX9_why 63 = .ok (.if_icmp .ne 18, 3) := by decide +kernel
theorem dX9_why_66 : decode cX9_why 66 = .ok (.iload_n 3, 1) := by decide +kernel
theorem dX9_why_67 : decode cX9_why 67 = .ok (.ifCond .ne 11, 3) := by decide +kernel
theorem dX9_why_70 : decode cX9_why 70 = .ok (.aload_n 0, 1) := by decide +kernel
theorem dX9_why_71 : decode cX9_why 71 = .ok (.getfield 62, 3) := by decide +kernel
theorem dX9_why_74 : decode cX9_why 74 = .ok (.iload 4, 2) := by decide +kernel
theorem dX9_why_76 : decode cX9_why 76 = .ok (.iaload, 1) := by decide +kernel
theorem dX9_why_77 : decode cX9_why 77 = .ok (.ireturn, 1) := by decide +kernel
theorem dX9_why_78 : decode cX9_why 78 = .ok (.iinc 3 (-1), 3) := by decide +kernel
theorem dX9_why_81 : decode cX9_why 81 = .ok (.iinc 4 1, 3) := by decide +kernel
theorem dX9_why_84 : decode cX9_why 84 = .ok (.goto (-48), 3) := by decide +kernel
theorem dX9_why_87 : decode cX9_why 87 = .ok (.aload_n 0, 1) := by decide +kernel
theorem dX9_why_88 : decode cX9_why 88 = .ok (.getfield 89, 3) := by decide +kernel
theorem dX9_why_91 : decode cX9_why 91 = .ok (.ifCond .le 7, 3) := by decide +kernel
theorem dX9_why_94 : decode cX9_why 94 = .ok (.iconst 0, 1) := by decide +kernel
theorem dX9_why_95 : decode cX9_why 95 = .ok (.goto 4, 3) := by decide +kernel
theorem dX9_why_98 : decode cX9_why 98 = .ok (.iconst (-1), 1) := by decide +kernel
theorem dX9_why_99 : decode cX9_why 99 = .ok (.ireturn, 1) := by decide +kernel
theorem dX9_open_0 : decode cX9_open 0 = .ok (.aload_n 0, 1) := by decide +kernel
theorem dX9_open_1 : decode cX9_open 1 = .ok (.aload_n 0, 1) := by decide +kernel
theorem dX9_open_2 : decode cX9_open 2 = .ok (.getfield 267, 3) := by decide +kernel
theorem dX9_open_5 : decode cX9_open 5 = .ok (.ifCond .eq 15, 3) := by decide +kernel
theorem dX9_open_8 : decode cX9_open 8 = .ok (.iload_n 1, 1) := by decide +kernel
theorem dX9_open_9 : decode cX9_open 9 = .ok (.ifCond .lt 11, 3) := by decide +kernel
theorem dX9_open_12 : decode cX9_open 12 = .ok (.iload_n 1, 1) := by decide +kernel
theorem dX9_open_13 : decode cX9_open 13 = .ok (.aload_n 0, 1) := by decide +kernel
theorem dX9_open_14 : decode cX9_open 14 = .ok (.getfield 273, 3) := by decide +kernel
theorem dX9_open_17 : decode cX9_open 17 = .ok (.if_icmp .lt 7, 3) := by decide +kernel
theorem dX9_open_20 : decode cX9_open 20 = .ok (.iconst 1, 1) := by decide +kernel
theorem dX9_open_21 : decode cX9_open 21 = .ok (.goto 17, 3) := by decide +kernel
theorem dX9_open_24 : decode cX9_open 24 = .ok (.iload_n 2, 1) := by decide +kernel
theorem dX9_open_25 : decode cX9_open 25 = .ok (.ifCond .lt 8, 3) := by decide +kernel
theorem dX9_open_28 : decode cX9_open 28 = .ok (.iload_n 2, 1) := by decide +kernel
theorem dX9_open_29 : decode cX9_open 29 = .ok (.iconst 2, 1) := by decide +kernel
theorem dX9_open_30 : decode cX9_open 30 = .ok (.if_icmp .le 7, 3) := by decide +kernel
theorem dX9_open_33 : decode cX9_open 33 = .ok (.iconst 2, 1) := by decide +kernel
theorem dX9_open_34 : decode cX9_open 34 = .ok (.goto 4, 3) := by decide +kernel
theorem dX9_open_37 : decode cX9_open 37 = .ok (.iconst 0, 1) := by decide +kernel
theorem dX9_open_38 : decode cX9_open 38 = .ok (.putfield 89, 3) := by decide +kernel
theorem dX9_open_41 : decode cX9_open 41 = .ok (.aload_n 0, 1) := by decide +kernel
theorem dX9_open_42 : decode cX9_open 42 = .ok (.getfield 89, 3) := by decide +kernel
theorem dX9_open_45 : decode cX9_open 45 = .ok (.ifCond .le 5, 3) := by decide +kernel
theorem dX9_open_48 : decode cX9_open 48 = .ok (.iconst 0, 1) := by decide +kernel
theorem dX9_open_49 : decode cX9_open 49 = .ok (.ireturn, 1) := by decide +kernel
theorem dX9_open_50 : decode cX9_open 50 = .ok (.iload_n 2, 1) := by decide +kernel
theorem dX9_open_51 : decode cX9_open 51 = .ok (.ifCond .ne 12, 3) := by decide +kernel
theorem dX9_open_54 : decode cX9_open 54 = .ok (.aload_n 0, 1) := by decide +kernel
theorem dX9_open_55 : decode cX9_open 55 = .ok (.getfield 65, 3) := by decide +kernel
theorem dX9_open_58 : decode cX9_open 58 = .ok (.iload_n 1, 1) := by decide +kernel
theorem dX9_open_59 : decode cX9_open 59 = .ok (.iaload, 1) := by decide +kernel
theorem dX9_open_60 : decode cX9_open 60 = .ok (.goto 23, 3) := by decide +kernel
theorem dX9_open_63 : decode cX9_open 63 = .ok (.iload_n 2, 1) := by decide +kernel
theorem dX9_open_64 : decode cX9_open 64 = .ok (.iconst 1, 1) := by decide +kernel
theorem dX9_open_65 : decode cX9_open 65 = .ok (.if_icmp .ne 12, 3) := by decide +kernel
theorem dX9_open_68 : decode cX9_open 68 = .ok (.aload_n 0, 1) := by decide +kernel
theorem dX9_open_69 : decode cX9_open 69 = .ok (.getfield 68, 3) := by decide +kernel
theorem dX9_open_72 : decode cX9_open 72 = .ok (.iload_n 1, 1) := by decide +kernel
theorem dX9_open_73 : decode cX9_open 73 = .ok (.iaload, 1) := by decide +kernel
theorem dX9_open_74 : decode cX9_open 74 = .ok (.goto 9, 3) := by decide +kernel
theorem dX9_open_77 : decode cX9_open 77 = .ok (.aload_n 0, 1) := by decide +kernel
theorem dX9_open_78 : decode cX9_open 78 = .ok (.getfield 71, 3) := by decide +kernel
theorem dX9_open_81 : decode cX9_open 81 = .ok (.iload_n 1, 1) := by decide +kernel
theorem dX9_open_82 : decode cX9_open 82 = .ok (.iaload, 1) := by decide +kernel
theorem dX9_open_83 : decode cX9_open 83 = .ok (.ireturn, 1) := by decide +kernel
theorem dX9_worst_0 : decode cX9_worst 0 = .ok (.aload_n 0, 1) := by decide +kernel
theorem dX9_worst_1 : decode cX9_worst 1 = .ok (.iload_n 1, 1) := by decide +kernel
theorem dX9_worst_2 : decode cX9_worst 2 = .ok (.ifCond .lt 18, 3) := by decide +kernel
theorem dX9_worst_5 : decode cX9_worst 5 = .ok (.iload_n 1, 1) := by decide +kernel
theorem dX9_worst_6 : decode cX9_worst 6 = .ok (.bipush 7, 2) := by decide +kernel
theorem dX9_worst_8 : decode cX9_worst 8 = .ok (.if_icmp .gt 12, 3) := by decide +kernel
theorem dX9_worst_11 : decode cX9_worst 11 = .ok (.iload_n 3, 1) := by decide +kernel
theorem dX9_worst_12 : decode cX9_worst 12 = .ok (.ifCond .lt 8, 3) := by decide +kernel
theorem dX9_worst_15 : decode cX9_worst 15 = .ok (.iload_n 3, 1) := by decide +kernel
theorem dX9_worst_16 : decode cX9_worst 16 = .ok (.iconst 1, 1) := by decide +kernel
theorem dX9_worst_17 : decode cX9_worst 17 = .ok (.if_icmp .le 7, 3) := by decide +kernel
theorem dX9_worst_20 : decode cX9_worst 20 = .ok (.iconst 1, 1) := by decide +kernel
theorem dX9_worst_21 : decode cX9_worst 21 = .ok (.goto 4, 3) := by decide +kernel
theorem dX9_worst_24 : decode cX9_worst 24 = .ok (.iconst 0, 1) := by decide +kernel
theorem dX9_worst_25 : decode cX9_worst 25 = .ok (.putfield 89, 3) := by decide +kernel
theorem dX9_worst_28 : decode cX9_worst 28 = .ok (.aload_n 0, 1) := by decide +kernel
theorem dX9_worst_29 : decode cX9_worst 29 = .ok (.getfield 89, 3) := by decide +kernel
theorem dX9_worst_32 : decode cX9_worst 32 = .ok (.ifCond .le 7, 3) := by decide +kernel
theorem dX9_worst_35 : decode cX9_worst 35 = .ok (.lconst 0, 1) := by decide +kernel
theorem dX9_worst_36 : decode cX9_worst 36 = .ok (.goto 23, 3) := by decide +kernel
theorem dX9_worst_39 : decode cX9_worst 39 = .ok (.aload_n 0, 1) := by decide +kernel
theorem dX9_worst_40 : decode cX9_worst 40 = .ok (.iload_n 1, 1) := by decide +kernel
theorem dX9_worst_41 : decode cX9_worst 41 = .ok (.iload_n 2, 1) := by decide +kernel
theorem dX9_worst_42 : decode cX9_worst 42 = .ok (.i2l, 1) := by decide +kernel
theorem dX9_worst_43 : decode cX9_worst 43 = .ok (.iload_n 3, 1) := by decide +kernel
theorem dX9_worst_44 : decode cX9_worst 44 = .ok (.iconst 1, 1) := by decide +kernel
theorem dX9_worst_45 : decode cX9_worst 45 = .ok (.if_icmp .ne 7, 3) := by decide +kernel
theorem dX9_worst_48 : decode cX9_worst 48 = .ok (.iconst 1, 1) := by decide +kernel
theorem dX9_worst_49 : decode cX9_worst 49 = .ok (.goto 4, 3) := by decide +kernel
theorem dX9_worst_52 : decode cX9_worst 52 = .ok (.iconst 0, 1) := by decide +kernel
theorem dX9_worst_53 : decode cX9_worst 53 = .ok (.sipush 1023, 3) := by decide +kernel
theorem dX9_worst_56 : decode cX9_worst 56 = .ok (.invokevirtual 227, 3) := by decide +kernel
theorem dX9_worst_59 : decode cX9_worst 59 = .ok (.lreturn, 1) := by decide +kernel
theorem dX9_many_0 : decode cX9_many 0 = .ok (.iconst 0, 1) := by decide +kernel
theorem dX9_many_1 : decode cX9_many 1 = .ok (.istore_n 1, 1) := by decide +kernel
theorem dX9_many_2 : decode cX9_many 2 = .ok (.iconst 0, 1) := by decide +kernel
theorem dX9_many_3 : decode cX9_many 3 = .ok (.istore_n 2, 1) := by decide +kernel
theorem dX9_many_4 : decode cX9_many 4 = .ok (.iload_n 2, 1) := by decide +kernel
theorem dX9_many_5 : decode cX9_many 5 = .ok (.bipush 10, 2) := by decide +kernel
theorem dX9_many_7 : decode cX9_many 7 = .ok (.if_icmp .ge 25, 3) := by decide +kernel
theorem dX9_many_10 : decode cX9_many 10 = .ok (.iload_n 0, 1) := by decide +kernel
theorem dX9_many_11 : decode cX9_many 11 = .ok (.iload_n 2, 1) := by decide +kernel
theorem dX9_many_12 : decode cX9_many 12 = .ok (.invokestatic 220, 3) := by decide +kernel
theorem dX9_many_15 : decode cX9_many 15 = .ok (.ifCond .eq 9, 3) := by decide +kernel
theorem dX9_many_18 : decode cX9_many 18 = .ok (.iload_n 1, 1) := by decide +kernel
theorem dX9_many_19 : decode cX9_many 19 = .ok (.iconst 1, 1) := by decide +kernel
theorem dX9_many_20 : decode cX9_many 20 = .ok (.iadd, 1) := by decide +kernel
theorem dX9_many_21 : decode cX9_many 21 = .ok (.goto 4, 3) := by decide +kernel
theorem dX9_many_24 : decode cX9_many 24 = .ok (.iload_n 1, 1) := by decide +kernel
theorem dX9_many_25 : decode cX9_many 25 = .ok (.istore_n 1, 1) := by decide +kernel
theorem dX9_many_26 : decode cX9_many 26 = .ok (.iinc 2 1, 3) := by decide +kernel
theorem dX9_many_29 : decode cX9_many 29 = .ok (.goto (-25), 3) := by decide +kernel
theorem dX9_many_32 : decode cX9_many 32 = .ok (.iload_n 1, 1) := by decide +kernel
theorem dX9_many_33 : decode cX9_many 33 = .ok (.ireturn, 1) := by decide +kernel
theorem dX9_isFirst_0 : decode cX9_isFirst 0 = .ok (.iload_n 0, 1) := by decide +kernel
theorem dX9_isFirst_1 : decode cX9_isFirst 1 = .ok (.iload_n 1, 1) := by decide +kernel
theorem dX9_isFirst_2 : decode cX9_isFirst 2 = .ok (.ixor, 1) := by decide +kernel
theorem dX9_isFirst_3 : decode cX9_isFirst 3 = .ok (.istore_n 2, 1) := by decide +kernel
theorem dX9_isFirst_4 : decode cX9_isFirst 4 = .ok (.iload_n 0, 1) := by decide +kernel
theorem dX9_isFirst_5 : decode cX9_isFirst 5 = .ok (.iload_n 2, 1) := by decide +kernel
theorem dX9_isFirst_6 : decode cX9_isFirst 6 = .ok (.iand, 1) := by decide +kernel
theorem dX9_isFirst_7 : decode cX9_isFirst 7 = .ok (.iload_n 2, 1) := by decide +kernel
theorem dX9_isFirst_8 : decode cX9_isFirst 8 = .ok (.ineg, 1) := by decide +kernel
theorem dX9_isFirst_9 : decode cX9_isFirst 9 = .ok (.iand, 1) := by decide +kernel
theorem dX9_isFirst_10 : decode cX9_isFirst 10 = .ok (.ifCond .eq 7, 3) := by decide +kernel
theorem dX9_isFirst_13 : decode cX9_isFirst 13 = .ok (.iconst 1, 1) := by decide +kernel
theorem dX9_isFirst_14 : decode cX9_isFirst 14 = .ok (.goto 4, 3) := by decide +kernel
theorem dX9_isFirst_17 : decode cX9_isFirst 17 = .ok (.iconst 0, 1) := by decide +kernel
theorem dX9_isFirst_18 : decode cX9_isFirst 18 = .ok (.ireturn, 1) := by decide +kernel
theorem dX9_raise_0 : decode cX9_raise 0 = .ok (.aload_n 0, 1) := by decide +kernel
theorem dX9_raise_1 : decode cX9_raise 1 = .ok (.aload_n 0, 1) := by decide +kernel
theorem dX9_raise_2 : decode cX9_raise 2 = .ok (.getfield 267, 3) := by decide +kernel
theorem dX9_raise_5 : decode cX9_raise 5 = .ok (.ifCond .ne 7, 3) := by decide +kernel
theorem dX9_raise_8 : decode cX9_raise 8 = .ok (.iconst 1, 1) := by decide +kernel
theorem dX9_raise_9 : decode cX9_raise 9 = .ok (.goto 19, 3) := by decide +kernel
theorem dX9_raise_12 : decode cX9_raise 12 = .ok (.iload_n 1, 1) := by decide +kernel
theorem dX9_raise_13 : decode cX9_raise 13 = .ok (.invokestatic 276, 3) := by decide +kernel
theorem dX9_raise_16 : decode cX9_raise 16 = .ok (.ifCond .eq 7, 3) := by decide +kernel
theorem dX9_raise_19 : decode cX9_raise 19 = .ok (.iload_n 2, 1) := by decide +kernel
theorem dX9_raise_20 : decode cX9_raise 20 = .ok (.ifCond .ge 7, 3) := by decide +kernel
theorem dX9_raise_23 : decode cX9_raise 23 = .ok (.iconst 2, 1) := by decide +kernel
theorem dX9_raise_24 : decode cX9_raise 24 = .ok (.goto 4, 3) := by decide +kernel
theorem dX9_raise_27 : decode cX9_raise 27 = .ok (.iconst 0, 1) := by decide +kernel
theorem dX9_raise_28 : decode cX9_raise 28 = .ok (.putfield 89, 3) := by decide +kernel
theorem dX9_raise_31 : decode cX9_raise 31 = .ok (.aload_n 0, 1) := by decide +kernel
theorem dX9_raise_32 : decode cX9_raise 32 = .ok (.getfield 89, 3) := by decide +kernel
theorem dX9_raise_35 : decode cX9_raise 35 = .ok (.ifCond .le 5, 3) := by decide +kernel
theorem dX9_raise_38 : decode cX9_raise 38 = .ok (.iconst 0, 1) := by decide +kernel
theorem dX9_raise_39 : decode cX9_raise 39 = .ok (.ireturn, 1) := by decide +kernel
theorem dX9_raise_40 : decode cX9_raise 40 = .ok (.iconst (-1), 1) := by decide +kernel
theorem dX9_raise_41 : decode cX9_raise 41 = .ok (.istore_n 3, 1) := by decide +kernel
theorem dX9_raise_42 : decode cX9_raise 42 = .ok (.iconst 0, 1) := by decide +kernel
theorem dX9_raise_43 : decode cX9_raise 43 = .ok (.istore 4, 2) := by decide +kernel
theorem dX9_raise_45 : decode cX9_raise 45 = .ok (.iload 4, 2) := by decide +kernel
theorem dX9_raise_47 : decode cX9_raise 47 = .ok (.iconst 1, 1) := by decide +kernel
theorem dX9_raise_48 : decode cX9_raise 48 = .ok (.aload_n 0, 1) := by decide +kernel
theorem dX9_raise_49 : decode cX9_raise 49 = .ok (.getfield 213, 3) := by decide +kernel
theorem dX9_raise_52 : decode cX9_raise 52 = .ok (.ishl, 1) := by decide +kernel
theorem dX9_raise_53 : decode cX9_raise 53 = .ok (.if_icmp .ge 78, 3) := by decide +kernel
theorem dX9_raise_56 : decode cX9_raise 56 = .ok (.iload_n 3, 1) := by decide +kernel
theorem dX9_raise_57 : decode cX9_raise 57 = .ok (.ifCond .lt 36, 3) := by decide +kernel
theorem dX9_raise_60 : decode cX9_raise 60 = .ok (.iload 4, 2) := by decide +kernel
theorem dX9_raise_62 : decode cX9_raise 62 = .ok (.invokestatic 279, 3) := by decide +kernel
theorem dX9_raise_65 : decode cX9_raise 65 = .ok (.iload_n 3, 1) := by decide +kernel
theorem dX9_raise_66 : decode cX9_raise 66 = .ok (.invokestatic 279, 3) := by decide +kernel
theorem dX9_raise_69 : decode cX9_raise 69 = .ok (.if_icmp .lt 24, 3) := by decide +kernel
theorem dX9_raise_72 : decode cX9_raise 72 = .ok (.iload 4, 2) := by decide +kernel
theorem dX9_raise_74 : decode cX9_raise 74 = .ok (.invokestatic 279, 3) := by decide +kernel
theorem dX9_raise_77 : decode cX9_raise 77 = .ok (.iload_n 3, 1) := by decide +kernel
theorem dX9_raise_78 : decode cX9_raise 78 = .ok (.invokestatic 279, 3) := by decide +kernel
theorem dX9_raise_81 : decode cX9_raise 81 = .ok (.if_icmp .ne 16, 3) := by decide +kernel
theorem dX9_raise_84 : decode cX9_raise 84 = .ok (.iload 4, 2) := by decide +kernel
theorem dX9_raise_86 : decode cX9_raise 86 = .ok (.iload_n 3, 1) := by decide +kernel
theorem dX9_raise_87 : decode cX9_raise 87 = .ok (.invokestatic 283, 3) := by decide +kernel
theorem dX9_raise_90 : decode cX9_raise 90 = .ok (.ifCond .eq 7, 3) := by decide +kernel
theorem dX9_raise_93 : decode cX9_raise 93 = .ok (.iconst 1, 1) := by decide +kernel
theorem dX9_raise_94 : decode cX9_raise 94 = .ok (.goto 4, 3) := by decide +kernel
theorem dX9_raise_97 : decode cX9_raise 97 = .ok (.iconst 0, 1) := by decide +kernel
theorem dX9_raise_98 : decode cX9_raise 98 = .ok (.istore 5, 2) := by decide +kernel
theorem dX9_raise_100 : decode cX9_raise 100 = .ok (.iload 5, 2) := by decide +kernel
theorem dX9_raise_102 : decode cX9_raise 102 = .ok (.ifCond .eq 23, 3) := by decide +kernel
theorem dX9_raise_105 : decode cX9_raise 105 = .ok (.aload_n 0, 1) := by decide +kernel
theorem dX9_raise_106 : decode cX9_raise 106 = .ok (.iconst 5, 1) := by decide +kernel
theorem dX9_raise_107 : decode cX9_raise 107 = .ok (.sipush 1023, 3) := by decide +kernel
theorem dX9_raise_110 : decode cX9_raise 110 = .ok (.iload 4, 2) := by decide +kernel
theorem dX9_raise_112 : decode cX9_raise 112 = .ok (.iconst (-1), 1) := by decide +kernel
theorem dX9_raise_113 : decode cX9_raise 113 = .ok (.ixor, 1) := by decide +kernel
theorem dX9_raise_114 : decode cX9_raise 114 = .ok (.iand, 1) := by decide +kernel
theorem dX9_raise_115 : decode cX9_raise 115 = .ok (.invokevirtual 263, 3) := by decide +kernel
theorem dX9_raise_118 : decode cX9_raise 118 = .ok (.iload_n 1, 1) := by decide +kernel
theorem dX9_raise_119 : decode cX9_raise 119 = .ok (.if_icmp .ne 6, 3) := by decide +kernel
theorem dX9_raise_122 : decode cX9_raise 122 = .ok (.iload 4, 2) := by decide +kernel
theorem dX9_raise_124 : decode cX9_raise 124 = .ok (.istore_n 3, 1) := by decide +kernel
theorem dX9_raise_125 : decode cX9_raise 125 = .ok (.iinc 4 1, 3) := by decide +kernel
theorem dX9_raise_128 : decode cX9_raise 128 = .ok (.goto (-83), 3) := by decide +kernel
theorem dX9_raise_131 : decode cX9_raise 131 = .ok (.iload_n 2, 1) := by decide +kernel
theorem dX9_raise_132 : decode cX9_raise 132 = .ok (.istore 4, 2) := by decide +kernel
theorem dX9_raise_134 : decode cX9_raise 134 = .ok (.iconst 0, 1) := by decide +kernel
theorem dX9_raise_135 : decode cX9_raise 135 = .ok (.istore 5, 2) := by decide +kernel
theorem dX9_raise_137 : decode cX9_raise 137 = .ok (.iload_n 3, 1) := by decide +kernel
theorem dX9_raise_138 : decode cX9_raise 138 = .ok (.ifCond .lt 38, 3) := by decide +kernel
theorem dX9_raise_141 : decode cX9_raise 141 = .ok (.iload 5, 2) := by decide +kernel
theorem dX9_raise_143 : decode cX9_raise 143 = .ok (.aload_n 0, 1) := by decide +kernel
theorem dX9_raise_144 : decode cX9_raise 144 = .ok (.getfield 213, 3) := by decide +kernel
theorem dX9_raise_147 : decode cX9_raise 147 = .ok (.if_icmp .ge 29, 3) := by decide +kernel
theorem dX9_raise_150 : decode cX9_raise 150 = .ok (.iload_n 3, 1) := by decide +kernel
theorem dX9_raise_151 : decode cX9_raise 151 = .ok (.iload 5, 2) := by decide +kernel
theorem dX9_raise_153 : decode cX9_raise 153 = .ok (.invokestatic 220, 3) := by decide +kernel
theorem dX9_raise_156 : decode cX9_raise 156 = .ok (.ifCond .eq 14, 3) := by decide +kernel
theorem dX9_raise_159 : decode cX9_raise 159 = .ok (.iload 4, 2) := by decide +kernel
theorem dX9_raise_161 : decode cX9_raise 161 = .ok (.ifCond .ne 6, 3) := by decide +kernel
theorem dX9_raise_164 : decode cX9_raise 164 = .ok (.iload 5, 2) := by decide +kernel
theorem dX9_raise_166 : decode cX9_raise 166 = .ok (.ireturn, 1) := by decide +kernel
theorem dX9_raise_167 : decode cX9_raise 167 = .ok (.iinc 4 (-1), 3) := by decide +kernel
theorem dX9_raise_170 : decode cX9_raise 170 = .ok (.iinc 5 1, 3) := by decide +kernel
theorem dX9_raise_173 : decode cX9_raise 173 = .ok (.goto (-36), 3) := by decide +kernel
theorem dX9_raise_176 : decode cX9_raise 176 = .ok (.iconst (-1), 1) := by decide +kernel
theorem dX9_raise_177 : decode cX9_raise 177 = .ok (.ireturn, 1) := by decide +kernel
theorem dX9_appeal_0 : decode cX9_appeal 0 = .ok (.aload_n 0, 1) := by decide +kernel
theorem dX9_appeal_1 : decode cX9_appeal 1 = .ok (.iconst 0, 1) := by decide +kernel
theorem dX9_appeal_2 : decode cX9_appeal 2 = .ok (.putfield 89, 3) := by decide +kernel
theorem dX9_appeal_5 : decode cX9_appeal 5 = .ok (.iload_n 1, 1) := by decide +kernel
theorem dX9_appeal_6 : decode cX9_appeal 6 = .ok (.iload_n 3, 1) := by decide +kernel
theorem dX9_appeal_7 : decode cX9_appeal 7 = .ok (.if_icmp .ne 7, 3) := by decide +kernel
theorem dX9_appeal_10 : decode cX9_appeal 10 = .ok (.iconst 2, 1) := by decide +kernel
theorem dX9_appeal_11 : decode cX9_appeal 11 = .ok (.goto 14, 3) := by decide +kernel
theorem dX9_appeal_14 : decode cX9_appeal 14 = .ok (.iload_n 2, 1) := by decide +kernel
theorem dX9_appeal_15 : decode cX9_appeal 15 = .ok (.iload 4, 2) := by decide +kernel
theorem dX9_appeal_17 : decode cX9_appeal 17 = .ok (.if_icmp .eq 7, 3) := by decide +kernel
theorem dX9_appeal_20 : decode cX9_appeal 20 = .ok (.iconst 1, 1) := by decide +kernel
theorem dX9_appeal_21 : decode cX9_appeal 21 = .ok (.goto 4, 3) := by decide +kernel
theorem dX9_appeal_24 : decode cX9_appeal 24 = .ok (.iconst 0, 1) := by decide +kernel
theorem dX9_appeal_25 : decode cX9_appeal 25 = .ok (.ireturn, 1) := by decide +kernel
theorem dX9_counted_0 : decode cX9_counted 0 = .ok (.aload_n 0, 1) := by decide +kernel
theorem dX9_counted_1 : decode cX9_counted 1 = .ok (.iload_n 1, 1) := by decide +kernel
theorem dX9_counted_2 : decode cX9_counted 2 = .ok (.iconst (-1), 1) := by decide +kernel
theorem dX9_counted_3 : decode cX9_counted 3 = .ok (.if_icmp .lt 9, 3) := by decide +kernel
theorem dX9_counted_6 : decode cX9_counted 6 = .ok (.iload_n 1, 1) := by decide +kernel
theorem dX9_counted_7 : decode cX9_counted 7 = .ok (.bipush 9, 2) := by decide +kernel
theorem dX9_counted_9 : decode cX9_counted 9 = .ok (.if_icmp .le 7, 3) := by decide +kernel
theorem dX9_counted_12 : decode cX9_counted 12 = .ok (.iconst 1, 1) := by decide +kernel
theorem dX9_counted_13 : decode cX9_counted 13 = .ok (.goto 4, 3) := by decide +kernel
theorem dX9_counted_16 : decode cX9_counted 16 = .ok (.iconst 0, 1) := by decide +kernel
theorem dX9_counted_17 : decode cX9_counted 17 = .ok (.putfield 89, 3) := by decide +kernel
theorem dX9_counted_20 : decode cX9_counted 20 = .ok (.aload_n 0, 1) := by decide +kernel
theorem dX9_counted_21 : decode cX9_counted 21 = .ok (.getfield 89, 3) := by decide +kernel
theorem dX9_counted_24 : decode cX9_counted 24 = .ok (.ifCond .le 7, 3) := by decide +kernel
theorem dX9_counted_27 : decode cX9_counted 27 = .ok (.lconst 0, 1) := by decide +kernel
theorem dX9_counted_28 : decode cX9_counted 28 = .ok (.goto 11, 3) := by decide +kernel
theorem dX9_counted_31 : decode cX9_counted 31 = .ok (.aload_n 0, 1) := by decide +kernel
theorem dX9_counted_32 : decode cX9_counted 32 = .ok (.getfield 74, 3) := by decide +kernel
theorem dX9_counted_35 : decode cX9_counted 35 = .ok (.iload_n 1, 1) := by decide +kernel
theorem dX9_counted_36 : decode cX9_counted 36 = .ok (.iconst 1, 1) := by decide +kernel
theorem dX9_counted_37 : decode cX9_counted 37 = .ok (.iadd, 1) := by decide +kernel
theorem dX9_counted_38 : decode cX9_counted 38 = .ok (.laload, 1) := by decide +kernel
theorem dX9_counted_39 : decode cX9_counted 39 = .ok (.lreturn, 1) := by decide +kernel
theorem dX9_machine_0 : decode cX9_machine 0 = .ok (.aload_n 0, 1) := by decide +kernel
theorem dX9_machine_1 : decode cX9_machine 1 = .ok (.iload_n 1, 1) := by decide +kernel
theorem dX9_machine_2 : decode cX9_machine 2 = .ok (.invokestatic 276, 3) := by decide +kernel
theorem dX9_machine_5 : decode cX9_machine 5 = .ok (.ifCond .eq 14, 3) := by decide +kernel
theorem dX9_machine_8 : decode cX9_machine 8 = .ok (.iload_n 2, 1) := by decide +kernel
theorem dX9_machine_9 : decode cX9_machine 9 = .ok (.invokestatic 276, 3) := by decide +kernel
theorem dX9_machine_12 : decode cX9_machine 12 = .ok (.ifCond .eq 7, 3) := by decide +kernel
theorem dX9_machine_15 : decode cX9_machine 15 = .ok (.iconst 0, 1) := by decide +kernel
theorem dX9_machine_16 : decode cX9_machine 16 = .ok (.goto 4, 3) := by decide +kernel
theorem dX9_machine_19 : decode cX9_machine 19 = .ok (.iconst 1, 1) := by decide +kernel
theorem dX9_machine_20 : decode cX9_machine 20 = .ok (.putfield 89, 3) := by decide +kernel
theorem dX9_machine_23 : decode cX9_machine 23 = .ok (.aload_n 0, 1) := by decide +kernel
theorem dX9_machine_24 : decode cX9_machine 24 = .ok (.getfield 89, 3) := by decide +kernel
theorem dX9_machine_27 : decode cX9_machine 27 = .ok (.ifCond .le 5, 3) := by decide +kernel
theorem dX9_machine_30 : decode cX9_machine 30 = .ok (.iconst 0, 1) := by decide +kernel
theorem dX9_machine_31 : decode cX9_machine 31 = .ok (.ireturn, 1) := by decide +kernel
theorem dX9_machine_32 : decode cX9_machine 32 = .ok (.aload_n 0, 1) := by decide +kernel
theorem dX9_machine_33 : decode cX9_machine 33 = .ok (.getfield 77, 3) := by decide +kernel
theorem dX9_machine_36 : decode cX9_machine 36 = .ok (.bipush 10, 2) := by decide +kernel
theorem dX9_machine_38 : decode cX9_machine 38 = .ok (.iload_n 1, 1) := by decide +kernel
theorem dX9_machine_39 : decode cX9_machine 39 = .ok (.imul, 1) := by decide +kernel
theorem dX9_machine_40 : decode cX9_machine 40 = .ok (.iload_n 2, 1) := by decide +kernel
theorem dX9_machine_41 : decode cX9_machine 41 = .ok (.iadd, 1) := by decide +kernel
theorem dX9_machine_42 : decode cX9_machine 42 = .ok (.dup2, 1) := by decide +kernel
theorem dX9_machine_43 : decode cX9_machine 43 = .ok (.iaload, 1) := by decide +kernel
theorem dX9_machine_44 : decode cX9_machine 44 = .ok (.iconst 1, 1) := by decide +kernel
theorem dX9_machine_45 : decode cX9_machine 45 = .ok (.iadd, 1) := by decide +kernel
theorem dX9_machine_46 : decode cX9_machine 46 = .ok (.iastore, 1) := by decide +kernel
theorem dX9_machine_47 : decode cX9_machine 47 = .ok (.aload_n 0, 1) := by decide +kernel
theorem dX9_machine_48 : decode cX9_machine 48 = .ok (.getfield 77, 3) := by decide +kernel
theorem dX9_machine_51 : decode cX9_machine 51 = .ok (.bipush 10, 2) := by decide +kernel
theorem dX9_machine_53 : decode cX9_machine 53 = .ok (.iload_n 1, 1) := by decide +kernel
theorem dX9_machine_54 : decode cX9_machine 54 = .ok (.imul, 1) := by decide +kernel
theorem dX9_machine_55 : decode cX9_machine 55 = .ok (.iload_n 2, 1) := by decide +kernel
theorem dX9_machine_56 : decode cX9_machine 56 = .ok (.iadd, 1) := by decide +kernel
theorem dX9_machine_57 : decode cX9_machine 57 = .ok (.iaload, 1) := by decide +kernel
theorem dX9_machine_58 : decode cX9_machine 58 = .ok (.ireturn, 1) := by decide +kernel
