theorem dX9_thrown_0 : decode cX9_thrown 0 = .ok (.aload_n 0, 1) := by decide +kernel
theorem dX9_thrown_1 : decode cX9_thrown 1 = .ok (.getfield 1, 3) := by decide +kernel
theorem dX9_thrown_4 : decode cX9_thrown 4 = .ok (.ireturn, 1) := by decide +kernel
theorem dX9_throwsIf_0 : decode cX9_throwsIf 0 = .ok (.aload_n 0, 1) := by decide +kernel
theorem dX9_throwsIf_1 : decode cX9_throwsIf 1 = .ok (.iload_n 1, 1) := by decide +kernel
theorem dX9_throwsIf_2 : decode cX9_throwsIf 2 = .ok (.ifCond .eq 7, 3) := by decide +kernel
theorem dX9_throwsIf_5 : decode cX9_throwsIf 5 = .ok (.iconst 1, 1) := by decide +kernel
theorem dX9_throwsIf_6 : decode cX9_throwsIf 6 = .ok (.goto 4, 3) := by decide +kernel
theorem dX9_throwsIf_9 : decode cX9_throwsIf 9 = .ok (.iconst 0, 1) := by decide +kernel
theorem dX9_throwsIf_10 : decode cX9_throwsIf 10 = .ok (.putfield 1, 3) := by decide +kernel
theorem dX9_throwsIf_13 : decode cX9_throwsIf 13 = .ok (.iload_n 1, 1) := by decide +kernel
theorem dX9_throwsIf_14 : decode cX9_throwsIf 14 = .ok (.ireturn, 1) := by decide +kernel
theorem dX9_feed_0 : decode cX9_feed 0 = .ok (.aload_n 0, 1) := by decide +kernel
theorem dX9_feed_1 : decode cX9_feed 1 = .ok (.iconst 0, 1) := by decide +kernel
theorem dX9_feed_2 : decode cX9_feed 2 = .ok (.putfield 1, 3) := by decide +kernel
theorem dX9_feed_5 : decode cX9_feed 5 = .ok (.aload_n 0, 1) := by decide +kernel
theorem dX9_feed_6 : decode cX9_feed 6 = .ok (.getfield 7, 3) := by decide +kernel
theorem dX9_feed_9 : decode cX9_feed 9 = .ok (.bipush 20, 2) := by decide +kernel
theorem dX9_feed_11 : decode cX9_feed 11 = .ok (.iadd, 1) := by decide +kernel
theorem dX9_feed_12 : decode cX9_feed 12 = .ok (.sipush 160, 3) := by decide +kernel
theorem dX9_feed_15 : decode cX9_feed 15 = .ok (.if_icmp .le 5, 3) := by decide +kernel
theorem dX9_feed_18 : decode cX9_feed 18 = .ok (.iconst (-1), 1) := by decide +kernel
theorem dX9_feed_19 : decode cX9_feed 19 = .ok (.ireturn, 1) := by decide +kernel
theorem dX9_feed_20 : decode cX9_feed 20 = .ok (.aload_n 0, 1) := by decide +kernel
theorem dX9_feed_21 : decode cX9_feed 21 = .ok (.iload_n 1, 1) := by decide +kernel
theorem dX9_feed_22 : decode cX9_feed 22 = .ok (.invokevirtual 10, 3) := by decide +kernel
theorem dX9_feed_25 : decode cX9_feed 25 = .ok (.aload_n 0, 1) := by decide +kernel
theorem dX9_feed_26 : decode cX9_feed 26 = .ok (.iload_n 2, 1) := by decide +kernel
theorem dX9_feed_27 : decode cX9_feed 27 = .ok (.invokevirtual 10, 3) := by decide +kernel
theorem dX9_feed_30 : decode cX9_feed 30 = .ok (.aload_n 0, 1) := by decide +kernel
theorem dX9_feed_31 : decode cX9_feed 31 = .ok (.iload_n 3, 1) := by decide +kernel
theorem dX9_feed_32 : decode cX9_feed 32 = .ok (.invokevirtual 10, 3) := by decide +kernel
theorem dX9_feed_35 : decode cX9_feed 35 = .ok (.aload_n 0, 1) := by decide +kernel
theorem dX9_feed_36 : decode cX9_feed 36 = .ok (.iload 4, 2) := by decide +kernel
theorem dX9_feed_38 : decode cX9_feed 38 = .ok (.invokevirtual 10, 3) := by decide +kernel
theorem dX9_feed_41 : decode cX9_feed 41 = .ok (.aload_n 0, 1) := by decide +kernel
theorem dX9_feed_42 : decode cX9_feed 42 = .ok (.iload 5, 2) := by decide +kernel
theorem dX9_feed_44 : decode cX9_feed 44 = .ok (.invokevirtual 10, 3) := by decide +kernel
theorem dX9_feed_47 : decode cX9_feed 47 = .ok (.aload_n 0, 1) := by decide +kernel
theorem dX9_feed_48 : decode cX9_feed 48 = .ok (.getfield 7, 3) := by decide +kernel
theorem dX9_feed_51 : decode cX9_feed 51 = .ok (.ireturn, 1) := by decide +kernel
theorem dX9_four_0 : decode cX9_four 0 = .ok (.bipush 24, 2) := by decide +kernel
theorem dX9_four_2 : decode cX9_four 2 = .ok (.istore_n 2, 1) := by decide +kernel
theorem dX9_four_3 : decode cX9_four 3 = .ok (.iload_n 2, 1) := by decide +kernel
theorem dX9_four_4 : decode cX9_four 4 = .ok (.ifCond .lt 32, 3) := by decide +kernel
theorem dX9_four_7 : decode cX9_four 7 = .ok (.aload_n 0, 1) := by decide +kernel
theorem dX9_four_8 : decode cX9_four 8 = .ok (.getfield 14, 3) := by decide +kernel
theorem dX9_four_11 : decode cX9_four 11 = .ok (.aload_n 0, 1) := by decide +kernel
theorem dX9_four_12 : decode cX9_four 12 = .ok (.getfield 7, 3) := by decide +kernel
theorem dX9_four_15 : decode cX9_four 15 = .ok (.iload_n 1, 1) := by decide +kernel
theorem dX9_four_16 : decode cX9_four 16 = .ok (.iload_n 2, 1) := by decide +kernel
theorem dX9_four_17 : decode cX9_four 17 = .ok (.ishr, 1) := by decide +kernel
theorem dX9_four_18 : decode cX9_four 18 = .ok (.i2b, 1) := by decide +kernel
theorem dX9_four_19 : decode cX9_four 19 = .ok (.bastore, 1) := by decide +kernel
theorem dX9_four_20 : decode cX9_four 20 = .ok (.aload_n 0, 1) := by decide +kernel
theorem dX9_four_21 : decode cX9_four 21 = .ok (.dup, 1) := by decide +kernel
theorem dX9_four_22 : decode cX9_four 22 = .ok (.getfield 7, 3) := by decide +kernel
theorem dX9_four_25 : decode cX9_four 25 = .ok (.iconst 1, 1) := by decide +kernel
theorem dX9_four_26 : decode cX9_four 26 = .ok (.iadd, 1) := by decide +kernel
theorem dX9_four_27 : decode cX9_four 27 = .ok (.putfield 7, 3) := by decide +kernel
theorem dX9_four_30 : decode cX9_four 30 = .ok (.iinc 2 (-8), 3) := by decide +kernel
theorem dX9_four_33 : decode cX9_four 33 = .ok (.goto (-30), 3) := by decide +kernel
theorem dX9_four_36 : decode cX9_four 36 = .ok (.return_, 1) := by decide +kernel
theorem dX9_end_0 : decode cX9_end 0 = .ok (.aload_n 0, 1) := by decide +kernel
theorem dX9_end_1 : decode cX9_end 1 = .ok (.iconst 0, 1) := by decide +kernel
theorem dX9_end_2 : decode cX9_end 2 = .ok (.putfield 1, 3) := by decide +kernel
theorem dX9_end_5 : decode cX9_end 5 = .ok (.iload_n 1, 1) := by decide +kernel
theorem dX9_end_6 : decode cX9_end 6 = .ok (.ifCond .lt 11, 3) := by decide +kernel
theorem dX9_end_9 : decode cX9_end 9 = .ok (.iload_n 1, 1) := by decide +kernel
theorem dX9_end_10 : decode cX9_end 10 = .ok (.aload_n 0, 1) := by decide +kernel
theorem dX9_end_11 : decode cX9_end 11 = .ok (.getfield 7, 3) := by decide +kernel
theorem dX9_end_14 : decode cX9_end 14 = .ok (.if_icmp .le 5, 3) := by decide +kernel
theorem dX9_end_17 : decode cX9_end 17 = .ok (.iconst 0, 1) := by decide +kernel
theorem dX9_end_18 : decode cX9_end 18 = .ok (.ireturn, 1) := by decide +kernel
theorem dX9_end_19 : decode cX9_end 19 = .ok (.aload_n 0, 1) := by decide +kernel
theorem dX9_end_20 : decode cX9_end 20 = .ok (.iload_n 1, 1) := by decide +kernel
theorem dX9_end_21 : decode cX9_end 21 = .ok (.putfield 7, 3) := by decide +kernel
theorem dX9_end_24 : decode cX9_end 24 = .ok (.iconst 1, 1) := by decide +kernel
theorem dX9_end_25 : decode cX9_end 25 = .ok (.ireturn, 1) := by decide +kernel
theorem dX9_taken_0 : decode cX9_taken 0 = .ok (.aload_n 0, 1) := by decide +kernel
theorem dX9_taken_1 : decode cX9_taken 1 = .ok (.aload_n 0, 1) := by decide +kernel
theorem dX9_taken_2 : decode cX9_taken 2 = .ok (.getfield 7, 3) := by decide +kernel
theorem dX9_taken_5 : decode cX9_taken 5 = .ok (.putfield 18, 3) := by decide +kernel
theorem dX9_taken_8 : decode cX9_taken 8 = .ok (.aload_n 0, 1) := by decide +kernel
theorem dX9_taken_9 : decode cX9_taken 9 = .ok (.iconst 0, 1) := by decide +kernel
theorem dX9_taken_10 : decode cX9_taken 10 = .ok (.putfield 7, 3) := by decide +kernel
theorem dX9_taken_13 : decode cX9_taken 13 = .ok (.return_, 1) := by decide +kernel
theorem dX9_init_0 : decode cX9_init 0 = .ok (.aload_n 0, 1) := by decide +kernel
theorem dX9_init_1 : decode cX9_init 1 = .ok (.invokespecial 21, 3) := by decide +kernel
theorem dX9_init_4 : decode cX9_init 4 = .ok (.aload_n 0, 1) := by decide +kernel
theorem dX9_init_5 : decode cX9_init 5 = .ok (.sipush 160, 3) := by decide +kernel
theorem dX9_init_8 : decode cX9_init 8 = .ok (.newarray .byte, 2) := by decide +kernel
theorem dX9_init_10 : decode cX9_init 10 = .ok (.putfield 14, 3) := by decide +kernel
theorem dX9_init_13 : decode cX9_init 13 = .ok (.aload_n 0, 1) := by decide +kernel
theorem dX9_init_14 : decode cX9_init 14 = .ok (.sipush 144, 3) := by decide +kernel
theorem dX9_init_17 : decode cX9_init 17 = .ok (.newarray .int, 2) := by decide +kernel
theorem dX9_init_19 : decode cX9_init 19 = .ok (.putfield 27, 3) := by decide +kernel
theorem dX9_init_22 : decode cX9_init 22 = .ok (.aload_n 0, 1) := by decide +kernel
theorem dX9_init_23 : decode cX9_init 23 = .ok (.sipush 144, 3) := by decide +kernel
theorem dX9_init_26 : decode cX9_init 26 = .ok (.newarray .int, 2) := by decide +kernel
theorem dX9_init_28 : decode cX9_init 28 = .ok (.putfield 31, 3) := by decide +kernel
theorem dX9_init_31 : decode cX9_init 31 = .ok (.aload_n 0, 1) := by decide +kernel
theorem dX9_init_32 : decode cX9_init 32 = .ok (.sipush 144, 3) := by decide +kernel
theorem dX9_init_35 : decode cX9_init 35 = .ok (.newarray .int, 2) := by decide +kernel
theorem dX9_init_37 : decode cX9_init 37 = .ok (.putfield 34, 3) := by decide +kernel
theorem dX9_init_40 : decode cX9_init 40 = .ok (.aload_n 0, 1) := by decide +kernel
theorem dX9_init_41 : decode cX9_init 41 = .ok (.sipush 144, 3) := by decide +kernel
theorem dX9_init_44 : decode cX9_init 44 = .ok (.newarray .int, 2) := by decide +kernel
theorem dX9_init_46 : decode cX9_init 46 = .ok (.putfield 37, 3) := by decide +kernel
theorem dX9_init_49 : decode cX9_init 49 = .ok (.aload_n 0, 1) := by decide +kernel
theorem dX9_init_50 : decode cX9_init 50 = .ok (.sipush 144, 3) := by decide +kernel
theorem dX9_init_53 : decode cX9_init 53 = .ok (.newarray .int, 2) := by decide +kernel
theorem dX9_init_55 : decode cX9_init 55 = .ok (.putfield 40, 3) := by decide +kernel
theorem dX9_init_58 : decode cX9_init 58 = .ok (.aload_n 0, 1) := by decide +kernel
theorem dX9_init_59 : decode cX9_init 59 = .ok (.iconst 2, 1) := by decide +kernel
theorem dX9_init_60 : decode cX9_init 60 = .ok (.putfield 43, 3) := by decide +kernel
theorem dX9_init_63 : decode cX9_init 63 = .ok (.aload_n 0, 1) := by decide +kernel
theorem dX9_init_64 : decode cX9_init 64 = .ok (.iconst 2, 1) := by decide +kernel
theorem dX9_init_65 : decode cX9_init 65 = .ok (.putfield 46, 3) := by decide +kernel
theorem dX9_init_68 : decode cX9_init 68 = .ok (.aload_n 0, 1) := by decide +kernel
theorem dX9_init_69 : decode cX9_init 69 = .ok (.iconst 1, 1) := by decide +kernel
theorem dX9_init_70 : decode cX9_init 70 = .ok (.putfield 49, 3) := by decide +kernel
theorem dX9_init_73 : decode cX9_init 73 = .ok (.aload_n 0, 1) := by decide +kernel
theorem dX9_init_74 : decode cX9_init 74 = .ok (.sipush 144, 3) := by decide +kernel
theorem dX9_init_77 : decode cX9_init 77 = .ok (.newarray .long, 2) := by decide +kernel
theorem dX9_init_79 : decode cX9_init 79 = .ok (.putfield 52, 3) := by decide +kernel
theorem dX9_init_82 : decode cX9_init 82 = .ok (.aload_n 0, 1) := by decide +kernel
theorem dX9_init_83 : decode cX9_init 83 = .ok (.sipush 144, 3) := by decide +kernel
theorem dX9_init_86 : decode cX9_init 86 = .ok (.newarray .long, 2) := by decide +kernel
theorem dX9_init_88 : decode cX9_init 88 = .ok (.putfield 56, 3) := by decide +kernel
theorem dX9_init_91 : decode cX9_init 91 = .ok (.aload_n 0, 1) := by decide +kernel
theorem dX9_init_92 : decode cX9_init 92 = .ok (.bipush 12, 2) := by decide +kernel
theorem dX9_init_94 : decode cX9_init 94 = .ok (.newarray .int, 2) := by decide +kernel
theorem dX9_init_96 : decode cX9_init 96 = .ok (.putfield 59, 3) := by decide +kernel
theorem dX9_init_99 : decode cX9_init 99 = .ok (.aload_n 0, 1) := by decide +kernel
theorem dX9_init_100 : decode cX9_init 100 = .ok (.bipush 12, 2) := by decide +kernel
theorem dX9_init_102 : decode cX9_init 102 = .ok (.newarray .int, 2) := by decide +kernel
theorem dX9_init_104 : decode cX9_init 104 = .ok (.putfield 62, 3) := by decide +kernel
theorem dX9_init_107 : decode cX9_init 107 = .ok (.aload_n 0, 1) := by decide +kernel
theorem dX9_init_108 : decode cX9_init 108 = .ok (.bipush 40, 2) := by decide +kernel
theorem dX9_init_110 : decode cX9_init 110 = .ok (.newarray .int, 2) := by decide +kernel
theorem dX9_init_112 : decode cX9_init 112 = .ok (.putfield 65, 3) := by decide +kernel
theorem dX9_init_115 : decode cX9_init 115 = .ok (.aload_n 0, 1) := by decide +kernel
theorem dX9_init_116 : decode cX9_init 116 = .ok (.bipush 40, 2) := by decide +kernel
theorem dX9_init_118 : decode cX9_init 118 = .ok (.newarray .int, 2) := by decide +kernel
theorem dX9_init_120 : decode cX9_init 120 = .ok (.putfield 68, 3) := by decide +kernel
theorem dX9_init_123 : decode cX9_init 123 = .ok (.aload_n 0, 1) := by decide +kernel
theorem dX9_init_124 : decode cX9_init 124 = .ok (.sipush 144, 3) := by decide +kernel
theorem dX9_init_127 : decode cX9_init 127 = .ok (.newarray .int, 2) := by decide +kernel
theorem dX9_init_129 : decode cX9_init 129 = .ok (.putfield 71, 3) := by decide +kernel
theorem dX9_init_132 : decode cX9_init 132 = .ok (.aload_n 0, 1) := by decide +kernel
theorem dX9_init_133 : decode cX9_init 133 = .ok (.sipush 144, 3) := by decide +kernel
theorem dX9_init_136 : decode cX9_init 136 = .ok (.newarray .int, 2) := by decide +kernel
theorem dX9_init_138 : decode cX9_init 138 = .ok (.putfield 74, 3) := by decide +kernel
theorem dX9_init_141 : decode cX9_init 141 = .ok (.aload_n 0, 1) := by decide +kernel
theorem dX9_init_142 : decode cX9_init 142 = .ok (.sipush 1872, 3) := by decide +kernel
theorem dX9_init_145 : decode cX9_init 145 = .ok (.newarray .int, 2) := by decide +kernel
theorem dX9_init_147 : decode cX9_init 147 = .ok (.putfield 77, 3) := by decide +kernel
theorem dX9_init_150 : decode cX9_init 150 = .ok (.aload_n 0, 1) := by decide +kernel
theorem dX9_init_151 : decode cX9_init 151 = .ok (.sipush 1872, 3) := by decide +kernel
theorem dX9_init_154 : decode cX9_init 154 = .ok (.newarray .int, 2) := by decide +kernel
theorem dX9_init_156 : decode cX9_init 156 = .ok (.putfield 80, 3) := by decide +kernel
theorem dX9_init_159 : decode cX9_init 159 = .ok (.aload_n 0, 1) := by decide +kernel
theorem dX9_init_160 : decode cX9_init 160 = .ok (.bipush 13, 2) := by decide +kernel
theorem dX9_init_162 : decode cX9_init 162 = .ok (.newarray .int, 2) := by decide +kernel
theorem dX9_init_164 : decode cX9_init 164 = .ok (.putfield 83, 3) := by decide +kernel
theorem dX9_init_167 : decode cX9_init 167 = .ok (.aload_n 0, 1) := by decide +kernel
theorem dX9_init_168 : decode cX9_init 168 = .ok (.sipush 144, 3) := by decide +kernel
theorem dX9_init_171 : decode cX9_init 171 = .ok (.newarray .long, 2) := by decide +kernel
theorem dX9_init_173 : decode cX9_init 173 = .ok (.putfield 86, 3) := by decide +kernel
theorem dX9_init_176 : decode cX9_init 176 = .ok (.aload_n 0, 1) := by decide +kernel
theorem dX9_init_177 : decode cX9_init 177 = .ok (.sipush 144, 3) := by decide +kernel
theorem dX9_init_180 : decode cX9_init 180 = .ok (.newarray .long, 2) := by decide +kernel
theorem dX9_init_182 : decode cX9_init 182 = .ok (.putfield 89, 3) := by decide +kernel
theorem dX9_init_185 : decode cX9_init 185 = .ok (.aload_n 0, 1) := by decide +kernel
theorem dX9_init_186 : decode cX9_init 186 = .ok (.sipush 144, 3) := by decide +kernel
theorem dX9_init_189 : decode cX9_init 189 = .ok (.newarray .int, 2) := by decide +kernel
theorem dX9_init_191 : decode cX9_init 191 = .ok (.putfield 92, 3) := by decide +kernel
theorem dX9_init_194 : decode cX9_init 194 = .ok (.aload_n 0, 1) := by decide +kernel
theorem dX9_init_195 : decode cX9_init 195 = .ok (.sipush 144, 3) := by decide +kernel
theorem dX9_init_198 : decode cX9_init 198 = .ok (.newarray .boolean, 2) := by decide +kernel
theorem dX9_init_200 : decode cX9_init 200 = .ok (.putfield 95, 3) := by decide +kernel
theorem dX9_init_203 : decode cX9_init 203 = .ok (.aload_n 0, 1) := by decide +kernel
theorem dX9_init_204 : decode cX9_init 204 = .ok (.sipush 20736, 3) := by decide +kernel
theorem dX9_init_207 : decode cX9_init 207 = .ok (.newarray .boolean, 2) := by decide +kernel
theorem dX9_init_209 : decode cX9_init 209 = .ok (.putfield 99, 3) := by decide +kernel
theorem dX9_init_212 : decode cX9_init 212 = .ok (.aload_n 0, 1) := by decide +kernel
theorem dX9_init_213 : decode cX9_init 213 = .ok (.iconst (-1), 1) := by decide +kernel
theorem dX9_init_214 : decode cX9_init 214 = .ok (.putfield 102, 3) := by decide +kernel
theorem dX9_init_217 : decode cX9_init 217 = .ok (.iconst 0, 1) := by decide +kernel
theorem dX9_init_218 : decode cX9_init 218 = .ok (.istore_n 1, 1) := by decide +kernel
theorem dX9_init_219 : decode cX9_init 219 = .ok (.iload_n 1, 1) := by decide +kernel
theorem dX9_init_220 : decode cX9_init 220 = .ok (.sipush 144, 3) := by decide +kernel
theorem dX9_init_223 : decode cX9_init 223 = .ok (.if_icmp .ge 18, 3) := by decide +kernel
theorem dX9_init_226 : decode cX9_init 226 = .ok (.aload_n 0, 1) := by decide +kernel
theorem dX9_init_227 : decode cX9_init 227 = .ok (.getfield 27, 3) := by decide +kernel
theorem dX9_init_230 : decode cX9_init 230 = .ok (.iload_n 1, 1) := by decide +kernel
theorem dX9_init_231 : decode cX9_init 231 = .ok (.sipush 255, 3) := by decide +kernel
theorem dX9_init_234 : decode cX9_init 234 = .ok (.iastore, 1) := by decide +kernel
theorem dX9_init_235 : decode cX9_init 235 = .ok (.iinc 1 1, 3) := by decide +kernel
theorem dX9_init_238 : decode cX9_init 238 = .ok (.goto (-19), 3) := by decide +kernel
theorem dX9_init_241 : decode cX9_init 241 = .ok (.aload_n 0, 1) := by decide +kernel
theorem dX9_init_242 : decode cX9_init 242 = .ok (.iconst (-1), 1) := by decide +kernel
theorem dX9_init_243 : decode cX9_init 243 = .ok (.invokevirtual 105, 3) := by decide +kernel
theorem dX9_init_246 : decode cX9_init 246 = .ok (.return_, 1) := by decide +kernel
theorem dX9_cells_0 : decode cX9_cells 0 = .ok (.aload_n 0, 1) := by decide +kernel
theorem dX9_cells_1 : decode cX9_cells 1 = .ok (.getfield 43, 3) := by decide +kernel
theorem dX9_cells_4 : decode cX9_cells 4 = .ok (.aload_n 0, 1) := by decide +kernel
theorem dX9_cells_5 : decode cX9_cells 5 = .ok (.getfield 46, 3) := by decide +kernel
theorem dX9_cells_8 : decode cX9_cells 8 = .ok (.imul, 1) := by decide +kernel
theorem dX9_cells_9 : decode cX9_cells 9 = .ok (.ireturn, 1) := by decide +kernel
theorem dX9_isCell_0 : decode cX9_isCell 0 = .ok (.iload_n 1, 1) := by decide +kernel
theorem dX9_isCell_1 : decode cX9_isCell 1 = .ok (.ifCond .lt 15, 3) := by decide +kernel
theorem dX9_isCell_4 : decode cX9_isCell 4 = .ok (.iload_n 1, 1) := by decide +kernel
theorem dX9_isCell_5 : decode cX9_isCell 5 = .ok (.aload_n 0, 1) := by decide +kernel
theorem dX9_isCell_6 : decode cX9_isCell 6 = .ok (.invokevirtual 108, 3) := by decide +kernel
theorem dX9_isCell_9 : decode cX9_isCell 9 = .ok (.if_icmp .ge 7, 3) := by decide +kernel
theorem dX9_isCell_12 : decode cX9_isCell 12 = .ok (.iconst 1, 1) := by decide +kernel
theorem dX9_isCell_13 : decode cX9_isCell 13 = .ok (.goto 4, 3) := by decide +kernel
theorem dX9_isCell_16 : decode cX9_isCell 16 = .ok (.iconst 0, 1) := by decide +kernel
theorem dX9_isCell_17 : decode cX9_isCell 17 = .ok (.ireturn, 1) := by decide +kernel
theorem dX9_map_0 : decode cX9_map 0 = .ok (.aload_n 0, 1) := by decide +kernel
theorem dX9_map_1 : decode cX9_map 1 = .ok (.iconst 0, 1) := by decide +kernel
theorem dX9_map_2 : decode cX9_map 2 = .ok (.putfield 1, 3) := by decide +kernel
theorem dX9_map_5 : decode cX9_map 5 = .ok (.aload_n 0, 1) := by decide +kernel
theorem dX9_map_6 : decode cX9_map 6 = .ok (.invokevirtual 112, 3) := by decide +kernel
theorem dX9_map_9 : decode cX9_map 9 = .ok (.iload_n 1, 1) := by decide +kernel
theorem dX9_map_10 : decode cX9_map 10 = .ok (.iconst 2, 1) := by decide +kernel
theorem dX9_map_11 : decode cX9_map 11 = .ok (.if_icmp .lt 30, 3) := by decide +kernel
theorem dX9_map_14 : decode cX9_map 14 = .ok (.iload_n 1, 1) := by decide +kernel
theorem dX9_map_15 : decode cX9_map 15 = .ok (.bipush 12, 2) := by decide +kernel
theorem dX9_map_17 : decode cX9_map 17 = .ok (.if_icmp .gt 24, 3) := by decide +kernel
theorem dX9_map_20 : decode cX9_map 20 = .ok (.iload_n 2, 1) := by decide +kernel
theorem dX9_map_21 : decode cX9_map 21 = .ok (.iconst 2, 1) := by decide +kernel
theorem dX9_map_22 : decode cX9_map 22 = .ok (.if_icmp .lt 19, 3) := by decide +kernel
theorem dX9_map_25 : decode cX9_map 25 = .ok (.iload_n 2, 1) := by decide +kernel
theorem dX9_map_26 : decode cX9_map 26 = .ok (.bipush 12, 2) := by decide +kernel
theorem dX9_map_28 : decode cX9_map 28 = .ok (.if_icmp .gt 13, 3) := by decide +kernel
theorem dX9_map_31 : decode cX9_map 31 = .ok (.aload_n 0, 1) := by decide +kernel
theorem dX9_map_32 : decode cX9_map 32 = .ok (.getfield 18, 3) := by decide +kernel
theorem dX9_map_35 : decode cX9_map 35 = .ok (.iload_n 1, 1) := by decide +kernel
theorem dX9_map_36 : decode cX9_map 36 = .ok (.iload_n 2, 1) := by decide +kernel
theorem dX9_map_37 : decode cX9_map 37 = .ok (.imul, 1) := by decide +kernel
theorem dX9_map_38 : decode cX9_map 38 = .ok (.if_icmp .eq 5, 3) := by decide +kernel
theorem dX9_map_41 : decode cX9_map 41 = .ok (.iconst 0, 1) := by decide +kernel
theorem dX9_map_42 : decode cX9_map 42 = .ok (.ireturn, 1) := by decide +kernel
theorem dX9_map_43 : decode cX9_map 43 = .ok (.iconst 0, 1) := by decide +kernel
theorem dX9_map_44 : decode cX9_map 44 = .ok (.istore_n 3, 1) := by decide +kernel
theorem dX9_map_45 : decode cX9_map 45 = .ok (.iload_n 3, 1) := by decide +kernel
theorem dX9_map_46 : decode cX9_map 46 = .ok (.aload_n 0, 1) := by decide +kernel
theorem dX9_map_47 : decode cX9_map 47 = .ok (.getfield 18, 3) := by decide +kernel
theorem dX9_map_50 : decode cX9_map 50 = .ok (.if_icmp .ge 43, 3) := by decide +kernel
theorem dX9_map_53 : decode cX9_map 53 = .ok (.aload_n 0, 1) := by decide +kernel
theorem dX9_map_54 : decode cX9_map 54 = .ok (.getfield 14, 3) := by decide +kernel
theorem dX9_map_57 : decode cX9_map 57 = .ok (.iload_n 3, 1) := by decide +kernel
theorem dX9_map_58 : decode cX9_map 58 = .ok (.baload, 1) := by decide +kernel
theorem dX9_map_59 : decode cX9_map 59 = .ok (.sipush 255, 3) := by decide +kernel
theorem dX9_map_62 : decode cX9_map 62 = .ok (.iand, 1) := by decide +kernel
theorem dX9_map_63 : decode cX9_map 63 = .ok (.sipush 250, 3) := by decide +kernel
theorem dX9_map_66 : decode cX9_map 66 = .ok (.if_icmp .le 21, 3) := by decide +kernel
theorem dX9_map_69 : decode cX9_map 69 = .ok (.aload_n 0, 1) := by decide +kernel
theorem dX9_map_70 : decode cX9_map 70 = .ok (.getfield 14, 3) := by decide +kernel
theorem dX9_map_73 : decode cX9_map 73 = .ok (.iload_n 3, 1) := by decide +kernel
theorem dX9_map_74 : decode cX9_map 74 = .ok (.baload, 1) := by decide +kernel
theorem dX9_map_75 : decode cX9_map 75 = .ok (.sipush 255, 3) := by decide +kernel
theorem dX9_map_78 : decode cX9_map 78 = .ok (.iand, 1) := by decide +kernel
theorem dX9_map_79 : decode cX9_map 79 = .ok (.sipush 255, 3) := by decide +kernel
theorem dX9_map_82 : decode cX9_map 82 = .ok (.if_icmp .eq 5, 3) := by decide +kernel
theorem dX9_map_85 : decode cX9_map 85 = .ok (.iconst 0, 1) := by decide +kernel
theorem dX9_map_86 : decode cX9_map 86 = .ok (.ireturn, 1) := by decide +kernel
theorem dX9_map_87 : decode cX9_map 87 = .ok (.iinc 3 1, 3) := by decide +kernel
theorem dX9_map_90 : decode cX9_map 90 = .ok (.goto (-45), 3) := by decide +kernel
theorem dX9_map_93 : decode cX9_map 93 = .ok (.aload_n 0, 1) := by decide +kernel
theorem dX9_map_94 : decode cX9_map 94 = .ok (.iload_n 1, 1) := by decide +kernel
theorem dX9_map_95 : decode cX9_map 95 = .ok (.putfield 43, 3) := by decide +kernel
theorem dX9_map_98 : decode cX9_map 98 = .ok (.aload_n 0, 1) := by decide +kernel
theorem dX9_map_99 : decode cX9_map 99 = .ok (.iload_n 2, 1) := by decide +kernel
theorem dX9_map_100 : decode cX9_map 100 = .ok (.putfield 46, 3) := by decide +kernel
theorem dX9_map_103 : decode cX9_map 103 = .ok (.iconst 0, 1) := by decide +kernel
theorem dX9_map_104 : decode cX9_map 104 = .ok (.istore_n 3, 1) := by decide +kernel
theorem dX9_map_105 : decode cX9_map 105 = .ok (.iload_n 3, 1) := by decide +kernel
theorem dX9_map_106 : decode cX9_map 106 = .ok (.aload_n 0, 1) := by decide +kernel
theorem dX9_map_107 : decode cX9_map 107 = .ok (.getfield 18, 3) := by decide +kernel
theorem dX9_map_110 : decode cX9_map 110 = .ok (.if_icmp .ge 32, 3) := by decide +kernel
theorem dX9_map_113 : decode cX9_map 113 = .ok (.aload_n 0, 1) := by decide +kernel
theorem dX9_map_114 : decode cX9_map 114 = .ok (.getfield 27, 3) := by decide +kernel
theorem dX9_map_117 : decode cX9_map 117 = .ok (.iload_n 3, 1) := by decide +kernel
theorem dX9_map_118 : decode cX9_map 118 = .ok (.aload_n 0, 1) := by decide +kernel
theorem dX9_map_119 : decode cX9_map 119 = .ok (.getfield 14, 3) := by decide +kernel
theorem dX9_map_122 : decode cX9_map 122 = .ok (.iload_n 3, 1) := by decide +kernel
theorem dX9_map_123 : decode cX9_map 123 = .ok (.baload, 1) := by decide +kernel
theorem dX9_map_124 : decode cX9_map 124 = .ok (.sipush 255, 3) := by decide +kernel
theorem dX9_map_127 : decode cX9_map 127 = .ok (.iand, 1) := by decide +kernel
theorem dX9_map_128 : decode cX9_map 128 = .ok (.iastore, 1) := by decide +kernel
theorem dX9_map_129 : decode cX9_map 129 = .ok (.aload_n 0, 1) := by decide +kernel
theorem dX9_map_130 : decode cX9_map 130 = .ok (.getfield 34, 3) := by decide +kernel
theorem dX9_map_133 : decode cX9_map 133 = .ok (.iload_n 3, 1) := by decide +kernel
theorem dX9_map_134 : decode cX9_map 134 = .ok (.iconst 0, 1) := by decide +kernel
theorem dX9_map_135 : decode cX9_map 135 = .ok (.iastore, 1) := by decide +kernel
theorem dX9_map_136 : decode cX9_map 136 = .ok (.iinc 3 1, 3) := by decide +kernel
theorem dX9_map_139 : decode cX9_map 139 = .ok (.goto (-34), 3) := by decide +kernel
theorem dX9_map_142 : decode cX9_map 142 = .ok (.aload_n 0, 1) := by decide +kernel
theorem dX9_map_143 : decode cX9_map 143 = .ok (.iconst 0, 1) := by decide +kernel
theorem dX9_map_144 : decode cX9_map 144 = .ok (.putfield 115, 3) := by decide +kernel
theorem dX9_map_147 : decode cX9_map 147 = .ok (.aload_n 0, 1) := by decide +kernel
theorem dX9_map_148 : decode cX9_map 148 = .ok (.iconst 0, 1) := by decide +kernel
theorem dX9_map_149 : decode cX9_map 149 = .ok (.putfield 118, 3) := by decide +kernel
theorem dX9_map_152 : decode cX9_map 152 = .ok (.aload_n 0, 1) := by decide +kernel
theorem dX9_map_153 : decode cX9_map 153 = .ok (.iconst (-1), 1) := by decide +kernel
theorem dX9_map_154 : decode cX9_map 154 = .ok (.invokevirtual 105, 3) := by decide +kernel
theorem dX9_map_157 : decode cX9_map 157 = .ok (.iconst 1, 1) := by decide +kernel
theorem dX9_map_158 : decode cX9_map 158 = .ok (.ireturn, 1) := by decide +kernel
theorem dX9_meter_0 : decode cX9_meter 0 = .ok (.aload_n 0, 1) := by decide +kernel
theorem dX9_meter_1 : decode cX9_meter 1 = .ok (.iconst 0, 1) := by decide +kernel
theorem dX9_meter_2 : decode cX9_meter 2 = .ok (.putfield 1, 3) := by decide +kernel
theorem dX9_meter_5 : decode cX9_meter 5 = .ok (.iload_n 1, 1) := by decide +kernel
theorem dX9_meter_6 : decode cX9_meter 6 = .ok (.ifCond .lt 28, 3) := by decide +kernel
theorem dX9_meter_9 : decode cX9_meter 9 = .ok (.iload_n 1, 1) := by decide +kernel
theorem dX9_meter_10 : decode cX9_meter 10 = .ok (.bipush 20, 2) := by decide +kernel
theorem dX9_meter_12 : decode cX9_meter 12 = .ok (.if_icmp .gt 22, 3) := by decide +kernel
theorem dX9_meter_15 : decode cX9_meter 15 = .ok (.iload_n 2, 1) := by decide +kernel
theorem dX9_meter_16 : decode cX9_meter 16 = .ok (.iconst 1, 1) := by decide +kernel
theorem dX9_meter_17 : decode cX9_meter 17 = .ok (.if_icmp .lt 17, 3) := by decide +kernel
theorem dX9_meter_20 : decode cX9_meter 20 = .ok (.iload_n 2, 1) := by decide +kernel
theorem dX9_meter_21 : decode cX9_meter 21 = .ok (.iconst 3, 1) := by decide +kernel
theorem dX9_meter_22 : decode cX9_meter 22 = .ok (.if_icmp .gt 12, 3) := by decide +kernel
theorem dX9_meter_25 : decode cX9_meter 25 = .ok (.iload_n 3, 1) := by decide +kernel
theorem dX9_meter_26 : decode cX9_meter 26 = .ok (.ifCond .lt 8, 3) := by decide +kernel
theorem dX9_meter_29 : decode cX9_meter 29 = .ok (.iload_n 3, 1) := by decide +kernel
theorem dX9_meter_30 : decode cX9_meter 30 = .ok (.iconst 1, 1) := by decide +kernel
theorem dX9_meter_31 : decode cX9_meter 31 = .ok (.if_icmp .le 5, 3) := by decide +kernel
theorem dX9_meter_34 : decode cX9_meter 34 = .ok (.iconst 0, 1) := by decide +kernel
theorem dX9_meter_35 : decode cX9_meter 35 = .ok (.ireturn, 1) := by decide +kernel
theorem dX9_meter_36 : decode cX9_meter 36 = .ok (.aload_n 0, 1) := by decide +kernel
theorem dX9_meter_37 : decode cX9_meter 37 = .ok (.iload_n 1, 1) := by decide +kernel
theorem dX9_meter_38 : decode cX9_meter 38 = .ok (.putfield 121, 3) := by decide +kernel
theorem dX9_meter_41 : decode cX9_meter 41 = .ok (.aload_n 0, 1) := by decide +kernel
theorem dX9_meter_42 : decode cX9_meter 42 = .ok (.iload_n 2, 1) := by decide +kernel
theorem dX9_meter_43 : decode cX9_meter 43 = .ok (.putfield 49, 3) := by decide +kernel
theorem dX9_meter_46 : decode cX9_meter 46 = .ok (.aload_n 0, 1) := by decide +kernel
theorem dX9_meter_47 : decode cX9_meter 47 = .ok (.iload_n 3, 1) := by decide +kernel
theorem dX9_meter_48 : decode cX9_meter 48 = .ok (.putfield 124, 3) := by decide +kernel
theorem dX9_meter_51 : decode cX9_meter 51 = .ok (.iconst 1, 1) := by decide +kernel
theorem dX9_meter_52 : decode cX9_meter 52 = .ok (.ireturn, 1) := by decide +kernel
theorem dX9_size_0 : decode cX9_size 0 = .ok (.iload_n 0, 1) := by decide +kernel
theorem dX9_size_1 : decode cX9_size 1 = .ok (.ifCond .ge 8, 3) := by decide +kernel
theorem dX9_size_4 : decode cX9_size 4 = .ok (.iload_n 0, 1) := by decide +kernel
theorem dX9_size_5 : decode cX9_size 5 = .ok (.ineg, 1) := by decide +kernel
theorem dX9_size_6 : decode cX9_size 6 = .ok (.goto 4, 3) := by decide +kernel
theorem dX9_size_9 : decode cX9_size 9 = .ok (.iload_n 0, 1) := by decide +kernel
theorem dX9_size_10 : decode cX9_size 10 = .ok (.ireturn, 1) := by decide +kernel
theorem dX9_fits_0 : decode cX9_fits 0 = .ok (.aload_n 0, 1) := by decide +kernel
theorem dX9_fits_1 : decode cX9_fits 1 = .ok (.getfield 27, 3) := by decide +kernel
theorem dX9_fits_4 : decode cX9_fits 4 = .ok (.iload_n 1, 1) := by decide +kernel
theorem dX9_fits_5 : decode cX9_fits 5 = .ok (.iaload, 1) := by decide +kernel
theorem dX9_fits_6 : decode cX9_fits 6 = .ok (.sipush 255, 3) := by decide +kernel
theorem dX9_fits_9 : decode cX9_fits 9 = .ok (.if_icmp .eq 21, 3) := by decide +kernel
theorem dX9_fits_12 : decode cX9_fits 12 = .ok (.aload_n 0, 1) := by decide +kernel
theorem dX9_fits_13 : decode cX9_fits 13 = .ok (.getfield 27, 3) := by decide +kernel
theorem dX9_fits_16 : decode cX9_fits 16 = .ok (.iload_n 1, 1) := by decide +kernel
theorem dX9_fits_17 : decode cX9_fits 17 = .ok (.iaload, 1) := by decide +kernel
theorem dX9_fits_18 : decode cX9_fits 18 = .ok (.iload_n 2, 1) := by decide +kernel
theorem dX9_fits_19 : decode cX9_fits 19 = .ok (.isub, 1) := by decide +kernel
theorem dX9_fits_20 : decode cX9_fits 20 = .ok (.invokestatic 127, 3) := by decide +kernel
theorem dX9_fits_23 : decode cX9_fits 23 = .ok (.aload_n 0, 1) := by decide +kernel
theorem dX9_fits_24 : decode cX9_fits 24 = .ok (.getfield 121, 3) := by decide +kernel
theorem dX9_fits_27 : decode cX9_fits 27 = .ok (.if_icmp .gt 7, 3) := by decide +kernel
theorem dX9_fits_30 : decode cX9_fits 30 = .ok (.iconst 1, 1) := by decide +kernel
theorem dX9_fits_31 : decode cX9_fits 31 = .ok (.goto 4, 3) := by decide +kernel
theorem dX9_fits_34 : decode cX9_fits 34 = .ok (.iconst 0, 1) := by decide +kernel
theorem dX9_fits_35 : decode cX9_fits 35 = .ok (.ireturn, 1) := by decide +kernel
theorem dX9_fly_0 : decode cX9_fly 0 = .ok (.iconst 0, 1) := by decide +kernel
theorem dX9_fly_1 : decode cX9_fly 1 = .ok (.istore_n 2, 1) := by decide +kernel
theorem dX9_fly_2 : decode cX9_fly 2 = .ok (.iload_n 2, 1) := by decide +kernel
theorem dX9_fly_3 : decode cX9_fly 3 = .ok (.sipush 144, 3) := by decide +kernel
theorem dX9_fly_6 : decode cX9_fly 6 = .ok (.if_icmp .ge 38, 3) := by decide +kernel
theorem dX9_fly_9 : decode cX9_fly 9 = .ok (.aload_n 0, 1) := by decide +kernel
theorem dX9_fly_10 : decode cX9_fly 10 = .ok (.getfield 52, 3) := by decide +kernel
theorem dX9_fly_13 : decode cX9_fly 13 = .ok (.iload_n 2, 1) := by decide +kernel
theorem dX9_fly_14 : decode cX9_fly 14 = .ok (.iload_n 2, 1) := by decide +kernel
theorem dX9_fly_15 : decode cX9_fly 15 = .ok (.aload_n 0, 1) := by decide +kernel
theorem dX9_fly_16 : decode cX9_fly 16 = .ok (.invokevirtual 108, 3) := by decide +kernel
theorem dX9_fly_19 : decode cX9_fly 19 = .ok (.if_icmp .ge 17, 3) := by decide +kernel
theorem dX9_fly_22 : decode cX9_fly 22 = .ok (.iload_n 1, 1) := by decide +kernel
theorem dX9_fly_23 : decode cX9_fly 23 = .ok (.iconst (-1), 1) := by decide +kernel
theorem dX9_fly_24 : decode cX9_fly 24 = .ok (.if_icmp .eq 8, 3) := by decide +kernel
theorem dX9_fly_27 : decode cX9_fly 27 = .ok (.iload_n 1, 1) := by decide +kernel
theorem dX9_fly_28 : decode cX9_fly 28 = .ok (.iload_n 2, 1) := by decide +kernel
theorem dX9_fly_29 : decode cX9_fly 29 = .ok (.if_icmp .ne 7, 3) := by decide +kernel
theorem dX9_fly_32 : decode cX9_fly 32 = .ok (.lconst 1, 1) := by decide +kernel
theorem dX9_fly_33 : decode cX9_fly 33 = .ok (.goto 4, 3) := by decide +kernel
theorem dX9_fly_36 : decode cX9_fly 36 = .ok (.lconst 0, 1) := by decide +kernel
theorem dX9_fly_37 : decode cX9_fly 37 = .ok (.lastore, 1) := by decide +kernel
theorem dX9_fly_38 : decode cX9_fly 38 = .ok (.iinc 2 1, 3) := by decide +kernel
theorem dX9_fly_41 : decode cX9_fly 41 = .ok (.goto (-39), 3) := by decide +kernel
theorem dX9_fly_44 : decode cX9_fly 44 = .ok (.aload_n 0, 1) := by decide +kernel
theorem dX9_fly_45 : decode cX9_fly 45 = .ok (.iconst 0, 1) := by decide +kernel
theorem dX9_fly_46 : decode cX9_fly 46 = .ok (.putfield 130, 3) := by decide +kernel
theorem dX9_fly_49 : decode cX9_fly 49 = .ok (.aload_n 0, 1) := by decide +kernel
theorem dX9_fly_50 : decode cX9_fly 50 = .ok (.iconst 0, 1) := by decide +kernel
theorem dX9_fly_51 : decode cX9_fly 51 = .ok (.putfield 133, 3) := by decide +kernel
theorem dX9_fly_54 : decode cX9_fly 54 = .ok (.aload_n 0, 1) := by decide +kernel
theorem dX9_fly_55 : decode cX9_fly 55 = .ok (.iload_n 1, 1) := by decide +kernel
theorem dX9_fly_56 : decode cX9_fly 56 = .ok (.putfield 136, 3) := by decide +kernel
theorem dX9_fly_59 : decode cX9_fly 59 = .ok (.return_, 1) := by decide +kernel
theorem dX9_begin_0 : decode cX9_begin 0 = .ok (.aload_n 0, 1) := by decide +kernel
theorem dX9_begin_1 : decode cX9_begin 1 = .ok (.iconst 0, 1) := by decide +kernel
theorem dX9_begin_2 : decode cX9_begin 2 = .ok (.putfield 1, 3) := by decide +kernel
theorem dX9_begin_5 : decode cX9_begin 5 = .ok (.iload_n 1, 1) := by decide +kernel
theorem dX9_begin_6 : decode cX9_begin 6 = .ok (.iconst (-1), 1) := by decide +kernel
theorem dX9_begin_7 : decode cX9_begin 7 = .ok (.if_icmp .eq 13, 3) := by decide +kernel
theorem dX9_begin_10 : decode cX9_begin 10 = .ok (.aload_n 0, 1) := by decide +kernel
theorem dX9_begin_11 : decode cX9_begin 11 = .ok (.iload_n 1, 1) := by decide +kernel
theorem dX9_begin_12 : decode cX9_begin 12 = .ok (.invokevirtual 139, 3) := by decide +kernel
theorem dX9_begin_15 : decode cX9_begin 15 = .ok (.ifCond .ne 5, 3) := by decide +kernel
theorem dX9_begin_18 : decode cX9_begin 18 = .ok (.iconst 0, 1) := by decide +kernel
theorem dX9_begin_19 : decode cX9_begin 19 = .ok (.ireturn, 1) := by decide +kernel
theorem dX9_begin_20 : decode cX9_begin 20 = .ok (.aload_n 0, 1) := by decide +kernel
theorem dX9_begin_21 : decode cX9_begin 21 = .ok (.iload_n 1, 1) := by decide +kernel
theorem dX9_begin_22 : decode cX9_begin 22 = .ok (.invokevirtual 105, 3) := by decide +kernel
theorem dX9_begin_25 : decode cX9_begin 25 = .ok (.iconst 1, 1) := by decide +kernel
theorem dX9_begin_26 : decode cX9_begin 26 = .ok (.ireturn, 1) := by decide +kernel
theorem dX9_withShare_0 : decode cX9_withShare 0 = .ok (.iconst 0, 1) := by decide +kernel
theorem dX9_withShare_1 : decode cX9_withShare 1 = .ok (.istore_n 1, 1) := by decide +kernel
theorem dX9_withShare_2 : decode cX9_withShare 2 = .ok (.iconst 0, 1) := by decide +kernel
theorem dX9_withShare_3 : decode cX9_withShare 3 = .ok (.istore_n 2, 1) := by decide +kernel
theorem dX9_withShare_4 : decode cX9_withShare 4 = .ok (.iload_n 2, 1) := by decide +kernel
theorem dX9_withShare_5 : decode cX9_withShare 5 = .ok (.aload_n 0, 1) := by decide +kernel
theorem dX9_withShare_6 : decode cX9_withShare 6 = .ok (.invokevirtual 108, 3) := by decide +kernel
theorem dX9_withShare_9 : decode cX9_withShare 9 = .ok (.if_icmp .ge 28, 3) := by decide +kernel
theorem dX9_withShare_12 : decode cX9_withShare 12 = .ok (.iload_n 1, 1) := by decide +kernel
theorem dX9_withShare_13 : decode cX9_withShare 13 = .ok (.aload_n 0, 1) := by decide +kernel
theorem dX9_withShare_14 : decode cX9_withShare 14 = .ok (.getfield 52, 3) := by decide +kernel
theorem dX9_withShare_17 : decode cX9_withShare 17 = .ok (.iload_n 2, 1) := by decide +kernel
theorem dX9_withShare_18 : decode cX9_withShare 18 = .ok (.laload, 1) := by decide +kernel
theorem dX9_withShare_19 : decode cX9_withShare 19 = .ok (.lconst 0, 1) := by decide +kernel
theorem dX9_withShare_20 : decode cX9_withShare 20 = .ok (.lcmp, 1) := by decide +kernel
theorem dX9_withShare_21 : decode cX9_withShare 21 = .ok (.ifCond .le 7, 3) := by decide +kernel
theorem dX9_withShare_24 : decode cX9_withShare 24 = .ok (.iconst 1, 1) := by decide +kernel
theorem dX9_withShare_25 : decode cX9_withShare 25 = .ok (.goto 4, 3) := by decide +kernel
theorem dX9_withShare_28 : decode cX9_withShare 28 = .ok (.iconst 0, 1) := by decide +kernel
theorem dX9_withShare_29 : decode cX9_withShare 29 = .ok (.iadd, 1) := by decide +kernel
theorem dX9_withShare_30 : decode cX9_withShare 30 = .ok (.istore_n 1, 1) := by decide +kernel
theorem dX9_withShare_31 : decode cX9_withShare 31 = .ok (.iinc 2 1, 3) := by decide +kernel
theorem dX9_withShare_34 : decode cX9_withShare 34 = .ok (.goto (-30), 3) := by decide +kernel
theorem dX9_withShare_37 : decode cX9_withShare 37 = .ok (.iload_n 1, 1) := by decide +kernel
theorem dX9_withShare_38 : decode cX9_withShare 38 = .ok (.ireturn, 1) := by decide +kernel
theorem dX9_weight_0 : decode cX9_weight 0 = .ok (.iload_n 1, 1) := by decide +kernel
theorem dX9_weight_1 : decode cX9_weight 1 = .ok (.ifCond .ne 10, 3) := by decide +kernel
theorem dX9_weight_4 : decode cX9_weight 4 = .ok (.aload_n 0, 1) := by decide +kernel
theorem dX9_weight_5 : decode cX9_weight 5 = .ok (.getfield 49, 3) := by decide +kernel
theorem dX9_weight_8 : decode cX9_weight 8 = .ok (.goto 7, 3) := by decide +kernel
theorem dX9_weight_11 : decode cX9_weight 11 = .ok (.aload_n 0, 1) := by decide +kernel
theorem dX9_weight_12 : decode cX9_weight 12 = .ok (.getfield 124, 3) := by decide +kernel
theorem dX9_weight_15 : decode cX9_weight 15 = .ok (.ireturn, 1) := by decide +kernel
theorem dX9_off_0 : decode cX9_off 0 = .ok (.iload_n 1, 1) := by decide +kernel
theorem dX9_off_1 : decode cX9_off 1 = .ok (.aload_n 0, 1) := by decide +kernel
theorem dX9_off_2 : decode cX9_off 2 = .ok (.getfield 43, 3) := by decide +kernel
theorem dX9_off_5 : decode cX9_off 5 = .ok (.irem, 1) := by decide +kernel
theorem dX9_off_6 : decode cX9_off 6 = .ok (.iload_n 2, 1) := by decide +kernel
theorem dX9_off_7 : decode cX9_off 7 = .ok (.iadd, 1) := by decide +kernel
theorem dX9_off_8 : decode cX9_off 8 = .ok (.istore 4, 2) := by decide +kernel
theorem dX9_off_10 : decode cX9_off 10 = .ok (.iload_n 1, 1) := by decide +kernel
theorem dX9_off_11 : decode cX9_off 11 = .ok (.aload_n 0, 1) := by decide +kernel
theorem dX9_off_12 : decode cX9_off 12 = .ok (.getfield 43, 3) := by decide +kernel
theorem dX9_off_15 : decode cX9_off 15 = .ok (.idiv, 1) := by decide +kernel
theorem dX9_off_16 : decode cX9_off 16 = .ok (.iload_n 3, 1) := by decide +kernel
theorem dX9_off_17 : decode cX9_off 17 = .ok (.iadd, 1) := by decide +kernel
theorem dX9_off_18 : decode cX9_off 18 = .ok (.istore 5, 2) := by decide +kernel
theorem dX9_off_20 : decode cX9_off 20 = .ok (.iload 4, 2) := by decide +kernel
theorem dX9_off_22 : decode cX9_off 22 = .ok (.ifCond .lt 26, 3) := by decide +kernel
theorem dX9_off_25 : decode cX9_off 25 = .ok (.iload 4, 2) := by decide +kernel
theorem dX9_off_27 : decode cX9_off 27 = .ok (.aload_n 0, 1) := by decide +kernel
theorem dX9_off_28 : decode cX9_off 28 = .ok (.getfield 43, 3) := by decide +kernel
theorem dX9_off_31 : decode cX9_off 31 = .ok (.if_icmp .ge 17, 3) := by decide +kernel
theorem dX9_off_34 : decode cX9_off 34 = .ok (.iload 5, 2) := by decide +kernel
theorem dX9_off_36 : decode cX9_off 36 = .ok (.ifCond .lt 12, 3) := by decide +kernel
theorem dX9_off_39 : decode cX9_off 39 = .ok (.iload 5, 2) := by decide +kernel
theorem dX9_off_41 : decode cX9_off 41 = .ok (.aload_n 0, 1) := by decide +kernel
theorem dX9_off_42 : decode cX9_off 42 = .ok (.getfield 46, 3) := by decide +kernel
theorem dX9_off_45 : decode cX9_off 45 = .ok (.if_icmp .lt 7, 3) := by decide +kernel
theorem dX9_off_48 : decode cX9_off 48 = .ok (.iconst (-1), 1) := by decide +kernel
theorem dX9_off_49 : decode cX9_off 49 = .ok (.goto 13, 3) := by decide +kernel
theorem dX9_off_52 : decode cX9_off 52 = .ok (.aload_n 0, 1) := by decide +kernel
theorem dX9_off_53 : decode cX9_off 53 = .ok (.getfield 43, 3) := by decide +kernel
theorem dX9_off_56 : decode cX9_off 56 = .ok (.iload 5, 2) := by decide +kernel
theorem dX9_off_58 : decode cX9_off 58 = .ok (.imul, 1) := by decide +kernel
theorem dX9_off_59 : decode cX9_off 59 = .ok (.iload 4, 2) := by decide +kernel
theorem dX9_off_61 : decode cX9_off 61 = .ok (.iadd, 1) := by decide +kernel
theorem dX9_off_62 : decode cX9_off 62 = .ok (.ireturn, 1) := by decide +kernel
theorem dX9_move_0 : decode cX9_move 0 = .ok (.aload_n 0, 1) := by decide +kernel
theorem dX9_move_1 : decode cX9_move 1 = .ok (.iconst 0, 1) := by decide +kernel
theorem dX9_move_2 : decode cX9_move 2 = .ok (.putfield 1, 3) := by decide +kernel
theorem dX9_move_5 : decode cX9_move 5 = .ok (.aload_n 0, 1) := by decide +kernel
theorem dX9_move_6 : decode cX9_move 6 = .ok (.getfield 130, 3) := by decide +kernel
theorem dX9_move_9 : decode cX9_move 9 = .ok (.bipush 12, 2) := by decide +kernel
theorem dX9_move_11 : decode cX9_move 11 = .ok (.if_icmp .eq 25, 3) := by decide +kernel
theorem dX9_move_14 : decode cX9_move 14 = .ok (.iload_n 1, 1) := by decide +kernel
theorem dX9_move_15 : decode cX9_move 15 = .ok (.bipush (-5), 2) := by decide +kernel
theorem dX9_move_17 : decode cX9_move 17 = .ok (.if_icmp .lt 19, 3) := by decide +kernel
theorem dX9_move_20 : decode cX9_move 20 = .ok (.iload_n 1, 1) := by decide +kernel
theorem dX9_move_21 : decode cX9_move 21 = .ok (.iconst 5, 1) := by decide +kernel
theorem dX9_move_22 : decode cX9_move 22 = .ok (.if_icmp .gt 14, 3) := by decide +kernel
theorem dX9_move_25 : decode cX9_move 25 = .ok (.iload_n 2, 1) := by decide +kernel
theorem dX9_move_26 : decode cX9_move 26 = .ok (.bipush (-5), 2) := by decide +kernel
theorem dX9_move_28 : decode cX9_move 28 = .ok (.if_icmp .lt 8, 3) := by decide +kernel
theorem dX9_move_31 : decode cX9_move 31 = .ok (.iload_n 2, 1) := by decide +kernel
theorem dX9_move_32 : decode cX9_move 32 = .ok (.iconst 5, 1) := by decide +kernel
theorem dX9_move_33 : decode cX9_move 33 = .ok (.if_icmp .le 5, 3) := by decide +kernel
theorem dX9_move_36 : decode cX9_move 36 = .ok (.iconst (-1), 1) := by decide +kernel
theorem dX9_move_37 : decode cX9_move 37 = .ok (.ireturn, 1) := by decide +kernel
theorem dX9_move_38 : decode cX9_move 38 = .ok (.iconst 0, 1) := by decide +kernel
theorem dX9_move_39 : decode cX9_move 39 = .ok (.istore_n 3, 1) := by decide +kernel
theorem dX9_move_40 : decode cX9_move 40 = .ok (.iload_n 3, 1) := by decide +kernel
theorem dX9_move_41 : decode cX9_move 41 = .ok (.aload_n 0, 1) := by decide +kernel
theorem dX9_move_42 : decode cX9_move 42 = .ok (.invokevirtual 108, 3) := by decide +kernel
theorem dX9_move_45 : decode cX9_move 45 = .ok (.if_icmp .ge 16, 3) := by decide +kernel
theorem dX9_move_48 : decode cX9_move 48 = .ok (.aload_n 0, 1) := by decide +kernel
theorem dX9_move_49 : decode cX9_move 49 = .ok (.getfield 56, 3) := by decide +kernel
theorem dX9_move_52 : decode cX9_move 52 = .ok (.iload_n 3, 1) := by decide +kernel
theorem dX9_move_53 : decode cX9_move 53 = .ok (.lconst 0, 1) := by decide +kernel
theorem dX9_move_54 : decode cX9_move 54 = .ok (.lastore, 1) := by decide +kernel
theorem dX9_move_55 : decode cX9_move 55 = .ok (.iinc 3 1, 3) := by decide +kernel
theorem dX9_move_58 : decode cX9_move 58 = .ok (.goto (-18), 3) := by decide +kernel
theorem dX9_move_61 : decode cX9_move 61 = .ok (.iconst 0, 1) := by decide +kernel
theorem dX9_move_62 : decode cX9_move 62 = .ok (.istore_n 3, 1) := by decide +kernel
theorem dX9_move_63 : decode cX9_move 63 = .ok (.iload_n 3, 1) := by decide +kernel
theorem dX9_move_64 : decode cX9_move 64 = .ok (.aload_n 0, 1) := by decide +kernel
theorem dX9_move_65 : decode cX9_move 65 = .ok (.invokevirtual 108, 3) := by decide +kernel
theorem dX9_move_68 : decode cX9_move 68 = .ok (.if_icmp .ge 91, 3) := by decide +kernel
theorem dX9_move_71 : decode cX9_move 71 = .ok (.iconst (-1), 1) := by decide +kernel
theorem dX9_move_72 : decode cX9_move 72 = .ok (.istore 4, 2) := by decide +kernel
theorem dX9_move_74 : decode cX9_move 74 = .ok (.iload 4, 2) := by decide +kernel
theorem dX9_move_76 : decode cX9_move 76 = .ok (.iconst 2, 1) := by decide +kernel
theorem dX9_move_77 : decode cX9_move 77 = .ok (.if_icmp .ge 76, 3) := by decide +kernel
theorem dX9_move_80 : decode cX9_move 80 = .ok (.iconst (-1), 1) := by decide +kernel
theorem dX9_move_81 : decode cX9_move 81 = .ok (.istore 5, 2) := by decide +kernel
theorem dX9_move_83 : decode cX9_move 83 = .ok (.iload 5, 2) := by decide +kernel
theorem dX9_move_85 : decode cX9_move 85 = .ok (.iconst 2, 1) := by decide +kernel
theorem dX9_move_86 : decode cX9_move 86 = .ok (.if_icmp .ge 61, 3) := by decide +kernel
theorem dX9_move_89 : decode cX9_move 89 = .ok (.aload_n 0, 1) := by decide +kernel
theorem dX9_move_90 : decode cX9_move 90 = .ok (.iload_n 3, 1) := by decide +kernel
theorem dX9_move_91 : decode cX9_move 91 = .ok (.iload_n 1, 1) := by decide +kernel
theorem dX9_move_92 : decode cX9_move 92 = .ok (.iload 4, 2) := by decide +kernel
theorem dX9_move_94 : decode cX9_move 94 = .ok (.iadd, 1) := by decide +kernel
theorem dX9_move_95 : decode cX9_move 95 = .ok (.iload_n 2, 1) := by decide +kernel
theorem dX9_move_96 : decode cX9_move 96 = .ok (.iload 5, 2) := by decide +kernel
theorem dX9_move_98 : decode cX9_move 98 = .ok (.iadd, 1) := by decide +kernel
theorem dX9_move_99 : decode cX9_move 99 = .ok (.invokevirtual 143, 3) := by decide +kernel
theorem dX9_move_102 : decode cX9_move 102 = .ok (.istore 6, 2) := by decide +kernel
theorem dX9_move_104 : decode cX9_move 104 = .ok (.iload 6, 2) := by decide +kernel
theorem dX9_move_106 : decode cX9_move 106 = .ok (.ifCond .lt 35, 3) := by decide +kernel
theorem dX9_move_109 : decode cX9_move 109 = .ok (.aload_n 0, 1) := by decide +kernel
theorem dX9_move_110 : decode cX9_move 110 = .ok (.getfield 56, 3) := by decide +kernel
theorem dX9_move_113 : decode cX9_move 113 = .ok (.iload 6, 2) := by decide +kernel
theorem dX9_move_115 : decode cX9_move 115 = .ok (.dup2, 1) := by decide +kernel
theorem dX9_move_116 : decode cX9_move 116 = .ok (.laload, 1) := by decide +kernel
theorem dX9_move_117 : decode cX9_move 117 = .ok (.aload_n 0, 1) := by decide +kernel
theorem dX9_move_118 : decode cX9_move 118 = .ok (.getfield 52, 3) := by decide +kernel
theorem dX9_move_121 : decode cX9_move 121 = .ok (.iload_n 3, 1) := by decide +kernel
theorem dX9_move_122 : decode cX9_move 122 = .ok (.laload, 1) := by decide +kernel
theorem dX9_move_123 : decode cX9_move 123 = .ok (.aload_n 0, 1) := by decide +kernel
theorem dX9_move_124 : decode cX9_move 124 = .ok (.iload 4, 2) := by decide +kernel
theorem dX9_move_126 : decode cX9_move 126 = .ok (.invokevirtual 147, 3) := by decide +kernel
theorem dX9_move_129 : decode cX9_move 129 = .ok (.i2l, 1) := by decide +kernel
theorem dX9_move_130 : decode cX9_move 130 = .ok (.lmul, 1) := by decide +kernel
theorem dX9_move_131 : decode cX9_move 131 = .ok (.aload_n 0, 1) := by decide +kernel
theorem dX9_move_132 : decode cX9_move 132 = .ok (.iload 5, 2) := by decide +kernel
theorem dX9_move_134 : decode cX9_move 134 = .ok (.invokevirtual 147, 3) := by decide +kernel
theorem dX9_move_137 : decode cX9_move 137 = .ok (.i2l, 1) := by decide +kernel
theorem dX9_move_138 : decode cX9_move 138 = .ok (.lmul, 1) := by decide +kernel
theorem dX9_move_139 : decode cX9_move 139 = .ok (.ladd, 1) := by decide +kernel
theorem dX9_move_140 : decode cX9_move 140 = .ok (.lastore, 1) := by decide +kernel
theorem dX9_move_141 : decode cX9_move 141 = .ok (.iinc 5 1, 3) := by decide +kernel
theorem dX9_move_144 : decode cX9_move 144 = .ok (.goto (-61), 3) := by decide +kernel
theorem dX9_move_147 : decode cX9_move 147 = .ok (.iinc 4 1, 3) := by decide +kernel
theorem dX9_move_150 : decode cX9_move 150 = .ok (.goto (-76), 3) := by decide +kernel
theorem dX9_move_153 : decode cX9_move 153 = .ok (.iinc 3 1, 3) := by decide +kernel
theorem dX9_move_156 : decode cX9_move 156 = .ok (.goto (-93), 3) := by decide +kernel
theorem dX9_move_159 : decode cX9_move 159 = .ok (.iconst 0, 1) := by decide +kernel
theorem dX9_move_160 : decode cX9_move 160 = .ok (.istore_n 3, 1) := by decide +kernel
theorem dX9_move_161 : decode cX9_move 161 = .ok (.iload_n 3, 1) := by decide +kernel
theorem dX9_move_162 : decode cX9_move 162 = .ok (.aload_n 0, 1) := by decide +kernel
theorem dX9_move_163 : decode cX9_move 163 = .ok (.invokevirtual 108, 3) := by decide +kernel
theorem dX9_move_166 : decode cX9_move 166 = .ok (.if_icmp .ge 21, 3) := by decide +kernel
theorem dX9_move_169 : decode cX9_move 169 = .ok (.aload_n 0, 1) := by decide +kernel
theorem dX9_move_170 : decode cX9_move 170 = .ok (.getfield 52, 3) := by decide +kernel
theorem dX9_move_173 : decode cX9_move 173 = .ok (.iload_n 3, 1) := by decide +kernel
theorem dX9_move_174 : decode cX9_move 174 = .ok (.aload_n 0, 1) := by decide +kernel
theorem dX9_move_175 : decode cX9_move 175 = .ok (.getfield 56, 3) := by decide +kernel
theorem dX9_move_178 : decode cX9_move 178 = .ok (.iload_n 3, 1) := by decide +kernel
theorem dX9_move_179 : decode cX9_move 179 = .ok (.laload, 1) := by decide +kernel
theorem dX9_move_180 : decode cX9_move 180 = .ok (.lastore, 1) := by decide +kernel
theorem dX9_move_181 : decode cX9_move 181 = .ok (.iinc 3 1, 3) := by decide +kernel
theorem dX9_move_184 : decode cX9_move 184 = .ok (.goto (-23), 3) := by decide +kernel
theorem dX9_move_187 : decode cX9_move 187 = .ok (.aload_n 0, 1) := by decide +kernel
theorem dX9_move_188 : decode cX9_move 188 = .ok (.invokevirtual 150, 3) := by decide +kernel
theorem dX9_move_191 : decode cX9_move 191 = .ok (.ifCond .ne 21, 3) := by decide +kernel
theorem dX9_move_194 : decode cX9_move 194 = .ok (.aload_n 0, 1) := by decide +kernel
theorem dX9_move_195 : decode cX9_move 195 = .ok (.dup, 1) := by decide +kernel
theorem dX9_move_196 : decode cX9_move 196 = .ok (.getfield 115, 3) := by decide +kernel
theorem dX9_move_199 : decode cX9_move 199 = .ok (.iconst 1, 1) := by decide +kernel
theorem dX9_move_200 : decode cX9_move 200 = .ok (.iadd, 1) := by decide +kernel
theorem dX9_move_201 : decode cX9_move 201 = .ok (.putfield 115, 3) := by decide +kernel
theorem dX9_move_204 : decode cX9_move 204 = .ok (.aload_n 0, 1) := by decide +kernel
theorem dX9_move_205 : decode cX9_move 205 = .ok (.iconst (-1), 1) := by decide +kernel
theorem dX9_move_206 : decode cX9_move 206 = .ok (.invokevirtual 105, 3) := by decide +kernel
theorem dX9_move_209 : decode cX9_move 209 = .ok (.bipush (-2), 2) := by decide +kernel
theorem dX9_move_211 : decode cX9_move 211 = .ok (.ireturn, 1) := by decide +kernel
theorem dX9_move_212 : decode cX9_move 212 = .ok (.aload_n 0, 1) := by decide +kernel
theorem dX9_move_213 : decode cX9_move 213 = .ok (.getfield 59, 3) := by decide +kernel
theorem dX9_move_216 : decode cX9_move 216 = .ok (.aload_n 0, 1) := by decide +kernel
theorem dX9_move_217 : decode cX9_move 217 = .ok (.getfield 130, 3) := by decide +kernel
theorem dX9_move_220 : decode cX9_move 220 = .ok (.iload_n 1, 1) := by decide +kernel
theorem dX9_move_221 : decode cX9_move 221 = .ok (.iastore, 1) := by decide +kernel
theorem dX9_move_222 : decode cX9_move 222 = .ok (.aload_n 0, 1) := by decide +kernel
theorem dX9_move_223 : decode cX9_move 223 = .ok (.getfield 62, 3) := by decide +kernel
theorem dX9_move_226 : decode cX9_move 226 = .ok (.aload_n 0, 1) := by decide +kernel
theorem dX9_move_227 : decode cX9_move 227 = .ok (.getfield 130, 3) := by decide +kernel
theorem dX9_move_230 : decode cX9_move 230 = .ok (.iload_n 2, 1) := by decide +kernel
theorem dX9_move_231 : decode cX9_move 231 = .ok (.iastore, 1) := by decide +kernel
theorem dX9_move_232 : decode cX9_move 232 = .ok (.aload_n 0, 1) := by decide +kernel
theorem dX9_move_233 : decode cX9_move 233 = .ok (.dup, 1) := by decide +kernel
theorem dX9_move_234 : decode cX9_move 234 = .ok (.getfield 130, 3) := by decide +kernel
theorem dX9_move_237 : decode cX9_move 237 = .ok (.iconst 1, 1) := by decide +kernel
theorem dX9_move_238 : decode cX9_move 238 = .ok (.iadd, 1) := by decide +kernel
theorem dX9_move_239 : decode cX9_move 239 = .ok (.putfield 130, 3) := by decide +kernel
theorem dX9_move_242 : decode cX9_move 242 = .ok (.aload_n 0, 1) := by decide +kernel
theorem dX9_move_243 : decode cX9_move 243 = .ok (.invokevirtual 150, 3) := by decide +kernel
theorem dX9_move_246 : decode cX9_move 246 = .ok (.ireturn, 1) := by decide +kernel
theorem dX9_read_0 : decode cX9_read 0 = .ok (.aload_n 0, 1) := by decide +kernel
theorem dX9_read_1 : decode cX9_read 1 = .ok (.iconst 0, 1) := by decide +kernel
theorem dX9_read_2 : decode cX9_read 2 = .ok (.putfield 1, 3) := by decide +kernel
theorem dX9_read_5 : decode cX9_read 5 = .ok (.iload_n 1, 1) := by decide +kernel
theorem dX9_read_6 : decode cX9_read 6 = .ok (.ifCond .lt 19, 3) := by decide +kernel
theorem dX9_read_9 : decode cX9_read 9 = .ok (.iload_n 1, 1) := by decide +kernel
theorem dX9_read_10 : decode cX9_read 10 = .ok (.sipush 250, 3) := by decide +kernel
theorem dX9_read_13 : decode cX9_read 13 = .ok (.if_icmp .gt 12, 3) := by decide +kernel
theorem dX9_read_16 : decode cX9_read 16 = .ok (.aload_n 0, 1) := by decide +kernel
theorem dX9_read_17 : decode cX9_read 17 = .ok (.getfield 133, 3) := by decide +kernel
theorem dX9_read_20 : decode cX9_read 20 = .ok (.bipush 40, 2) := by decide +kernel
theorem dX9_read_22 : decode cX9_read 22 = .ok (.if_icmp .ne 5, 3) := by decide +kernel
theorem dX9_read_25 : decode cX9_read 25 = .ok (.iconst (-1), 1) := by decide +kernel
theorem dX9_read_26 : decode cX9_read 26 = .ok (.ireturn, 1) := by decide +kernel
theorem dX9_read_27 : decode cX9_read 27 = .ok (.iconst 0, 1) := by decide +kernel
theorem dX9_read_28 : decode cX9_read 28 = .ok (.istore_n 2, 1) := by decide +kernel
theorem dX9_read_29 : decode cX9_read 29 = .ok (.iload_n 2, 1) := by decide +kernel
theorem dX9_read_30 : decode cX9_read 30 = .ok (.aload_n 0, 1) := by decide +kernel
theorem dX9_read_31 : decode cX9_read 31 = .ok (.invokevirtual 108, 3) := by decide +kernel
theorem dX9_read_34 : decode cX9_read 34 = .ok (.if_icmp .ge 34, 3) := by decide +kernel
theorem dX9_read_37 : decode cX9_read 37 = .ok (.aload_n 0, 1) := by decide +kernel
theorem dX9_read_38 : decode cX9_read 38 = .ok (.getfield 52, 3) := by decide +kernel
theorem dX9_read_41 : decode cX9_read 41 = .ok (.iload_n 2, 1) := by decide +kernel
theorem dX9_read_42 : decode cX9_read 42 = .ok (.aload_n 0, 1) := by decide +kernel
theorem dX9_read_43 : decode cX9_read 43 = .ok (.iload_n 2, 1) := by decide +kernel
theorem dX9_read_44 : decode cX9_read 44 = .ok (.iload_n 1, 1) := by decide +kernel
theorem dX9_read_45 : decode cX9_read 45 = .ok (.invokevirtual 153, 3) := by decide +kernel
theorem dX9_read_48 : decode cX9_read 48 = .ok (.ifCond .eq 12, 3) := by decide +kernel
theorem dX9_read_51 : decode cX9_read 51 = .ok (.aload_n 0, 1) := by decide +kernel
theorem dX9_read_52 : decode cX9_read 52 = .ok (.getfield 52, 3) := by decide +kernel
theorem dX9_read_55 : decode cX9_read 55 = .ok (.iload_n 2, 1) := by decide +kernel
theorem dX9_read_56 : decode cX9_read 56 = .ok (.laload, 1) := by decide +kernel
theorem dX9_read_57 : decode cX9_read 57 = .ok (.goto 4, 3) := by decide +kernel
theorem dX9_read_60 : decode cX9_read 60 = .ok (.lconst 0, 1) := by decide +kernel
theorem dX9_read_61 : decode cX9_read 61 = .ok (.lastore, 1) := by decide +kernel
theorem dX9_read_62 : decode cX9_read 62 = .ok (.iinc 2 1, 3) := by decide +kernel
theorem dX9_read_65 : decode cX9_read 65 = .ok (.goto (-36), 3) := by decide +kernel
theorem dX9_read_68 : decode cX9_read 68 = .ok (.aload_n 0, 1) := by decide +kernel
theorem dX9_read_69 : decode cX9_read 69 = .ok (.invokevirtual 150, 3) := by decide +kernel
theorem dX9_read_72 : decode cX9_read 72 = .ok (.ifCond .ne 7, 3) := by decide +kernel
theorem dX9_read_75 : decode cX9_read 75 = .ok (.iconst 1, 1) := by decide +kernel
theorem dX9_read_76 : decode cX9_read 76 = .ok (.goto 4, 3) := by decide +kernel
theorem dX9_read_79 : decode cX9_read 79 = .ok (.iconst 0, 1) := by decide +kernel
theorem dX9_read_80 : decode cX9_read 80 = .ok (.istore_n 2, 1) := by decide +kernel
theorem dX9_read_81 : decode cX9_read 81 = .ok (.iload_n 2, 1) := by decide +kernel
theorem dX9_read_82 : decode cX9_read 82 = .ok (.ifCond .eq 84, 3) := by decide +kernel
theorem dX9_read_85 : decode cX9_read 85 = .ok (.aload_n 0, 1) := by decide +kernel
theorem dX9_read_86 : decode cX9_read 86 = .ok (.dup, 1) := by decide +kernel
theorem dX9_read_87 : decode cX9_read 87 = .ok (.getfield 115, 3) := by decide +kernel
theorem dX9_read_90 : decode cX9_read 90 = .ok (.iconst 1, 1) := by decide +kernel
theorem dX9_read_91 : decode cX9_read 91 = .ok (.iadd, 1) := by decide +kernel
theorem dX9_read_92 : decode cX9_read 92 = .ok (.putfield 115, 3) := by decide +kernel
theorem dX9_read_95 : decode cX9_read 95 = .ok (.aload_n 0, 1) := by decide +kernel
theorem dX9_read_96 : decode cX9_read 96 = .ok (.iconst (-1), 1) := by decide +kernel
theorem dX9_read_97 : decode cX9_read 97 = .ok (.invokevirtual 105, 3) := by decide +kernel
theorem dX9_read_100 : decode cX9_read 100 = .ok (.iconst 0, 1) := by decide +kernel
theorem dX9_read_101 : decode cX9_read 101 = .ok (.istore_n 3, 1) := by decide +kernel
theorem dX9_read_102 : decode cX9_read 102 = .ok (.iload_n 3, 1) := by decide +kernel
theorem dX9_read_103 : decode cX9_read 103 = .ok (.aload_n 0, 1) := by decide +kernel
theorem dX9_read_104 : decode cX9_read 104 = .ok (.invokevirtual 108, 3) := by decide +kernel
theorem dX9_read_107 : decode cX9_read 107 = .ok (.if_icmp .ge 29, 3) := by decide +kernel
theorem dX9_read_110 : decode cX9_read 110 = .ok (.aload_n 0, 1) := by decide +kernel
theorem dX9_read_111 : decode cX9_read 111 = .ok (.getfield 52, 3) := by decide +kernel
theorem dX9_read_114 : decode cX9_read 114 = .ok (.iload_n 3, 1) := by decide +kernel
theorem dX9_read_115 : decode cX9_read 115 = .ok (.aload_n 0, 1) := by decide +kernel
theorem dX9_read_116 : decode cX9_read 116 = .ok (.iload_n 3, 1) := by decide +kernel
theorem dX9_read_117 : decode cX9_read 117 = .ok (.iload_n 1, 1) := by decide +kernel
theorem dX9_read_118 : decode cX9_read 118 = .ok (.invokevirtual 153, 3) := by decide +kernel
theorem dX9_read_121 : decode cX9_read 121 = .ok (.ifCond .eq 7, 3) := by decide +kernel
theorem dX9_read_124 : decode cX9_read 124 = .ok (.lconst 1, 1) := by decide +kernel
theorem dX9_read_125 : decode cX9_read 125 = .ok (.goto 4, 3) := by decide +kernel
theorem dX9_read_128 : decode cX9_read 128 = .ok (.lconst 0, 1) := by decide +kernel
theorem dX9_read_129 : decode cX9_read 129 = .ok (.lastore, 1) := by decide +kernel
theorem dX9_read_130 : decode cX9_read 130 = .ok (.iinc 3 1, 3) := by decide +kernel
theorem dX9_read_133 : decode cX9_read 133 = .ok (.goto (-31), 3) := by decide +kernel
theorem dX9_read_136 : decode cX9_read 136 = .ok (.aload_n 0, 1) := by decide +kernel
theorem dX9_read_137 : decode cX9_read 137 = .ok (.invokevirtual 150, 3) := by decide +kernel
theorem dX9_read_140 : decode cX9_read 140 = .ok (.ifCond .ne 26, 3) := by decide +kernel
theorem dX9_read_143 : decode cX9_read 143 = .ok (.iconst 0, 1) := by decide +kernel
theorem dX9_read_144 : decode cX9_read 144 = .ok (.istore_n 3, 1) := by decide +kernel
theorem dX9_read_145 : decode cX9_read 145 = .ok (.iload_n 3, 1) := by decide +kernel
theorem dX9_read_146 : decode cX9_read 146 = .ok (.aload_n 0, 1) := by decide +kernel
theorem dX9_read_147 : decode cX9_read 147 = .ok (.invokevirtual 108, 3) := by decide +kernel
theorem dX9_read_150 : decode cX9_read 150 = .ok (.if_icmp .ge 16, 3) := by decide +kernel
theorem dX9_read_153 : decode cX9_read 153 = .ok (.aload_n 0, 1) := by decide +kernel
theorem dX9_read_154 : decode cX9_read 154 = .ok (.getfield 52, 3) := by decide +kernel
theorem dX9_read_157 : decode cX9_read 157 = .ok (.iload_n 3, 1) := by decide +kernel
theorem dX9_read_158 : decode cX9_read 158 = .ok (.lconst 1, 1) := by decide +kernel
theorem dX9_read_159 : decode cX9_read 159 = .ok (.lastore, 1) := by decide +kernel
theorem dX9_read_160 : decode cX9_read 160 = .ok (.iinc 3 1, 3) := by decide +kernel
theorem dX9_read_163 : decode cX9_read 163 = .ok (.goto (-18), 3) := by decide +kernel
theorem dX9_read_166 : decode cX9_read 166 = .ok (.aload_n 0, 1) := by decide +kernel
theorem dX9_read_167 : decode cX9_read 167 = .ok (.getfield 65, 3) := by decide +kernel
theorem dX9_read_170 : decode cX9_read 170 = .ok (.aload_n 0, 1) := by decide +kernel
theorem dX9_read_171 : decode cX9_read 171 = .ok (.getfield 133, 3) := by decide +kernel
theorem dX9_read_174 : decode cX9_read 174 = .ok (.aload_n 0, 1) := by decide +kernel
theorem dX9_read_175 : decode cX9_read 175 = .ok (.getfield 130, 3) := by decide +kernel
theorem dX9_read_178 : decode cX9_read 178 = .ok (.iastore, 1) := by decide +kernel
theorem dX9_read_179 : decode cX9_read 179 = .ok (.aload_n 0, 1) := by decide +kernel
theorem dX9_read_180 : decode cX9_read 180 = .ok (.getfield 68, 3) := by decide +kernel
theorem dX9_read_183 : decode cX9_read 183 = .ok (.aload_n 0, 1) := by decide +kernel
theorem dX9_read_184 : decode cX9_read 184 = .ok (.getfield 133, 3) := by decide +kernel
theorem dX9_read_187 : decode cX9_read 187 = .ok (.iload_n 1, 1) := by decide +kernel
theorem dX9_read_188 : decode cX9_read 188 = .ok (.iastore, 1) := by decide +kernel
theorem dX9_read_189 : decode cX9_read 189 = .ok (.aload_n 0, 1) := by decide +kernel
theorem dX9_read_190 : decode cX9_read 190 = .ok (.dup, 1) := by decide +kernel
theorem dX9_read_191 : decode cX9_read 191 = .ok (.getfield 133, 3) := by decide +kernel
theorem dX9_read_194 : decode cX9_read 194 = .ok (.iconst 1, 1) := by decide +kernel
theorem dX9_read_195 : decode cX9_read 195 = .ok (.iadd, 1) := by decide +kernel
theorem dX9_read_196 : decode cX9_read 196 = .ok (.putfield 133, 3) := by decide +kernel
theorem dX9_read_199 : decode cX9_read 199 = .ok (.iload_n 2, 1) := by decide +kernel
theorem dX9_read_200 : decode cX9_read 200 = .ok (.ifCond .eq 8, 3) := by decide +kernel
theorem dX9_read_203 : decode cX9_read 203 = .ok (.bipush (-2), 2) := by decide +kernel
theorem dX9_read_205 : decode cX9_read 205 = .ok (.goto 7, 3) := by decide +kernel
theorem dX9_read_208 : decode cX9_read 208 = .ok (.aload_n 0, 1) := by decide +kernel
theorem dX9_read_209 : decode cX9_read 209 = .ok (.invokevirtual 150, 3) := by decide +kernel
theorem dX9_read_212 : decode cX9_read 212 = .ok (.ireturn, 1) := by decide +kernel
theorem dX9_common_0 : decode cX9_common 0 = .ok (.lload_n 0, 1) := by decide +kernel
theorem dX9_common_1 : decode cX9_common 1 = .ok (.lstore 4, 2) := by decide +kernel
theorem dX9_common_3 : decode cX9_common 3 = .ok (.lload_n 2, 1) := by decide +kernel
theorem dX9_common_4 : decode cX9_common 4 = .ok (.lstore 6, 2) := by decide +kernel
theorem dX9_common_6 : decode cX9_common 6 = .ok (.lload 6, 2) := by decide +kernel
theorem dX9_common_8 : decode cX9_common 8 = .ok (.lconst 0, 1) := by decide +kernel
theorem dX9_common_9 : decode cX9_common 9 = .ok (.lcmp, 1) := by decide +kernel
theorem dX9_common_10 : decode cX9_common 10 = .ok (.ifCond .eq 21, 3) := by decide +kernel
theorem dX9_common_13 : decode cX9_common 13 = .ok (.lload 4, 2) := by decide +kernel
theorem dX9_common_15 : decode cX9_common 15 = .ok (.lload 6, 2) := by decide +kernel
theorem dX9_common_17 : decode cX9_common 17 = .ok (.lrem, 1) := by decide +kernel
theorem dX9_common_18 : decode cX9_common 18 = .ok (.lstore 8, 2) := by decide +kernel
theorem dX9_common_20 : decode cX9_common 20 = .ok (.lload 6, 2) := by decide +kernel
theorem dX9_common_22 : decode cX9_common 22 = .ok (.lstore 4, 2) := by decide +kernel
theorem dX9_common_24 : decode cX9_common 24 = .ok (.lload 8, 2) := by decide +kernel
theorem dX9_common_26 : decode cX9_common 26 = .ok (.lstore 6, 2) := by decide +kernel
theorem dX9_common_28 : decode cX9_common 28 = .ok (.goto (-22), 3) := by decide +kernel
theorem dX9_common_31 : decode cX9_common 31 = .ok (.lload 4, 2) := by decide +kernel
theorem dX9_common_33 : decode cX9_common 33 = .ok (.lreturn, 1) := by decide +kernel
theorem dX9_share_0 : decode cX9_share 0 = .ok (.aload_n 0, 1) := by decide +kernel
theorem dX9_share_1 : decode cX9_share 1 = .ok (.aload_n 0, 1) := by decide +kernel
theorem dX9_share_2 : decode cX9_share 2 = .ok (.iload_n 1, 1) := by decide +kernel
theorem dX9_share_3 : decode cX9_share 3 = .ok (.invokevirtual 139, 3) := by decide +kernel
theorem dX9_share_6 : decode cX9_share 6 = .ok (.ifCond .eq 12, 3) := by decide +kernel
theorem dX9_share_9 : decode cX9_share 9 = .ok (.iload_n 2, 1) := by decide +kernel
theorem dX9_share_10 : decode cX9_share 10 = .ok (.ifCond .lt 8, 3) := by decide +kernel
theorem dX9_share_13 : decode cX9_share 13 = .ok (.iload_n 2, 1) := by decide +kernel
theorem dX9_share_14 : decode cX9_share 14 = .ok (.iconst 1, 1) := by decide +kernel
theorem dX9_share_15 : decode cX9_share 15 = .ok (.if_icmp .le 7, 3) := by decide +kernel
theorem dX9_share_18 : decode cX9_share 18 = .ok (.iconst 1, 1) := by decide +kernel
theorem dX9_share_19 : decode cX9_share 19 = .ok (.goto 4, 3) := by decide +kernel
theorem dX9_share_22 : decode cX9_share 22 = .ok (.iconst 0, 1) := by decide +kernel
theorem dX9_share_23 : decode cX9_share 23 = .ok (.invokevirtual 157, 3) := by decide +kernel
theorem dX9_share_26 : decode cX9_share 26 = .ok (.ifCond .eq 5, 3) := by decide +kernel
theorem dX9_share_29 : decode cX9_share 29 = .ok (.lconst 0, 1) := by decide +kernel
theorem dX9_share_30 : decode cX9_share 30 = .ok (.lreturn, 1) := by decide +kernel
theorem dX9_share_31 : decode cX9_share 31 = .ok (.lconst 0, 1) := by decide +kernel
theorem dX9_share_32 : decode cX9_share 32 = .ok (.lstore_n 3, 1) := by decide +kernel
theorem dX9_share_33 : decode cX9_share 33 = .ok (.iconst 0, 1) := by decide +kernel
theorem dX9_share_34 : decode cX9_share 34 = .ok (.istore 5, 2) := by decide +kernel
theorem dX9_share_36 : decode cX9_share 36 = .ok (.iload 5, 2) := by decide +kernel
theorem dX9_share_38 : decode cX9_share 38 = .ok (.aload_n 0, 1) := by decide +kernel
theorem dX9_share_39 : decode cX9_share 39 = .ok (.invokevirtual 108, 3) := by decide +kernel
theorem dX9_share_42 : decode cX9_share 42 = .ok (.if_icmp .ge 19, 3) := by decide +kernel
theorem dX9_share_45 : decode cX9_share 45 = .ok (.lload_n 3, 1) := by decide +kernel
theorem dX9_share_46 : decode cX9_share 46 = .ok (.aload_n 0, 1) := by decide +kernel
theorem dX9_share_47 : decode cX9_share 47 = .ok (.getfield 52, 3) := by decide +kernel
theorem dX9_share_50 : decode cX9_share 50 = .ok (.iload 5, 2) := by decide +kernel
theorem dX9_share_52 : decode cX9_share 52 = .ok (.laload, 1) := by decide +kernel
theorem dX9_share_53 : decode cX9_share 53 = .ok (.ladd, 1) := by decide +kernel
theorem dX9_share_54 : decode cX9_share 54 = .ok (.lstore_n 3, 1) := by decide +kernel
theorem dX9_share_55 : decode cX9_share 55 = .ok (.iinc 5 1, 3) := by decide +kernel
theorem dX9_share_58 : decode cX9_share 58 = .ok (.goto (-22), 3) := by decide +kernel
theorem dX9_share_61 : decode cX9_share 61 = .ok (.aload_n 0, 1) := by decide +kernel
theorem dX9_share_62 : decode cX9_share 62 = .ok (.getfield 52, 3) := by decide +kernel
theorem dX9_share_65 : decode cX9_share 65 = .ok (.iload_n 1, 1) := by decide +kernel
theorem dX9_share_66 : decode cX9_share 66 = .ok (.laload, 1) := by decide +kernel
theorem dX9_share_67 : decode cX9_share 67 = .ok (.lload_n 3, 1) := by decide +kernel
theorem dX9_share_68 : decode cX9_share 68 = .ok (.invokestatic 161, 3) := by decide +kernel
theorem dX9_share_71 : decode cX9_share 71 = .ok (.lstore 5, 2) := by decide +kernel
theorem dX9_share_73 : decode cX9_share 73 = .ok (.iload_n 2, 1) := by decide +kernel
theorem dX9_share_74 : decode cX9_share 74 = .ok (.ifCond .ne 15, 3) := by decide +kernel
theorem dX9_share_77 : decode cX9_share 77 = .ok (.aload_n 0, 1) := by decide +kernel
theorem dX9_share_78 : decode cX9_share 78 = .ok (.getfield 52, 3) := by decide +kernel
theorem dX9_share_81 : decode cX9_share 81 = .ok (.iload_n 1, 1) := by decide +kernel
theorem dX9_share_82 : decode cX9_share 82 = .ok (.laload, 1) := by decide +kernel
theorem dX9_share_83 : decode cX9_share 83 = .ok (.lload 5, 2) := by decide +kernel
theorem dX9_share_85 : decode cX9_share 85 = .ok (.ldiv, 1) := by decide +kernel
theorem dX9_share_86 : decode cX9_share 86 = .ok (.goto 7, 3) := by decide +kernel
theorem dX9_share_89 : decode cX9_share 89 = .ok (.lload_n 3, 1) := by decide +kernel
theorem dX9_share_90 : decode cX9_share 90 = .ok (.lload 5, 2) := by decide +kernel
theorem dX9_share_92 : decode cX9_share 92 = .ok (.ldiv, 1) := by decide +kernel
theorem dX9_share_93 : decode cX9_share 93 = .ok (.lreturn, 1) := by decide +kernel
theorem dX9_likely_0 : decode cX9_likely 0 = .ok (.aload_n 0, 1) := by decide +kernel
theorem dX9_likely_1 : decode cX9_likely 1 = .ok (.iconst 0, 1) := by decide +kernel
theorem dX9_likely_2 : decode cX9_likely 2 = .ok (.putfield 1, 3) := by decide +kernel
theorem dX9_likely_5 : decode cX9_likely 5 = .ok (.iconst 0, 1) := by decide +kernel
theorem dX9_likely_6 : decode cX9_likely 6 = .ok (.istore_n 1, 1) := by decide +kernel
theorem dX9_likely_7 : decode cX9_likely 7 = .ok (.iconst 1, 1) := by decide +kernel
theorem dX9_likely_8 : decode cX9_likely 8 = .ok (.istore_n 2, 1) := by decide +kernel
theorem dX9_likely_9 : decode cX9_likely 9 = .ok (.iload_n 2, 1) := by decide +kernel
theorem dX9_likely_10 : decode cX9_likely 10 = .ok (.aload_n 0, 1) := by decide +kernel
theorem dX9_likely_11 : decode cX9_likely 11 = .ok (.invokevirtual 108, 3) := by decide +kernel
theorem dX9_likely_14 : decode cX9_likely 14 = .ok (.if_icmp .ge 27, 3) := by decide +kernel
theorem dX9_likely_17 : decode cX9_likely 17 = .ok (.aload_n 0, 1) := by decide +kernel
theorem dX9_likely_18 : decode cX9_likely 18 = .ok (.getfield 52, 3) := by decide +kernel
theorem dX9_likely_21 : decode cX9_likely 21 = .ok (.iload_n 2, 1) := by decide +kernel
theorem dX9_likely_22 : decode cX9_likely 22 = .ok (.laload, 1) := by decide +kernel
theorem dX9_likely_23 : decode cX9_likely 23 = .ok (.aload_n 0, 1) := by decide +kernel
theorem dX9_likely_24 : decode cX9_likely 24 = .ok (.getfield 52, 3) := by decide +kernel
theorem dX9_likely_27 : decode cX9_likely 27 = .ok (.iload_n 1, 1) := by decide +kernel
theorem dX9_likely_28 : decode cX9_likely 28 = .ok (.laload, 1) := by decide +kernel
theorem dX9_likely_29 : decode cX9_likely 29 = .ok (.lcmp, 1) := by decide +kernel
theorem dX9_likely_30 : decode cX9_likely 30 = .ok (.ifCond .le 5, 3) := by decide +kernel
theorem dX9_likely_33 : decode cX9_likely 33 = .ok (.iload_n 2, 1) := by decide +kernel
theorem dX9_likely_34 : decode cX9_likely 34 = .ok (.istore_n 1, 1) := by decide +kernel
theorem dX9_likely_35 : decode cX9_likely 35 = .ok (.iinc 2 1, 3) := by decide +kernel
theorem dX9_likely_38 : decode cX9_likely 38 = .ok (.goto (-29), 3) := by decide +kernel
theorem dX9_likely_41 : decode cX9_likely 41 = .ok (.iload_n 1, 1) := by decide +kernel
theorem dX9_likely_42 : decode cX9_likely 42 = .ok (.ireturn, 1) := by decide +kernel
theorem dX9_span_0 : decode cX9_span 0 = .ok (.aload_n 0, 1) := by decide +kernel
theorem dX9_span_1 : decode cX9_span 1 = .ok (.iconst 0, 1) := by decide +kernel
theorem dX9_span_2 : decode cX9_span 2 = .ok (.putfield 1, 3) := by decide +kernel
theorem dX9_span_5 : decode cX9_span 5 = .ok (.iload_n 1, 1) := by decide +kernel
theorem dX9_span_6 : decode cX9_span 6 = .ok (.ifCond .lt 8, 3) := by decide +kernel
theorem dX9_span_9 : decode cX9_span 9 = .ok (.iload_n 1, 1) := by decide +kernel
theorem dX9_span_10 : decode cX9_span 10 = .ok (.iconst 4, 1) := by decide +kernel
theorem dX9_span_11 : decode cX9_span 11 = .ok (.if_icmp .le 5, 3) := by decide +kernel
theorem dX9_span_14 : decode cX9_span 14 = .ok (.iconst (-1), 1) := by decide +kernel
theorem dX9_span_15 : decode cX9_span 15 = .ok (.ireturn, 1) := by decide +kernel
theorem dX9_span_16 : decode cX9_span 16 = .ok (.iload_n 1, 1) := by decide +kernel
theorem dX9_span_17 : decode cX9_span 17 = .ok (.iconst 4, 1) := by decide +kernel
theorem dX9_span_18 : decode cX9_span 18 = .ok (.if_icmp .ne 8, 3) := by decide +kernel
theorem dX9_span_21 : decode cX9_span 21 = .ok (.aload_n 0, 1) := by decide +kernel
theorem dX9_span_22 : decode cX9_span 22 = .ok (.invokevirtual 150, 3) := by decide +kernel
theorem dX9_span_25 : decode cX9_span 25 = .ok (.ireturn, 1) := by decide +kernel
theorem dX9_span_26 : decode cX9_span 26 = .ok (.iconst (-1), 1) := by decide +kernel
theorem dX9_span_27 : decode cX9_span 27 = .ok (.istore_n 2, 1) := by decide +kernel
theorem dX9_span_28 : decode cX9_span 28 = .ok (.iconst 0, 1) := by decide +kernel
theorem dX9_span_29 : decode cX9_span 29 = .ok (.istore_n 3, 1) := by decide +kernel
theorem dX9_span_30 : decode cX9_span 30 = .ok (.iload_n 3, 1) := by decide +kernel
theorem dX9_span_31 : decode cX9_span 31 = .ok (.aload_n 0, 1) := by decide +kernel
theorem dX9_span_32 : decode cX9_span 32 = .ok (.invokevirtual 108, 3) := by decide +kernel
theorem dX9_span_35 : decode cX9_span 35 = .ok (.if_icmp .ge 77, 3) := by decide +kernel
theorem dX9_span_38 : decode cX9_span 38 = .ok (.aload_n 0, 1) := by decide +kernel
theorem dX9_span_39 : decode cX9_span 39 = .ok (.getfield 52, 3) := by decide +kernel
theorem dX9_span_42 : decode cX9_span 42 = .ok (.iload_n 3, 1) := by decide +kernel
theorem dX9_span_43 : decode cX9_span 43 = .ok (.laload, 1) := by decide +kernel
theorem dX9_span_44 : decode cX9_span 44 = .ok (.lconst 0, 1) := by decide +kernel
theorem dX9_span_45 : decode cX9_span 45 = .ok (.lcmp, 1) := by decide +kernel
theorem dX9_span_46 : decode cX9_span 46 = .ok (.ifCond .ne 6, 3) := by decide +kernel
theorem dX9_span_49 : decode cX9_span 49 = .ok (.goto 57, 3) := by decide +kernel
theorem dX9_span_52 : decode cX9_span 52 = .ok (.iload_n 1, 1) := by decide +kernel
theorem dX9_span_53 : decode cX9_span 53 = .ok (.iconst 2, 1) := by decide +kernel
theorem dX9_span_54 : decode cX9_span 54 = .ok (.if_icmp .ge 12, 3) := by decide +kernel
theorem dX9_span_57 : decode cX9_span 57 = .ok (.iload_n 3, 1) := by decide +kernel
theorem dX9_span_58 : decode cX9_span 58 = .ok (.aload_n 0, 1) := by decide +kernel
theorem dX9_span_59 : decode cX9_span 59 = .ok (.getfield 43, 3) := by decide +kernel
theorem dX9_span_62 : decode cX9_span 62 = .ok (.irem, 1) := by decide +kernel
theorem dX9_span_63 : decode cX9_span 63 = .ok (.goto 9, 3) := by decide +kernel
theorem dX9_span_66 : decode cX9_span 66 = .ok (.iload_n 3, 1) := by decide +kernel
theorem dX9_span_67 : decode cX9_span 67 = .ok (.aload_n 0, 1) := by decide +kernel
theorem dX9_span_68 : decode cX9_span 68 = .ok (.getfield 43, 3) := by decide +kernel
theorem dX9_span_71 : decode cX9_span 71 = .ok (.idiv, 1) := by decide +kernel
theorem dX9_span_72 : decode cX9_span 72 = .ok (.istore 4, 2) := by decide +kernel
theorem dX9_span_74 : decode cX9_span 74 = .ok (.iload_n 2, 1) := by decide +kernel
theorem dX9_span_75 : decode cX9_span 75 = .ok (.ifCond .lt 24, 3) := by decide +kernel
theorem dX9_span_78 : decode cX9_span 78 = .ok (.iload_n 1, 1) := by decide +kernel
theorem dX9_span_79 : decode cX9_span 79 = .ok (.iconst 2, 1) := by decide +kernel
theorem dX9_span_80 : decode cX9_span 80 = .ok (.irem, 1) := by decide +kernel
theorem dX9_span_81 : decode cX9_span 81 = .ok (.ifCond .ne 12, 3) := by decide +kernel
theorem dX9_span_84 : decode cX9_span 84 = .ok (.iload 4, 2) := by decide +kernel
theorem dX9_span_86 : decode cX9_span 86 = .ok (.iload_n 2, 1) := by decide +kernel
theorem dX9_span_87 : decode cX9_span 87 = .ok (.if_icmp .ge 17, 3) := by decide +kernel
theorem dX9_span_90 : decode cX9_span 90 = .ok (.goto 9, 3) := by decide +kernel
theorem dX9_span_93 : decode cX9_span 93 = .ok (.iload 4, 2) := by decide +kernel
theorem dX9_span_95 : decode cX9_span 95 = .ok (.iload_n 2, 1) := by decide +kernel
theorem dX9_span_96 : decode cX9_span 96 = .ok (.if_icmp .le 8, 3) := by decide +kernel
theorem dX9_span_99 : decode cX9_span 99 = .ok (.iload 4, 2) := by decide +kernel
theorem dX9_span_101 : decode cX9_span 101 = .ok (.goto 4, 3) := by decide +kernel
theorem dX9_span_104 : decode cX9_span 104 = .ok (.iload_n 2, 1) := by decide +kernel
theorem dX9_span_105 : decode cX9_span 105 = .ok (.istore_n 2, 1) := by decide +kernel
theorem dX9_span_106 : decode cX9_span 106 = .ok (.iinc 3 1, 3) := by decide +kernel
theorem dX9_span_109 : decode cX9_span 109 = .ok (.goto (-79), 3) := by decide +kernel
theorem dX9_span_112 : decode cX9_span 112 = .ok (.iload_n 2, 1) := by decide +kernel
theorem dX9_span_113 : decode cX9_span 113 = .ok (.ireturn, 1) := by decide +kernel
theorem dX9_errs_0 : decode cX9_errs 0 = .ok (.iconst 0, 1) := by decide +kernel
theorem dX9_errs_1 : decode cX9_errs 1 = .ok (.istore_n 3, 1) := by decide +kernel
theorem dX9_errs_2 : decode cX9_errs 2 = .ok (.iconst 0, 1) := by decide +kernel
theorem dX9_errs_3 : decode cX9_errs 3 = .ok (.istore 4, 2) := by decide +kernel
theorem dX9_errs_5 : decode cX9_errs 5 = .ok (.iload 4, 2) := by decide +kernel
theorem dX9_errs_7 : decode cX9_errs 7 = .ok (.aload_n 0, 1) := by decide +kernel
theorem dX9_errs_8 : decode cX9_errs 8 = .ok (.getfield 133, 3) := by decide +kernel
theorem dX9_errs_11 : decode cX9_errs 11 = .ok (.if_icmp .ge 56, 3) := by decide +kernel
theorem dX9_errs_14 : decode cX9_errs 14 = .ok (.iload_n 3, 1) := by decide +kernel
theorem dX9_errs_15 : decode cX9_errs 15 = .ok (.aload_n 0, 1) := by decide +kernel
theorem dX9_errs_16 : decode cX9_errs 16 = .ok (.getfield 65, 3) := by decide +kernel
theorem dX9_errs_19 : decode cX9_errs 19 = .ok (.iload 4, 2) := by decide +kernel
theorem dX9_errs_21 : decode cX9_errs 21 = .ok (.iaload, 1) := by decide +kernel
theorem dX9_errs_22 : decode cX9_errs 22 = .ok (.iload_n 2, 1) := by decide +kernel
theorem dX9_errs_23 : decode cX9_errs 23 = .ok (.if_icmp .ne 35, 3) := by decide +kernel
theorem dX9_errs_26 : decode cX9_errs 26 = .ok (.aload_n 0, 1) := by decide +kernel
theorem dX9_errs_27 : decode cX9_errs 27 = .ok (.getfield 27, 3) := by decide +kernel
theorem dX9_errs_30 : decode cX9_errs 30 = .ok (.iload_n 1, 1) := by decide +kernel
theorem dX9_errs_31 : decode cX9_errs 31 = .ok (.iaload, 1) := by decide +kernel
theorem dX9_errs_32 : decode cX9_errs 32 = .ok (.sipush 255, 3) := by decide +kernel
theorem dX9_errs_35 : decode cX9_errs 35 = .ok (.if_icmp .eq 23, 3) := by decide +kernel
theorem dX9_errs_38 : decode cX9_errs 38 = .ok (.aload_n 0, 1) := by decide +kernel
theorem dX9_errs_39 : decode cX9_errs 39 = .ok (.getfield 27, 3) := by decide +kernel
theorem dX9_errs_42 : decode cX9_errs 42 = .ok (.iload_n 1, 1) := by decide +kernel
theorem dX9_errs_43 : decode cX9_errs 43 = .ok (.iaload, 1) := by decide +kernel
theorem dX9_errs_44 : decode cX9_errs 44 = .ok (.aload_n 0, 1) := by decide +kernel
theorem dX9_errs_45 : decode cX9_errs 45 = .ok (.getfield 68, 3) := by decide +kernel
theorem dX9_errs_48 : decode cX9_errs 48 = .ok (.iload 4, 2) := by decide +kernel
theorem dX9_errs_50 : decode cX9_errs 50 = .ok (.iaload, 1) := by decide +kernel
theorem dX9_errs_51 : decode cX9_errs 51 = .ok (.isub, 1) := by decide +kernel
theorem dX9_errs_52 : decode cX9_errs 52 = .ok (.invokestatic 127, 3) := by decide +kernel
theorem dX9_errs_55 : decode cX9_errs 55 = .ok (.goto 4, 3) := by decide +kernel
theorem dX9_errs_58 : decode cX9_errs 58 = .ok (.iconst 0, 1) := by decide +kernel
theorem dX9_errs_59 : decode cX9_errs 59 = .ok (.iadd, 1) := by decide +kernel
theorem dX9_errs_60 : decode cX9_errs 60 = .ok (.istore_n 3, 1) := by decide +kernel
theorem dX9_errs_61 : decode cX9_errs 61 = .ok (.iinc 4 1, 3) := by decide +kernel
theorem dX9_errs_64 : decode cX9_errs 64 = .ok (.goto (-59), 3) := by decide +kernel
theorem dX9_errs_67 : decode cX9_errs 67 = .ok (.iload_n 3, 1) := by decide +kernel
theorem dX9_errs_68 : decode cX9_errs 68 = .ok (.ireturn, 1) := by decide +kernel
theorem dX9_isBetter_0 : decode cX9_isBetter 0 = .ok (.aload_n 0, 1) := by decide +kernel
theorem dX9_isBetter_1 : decode cX9_isBetter 1 = .ok (.getfield 89, 3) := by decide +kernel
theorem dX9_isBetter_4 : decode cX9_isBetter 4 = .ok (.iload 5, 2) := by decide +kernel
theorem dX9_isBetter_6 : decode cX9_isBetter 6 = .ok (.laload, 1) := by decide +kernel
theorem dX9_isBetter_7 : decode cX9_isBetter 7 = .ok (.lconst 0, 1) := by decide +kernel
theorem dX9_isBetter_8 : decode cX9_isBetter 8 = .ok (.lcmp, 1) := by decide +kernel
theorem dX9_isBetter_9 : decode cX9_isBetter 9 = .ok (.ifCond .eq 14, 3) := by decide +kernel
theorem dX9_isBetter_12 : decode cX9_isBetter 12 = .ok (.iload_n 1, 1) := by decide +kernel
theorem dX9_isBetter_13 : decode cX9_isBetter 13 = .ok (.aload_n 0, 1) := by decide +kernel
theorem dX9_isBetter_14 : decode cX9_isBetter 14 = .ok (.getfield 74, 3) := by decide +kernel
theorem dX9_isBetter_17 : decode cX9_isBetter 17 = .ok (.iload 5, 2) := by decide +kernel
theorem dX9_isBetter_19 : decode cX9_isBetter 19 = .ok (.iaload, 1) := by decide +kernel
theorem dX9_isBetter_20 : decode cX9_isBetter 20 = .ok (.if_icmp .eq 32, 3) := by decide +kernel
theorem dX9_isBetter_23 : decode cX9_isBetter 23 = .ok (.aload_n 0, 1) := by decide +kernel
theorem dX9_isBetter_24 : decode cX9_isBetter 24 = .ok (.getfield 89, 3) := by decide +kernel
theorem dX9_isBetter_27 : decode cX9_isBetter 27 = .ok (.iload 5, 2) := by decide +kernel
theorem dX9_isBetter_29 : decode cX9_isBetter 29 = .ok (.laload, 1) := by decide +kernel
theorem dX9_isBetter_30 : decode cX9_isBetter 30 = .ok (.lconst 0, 1) := by decide +kernel
theorem dX9_isBetter_31 : decode cX9_isBetter 31 = .ok (.lcmp, 1) := by decide +kernel
theorem dX9_isBetter_32 : decode cX9_isBetter 32 = .ok (.ifCond .eq 14, 3) := by decide +kernel
theorem dX9_isBetter_35 : decode cX9_isBetter 35 = .ok (.iload_n 1, 1) := by decide +kernel
theorem dX9_isBetter_36 : decode cX9_isBetter 36 = .ok (.aload_n 0, 1) := by decide +kernel
theorem dX9_isBetter_37 : decode cX9_isBetter 37 = .ok (.getfield 74, 3) := by decide +kernel
theorem dX9_isBetter_40 : decode cX9_isBetter 40 = .ok (.iload 5, 2) := by decide +kernel
theorem dX9_isBetter_42 : decode cX9_isBetter 42 = .ok (.iaload, 1) := by decide +kernel
theorem dX9_isBetter_43 : decode cX9_isBetter 43 = .ok (.if_icmp .ge 7, 3) := by decide +kernel
theorem dX9_isBetter_46 : decode cX9_isBetter 46 = .ok (.iconst 1, 1) := by decide +kernel
theorem dX9_isBetter_47 : decode cX9_isBetter 47 = .ok (.goto 4, 3) := by decide +kernel
theorem dX9_isBetter_50 : decode cX9_isBetter 50 = .ok (.iconst 0, 1) := by decide +kernel
theorem dX9_isBetter_51 : decode cX9_isBetter 51 = .ok (.ireturn, 1) := by decide +kernel
theorem dX9_isBetter_52 : decode cX9_isBetter 52 = .ok (.lload_n 2, 1) := by decide +kernel
theorem dX9_isBetter_53 : decode cX9_isBetter 53 = .ok (.aload_n 0, 1) := by decide +kernel
theorem dX9_isBetter_54 : decode cX9_isBetter 54 = .ok (.getfield 89, 3) := by decide +kernel
theorem dX9_isBetter_57 : decode cX9_isBetter 57 = .ok (.iload 5, 2) := by decide +kernel
theorem dX9_isBetter_59 : decode cX9_isBetter 59 = .ok (.laload, 1) := by decide +kernel
theorem dX9_isBetter_60 : decode cX9_isBetter 60 = .ok (.lcmp, 1) := by decide +kernel
theorem dX9_isBetter_61 : decode cX9_isBetter 61 = .ok (.ifCond .eq 21, 3) := by decide +kernel
theorem dX9_isBetter_64 : decode cX9_isBetter 64 = .ok (.lload_n 2, 1) := by decide +kernel
theorem dX9_isBetter_65 : decode cX9_isBetter 65 = .ok (.aload_n 0, 1) := by decide +kernel
theorem dX9_isBetter_66 : decode cX9_isBetter 66 = .ok (.getfield 89, 3) := by decide +kernel
theorem dX9_isBetter_69 : decode cX9_isBetter 69 = .ok (.iload 5, 2) := by decide +kernel
theorem dX9_isBetter_71 : decode cX9_isBetter 71 = .ok (.laload, 1) := by decide +kernel
theorem dX9_isBetter_72 : decode cX9_isBetter 72 = .ok (.lcmp, 1) := by decide +kernel
theorem dX9_isBetter_73 : decode cX9_isBetter 73 = .ok (.ifCond .le 7, 3) := by decide +kernel
theorem dX9_isBetter_76 : decode cX9_isBetter 76 = .ok (.iconst 1, 1) := by decide +kernel
theorem dX9_isBetter_77 : decode cX9_isBetter 77 = .ok (.goto 4, 3) := by decide +kernel
theorem dX9_isBetter_80 : decode cX9_isBetter 80 = .ok (.iconst 0, 1) := by decide +kernel
theorem dX9_isBetter_81 : decode cX9_isBetter 81 = .ok (.ireturn, 1) := by decide +kernel
theorem dX9_isBetter_82 : decode cX9_isBetter 82 = .ok (.iconst 0, 1) := by decide +kernel
theorem dX9_isBetter_83 : decode cX9_isBetter 83 = .ok (.istore 7, 2) := by decide +kernel
theorem dX9_isBetter_85 : decode cX9_isBetter 85 = .ok (.iload 7, 2) := by decide +kernel
theorem dX9_isBetter_87 : decode cX9_isBetter 87 = .ok (.iload 6, 2) := by decide +kernel
theorem dX9_isBetter_89 : decode cX9_isBetter 89 = .ok (.if_icmp .ge 73, 3) := by decide +kernel
theorem dX9_isBetter_92 : decode cX9_isBetter 92 = .ok (.aload_n 0, 1) := by decide +kernel
theorem dX9_isBetter_93 : decode cX9_isBetter 93 = .ok (.getfield 77, 3) := by decide +kernel
theorem dX9_isBetter_96 : decode cX9_isBetter 96 = .ok (.bipush 13, 2) := by decide +kernel
theorem dX9_isBetter_98 : decode cX9_isBetter 98 = .ok (.iload 4, 2) := by decide +kernel
theorem dX9_isBetter_100 : decode cX9_isBetter 100 = .ok (.imul, 1) := by decide +kernel
theorem dX9_isBetter_101 : decode cX9_isBetter 101 = .ok (.iload 7, 2) := by decide +kernel
theorem dX9_isBetter_103 : decode cX9_isBetter 103 = .ok (.iadd, 1) := by decide +kernel
theorem dX9_isBetter_104 : decode cX9_isBetter 104 = .ok (.iaload, 1) := by decide +kernel
theorem dX9_isBetter_105 : decode cX9_isBetter 105 = .ok (.aload_n 0, 1) := by decide +kernel
theorem dX9_isBetter_106 : decode cX9_isBetter 106 = .ok (.getfield 80, 3) := by decide +kernel
theorem dX9_isBetter_109 : decode cX9_isBetter 109 = .ok (.bipush 13, 2) := by decide +kernel
theorem dX9_isBetter_111 : decode cX9_isBetter 111 = .ok (.iload 5, 2) := by decide +kernel
theorem dX9_isBetter_113 : decode cX9_isBetter 113 = .ok (.imul, 1) := by decide +kernel
theorem dX9_isBetter_114 : decode cX9_isBetter 114 = .ok (.iload 7, 2) := by decide +kernel
theorem dX9_isBetter_116 : decode cX9_isBetter 116 = .ok (.iadd, 1) := by decide +kernel
theorem dX9_isBetter_117 : decode cX9_isBetter 117 = .ok (.iaload, 1) := by decide +kernel
theorem dX9_isBetter_118 : decode cX9_isBetter 118 = .ok (.if_icmp .eq 38, 3) := by decide +kernel
theorem dX9_isBetter_121 : decode cX9_isBetter 121 = .ok (.aload_n 0, 1) := by decide +kernel
theorem dX9_isBetter_122 : decode cX9_isBetter 122 = .ok (.getfield 77, 3) := by decide +kernel
theorem dX9_isBetter_125 : decode cX9_isBetter 125 = .ok (.bipush 13, 2) := by decide +kernel
theorem dX9_isBetter_127 : decode cX9_isBetter 127 = .ok (.iload 4, 2) := by decide +kernel
theorem dX9_isBetter_129 : decode cX9_isBetter 129 = .ok (.imul, 1) := by decide +kernel
theorem dX9_isBetter_130 : decode cX9_isBetter 130 = .ok (.iload 7, 2) := by decide +kernel
theorem dX9_isBetter_132 : decode cX9_isBetter 132 = .ok (.iadd, 1) := by decide +kernel
theorem dX9_isBetter_133 : decode cX9_isBetter 133 = .ok (.iaload, 1) := by decide +kernel
theorem dX9_isBetter_134 : decode cX9_isBetter 134 = .ok (.aload_n 0, 1) := by decide +kernel
theorem dX9_isBetter_135 : decode cX9_isBetter 135 = .ok (.getfield 80, 3) := by decide +kernel
theorem dX9_isBetter_138 : decode cX9_isBetter 138 = .ok (.bipush 13, 2) := by decide +kernel
theorem dX9_isBetter_140 : decode cX9_isBetter 140 = .ok (.iload 5, 2) := by decide +kernel
theorem dX9_isBetter_142 : decode cX9_isBetter 142 = .ok (.imul, 1) := by decide +kernel
theorem dX9_isBetter_143 : decode cX9_isBetter 143 = .ok (.iload 7, 2) := by decide +kernel
theorem dX9_isBetter_145 : decode cX9_isBetter 145 = .ok (.iadd, 1) := by decide +kernel
theorem dX9_isBetter_146 : decode cX9_isBetter 146 = .ok (.iaload, 1) := by decide +kernel
theorem dX9_isBetter_147 : decode cX9_isBetter 147 = .ok (.if_icmp .ge 7, 3) := by decide +kernel
theorem dX9_isBetter_150 : decode cX9_isBetter 150 = .ok (.iconst 1, 1) := by decide +kernel
theorem dX9_isBetter_151 : decode cX9_isBetter 151 = .ok (.goto 4, 3) := by decide +kernel
theorem dX9_isBetter_154 : decode cX9_isBetter 154 = .ok (.iconst 0, 1) := by decide +kernel
theorem dX9_isBetter_155 : decode cX9_isBetter 155 = .ok (.ireturn, 1) := by decide +kernel
theorem dX9_isBetter_156 : decode cX9_isBetter 156 = .ok (.iinc 7 1, 3) := by decide +kernel
theorem dX9_isBetter_159 : decode cX9_isBetter 159 = .ok (.goto (-74), 3) := by decide +kernel
theorem dX9_isBetter_162 : decode cX9_isBetter 162 = .ok (.iconst 0, 1) := by decide +kernel
theorem dX9_isBetter_163 : decode cX9_isBetter 163 = .ok (.ireturn, 1) := by decide +kernel
theorem dX9_best_0 : decode cX9_best 0 = .ok (.aload_n 0, 1) := by decide +kernel
theorem dX9_best_1 : decode cX9_best 1 = .ok (.iconst 0, 1) := by decide +kernel
theorem dX9_best_2 : decode cX9_best 2 = .ok (.putfield 1, 3) := by decide +kernel
theorem dX9_best_5 : decode cX9_best 5 = .ok (.iconst 0, 1) := by decide +kernel
theorem dX9_best_6 : decode cX9_best 6 = .ok (.istore_n 1, 1) := by decide +kernel
theorem dX9_best_7 : decode cX9_best 7 = .ok (.iload_n 1, 1) := by decide +kernel
theorem dX9_best_8 : decode cX9_best 8 = .ok (.aload_n 0, 1) := by decide +kernel
theorem dX9_best_9 : decode cX9_best 9 = .ok (.invokevirtual 108, 3) := by decide +kernel
theorem dX9_best_12 : decode cX9_best 12 = .ok (.if_icmp .ge 58, 3) := by decide +kernel
theorem dX9_best_15 : decode cX9_best 15 = .ok (.aload_n 0, 1) := by decide +kernel
theorem dX9_best_16 : decode cX9_best 16 = .ok (.getfield 86, 3) := by decide +kernel
theorem dX9_best_19 : decode cX9_best 19 = .ok (.iload_n 1, 1) := by decide +kernel
theorem dX9_best_20 : decode cX9_best 20 = .ok (.aload_n 0, 1) := by decide +kernel
theorem dX9_best_21 : decode cX9_best 21 = .ok (.getfield 136, 3) := by decide +kernel
theorem dX9_best_24 : decode cX9_best 24 = .ok (.iconst (-1), 1) := by decide +kernel
theorem dX9_best_25 : decode cX9_best 25 = .ok (.if_icmp .eq 11, 3) := by decide +kernel
theorem dX9_best_28 : decode cX9_best 28 = .ok (.aload_n 0, 1) := by decide +kernel
theorem dX9_best_29 : decode cX9_best 29 = .ok (.getfield 136, 3) := by decide +kernel
theorem dX9_best_32 : decode cX9_best 32 = .ok (.iload_n 1, 1) := by decide +kernel
theorem dX9_best_33 : decode cX9_best 33 = .ok (.if_icmp .ne 7, 3) := by decide +kernel
theorem dX9_best_36 : decode cX9_best 36 = .ok (.lconst 1, 1) := by decide +kernel
theorem dX9_best_37 : decode cX9_best 37 = .ok (.goto 4, 3) := by decide +kernel
theorem dX9_best_40 : decode cX9_best 40 = .ok (.lconst 0, 1) := by decide +kernel
theorem dX9_best_41 : decode cX9_best 41 = .ok (.lastore, 1) := by decide +kernel
theorem dX9_best_42 : decode cX9_best 42 = .ok (.aload_n 0, 1) := by decide +kernel
theorem dX9_best_43 : decode cX9_best 43 = .ok (.getfield 71, 3) := by decide +kernel
theorem dX9_best_46 : decode cX9_best 46 = .ok (.iload_n 1, 1) := by decide +kernel
theorem dX9_best_47 : decode cX9_best 47 = .ok (.aload_n 0, 1) := by decide +kernel
theorem dX9_best_48 : decode cX9_best 48 = .ok (.iload_n 1, 1) := by decide +kernel
theorem dX9_best_49 : decode cX9_best 49 = .ok (.iconst 0, 1) := by decide +kernel
theorem dX9_best_50 : decode cX9_best 50 = .ok (.invokevirtual 165, 3) := by decide +kernel
theorem dX9_best_53 : decode cX9_best 53 = .ok (.iastore, 1) := by decide +kernel
theorem dX9_best_54 : decode cX9_best 54 = .ok (.aload_n 0, 1) := by decide +kernel
theorem dX9_best_55 : decode cX9_best 55 = .ok (.getfield 77, 3) := by decide +kernel
theorem dX9_best_58 : decode cX9_best 58 = .ok (.bipush 13, 2) := by decide +kernel
theorem dX9_best_60 : decode cX9_best 60 = .ok (.iload_n 1, 1) := by decide +kernel
theorem dX9_best_61 : decode cX9_best 61 = .ok (.imul, 1) := by decide +kernel
theorem dX9_best_62 : decode cX9_best 62 = .ok (.iload_n 1, 1) := by decide +kernel
theorem dX9_best_63 : decode cX9_best 63 = .ok (.iastore, 1) := by decide +kernel
theorem dX9_best_64 : decode cX9_best 64 = .ok (.iinc 1 1, 3) := by decide +kernel
theorem dX9_best_67 : decode cX9_best 67 = .ok (.goto (-60), 3) := by decide +kernel
theorem dX9_best_70 : decode cX9_best 70 = .ok (.iconst 0, 1) := by decide +kernel
theorem dX9_best_71 : decode cX9_best 71 = .ok (.istore_n 1, 1) := by decide +kernel
theorem dX9_best_72 : decode cX9_best 72 = .ok (.iload_n 1, 1) := by decide +kernel
theorem dX9_best_73 : decode cX9_best 73 = .ok (.aload_n 0, 1) := by decide +kernel
theorem dX9_best_74 : decode cX9_best 74 = .ok (.getfield 130, 3) := by decide +kernel
theorem dX9_best_77 : decode cX9_best 77 = .ok (.if_icmp .ge 319, 3) := by decide +kernel
theorem dX9_best_80 : decode cX9_best 80 = .ok (.iconst 0, 1) := by decide +kernel
theorem dX9_best_81 : decode cX9_best 81 = .ok (.istore_n 2, 1) := by decide +kernel
theorem dX9_best_82 : decode cX9_best 82 = .ok (.iload_n 2, 1) := by decide +kernel
theorem dX9_best_83 : decode cX9_best 83 = .ok (.aload_n 0, 1) := by decide +kernel
theorem dX9_best_84 : decode cX9_best 84 = .ok (.invokevirtual 108, 3) := by decide +kernel
theorem dX9_best_87 : decode cX9_best 87 = .ok (.if_icmp .ge 16, 3) := by decide +kernel
theorem dX9_best_90 : decode cX9_best 90 = .ok (.aload_n 0, 1) := by decide +kernel
theorem dX9_best_91 : decode cX9_best 91 = .ok (.getfield 89, 3) := by decide +kernel
theorem dX9_best_94 : decode cX9_best 94 = .ok (.iload_n 2, 1) := by decide +kernel
theorem dX9_best_95 : decode cX9_best 95 = .ok (.lconst 0, 1) := by decide +kernel
theorem dX9_best_96 : decode cX9_best 96 = .ok (.lastore, 1) := by decide +kernel
theorem dX9_best_97 : decode cX9_best 97 = .ok (.iinc 2 1, 3) := by decide +kernel
theorem dX9_best_100 : decode cX9_best 100 = .ok (.goto (-18), 3) := by decide +kernel
theorem dX9_best_103 : decode cX9_best 103 = .ok (.iconst 0, 1) := by decide +kernel
theorem dX9_best_104 : decode cX9_best 104 = .ok (.istore_n 2, 1) := by decide +kernel
theorem dX9_best_105 : decode cX9_best 105 = .ok (.iload_n 2, 1) := by decide +kernel
theorem dX9_best_106 : decode cX9_best 106 = .ok (.aload_n 0, 1) := by decide +kernel
theorem dX9_best_107 : decode cX9_best 107 = .ok (.invokevirtual 108, 3) := by decide +kernel
theorem dX9_best_110 : decode cX9_best 110 = .ok (.if_icmp .ge 182, 3) := by decide +kernel
theorem dX9_best_113 : decode cX9_best 113 = .ok (.iconst (-1), 1) := by decide +kernel
theorem dX9_best_114 : decode cX9_best 114 = .ok (.istore_n 3, 1) := by decide +kernel
theorem dX9_best_115 : decode cX9_best 115 = .ok (.iload_n 3, 1) := by decide +kernel
theorem dX9_best_116 : decode cX9_best 116 = .ok (.iconst 2, 1) := by decide +kernel
theorem dX9_best_117 : decode cX9_best 117 = .ok (.if_icmp .ge 169, 3) := by decide +kernel
theorem dX9_best_120 : decode cX9_best 120 = .ok (.iconst (-1), 1) := by decide +kernel
theorem dX9_best_121 : decode cX9_best 121 = .ok (.istore 4, 2) := by decide +kernel
theorem dX9_best_123 : decode cX9_best 123 = .ok (.iload 4, 2) := by decide +kernel
theorem dX9_best_125 : decode cX9_best 125 = .ok (.iconst 2, 1) := by decide +kernel
theorem dX9_best_126 : decode cX9_best 126 = .ok (.if_icmp .ge 154, 3) := by decide +kernel
theorem dX9_best_129 : decode cX9_best 129 = .ok (.aload_n 0, 1) := by decide +kernel
theorem dX9_best_130 : decode cX9_best 130 = .ok (.iload_n 2, 1) := by decide +kernel
theorem dX9_best_131 : decode cX9_best 131 = .ok (.aload_n 0, 1) := by decide +kernel
theorem dX9_best_132 : decode cX9_best 132 = .ok (.getfield 59, 3) := by decide +kernel
theorem dX9_best_135 : decode cX9_best 135 = .ok (.iload_n 1, 1) := by decide +kernel
theorem dX9_best_136 : decode cX9_best 136 = .ok (.iaload, 1) := by decide +kernel
theorem dX9_best_137 : decode cX9_best 137 = .ok (.iload_n 3, 1) := by decide +kernel
theorem dX9_best_138 : decode cX9_best 138 = .ok (.iadd, 1) := by decide +kernel
theorem dX9_best_139 : decode cX9_best 139 = .ok (.aload_n 0, 1) := by decide +kernel
theorem dX9_best_140 : decode cX9_best 140 = .ok (.getfield 62, 3) := by decide +kernel
theorem dX9_best_143 : decode cX9_best 143 = .ok (.iload_n 1, 1) := by decide +kernel
theorem dX9_best_144 : decode cX9_best 144 = .ok (.iaload, 1) := by decide +kernel
theorem dX9_best_145 : decode cX9_best 145 = .ok (.iload 4, 2) := by decide +kernel
theorem dX9_best_147 : decode cX9_best 147 = .ok (.iadd, 1) := by decide +kernel
theorem dX9_best_148 : decode cX9_best 148 = .ok (.invokevirtual 143, 3) := by decide +kernel
theorem dX9_best_151 : decode cX9_best 151 = .ok (.istore 5, 2) := by decide +kernel
theorem dX9_best_153 : decode cX9_best 153 = .ok (.aload_n 0, 1) := by decide +kernel
theorem dX9_best_154 : decode cX9_best 154 = .ok (.getfield 86, 3) := by decide +kernel
theorem dX9_best_157 : decode cX9_best 157 = .ok (.iload_n 2, 1) := by decide +kernel
theorem dX9_best_158 : decode cX9_best 158 = .ok (.laload, 1) := by decide +kernel
theorem dX9_best_159 : decode cX9_best 159 = .ok (.aload_n 0, 1) := by decide +kernel
theorem dX9_best_160 : decode cX9_best 160 = .ok (.iload_n 3, 1) := by decide +kernel
theorem dX9_best_161 : decode cX9_best 161 = .ok (.invokevirtual 147, 3) := by decide +kernel
theorem dX9_best_164 : decode cX9_best 164 = .ok (.i2l, 1) := by decide +kernel
theorem dX9_best_165 : decode cX9_best 165 = .ok (.lmul, 1) := by decide +kernel
theorem dX9_best_166 : decode cX9_best 166 = .ok (.aload_n 0, 1) := by decide +kernel
theorem dX9_best_167 : decode cX9_best 167 = .ok (.iload 4, 2) := by decide +kernel
theorem dX9_best_169 : decode cX9_best 169 = .ok (.invokevirtual 147, 3) := by decide +kernel
theorem dX9_best_172 : decode cX9_best 172 = .ok (.i2l, 1) := by decide +kernel
theorem dX9_best_173 : decode cX9_best 173 = .ok (.lmul, 1) := by decide +kernel
theorem dX9_best_174 : decode cX9_best 174 = .ok (.lstore 6, 2) := by decide +kernel
theorem dX9_best_176 : decode cX9_best 176 = .ok (.iload 5, 2) := by decide +kernel
theorem dX9_best_178 : decode cX9_best 178 = .ok (.ifCond .lt 96, 3) := by decide +kernel
theorem dX9_best_181 : decode cX9_best 181 = .ok (.lload 6, 2) := by decide +kernel
theorem dX9_best_183 : decode cX9_best 183 = .ok (.lconst 0, 1) := by decide +kernel
theorem dX9_best_184 : decode cX9_best 184 = .ok (.lcmp, 1) := by decide +kernel
theorem dX9_best_185 : decode cX9_best 185 = .ok (.ifCond .eq 89, 3) := by decide +kernel
theorem dX9_best_188 : decode cX9_best 188 = .ok (.aload_n 0, 1) := by decide +kernel
theorem dX9_best_189 : decode cX9_best 189 = .ok (.aload_n 0, 1) := by decide +kernel
theorem dX9_best_190 : decode cX9_best 190 = .ok (.getfield 71, 3) := by decide +kernel
theorem dX9_best_193 : decode cX9_best 193 = .ok (.iload_n 2, 1) := by decide +kernel
theorem dX9_best_194 : decode cX9_best 194 = .ok (.iaload, 1) := by decide +kernel
theorem dX9_best_195 : decode cX9_best 195 = .ok (.lload 6, 2) := by decide +kernel
theorem dX9_best_197 : decode cX9_best 197 = .ok (.iload_n 2, 1) := by decide +kernel
theorem dX9_best_198 : decode cX9_best 198 = .ok (.iload 5, 2) := by decide +kernel
theorem dX9_best_200 : decode cX9_best 200 = .ok (.iload_n 1, 1) := by decide +kernel
theorem dX9_best_201 : decode cX9_best 201 = .ok (.iconst 1, 1) := by decide +kernel
theorem dX9_best_202 : decode cX9_best 202 = .ok (.iadd, 1) := by decide +kernel
theorem dX9_best_203 : decode cX9_best 203 = .ok (.invokevirtual 169, 3) := by decide +kernel
theorem dX9_best_206 : decode cX9_best 206 = .ok (.ifCond .ne 6, 3) := by decide +kernel
theorem dX9_best_209 : decode cX9_best 209 = .ok (.goto 65, 3) := by decide +kernel
theorem dX9_best_212 : decode cX9_best 212 = .ok (.aload_n 0, 1) := by decide +kernel
theorem dX9_best_213 : decode cX9_best 213 = .ok (.getfield 89, 3) := by decide +kernel
theorem dX9_best_216 : decode cX9_best 216 = .ok (.iload 5, 2) := by decide +kernel
theorem dX9_best_218 : decode cX9_best 218 = .ok (.lload 6, 2) := by decide +kernel
theorem dX9_best_220 : decode cX9_best 220 = .ok (.lastore, 1) := by decide +kernel
theorem dX9_best_221 : decode cX9_best 221 = .ok (.aload_n 0, 1) := by decide +kernel
theorem dX9_best_222 : decode cX9_best 222 = .ok (.getfield 74, 3) := by decide +kernel
theorem dX9_best_225 : decode cX9_best 225 = .ok (.iload 5, 2) := by decide +kernel
theorem dX9_best_227 : decode cX9_best 227 = .ok (.aload_n 0, 1) := by decide +kernel
theorem dX9_best_228 : decode cX9_best 228 = .ok (.getfield 71, 3) := by decide +kernel
theorem dX9_best_231 : decode cX9_best 231 = .ok (.iload_n 2, 1) := by decide +kernel
theorem dX9_best_232 : decode cX9_best 232 = .ok (.iaload, 1) := by decide +kernel
theorem dX9_best_233 : decode cX9_best 233 = .ok (.iastore, 1) := by decide +kernel
theorem dX9_best_234 : decode cX9_best 234 = .ok (.iconst 0, 1) := by decide +kernel
theorem dX9_best_235 : decode cX9_best 235 = .ok (.istore 8, 2) := by decide +kernel
theorem dX9_best_237 : decode cX9_best 237 = .ok (.iload 8, 2) := by decide +kernel
theorem dX9_best_239 : decode cX9_best 239 = .ok (.iload_n 1, 1) := by decide +kernel
theorem dX9_best_240 : decode cX9_best 240 = .ok (.if_icmp .gt 34, 3) := by decide +kernel
theorem dX9_best_243 : decode cX9_best 243 = .ok (.aload_n 0, 1) := by decide +kernel
theorem dX9_best_244 : decode cX9_best 244 = .ok (.getfield 80, 3) := by decide +kernel
theorem dX9_best_247 : decode cX9_best 247 = .ok (.bipush 13, 2) := by decide +kernel
theorem dX9_best_249 : decode cX9_best 249 = .ok (.iload 5, 2) := by decide +kernel
theorem dX9_best_251 : decode cX9_best 251 = .ok (.imul, 1) := by decide +kernel
theorem dX9_best_252 : decode cX9_best 252 = .ok (.iload 8, 2) := by decide +kernel
theorem dX9_best_254 : decode cX9_best 254 = .ok (.iadd, 1) := by decide +kernel
theorem dX9_best_255 : decode cX9_best 255 = .ok (.aload_n 0, 1) := by decide +kernel
theorem dX9_best_256 : decode cX9_best 256 = .ok (.getfield 77, 3) := by decide +kernel
theorem dX9_best_259 : decode cX9_best 259 = .ok (.bipush 13, 2) := by decide +kernel
theorem dX9_best_261 : decode cX9_best 261 = .ok (.iload_n 2, 1) := by decide +kernel
theorem dX9_best_262 : decode cX9_best 262 = .ok (.imul, 1) := by decide +kernel
theorem dX9_best_263 : decode cX9_best 263 = .ok (.iload 8, 2) := by decide +kernel
theorem dX9_best_265 : decode cX9_best 265 = .ok (.iadd, 1) := by decide +kernel
theorem dX9_best_266 : decode cX9_best 266 = .ok (.iaload, 1) := by decide +kernel
theorem dX9_best_267 : decode cX9_best 267 = .ok (.iastore, 1) := by decide +kernel
theorem dX9_best_268 : decode cX9_best 268 = .ok (.iinc 8 1, 3) := by decide +kernel
theorem dX9_best_271 : decode cX9_best 271 = .ok (.goto (-34), 3) := by decide +kernel
theorem dX9_best_274 : decode cX9_best 274 = .ok (.iinc 4 1, 3) := by decide +kernel
theorem dX9_best_277 : decode cX9_best 277 = .ok (.goto (-154), 3) := by decide +kernel
theorem dX9_best_280 : decode cX9_best 280 = .ok (.iinc 3 1, 3) := by decide +kernel
theorem dX9_best_283 : decode cX9_best 283 = .ok (.goto (-168), 3) := by decide +kernel
theorem dX9_best_286 : decode cX9_best 286 = .ok (.iinc 2 1, 3) := by decide +kernel
theorem dX9_best_289 : decode cX9_best 289 = .ok (.goto (-184), 3) := by decide +kernel
theorem dX9_best_292 : decode cX9_best 292 = .ok (.iconst 0, 1) := by decide +kernel
theorem dX9_best_293 : decode cX9_best 293 = .ok (.istore_n 2, 1) := by decide +kernel
theorem dX9_best_294 : decode cX9_best 294 = .ok (.iload_n 2, 1) := by decide +kernel
theorem dX9_best_295 : decode cX9_best 295 = .ok (.aload_n 0, 1) := by decide +kernel
theorem dX9_best_296 : decode cX9_best 296 = .ok (.invokevirtual 108, 3) := by decide +kernel
theorem dX9_best_299 : decode cX9_best 299 = .ok (.if_icmp .ge 91, 3) := by decide +kernel
theorem dX9_best_302 : decode cX9_best 302 = .ok (.aload_n 0, 1) := by decide +kernel
theorem dX9_best_303 : decode cX9_best 303 = .ok (.getfield 86, 3) := by decide +kernel
theorem dX9_best_306 : decode cX9_best 306 = .ok (.iload_n 2, 1) := by decide +kernel
theorem dX9_best_307 : decode cX9_best 307 = .ok (.aload_n 0, 1) := by decide +kernel
theorem dX9_best_308 : decode cX9_best 308 = .ok (.getfield 89, 3) := by decide +kernel
theorem dX9_best_311 : decode cX9_best 311 = .ok (.iload_n 2, 1) := by decide +kernel
theorem dX9_best_312 : decode cX9_best 312 = .ok (.laload, 1) := by decide +kernel
theorem dX9_best_313 : decode cX9_best 313 = .ok (.lastore, 1) := by decide +kernel
theorem dX9_best_314 : decode cX9_best 314 = .ok (.aload_n 0, 1) := by decide +kernel
theorem dX9_best_315 : decode cX9_best 315 = .ok (.getfield 71, 3) := by decide +kernel
theorem dX9_best_318 : decode cX9_best 318 = .ok (.iload_n 2, 1) := by decide +kernel
theorem dX9_best_319 : decode cX9_best 319 = .ok (.aload_n 0, 1) := by decide +kernel
theorem dX9_best_320 : decode cX9_best 320 = .ok (.getfield 74, 3) := by decide +kernel
theorem dX9_best_323 : decode cX9_best 323 = .ok (.iload_n 2, 1) := by decide +kernel
theorem dX9_best_324 : decode cX9_best 324 = .ok (.iaload, 1) := by decide +kernel
theorem dX9_best_325 : decode cX9_best 325 = .ok (.aload_n 0, 1) := by decide +kernel
theorem dX9_best_326 : decode cX9_best 326 = .ok (.iload_n 2, 1) := by decide +kernel
theorem dX9_best_327 : decode cX9_best 327 = .ok (.iload_n 1, 1) := by decide +kernel
theorem dX9_best_328 : decode cX9_best 328 = .ok (.iconst 1, 1) := by decide +kernel
theorem dX9_best_329 : decode cX9_best 329 = .ok (.iadd, 1) := by decide +kernel
theorem dX9_best_330 : decode cX9_best 330 = .ok (.invokevirtual 165, 3) := by decide +kernel
theorem dX9_best_333 : decode cX9_best 333 = .ok (.iadd, 1) := by decide +kernel
theorem dX9_best_334 : decode cX9_best 334 = .ok (.iastore, 1) := by decide +kernel
theorem dX9_best_335 : decode cX9_best 335 = .ok (.iconst 0, 1) := by decide +kernel
theorem dX9_best_336 : decode cX9_best 336 = .ok (.istore_n 3, 1) := by decide +kernel
theorem dX9_best_337 : decode cX9_best 337 = .ok (.iload_n 3, 1) := by decide +kernel
theorem dX9_best_338 : decode cX9_best 338 = .ok (.iload_n 1, 1) := by decide +kernel
theorem dX9_best_339 : decode cX9_best 339 = .ok (.if_icmp .gt 31, 3) := by decide +kernel
theorem dX9_best_342 : decode cX9_best 342 = .ok (.aload_n 0, 1) := by decide +kernel
theorem dX9_best_343 : decode cX9_best 343 = .ok (.getfield 77, 3) := by decide +kernel
theorem dX9_best_346 : decode cX9_best 346 = .ok (.bipush 13, 2) := by decide +kernel
theorem dX9_best_348 : decode cX9_best 348 = .ok (.iload_n 2, 1) := by decide +kernel
theorem dX9_best_349 : decode cX9_best 349 = .ok (.imul, 1) := by decide +kernel
theorem dX9_best_350 : decode cX9_best 350 = .ok (.iload_n 3, 1) := by decide +kernel
theorem dX9_best_351 : decode cX9_best 351 = .ok (.iadd, 1) := by decide +kernel
theorem dX9_best_352 : decode cX9_best 352 = .ok (.aload_n 0, 1) := by decide +kernel
theorem dX9_best_353 : decode cX9_best 353 = .ok (.getfield 80, 3) := by decide +kernel
theorem dX9_best_356 : decode cX9_best 356 = .ok (.bipush 13, 2) := by decide +kernel
theorem dX9_best_358 : decode cX9_best 358 = .ok (.iload_n 2, 1) := by decide +kernel
theorem dX9_best_359 : decode cX9_best 359 = .ok (.imul, 1) := by decide +kernel
theorem dX9_best_360 : decode cX9_best 360 = .ok (.iload_n 3, 1) := by decide +kernel
theorem dX9_best_361 : decode cX9_best 361 = .ok (.iadd, 1) := by decide +kernel
theorem dX9_best_362 : decode cX9_best 362 = .ok (.iaload, 1) := by decide +kernel
theorem dX9_best_363 : decode cX9_best 363 = .ok (.iastore, 1) := by decide +kernel
theorem dX9_best_364 : decode cX9_best 364 = .ok (.iinc 3 1, 3) := by decide +kernel
theorem dX9_best_367 : decode cX9_best 367 = .ok (.goto (-30), 3) := by decide +kernel
theorem dX9_best_370 : decode cX9_best 370 = .ok (.aload_n 0, 1) := by decide +kernel
theorem dX9_best_371 : decode cX9_best 371 = .ok (.getfield 77, 3) := by decide +kernel
theorem dX9_best_374 : decode cX9_best 374 = .ok (.bipush 13, 2) := by decide +kernel
theorem dX9_best_376 : decode cX9_best 376 = .ok (.iload_n 2, 1) := by decide +kernel
theorem dX9_best_377 : decode cX9_best 377 = .ok (.imul, 1) := by decide +kernel
theorem dX9_best_378 : decode cX9_best 378 = .ok (.iload_n 1, 1) := by decide +kernel
theorem dX9_best_379 : decode cX9_best 379 = .ok (.iadd, 1) := by decide +kernel
theorem dX9_best_380 : decode cX9_best 380 = .ok (.iconst 1, 1) := by decide +kernel
theorem dX9_best_381 : decode cX9_best 381 = .ok (.iadd, 1) := by decide +kernel
theorem dX9_best_382 : decode cX9_best 382 = .ok (.iload_n 2, 1) := by decide +kernel
theorem dX9_best_383 : decode cX9_best 383 = .ok (.iastore, 1) := by decide +kernel
theorem dX9_best_384 : decode cX9_best 384 = .ok (.iinc 2 1, 3) := by decide +kernel
theorem dX9_best_387 : decode cX9_best 387 = .ok (.goto (-93), 3) := by decide +kernel
theorem dX9_best_390 : decode cX9_best 390 = .ok (.iinc 1 1, 3) := by decide +kernel
theorem dX9_best_393 : decode cX9_best 393 = .ok (.goto (-321), 3) := by decide +kernel
theorem dX9_best_396 : decode cX9_best 396 = .ok (.iconst (-1), 1) := by decide +kernel
theorem dX9_best_397 : decode cX9_best 397 = .ok (.istore_n 1, 1) := by decide +kernel
theorem dX9_best_398 : decode cX9_best 398 = .ok (.iconst 0, 1) := by decide +kernel
theorem dX9_best_399 : decode cX9_best 399 = .ok (.istore_n 2, 1) := by decide +kernel
theorem dX9_best_400 : decode cX9_best 400 = .ok (.iload_n 2, 1) := by decide +kernel
theorem dX9_best_401 : decode cX9_best 401 = .ok (.aload_n 0, 1) := by decide +kernel
theorem dX9_best_402 : decode cX9_best 402 = .ok (.invokevirtual 108, 3) := by decide +kernel
theorem dX9_best_405 : decode cX9_best 405 = .ok (.if_icmp .ge 35, 3) := by decide +kernel
theorem dX9_best_408 : decode cX9_best 408 = .ok (.aload_n 0, 1) := by decide +kernel
theorem dX9_best_409 : decode cX9_best 409 = .ok (.getfield 86, 3) := by decide +kernel
theorem dX9_best_412 : decode cX9_best 412 = .ok (.iload_n 2, 1) := by decide +kernel
theorem dX9_best_413 : decode cX9_best 413 = .ok (.laload, 1) := by decide +kernel
theorem dX9_best_414 : decode cX9_best 414 = .ok (.lconst 0, 1) := by decide +kernel
theorem dX9_best_415 : decode cX9_best 415 = .ok (.lcmp, 1) := by decide +kernel
theorem dX9_best_416 : decode cX9_best 416 = .ok (.ifCond .le 18, 3) := by decide +kernel
theorem dX9_best_419 : decode cX9_best 419 = .ok (.iload_n 1, 1) := by decide +kernel
theorem dX9_best_420 : decode cX9_best 420 = .ok (.ifCond .lt 12, 3) := by decide +kernel
theorem dX9_best_423 : decode cX9_best 423 = .ok (.aload_n 0, 1) := by decide +kernel
theorem dX9_best_424 : decode cX9_best 424 = .ok (.iload_n 2, 1) := by decide +kernel
theorem dX9_best_425 : decode cX9_best 425 = .ok (.iload_n 1, 1) := by decide +kernel
theorem dX9_best_426 : decode cX9_best 426 = .ok (.invokevirtual 173, 3) := by decide +kernel
theorem dX9_best_429 : decode cX9_best 429 = .ok (.ifCond .eq 5, 3) := by decide +kernel
theorem dX9_best_432 : decode cX9_best 432 = .ok (.iload_n 2, 1) := by decide +kernel
theorem dX9_best_433 : decode cX9_best 433 = .ok (.istore_n 1, 1) := by decide +kernel
theorem dX9_best_434 : decode cX9_best 434 = .ok (.iinc 2 1, 3) := by decide +kernel
theorem dX9_best_437 : decode cX9_best 437 = .ok (.goto (-37), 3) := by decide +kernel
theorem dX9_best_440 : decode cX9_best 440 = .ok (.iload_n 1, 1) := by decide +kernel
theorem dX9_best_441 : decode cX9_best 441 = .ok (.ifCond .ge 5, 3) := by decide +kernel
theorem dX9_best_444 : decode cX9_best 444 = .ok (.iconst (-1), 1) := by decide +kernel
theorem dX9_best_445 : decode cX9_best 445 = .ok (.ireturn, 1) := by decide +kernel
theorem dX9_best_446 : decode cX9_best 446 = .ok (.aload_n 0, 1) := by decide +kernel
theorem dX9_best_447 : decode cX9_best 447 = .ok (.aload_n 0, 1) := by decide +kernel
theorem dX9_best_448 : decode cX9_best 448 = .ok (.getfield 130, 3) := by decide +kernel
theorem dX9_best_451 : decode cX9_best 451 = .ok (.iconst 1, 1) := by decide +kernel
theorem dX9_best_452 : decode cX9_best 452 = .ok (.iadd, 1) := by decide +kernel
theorem dX9_best_453 : decode cX9_best 453 = .ok (.putfield 176, 3) := by decide +kernel
theorem dX9_best_456 : decode cX9_best 456 = .ok (.iconst 0, 1) := by decide +kernel
theorem dX9_best_457 : decode cX9_best 457 = .ok (.istore_n 2, 1) := by decide +kernel
theorem dX9_best_458 : decode cX9_best 458 = .ok (.iload_n 2, 1) := by decide +kernel
theorem dX9_best_459 : decode cX9_best 459 = .ok (.aload_n 0, 1) := by decide +kernel
theorem dX9_best_460 : decode cX9_best 460 = .ok (.getfield 176, 3) := by decide +kernel
theorem dX9_best_463 : decode cX9_best 463 = .ok (.if_icmp .ge 26, 3) := by decide +kernel
theorem dX9_best_466 : decode cX9_best 466 = .ok (.aload_n 0, 1) := by decide +kernel
theorem dX9_best_467 : decode cX9_best 467 = .ok (.getfield 83, 3) := by decide +kernel
theorem dX9_best_470 : decode cX9_best 470 = .ok (.iload_n 2, 1) := by decide +kernel
theorem dX9_best_471 : decode cX9_best 471 = .ok (.aload_n 0, 1) := by decide +kernel
theorem dX9_best_472 : decode cX9_best 472 = .ok (.getfield 77, 3) := by decide +kernel
theorem dX9_best_475 : decode cX9_best 475 = .ok (.bipush 13, 2) := by decide +kernel
theorem dX9_best_477 : decode cX9_best 477 = .ok (.iload_n 1, 1) := by decide +kernel
theorem dX9_best_478 : decode cX9_best 478 = .ok (.imul, 1) := by decide +kernel
theorem dX9_best_479 : decode cX9_best 479 = .ok (.iload_n 2, 1) := by decide +kernel
theorem dX9_best_480 : decode cX9_best 480 = .ok (.iadd, 1) := by decide +kernel
theorem dX9_best_481 : decode cX9_best 481 = .ok (.iaload, 1) := by decide +kernel
theorem dX9_best_482 : decode cX9_best 482 = .ok (.iastore, 1) := by decide +kernel
theorem dX9_best_483 : decode cX9_best 483 = .ok (.iinc 2 1, 3) := by decide +kernel
theorem dX9_best_486 : decode cX9_best 486 = .ok (.goto (-28), 3) := by decide +kernel
theorem dX9_best_489 : decode cX9_best 489 = .ok (.aload_n 0, 1) := by decide +kernel
theorem dX9_best_490 : decode cX9_best 490 = .ok (.getfield 71, 3) := by decide +kernel
theorem dX9_best_493 : decode cX9_best 493 = .ok (.iload_n 1, 1) := by decide +kernel
theorem dX9_best_494 : decode cX9_best 494 = .ok (.iaload, 1) := by decide +kernel
theorem dX9_best_495 : decode cX9_best 495 = .ok (.ireturn, 1) := by decide +kernel
theorem dX9_isAhead_0 : decode cX9_isAhead 0 = .ok (.aload_n 0, 1) := by decide +kernel
theorem dX9_isAhead_1 : decode cX9_isAhead 1 = .ok (.getfield 71, 3) := by decide +kernel
theorem dX9_isAhead_4 : decode cX9_isAhead 4 = .ok (.iload_n 1, 1) := by decide +kernel
theorem dX9_isAhead_5 : decode cX9_isAhead 5 = .ok (.iaload, 1) := by decide +kernel
theorem dX9_isAhead_6 : decode cX9_isAhead 6 = .ok (.aload_n 0, 1) := by decide +kernel
theorem dX9_isAhead_7 : decode cX9_isAhead 7 = .ok (.getfield 71, 3) := by decide +kernel
theorem dX9_isAhead_10 : decode cX9_isAhead 10 = .ok (.iload_n 2, 1) := by decide +kernel
theorem dX9_isAhead_11 : decode cX9_isAhead 11 = .ok (.iaload, 1) := by decide +kernel
theorem dX9_isAhead_12 : decode cX9_isAhead 12 = .ok (.if_icmp .eq 24, 3) := by decide +kernel
theorem dX9_isAhead_15 : decode cX9_isAhead 15 = .ok (.aload_n 0, 1) := by decide +kernel
theorem dX9_isAhead_16 : decode cX9_isAhead 16 = .ok (.getfield 71, 3) := by decide +kernel
theorem dX9_isAhead_19 : decode cX9_isAhead 19 = .ok (.iload_n 1, 1) := by decide +kernel
theorem dX9_isAhead_20 : decode cX9_isAhead 20 = .ok (.iaload, 1) := by decide +kernel
theorem dX9_isAhead_21 : decode cX9_isAhead 21 = .ok (.aload_n 0, 1) := by decide +kernel
theorem dX9_isAhead_22 : decode cX9_isAhead 22 = .ok (.getfield 71, 3) := by decide +kernel
theorem dX9_isAhead_25 : decode cX9_isAhead 25 = .ok (.iload_n 2, 1) := by decide +kernel
theorem dX9_isAhead_26 : decode cX9_isAhead 26 = .ok (.iaload, 1) := by decide +kernel
theorem dX9_isAhead_27 : decode cX9_isAhead 27 = .ok (.if_icmp .ge 7, 3) := by decide +kernel
theorem dX9_isAhead_30 : decode cX9_isAhead 30 = .ok (.iconst 1, 1) := by decide +kernel
theorem dX9_isAhead_31 : decode cX9_isAhead 31 = .ok (.goto 4, 3) := by decide +kernel
theorem dX9_isAhead_34 : decode cX9_isAhead 34 = .ok (.iconst 0, 1) := by decide +kernel
theorem dX9_isAhead_35 : decode cX9_isAhead 35 = .ok (.ireturn, 1) := by decide +kernel
theorem dX9_isAhead_36 : decode cX9_isAhead 36 = .ok (.aload_n 0, 1) := by decide +kernel
theorem dX9_isAhead_37 : decode cX9_isAhead 37 = .ok (.getfield 86, 3) := by decide +kernel
theorem dX9_isAhead_40 : decode cX9_isAhead 40 = .ok (.iload_n 1, 1) := by decide +kernel
theorem dX9_isAhead_41 : decode cX9_isAhead 41 = .ok (.laload, 1) := by decide +kernel
theorem dX9_isAhead_42 : decode cX9_isAhead 42 = .ok (.aload_n 0, 1) := by decide +kernel
theorem dX9_isAhead_43 : decode cX9_isAhead 43 = .ok (.getfield 86, 3) := by decide +kernel
theorem dX9_isAhead_46 : decode cX9_isAhead 46 = .ok (.iload_n 2, 1) := by decide +kernel
theorem dX9_isAhead_47 : decode cX9_isAhead 47 = .ok (.laload, 1) := by decide +kernel
theorem dX9_isAhead_48 : decode cX9_isAhead 48 = .ok (.lcmp, 1) := by decide +kernel
theorem dX9_isAhead_49 : decode cX9_isAhead 49 = .ok (.ifCond .eq 25, 3) := by decide +kernel
theorem dX9_isAhead_52 : decode cX9_isAhead 52 = .ok (.aload_n 0, 1) := by decide +kernel
theorem dX9_isAhead_53 : decode cX9_isAhead 53 = .ok (.getfield 86, 3) := by decide +kernel
theorem dX9_isAhead_56 : decode cX9_isAhead 56 = .ok (.iload_n 1, 1) := by decide +kernel
theorem dX9_isAhead_57 : decode cX9_isAhead 57 = .ok (.laload, 1) := by decide +kernel
theorem dX9_isAhead_58 : decode cX9_isAhead 58 = .ok (.aload_n 0, 1) := by decide +kernel
theorem dX9_isAhead_59 : decode cX9_isAhead 59 = .ok (.getfield 86, 3) := by decide +kernel
theorem dX9_isAhead_62 : decode cX9_isAhead 62 = .ok (.iload_n 2, 1) := by decide +kernel
theorem dX9_isAhead_63 : decode cX9_isAhead 63 = .ok (.laload, 1) := by decide +kernel
theorem dX9_isAhead_64 : decode cX9_isAhead 64 = .ok (.lcmp, 1) := by decide +kernel
theorem dX9_isAhead_65 : decode cX9_isAhead 65 = .ok (.ifCond .le 7, 3) := by decide +kernel
theorem dX9_isAhead_68 : decode cX9_isAhead 68 = .ok (.iconst 1, 1) := by decide +kernel
theorem dX9_isAhead_69 : decode cX9_isAhead 69 = .ok (.goto 4, 3) := by decide +kernel
theorem dX9_isAhead_72 : decode cX9_isAhead 72 = .ok (.iconst 0, 1) := by decide +kernel
theorem dX9_isAhead_73 : decode cX9_isAhead 73 = .ok (.ireturn, 1) := by decide +kernel
theorem dX9_isAhead_74 : decode cX9_isAhead 74 = .ok (.iconst 0, 1) := by decide +kernel
theorem dX9_isAhead_75 : decode cX9_isAhead 75 = .ok (.istore_n 3, 1) := by decide +kernel
theorem dX9_isAhead_76 : decode cX9_isAhead 76 = .ok (.iload_n 3, 1) := by decide +kernel
theorem dX9_isAhead_77 : decode cX9_isAhead 77 = .ok (.aload_n 0, 1) := by decide +kernel
theorem dX9_isAhead_78 : decode cX9_isAhead 78 = .ok (.getfield 130, 3) := by decide +kernel
theorem dX9_isAhead_81 : decode cX9_isAhead 81 = .ok (.if_icmp .gt 65, 3) := by decide +kernel
theorem dX9_isAhead_84 : decode cX9_isAhead 84 = .ok (.aload_n 0, 1) := by decide +kernel
theorem dX9_isAhead_85 : decode cX9_isAhead 85 = .ok (.getfield 77, 3) := by decide +kernel
theorem dX9_isAhead_88 : decode cX9_isAhead 88 = .ok (.bipush 13, 2) := by decide +kernel
theorem dX9_isAhead_90 : decode cX9_isAhead 90 = .ok (.iload_n 1, 1) := by decide +kernel
theorem dX9_isAhead_91 : decode cX9_isAhead 91 = .ok (.imul, 1) := by decide +kernel
theorem dX9_isAhead_92 : decode cX9_isAhead 92 = .ok (.iload_n 3, 1) := by decide +kernel
theorem dX9_isAhead_93 : decode cX9_isAhead 93 = .ok (.iadd, 1) := by decide +kernel
theorem dX9_isAhead_94 : decode cX9_isAhead 94 = .ok (.iaload, 1) := by decide +kernel
theorem dX9_isAhead_95 : decode cX9_isAhead 95 = .ok (.aload_n 0, 1) := by decide +kernel
theorem dX9_isAhead_96 : decode cX9_isAhead 96 = .ok (.getfield 77, 3) := by decide +kernel
theorem dX9_isAhead_99 : decode cX9_isAhead 99 = .ok (.bipush 13, 2) := by decide +kernel
theorem dX9_isAhead_101 : decode cX9_isAhead 101 = .ok (.iload_n 2, 1) := by decide +kernel
theorem dX9_isAhead_102 : decode cX9_isAhead 102 = .ok (.imul, 1) := by decide +kernel
theorem dX9_isAhead_103 : decode cX9_isAhead 103 = .ok (.iload_n 3, 1) := by decide +kernel
theorem dX9_isAhead_104 : decode cX9_isAhead 104 = .ok (.iadd, 1) := by decide +kernel
theorem dX9_isAhead_105 : decode cX9_isAhead 105 = .ok (.iaload, 1) := by decide +kernel
theorem dX9_isAhead_106 : decode cX9_isAhead 106 = .ok (.if_icmp .eq 34, 3) := by decide +kernel
theorem dX9_isAhead_109 : decode cX9_isAhead 109 = .ok (.aload_n 0, 1) := by decide +kernel
theorem dX9_isAhead_110 : decode cX9_isAhead 110 = .ok (.getfield 77, 3) := by decide +kernel
theorem dX9_isAhead_113 : decode cX9_isAhead 113 = .ok (.bipush 13, 2) := by decide +kernel
theorem dX9_isAhead_115 : decode cX9_isAhead 115 = .ok (.iload_n 1, 1) := by decide +kernel
theorem dX9_isAhead_116 : decode cX9_isAhead 116 = .ok (.imul, 1) := by decide +kernel
theorem dX9_isAhead_117 : decode cX9_isAhead 117 = .ok (.iload_n 3, 1) := by decide +kernel
theorem dX9_isAhead_118 : decode cX9_isAhead 118 = .ok (.iadd, 1) := by decide +kernel
theorem dX9_isAhead_119 : decode cX9_isAhead 119 = .ok (.iaload, 1) := by decide +kernel
theorem dX9_isAhead_120 : decode cX9_isAhead 120 = .ok (.aload_n 0, 1) := by decide +kernel
theorem dX9_isAhead_121 : decode cX9_isAhead 121 = .ok (.getfield 77, 3) := by decide +kernel
theorem dX9_isAhead_124 : decode cX9_isAhead 124 = .ok (.bipush 13, 2) := by decide +kernel
theorem dX9_isAhead_126 : decode cX9_isAhead 126 = .ok (.iload_n 2, 1) := by decide +kernel
theorem dX9_isAhead_127 : decode cX9_isAhead 127 = .ok (.imul, 1) := by decide +kernel
theorem dX9_isAhead_128 : decode cX9_isAhead 128 = .ok (.iload_n 3, 1) := by decide +kernel
theorem dX9_isAhead_129 : decode cX9_isAhead 129 = .ok (.iadd, 1) := by decide +kernel
theorem dX9_isAhead_130 : decode cX9_isAhead 130 = .ok (.iaload, 1) := by decide +kernel
theorem dX9_isAhead_131 : decode cX9_isAhead 131 = .ok (.if_icmp .ge 7, 3) := by decide +kernel
theorem dX9_isAhead_134 : decode cX9_isAhead 134 = .ok (.iconst 1, 1) := by decide +kernel
theorem dX9_isAhead_135 : decode cX9_isAhead 135 = .ok (.goto 4, 3) := by decide +kernel
theorem dX9_isAhead_138 : decode cX9_isAhead 138 = .ok (.iconst 0, 1) := by decide +kernel
theorem dX9_isAhead_139 : decode cX9_isAhead 139 = .ok (.ireturn, 1) := by decide +kernel
theorem dX9_isAhead_140 : decode cX9_isAhead 140 = .ok (.iinc 3 1, 3) := by decide +kernel
theorem dX9_isAhead_143 : decode cX9_isAhead 143 = .ok (.goto (-67), 3) := by decide +kernel
theorem dX9_isAhead_146 : decode cX9_isAhead 146 = .ok (.iconst 0, 1) := by decide +kernel
theorem dX9_isAhead_147 : decode cX9_isAhead 147 = .ok (.ireturn, 1) := by decide +kernel
theorem dX9_path_0 : decode cX9_path 0 = .ok (.aload_n 0, 1) := by decide +kernel
theorem dX9_path_1 : decode cX9_path 1 = .ok (.iconst 0, 1) := by decide +kernel
theorem dX9_path_2 : decode cX9_path 2 = .ok (.putfield 1, 3) := by decide +kernel
theorem dX9_path_5 : decode cX9_path 5 = .ok (.iload_n 1, 1) := by decide +kernel
theorem dX9_path_6 : decode cX9_path 6 = .ok (.ifCond .lt 11, 3) := by decide +kernel
theorem dX9_path_9 : decode cX9_path 9 = .ok (.iload_n 1, 1) := by decide +kernel
theorem dX9_path_10 : decode cX9_path 10 = .ok (.aload_n 0, 1) := by decide +kernel
theorem dX9_path_11 : decode cX9_path 11 = .ok (.getfield 176, 3) := by decide +kernel
theorem dX9_path_14 : decode cX9_path 14 = .ok (.if_icmp .lt 7, 3) := by decide +kernel
theorem dX9_path_17 : decode cX9_path 17 = .ok (.iconst (-1), 1) := by decide +kernel
theorem dX9_path_18 : decode cX9_path 18 = .ok (.goto 9, 3) := by decide +kernel
theorem dX9_path_21 : decode cX9_path 21 = .ok (.aload_n 0, 1) := by decide +kernel
theorem dX9_path_22 : decode cX9_path 22 = .ok (.getfield 83, 3) := by decide +kernel
theorem dX9_path_25 : decode cX9_path 25 = .ok (.iload_n 1, 1) := by decide +kernel
theorem dX9_path_26 : decode cX9_path 26 = .ok (.iaload, 1) := by decide +kernel
theorem dX9_path_27 : decode cX9_path 27 = .ok (.ireturn, 1) := by decide +kernel
theorem dX9_pairs_0 : decode cX9_pairs 0 = .ok (.aload_n 0, 1) := by decide +kernel
theorem dX9_pairs_1 : decode cX9_pairs 1 = .ok (.invokevirtual 108, 3) := by decide +kernel
theorem dX9_pairs_4 : decode cX9_pairs 4 = .ok (.istore_n 3, 1) := by decide +kernel
theorem dX9_pairs_5 : decode cX9_pairs 5 = .ok (.iconst 0, 1) := by decide +kernel
theorem dX9_pairs_6 : decode cX9_pairs 6 = .ok (.istore 4, 2) := by decide +kernel
theorem dX9_pairs_8 : decode cX9_pairs 8 = .ok (.iload 4, 2) := by decide +kernel
theorem dX9_pairs_10 : decode cX9_pairs 10 = .ok (.iload_n 3, 1) := by decide +kernel
theorem dX9_pairs_11 : decode cX9_pairs 11 = .ok (.if_icmp .ge 26, 3) := by decide +kernel
theorem dX9_pairs_14 : decode cX9_pairs 14 = .ok (.aload_n 0, 1) := by decide +kernel
theorem dX9_pairs_15 : decode cX9_pairs 15 = .ok (.getfield 92, 3) := by decide +kernel
theorem dX9_pairs_18 : decode cX9_pairs 18 = .ok (.iload 4, 2) := by decide +kernel
theorem dX9_pairs_20 : decode cX9_pairs 20 = .ok (.iload 4, 2) := by decide +kernel
theorem dX9_pairs_22 : decode cX9_pairs 22 = .ok (.iastore, 1) := by decide +kernel
theorem dX9_pairs_23 : decode cX9_pairs 23 = .ok (.aload_n 0, 1) := by decide +kernel
theorem dX9_pairs_24 : decode cX9_pairs 24 = .ok (.getfield 95, 3) := by decide +kernel
theorem dX9_pairs_27 : decode cX9_pairs 27 = .ok (.iload 4, 2) := by decide +kernel
theorem dX9_pairs_29 : decode cX9_pairs 29 = .ok (.iconst 1, 1) := by decide +kernel
theorem dX9_pairs_30 : decode cX9_pairs 30 = .ok (.bastore, 1) := by decide +kernel
theorem dX9_pairs_31 : decode cX9_pairs 31 = .ok (.iinc 4 1, 3) := by decide +kernel
theorem dX9_pairs_34 : decode cX9_pairs 34 = .ok (.goto (-26), 3) := by decide +kernel
theorem dX9_pairs_37 : decode cX9_pairs 37 = .ok (.iconst 0, 1) := by decide +kernel
theorem dX9_pairs_38 : decode cX9_pairs 38 = .ok (.istore 4, 2) := by decide +kernel
theorem dX9_pairs_40 : decode cX9_pairs 40 = .ok (.iload 4, 2) := by decide +kernel
theorem dX9_pairs_42 : decode cX9_pairs 42 = .ok (.iload_n 3, 1) := by decide +kernel
theorem dX9_pairs_43 : decode cX9_pairs 43 = .ok (.iload_n 3, 1) := by decide +kernel
theorem dX9_pairs_44 : decode cX9_pairs 44 = .ok (.imul, 1) := by decide +kernel
theorem dX9_pairs_45 : decode cX9_pairs 45 = .ok (.if_icmp .ge 17, 3) := by decide +kernel
theorem dX9_pairs_48 : decode cX9_pairs 48 = .ok (.aload_n 0, 1) := by decide +kernel
theorem dX9_pairs_49 : decode cX9_pairs 49 = .ok (.getfield 99, 3) := by decide +kernel
theorem dX9_pairs_52 : decode cX9_pairs 52 = .ok (.iload 4, 2) := by decide +kernel
theorem dX9_pairs_54 : decode cX9_pairs 54 = .ok (.iconst 1, 1) := by decide +kernel
theorem dX9_pairs_55 : decode cX9_pairs 55 = .ok (.bastore, 1) := by decide +kernel
theorem dX9_pairs_56 : decode cX9_pairs 56 = .ok (.iinc 4 1, 3) := by decide +kernel
theorem dX9_pairs_59 : decode cX9_pairs 59 = .ok (.goto (-19), 3) := by decide +kernel
theorem dX9_pairs_62 : decode cX9_pairs 62 = .ok (.iconst 0, 1) := by decide +kernel
theorem dX9_pairs_63 : decode cX9_pairs 63 = .ok (.istore 4, 2) := by decide +kernel
theorem dX9_pairs_65 : decode cX9_pairs 65 = .ok (.iload 4, 2) := by decide +kernel
theorem dX9_pairs_67 : decode cX9_pairs 67 = .ok (.iload_n 2, 1) := by decide +kernel
theorem dX9_pairs_68 : decode cX9_pairs 68 = .ok (.if_icmp .gt 295, 3) := by decide +kernel
theorem dX9_pairs_71 : decode cX9_pairs 71 = .ok (.iconst 0, 1) := by decide +kernel
theorem dX9_pairs_72 : decode cX9_pairs 72 = .ok (.istore 5, 2) := by decide +kernel
theorem dX9_pairs_74 : decode cX9_pairs 74 = .ok (.iload 5, 2) := by decide +kernel
theorem dX9_pairs_76 : decode cX9_pairs 76 = .ok (.iload_n 3, 1) := by decide +kernel
theorem dX9_pairs_77 : decode cX9_pairs 77 = .ok (.if_icmp .ge 100, 3) := by decide +kernel
theorem dX9_pairs_80 : decode cX9_pairs 80 = .ok (.iload 4, 2) := by decide +kernel
theorem dX9_pairs_82 : decode cX9_pairs 82 = .ok (.ifCond .le 57, 3) := by decide +kernel
theorem dX9_pairs_85 : decode cX9_pairs 85 = .ok (.aload_n 0, 1) := by decide +kernel
theorem dX9_pairs_86 : decode cX9_pairs 86 = .ok (.getfield 95, 3) := by decide +kernel
theorem dX9_pairs_89 : decode cX9_pairs 89 = .ok (.iload 5, 2) := by decide +kernel
theorem dX9_pairs_91 : decode cX9_pairs 91 = .ok (.baload, 1) := by decide +kernel
theorem dX9_pairs_92 : decode cX9_pairs 92 = .ok (.ifCond .eq 47, 3) := by decide +kernel
theorem dX9_pairs_95 : decode cX9_pairs 95 = .ok (.aload_n 0, 1) := by decide +kernel
theorem dX9_pairs_96 : decode cX9_pairs 96 = .ok (.getfield 92, 3) := by decide +kernel
theorem dX9_pairs_99 : decode cX9_pairs 99 = .ok (.iload 5, 2) := by decide +kernel
theorem dX9_pairs_101 : decode cX9_pairs 101 = .ok (.aload_n 0, 1) := by decide +kernel
theorem dX9_pairs_102 : decode cX9_pairs 102 = .ok (.aload_n 0, 1) := by decide +kernel
theorem dX9_pairs_103 : decode cX9_pairs 103 = .ok (.getfield 92, 3) := by decide +kernel
theorem dX9_pairs_106 : decode cX9_pairs 106 = .ok (.iload 5, 2) := by decide +kernel
theorem dX9_pairs_108 : decode cX9_pairs 108 = .ok (.iaload, 1) := by decide +kernel
theorem dX9_pairs_109 : decode cX9_pairs 109 = .ok (.aload_n 0, 1) := by decide +kernel
theorem dX9_pairs_110 : decode cX9_pairs 110 = .ok (.getfield 14, 3) := by decide +kernel
theorem dX9_pairs_113 : decode cX9_pairs 113 = .ok (.iload_n 1, 1) := by decide +kernel
theorem dX9_pairs_114 : decode cX9_pairs 114 = .ok (.iconst 2, 1) := by decide +kernel
theorem dX9_pairs_115 : decode cX9_pairs 115 = .ok (.iload 4, 2) := by decide +kernel
theorem dX9_pairs_117 : decode cX9_pairs 117 = .ok (.imul, 1) := by decide +kernel
theorem dX9_pairs_118 : decode cX9_pairs 118 = .ok (.iadd, 1) := by decide +kernel
theorem dX9_pairs_119 : decode cX9_pairs 119 = .ok (.iconst 2, 1) := by decide +kernel
theorem dX9_pairs_120 : decode cX9_pairs 120 = .ok (.isub, 1) := by decide +kernel
theorem dX9_pairs_121 : decode cX9_pairs 121 = .ok (.baload, 1) := by decide +kernel
theorem dX9_pairs_122 : decode cX9_pairs 122 = .ok (.aload_n 0, 1) := by decide +kernel
theorem dX9_pairs_123 : decode cX9_pairs 123 = .ok (.getfield 14, 3) := by decide +kernel
theorem dX9_pairs_126 : decode cX9_pairs 126 = .ok (.iload_n 1, 1) := by decide +kernel
theorem dX9_pairs_127 : decode cX9_pairs 127 = .ok (.iconst 2, 1) := by decide +kernel
theorem dX9_pairs_128 : decode cX9_pairs 128 = .ok (.iload 4, 2) := by decide +kernel
theorem dX9_pairs_130 : decode cX9_pairs 130 = .ok (.imul, 1) := by decide +kernel
theorem dX9_pairs_131 : decode cX9_pairs 131 = .ok (.iadd, 1) := by decide +kernel
theorem dX9_pairs_132 : decode cX9_pairs 132 = .ok (.iconst 1, 1) := by decide +kernel
theorem dX9_pairs_133 : decode cX9_pairs 133 = .ok (.isub, 1) := by decide +kernel
theorem dX9_pairs_134 : decode cX9_pairs 134 = .ok (.baload, 1) := by decide +kernel
theorem dX9_pairs_135 : decode cX9_pairs 135 = .ok (.invokevirtual 143, 3) := by decide +kernel
theorem dX9_pairs_138 : decode cX9_pairs 138 = .ok (.iastore, 1) := by decide +kernel
theorem dX9_pairs_139 : decode cX9_pairs 139 = .ok (.aload_n 0, 1) := by decide +kernel
theorem dX9_pairs_140 : decode cX9_pairs 140 = .ok (.getfield 95, 3) := by decide +kernel
theorem dX9_pairs_143 : decode cX9_pairs 143 = .ok (.iload 5, 2) := by decide +kernel
theorem dX9_pairs_145 : decode cX9_pairs 145 = .ok (.aload_n 0, 1) := by decide +kernel
theorem dX9_pairs_146 : decode cX9_pairs 146 = .ok (.getfield 95, 3) := by decide +kernel
theorem dX9_pairs_149 : decode cX9_pairs 149 = .ok (.iload 5, 2) := by decide +kernel
theorem dX9_pairs_151 : decode cX9_pairs 151 = .ok (.baload, 1) := by decide +kernel
theorem dX9_pairs_152 : decode cX9_pairs 152 = .ok (.ifCond .eq 17, 3) := by decide +kernel
theorem dX9_pairs_155 : decode cX9_pairs 155 = .ok (.aload_n 0, 1) := by decide +kernel
theorem dX9_pairs_156 : decode cX9_pairs 156 = .ok (.getfield 92, 3) := by decide +kernel
theorem dX9_pairs_159 : decode cX9_pairs 159 = .ok (.iload 5, 2) := by decide +kernel
theorem dX9_pairs_161 : decode cX9_pairs 161 = .ok (.iaload, 1) := by decide +kernel
theorem dX9_pairs_162 : decode cX9_pairs 162 = .ok (.ifCond .lt 7, 3) := by decide +kernel
theorem dX9_pairs_165 : decode cX9_pairs 165 = .ok (.iconst 1, 1) := by decide +kernel
theorem dX9_pairs_166 : decode cX9_pairs 166 = .ok (.goto 4, 3) := by decide +kernel
theorem dX9_pairs_169 : decode cX9_pairs 169 = .ok (.iconst 0, 1) := by decide +kernel
theorem dX9_pairs_170 : decode cX9_pairs 170 = .ok (.bastore, 1) := by decide +kernel
theorem dX9_pairs_171 : decode cX9_pairs 171 = .ok (.iinc 5 1, 3) := by decide +kernel
theorem dX9_pairs_174 : decode cX9_pairs 174 = .ok (.goto (-100), 3) := by decide +kernel
theorem dX9_pairs_177 : decode cX9_pairs 177 = .ok (.iconst 0, 1) := by decide +kernel
theorem dX9_pairs_178 : decode cX9_pairs 178 = .ok (.istore 5, 2) := by decide +kernel
theorem dX9_pairs_180 : decode cX9_pairs 180 = .ok (.iload 5, 2) := by decide +kernel
theorem dX9_pairs_182 : decode cX9_pairs 182 = .ok (.iload_n 3, 1) := by decide +kernel
theorem dX9_pairs_183 : decode cX9_pairs 183 = .ok (.if_icmp .ge 174, 3) := by decide +kernel
theorem dX9_pairs_186 : decode cX9_pairs 186 = .ok (.iconst 0, 1) := by decide +kernel
theorem dX9_pairs_187 : decode cX9_pairs 187 = .ok (.istore 6, 2) := by decide +kernel
theorem dX9_pairs_189 : decode cX9_pairs 189 = .ok (.iload 6, 2) := by decide +kernel
theorem dX9_pairs_191 : decode cX9_pairs 191 = .ok (.iload 5, 2) := by decide +kernel
theorem dX9_pairs_193 : decode cX9_pairs 193 = .ok (.if_icmp .ge 158, 3) := by decide +kernel
theorem dX9_pairs_196 : decode cX9_pairs 196 = .ok (.aload_n 0, 1) := by decide +kernel
theorem dX9_pairs_197 : decode cX9_pairs 197 = .ok (.getfield 95, 3) := by decide +kernel
theorem dX9_pairs_200 : decode cX9_pairs 200 = .ok (.iload 5, 2) := by decide +kernel
theorem dX9_pairs_202 : decode cX9_pairs 202 = .ok (.baload, 1) := by decide +kernel
theorem dX9_pairs_203 : decode cX9_pairs 203 = .ok (.ifCond .eq 17, 3) := by decide +kernel
theorem dX9_pairs_206 : decode cX9_pairs 206 = .ok (.aload_n 0, 1) := by decide +kernel
theorem dX9_pairs_207 : decode cX9_pairs 207 = .ok (.getfield 95, 3) := by decide +kernel
theorem dX9_pairs_210 : decode cX9_pairs 210 = .ok (.iload 6, 2) := by decide +kernel
theorem dX9_pairs_212 : decode cX9_pairs 212 = .ok (.baload, 1) := by decide +kernel
theorem dX9_pairs_213 : decode cX9_pairs 213 = .ok (.ifCond .eq 7, 3) := by decide +kernel
theorem dX9_pairs_216 : decode cX9_pairs 216 = .ok (.iconst 1, 1) := by decide +kernel
theorem dX9_pairs_217 : decode cX9_pairs 217 = .ok (.goto 4, 3) := by decide +kernel
theorem dX9_pairs_220 : decode cX9_pairs 220 = .ok (.iconst 0, 1) := by decide +kernel
theorem dX9_pairs_221 : decode cX9_pairs 221 = .ok (.istore 7, 2) := by decide +kernel
theorem dX9_pairs_223 : decode cX9_pairs 223 = .ok (.iload 7, 2) := by decide +kernel
theorem dX9_pairs_225 : decode cX9_pairs 225 = .ok (.ifCond .eq 83, 3) := by decide +kernel
theorem dX9_pairs_228 : decode cX9_pairs 228 = .ok (.aload_n 0, 1) := by decide +kernel
theorem dX9_pairs_229 : decode cX9_pairs 229 = .ok (.getfield 27, 3) := by decide +kernel
theorem dX9_pairs_232 : decode cX9_pairs 232 = .ok (.aload_n 0, 1) := by decide +kernel
theorem dX9_pairs_233 : decode cX9_pairs 233 = .ok (.getfield 92, 3) := by decide +kernel
theorem dX9_pairs_236 : decode cX9_pairs 236 = .ok (.iload 5, 2) := by decide +kernel
theorem dX9_pairs_238 : decode cX9_pairs 238 = .ok (.iaload, 1) := by decide +kernel
theorem dX9_pairs_239 : decode cX9_pairs 239 = .ok (.iaload, 1) := by decide +kernel
theorem dX9_pairs_240 : decode cX9_pairs 240 = .ok (.sipush 255, 3) := by decide +kernel
theorem dX9_pairs_243 : decode cX9_pairs 243 = .ok (.if_icmp .eq 58, 3) := by decide +kernel
theorem dX9_pairs_246 : decode cX9_pairs 246 = .ok (.aload_n 0, 1) := by decide +kernel
theorem dX9_pairs_247 : decode cX9_pairs 247 = .ok (.getfield 27, 3) := by decide +kernel
theorem dX9_pairs_250 : decode cX9_pairs 250 = .ok (.aload_n 0, 1) := by decide +kernel
theorem dX9_pairs_251 : decode cX9_pairs 251 = .ok (.getfield 92, 3) := by decide +kernel
theorem dX9_pairs_254 : decode cX9_pairs 254 = .ok (.iload 6, 2) := by decide +kernel
theorem dX9_pairs_256 : decode cX9_pairs 256 = .ok (.iaload, 1) := by decide +kernel
theorem dX9_pairs_257 : decode cX9_pairs 257 = .ok (.iaload, 1) := by decide +kernel
theorem dX9_pairs_258 : decode cX9_pairs 258 = .ok (.sipush 255, 3) := by decide +kernel
theorem dX9_pairs_261 : decode cX9_pairs 261 = .ok (.if_icmp .eq 40, 3) := by decide +kernel
theorem dX9_pairs_264 : decode cX9_pairs 264 = .ok (.aload_n 0, 1) := by decide +kernel
theorem dX9_pairs_265 : decode cX9_pairs 265 = .ok (.getfield 27, 3) := by decide +kernel
theorem dX9_pairs_268 : decode cX9_pairs 268 = .ok (.aload_n 0, 1) := by decide +kernel
theorem dX9_pairs_269 : decode cX9_pairs 269 = .ok (.getfield 92, 3) := by decide +kernel
theorem dX9_pairs_272 : decode cX9_pairs 272 = .ok (.iload 5, 2) := by decide +kernel
theorem dX9_pairs_274 : decode cX9_pairs 274 = .ok (.iaload, 1) := by decide +kernel
theorem dX9_pairs_275 : decode cX9_pairs 275 = .ok (.iaload, 1) := by decide +kernel
theorem dX9_pairs_276 : decode cX9_pairs 276 = .ok (.aload_n 0, 1) := by decide +kernel
theorem dX9_pairs_277 : decode cX9_pairs 277 = .ok (.getfield 27, 3) := by decide +kernel
theorem dX9_pairs_280 : decode cX9_pairs 280 = .ok (.aload_n 0, 1) := by decide +kernel
theorem dX9_pairs_281 : decode cX9_pairs 281 = .ok (.getfield 92, 3) := by decide +kernel
theorem dX9_pairs_284 : decode cX9_pairs 284 = .ok (.iload 6, 2) := by decide +kernel
theorem dX9_pairs_286 : decode cX9_pairs 286 = .ok (.iaload, 1) := by decide +kernel
theorem dX9_pairs_287 : decode cX9_pairs 287 = .ok (.iaload, 1) := by decide +kernel
theorem dX9_pairs_288 : decode cX9_pairs 288 = .ok (.isub, 1) := by decide +kernel
theorem dX9_pairs_289 : decode cX9_pairs 289 = .ok (.invokestatic 127, 3) := by decide +kernel
theorem dX9_pairs_292 : decode cX9_pairs 292 = .ok (.iconst 2, 1) := by decide +kernel
theorem dX9_pairs_293 : decode cX9_pairs 293 = .ok (.aload_n 0, 1) := by decide +kernel
theorem dX9_pairs_294 : decode cX9_pairs 294 = .ok (.getfield 121, 3) := by decide +kernel
theorem dX9_pairs_297 : decode cX9_pairs 297 = .ok (.imul, 1) := by decide +kernel
theorem dX9_pairs_298 : decode cX9_pairs 298 = .ok (.if_icmp .gt 7, 3) := by decide +kernel
theorem dX9_pairs_301 : decode cX9_pairs 301 = .ok (.iconst 1, 1) := by decide +kernel
theorem dX9_pairs_302 : decode cX9_pairs 302 = .ok (.goto 4, 3) := by decide +kernel
theorem dX9_pairs_305 : decode cX9_pairs 305 = .ok (.iconst 0, 1) := by decide +kernel
theorem dX9_pairs_306 : decode cX9_pairs 306 = .ok (.istore 7, 2) := by decide +kernel
theorem dX9_pairs_308 : decode cX9_pairs 308 = .ok (.aload_n 0, 1) := by decide +kernel
theorem dX9_pairs_309 : decode cX9_pairs 309 = .ok (.getfield 99, 3) := by decide +kernel
theorem dX9_pairs_312 : decode cX9_pairs 312 = .ok (.iload_n 3, 1) := by decide +kernel
theorem dX9_pairs_313 : decode cX9_pairs 313 = .ok (.iload 5, 2) := by decide +kernel
theorem dX9_pairs_315 : decode cX9_pairs 315 = .ok (.imul, 1) := by decide +kernel
theorem dX9_pairs_316 : decode cX9_pairs 316 = .ok (.iload 6, 2) := by decide +kernel
theorem dX9_pairs_318 : decode cX9_pairs 318 = .ok (.iadd, 1) := by decide +kernel
theorem dX9_pairs_319 : decode cX9_pairs 319 = .ok (.aload_n 0, 1) := by decide +kernel
theorem dX9_pairs_320 : decode cX9_pairs 320 = .ok (.getfield 99, 3) := by decide +kernel
theorem dX9_pairs_323 : decode cX9_pairs 323 = .ok (.iload_n 3, 1) := by decide +kernel
theorem dX9_pairs_324 : decode cX9_pairs 324 = .ok (.iload 5, 2) := by decide +kernel
theorem dX9_pairs_326 : decode cX9_pairs 326 = .ok (.imul, 1) := by decide +kernel
theorem dX9_pairs_327 : decode cX9_pairs 327 = .ok (.iload 6, 2) := by decide +kernel
theorem dX9_pairs_329 : decode cX9_pairs 329 = .ok (.iadd, 1) := by decide +kernel
theorem dX9_pairs_330 : decode cX9_pairs 330 = .ok (.baload, 1) := by decide +kernel
theorem dX9_pairs_331 : decode cX9_pairs 331 = .ok (.ifCond .eq 12, 3) := by decide +kernel
theorem dX9_pairs_334 : decode cX9_pairs 334 = .ok (.iload 7, 2) := by decide +kernel
theorem dX9_pairs_336 : decode cX9_pairs 336 = .ok (.ifCond .eq 7, 3) := by decide +kernel
theorem dX9_pairs_339 : decode cX9_pairs 339 = .ok (.iconst 1, 1) := by decide +kernel
theorem dX9_pairs_340 : decode cX9_pairs 340 = .ok (.goto 4, 3) := by decide +kernel
theorem dX9_pairs_343 : decode cX9_pairs 343 = .ok (.iconst 0, 1) := by decide +kernel
theorem dX9_pairs_344 : decode cX9_pairs 344 = .ok (.bastore, 1) := by decide +kernel
theorem dX9_pairs_345 : decode cX9_pairs 345 = .ok (.iinc 6 1, 3) := by decide +kernel
theorem dX9_pairs_348 : decode cX9_pairs 348 = .ok (.goto (-159), 3) := by decide +kernel
theorem dX9_pairs_351 : decode cX9_pairs 351 = .ok (.iinc 5 1, 3) := by decide +kernel
theorem dX9_pairs_354 : decode cX9_pairs 354 = .ok (.goto (-174), 3) := by decide +kernel
theorem dX9_pairs_357 : decode cX9_pairs 357 = .ok (.iinc 4 1, 3) := by decide +kernel
theorem dX9_pairs_360 : decode cX9_pairs 360 = .ok (.goto (-295), 3) := by decide +kernel
theorem dX9_pairs_363 : decode cX9_pairs 363 = .ok (.iconst 0, 1) := by decide +kernel
theorem dX9_pairs_364 : decode cX9_pairs 364 = .ok (.istore 4, 2) := by decide +kernel
theorem dX9_pairs_366 : decode cX9_pairs 366 = .ok (.aload_n 0, 1) := by decide +kernel
theorem dX9_pairs_367 : decode cX9_pairs 367 = .ok (.iconst (-1), 1) := by decide +kernel
theorem dX9_pairs_368 : decode cX9_pairs 368 = .ok (.putfield 179, 3) := by decide +kernel
theorem dX9_pairs_371 : decode cX9_pairs 371 = .ok (.iconst 0, 1) := by decide +kernel
theorem dX9_pairs_372 : decode cX9_pairs 372 = .ok (.istore 5, 2) := by decide +kernel
theorem dX9_pairs_374 : decode cX9_pairs 374 = .ok (.iload 5, 2) := by decide +kernel
theorem dX9_pairs_376 : decode cX9_pairs 376 = .ok (.iload_n 3, 1) := by decide +kernel
theorem dX9_pairs_377 : decode cX9_pairs 377 = .ok (.if_icmp .ge 75, 3) := by decide +kernel
theorem dX9_pairs_380 : decode cX9_pairs 380 = .ok (.iload 5, 2) := by decide +kernel
theorem dX9_pairs_382 : decode cX9_pairs 382 = .ok (.iconst 1, 1) := by decide +kernel
theorem dX9_pairs_383 : decode cX9_pairs 383 = .ok (.iadd, 1) := by decide +kernel
theorem dX9_pairs_384 : decode cX9_pairs 384 = .ok (.istore 6, 2) := by decide +kernel
theorem dX9_pairs_386 : decode cX9_pairs 386 = .ok (.iload 6, 2) := by decide +kernel
theorem dX9_pairs_388 : decode cX9_pairs 388 = .ok (.iload_n 3, 1) := by decide +kernel
theorem dX9_pairs_389 : decode cX9_pairs 389 = .ok (.if_icmp .ge 57, 3) := by decide +kernel
theorem dX9_pairs_392 : decode cX9_pairs 392 = .ok (.aload_n 0, 1) := by decide +kernel
theorem dX9_pairs_393 : decode cX9_pairs 393 = .ok (.getfield 99, 3) := by decide +kernel
theorem dX9_pairs_396 : decode cX9_pairs 396 = .ok (.iload_n 3, 1) := by decide +kernel
theorem dX9_pairs_397 : decode cX9_pairs 397 = .ok (.iload 6, 2) := by decide +kernel
theorem dX9_pairs_399 : decode cX9_pairs 399 = .ok (.imul, 1) := by decide +kernel
theorem dX9_pairs_400 : decode cX9_pairs 400 = .ok (.iload 5, 2) := by decide +kernel
theorem dX9_pairs_402 : decode cX9_pairs 402 = .ok (.iadd, 1) := by decide +kernel
theorem dX9_pairs_403 : decode cX9_pairs 403 = .ok (.baload, 1) := by decide +kernel
theorem dX9_pairs_404 : decode cX9_pairs 404 = .ok (.ifCond .ne 6, 3) := by decide +kernel
theorem dX9_pairs_407 : decode cX9_pairs 407 = .ok (.goto 33, 3) := by decide +kernel
theorem dX9_pairs_410 : decode cX9_pairs 410 = .ok (.iinc 4 1, 3) := by decide +kernel
theorem dX9_pairs_413 : decode cX9_pairs 413 = .ok (.aload_n 0, 1) := by decide +kernel
theorem dX9_pairs_414 : decode cX9_pairs 414 = .ok (.aload_n 0, 1) := by decide +kernel
theorem dX9_pairs_415 : decode cX9_pairs 415 = .ok (.getfield 179, 3) := by decide +kernel
theorem dX9_pairs_418 : decode cX9_pairs 418 = .ok (.ifCond .ge 15, 3) := by decide +kernel
theorem dX9_pairs_421 : decode cX9_pairs 421 = .ok (.sipush 200, 3) := by decide +kernel
theorem dX9_pairs_424 : decode cX9_pairs 424 = .ok (.iload 5, 2) := by decide +kernel
theorem dX9_pairs_426 : decode cX9_pairs 426 = .ok (.imul, 1) := by decide +kernel
theorem dX9_pairs_427 : decode cX9_pairs 427 = .ok (.iload 6, 2) := by decide +kernel
theorem dX9_pairs_429 : decode cX9_pairs 429 = .ok (.iadd, 1) := by decide +kernel
theorem dX9_pairs_430 : decode cX9_pairs 430 = .ok (.goto 7, 3) := by decide +kernel
theorem dX9_pairs_433 : decode cX9_pairs 433 = .ok (.aload_n 0, 1) := by decide +kernel
theorem dX9_pairs_434 : decode cX9_pairs 434 = .ok (.getfield 179, 3) := by decide +kernel
theorem dX9_pairs_437 : decode cX9_pairs 437 = .ok (.putfield 179, 3) := by decide +kernel
theorem dX9_pairs_440 : decode cX9_pairs 440 = .ok (.iinc 6 1, 3) := by decide +kernel
theorem dX9_pairs_443 : decode cX9_pairs 443 = .ok (.goto (-57), 3) := by decide +kernel
theorem dX9_pairs_446 : decode cX9_pairs 446 = .ok (.iinc 5 1, 3) := by decide +kernel
theorem dX9_pairs_449 : decode cX9_pairs 449 = .ok (.goto (-75), 3) := by decide +kernel
theorem dX9_pairs_452 : decode cX9_pairs 452 = .ok (.iload 4, 2) := by decide +kernel
theorem dX9_pairs_454 : decode cX9_pairs 454 = .ok (.ireturn, 1) := by decide +kernel
theorem dX9_isRoute_0 : decode cX9_isRoute 0 = .ok (.iload_n 2, 1) := by decide +kernel
theorem dX9_isRoute_1 : decode cX9_isRoute 1 = .ok (.iconst 2, 1) := by decide +kernel
theorem dX9_isRoute_2 : decode cX9_isRoute 2 = .ok (.irem, 1) := by decide +kernel
theorem dX9_isRoute_3 : decode cX9_isRoute 3 = .ok (.ifCond .ne 9, 3) := by decide +kernel
theorem dX9_isRoute_6 : decode cX9_isRoute 6 = .ok (.iload_n 2, 1) := by decide +kernel
theorem dX9_isRoute_7 : decode cX9_isRoute 7 = .ok (.bipush 16, 2) := by decide +kernel
theorem dX9_isRoute_9 : decode cX9_isRoute 9 = .ok (.if_icmp .le 5, 3) := by decide +kernel
theorem dX9_isRoute_12 : decode cX9_isRoute 12 = .ok (.iconst 0, 1) := by decide +kernel
theorem dX9_isRoute_13 : decode cX9_isRoute 13 = .ok (.ireturn, 1) := by decide +kernel
theorem dX9_isRoute_14 : decode cX9_isRoute 14 = .ok (.iconst 0, 1) := by decide +kernel
theorem dX9_isRoute_15 : decode cX9_isRoute 15 = .ok (.istore_n 3, 1) := by decide +kernel
theorem dX9_isRoute_16 : decode cX9_isRoute 16 = .ok (.iload_n 3, 1) := by decide +kernel
theorem dX9_isRoute_17 : decode cX9_isRoute 17 = .ok (.iload_n 2, 1) := by decide +kernel
theorem dX9_isRoute_18 : decode cX9_isRoute 18 = .ok (.if_icmp .ge 36, 3) := by decide +kernel
theorem dX9_isRoute_21 : decode cX9_isRoute 21 = .ok (.aload_n 0, 1) := by decide +kernel
theorem dX9_isRoute_22 : decode cX9_isRoute 22 = .ok (.getfield 14, 3) := by decide +kernel
theorem dX9_isRoute_25 : decode cX9_isRoute 25 = .ok (.iload_n 1, 1) := by decide +kernel
theorem dX9_isRoute_26 : decode cX9_isRoute 26 = .ok (.iload_n 3, 1) := by decide +kernel
theorem dX9_isRoute_27 : decode cX9_isRoute 27 = .ok (.iadd, 1) := by decide +kernel
theorem dX9_isRoute_28 : decode cX9_isRoute 28 = .ok (.baload, 1) := by decide +kernel
theorem dX9_isRoute_29 : decode cX9_isRoute 29 = .ok (.bipush (-5), 2) := by decide +kernel
theorem dX9_isRoute_31 : decode cX9_isRoute 31 = .ok (.if_icmp .lt 15, 3) := by decide +kernel
theorem dX9_isRoute_34 : decode cX9_isRoute 34 = .ok (.aload_n 0, 1) := by decide +kernel
theorem dX9_isRoute_35 : decode cX9_isRoute 35 = .ok (.getfield 14, 3) := by decide +kernel
theorem dX9_isRoute_38 : decode cX9_isRoute 38 = .ok (.iload_n 1, 1) := by decide +kernel
theorem dX9_isRoute_39 : decode cX9_isRoute 39 = .ok (.iload_n 3, 1) := by decide +kernel
theorem dX9_isRoute_40 : decode cX9_isRoute 40 = .ok (.iadd, 1) := by decide +kernel
theorem dX9_isRoute_41 : decode cX9_isRoute 41 = .ok (.baload, 1) := by decide +kernel
theorem dX9_isRoute_42 : decode cX9_isRoute 42 = .ok (.iconst 5, 1) := by decide +kernel
theorem dX9_isRoute_43 : decode cX9_isRoute 43 = .ok (.if_icmp .le 5, 3) := by decide +kernel
theorem dX9_isRoute_46 : decode cX9_isRoute 46 = .ok (.iconst 0, 1) := by decide +kernel
theorem dX9_isRoute_47 : decode cX9_isRoute 47 = .ok (.ireturn, 1) := by decide +kernel
theorem dX9_isRoute_48 : decode cX9_isRoute 48 = .ok (.iinc 3 1, 3) := by decide +kernel
theorem dX9_isRoute_51 : decode cX9_isRoute 51 = .ok (.goto (-35), 3) := by decide +kernel
theorem dX9_isRoute_54 : decode cX9_isRoute 54 = .ok (.iconst 1, 1) := by decide +kernel
theorem dX9_isRoute_55 : decode cX9_isRoute 55 = .ok (.ireturn, 1) := by decide +kernel
theorem dX9_twins_0 : decode cX9_twins 0 = .ok (.aload_n 0, 1) := by decide +kernel
theorem dX9_twins_1 : decode cX9_twins 1 = .ok (.iconst 0, 1) := by decide +kernel
theorem dX9_twins_2 : decode cX9_twins 2 = .ok (.putfield 1, 3) := by decide +kernel
theorem dX9_twins_5 : decode cX9_twins 5 = .ok (.aload_n 0, 1) := by decide +kernel
theorem dX9_twins_6 : decode cX9_twins 6 = .ok (.invokevirtual 112, 3) := by decide +kernel
theorem dX9_twins_9 : decode cX9_twins 9 = .ok (.aload_n 0, 1) := by decide +kernel
theorem dX9_twins_10 : decode cX9_twins 10 = .ok (.iconst 0, 1) := by decide +kernel
theorem dX9_twins_11 : decode cX9_twins 11 = .ok (.aload_n 0, 1) := by decide +kernel
theorem dX9_twins_12 : decode cX9_twins 12 = .ok (.getfield 18, 3) := by decide +kernel
theorem dX9_twins_15 : decode cX9_twins 15 = .ok (.invokevirtual 182, 3) := by decide +kernel
theorem dX9_twins_18 : decode cX9_twins 18 = .ok (.ifCond .ne 5, 3) := by decide +kernel
theorem dX9_twins_21 : decode cX9_twins 21 = .ok (.iconst (-1), 1) := by decide +kernel
theorem dX9_twins_22 : decode cX9_twins 22 = .ok (.ireturn, 1) := by decide +kernel
theorem dX9_twins_23 : decode cX9_twins 23 = .ok (.aload_n 0, 1) := by decide +kernel
theorem dX9_twins_24 : decode cX9_twins 24 = .ok (.iconst 0, 1) := by decide +kernel
theorem dX9_twins_25 : decode cX9_twins 25 = .ok (.aload_n 0, 1) := by decide +kernel
theorem dX9_twins_26 : decode cX9_twins 26 = .ok (.getfield 18, 3) := by decide +kernel
theorem dX9_twins_29 : decode cX9_twins 29 = .ok (.iconst 2, 1) := by decide +kernel
theorem dX9_twins_30 : decode cX9_twins 30 = .ok (.idiv, 1) := by decide +kernel
theorem dX9_twins_31 : decode cX9_twins 31 = .ok (.invokevirtual 185, 3) := by decide +kernel
theorem dX9_twins_34 : decode cX9_twins 34 = .ok (.istore_n 1, 1) := by decide +kernel
theorem dX9_twins_35 : decode cX9_twins 35 = .ok (.aload_n 0, 1) := by decide +kernel
theorem dX9_twins_36 : decode cX9_twins 36 = .ok (.aload_n 0, 1) := by decide +kernel
theorem dX9_twins_37 : decode cX9_twins 37 = .ok (.getfield 179, 3) := by decide +kernel
theorem dX9_twins_40 : decode cX9_twins 40 = .ok (.putfield 102, 3) := by decide +kernel
theorem dX9_twins_43 : decode cX9_twins 43 = .ok (.iload_n 1, 1) := by decide +kernel
theorem dX9_twins_44 : decode cX9_twins 44 = .ok (.ireturn, 1) := by decide +kernel
theorem dX9_twin_0 : decode cX9_twin 0 = .ok (.aload_n 0, 1) := by decide +kernel
theorem dX9_twin_1 : decode cX9_twin 1 = .ok (.iconst 0, 1) := by decide +kernel
theorem dX9_twin_2 : decode cX9_twin 2 = .ok (.putfield 1, 3) := by decide +kernel
theorem dX9_twin_5 : decode cX9_twin 5 = .ok (.aload_n 0, 1) := by decide +kernel
theorem dX9_twin_6 : decode cX9_twin 6 = .ok (.getfield 102, 3) := by decide +kernel
theorem dX9_twin_9 : decode cX9_twin 9 = .ok (.ireturn, 1) := by decide +kernel
theorem dX9_route_0 : decode cX9_route 0 = .ok (.aload_n 0, 1) := by decide +kernel
theorem dX9_route_1 : decode cX9_route 1 = .ok (.iconst 0, 1) := by decide +kernel
theorem dX9_route_2 : decode cX9_route 2 = .ok (.putfield 1, 3) := by decide +kernel
theorem dX9_route_5 : decode cX9_route 5 = .ok (.aload_n 0, 1) := by decide +kernel
theorem dX9_route_6 : decode cX9_route 6 = .ok (.invokevirtual 112, 3) := by decide +kernel
theorem dX9_route_9 : decode cX9_route 9 = .ok (.iload_n 1, 1) := by decide +kernel
theorem dX9_route_10 : decode cX9_route 10 = .ok (.iconst 1, 1) := by decide +kernel
theorem dX9_route_11 : decode cX9_route 11 = .ok (.if_icmp .lt 18, 3) := by decide +kernel
theorem dX9_route_14 : decode cX9_route 14 = .ok (.iload_n 1, 1) := by decide +kernel
theorem dX9_route_15 : decode cX9_route 15 = .ok (.bipush 8, 2) := by decide +kernel
theorem dX9_route_17 : decode cX9_route 17 = .ok (.if_icmp .gt 12, 3) := by decide +kernel
theorem dX9_route_20 : decode cX9_route 20 = .ok (.aload_n 0, 1) := by decide +kernel
theorem dX9_route_21 : decode cX9_route 21 = .ok (.getfield 18, 3) := by decide +kernel
theorem dX9_route_24 : decode cX9_route 24 = .ok (.iload_n 1, 1) := by decide +kernel
theorem dX9_route_25 : decode cX9_route 25 = .ok (.irem, 1) := by decide +kernel
theorem dX9_route_26 : decode cX9_route 26 = .ok (.ifCond .eq 5, 3) := by decide +kernel
theorem dX9_route_29 : decode cX9_route 29 = .ok (.iconst (-1), 1) := by decide +kernel
theorem dX9_route_30 : decode cX9_route 30 = .ok (.ireturn, 1) := by decide +kernel
theorem dX9_route_31 : decode cX9_route 31 = .ok (.aload_n 0, 1) := by decide +kernel
theorem dX9_route_32 : decode cX9_route 32 = .ok (.getfield 18, 3) := by decide +kernel
theorem dX9_route_35 : decode cX9_route 35 = .ok (.iload_n 1, 1) := by decide +kernel
theorem dX9_route_36 : decode cX9_route 36 = .ok (.idiv, 1) := by decide +kernel
theorem dX9_route_37 : decode cX9_route 37 = .ok (.istore_n 2, 1) := by decide +kernel
theorem dX9_route_38 : decode cX9_route 38 = .ok (.iconst 0, 1) := by decide +kernel
theorem dX9_route_39 : decode cX9_route 39 = .ok (.istore_n 3, 1) := by decide +kernel
theorem dX9_route_40 : decode cX9_route 40 = .ok (.iload_n 3, 1) := by decide +kernel
theorem dX9_route_41 : decode cX9_route 41 = .ok (.iload_n 1, 1) := by decide +kernel
theorem dX9_route_42 : decode cX9_route 42 = .ok (.if_icmp .ge 22, 3) := by decide +kernel
theorem dX9_route_45 : decode cX9_route 45 = .ok (.aload_n 0, 1) := by decide +kernel
theorem dX9_route_46 : decode cX9_route 46 = .ok (.iload_n 2, 1) := by decide +kernel
theorem dX9_route_47 : decode cX9_route 47 = .ok (.iload_n 3, 1) := by decide +kernel
theorem dX9_route_48 : decode cX9_route 48 = .ok (.imul, 1) := by decide +kernel
theorem dX9_route_49 : decode cX9_route 49 = .ok (.iload_n 2, 1) := by decide +kernel
theorem dX9_route_50 : decode cX9_route 50 = .ok (.invokevirtual 182, 3) := by decide +kernel
theorem dX9_route_53 : decode cX9_route 53 = .ok (.ifCond .ne 5, 3) := by decide +kernel
theorem dX9_route_56 : decode cX9_route 56 = .ok (.iconst (-1), 1) := by decide +kernel
theorem dX9_route_57 : decode cX9_route 57 = .ok (.ireturn, 1) := by decide +kernel
theorem dX9_route_58 : decode cX9_route 58 = .ok (.iinc 3 1, 3) := by decide +kernel
theorem dX9_route_61 : decode cX9_route 61 = .ok (.goto (-21), 3) := by decide +kernel
theorem dX9_route_64 : decode cX9_route 64 = .ok (.iconst 0, 1) := by decide +kernel
theorem dX9_route_65 : decode cX9_route 65 = .ok (.istore_n 3, 1) := by decide +kernel
theorem dX9_route_66 : decode cX9_route 66 = .ok (.iconst (-1), 1) := by decide +kernel
theorem dX9_route_67 : decode cX9_route 67 = .ok (.istore 4, 2) := by decide +kernel
theorem dX9_route_69 : decode cX9_route 69 = .ok (.iconst 0, 1) := by decide +kernel
theorem dX9_route_70 : decode cX9_route 70 = .ok (.istore 5, 2) := by decide +kernel
theorem dX9_route_72 : decode cX9_route 72 = .ok (.iload 5, 2) := by decide +kernel
theorem dX9_route_74 : decode cX9_route 74 = .ok (.iload_n 1, 1) := by decide +kernel
theorem dX9_route_75 : decode cX9_route 75 = .ok (.if_icmp .ge 44, 3) := by decide +kernel
theorem dX9_route_78 : decode cX9_route 78 = .ok (.aload_n 0, 1) := by decide +kernel
theorem dX9_route_79 : decode cX9_route 79 = .ok (.iload_n 2, 1) := by decide +kernel
theorem dX9_route_80 : decode cX9_route 80 = .ok (.iload 5, 2) := by decide +kernel
theorem dX9_route_82 : decode cX9_route 82 = .ok (.imul, 1) := by decide +kernel
theorem dX9_route_83 : decode cX9_route 83 = .ok (.iload_n 2, 1) := by decide +kernel
theorem dX9_route_84 : decode cX9_route 84 = .ok (.iconst 2, 1) := by decide +kernel
theorem dX9_route_85 : decode cX9_route 85 = .ok (.idiv, 1) := by decide +kernel
theorem dX9_route_86 : decode cX9_route 86 = .ok (.invokevirtual 185, 3) := by decide +kernel
theorem dX9_route_89 : decode cX9_route 89 = .ok (.istore 6, 2) := by decide +kernel
theorem dX9_route_91 : decode cX9_route 91 = .ok (.iload 4, 2) := by decide +kernel
theorem dX9_route_93 : decode cX9_route 93 = .ok (.ifCond .lt 13, 3) := by decide +kernel
theorem dX9_route_96 : decode cX9_route 96 = .ok (.iload 6, 2) := by decide +kernel
theorem dX9_route_98 : decode cX9_route 98 = .ok (.iload 4, 2) := by decide +kernel
theorem dX9_route_100 : decode cX9_route 100 = .ok (.if_icmp .lt 6, 3) := by decide +kernel
theorem dX9_route_103 : decode cX9_route 103 = .ok (.goto 10, 3) := by decide +kernel
theorem dX9_route_106 : decode cX9_route 106 = .ok (.iload 6, 2) := by decide +kernel
theorem dX9_route_108 : decode cX9_route 108 = .ok (.istore 4, 2) := by decide +kernel
theorem dX9_route_110 : decode cX9_route 110 = .ok (.iload 5, 2) := by decide +kernel
theorem dX9_route_112 : decode cX9_route 112 = .ok (.istore_n 3, 1) := by decide +kernel
theorem dX9_route_113 : decode cX9_route 113 = .ok (.iinc 5 1, 3) := by decide +kernel
theorem dX9_route_116 : decode cX9_route 116 = .ok (.goto (-44), 3) := by decide +kernel
theorem dX9_route_119 : decode cX9_route 119 = .ok (.iload_n 3, 1) := by decide +kernel
theorem dX9_route_120 : decode cX9_route 120 = .ok (.ireturn, 1) := by decide +kernel
theorem dX9_middle_0 : decode cX9_middle 0 = .ok (.iload_n 0, 1) := by decide +kernel
theorem dX9_middle_1 : decode cX9_middle 1 = .ok (.iload_n 1, 1) := by decide +kernel
theorem dX9_middle_2 : decode cX9_middle 2 = .ok (.if_icmp .ge 7, 3) := by decide +kernel
theorem dX9_middle_5 : decode cX9_middle 5 = .ok (.iload_n 0, 1) := by decide +kernel
theorem dX9_middle_6 : decode cX9_middle 6 = .ok (.goto 4, 3) := by decide +kernel
theorem dX9_middle_9 : decode cX9_middle 9 = .ok (.iload_n 1, 1) := by decide +kernel
theorem dX9_middle_10 : decode cX9_middle 10 = .ok (.istore_n 3, 1) := by decide +kernel
theorem dX9_middle_11 : decode cX9_middle 11 = .ok (.iload_n 0, 1) := by decide +kernel
theorem dX9_middle_12 : decode cX9_middle 12 = .ok (.iload_n 1, 1) := by decide +kernel
theorem dX9_middle_13 : decode cX9_middle 13 = .ok (.if_icmp .ge 7, 3) := by decide +kernel
theorem dX9_middle_16 : decode cX9_middle 16 = .ok (.iload_n 1, 1) := by decide +kernel
theorem dX9_middle_17 : decode cX9_middle 17 = .ok (.goto 4, 3) := by decide +kernel
theorem dX9_middle_20 : decode cX9_middle 20 = .ok (.iload_n 0, 1) := by decide +kernel
theorem dX9_middle_21 : decode cX9_middle 21 = .ok (.istore 4, 2) := by decide +kernel
theorem dX9_middle_23 : decode cX9_middle 23 = .ok (.iload_n 2, 1) := by decide +kernel
theorem dX9_middle_24 : decode cX9_middle 24 = .ok (.iload_n 3, 1) := by decide +kernel
theorem dX9_middle_25 : decode cX9_middle 25 = .ok (.if_icmp .ge 7, 3) := by decide +kernel
theorem dX9_middle_28 : decode cX9_middle 28 = .ok (.iload_n 3, 1) := by decide +kernel
theorem dX9_middle_29 : decode cX9_middle 29 = .ok (.goto 15, 3) := by decide +kernel
theorem dX9_middle_32 : decode cX9_middle 32 = .ok (.iload_n 2, 1) := by decide +kernel
theorem dX9_middle_33 : decode cX9_middle 33 = .ok (.iload 4, 2) := by decide +kernel
theorem dX9_middle_35 : decode cX9_middle 35 = .ok (.if_icmp .le 8, 3) := by decide +kernel
theorem dX9_middle_38 : decode cX9_middle 38 = .ok (.iload 4, 2) := by decide +kernel
theorem dX9_middle_40 : decode cX9_middle 40 = .ok (.goto 4, 3) := by decide +kernel
theorem dX9_middle_43 : decode cX9_middle 43 = .ok (.iload_n 2, 1) := by decide +kernel
theorem dX9_middle_44 : decode cX9_middle 44 = .ok (.ireturn, 1) := by decide +kernel
theorem dX9_check_0 : decode cX9_check 0 = .ok (.aload_n 0, 1) := by decide +kernel
theorem dX9_check_1 : decode cX9_check 1 = .ok (.iconst 0, 1) := by decide +kernel
theorem dX9_check_2 : decode cX9_check 2 = .ok (.putfield 1, 3) := by decide +kernel
theorem dX9_check_5 : decode cX9_check 5 = .ok (.aload_n 0, 1) := by decide +kernel
theorem dX9_check_6 : decode cX9_check 6 = .ok (.iload_n 1, 1) := by decide +kernel
theorem dX9_check_7 : decode cX9_check 7 = .ok (.invokevirtual 139, 3) := by decide +kernel
theorem dX9_check_10 : decode cX9_check 10 = .ok (.ifCond .eq 14, 3) := by decide +kernel
theorem dX9_check_13 : decode cX9_check 13 = .ok (.iload_n 2, 1) := by decide +kernel
theorem dX9_check_14 : decode cX9_check 14 = .ok (.ifCond .lt 10, 3) := by decide +kernel
theorem dX9_check_17 : decode cX9_check 17 = .ok (.iload_n 2, 1) := by decide +kernel
theorem dX9_check_18 : decode cX9_check 18 = .ok (.sipush 250, 3) := by decide +kernel
theorem dX9_check_21 : decode cX9_check 21 = .ok (.if_icmp .le 5, 3) := by decide +kernel
theorem dX9_check_24 : decode cX9_check 24 = .ok (.iconst (-1), 1) := by decide +kernel
theorem dX9_check_25 : decode cX9_check 25 = .ok (.ireturn, 1) := by decide +kernel
theorem dX9_check_26 : decode cX9_check 26 = .ok (.aload_n 0, 1) := by decide +kernel
theorem dX9_check_27 : decode cX9_check 27 = .ok (.getfield 27, 3) := by decide +kernel
theorem dX9_check_30 : decode cX9_check 30 = .ok (.iload_n 1, 1) := by decide +kernel
theorem dX9_check_31 : decode cX9_check 31 = .ok (.iaload, 1) := by decide +kernel
theorem dX9_check_32 : decode cX9_check 32 = .ok (.sipush 255, 3) := by decide +kernel
theorem dX9_check_35 : decode cX9_check 35 = .ok (.if_icmp .ne 29, 3) := by decide +kernel
theorem dX9_check_38 : decode cX9_check 38 = .ok (.aload_n 0, 1) := by decide +kernel
theorem dX9_check_39 : decode cX9_check 39 = .ok (.getfield 27, 3) := by decide +kernel
theorem dX9_check_42 : decode cX9_check 42 = .ok (.iload_n 1, 1) := by decide +kernel
theorem dX9_check_43 : decode cX9_check 43 = .ok (.iload_n 2, 1) := by decide +kernel
theorem dX9_check_44 : decode cX9_check 44 = .ok (.iastore, 1) := by decide +kernel
theorem dX9_check_45 : decode cX9_check 45 = .ok (.aload_n 0, 1) := by decide +kernel
theorem dX9_check_46 : decode cX9_check 46 = .ok (.getfield 34, 3) := by decide +kernel
theorem dX9_check_49 : decode cX9_check 49 = .ok (.iload_n 1, 1) := by decide +kernel
theorem dX9_check_50 : decode cX9_check 50 = .ok (.iconst 0, 1) := by decide +kernel
theorem dX9_check_51 : decode cX9_check 51 = .ok (.iastore, 1) := by decide +kernel
theorem dX9_check_52 : decode cX9_check 52 = .ok (.aload_n 0, 1) := by decide +kernel
theorem dX9_check_53 : decode cX9_check 53 = .ok (.dup, 1) := by decide +kernel
theorem dX9_check_54 : decode cX9_check 54 = .ok (.getfield 118, 3) := by decide +kernel
theorem dX9_check_57 : decode cX9_check 57 = .ok (.iconst 1, 1) := by decide +kernel
theorem dX9_check_58 : decode cX9_check 58 = .ok (.iadd, 1) := by decide +kernel
theorem dX9_check_59 : decode cX9_check 59 = .ok (.putfield 118, 3) := by decide +kernel
theorem dX9_check_62 : decode cX9_check 62 = .ok (.iconst 2, 1) := by decide +kernel
theorem dX9_check_63 : decode cX9_check 63 = .ok (.ireturn, 1) := by decide +kernel
theorem dX9_check_64 : decode cX9_check 64 = .ok (.aload_n 0, 1) := by decide +kernel
theorem dX9_check_65 : decode cX9_check 65 = .ok (.iload_n 1, 1) := by decide +kernel
theorem dX9_check_66 : decode cX9_check 66 = .ok (.iload_n 2, 1) := by decide +kernel
theorem dX9_check_67 : decode cX9_check 67 = .ok (.invokevirtual 153, 3) := by decide +kernel
theorem dX9_check_70 : decode cX9_check 70 = .ok (.ifCond .eq 12, 3) := by decide +kernel
theorem dX9_check_73 : decode cX9_check 73 = .ok (.aload_n 0, 1) := by decide +kernel
theorem dX9_check_74 : decode cX9_check 74 = .ok (.getfield 34, 3) := by decide +kernel
theorem dX9_check_77 : decode cX9_check 77 = .ok (.iload_n 1, 1) := by decide +kernel
theorem dX9_check_78 : decode cX9_check 78 = .ok (.iconst 0, 1) := by decide +kernel
theorem dX9_check_79 : decode cX9_check 79 = .ok (.iastore, 1) := by decide +kernel
theorem dX9_check_80 : decode cX9_check 80 = .ok (.iconst 0, 1) := by decide +kernel
theorem dX9_check_81 : decode cX9_check 81 = .ok (.ireturn, 1) := by decide +kernel
theorem dX9_check_82 : decode cX9_check 82 = .ok (.iload_n 2, 1) := by decide +kernel
theorem dX9_check_83 : decode cX9_check 83 = .ok (.aload_n 0, 1) := by decide +kernel
theorem dX9_check_84 : decode cX9_check 84 = .ok (.getfield 27, 3) := by decide +kernel
theorem dX9_check_87 : decode cX9_check 87 = .ok (.iload_n 1, 1) := by decide +kernel
theorem dX9_check_88 : decode cX9_check 88 = .ok (.iaload, 1) := by decide +kernel
theorem dX9_check_89 : decode cX9_check 89 = .ok (.if_icmp .le 7, 3) := by decide +kernel
theorem dX9_check_92 : decode cX9_check 92 = .ok (.iconst 1, 1) := by decide +kernel
theorem dX9_check_93 : decode cX9_check 93 = .ok (.goto 4, 3) := by decide +kernel
theorem dX9_check_96 : decode cX9_check 96 = .ok (.iconst (-1), 1) := by decide +kernel
theorem dX9_check_97 : decode cX9_check 97 = .ok (.istore_n 3, 1) := by decide +kernel
theorem dX9_check_98 : decode cX9_check 98 = .ok (.aload_n 0, 1) := by decide +kernel
theorem dX9_check_99 : decode cX9_check 99 = .ok (.getfield 34, 3) := by decide +kernel
theorem dX9_check_102 : decode cX9_check 102 = .ok (.iload_n 1, 1) := by decide +kernel
theorem dX9_check_103 : decode cX9_check 103 = .ok (.iaload, 1) := by decide +kernel
theorem dX9_check_104 : decode cX9_check 104 = .ok (.ifCond .eq 13, 3) := by decide +kernel
theorem dX9_check_107 : decode cX9_check 107 = .ok (.aload_n 0, 1) := by decide +kernel
theorem dX9_check_108 : decode cX9_check 108 = .ok (.getfield 31, 3) := by decide +kernel
theorem dX9_check_111 : decode cX9_check 111 = .ok (.iload_n 1, 1) := by decide +kernel
theorem dX9_check_112 : decode cX9_check 112 = .ok (.iaload, 1) := by decide +kernel
theorem dX9_check_113 : decode cX9_check 113 = .ok (.iload_n 3, 1) := by decide +kernel
theorem dX9_check_114 : decode cX9_check 114 = .ok (.if_icmp .eq 26, 3) := by decide +kernel
theorem dX9_check_117 : decode cX9_check 117 = .ok (.aload_n 0, 1) := by decide +kernel
theorem dX9_check_118 : decode cX9_check 118 = .ok (.getfield 34, 3) := by decide +kernel
theorem dX9_check_121 : decode cX9_check 121 = .ok (.iload_n 1, 1) := by decide +kernel
theorem dX9_check_122 : decode cX9_check 122 = .ok (.iconst 1, 1) := by decide +kernel
theorem dX9_check_123 : decode cX9_check 123 = .ok (.iastore, 1) := by decide +kernel
theorem dX9_check_124 : decode cX9_check 124 = .ok (.aload_n 0, 1) := by decide +kernel
theorem dX9_check_125 : decode cX9_check 125 = .ok (.getfield 31, 3) := by decide +kernel
theorem dX9_check_128 : decode cX9_check 128 = .ok (.iload_n 1, 1) := by decide +kernel
theorem dX9_check_129 : decode cX9_check 129 = .ok (.iload_n 3, 1) := by decide +kernel
theorem dX9_check_130 : decode cX9_check 130 = .ok (.iastore, 1) := by decide +kernel
theorem dX9_check_131 : decode cX9_check 131 = .ok (.aload_n 0, 1) := by decide +kernel
theorem dX9_check_132 : decode cX9_check 132 = .ok (.getfield 37, 3) := by decide +kernel
theorem dX9_check_135 : decode cX9_check 135 = .ok (.iload_n 1, 1) := by decide +kernel
theorem dX9_check_136 : decode cX9_check 136 = .ok (.iload_n 2, 1) := by decide +kernel
theorem dX9_check_137 : decode cX9_check 137 = .ok (.iastore, 1) := by decide +kernel
theorem dX9_check_138 : decode cX9_check 138 = .ok (.iconst 1, 1) := by decide +kernel
theorem dX9_check_139 : decode cX9_check 139 = .ok (.ireturn, 1) := by decide +kernel
theorem dX9_check_140 : decode cX9_check 140 = .ok (.aload_n 0, 1) := by decide +kernel
theorem dX9_check_141 : decode cX9_check 141 = .ok (.getfield 34, 3) := by decide +kernel
theorem dX9_check_144 : decode cX9_check 144 = .ok (.iload_n 1, 1) := by decide +kernel
theorem dX9_check_145 : decode cX9_check 145 = .ok (.iaload, 1) := by decide +kernel
theorem dX9_check_146 : decode cX9_check 146 = .ok (.iconst 1, 1) := by decide +kernel
theorem dX9_check_147 : decode cX9_check 147 = .ok (.if_icmp .ne 19, 3) := by decide +kernel
theorem dX9_check_150 : decode cX9_check 150 = .ok (.aload_n 0, 1) := by decide +kernel
theorem dX9_check_151 : decode cX9_check 151 = .ok (.getfield 34, 3) := by decide +kernel
theorem dX9_check_154 : decode cX9_check 154 = .ok (.iload_n 1, 1) := by decide +kernel
theorem dX9_check_155 : decode cX9_check 155 = .ok (.iconst 2, 1) := by decide +kernel
theorem dX9_check_156 : decode cX9_check 156 = .ok (.iastore, 1) := by decide +kernel
theorem dX9_check_157 : decode cX9_check 157 = .ok (.aload_n 0, 1) := by decide +kernel
theorem dX9_check_158 : decode cX9_check 158 = .ok (.getfield 40, 3) := by decide +kernel
theorem dX9_check_161 : decode cX9_check 161 = .ok (.iload_n 1, 1) := by decide +kernel
theorem dX9_check_162 : decode cX9_check 162 = .ok (.iload_n 2, 1) := by decide +kernel
theorem dX9_check_163 : decode cX9_check 163 = .ok (.iastore, 1) := by decide +kernel
theorem dX9_check_164 : decode cX9_check 164 = .ok (.iconst 1, 1) := by decide +kernel
theorem dX9_check_165 : decode cX9_check 165 = .ok (.ireturn, 1) := by decide +kernel
theorem dX9_check_166 : decode cX9_check 166 = .ok (.aload_n 0, 1) := by decide +kernel
theorem dX9_check_167 : decode cX9_check 167 = .ok (.getfield 27, 3) := by decide +kernel
theorem dX9_check_170 : decode cX9_check 170 = .ok (.iload_n 1, 1) := by decide +kernel
theorem dX9_check_171 : decode cX9_check 171 = .ok (.aload_n 0, 1) := by decide +kernel
theorem dX9_check_172 : decode cX9_check 172 = .ok (.getfield 37, 3) := by decide +kernel
theorem dX9_check_175 : decode cX9_check 175 = .ok (.iload_n 1, 1) := by decide +kernel
theorem dX9_check_176 : decode cX9_check 176 = .ok (.iaload, 1) := by decide +kernel
theorem dX9_check_177 : decode cX9_check 177 = .ok (.aload_n 0, 1) := by decide +kernel
theorem dX9_check_178 : decode cX9_check 178 = .ok (.getfield 40, 3) := by decide +kernel
theorem dX9_check_181 : decode cX9_check 181 = .ok (.iload_n 1, 1) := by decide +kernel
theorem dX9_check_182 : decode cX9_check 182 = .ok (.iaload, 1) := by decide +kernel
theorem dX9_check_183 : decode cX9_check 183 = .ok (.iload_n 2, 1) := by decide +kernel
theorem dX9_check_184 : decode cX9_check 184 = .ok (.invokestatic 188, 3) := by decide +kernel
theorem dX9_check_187 : decode cX9_check 187 = .ok (.iastore, 1) := by decide +kernel
theorem dX9_check_188 : decode cX9_check 188 = .ok (.aload_n 0, 1) := by decide +kernel
theorem dX9_check_189 : decode cX9_check 189 = .ok (.getfield 34, 3) := by decide +kernel
theorem dX9_check_192 : decode cX9_check 192 = .ok (.iload_n 1, 1) := by decide +kernel
theorem dX9_check_193 : decode cX9_check 193 = .ok (.iconst 0, 1) := by decide +kernel
theorem dX9_check_194 : decode cX9_check 194 = .ok (.iastore, 1) := by decide +kernel
theorem dX9_check_195 : decode cX9_check 195 = .ok (.aload_n 0, 1) := by decide +kernel
theorem dX9_check_196 : decode cX9_check 196 = .ok (.dup, 1) := by decide +kernel
theorem dX9_check_197 : decode cX9_check 197 = .ok (.getfield 118, 3) := by decide +kernel
theorem dX9_check_200 : decode cX9_check 200 = .ok (.iconst 1, 1) := by decide +kernel
theorem dX9_check_201 : decode cX9_check 201 = .ok (.iadd, 1) := by decide +kernel
theorem dX9_check_202 : decode cX9_check 202 = .ok (.putfield 118, 3) := by decide +kernel
theorem dX9_check_205 : decode cX9_check 205 = .ok (.iconst 2, 1) := by decide +kernel
theorem dX9_check_206 : decode cX9_check 206 = .ok (.ireturn, 1) := by decide +kernel
theorem dX9_height_0 : decode cX9_height 0 = .ok (.aload_n 0, 1) := by decide +kernel
theorem dX9_height_1 : decode cX9_height 1 = .ok (.iconst 0, 1) := by decide +kernel
theorem dX9_height_2 : decode cX9_height 2 = .ok (.putfield 1, 3) := by decide +kernel
theorem dX9_height_5 : decode cX9_height 5 = .ok (.aload_n 0, 1) := by decide +kernel
theorem dX9_height_6 : decode cX9_height 6 = .ok (.iload_n 1, 1) := by decide +kernel
theorem dX9_height_7 : decode cX9_height 7 = .ok (.invokevirtual 139, 3) := by decide +kernel
theorem dX9_height_10 : decode cX9_height 10 = .ok (.ifCond .ne 8, 3) := by decide +kernel
theorem dX9_height_13 : decode cX9_height 13 = .ok (.bipush (-2), 2) := by decide +kernel
theorem dX9_height_15 : decode cX9_height 15 = .ok (.goto 25, 3) := by decide +kernel
theorem dX9_height_18 : decode cX9_height 18 = .ok (.aload_n 0, 1) := by decide +kernel
theorem dX9_height_19 : decode cX9_height 19 = .ok (.getfield 27, 3) := by decide +kernel
theorem dX9_height_22 : decode cX9_height 22 = .ok (.iload_n 1, 1) := by decide +kernel
theorem dX9_height_23 : decode cX9_height 23 = .ok (.iaload, 1) := by decide +kernel
theorem dX9_height_24 : decode cX9_height 24 = .ok (.sipush 255, 3) := by decide +kernel
theorem dX9_height_27 : decode cX9_height 27 = .ok (.if_icmp .ne 7, 3) := by decide +kernel
theorem dX9_height_30 : decode cX9_height 30 = .ok (.iconst (-1), 1) := by decide +kernel
theorem dX9_height_31 : decode cX9_height 31 = .ok (.goto 9, 3) := by decide +kernel
theorem dX9_height_34 : decode cX9_height 34 = .ok (.aload_n 0, 1) := by decide +kernel
theorem dX9_height_35 : decode cX9_height 35 = .ok (.getfield 27, 3) := by decide +kernel
theorem dX9_height_38 : decode cX9_height 38 = .ok (.iload_n 1, 1) := by decide +kernel
theorem dX9_height_39 : decode cX9_height 39 = .ok (.iaload, 1) := by decide +kernel
theorem dX9_height_40 : decode cX9_height 40 = .ok (.ireturn, 1) := by decide +kernel
theorem dX9_count_0 : decode cX9_count 0 = .ok (.aload_n 0, 1) := by decide +kernel
theorem dX9_count_1 : decode cX9_count 1 = .ok (.iconst 0, 1) := by decide +kernel
theorem dX9_count_2 : decode cX9_count 2 = .ok (.putfield 1, 3) := by decide +kernel
theorem dX9_count_5 : decode cX9_count 5 = .ok (.iload_n 1, 1) := by decide +kernel
theorem dX9_count_6 : decode cX9_count 6 = .ok (.tableswitch 86 0 7 #[46, 51, 56, 61, 66, 71, 76, 81], 46) := by decide +kernel
theorem dX9_count_52 : decode cX9_count 52 = .ok (.aload_n 0, 1) := by decide +kernel
theorem dX9_count_53 : decode cX9_count 53 = .ok (.getfield 43, 3) := by decide +kernel
theorem dX9_count_56 : decode cX9_count 56 = .ok (.ireturn, 1) := by decide +kernel
theorem dX9_count_57 : decode cX9_count 57 = .ok (.aload_n 0, 1) := by decide +kernel
theorem dX9_count_58 : decode cX9_count 58 = .ok (.getfield 46, 3) := by decide +kernel
theorem dX9_count_61 : decode cX9_count 61 = .ok (.ireturn, 1) := by decide +kernel
theorem dX9_count_62 : decode cX9_count 62 = .ok (.aload_n 0, 1) := by decide +kernel
theorem dX9_count_63 : decode cX9_count 63 = .ok (.getfield 121, 3) := by decide +kernel
theorem dX9_count_66 : decode cX9_count 66 = .ok (.ireturn, 1) := by decide +kernel
theorem dX9_count_67 : decode cX9_count 67 = .ok (.aload_n 0, 1) := by decide +kernel
theorem dX9_count_68 : decode cX9_count 68 = .ok (.getfield 130, 3) := by decide +kernel
theorem dX9_count_71 : decode cX9_count 71 = .ok (.ireturn, 1) := by decide +kernel
theorem dX9_count_72 : decode cX9_count 72 = .ok (.aload_n 0, 1) := by decide +kernel
theorem dX9_count_73 : decode cX9_count 73 = .ok (.getfield 133, 3) := by decide +kernel
theorem dX9_count_76 : decode cX9_count 76 = .ok (.ireturn, 1) := by decide +kernel
theorem dX9_count_77 : decode cX9_count 77 = .ok (.aload_n 0, 1) := by decide +kernel
theorem dX9_count_78 : decode cX9_count 78 = .ok (.getfield 115, 3) := by decide +kernel
theorem dX9_count_81 : decode cX9_count 81 = .ok (.ireturn, 1) := by decide +kernel
theorem dX9_count_82 : decode cX9_count 82 = .ok (.aload_n 0, 1) := by decide +kernel
theorem dX9_count_83 : decode cX9_count 83 = .ok (.getfield 118, 3) := by decide +kernel
theorem dX9_count_86 : decode cX9_count 86 = .ok (.ireturn, 1) := by decide +kernel
theorem dX9_count_87 : decode cX9_count 87 = .ok (.aload_n 0, 1) := by decide +kernel
theorem dX9_count_88 : decode cX9_count 88 = .ok (.getfield 7, 3) := by decide +kernel
theorem dX9_count_91 : decode cX9_count 91 = .ok (.ireturn, 1) := by decide +kernel
theorem dX9_count_92 : decode cX9_count 92 = .ok (.iconst (-1), 1) := by decide +kernel
theorem dX9_count_93 : decode cX9_count 93 = .ok (.ireturn, 1) := by decide +kernel
theorem dJ9_abs_0f7a4_0 : decode cJ9_abs_0f7a4 0 = .ok (.iload_n 0, 1) := by decide +kernel
theorem dJ9_abs_0f7a4_1 : decode cJ9_abs_0f7a4 1 = .ok (.ifCond .ge 8, 3) := by decide +kernel
theorem dJ9_abs_0f7a4_4 : decode cJ9_abs_0f7a4 4 = .ok (.iload_n 0, 1) := by decide +kernel
theorem dJ9_abs_0f7a4_5 : decode cJ9_abs_0f7a4 5 = .ok (.ineg, 1) := by decide +kernel
theorem dJ9_abs_0f7a4_6 : decode cJ9_abs_0f7a4 6 = .ok (.goto 4, 3) := by decide +kernel
theorem dJ9_abs_0f7a4_9 : decode cJ9_abs_0f7a4 9 = .ok (.iload_n 0, 1) := by decide +kernel
theorem dJ9_abs_0f7a4_10 : decode cJ9_abs_0f7a4 10 = .ok (.ireturn, 1) := by decide +kernel
theorem dJ9_max_7cf53_0 : decode cJ9_max_7cf53 0 = .ok (.iload_n 0, 1) := by decide +kernel
theorem dJ9_max_7cf53_1 : decode cJ9_max_7cf53 1 = .ok (.iload_n 1, 1) := by decide +kernel
theorem dJ9_max_7cf53_2 : decode cJ9_max_7cf53 2 = .ok (.if_icmp .lt 7, 3) := by decide +kernel
theorem dJ9_max_7cf53_5 : decode cJ9_max_7cf53 5 = .ok (.iload_n 0, 1) := by decide +kernel
theorem dJ9_max_7cf53_6 : decode cJ9_max_7cf53 6 = .ok (.goto 4, 3) := by decide +kernel
theorem dJ9_max_7cf53_9 : decode cJ9_max_7cf53 9 = .ok (.iload_n 1, 1) := by decide +kernel
theorem dJ9_max_7cf53_10 : decode cJ9_max_7cf53 10 = .ok (.ireturn, 1) := by decide +kernel
theorem dJ9_min_7cf53_0 : decode cJ9_min_7cf53 0 = .ok (.iload_n 0, 1) := by decide +kernel
theorem dJ9_min_7cf53_1 : decode cJ9_min_7cf53 1 = .ok (.iload_n 1, 1) := by decide +kernel
theorem dJ9_min_7cf53_2 : decode cJ9_min_7cf53 2 = .ok (.if_icmp .gt 7, 3) := by decide +kernel
theorem dJ9_min_7cf53_5 : decode cJ9_min_7cf53 5 = .ok (.iload_n 0, 1) := by decide +kernel
theorem dJ9_min_7cf53_6 : decode cJ9_min_7cf53 6 = .ok (.goto 4, 3) := by decide +kernel
theorem dJ9_min_7cf53_9 : decode cJ9_min_7cf53 9 = .ok (.iload_n 1, 1) := by decide +kernel
theorem dJ9_min_7cf53_10 : decode cJ9_min_7cf53 10 = .ok (.ireturn, 1) := by decide +kernel
theorem dL_share_0 : decode cL_share 0 = .ok (.aload_n 3, 1) := by decide +kernel
theorem dL_share_1 : decode cL_share 1 = .ok (.iconst 0, 1) := by decide +kernel
theorem dL_share_2 : decode cL_share 2 = .ok (.aload_n 0, 1) := by decide +kernel
theorem dL_share_3 : decode cL_share 3 = .ok (.iload_n 1, 1) := by decide +kernel
theorem dL_share_4 : decode cL_share 4 = .ok (.iload_n 2, 1) := by decide +kernel
theorem dL_share_5 : decode cL_share 5 = .ok (.invokevirtual 7, 3) := by decide +kernel
theorem dL_share_8 : decode cL_share 8 = .ok (.lastore, 1) := by decide +kernel
theorem dL_share_9 : decode cL_share 9 = .ok (.goto 7, 3) := by decide +kernel
theorem dL_share_12 : decode cL_share 12 = .ok (.astore 4, 2) := by decide +kernel
theorem dL_share_14 : decode cL_share 14 = .ok (.iconst 1, 1) := by decide +kernel
theorem dL_share_15 : decode cL_share 15 = .ok (.ireturn, 1) := by decide +kernel
theorem dL_share_16 : decode cL_share 16 = .ok (.iconst 0, 1) := by decide +kernel
theorem dL_share_17 : decode cL_share 17 = .ok (.ireturn, 1) := by decide +kernel
theorem dL_law_0 : decode cL_law 0 = .ok (.new 8, 3) := by decide +kernel
theorem dL_law_3 : decode cL_law 3 = .ok (.dup, 1) := by decide +kernel
theorem dL_law_4 : decode cL_law 4 = .ok (.invokespecial 15, 3) := by decide +kernel
theorem dL_law_7 : decode cL_law 7 = .ok (.astore_n 1, 1) := by decide +kernel
theorem dL_law_8 : decode cL_law 8 = .ok (.new 16, 3) := by decide +kernel
theorem dL_law_11 : decode cL_law 11 = .ok (.dup, 1) := by decide +kernel
theorem dL_law_12 : decode cL_law 12 = .ok (.invokespecial 18, 3) := by decide +kernel
theorem dL_law_15 : decode cL_law 15 = .ok (.astore_n 2, 1) := by decide +kernel
theorem dL_law_16 : decode cL_law 16 = .ok (.iconst 1, 1) := by decide +kernel
theorem dL_law_17 : decode cL_law 17 = .ok (.newarray .long, 2) := by decide +kernel
theorem dL_law_19 : decode cL_law 19 = .ok (.astore_n 3, 1) := by decide +kernel
theorem dL_law_20 : decode cL_law 20 = .ok (.iconst 0, 1) := by decide +kernel
theorem dL_law_21 : decode cL_law 21 = .ok (.istore 4, 2) := by decide +kernel
theorem dL_law_23 : decode cL_law 23 = .ok (.iload 4, 2) := by decide +kernel
theorem dL_law_25 : decode cL_law 25 = .ok (.aload_n 0, 1) := by decide +kernel
theorem dL_law_26 : decode cL_law 26 = .ok (.arraylength, 1) := by decide +kernel
theorem dL_law_27 : decode cL_law 27 = .ok (.bipush 6, 2) := by decide +kernel
theorem dL_law_29 : decode cL_law 29 = .ok (.isub, 1) := by decide +kernel
theorem dL_law_30 : decode cL_law 30 = .ok (.if_icmp .gt 656, 3) := by decide +kernel
theorem dL_law_33 : decode cL_law 33 = .ok (.aload_n 0, 1) := by decide +kernel
theorem dL_law_34 : decode cL_law 34 = .ok (.iload 4, 2) := by decide +kernel
theorem dL_law_36 : decode cL_law 36 = .ok (.iaload, 1) := by decide +kernel
theorem dL_law_37 : decode cL_law 37 = .ok (.bipush 31, 2) := by decide +kernel
theorem dL_law_39 : decode cL_law 39 = .ok (.iand, 1) := by decide +kernel
theorem dL_law_40 : decode cL_law 40 = .ok (.tableswitch 640 0 17 #[88, 161, 186, 223, 272, 297, 334, 359, 426, 439, 464, 477, 502, 515, 528, 553, 590, 615], 88) := by decide +kernel
theorem dL_law_128 : decode cL_law 128 = .ok (.aload_n 1, 1) := by decide +kernel
theorem dL_law_129 : decode cL_law 129 = .ok (.aload_n 0, 1) := by decide +kernel
theorem dL_law_130 : decode cL_law 130 = .ok (.iload 4, 2) := by decide +kernel
theorem dL_law_132 : decode cL_law 132 = .ok (.iconst 1, 1) := by decide +kernel
theorem dL_law_133 : decode cL_law 133 = .ok (.iadd, 1) := by decide +kernel
theorem dL_law_134 : decode cL_law 134 = .ok (.iaload, 1) := by decide +kernel
theorem dL_law_135 : decode cL_law 135 = .ok (.aload_n 0, 1) := by decide +kernel
theorem dL_law_136 : decode cL_law 136 = .ok (.iload 4, 2) := by decide +kernel
theorem dL_law_138 : decode cL_law 138 = .ok (.iconst 2, 1) := by decide +kernel
theorem dL_law_139 : decode cL_law 139 = .ok (.iadd, 1) := by decide +kernel
theorem dL_law_140 : decode cL_law 140 = .ok (.iaload, 1) := by decide +kernel
theorem dL_law_141 : decode cL_law 141 = .ok (.aload_n 0, 1) := by decide +kernel
theorem dL_law_142 : decode cL_law 142 = .ok (.iload 4, 2) := by decide +kernel
theorem dL_law_144 : decode cL_law 144 = .ok (.iconst 3, 1) := by decide +kernel
theorem dL_law_145 : decode cL_law 145 = .ok (.iadd, 1) := by decide +kernel
theorem dL_law_146 : decode cL_law 146 = .ok (.iaload, 1) := by decide +kernel
theorem dL_law_147 : decode cL_law 147 = .ok (.aload_n 0, 1) := by decide +kernel
theorem dL_law_148 : decode cL_law 148 = .ok (.iload 4, 2) := by decide +kernel
theorem dL_law_150 : decode cL_law 150 = .ok (.iconst 4, 1) := by decide +kernel
theorem dL_law_151 : decode cL_law 151 = .ok (.iadd, 1) := by decide +kernel
theorem dL_law_152 : decode cL_law 152 = .ok (.iaload, 1) := by decide +kernel
theorem dL_law_153 : decode cL_law 153 = .ok (.aload_n 0, 1) := by decide +kernel
theorem dL_law_154 : decode cL_law 154 = .ok (.iload 4, 2) := by decide +kernel
theorem dL_law_156 : decode cL_law 156 = .ok (.iconst 5, 1) := by decide +kernel
theorem dL_law_157 : decode cL_law 157 = .ok (.iadd, 1) := by decide +kernel
theorem dL_law_158 : decode cL_law 158 = .ok (.iaload, 1) := by decide +kernel
theorem dL_law_159 : decode cL_law 159 = .ok (.invokevirtual 19, 3) := by decide +kernel
theorem dL_law_162 : decode cL_law 162 = .ok (.aload_n 2, 1) := by decide +kernel
theorem dL_law_163 : decode cL_law 163 = .ok (.aload_n 0, 1) := by decide +kernel
theorem dL_law_164 : decode cL_law 164 = .ok (.iload 4, 2) := by decide +kernel
theorem dL_law_166 : decode cL_law 166 = .ok (.iconst 1, 1) := by decide +kernel
theorem dL_law_167 : decode cL_law 167 = .ok (.iadd, 1) := by decide +kernel
theorem dL_law_168 : decode cL_law 168 = .ok (.iaload, 1) := by decide +kernel
theorem dL_law_169 : decode cL_law 169 = .ok (.aload_n 0, 1) := by decide +kernel
theorem dL_law_170 : decode cL_law 170 = .ok (.iload 4, 2) := by decide +kernel
theorem dL_law_172 : decode cL_law 172 = .ok (.iconst 2, 1) := by decide +kernel
theorem dL_law_173 : decode cL_law 173 = .ok (.iadd, 1) := by decide +kernel
theorem dL_law_174 : decode cL_law 174 = .ok (.iaload, 1) := by decide +kernel
theorem dL_law_175 : decode cL_law 175 = .ok (.aload_n 0, 1) := by decide +kernel
theorem dL_law_176 : decode cL_law 176 = .ok (.iload 4, 2) := by decide +kernel
theorem dL_law_178 : decode cL_law 178 = .ok (.iconst 3, 1) := by decide +kernel
theorem dL_law_179 : decode cL_law 179 = .ok (.iadd, 1) := by decide +kernel
theorem dL_law_180 : decode cL_law 180 = .ok (.iaload, 1) := by decide +kernel
theorem dL_law_181 : decode cL_law 181 = .ok (.aload_n 0, 1) := by decide +kernel
theorem dL_law_182 : decode cL_law 182 = .ok (.iload 4, 2) := by decide +kernel
theorem dL_law_184 : decode cL_law 184 = .ok (.iconst 4, 1) := by decide +kernel
theorem dL_law_185 : decode cL_law 185 = .ok (.iadd, 1) := by decide +kernel
theorem dL_law_186 : decode cL_law 186 = .ok (.iaload, 1) := by decide +kernel
theorem dL_law_187 : decode cL_law 187 = .ok (.aload_n 0, 1) := by decide +kernel
theorem dL_law_188 : decode cL_law 188 = .ok (.iload 4, 2) := by decide +kernel
theorem dL_law_190 : decode cL_law 190 = .ok (.iconst 5, 1) := by decide +kernel
theorem dL_law_191 : decode cL_law 191 = .ok (.iadd, 1) := by decide +kernel
theorem dL_law_192 : decode cL_law 192 = .ok (.iaload, 1) := by decide +kernel
theorem dL_law_193 : decode cL_law 193 = .ok (.invokevirtual 23, 3) := by decide +kernel
theorem dL_law_196 : decode cL_law 196 = .ok (.if_icmp .eq 484, 3) := by decide +kernel
theorem dL_law_199 : decode cL_law 199 = .ok (.iconst 0, 1) := by decide +kernel
theorem dL_law_200 : decode cL_law 200 = .ok (.ireturn, 1) := by decide +kernel
theorem dL_law_201 : decode cL_law 201 = .ok (.aload_n 1, 1) := by decide +kernel
theorem dL_law_202 : decode cL_law 202 = .ok (.aload_n 0, 1) := by decide +kernel
theorem dL_law_203 : decode cL_law 203 = .ok (.iload 4, 2) := by decide +kernel
theorem dL_law_205 : decode cL_law 205 = .ok (.iconst 1, 1) := by decide +kernel
theorem dL_law_206 : decode cL_law 206 = .ok (.iadd, 1) := by decide +kernel
theorem dL_law_207 : decode cL_law 207 = .ok (.iaload, 1) := by decide +kernel
theorem dL_law_208 : decode cL_law 208 = .ok (.invokevirtual 24, 3) := by decide +kernel
theorem dL_law_211 : decode cL_law 211 = .ok (.aload_n 2, 1) := by decide +kernel
theorem dL_law_212 : decode cL_law 212 = .ok (.aload_n 0, 1) := by decide +kernel
theorem dL_law_213 : decode cL_law 213 = .ok (.iload 4, 2) := by decide +kernel
theorem dL_law_215 : decode cL_law 215 = .ok (.iconst 1, 1) := by decide +kernel
theorem dL_law_216 : decode cL_law 216 = .ok (.iadd, 1) := by decide +kernel
theorem dL_law_217 : decode cL_law 217 = .ok (.iaload, 1) := by decide +kernel
theorem dL_law_218 : decode cL_law 218 = .ok (.invokevirtual 28, 3) := by decide +kernel
theorem dL_law_221 : decode cL_law 221 = .ok (.if_icmp .eq 459, 3) := by decide +kernel
theorem dL_law_224 : decode cL_law 224 = .ok (.iconst 0, 1) := by decide +kernel
theorem dL_law_225 : decode cL_law 225 = .ok (.ireturn, 1) := by decide +kernel
theorem dL_law_226 : decode cL_law 226 = .ok (.aload_n 1, 1) := by decide +kernel
theorem dL_law_227 : decode cL_law 227 = .ok (.aload_n 0, 1) := by decide +kernel
theorem dL_law_228 : decode cL_law 228 = .ok (.iload 4, 2) := by decide +kernel
theorem dL_law_230 : decode cL_law 230 = .ok (.iconst 1, 1) := by decide +kernel
theorem dL_law_231 : decode cL_law 231 = .ok (.iadd, 1) := by decide +kernel
theorem dL_law_232 : decode cL_law 232 = .ok (.iaload, 1) := by decide +kernel
theorem dL_law_233 : decode cL_law 233 = .ok (.aload_n 0, 1) := by decide +kernel
theorem dL_law_234 : decode cL_law 234 = .ok (.iload 4, 2) := by decide +kernel
theorem dL_law_236 : decode cL_law 236 = .ok (.iconst 2, 1) := by decide +kernel
theorem dL_law_237 : decode cL_law 237 = .ok (.iadd, 1) := by decide +kernel
theorem dL_law_238 : decode cL_law 238 = .ok (.iaload, 1) := by decide +kernel
theorem dL_law_239 : decode cL_law 239 = .ok (.invokevirtual 29, 3) := by decide +kernel
theorem dL_law_242 : decode cL_law 242 = .ok (.aload_n 2, 1) := by decide +kernel
theorem dL_law_243 : decode cL_law 243 = .ok (.aload_n 0, 1) := by decide +kernel
theorem dL_law_244 : decode cL_law 244 = .ok (.iload 4, 2) := by decide +kernel
theorem dL_law_246 : decode cL_law 246 = .ok (.iconst 1, 1) := by decide +kernel
theorem dL_law_247 : decode cL_law 247 = .ok (.iadd, 1) := by decide +kernel
theorem dL_law_248 : decode cL_law 248 = .ok (.iaload, 1) := by decide +kernel
theorem dL_law_249 : decode cL_law 249 = .ok (.aload_n 0, 1) := by decide +kernel
theorem dL_law_250 : decode cL_law 250 = .ok (.iload 4, 2) := by decide +kernel
theorem dL_law_252 : decode cL_law 252 = .ok (.iconst 2, 1) := by decide +kernel
theorem dL_law_253 : decode cL_law 253 = .ok (.iadd, 1) := by decide +kernel
theorem dL_law_254 : decode cL_law 254 = .ok (.iaload, 1) := by decide +kernel
theorem dL_law_255 : decode cL_law 255 = .ok (.invokevirtual 33, 3) := by decide +kernel
theorem dL_law_258 : decode cL_law 258 = .ok (.if_icmp .eq 422, 3) := by decide +kernel
theorem dL_law_261 : decode cL_law 261 = .ok (.iconst 0, 1) := by decide +kernel
theorem dL_law_262 : decode cL_law 262 = .ok (.ireturn, 1) := by decide +kernel
theorem dL_law_263 : decode cL_law 263 = .ok (.aload_n 1, 1) := by decide +kernel
theorem dL_law_264 : decode cL_law 264 = .ok (.aload_n 0, 1) := by decide +kernel
theorem dL_law_265 : decode cL_law 265 = .ok (.iload 4, 2) := by decide +kernel
theorem dL_law_267 : decode cL_law 267 = .ok (.iconst 1, 1) := by decide +kernel
theorem dL_law_268 : decode cL_law 268 = .ok (.iadd, 1) := by decide +kernel
theorem dL_law_269 : decode cL_law 269 = .ok (.iaload, 1) := by decide +kernel
theorem dL_law_270 : decode cL_law 270 = .ok (.aload_n 0, 1) := by decide +kernel
theorem dL_law_271 : decode cL_law 271 = .ok (.iload 4, 2) := by decide +kernel
theorem dL_law_273 : decode cL_law 273 = .ok (.iconst 2, 1) := by decide +kernel
theorem dL_law_274 : decode cL_law 274 = .ok (.iadd, 1) := by decide +kernel
theorem dL_law_275 : decode cL_law 275 = .ok (.iaload, 1) := by decide +kernel
theorem dL_law_276 : decode cL_law 276 = .ok (.aload_n 0, 1) := by decide +kernel
theorem dL_law_277 : decode cL_law 277 = .ok (.iload 4, 2) := by decide +kernel
theorem dL_law_279 : decode cL_law 279 = .ok (.iconst 3, 1) := by decide +kernel
theorem dL_law_280 : decode cL_law 280 = .ok (.iadd, 1) := by decide +kernel
theorem dL_law_281 : decode cL_law 281 = .ok (.iaload, 1) := by decide +kernel
theorem dL_law_282 : decode cL_law 282 = .ok (.invokevirtual 34, 3) := by decide +kernel
theorem dL_law_285 : decode cL_law 285 = .ok (.aload_n 2, 1) := by decide +kernel
theorem dL_law_286 : decode cL_law 286 = .ok (.aload_n 0, 1) := by decide +kernel
theorem dL_law_287 : decode cL_law 287 = .ok (.iload 4, 2) := by decide +kernel
theorem dL_law_289 : decode cL_law 289 = .ok (.iconst 1, 1) := by decide +kernel
theorem dL_law_290 : decode cL_law 290 = .ok (.iadd, 1) := by decide +kernel
theorem dL_law_291 : decode cL_law 291 = .ok (.iaload, 1) := by decide +kernel
theorem dL_law_292 : decode cL_law 292 = .ok (.aload_n 0, 1) := by decide +kernel
theorem dL_law_293 : decode cL_law 293 = .ok (.iload 4, 2) := by decide +kernel
theorem dL_law_295 : decode cL_law 295 = .ok (.iconst 2, 1) := by decide +kernel
theorem dL_law_296 : decode cL_law 296 = .ok (.iadd, 1) := by decide +kernel
theorem dL_law_297 : decode cL_law 297 = .ok (.iaload, 1) := by decide +kernel
theorem dL_law_298 : decode cL_law 298 = .ok (.aload_n 0, 1) := by decide +kernel
theorem dL_law_299 : decode cL_law 299 = .ok (.iload 4, 2) := by decide +kernel
theorem dL_law_301 : decode cL_law 301 = .ok (.iconst 3, 1) := by decide +kernel
theorem dL_law_302 : decode cL_law 302 = .ok (.iadd, 1) := by decide +kernel
theorem dL_law_303 : decode cL_law 303 = .ok (.iaload, 1) := by decide +kernel
theorem dL_law_304 : decode cL_law 304 = .ok (.invokevirtual 38, 3) := by decide +kernel
theorem dL_law_307 : decode cL_law 307 = .ok (.if_icmp .eq 373, 3) := by decide +kernel
theorem dL_law_310 : decode cL_law 310 = .ok (.iconst 0, 1) := by decide +kernel
theorem dL_law_311 : decode cL_law 311 = .ok (.ireturn, 1) := by decide +kernel
theorem dL_law_312 : decode cL_law 312 = .ok (.aload_n 1, 1) := by decide +kernel
theorem dL_law_313 : decode cL_law 313 = .ok (.aload_n 0, 1) := by decide +kernel
theorem dL_law_314 : decode cL_law 314 = .ok (.iload 4, 2) := by decide +kernel
theorem dL_law_316 : decode cL_law 316 = .ok (.iconst 1, 1) := by decide +kernel
theorem dL_law_317 : decode cL_law 317 = .ok (.iadd, 1) := by decide +kernel
theorem dL_law_318 : decode cL_law 318 = .ok (.iaload, 1) := by decide +kernel
theorem dL_law_319 : decode cL_law 319 = .ok (.invokevirtual 39, 3) := by decide +kernel
theorem dL_law_322 : decode cL_law 322 = .ok (.aload_n 2, 1) := by decide +kernel
theorem dL_law_323 : decode cL_law 323 = .ok (.aload_n 0, 1) := by decide +kernel
theorem dL_law_324 : decode cL_law 324 = .ok (.iload 4, 2) := by decide +kernel
theorem dL_law_326 : decode cL_law 326 = .ok (.iconst 1, 1) := by decide +kernel
theorem dL_law_327 : decode cL_law 327 = .ok (.iadd, 1) := by decide +kernel
theorem dL_law_328 : decode cL_law 328 = .ok (.iaload, 1) := by decide +kernel
theorem dL_law_329 : decode cL_law 329 = .ok (.invokevirtual 42, 3) := by decide +kernel
theorem dL_law_332 : decode cL_law 332 = .ok (.if_icmp .eq 348, 3) := by decide +kernel
theorem dL_law_335 : decode cL_law 335 = .ok (.iconst 0, 1) := by decide +kernel
theorem dL_law_336 : decode cL_law 336 = .ok (.ireturn, 1) := by decide +kernel
theorem dL_law_337 : decode cL_law 337 = .ok (.aload_n 1, 1) := by decide +kernel
theorem dL_law_338 : decode cL_law 338 = .ok (.aload_n 0, 1) := by decide +kernel
theorem dL_law_339 : decode cL_law 339 = .ok (.iload 4, 2) := by decide +kernel
theorem dL_law_341 : decode cL_law 341 = .ok (.iconst 1, 1) := by decide +kernel
theorem dL_law_342 : decode cL_law 342 = .ok (.iadd, 1) := by decide +kernel
theorem dL_law_343 : decode cL_law 343 = .ok (.iaload, 1) := by decide +kernel
theorem dL_law_344 : decode cL_law 344 = .ok (.aload_n 0, 1) := by decide +kernel
theorem dL_law_345 : decode cL_law 345 = .ok (.iload 4, 2) := by decide +kernel
theorem dL_law_347 : decode cL_law 347 = .ok (.iconst 2, 1) := by decide +kernel
theorem dL_law_348 : decode cL_law 348 = .ok (.iadd, 1) := by decide +kernel
theorem dL_law_349 : decode cL_law 349 = .ok (.iaload, 1) := by decide +kernel
theorem dL_law_350 : decode cL_law 350 = .ok (.invokevirtual 43, 3) := by decide +kernel
theorem dL_law_353 : decode cL_law 353 = .ok (.aload_n 2, 1) := by decide +kernel
theorem dL_law_354 : decode cL_law 354 = .ok (.aload_n 0, 1) := by decide +kernel
theorem dL_law_355 : decode cL_law 355 = .ok (.iload 4, 2) := by decide +kernel
theorem dL_law_357 : decode cL_law 357 = .ok (.iconst 1, 1) := by decide +kernel
theorem dL_law_358 : decode cL_law 358 = .ok (.iadd, 1) := by decide +kernel
theorem dL_law_359 : decode cL_law 359 = .ok (.iaload, 1) := by decide +kernel
theorem dL_law_360 : decode cL_law 360 = .ok (.aload_n 0, 1) := by decide +kernel
theorem dL_law_361 : decode cL_law 361 = .ok (.iload 4, 2) := by decide +kernel
theorem dL_law_363 : decode cL_law 363 = .ok (.iconst 2, 1) := by decide +kernel
theorem dL_law_364 : decode cL_law 364 = .ok (.iadd, 1) := by decide +kernel
theorem dL_law_365 : decode cL_law 365 = .ok (.iaload, 1) := by decide +kernel
theorem dL_law_366 : decode cL_law 366 = .ok (.invokevirtual 47, 3) := by decide +kernel
theorem dL_law_369 : decode cL_law 369 = .ok (.if_icmp .eq 311, 3) := by decide +kernel
theorem dL_law_372 : decode cL_law 372 = .ok (.iconst 0, 1) := by decide +kernel
theorem dL_law_373 : decode cL_law 373 = .ok (.ireturn, 1) := by decide +kernel
theorem dL_law_374 : decode cL_law 374 = .ok (.aload_n 1, 1) := by decide +kernel
theorem dL_law_375 : decode cL_law 375 = .ok (.aload_n 0, 1) := by decide +kernel
theorem dL_law_376 : decode cL_law 376 = .ok (.iload 4, 2) := by decide +kernel
theorem dL_law_378 : decode cL_law 378 = .ok (.iconst 1, 1) := by decide +kernel
theorem dL_law_379 : decode cL_law 379 = .ok (.iadd, 1) := by decide +kernel
theorem dL_law_380 : decode cL_law 380 = .ok (.iaload, 1) := by decide +kernel
theorem dL_law_381 : decode cL_law 381 = .ok (.invokevirtual 48, 3) := by decide +kernel
theorem dL_law_384 : decode cL_law 384 = .ok (.aload_n 2, 1) := by decide +kernel
theorem dL_law_385 : decode cL_law 385 = .ok (.aload_n 0, 1) := by decide +kernel
theorem dL_law_386 : decode cL_law 386 = .ok (.iload 4, 2) := by decide +kernel
theorem dL_law_388 : decode cL_law 388 = .ok (.iconst 1, 1) := by decide +kernel
theorem dL_law_389 : decode cL_law 389 = .ok (.iadd, 1) := by decide +kernel
theorem dL_law_390 : decode cL_law 390 = .ok (.iaload, 1) := by decide +kernel
theorem dL_law_391 : decode cL_law 391 = .ok (.invokevirtual 52, 3) := by decide +kernel
theorem dL_law_394 : decode cL_law 394 = .ok (.if_icmp .eq 286, 3) := by decide +kernel
theorem dL_law_397 : decode cL_law 397 = .ok (.iconst 0, 1) := by decide +kernel
theorem dL_law_398 : decode cL_law 398 = .ok (.ireturn, 1) := by decide +kernel
theorem dL_law_399 : decode cL_law 399 = .ok (.aload_n 1, 1) := by decide +kernel
theorem dL_law_400 : decode cL_law 400 = .ok (.aload_n 0, 1) := by decide +kernel
theorem dL_law_401 : decode cL_law 401 = .ok (.iload 4, 2) := by decide +kernel
theorem dL_law_403 : decode cL_law 403 = .ok (.iconst 1, 1) := by decide +kernel
theorem dL_law_404 : decode cL_law 404 = .ok (.iadd, 1) := by decide +kernel
theorem dL_law_405 : decode cL_law 405 = .ok (.iaload, 1) := by decide +kernel
theorem dL_law_406 : decode cL_law 406 = .ok (.aload_n 0, 1) := by decide +kernel
theorem dL_law_407 : decode cL_law 407 = .ok (.iload 4, 2) := by decide +kernel
theorem dL_law_409 : decode cL_law 409 = .ok (.iconst 2, 1) := by decide +kernel
theorem dL_law_410 : decode cL_law 410 = .ok (.iadd, 1) := by decide +kernel
theorem dL_law_411 : decode cL_law 411 = .ok (.iaload, 1) := by decide +kernel
theorem dL_law_412 : decode cL_law 412 = .ok (.aload_n 3, 1) := by decide +kernel
theorem dL_law_413 : decode cL_law 413 = .ok (.invokestatic 53, 3) := by decide +kernel
theorem dL_law_416 : decode cL_law 416 = .ok (.istore 5, 2) := by decide +kernel
theorem dL_law_418 : decode cL_law 418 = .ok (.aload_n 2, 1) := by decide +kernel
theorem dL_law_419 : decode cL_law 419 = .ok (.aload_n 0, 1) := by decide +kernel
theorem dL_law_420 : decode cL_law 420 = .ok (.iload 4, 2) := by decide +kernel
theorem dL_law_422 : decode cL_law 422 = .ok (.iconst 1, 1) := by decide +kernel
theorem dL_law_423 : decode cL_law 423 = .ok (.iadd, 1) := by decide +kernel
theorem dL_law_424 : decode cL_law 424 = .ok (.iaload, 1) := by decide +kernel
theorem dL_law_425 : decode cL_law 425 = .ok (.aload_n 0, 1) := by decide +kernel
theorem dL_law_426 : decode cL_law 426 = .ok (.iload 4, 2) := by decide +kernel
theorem dL_law_428 : decode cL_law 428 = .ok (.iconst 2, 1) := by decide +kernel
theorem dL_law_429 : decode cL_law 429 = .ok (.iadd, 1) := by decide +kernel
theorem dL_law_430 : decode cL_law 430 = .ok (.iaload, 1) := by decide +kernel
theorem dL_law_431 : decode cL_law 431 = .ok (.invokevirtual 58, 3) := by decide +kernel
theorem dL_law_434 : decode cL_law 434 = .ok (.lstore 6, 2) := by decide +kernel
theorem dL_law_436 : decode cL_law 436 = .ok (.aload_n 2, 1) := by decide +kernel
theorem dL_law_437 : decode cL_law 437 = .ok (.invokevirtual 59, 3) := by decide +kernel
theorem dL_law_440 : decode cL_law 440 = .ok (.iload 5, 2) := by decide +kernel
theorem dL_law_442 : decode cL_law 442 = .ok (.if_icmp .eq 5, 3) := by decide +kernel
theorem dL_law_445 : decode cL_law 445 = .ok (.iconst 0, 1) := by decide +kernel
theorem dL_law_446 : decode cL_law 446 = .ok (.ireturn, 1) := by decide +kernel
theorem dL_law_447 : decode cL_law 447 = .ok (.iload 5, 2) := by decide +kernel
theorem dL_law_449 : decode cL_law 449 = .ok (.ifCond .ne 14, 3) := by decide +kernel
theorem dL_law_452 : decode cL_law 452 = .ok (.aload_n 3, 1) := by decide +kernel
theorem dL_law_453 : decode cL_law 453 = .ok (.iconst 0, 1) := by decide +kernel
theorem dL_law_454 : decode cL_law 454 = .ok (.laload, 1) := by decide +kernel
theorem dL_law_455 : decode cL_law 455 = .ok (.lload 6, 2) := by decide +kernel
theorem dL_law_457 : decode cL_law 457 = .ok (.lcmp, 1) := by decide +kernel
theorem dL_law_458 : decode cL_law 458 = .ok (.ifCond .eq 5, 3) := by decide +kernel
theorem dL_law_461 : decode cL_law 461 = .ok (.iconst 0, 1) := by decide +kernel
theorem dL_law_462 : decode cL_law 462 = .ok (.ireturn, 1) := by decide +kernel
theorem dL_law_463 : decode cL_law 463 = .ok (.goto 217, 3) := by decide +kernel
theorem dL_law_466 : decode cL_law 466 = .ok (.aload_n 1, 1) := by decide +kernel
theorem dL_law_467 : decode cL_law 467 = .ok (.invokevirtual 63, 3) := by decide +kernel
theorem dL_law_470 : decode cL_law 470 = .ok (.aload_n 2, 1) := by decide +kernel
theorem dL_law_471 : decode cL_law 471 = .ok (.invokevirtual 66, 3) := by decide +kernel
theorem dL_law_474 : decode cL_law 474 = .ok (.if_icmp .eq 206, 3) := by decide +kernel
theorem dL_law_477 : decode cL_law 477 = .ok (.iconst 0, 1) := by decide +kernel
theorem dL_law_478 : decode cL_law 478 = .ok (.ireturn, 1) := by decide +kernel
theorem dL_law_479 : decode cL_law 479 = .ok (.aload_n 1, 1) := by decide +kernel
theorem dL_law_480 : decode cL_law 480 = .ok (.aload_n 0, 1) := by decide +kernel
theorem dL_law_481 : decode cL_law 481 = .ok (.iload 4, 2) := by decide +kernel
theorem dL_law_483 : decode cL_law 483 = .ok (.iconst 1, 1) := by decide +kernel
theorem dL_law_484 : decode cL_law 484 = .ok (.iadd, 1) := by decide +kernel
theorem dL_law_485 : decode cL_law 485 = .ok (.iaload, 1) := by decide +kernel
theorem dL_law_486 : decode cL_law 486 = .ok (.invokevirtual 67, 3) := by decide +kernel
theorem dL_law_489 : decode cL_law 489 = .ok (.aload_n 2, 1) := by decide +kernel
theorem dL_law_490 : decode cL_law 490 = .ok (.aload_n 0, 1) := by decide +kernel
theorem dL_law_491 : decode cL_law 491 = .ok (.iload 4, 2) := by decide +kernel
theorem dL_law_493 : decode cL_law 493 = .ok (.iconst 1, 1) := by decide +kernel
theorem dL_law_494 : decode cL_law 494 = .ok (.iadd, 1) := by decide +kernel
theorem dL_law_495 : decode cL_law 495 = .ok (.iaload, 1) := by decide +kernel
theorem dL_law_496 : decode cL_law 496 = .ok (.invokevirtual 70, 3) := by decide +kernel
theorem dL_law_499 : decode cL_law 499 = .ok (.if_icmp .eq 181, 3) := by decide +kernel
theorem dL_law_502 : decode cL_law 502 = .ok (.iconst 0, 1) := by decide +kernel
theorem dL_law_503 : decode cL_law 503 = .ok (.ireturn, 1) := by decide +kernel
theorem dL_law_504 : decode cL_law 504 = .ok (.aload_n 1, 1) := by decide +kernel
theorem dL_law_505 : decode cL_law 505 = .ok (.invokevirtual 71, 3) := by decide +kernel
theorem dL_law_508 : decode cL_law 508 = .ok (.aload_n 2, 1) := by decide +kernel
theorem dL_law_509 : decode cL_law 509 = .ok (.invokevirtual 74, 3) := by decide +kernel
theorem dL_law_512 : decode cL_law 512 = .ok (.if_icmp .eq 168, 3) := by decide +kernel
theorem dL_law_515 : decode cL_law 515 = .ok (.iconst 0, 1) := by decide +kernel
theorem dL_law_516 : decode cL_law 516 = .ok (.ireturn, 1) := by decide +kernel
theorem dL_law_517 : decode cL_law 517 = .ok (.aload_n 1, 1) := by decide +kernel
theorem dL_law_518 : decode cL_law 518 = .ok (.aload_n 0, 1) := by decide +kernel
theorem dL_law_519 : decode cL_law 519 = .ok (.iload 4, 2) := by decide +kernel
theorem dL_law_521 : decode cL_law 521 = .ok (.iconst 1, 1) := by decide +kernel
theorem dL_law_522 : decode cL_law 522 = .ok (.iadd, 1) := by decide +kernel
theorem dL_law_523 : decode cL_law 523 = .ok (.iaload, 1) := by decide +kernel
theorem dL_law_524 : decode cL_law 524 = .ok (.invokevirtual 75, 3) := by decide +kernel
theorem dL_law_527 : decode cL_law 527 = .ok (.aload_n 2, 1) := by decide +kernel
theorem dL_law_528 : decode cL_law 528 = .ok (.aload_n 0, 1) := by decide +kernel
theorem dL_law_529 : decode cL_law 529 = .ok (.iload 4, 2) := by decide +kernel
theorem dL_law_531 : decode cL_law 531 = .ok (.iconst 1, 1) := by decide +kernel
theorem dL_law_532 : decode cL_law 532 = .ok (.iadd, 1) := by decide +kernel
theorem dL_law_533 : decode cL_law 533 = .ok (.iaload, 1) := by decide +kernel
theorem dL_law_534 : decode cL_law 534 = .ok (.invokevirtual 78, 3) := by decide +kernel
theorem dL_law_537 : decode cL_law 537 = .ok (.if_icmp .eq 143, 3) := by decide +kernel
theorem dL_law_540 : decode cL_law 540 = .ok (.iconst 0, 1) := by decide +kernel
theorem dL_law_541 : decode cL_law 541 = .ok (.ireturn, 1) := by decide +kernel
theorem dL_law_542 : decode cL_law 542 = .ok (.aload_n 1, 1) := by decide +kernel
theorem dL_law_543 : decode cL_law 543 = .ok (.invokevirtual 79, 3) := by decide +kernel
theorem dL_law_546 : decode cL_law 546 = .ok (.aload_n 2, 1) := by decide +kernel
theorem dL_law_547 : decode cL_law 547 = .ok (.invokevirtual 82, 3) := by decide +kernel
theorem dL_law_550 : decode cL_law 550 = .ok (.if_icmp .eq 130, 3) := by decide +kernel
theorem dL_law_553 : decode cL_law 553 = .ok (.iconst 0, 1) := by decide +kernel
theorem dL_law_554 : decode cL_law 554 = .ok (.ireturn, 1) := by decide +kernel
theorem dL_law_555 : decode cL_law 555 = .ok (.aload_n 1, 1) := by decide +kernel
theorem dL_law_556 : decode cL_law 556 = .ok (.invokevirtual 83, 3) := by decide +kernel
theorem dL_law_559 : decode cL_law 559 = .ok (.aload_n 2, 1) := by decide +kernel
theorem dL_law_560 : decode cL_law 560 = .ok (.invokevirtual 86, 3) := by decide +kernel
theorem dL_law_563 : decode cL_law 563 = .ok (.if_icmp .eq 117, 3) := by decide +kernel
theorem dL_law_566 : decode cL_law 566 = .ok (.iconst 0, 1) := by decide +kernel
theorem dL_law_567 : decode cL_law 567 = .ok (.ireturn, 1) := by decide +kernel
theorem dL_law_568 : decode cL_law 568 = .ok (.aload_n 1, 1) := by decide +kernel
theorem dL_law_569 : decode cL_law 569 = .ok (.aload_n 0, 1) := by decide +kernel
theorem dL_law_570 : decode cL_law 570 = .ok (.iload 4, 2) := by decide +kernel
theorem dL_law_572 : decode cL_law 572 = .ok (.iconst 1, 1) := by decide +kernel
theorem dL_law_573 : decode cL_law 573 = .ok (.iadd, 1) := by decide +kernel
theorem dL_law_574 : decode cL_law 574 = .ok (.iaload, 1) := by decide +kernel
theorem dL_law_575 : decode cL_law 575 = .ok (.invokevirtual 87, 3) := by decide +kernel
theorem dL_law_578 : decode cL_law 578 = .ok (.aload_n 2, 1) := by decide +kernel
theorem dL_law_579 : decode cL_law 579 = .ok (.aload_n 0, 1) := by decide +kernel
theorem dL_law_580 : decode cL_law 580 = .ok (.iload 4, 2) := by decide +kernel
theorem dL_law_582 : decode cL_law 582 = .ok (.iconst 1, 1) := by decide +kernel
theorem dL_law_583 : decode cL_law 583 = .ok (.iadd, 1) := by decide +kernel
theorem dL_law_584 : decode cL_law 584 = .ok (.iaload, 1) := by decide +kernel
theorem dL_law_585 : decode cL_law 585 = .ok (.invokevirtual 90, 3) := by decide +kernel
theorem dL_law_588 : decode cL_law 588 = .ok (.if_icmp .eq 92, 3) := by decide +kernel
theorem dL_law_591 : decode cL_law 591 = .ok (.iconst 0, 1) := by decide +kernel
theorem dL_law_592 : decode cL_law 592 = .ok (.ireturn, 1) := by decide +kernel
theorem dL_law_593 : decode cL_law 593 = .ok (.aload_n 1, 1) := by decide +kernel
theorem dL_law_594 : decode cL_law 594 = .ok (.aload_n 0, 1) := by decide +kernel
theorem dL_law_595 : decode cL_law 595 = .ok (.iload 4, 2) := by decide +kernel
theorem dL_law_597 : decode cL_law 597 = .ok (.iconst 1, 1) := by decide +kernel
theorem dL_law_598 : decode cL_law 598 = .ok (.iadd, 1) := by decide +kernel
theorem dL_law_599 : decode cL_law 599 = .ok (.iaload, 1) := by decide +kernel
theorem dL_law_600 : decode cL_law 600 = .ok (.aload_n 0, 1) := by decide +kernel
theorem dL_law_601 : decode cL_law 601 = .ok (.iload 4, 2) := by decide +kernel
theorem dL_law_603 : decode cL_law 603 = .ok (.iconst 2, 1) := by decide +kernel
theorem dL_law_604 : decode cL_law 604 = .ok (.iadd, 1) := by decide +kernel
theorem dL_law_605 : decode cL_law 605 = .ok (.iaload, 1) := by decide +kernel
theorem dL_law_606 : decode cL_law 606 = .ok (.invokevirtual 91, 3) := by decide +kernel
theorem dL_law_609 : decode cL_law 609 = .ok (.aload_n 2, 1) := by decide +kernel
theorem dL_law_610 : decode cL_law 610 = .ok (.aload_n 0, 1) := by decide +kernel
theorem dL_law_611 : decode cL_law 611 = .ok (.iload 4, 2) := by decide +kernel
theorem dL_law_613 : decode cL_law 613 = .ok (.iconst 1, 1) := by decide +kernel
theorem dL_law_614 : decode cL_law 614 = .ok (.iadd, 1) := by decide +kernel
theorem dL_law_615 : decode cL_law 615 = .ok (.iaload, 1) := by decide +kernel
theorem dL_law_616 : decode cL_law 616 = .ok (.aload_n 0, 1) := by decide +kernel
theorem dL_law_617 : decode cL_law 617 = .ok (.iload 4, 2) := by decide +kernel
theorem dL_law_619 : decode cL_law 619 = .ok (.iconst 2, 1) := by decide +kernel
theorem dL_law_620 : decode cL_law 620 = .ok (.iadd, 1) := by decide +kernel
theorem dL_law_621 : decode cL_law 621 = .ok (.iaload, 1) := by decide +kernel
theorem dL_law_622 : decode cL_law 622 = .ok (.invokevirtual 94, 3) := by decide +kernel
theorem dL_law_625 : decode cL_law 625 = .ok (.if_icmp .eq 55, 3) := by decide +kernel
theorem dL_law_628 : decode cL_law 628 = .ok (.iconst 0, 1) := by decide +kernel
theorem dL_law_629 : decode cL_law 629 = .ok (.ireturn, 1) := by decide +kernel
theorem dL_law_630 : decode cL_law 630 = .ok (.aload_n 1, 1) := by decide +kernel
theorem dL_law_631 : decode cL_law 631 = .ok (.aload_n 0, 1) := by decide +kernel
theorem dL_law_632 : decode cL_law 632 = .ok (.iload 4, 2) := by decide +kernel
theorem dL_law_634 : decode cL_law 634 = .ok (.iconst 1, 1) := by decide +kernel
theorem dL_law_635 : decode cL_law 635 = .ok (.iadd, 1) := by decide +kernel
theorem dL_law_636 : decode cL_law 636 = .ok (.iaload, 1) := by decide +kernel
theorem dL_law_637 : decode cL_law 637 = .ok (.invokevirtual 95, 3) := by decide +kernel
theorem dL_law_640 : decode cL_law 640 = .ok (.aload_n 2, 1) := by decide +kernel
theorem dL_law_641 : decode cL_law 641 = .ok (.aload_n 0, 1) := by decide +kernel
theorem dL_law_642 : decode cL_law 642 = .ok (.iload 4, 2) := by decide +kernel
theorem dL_law_644 : decode cL_law 644 = .ok (.iconst 1, 1) := by decide +kernel
theorem dL_law_645 : decode cL_law 645 = .ok (.iadd, 1) := by decide +kernel
theorem dL_law_646 : decode cL_law 646 = .ok (.iaload, 1) := by decide +kernel
theorem dL_law_647 : decode cL_law 647 = .ok (.invokevirtual 98, 3) := by decide +kernel
theorem dL_law_650 : decode cL_law 650 = .ok (.if_icmp .eq 30, 3) := by decide +kernel
theorem dL_law_653 : decode cL_law 653 = .ok (.iconst 0, 1) := by decide +kernel
theorem dL_law_654 : decode cL_law 654 = .ok (.ireturn, 1) := by decide +kernel
theorem dL_law_655 : decode cL_law 655 = .ok (.aload_n 1, 1) := by decide +kernel
theorem dL_law_656 : decode cL_law 656 = .ok (.aload_n 0, 1) := by decide +kernel
theorem dL_law_657 : decode cL_law 657 = .ok (.iload 4, 2) := by decide +kernel
theorem dL_law_659 : decode cL_law 659 = .ok (.iconst 1, 1) := by decide +kernel
theorem dL_law_660 : decode cL_law 660 = .ok (.iadd, 1) := by decide +kernel
theorem dL_law_661 : decode cL_law 661 = .ok (.iaload, 1) := by decide +kernel
theorem dL_law_662 : decode cL_law 662 = .ok (.invokevirtual 99, 3) := by decide +kernel
theorem dL_law_665 : decode cL_law 665 = .ok (.aload_n 2, 1) := by decide +kernel
theorem dL_law_666 : decode cL_law 666 = .ok (.aload_n 0, 1) := by decide +kernel
theorem dL_law_667 : decode cL_law 667 = .ok (.iload 4, 2) := by decide +kernel
theorem dL_law_669 : decode cL_law 669 = .ok (.iconst 1, 1) := by decide +kernel
theorem dL_law_670 : decode cL_law 670 = .ok (.iadd, 1) := by decide +kernel
theorem dL_law_671 : decode cL_law 671 = .ok (.iaload, 1) := by decide +kernel
theorem dL_law_672 : decode cL_law 672 = .ok (.invokevirtual 102, 3) := by decide +kernel
theorem dL_law_675 : decode cL_law 675 = .ok (.if_icmp .eq 5, 3) := by decide +kernel
theorem dL_law_678 : decode cL_law 678 = .ok (.iconst 0, 1) := by decide +kernel
theorem dL_law_679 : decode cL_law 679 = .ok (.ireturn, 1) := by decide +kernel
theorem dL_law_680 : decode cL_law 680 = .ok (.iinc 4 6, 3) := by decide +kernel
theorem dL_law_683 : decode cL_law 683 = .ok (.goto (-660), 3) := by decide +kernel
theorem dL_law_686 : decode cL_law 686 = .ok (.iconst 1, 1) := by decide +kernel
theorem dL_law_687 : decode cL_law 687 = .ok (.ireturn, 1) := by decide +kernel
