theorem dX3_line_154 : decode cX3_line 154 = .ok (.iload 6, 2) := by decide +kernel
theorem dX3_line_156 : decode cX3_line 156 = .ok (.iconst 1, 1) := by decide +kernel
theorem dX3_line_157 : decode cX3_line 157 = .ok (.iadd, 1) := by decide +kernel
theorem dX3_line_158 : decode cX3_line 158 = .ok (.goto 5, 3) := by decide +kernel
theorem dX3_line_161 : decode cX3_line 161 = .ok (.iload 5, 2) := by decide +kernel
theorem dX3_line_163 : decode cX3_line 163 = .ok (.istore 5, 2) := by decide +kernel
theorem dX3_line_165 : decode cX3_line 165 = .ok (.iinc 6 1, 3) := by decide +kernel
theorem dX3_line_168 : decode cX3_line 168 = .ok (.goto (-40), 3) := by decide +kernel
theorem dX3_line_171 : decode cX3_line 171 = .ok (.aload_n 0, 1) := by decide +kernel
theorem dX3_line_172 : decode cX3_line 172 = .ok (.getfield 86, 3) := by decide +kernel
theorem dX3_line_175 : decode cX3_line 175 = .ok (.istore 6, 2) := by decide +kernel
theorem dX3_line_177 : decode cX3_line 177 = .ok (.iload 6, 2) := by decide +kernel
theorem dX3_line_179 : decode cX3_line 179 = .ok (.iload 5, 2) := by decide +kernel
theorem dX3_line_181 : decode cX3_line 181 = .ok (.if_icmp .le 25, 3) := by decide +kernel
theorem dX3_line_184 : decode cX3_line 184 = .ok (.aload_n 0, 1) := by decide +kernel
theorem dX3_line_185 : decode cX3_line 185 = .ok (.getfield 38, 3) := by decide +kernel
theorem dX3_line_188 : decode cX3_line 188 = .ok (.iload 6, 2) := by decide +kernel
theorem dX3_line_190 : decode cX3_line 190 = .ok (.aload_n 0, 1) := by decide +kernel
theorem dX3_line_191 : decode cX3_line 191 = .ok (.getfield 38, 3) := by decide +kernel
theorem dX3_line_194 : decode cX3_line 194 = .ok (.iload 6, 2) := by decide +kernel
theorem dX3_line_196 : decode cX3_line 196 = .ok (.iconst 1, 1) := by decide +kernel
theorem dX3_line_197 : decode cX3_line 197 = .ok (.isub, 1) := by decide +kernel
theorem dX3_line_198 : decode cX3_line 198 = .ok (.iaload, 1) := by decide +kernel
theorem dX3_line_199 : decode cX3_line 199 = .ok (.iastore, 1) := by decide +kernel
theorem dX3_line_200 : decode cX3_line 200 = .ok (.iinc 6 (-1), 3) := by decide +kernel
theorem dX3_line_203 : decode cX3_line 203 = .ok (.goto (-26), 3) := by decide +kernel
theorem dX3_line_206 : decode cX3_line 206 = .ok (.aload_n 0, 1) := by decide +kernel
theorem dX3_line_207 : decode cX3_line 207 = .ok (.getfield 38, 3) := by decide +kernel
theorem dX3_line_210 : decode cX3_line 210 = .ok (.iload 5, 2) := by decide +kernel
theorem dX3_line_212 : decode cX3_line 212 = .ok (.iload 4, 2) := by decide +kernel
theorem dX3_line_214 : decode cX3_line 214 = .ok (.iastore, 1) := by decide +kernel
theorem dX3_line_215 : decode cX3_line 215 = .ok (.aload_n 0, 1) := by decide +kernel
theorem dX3_line_216 : decode cX3_line 216 = .ok (.dup, 1) := by decide +kernel
theorem dX3_line_217 : decode cX3_line 217 = .ok (.getfield 86, 3) := by decide +kernel
theorem dX3_line_220 : decode cX3_line 220 = .ok (.iconst 1, 1) := by decide +kernel
theorem dX3_line_221 : decode cX3_line 221 = .ok (.iadd, 1) := by decide +kernel
theorem dX3_line_222 : decode cX3_line 222 = .ok (.putfield 86, 3) := by decide +kernel
theorem dX3_line_225 : decode cX3_line 225 = .ok (.goto (-188), 3) := by decide +kernel
theorem dX3_line_228 : decode cX3_line 228 = .ok (.return_, 1) := by decide +kernel
theorem dX3_isRemoved_0 : decode cX3_isRemoved 0 = .ok (.iconst 0, 1) := by decide +kernel
theorem dX3_isRemoved_1 : decode cX3_isRemoved 1 = .ok (.istore_n 3, 1) := by decide +kernel
theorem dX3_isRemoved_2 : decode cX3_isRemoved 2 = .ok (.iconst 0, 1) := by decide +kernel
theorem dX3_isRemoved_3 : decode cX3_isRemoved 3 = .ok (.istore 4, 2) := by decide +kernel
theorem dX3_isRemoved_5 : decode cX3_isRemoved 5 = .ok (.iload 4, 2) := by decide +kernel
theorem dX3_isRemoved_7 : decode cX3_isRemoved 7 = .ok (.aload_n 0, 1) := by decide +kernel
theorem dX3_isRemoved_8 : decode cX3_isRemoved 8 = .ok (.getfield 58, 3) := by decide +kernel
theorem dX3_isRemoved_11 : decode cX3_isRemoved 11 = .ok (.if_icmp .ge 56, 3) := by decide +kernel
theorem dX3_isRemoved_14 : decode cX3_isRemoved 14 = .ok (.iload_n 3, 1) := by decide +kernel
theorem dX3_isRemoved_15 : decode cX3_isRemoved 15 = .ok (.ifCond .ne 40, 3) := by decide +kernel
theorem dX3_isRemoved_18 : decode cX3_isRemoved 18 = .ok (.aload_n 0, 1) := by decide +kernel
theorem dX3_isRemoved_19 : decode cX3_isRemoved 19 = .ok (.getfield 32, 3) := by decide +kernel
theorem dX3_isRemoved_22 : decode cX3_isRemoved 22 = .ok (.bipush 120, 2) := by decide +kernel
theorem dX3_isRemoved_24 : decode cX3_isRemoved 24 = .ok (.iload_n 1, 1) := by decide +kernel
theorem dX3_isRemoved_25 : decode cX3_isRemoved 25 = .ok (.imul, 1) := by decide +kernel
theorem dX3_isRemoved_26 : decode cX3_isRemoved 26 = .ok (.iload 4, 2) := by decide +kernel
theorem dX3_isRemoved_28 : decode cX3_isRemoved 28 = .ok (.iadd, 1) := by decide +kernel
theorem dX3_isRemoved_29 : decode cX3_isRemoved 29 = .ok (.baload, 1) := by decide +kernel
theorem dX3_isRemoved_30 : decode cX3_isRemoved 30 = .ok (.ifCond .eq 29, 3) := by decide +kernel
theorem dX3_isRemoved_33 : decode cX3_isRemoved 33 = .ok (.aload_n 0, 1) := by decide +kernel
theorem dX3_isRemoved_34 : decode cX3_isRemoved 34 = .ok (.getfield 16, 3) := by decide +kernel
theorem dX3_isRemoved_37 : decode cX3_isRemoved 37 = .ok (.iload 4, 2) := by decide +kernel
theorem dX3_isRemoved_39 : decode cX3_isRemoved 39 = .ok (.iaload, 1) := by decide +kernel
theorem dX3_isRemoved_40 : decode cX3_isRemoved 40 = .ok (.iconst 4, 1) := by decide +kernel
theorem dX3_isRemoved_41 : decode cX3_isRemoved 41 = .ok (.if_icmp .ne 18, 3) := by decide +kernel
theorem dX3_isRemoved_44 : decode cX3_isRemoved 44 = .ok (.aload_n 0, 1) := by decide +kernel
theorem dX3_isRemoved_45 : decode cX3_isRemoved 45 = .ok (.getfield 22, 3) := by decide +kernel
theorem dX3_isRemoved_48 : decode cX3_isRemoved 48 = .ok (.iload 4, 2) := by decide +kernel
theorem dX3_isRemoved_50 : decode cX3_isRemoved 50 = .ok (.iaload, 1) := by decide +kernel
theorem dX3_isRemoved_51 : decode cX3_isRemoved 51 = .ok (.iload_n 2, 1) := by decide +kernel
theorem dX3_isRemoved_52 : decode cX3_isRemoved 52 = .ok (.if_icmp .ne 7, 3) := by decide +kernel
theorem dX3_isRemoved_55 : decode cX3_isRemoved 55 = .ok (.iconst 1, 1) := by decide +kernel
theorem dX3_isRemoved_56 : decode cX3_isRemoved 56 = .ok (.goto 4, 3) := by decide +kernel
theorem dX3_isRemoved_59 : decode cX3_isRemoved 59 = .ok (.iconst 0, 1) := by decide +kernel
theorem dX3_isRemoved_60 : decode cX3_isRemoved 60 = .ok (.istore_n 3, 1) := by decide +kernel
theorem dX3_isRemoved_61 : decode cX3_isRemoved 61 = .ok (.iinc 4 1, 3) := by decide +kernel
theorem dX3_isRemoved_64 : decode cX3_isRemoved 64 = .ok (.goto (-59), 3) := by decide +kernel
theorem dX3_isRemoved_67 : decode cX3_isRemoved 67 = .ok (.iload_n 3, 1) := by decide +kernel
theorem dX3_isRemoved_68 : decode cX3_isRemoved 68 = .ok (.ireturn, 1) := by decide +kernel
theorem dX3_standing_0 : decode cX3_standing 0 = .ok (.aload_n 0, 1) := by decide +kernel
theorem dX3_standing_1 : decode cX3_standing 1 = .ok (.iload_n 1, 1) := by decide +kernel
theorem dX3_standing_2 : decode cX3_standing 2 = .ok (.iload_n 2, 1) := by decide +kernel
theorem dX3_standing_3 : decode cX3_standing 3 = .ok (.invokevirtual 89, 3) := by decide +kernel
theorem dX3_standing_6 : decode cX3_standing 6 = .ok (.iconst 0, 1) := by decide +kernel
theorem dX3_standing_7 : decode cX3_standing 7 = .ok (.istore 4, 2) := by decide +kernel
theorem dX3_standing_9 : decode cX3_standing 9 = .ok (.iconst 0, 1) := by decide +kernel
theorem dX3_standing_10 : decode cX3_standing 10 = .ok (.istore 5, 2) := by decide +kernel
theorem dX3_standing_12 : decode cX3_standing 12 = .ok (.iload 5, 2) := by decide +kernel
theorem dX3_standing_14 : decode cX3_standing 14 = .ok (.aload_n 0, 1) := by decide +kernel
theorem dX3_standing_15 : decode cX3_standing 15 = .ok (.getfield 86, 3) := by decide +kernel
theorem dX3_standing_18 : decode cX3_standing 18 = .ok (.if_icmp .ge 41, 3) := by decide +kernel
theorem dX3_standing_21 : decode cX3_standing 21 = .ok (.aload_n 0, 1) := by decide +kernel
theorem dX3_standing_22 : decode cX3_standing 22 = .ok (.iload_n 1, 1) := by decide +kernel
theorem dX3_standing_23 : decode cX3_standing 23 = .ok (.aload_n 0, 1) := by decide +kernel
theorem dX3_standing_24 : decode cX3_standing 24 = .ok (.getfield 38, 3) := by decide +kernel
theorem dX3_standing_27 : decode cX3_standing 27 = .ok (.iload 5, 2) := by decide +kernel
theorem dX3_standing_29 : decode cX3_standing 29 = .ok (.iaload, 1) := by decide +kernel
theorem dX3_standing_30 : decode cX3_standing 30 = .ok (.invokevirtual 93, 3) := by decide +kernel
theorem dX3_standing_33 : decode cX3_standing 33 = .ok (.ifCond .ne 20, 3) := by decide +kernel
theorem dX3_standing_36 : decode cX3_standing 36 = .ok (.iload 4, 2) := by decide +kernel
theorem dX3_standing_38 : decode cX3_standing 38 = .ok (.iload_n 3, 1) := by decide +kernel
theorem dX3_standing_39 : decode cX3_standing 39 = .ok (.if_icmp .ne 11, 3) := by decide +kernel
theorem dX3_standing_42 : decode cX3_standing 42 = .ok (.aload_n 0, 1) := by decide +kernel
theorem dX3_standing_43 : decode cX3_standing 43 = .ok (.getfield 38, 3) := by decide +kernel
theorem dX3_standing_46 : decode cX3_standing 46 = .ok (.iload 5, 2) := by decide +kernel
theorem dX3_standing_48 : decode cX3_standing 48 = .ok (.iaload, 1) := by decide +kernel
theorem dX3_standing_49 : decode cX3_standing 49 = .ok (.ireturn, 1) := by decide +kernel
theorem dX3_standing_50 : decode cX3_standing 50 = .ok (.iinc 4 1, 3) := by decide +kernel
theorem dX3_standing_53 : decode cX3_standing 53 = .ok (.iinc 5 1, 3) := by decide +kernel
theorem dX3_standing_56 : decode cX3_standing 56 = .ok (.goto (-44), 3) := by decide +kernel
theorem dX3_standing_59 : decode cX3_standing 59 = .ok (.iconst (-1), 1) := by decide +kernel
theorem dX3_standing_60 : decode cX3_standing 60 = .ok (.ireturn, 1) := by decide +kernel
theorem dX3_at_0 : decode cX3_at 0 = .ok (.aload_n 0, 1) := by decide +kernel
theorem dX3_at_1 : decode cX3_at 1 = .ok (.iload_n 1, 1) := by decide +kernel
theorem dX3_at_2 : decode cX3_at 2 = .ok (.invokestatic 54, 3) := by decide +kernel
theorem dX3_at_5 : decode cX3_at 5 = .ok (.ifCond .eq 28, 3) := by decide +kernel
theorem dX3_at_8 : decode cX3_at 8 = .ok (.iload_n 2, 1) := by decide +kernel
theorem dX3_at_9 : decode cX3_at 9 = .ok (.invokestatic 61, 3) := by decide +kernel
theorem dX3_at_12 : decode cX3_at 12 = .ok (.ifCond .eq 21, 3) := by decide +kernel
theorem dX3_at_15 : decode cX3_at 15 = .ok (.iload_n 3, 1) := by decide +kernel
theorem dX3_at_16 : decode cX3_at 16 = .ok (.iconst 0, 1) := by decide +kernel
theorem dX3_at_17 : decode cX3_at 17 = .ok (.iconst 3, 1) := by decide +kernel
theorem dX3_at_18 : decode cX3_at 18 = .ok (.invokestatic 64, 3) := by decide +kernel
theorem dX3_at_21 : decode cX3_at 21 = .ok (.ifCond .eq 12, 3) := by decide +kernel
theorem dX3_at_24 : decode cX3_at 24 = .ok (.iload 4, 2) := by decide +kernel
theorem dX3_at_26 : decode cX3_at 26 = .ok (.ifCond .lt 7, 3) := by decide +kernel
theorem dX3_at_29 : decode cX3_at 29 = .ok (.iconst 1, 1) := by decide +kernel
theorem dX3_at_30 : decode cX3_at 30 = .ok (.goto 4, 3) := by decide +kernel
theorem dX3_at_33 : decode cX3_at 33 = .ok (.iconst 0, 1) := by decide +kernel
theorem dX3_at_34 : decode cX3_at 34 = .ok (.iconst 1, 1) := by decide +kernel
theorem dX3_at_35 : decode cX3_at 35 = .ok (.iconst 1, 1) := by decide +kernel
theorem dX3_at_36 : decode cX3_at 36 = .ok (.invokevirtual 68, 3) := by decide +kernel
theorem dX3_at_39 : decode cX3_at 39 = .ok (.ifCond .ne 5, 3) := by decide +kernel
theorem dX3_at_42 : decode cX3_at 42 = .ok (.iconst 0, 1) := by decide +kernel
theorem dX3_at_43 : decode cX3_at 43 = .ok (.ireturn, 1) := by decide +kernel
theorem dX3_at_44 : decode cX3_at 44 = .ok (.iload_n 3, 1) := by decide +kernel
theorem dX3_at_45 : decode cX3_at 45 = .ok (.iconst 2, 1) := by decide +kernel
theorem dX3_at_46 : decode cX3_at 46 = .ok (.if_icmp .ge 32, 3) := by decide +kernel
theorem dX3_at_49 : decode cX3_at 49 = .ok (.iload 4, 2) := by decide +kernel
theorem dX3_at_51 : decode cX3_at 51 = .ok (.ifCond .le 7, 3) := by decide +kernel
theorem dX3_at_54 : decode cX3_at 54 = .ok (.iconst (-1), 1) := by decide +kernel
theorem dX3_at_55 : decode cX3_at 55 = .ok (.goto 22, 3) := by decide +kernel
theorem dX3_at_58 : decode cX3_at 58 = .ok (.iload_n 3, 1) := by decide +kernel
theorem dX3_at_59 : decode cX3_at 59 = .ok (.ifCond .ne 12, 3) := by decide +kernel
theorem dX3_at_62 : decode cX3_at 62 = .ok (.aload_n 0, 1) := by decide +kernel
theorem dX3_at_63 : decode cX3_at 63 = .ok (.iload_n 1, 1) := by decide +kernel
theorem dX3_at_64 : decode cX3_at 64 = .ok (.iload_n 2, 1) := by decide +kernel
theorem dX3_at_65 : decode cX3_at 65 = .ok (.invokevirtual 96, 3) := by decide +kernel
theorem dX3_at_68 : decode cX3_at 68 = .ok (.goto 9, 3) := by decide +kernel
theorem dX3_at_71 : decode cX3_at 71 = .ok (.aload_n 0, 1) := by decide +kernel
theorem dX3_at_72 : decode cX3_at 72 = .ok (.iload_n 1, 1) := by decide +kernel
theorem dX3_at_73 : decode cX3_at 73 = .ok (.iload_n 2, 1) := by decide +kernel
theorem dX3_at_74 : decode cX3_at 74 = .ok (.invokevirtual 100, 3) := by decide +kernel
theorem dX3_at_77 : decode cX3_at 77 = .ok (.ireturn, 1) := by decide +kernel
theorem dX3_at_78 : decode cX3_at 78 = .ok (.iload_n 3, 1) := by decide +kernel
theorem dX3_at_79 : decode cX3_at 79 = .ok (.iconst 2, 1) := by decide +kernel
theorem dX3_at_80 : decode cX3_at 80 = .ok (.if_icmp .ne 12, 3) := by decide +kernel
theorem dX3_at_83 : decode cX3_at 83 = .ok (.aload_n 0, 1) := by decide +kernel
theorem dX3_at_84 : decode cX3_at 84 = .ok (.iload_n 1, 1) := by decide +kernel
theorem dX3_at_85 : decode cX3_at 85 = .ok (.iload_n 2, 1) := by decide +kernel
theorem dX3_at_86 : decode cX3_at 86 = .ok (.iload 4, 2) := by decide +kernel
theorem dX3_at_88 : decode cX3_at 88 = .ok (.invokevirtual 103, 3) := by decide +kernel
theorem dX3_at_91 : decode cX3_at 91 = .ok (.ireturn, 1) := by decide +kernel
theorem dX3_at_92 : decode cX3_at 92 = .ok (.aload_n 0, 1) := by decide +kernel
theorem dX3_at_93 : decode cX3_at 93 = .ok (.iload_n 1, 1) := by decide +kernel
theorem dX3_at_94 : decode cX3_at 94 = .ok (.iload_n 2, 1) := by decide +kernel
theorem dX3_at_95 : decode cX3_at 95 = .ok (.iload 4, 2) := by decide +kernel
theorem dX3_at_97 : decode cX3_at 97 = .ok (.invokevirtual 107, 3) := by decide +kernel
theorem dX3_at_100 : decode cX3_at 100 = .ok (.istore 5, 2) := by decide +kernel
theorem dX3_at_102 : decode cX3_at 102 = .ok (.iload 5, 2) := by decide +kernel
theorem dX3_at_104 : decode cX3_at 104 = .ok (.iconst (-1), 1) := by decide +kernel
theorem dX3_at_105 : decode cX3_at 105 = .ok (.if_icmp .ne 7, 3) := by decide +kernel
theorem dX3_at_108 : decode cX3_at 108 = .ok (.iconst (-1), 1) := by decide +kernel
theorem dX3_at_109 : decode cX3_at 109 = .ok (.goto 10, 3) := by decide +kernel
theorem dX3_at_112 : decode cX3_at 112 = .ok (.aload_n 0, 1) := by decide +kernel
theorem dX3_at_113 : decode cX3_at 113 = .ok (.getfield 22, 3) := by decide +kernel
theorem dX3_at_116 : decode cX3_at 116 = .ok (.iload 5, 2) := by decide +kernel
theorem dX3_at_118 : decode cX3_at 118 = .ok (.iaload, 1) := by decide +kernel
theorem dX3_at_119 : decode cX3_at 119 = .ok (.ireturn, 1) := by decide +kernel
theorem dX3_place_0 : decode cX3_place 0 = .ok (.aload_n 0, 1) := by decide +kernel
theorem dX3_place_1 : decode cX3_place 1 = .ok (.iload_n 1, 1) := by decide +kernel
theorem dX3_place_2 : decode cX3_place 2 = .ok (.invokestatic 54, 3) := by decide +kernel
theorem dX3_place_5 : decode cX3_place 5 = .ok (.ifCond .eq 18, 3) := by decide +kernel
theorem dX3_place_8 : decode cX3_place 8 = .ok (.iload_n 2, 1) := by decide +kernel
theorem dX3_place_9 : decode cX3_place 9 = .ok (.invokestatic 61, 3) := by decide +kernel
theorem dX3_place_12 : decode cX3_place 12 = .ok (.ifCond .eq 11, 3) := by decide +kernel
theorem dX3_place_15 : decode cX3_place 15 = .ok (.iload_n 3, 1) := by decide +kernel
theorem dX3_place_16 : decode cX3_place 16 = .ok (.ifCond .lt 7, 3) := by decide +kernel
theorem dX3_place_19 : decode cX3_place 19 = .ok (.iconst 1, 1) := by decide +kernel
theorem dX3_place_20 : decode cX3_place 20 = .ok (.goto 4, 3) := by decide +kernel
theorem dX3_place_23 : decode cX3_place 23 = .ok (.iconst 0, 1) := by decide +kernel
theorem dX3_place_24 : decode cX3_place 24 = .ok (.iconst 1, 1) := by decide +kernel
theorem dX3_place_25 : decode cX3_place 25 = .ok (.iconst 1, 1) := by decide +kernel
theorem dX3_place_26 : decode cX3_place 26 = .ok (.invokevirtual 68, 3) := by decide +kernel
theorem dX3_place_29 : decode cX3_place 29 = .ok (.ifCond .eq 13, 3) := by decide +kernel
theorem dX3_place_32 : decode cX3_place 32 = .ok (.aload_n 0, 1) := by decide +kernel
theorem dX3_place_33 : decode cX3_place 33 = .ok (.iload_n 1, 1) := by decide +kernel
theorem dX3_place_34 : decode cX3_place 34 = .ok (.iload_n 2, 1) := by decide +kernel
theorem dX3_place_35 : decode cX3_place 35 = .ok (.iload_n 3, 1) := by decide +kernel
theorem dX3_place_36 : decode cX3_place 36 = .ok (.invokevirtual 107, 3) := by decide +kernel
theorem dX3_place_39 : decode cX3_place 39 = .ok (.goto 4, 3) := by decide +kernel
theorem dX3_place_42 : decode cX3_place 42 = .ok (.iconst 0, 1) := by decide +kernel
theorem dX3_place_43 : decode cX3_place 43 = .ok (.ireturn, 1) := by decide +kernel
theorem dX3_isDropped_0 : decode cX3_isDropped 0 = .ok (.iconst 0, 1) := by decide +kernel
theorem dX3_isDropped_1 : decode cX3_isDropped 1 = .ok (.istore_n 3, 1) := by decide +kernel
theorem dX3_isDropped_2 : decode cX3_isDropped 2 = .ok (.iconst 0, 1) := by decide +kernel
theorem dX3_isDropped_3 : decode cX3_isDropped 3 = .ok (.istore 4, 2) := by decide +kernel
theorem dX3_isDropped_5 : decode cX3_isDropped 5 = .ok (.iload 4, 2) := by decide +kernel
theorem dX3_isDropped_7 : decode cX3_isDropped 7 = .ok (.aload_n 0, 1) := by decide +kernel
theorem dX3_isDropped_8 : decode cX3_isDropped 8 = .ok (.getfield 58, 3) := by decide +kernel
theorem dX3_isDropped_11 : decode cX3_isDropped 11 = .ok (.if_icmp .ge 57, 3) := by decide +kernel
theorem dX3_isDropped_14 : decode cX3_isDropped 14 = .ok (.iload_n 3, 1) := by decide +kernel
theorem dX3_isDropped_15 : decode cX3_isDropped 15 = .ok (.ifCond .ne 41, 3) := by decide +kernel
theorem dX3_isDropped_18 : decode cX3_isDropped 18 = .ok (.aload_n 0, 1) := by decide +kernel
theorem dX3_isDropped_19 : decode cX3_isDropped 19 = .ok (.getfield 32, 3) := by decide +kernel
theorem dX3_isDropped_22 : decode cX3_isDropped 22 = .ok (.bipush 120, 2) := by decide +kernel
theorem dX3_isDropped_24 : decode cX3_isDropped 24 = .ok (.iload_n 1, 1) := by decide +kernel
theorem dX3_isDropped_25 : decode cX3_isDropped 25 = .ok (.imul, 1) := by decide +kernel
theorem dX3_isDropped_26 : decode cX3_isDropped 26 = .ok (.iload 4, 2) := by decide +kernel
theorem dX3_isDropped_28 : decode cX3_isDropped 28 = .ok (.iadd, 1) := by decide +kernel
theorem dX3_isDropped_29 : decode cX3_isDropped 29 = .ok (.baload, 1) := by decide +kernel
theorem dX3_isDropped_30 : decode cX3_isDropped 30 = .ok (.ifCond .eq 30, 3) := by decide +kernel
theorem dX3_isDropped_33 : decode cX3_isDropped 33 = .ok (.aload_n 0, 1) := by decide +kernel
theorem dX3_isDropped_34 : decode cX3_isDropped 34 = .ok (.getfield 16, 3) := by decide +kernel
theorem dX3_isDropped_37 : decode cX3_isDropped 37 = .ok (.iload 4, 2) := by decide +kernel
theorem dX3_isDropped_39 : decode cX3_isDropped 39 = .ok (.iaload, 1) := by decide +kernel
theorem dX3_isDropped_40 : decode cX3_isDropped 40 = .ok (.bipush 6, 2) := by decide +kernel
theorem dX3_isDropped_42 : decode cX3_isDropped 42 = .ok (.if_icmp .ne 18, 3) := by decide +kernel
theorem dX3_isDropped_45 : decode cX3_isDropped 45 = .ok (.aload_n 0, 1) := by decide +kernel
theorem dX3_isDropped_46 : decode cX3_isDropped 46 = .ok (.getfield 22, 3) := by decide +kernel
theorem dX3_isDropped_49 : decode cX3_isDropped 49 = .ok (.iload 4, 2) := by decide +kernel
theorem dX3_isDropped_51 : decode cX3_isDropped 51 = .ok (.iaload, 1) := by decide +kernel
theorem dX3_isDropped_52 : decode cX3_isDropped 52 = .ok (.iload_n 2, 1) := by decide +kernel
theorem dX3_isDropped_53 : decode cX3_isDropped 53 = .ok (.if_icmp .ne 7, 3) := by decide +kernel
theorem dX3_isDropped_56 : decode cX3_isDropped 56 = .ok (.iconst 1, 1) := by decide +kernel
theorem dX3_isDropped_57 : decode cX3_isDropped 57 = .ok (.goto 4, 3) := by decide +kernel
theorem dX3_isDropped_60 : decode cX3_isDropped 60 = .ok (.iconst 0, 1) := by decide +kernel
theorem dX3_isDropped_61 : decode cX3_isDropped 61 = .ok (.istore_n 3, 1) := by decide +kernel
theorem dX3_isDropped_62 : decode cX3_isDropped 62 = .ok (.iinc 4 1, 3) := by decide +kernel
theorem dX3_isDropped_65 : decode cX3_isDropped 65 = .ok (.goto (-60), 3) := by decide +kernel
theorem dX3_isDropped_68 : decode cX3_isDropped 68 = .ok (.iload_n 3, 1) := by decide +kernel
theorem dX3_isDropped_69 : decode cX3_isDropped 69 = .ok (.ireturn, 1) := by decide +kernel
theorem dX3_settle_0 : decode cX3_settle 0 = .ok (.aload_n 0, 1) := by decide +kernel
theorem dX3_settle_1 : decode cX3_settle 1 = .ok (.iconst 0, 1) := by decide +kernel
theorem dX3_settle_2 : decode cX3_settle 2 = .ok (.putfield 110, 3) := by decide +kernel
theorem dX3_settle_5 : decode cX3_settle 5 = .ok (.iconst 0, 1) := by decide +kernel
theorem dX3_settle_6 : decode cX3_settle 6 = .ok (.istore_n 2, 1) := by decide +kernel
theorem dX3_settle_7 : decode cX3_settle 7 = .ok (.iload_n 2, 1) := by decide +kernel
theorem dX3_settle_8 : decode cX3_settle 8 = .ok (.sipush 256, 3) := by decide +kernel
theorem dX3_settle_11 : decode cX3_settle 11 = .ok (.if_icmp .ge 16, 3) := by decide +kernel
theorem dX3_settle_14 : decode cX3_settle 14 = .ok (.aload_n 0, 1) := by decide +kernel
theorem dX3_settle_15 : decode cX3_settle 15 = .ok (.getfield 41, 3) := by decide +kernel
theorem dX3_settle_18 : decode cX3_settle 18 = .ok (.iload_n 2, 1) := by decide +kernel
theorem dX3_settle_19 : decode cX3_settle 19 = .ok (.iconst 0, 1) := by decide +kernel
theorem dX3_settle_20 : decode cX3_settle 20 = .ok (.bastore, 1) := by decide +kernel
theorem dX3_settle_21 : decode cX3_settle 21 = .ok (.iinc 2 1, 3) := by decide +kernel
theorem dX3_settle_24 : decode cX3_settle 24 = .ok (.goto (-17), 3) := by decide +kernel
theorem dX3_settle_27 : decode cX3_settle 27 = .ok (.iconst 0, 1) := by decide +kernel
theorem dX3_settle_28 : decode cX3_settle 28 = .ok (.istore_n 2, 1) := by decide +kernel
theorem dX3_settle_29 : decode cX3_settle 29 = .ok (.iload_n 2, 1) := by decide +kernel
theorem dX3_settle_30 : decode cX3_settle 30 = .ok (.aload_n 0, 1) := by decide +kernel
theorem dX3_settle_31 : decode cX3_settle 31 = .ok (.getfield 58, 3) := by decide +kernel
theorem dX3_settle_34 : decode cX3_settle 34 = .ok (.if_icmp .ge 53, 3) := by decide +kernel
theorem dX3_settle_37 : decode cX3_settle 37 = .ok (.aload_n 0, 1) := by decide +kernel
theorem dX3_settle_38 : decode cX3_settle 38 = .ok (.getfield 47, 3) := by decide +kernel
theorem dX3_settle_41 : decode cX3_settle 41 = .ok (.iload_n 2, 1) := by decide +kernel
theorem dX3_settle_42 : decode cX3_settle 42 = .ok (.aload_n 0, 1) := by decide +kernel
theorem dX3_settle_43 : decode cX3_settle 43 = .ok (.getfield 32, 3) := by decide +kernel
theorem dX3_settle_46 : decode cX3_settle 46 = .ok (.bipush 120, 2) := by decide +kernel
theorem dX3_settle_48 : decode cX3_settle 48 = .ok (.iload_n 1, 1) := by decide +kernel
theorem dX3_settle_49 : decode cX3_settle 49 = .ok (.imul, 1) := by decide +kernel
theorem dX3_settle_50 : decode cX3_settle 50 = .ok (.iload_n 2, 1) := by decide +kernel
theorem dX3_settle_51 : decode cX3_settle 51 = .ok (.iadd, 1) := by decide +kernel
theorem dX3_settle_52 : decode cX3_settle 52 = .ok (.baload, 1) := by decide +kernel
theorem dX3_settle_53 : decode cX3_settle 53 = .ok (.ifCond .eq 26, 3) := by decide +kernel
theorem dX3_settle_56 : decode cX3_settle 56 = .ok (.aload_n 0, 1) := by decide +kernel
theorem dX3_settle_57 : decode cX3_settle 57 = .ok (.getfield 16, 3) := by decide +kernel
theorem dX3_settle_60 : decode cX3_settle 60 = .ok (.iload_n 2, 1) := by decide +kernel
theorem dX3_settle_61 : decode cX3_settle 61 = .ok (.iaload, 1) := by decide +kernel
theorem dX3_settle_62 : decode cX3_settle 62 = .ok (.iconst 5, 1) := by decide +kernel
theorem dX3_settle_63 : decode cX3_settle 63 = .ok (.if_icmp .ne 16, 3) := by decide +kernel
theorem dX3_settle_66 : decode cX3_settle 66 = .ok (.aload_n 0, 1) := by decide +kernel
theorem dX3_settle_67 : decode cX3_settle 67 = .ok (.iload_n 1, 1) := by decide +kernel
theorem dX3_settle_68 : decode cX3_settle 68 = .ok (.iload_n 2, 1) := by decide +kernel
theorem dX3_settle_69 : decode cX3_settle 69 = .ok (.invokevirtual 113, 3) := by decide +kernel
theorem dX3_settle_72 : decode cX3_settle 72 = .ok (.ifCond .ne 7, 3) := by decide +kernel
theorem dX3_settle_75 : decode cX3_settle 75 = .ok (.iconst 1, 1) := by decide +kernel
theorem dX3_settle_76 : decode cX3_settle 76 = .ok (.goto 4, 3) := by decide +kernel
theorem dX3_settle_79 : decode cX3_settle 79 = .ok (.iconst 0, 1) := by decide +kernel
theorem dX3_settle_80 : decode cX3_settle 80 = .ok (.bastore, 1) := by decide +kernel
theorem dX3_settle_81 : decode cX3_settle 81 = .ok (.iinc 2 1, 3) := by decide +kernel
theorem dX3_settle_84 : decode cX3_settle 84 = .ok (.goto (-55), 3) := by decide +kernel
theorem dX3_settle_87 : decode cX3_settle 87 = .ok (.iconst 1, 1) := by decide +kernel
theorem dX3_settle_88 : decode cX3_settle 88 = .ok (.istore_n 2, 1) := by decide +kernel
theorem dX3_settle_89 : decode cX3_settle 89 = .ok (.iload_n 2, 1) := by decide +kernel
theorem dX3_settle_90 : decode cX3_settle 90 = .ok (.ifCond .eq 85, 3) := by decide +kernel
theorem dX3_settle_93 : decode cX3_settle 93 = .ok (.iconst (-1), 1) := by decide +kernel
theorem dX3_settle_94 : decode cX3_settle 94 = .ok (.istore_n 3, 1) := by decide +kernel
theorem dX3_settle_95 : decode cX3_settle 95 = .ok (.iconst 0, 1) := by decide +kernel
theorem dX3_settle_96 : decode cX3_settle 96 = .ok (.istore 4, 2) := by decide +kernel
theorem dX3_settle_98 : decode cX3_settle 98 = .ok (.iload 4, 2) := by decide +kernel
theorem dX3_settle_100 : decode cX3_settle 100 = .ok (.aload_n 0, 1) := by decide +kernel
theorem dX3_settle_101 : decode cX3_settle 101 = .ok (.getfield 58, 3) := by decide +kernel
theorem dX3_settle_104 : decode cX3_settle 104 = .ok (.if_icmp .ge 41, 3) := by decide +kernel
theorem dX3_settle_107 : decode cX3_settle 107 = .ok (.aload_n 0, 1) := by decide +kernel
theorem dX3_settle_108 : decode cX3_settle 108 = .ok (.getfield 47, 3) := by decide +kernel
theorem dX3_settle_111 : decode cX3_settle 111 = .ok (.iload 4, 2) := by decide +kernel
theorem dX3_settle_113 : decode cX3_settle 113 = .ok (.baload, 1) := by decide +kernel
theorem dX3_settle_114 : decode cX3_settle 114 = .ok (.ifCond .eq 23, 3) := by decide +kernel
theorem dX3_settle_117 : decode cX3_settle 117 = .ok (.iload_n 3, 1) := by decide +kernel
theorem dX3_settle_118 : decode cX3_settle 118 = .ok (.iconst (-1), 1) := by decide +kernel
theorem dX3_settle_119 : decode cX3_settle 119 = .ok (.if_icmp .eq 13, 3) := by decide +kernel
theorem dX3_settle_122 : decode cX3_settle 122 = .ok (.aload_n 0, 1) := by decide +kernel
theorem dX3_settle_123 : decode cX3_settle 123 = .ok (.iload 4, 2) := by decide +kernel
theorem dX3_settle_125 : decode cX3_settle 125 = .ok (.iload_n 3, 1) := by decide +kernel
theorem dX3_settle_126 : decode cX3_settle 126 = .ok (.invokevirtual 83, 3) := by decide +kernel
theorem dX3_settle_129 : decode cX3_settle 129 = .ok (.ifCond .eq 8, 3) := by decide +kernel
theorem dX3_settle_132 : decode cX3_settle 132 = .ok (.iload 4, 2) := by decide +kernel
theorem dX3_settle_134 : decode cX3_settle 134 = .ok (.goto 4, 3) := by decide +kernel
theorem dX3_settle_137 : decode cX3_settle 137 = .ok (.iload_n 3, 1) := by decide +kernel
theorem dX3_settle_138 : decode cX3_settle 138 = .ok (.istore_n 3, 1) := by decide +kernel
theorem dX3_settle_139 : decode cX3_settle 139 = .ok (.iinc 4 1, 3) := by decide +kernel
theorem dX3_settle_142 : decode cX3_settle 142 = .ok (.goto (-44), 3) := by decide +kernel
theorem dX3_settle_145 : decode cX3_settle 145 = .ok (.iload_n 3, 1) := by decide +kernel
theorem dX3_settle_146 : decode cX3_settle 146 = .ok (.iconst (-1), 1) := by decide +kernel
theorem dX3_settle_147 : decode cX3_settle 147 = .ok (.if_icmp .eq 7, 3) := by decide +kernel
theorem dX3_settle_150 : decode cX3_settle 150 = .ok (.iconst 1, 1) := by decide +kernel
theorem dX3_settle_151 : decode cX3_settle 151 = .ok (.goto 4, 3) := by decide +kernel
theorem dX3_settle_154 : decode cX3_settle 154 = .ok (.iconst 0, 1) := by decide +kernel
theorem dX3_settle_155 : decode cX3_settle 155 = .ok (.istore_n 2, 1) := by decide +kernel
theorem dX3_settle_156 : decode cX3_settle 156 = .ok (.iload_n 2, 1) := by decide +kernel
theorem dX3_settle_157 : decode cX3_settle 157 = .ok (.ifCond .eq 15, 3) := by decide +kernel
theorem dX3_settle_160 : decode cX3_settle 160 = .ok (.aload_n 0, 1) := by decide +kernel
theorem dX3_settle_161 : decode cX3_settle 161 = .ok (.getfield 47, 3) := by decide +kernel
theorem dX3_settle_164 : decode cX3_settle 164 = .ok (.iload_n 3, 1) := by decide +kernel
theorem dX3_settle_165 : decode cX3_settle 165 = .ok (.iconst 0, 1) := by decide +kernel
theorem dX3_settle_166 : decode cX3_settle 166 = .ok (.bastore, 1) := by decide +kernel
theorem dX3_settle_167 : decode cX3_settle 167 = .ok (.aload_n 0, 1) := by decide +kernel
theorem dX3_settle_168 : decode cX3_settle 168 = .ok (.iload_n 3, 1) := by decide +kernel
theorem dX3_settle_169 : decode cX3_settle 169 = .ok (.invokevirtual 116, 3) := by decide +kernel
theorem dX3_settle_172 : decode cX3_settle 172 = .ok (.goto (-83), 3) := by decide +kernel
theorem dX3_settle_175 : decode cX3_settle 175 = .ok (.return_, 1) := by decide +kernel
theorem dX3_take_0 : decode cX3_take 0 = .ok (.aload_n 0, 1) := by decide +kernel
theorem dX3_take_1 : decode cX3_take 1 = .ok (.getfield 22, 3) := by decide +kernel
theorem dX3_take_4 : decode cX3_take 4 = .ok (.iload_n 1, 1) := by decide +kernel
theorem dX3_take_5 : decode cX3_take 5 = .ok (.iaload, 1) := by decide +kernel
theorem dX3_take_6 : decode cX3_take 6 = .ok (.bipush 16, 2) := by decide +kernel
theorem dX3_take_8 : decode cX3_take 8 = .ok (.idiv, 1) := by decide +kernel
theorem dX3_take_9 : decode cX3_take 9 = .ok (.istore_n 2, 1) := by decide +kernel
theorem dX3_take_10 : decode cX3_take 10 = .ok (.aload_n 0, 1) := by decide +kernel
theorem dX3_take_11 : decode cX3_take 11 = .ok (.getfield 22, 3) := by decide +kernel
theorem dX3_take_14 : decode cX3_take 14 = .ok (.iload_n 1, 1) := by decide +kernel
theorem dX3_take_15 : decode cX3_take 15 = .ok (.iaload, 1) := by decide +kernel
theorem dX3_take_16 : decode cX3_take 16 = .ok (.bipush 16, 2) := by decide +kernel
theorem dX3_take_18 : decode cX3_take 18 = .ok (.irem, 1) := by decide +kernel
theorem dX3_take_19 : decode cX3_take 19 = .ok (.istore_n 3, 1) := by decide +kernel
theorem dX3_take_20 : decode cX3_take 20 = .ok (.aload_n 0, 1) := by decide +kernel
theorem dX3_take_21 : decode cX3_take 21 = .ok (.getfield 41, 3) := by decide +kernel
theorem dX3_take_24 : decode cX3_take 24 = .ok (.bipush 16, 2) := by decide +kernel
theorem dX3_take_26 : decode cX3_take 26 = .ok (.iload_n 3, 1) := by decide +kernel
theorem dX3_take_27 : decode cX3_take 27 = .ok (.imul, 1) := by decide +kernel
theorem dX3_take_28 : decode cX3_take 28 = .ok (.iload_n 2, 1) := by decide +kernel
theorem dX3_take_29 : decode cX3_take 29 = .ok (.iadd, 1) := by decide +kernel
theorem dX3_take_30 : decode cX3_take 30 = .ok (.baload, 1) := by decide +kernel
theorem dX3_take_31 : decode cX3_take 31 = .ok (.ifCond .eq 24, 3) := by decide +kernel
theorem dX3_take_34 : decode cX3_take 34 = .ok (.aload_n 0, 1) := by decide +kernel
theorem dX3_take_35 : decode cX3_take 35 = .ok (.getfield 44, 3) := by decide +kernel
theorem dX3_take_38 : decode cX3_take 38 = .ok (.aload_n 0, 1) := by decide +kernel
theorem dX3_take_39 : decode cX3_take 39 = .ok (.getfield 110, 3) := by decide +kernel
theorem dX3_take_42 : decode cX3_take 42 = .ok (.iload_n 1, 1) := by decide +kernel
theorem dX3_take_43 : decode cX3_take 43 = .ok (.iastore, 1) := by decide +kernel
theorem dX3_take_44 : decode cX3_take 44 = .ok (.aload_n 0, 1) := by decide +kernel
theorem dX3_take_45 : decode cX3_take 45 = .ok (.dup, 1) := by decide +kernel
theorem dX3_take_46 : decode cX3_take 46 = .ok (.getfield 110, 3) := by decide +kernel
theorem dX3_take_49 : decode cX3_take 49 = .ok (.iconst 1, 1) := by decide +kernel
theorem dX3_take_50 : decode cX3_take 50 = .ok (.iadd, 1) := by decide +kernel
theorem dX3_take_51 : decode cX3_take 51 = .ok (.putfield 110, 3) := by decide +kernel
theorem dX3_take_54 : decode cX3_take 54 = .ok (.return_, 1) := by decide +kernel
theorem dX3_take_55 : decode cX3_take 55 = .ok (.iconst 0, 1) := by decide +kernel
theorem dX3_take_56 : decode cX3_take 56 = .ok (.istore 4, 2) := by decide +kernel
theorem dX3_take_58 : decode cX3_take 58 = .ok (.iload 4, 2) := by decide +kernel
theorem dX3_take_60 : decode cX3_take 60 = .ok (.bipush 16, 2) := by decide +kernel
theorem dX3_take_62 : decode cX3_take 62 = .ok (.if_icmp .ge 125, 3) := by decide +kernel
theorem dX3_take_65 : decode cX3_take 65 = .ok (.iconst 0, 1) := by decide +kernel
theorem dX3_take_66 : decode cX3_take 66 = .ok (.istore 5, 2) := by decide +kernel
theorem dX3_take_68 : decode cX3_take 68 = .ok (.iload 5, 2) := by decide +kernel
theorem dX3_take_70 : decode cX3_take 70 = .ok (.bipush 16, 2) := by decide +kernel
theorem dX3_take_72 : decode cX3_take 72 = .ok (.if_icmp .ge 109, 3) := by decide +kernel
theorem dX3_take_75 : decode cX3_take 75 = .ok (.iload 4, 2) := by decide +kernel
theorem dX3_take_77 : decode cX3_take 77 = .ok (.iload_n 2, 1) := by decide +kernel
theorem dX3_take_78 : decode cX3_take 78 = .ok (.if_icmp .eq 18, 3) := by decide +kernel
theorem dX3_take_81 : decode cX3_take 81 = .ok (.aload_n 0, 1) := by decide +kernel
theorem dX3_take_82 : decode cX3_take 82 = .ok (.getfield 41, 3) := by decide +kernel
theorem dX3_take_85 : decode cX3_take 85 = .ok (.bipush 16, 2) := by decide +kernel
theorem dX3_take_87 : decode cX3_take 87 = .ok (.iload 4, 2) := by decide +kernel
theorem dX3_take_89 : decode cX3_take 89 = .ok (.imul, 1) := by decide +kernel
theorem dX3_take_90 : decode cX3_take 90 = .ok (.iload_n 2, 1) := by decide +kernel
theorem dX3_take_91 : decode cX3_take 91 = .ok (.iadd, 1) := by decide +kernel
theorem dX3_take_92 : decode cX3_take 92 = .ok (.baload, 1) := by decide +kernel
theorem dX3_take_93 : decode cX3_take 93 = .ok (.ifCond .eq 7, 3) := by decide +kernel
theorem dX3_take_96 : decode cX3_take 96 = .ok (.iconst 1, 1) := by decide +kernel
theorem dX3_take_97 : decode cX3_take 97 = .ok (.goto 4, 3) := by decide +kernel
theorem dX3_take_100 : decode cX3_take 100 = .ok (.iconst 0, 1) := by decide +kernel
theorem dX3_take_101 : decode cX3_take 101 = .ok (.istore 6, 2) := by decide +kernel
theorem dX3_take_103 : decode cX3_take 103 = .ok (.iload 5, 2) := by decide +kernel
theorem dX3_take_105 : decode cX3_take 105 = .ok (.iload_n 3, 1) := by decide +kernel
theorem dX3_take_106 : decode cX3_take 106 = .ok (.if_icmp .eq 18, 3) := by decide +kernel
theorem dX3_take_109 : decode cX3_take 109 = .ok (.aload_n 0, 1) := by decide +kernel
theorem dX3_take_110 : decode cX3_take 110 = .ok (.getfield 41, 3) := by decide +kernel
theorem dX3_take_113 : decode cX3_take 113 = .ok (.bipush 16, 2) := by decide +kernel
theorem dX3_take_115 : decode cX3_take 115 = .ok (.iload_n 3, 1) := by decide +kernel
theorem dX3_take_116 : decode cX3_take 116 = .ok (.imul, 1) := by decide +kernel
theorem dX3_take_117 : decode cX3_take 117 = .ok (.iload 5, 2) := by decide +kernel
theorem dX3_take_119 : decode cX3_take 119 = .ok (.iadd, 1) := by decide +kernel
theorem dX3_take_120 : decode cX3_take 120 = .ok (.baload, 1) := by decide +kernel
theorem dX3_take_121 : decode cX3_take 121 = .ok (.ifCond .eq 7, 3) := by decide +kernel
theorem dX3_take_124 : decode cX3_take 124 = .ok (.iconst 1, 1) := by decide +kernel
theorem dX3_take_125 : decode cX3_take 125 = .ok (.goto 4, 3) := by decide +kernel
theorem dX3_take_128 : decode cX3_take 128 = .ok (.iconst 0, 1) := by decide +kernel
theorem dX3_take_129 : decode cX3_take 129 = .ok (.istore 7, 2) := by decide +kernel
theorem dX3_take_131 : decode cX3_take 131 = .ok (.aload_n 0, 1) := by decide +kernel
theorem dX3_take_132 : decode cX3_take 132 = .ok (.getfield 41, 3) := by decide +kernel
theorem dX3_take_135 : decode cX3_take 135 = .ok (.bipush 16, 2) := by decide +kernel
theorem dX3_take_137 : decode cX3_take 137 = .ok (.iload 4, 2) := by decide +kernel
theorem dX3_take_139 : decode cX3_take 139 = .ok (.imul, 1) := by decide +kernel
theorem dX3_take_140 : decode cX3_take 140 = .ok (.iload 5, 2) := by decide +kernel
theorem dX3_take_142 : decode cX3_take 142 = .ok (.iadd, 1) := by decide +kernel
theorem dX3_take_143 : decode cX3_take 143 = .ok (.aload_n 0, 1) := by decide +kernel
theorem dX3_take_144 : decode cX3_take 144 = .ok (.getfield 41, 3) := by decide +kernel
theorem dX3_take_147 : decode cX3_take 147 = .ok (.bipush 16, 2) := by decide +kernel
theorem dX3_take_149 : decode cX3_take 149 = .ok (.iload 4, 2) := by decide +kernel
theorem dX3_take_151 : decode cX3_take 151 = .ok (.imul, 1) := by decide +kernel
theorem dX3_take_152 : decode cX3_take 152 = .ok (.iload 5, 2) := by decide +kernel
theorem dX3_take_154 : decode cX3_take 154 = .ok (.iadd, 1) := by decide +kernel
theorem dX3_take_155 : decode cX3_take 155 = .ok (.baload, 1) := by decide +kernel
theorem dX3_take_156 : decode cX3_take 156 = .ok (.ifCond .ne 13, 3) := by decide +kernel
theorem dX3_take_159 : decode cX3_take 159 = .ok (.iload 6, 2) := by decide +kernel
theorem dX3_take_161 : decode cX3_take 161 = .ok (.ifCond .eq 12, 3) := by decide +kernel
theorem dX3_take_164 : decode cX3_take 164 = .ok (.iload 7, 2) := by decide +kernel
theorem dX3_take_166 : decode cX3_take 166 = .ok (.ifCond .eq 7, 3) := by decide +kernel
theorem dX3_take_169 : decode cX3_take 169 = .ok (.iconst 1, 1) := by decide +kernel
theorem dX3_take_170 : decode cX3_take 170 = .ok (.goto 4, 3) := by decide +kernel
theorem dX3_take_173 : decode cX3_take 173 = .ok (.iconst 0, 1) := by decide +kernel
theorem dX3_take_174 : decode cX3_take 174 = .ok (.bastore, 1) := by decide +kernel
theorem dX3_take_175 : decode cX3_take 175 = .ok (.iinc 5 1, 3) := by decide +kernel
theorem dX3_take_178 : decode cX3_take 178 = .ok (.goto (-110), 3) := by decide +kernel
theorem dX3_take_181 : decode cX3_take 181 = .ok (.iinc 4 1, 3) := by decide +kernel
theorem dX3_take_184 : decode cX3_take 184 = .ok (.goto (-126), 3) := by decide +kernel
theorem dX3_take_187 : decode cX3_take 187 = .ok (.return_, 1) := by decide +kernel
theorem dX3_order_0 : decode cX3_order 0 = .ok (.aload_n 0, 1) := by decide +kernel
theorem dX3_order_1 : decode cX3_order 1 = .ok (.iload_n 1, 1) := by decide +kernel
theorem dX3_order_2 : decode cX3_order 2 = .ok (.invokestatic 54, 3) := by decide +kernel
theorem dX3_order_5 : decode cX3_order 5 = .ok (.ifCond .eq 21, 3) := by decide +kernel
theorem dX3_order_8 : decode cX3_order 8 = .ok (.iload_n 2, 1) := by decide +kernel
theorem dX3_order_9 : decode cX3_order 9 = .ok (.invokestatic 61, 3) := by decide +kernel
theorem dX3_order_12 : decode cX3_order 12 = .ok (.ifCond .eq 14, 3) := by decide +kernel
theorem dX3_order_15 : decode cX3_order 15 = .ok (.iload_n 3, 1) := by decide +kernel
theorem dX3_order_16 : decode cX3_order 16 = .ok (.invokestatic 61, 3) := by decide +kernel
theorem dX3_order_19 : decode cX3_order 19 = .ok (.ifCond .eq 7, 3) := by decide +kernel
theorem dX3_order_22 : decode cX3_order 22 = .ok (.iconst 1, 1) := by decide +kernel
theorem dX3_order_23 : decode cX3_order 23 = .ok (.goto 4, 3) := by decide +kernel
theorem dX3_order_26 : decode cX3_order 26 = .ok (.iconst 0, 1) := by decide +kernel
theorem dX3_order_27 : decode cX3_order 27 = .ok (.iconst 1, 1) := by decide +kernel
theorem dX3_order_28 : decode cX3_order 28 = .ok (.iconst 1, 1) := by decide +kernel
theorem dX3_order_29 : decode cX3_order 29 = .ok (.invokevirtual 68, 3) := by decide +kernel
theorem dX3_order_32 : decode cX3_order 32 = .ok (.ifCond .ne 5, 3) := by decide +kernel
theorem dX3_order_35 : decode cX3_order 35 = .ok (.iconst 0, 1) := by decide +kernel
theorem dX3_order_36 : decode cX3_order 36 = .ok (.ireturn, 1) := by decide +kernel
theorem dX3_order_37 : decode cX3_order 37 = .ok (.aload_n 0, 1) := by decide +kernel
theorem dX3_order_38 : decode cX3_order 38 = .ok (.iload_n 1, 1) := by decide +kernel
theorem dX3_order_39 : decode cX3_order 39 = .ok (.invokevirtual 120, 3) := by decide +kernel
theorem dX3_order_42 : decode cX3_order 42 = .ok (.aload_n 0, 1) := by decide +kernel
theorem dX3_order_43 : decode cX3_order 43 = .ok (.getfield 41, 3) := by decide +kernel
theorem dX3_order_46 : decode cX3_order 46 = .ok (.bipush 16, 2) := by decide +kernel
theorem dX3_order_48 : decode cX3_order 48 = .ok (.iload_n 2, 1) := by decide +kernel
theorem dX3_order_49 : decode cX3_order 49 = .ok (.imul, 1) := by decide +kernel
theorem dX3_order_50 : decode cX3_order 50 = .ok (.iload_n 3, 1) := by decide +kernel
theorem dX3_order_51 : decode cX3_order 51 = .ok (.iadd, 1) := by decide +kernel
theorem dX3_order_52 : decode cX3_order 52 = .ok (.baload, 1) := by decide +kernel
theorem dX3_order_53 : decode cX3_order 53 = .ok (.ifCond .eq 7, 3) := by decide +kernel
theorem dX3_order_56 : decode cX3_order 56 = .ok (.iconst 1, 1) := by decide +kernel
theorem dX3_order_57 : decode cX3_order 57 = .ok (.goto 22, 3) := by decide +kernel
theorem dX3_order_60 : decode cX3_order 60 = .ok (.aload_n 0, 1) := by decide +kernel
theorem dX3_order_61 : decode cX3_order 61 = .ok (.getfield 41, 3) := by decide +kernel
theorem dX3_order_64 : decode cX3_order 64 = .ok (.bipush 16, 2) := by decide +kernel
theorem dX3_order_66 : decode cX3_order 66 = .ok (.iload_n 3, 1) := by decide +kernel
theorem dX3_order_67 : decode cX3_order 67 = .ok (.imul, 1) := by decide +kernel
theorem dX3_order_68 : decode cX3_order 68 = .ok (.iload_n 2, 1) := by decide +kernel
theorem dX3_order_69 : decode cX3_order 69 = .ok (.iadd, 1) := by decide +kernel
theorem dX3_order_70 : decode cX3_order 70 = .ok (.baload, 1) := by decide +kernel
theorem dX3_order_71 : decode cX3_order 71 = .ok (.ifCond .eq 7, 3) := by decide +kernel
theorem dX3_order_74 : decode cX3_order 74 = .ok (.iconst (-1), 1) := by decide +kernel
theorem dX3_order_75 : decode cX3_order 75 = .ok (.goto 4, 3) := by decide +kernel
theorem dX3_order_78 : decode cX3_order 78 = .ok (.iconst 0, 1) := by decide +kernel
theorem dX3_order_79 : decode cX3_order 79 = .ok (.ireturn, 1) := by decide +kernel
theorem dX3_open_0 : decode cX3_open 0 = .ok (.aload_n 0, 1) := by decide +kernel
theorem dX3_open_1 : decode cX3_open 1 = .ok (.iload_n 1, 1) := by decide +kernel
theorem dX3_open_2 : decode cX3_open 2 = .ok (.invokestatic 54, 3) := by decide +kernel
theorem dX3_open_5 : decode cX3_open 5 = .ok (.ifCond .eq 11, 3) := by decide +kernel
theorem dX3_open_8 : decode cX3_open 8 = .ok (.iload_n 2, 1) := by decide +kernel
theorem dX3_open_9 : decode cX3_open 9 = .ok (.ifCond .lt 7, 3) := by decide +kernel
theorem dX3_open_12 : decode cX3_open 12 = .ok (.iconst 1, 1) := by decide +kernel
theorem dX3_open_13 : decode cX3_open 13 = .ok (.goto 4, 3) := by decide +kernel
theorem dX3_open_16 : decode cX3_open 16 = .ok (.iconst 0, 1) := by decide +kernel
theorem dX3_open_17 : decode cX3_open 17 = .ok (.iconst 1, 1) := by decide +kernel
theorem dX3_open_18 : decode cX3_open 18 = .ok (.iconst 1, 1) := by decide +kernel
theorem dX3_open_19 : decode cX3_open 19 = .ok (.invokevirtual 68, 3) := by decide +kernel
theorem dX3_open_22 : decode cX3_open 22 = .ok (.ifCond .ne 5, 3) := by decide +kernel
theorem dX3_open_25 : decode cX3_open 25 = .ok (.iconst 0, 1) := by decide +kernel
theorem dX3_open_26 : decode cX3_open 26 = .ok (.ireturn, 1) := by decide +kernel
theorem dX3_open_27 : decode cX3_open 27 = .ok (.aload_n 0, 1) := by decide +kernel
theorem dX3_open_28 : decode cX3_open 28 = .ok (.iload_n 1, 1) := by decide +kernel
theorem dX3_open_29 : decode cX3_open 29 = .ok (.invokevirtual 120, 3) := by decide +kernel
theorem dX3_open_32 : decode cX3_open 32 = .ok (.iload_n 2, 1) := by decide +kernel
theorem dX3_open_33 : decode cX3_open 33 = .ok (.aload_n 0, 1) := by decide +kernel
theorem dX3_open_34 : decode cX3_open 34 = .ok (.getfield 110, 3) := by decide +kernel
theorem dX3_open_37 : decode cX3_open 37 = .ok (.if_icmp .ge 12, 3) := by decide +kernel
theorem dX3_open_40 : decode cX3_open 40 = .ok (.aload_n 0, 1) := by decide +kernel
theorem dX3_open_41 : decode cX3_open 41 = .ok (.getfield 44, 3) := by decide +kernel
theorem dX3_open_44 : decode cX3_open 44 = .ok (.iload_n 2, 1) := by decide +kernel
theorem dX3_open_45 : decode cX3_open 45 = .ok (.iaload, 1) := by decide +kernel
theorem dX3_open_46 : decode cX3_open 46 = .ok (.goto 4, 3) := by decide +kernel
theorem dX3_open_49 : decode cX3_open 49 = .ok (.iconst (-1), 1) := by decide +kernel
theorem dX3_open_50 : decode cX3_open 50 = .ok (.ireturn, 1) := by decide +kernel
theorem dX3_knows_0 : decode cX3_knows 0 = .ok (.aload_n 0, 1) := by decide +kernel
theorem dX3_knows_1 : decode cX3_knows 1 = .ok (.iload_n 1, 1) := by decide +kernel
theorem dX3_knows_2 : decode cX3_knows 2 = .ok (.invokestatic 54, 3) := by decide +kernel
theorem dX3_knows_5 : decode cX3_knows 5 = .ok (.ifCond .eq 19, 3) := by decide +kernel
theorem dX3_knows_8 : decode cX3_knows 8 = .ok (.iload_n 2, 1) := by decide +kernel
theorem dX3_knows_9 : decode cX3_knows 9 = .ok (.ifCond .lt 15, 3) := by decide +kernel
theorem dX3_knows_12 : decode cX3_knows 12 = .ok (.iload_n 2, 1) := by decide +kernel
theorem dX3_knows_13 : decode cX3_knows 13 = .ok (.aload_n 0, 1) := by decide +kernel
theorem dX3_knows_14 : decode cX3_knows 14 = .ok (.getfield 58, 3) := by decide +kernel
theorem dX3_knows_17 : decode cX3_knows 17 = .ok (.if_icmp .ge 7, 3) := by decide +kernel
theorem dX3_knows_20 : decode cX3_knows 20 = .ok (.iconst 1, 1) := by decide +kernel
theorem dX3_knows_21 : decode cX3_knows 21 = .ok (.goto 4, 3) := by decide +kernel
theorem dX3_knows_24 : decode cX3_knows 24 = .ok (.iconst 0, 1) := by decide +kernel
theorem dX3_knows_25 : decode cX3_knows 25 = .ok (.iconst 1, 1) := by decide +kernel
theorem dX3_knows_26 : decode cX3_knows 26 = .ok (.iconst 1, 1) := by decide +kernel
theorem dX3_knows_27 : decode cX3_knows 27 = .ok (.invokevirtual 68, 3) := by decide +kernel
theorem dX3_knows_30 : decode cX3_knows 30 = .ok (.ifCond .eq 21, 3) := by decide +kernel
theorem dX3_knows_33 : decode cX3_knows 33 = .ok (.aload_n 0, 1) := by decide +kernel
theorem dX3_knows_34 : decode cX3_knows 34 = .ok (.getfield 32, 3) := by decide +kernel
theorem dX3_knows_37 : decode cX3_knows 37 = .ok (.bipush 120, 2) := by decide +kernel
theorem dX3_knows_39 : decode cX3_knows 39 = .ok (.iload_n 1, 1) := by decide +kernel
theorem dX3_knows_40 : decode cX3_knows 40 = .ok (.imul, 1) := by decide +kernel
theorem dX3_knows_41 : decode cX3_knows 41 = .ok (.iload_n 2, 1) := by decide +kernel
theorem dX3_knows_42 : decode cX3_knows 42 = .ok (.iadd, 1) := by decide +kernel
theorem dX3_knows_43 : decode cX3_knows 43 = .ok (.baload, 1) := by decide +kernel
theorem dX3_knows_44 : decode cX3_knows 44 = .ok (.ifCond .eq 7, 3) := by decide +kernel
theorem dX3_knows_47 : decode cX3_knows 47 = .ok (.iconst 1, 1) := by decide +kernel
theorem dX3_knows_48 : decode cX3_knows 48 = .ok (.goto 4, 3) := by decide +kernel
theorem dX3_knows_51 : decode cX3_knows 51 = .ok (.iconst 0, 1) := by decide +kernel
theorem dX3_knows_52 : decode cX3_knows 52 = .ok (.ireturn, 1) := by decide +kernel
theorem dX3_equal_0 : decode cX3_equal 0 = .ok (.aload_n 0, 1) := by decide +kernel
theorem dX3_equal_1 : decode cX3_equal 1 = .ok (.iload_n 1, 1) := by decide +kernel
theorem dX3_equal_2 : decode cX3_equal 2 = .ok (.invokestatic 54, 3) := by decide +kernel
theorem dX3_equal_5 : decode cX3_equal 5 = .ok (.ifCond .eq 14, 3) := by decide +kernel
theorem dX3_equal_8 : decode cX3_equal 8 = .ok (.iload_n 2, 1) := by decide +kernel
theorem dX3_equal_9 : decode cX3_equal 9 = .ok (.invokestatic 54, 3) := by decide +kernel
theorem dX3_equal_12 : decode cX3_equal 12 = .ok (.ifCond .eq 7, 3) := by decide +kernel
theorem dX3_equal_15 : decode cX3_equal 15 = .ok (.iconst 1, 1) := by decide +kernel
theorem dX3_equal_16 : decode cX3_equal 16 = .ok (.goto 4, 3) := by decide +kernel
theorem dX3_equal_19 : decode cX3_equal 19 = .ok (.iconst 0, 1) := by decide +kernel
theorem dX3_equal_20 : decode cX3_equal 20 = .ok (.iconst 1, 1) := by decide +kernel
theorem dX3_equal_21 : decode cX3_equal 21 = .ok (.iconst 1, 1) := by decide +kernel
theorem dX3_equal_22 : decode cX3_equal 22 = .ok (.invokevirtual 68, 3) := by decide +kernel
theorem dX3_equal_25 : decode cX3_equal 25 = .ok (.ifCond .ne 5, 3) := by decide +kernel
theorem dX3_equal_28 : decode cX3_equal 28 = .ok (.iconst 0, 1) := by decide +kernel
theorem dX3_equal_29 : decode cX3_equal 29 = .ok (.ireturn, 1) := by decide +kernel
theorem dX3_equal_30 : decode cX3_equal 30 = .ok (.iconst 1, 1) := by decide +kernel
theorem dX3_equal_31 : decode cX3_equal 31 = .ok (.istore_n 3, 1) := by decide +kernel
theorem dX3_equal_32 : decode cX3_equal 32 = .ok (.iconst 0, 1) := by decide +kernel
theorem dX3_equal_33 : decode cX3_equal 33 = .ok (.istore 4, 2) := by decide +kernel
theorem dX3_equal_35 : decode cX3_equal 35 = .ok (.iload 4, 2) := by decide +kernel
theorem dX3_equal_37 : decode cX3_equal 37 = .ok (.aload_n 0, 1) := by decide +kernel
theorem dX3_equal_38 : decode cX3_equal 38 = .ok (.getfield 58, 3) := by decide +kernel
theorem dX3_equal_41 : decode cX3_equal 41 = .ok (.if_icmp .ge 46, 3) := by decide +kernel
theorem dX3_equal_44 : decode cX3_equal 44 = .ok (.iload_n 3, 1) := by decide +kernel
theorem dX3_equal_45 : decode cX3_equal 45 = .ok (.ifCond .eq 34, 3) := by decide +kernel
theorem dX3_equal_48 : decode cX3_equal 48 = .ok (.aload_n 0, 1) := by decide +kernel
theorem dX3_equal_49 : decode cX3_equal 49 = .ok (.getfield 32, 3) := by decide +kernel
theorem dX3_equal_52 : decode cX3_equal 52 = .ok (.bipush 120, 2) := by decide +kernel
theorem dX3_equal_54 : decode cX3_equal 54 = .ok (.iload_n 1, 1) := by decide +kernel
theorem dX3_equal_55 : decode cX3_equal 55 = .ok (.imul, 1) := by decide +kernel
theorem dX3_equal_56 : decode cX3_equal 56 = .ok (.iload 4, 2) := by decide +kernel
theorem dX3_equal_58 : decode cX3_equal 58 = .ok (.iadd, 1) := by decide +kernel
theorem dX3_equal_59 : decode cX3_equal 59 = .ok (.baload, 1) := by decide +kernel
theorem dX3_equal_60 : decode cX3_equal 60 = .ok (.aload_n 0, 1) := by decide +kernel
theorem dX3_equal_61 : decode cX3_equal 61 = .ok (.getfield 32, 3) := by decide +kernel
theorem dX3_equal_64 : decode cX3_equal 64 = .ok (.bipush 120, 2) := by decide +kernel
theorem dX3_equal_66 : decode cX3_equal 66 = .ok (.iload_n 2, 1) := by decide +kernel
theorem dX3_equal_67 : decode cX3_equal 67 = .ok (.imul, 1) := by decide +kernel
theorem dX3_equal_68 : decode cX3_equal 68 = .ok (.iload 4, 2) := by decide +kernel
theorem dX3_equal_70 : decode cX3_equal 70 = .ok (.iadd, 1) := by decide +kernel
theorem dX3_equal_71 : decode cX3_equal 71 = .ok (.baload, 1) := by decide +kernel
theorem dX3_equal_72 : decode cX3_equal 72 = .ok (.if_icmp .ne 7, 3) := by decide +kernel
theorem dX3_equal_75 : decode cX3_equal 75 = .ok (.iconst 1, 1) := by decide +kernel
theorem dX3_equal_76 : decode cX3_equal 76 = .ok (.goto 4, 3) := by decide +kernel
theorem dX3_equal_79 : decode cX3_equal 79 = .ok (.iconst 0, 1) := by decide +kernel
theorem dX3_equal_80 : decode cX3_equal 80 = .ok (.istore_n 3, 1) := by decide +kernel
theorem dX3_equal_81 : decode cX3_equal 81 = .ok (.iinc 4 1, 3) := by decide +kernel
theorem dX3_equal_84 : decode cX3_equal 84 = .ok (.goto (-49), 3) := by decide +kernel
theorem dX3_equal_87 : decode cX3_equal 87 = .ok (.iload_n 3, 1) := by decide +kernel
theorem dX3_equal_88 : decode cX3_equal 88 = .ok (.ireturn, 1) := by decide +kernel
theorem dX3_isCommon_0 : decode cX3_isCommon 0 = .ok (.iconst 1, 1) := by decide +kernel
theorem dX3_isCommon_1 : decode cX3_isCommon 1 = .ok (.istore_n 2, 1) := by decide +kernel
theorem dX3_isCommon_2 : decode cX3_isCommon 2 = .ok (.iconst 0, 1) := by decide +kernel
theorem dX3_isCommon_3 : decode cX3_isCommon 3 = .ok (.istore_n 3, 1) := by decide +kernel
theorem dX3_isCommon_4 : decode cX3_isCommon 4 = .ok (.iload_n 3, 1) := by decide +kernel
theorem dX3_isCommon_5 : decode cX3_isCommon 5 = .ok (.bipush 6, 2) := by decide +kernel
theorem dX3_isCommon_7 : decode cX3_isCommon 7 = .ok (.if_icmp .ge 33, 3) := by decide +kernel
theorem dX3_isCommon_10 : decode cX3_isCommon 10 = .ok (.iload_n 2, 1) := by decide +kernel
theorem dX3_isCommon_11 : decode cX3_isCommon 11 = .ok (.ifCond .eq 21, 3) := by decide +kernel
theorem dX3_isCommon_14 : decode cX3_isCommon 14 = .ok (.aload_n 0, 1) := by decide +kernel
theorem dX3_isCommon_15 : decode cX3_isCommon 15 = .ok (.getfield 32, 3) := by decide +kernel
theorem dX3_isCommon_18 : decode cX3_isCommon 18 = .ok (.bipush 120, 2) := by decide +kernel
theorem dX3_isCommon_20 : decode cX3_isCommon 20 = .ok (.iload_n 3, 1) := by decide +kernel
theorem dX3_isCommon_21 : decode cX3_isCommon 21 = .ok (.imul, 1) := by decide +kernel
theorem dX3_isCommon_22 : decode cX3_isCommon 22 = .ok (.iload_n 1, 1) := by decide +kernel
theorem dX3_isCommon_23 : decode cX3_isCommon 23 = .ok (.iadd, 1) := by decide +kernel
theorem dX3_isCommon_24 : decode cX3_isCommon 24 = .ok (.baload, 1) := by decide +kernel
theorem dX3_isCommon_25 : decode cX3_isCommon 25 = .ok (.ifCond .eq 7, 3) := by decide +kernel
theorem dX3_isCommon_28 : decode cX3_isCommon 28 = .ok (.iconst 1, 1) := by decide +kernel
theorem dX3_isCommon_29 : decode cX3_isCommon 29 = .ok (.goto 4, 3) := by decide +kernel
theorem dX3_isCommon_32 : decode cX3_isCommon 32 = .ok (.iconst 0, 1) := by decide +kernel
theorem dX3_isCommon_33 : decode cX3_isCommon 33 = .ok (.istore_n 2, 1) := by decide +kernel
theorem dX3_isCommon_34 : decode cX3_isCommon 34 = .ok (.iinc 3 1, 3) := by decide +kernel
theorem dX3_isCommon_37 : decode cX3_isCommon 37 = .ok (.goto (-33), 3) := by decide +kernel
theorem dX3_isCommon_40 : decode cX3_isCommon 40 = .ok (.iload_n 2, 1) := by decide +kernel
theorem dX3_isCommon_41 : decode cX3_isCommon 41 = .ok (.ireturn, 1) := by decide +kernel
theorem dX3_isPast_0 : decode cX3_isPast 0 = .ok (.iconst 0, 1) := by decide +kernel
theorem dX3_isPast_1 : decode cX3_isPast 1 = .ok (.istore_n 2, 1) := by decide +kernel
theorem dX3_isPast_2 : decode cX3_isPast 2 = .ok (.iconst 0, 1) := by decide +kernel
theorem dX3_isPast_3 : decode cX3_isPast 3 = .ok (.istore_n 3, 1) := by decide +kernel
theorem dX3_isPast_4 : decode cX3_isPast 4 = .ok (.iload_n 3, 1) := by decide +kernel
theorem dX3_isPast_5 : decode cX3_isPast 5 = .ok (.aload_n 0, 1) := by decide +kernel
theorem dX3_isPast_6 : decode cX3_isPast 6 = .ok (.getfield 58, 3) := by decide +kernel
theorem dX3_isPast_9 : decode cX3_isPast 9 = .ok (.if_icmp .ge 52, 3) := by decide +kernel
theorem dX3_isPast_12 : decode cX3_isPast 12 = .ok (.iload_n 2, 1) := by decide +kernel
theorem dX3_isPast_13 : decode cX3_isPast 13 = .ok (.ifCond .ne 36, 3) := by decide +kernel
theorem dX3_isPast_16 : decode cX3_isPast 16 = .ok (.aload_n 0, 1) := by decide +kernel
theorem dX3_isPast_17 : decode cX3_isPast 17 = .ok (.iconst 0, 1) := by decide +kernel
theorem dX3_isPast_18 : decode cX3_isPast 18 = .ok (.iload_n 3, 1) := by decide +kernel
theorem dX3_isPast_19 : decode cX3_isPast 19 = .ok (.aload_n 0, 1) := by decide +kernel
theorem dX3_isPast_20 : decode cX3_isPast 20 = .ok (.getfield 19, 3) := by decide +kernel
theorem dX3_isPast_23 : decode cX3_isPast 23 = .ok (.iload_n 1, 1) := by decide +kernel
theorem dX3_isPast_24 : decode cX3_isPast 24 = .ok (.iaload, 1) := by decide +kernel
theorem dX3_isPast_25 : decode cX3_isPast 25 = .ok (.iconst 0, 1) := by decide +kernel
theorem dX3_isPast_26 : decode cX3_isPast 26 = .ok (.invokevirtual 79, 3) := by decide +kernel
theorem dX3_isPast_29 : decode cX3_isPast 29 = .ok (.ifCond .eq 24, 3) := by decide +kernel
theorem dX3_isPast_32 : decode cX3_isPast 32 = .ok (.aload_n 0, 1) := by decide +kernel
theorem dX3_isPast_33 : decode cX3_isPast 33 = .ok (.iload_n 1, 1) := by decide +kernel
theorem dX3_isPast_34 : decode cX3_isPast 34 = .ok (.iload_n 3, 1) := by decide +kernel
theorem dX3_isPast_35 : decode cX3_isPast 35 = .ok (.invokevirtual 83, 3) := by decide +kernel
theorem dX3_isPast_38 : decode cX3_isPast 38 = .ok (.ifCond .eq 15, 3) := by decide +kernel
theorem dX3_isPast_41 : decode cX3_isPast 41 = .ok (.aload_n 0, 1) := by decide +kernel
theorem dX3_isPast_42 : decode cX3_isPast 42 = .ok (.iload_n 3, 1) := by decide +kernel
theorem dX3_isPast_43 : decode cX3_isPast 43 = .ok (.invokevirtual 123, 3) := by decide +kernel
theorem dX3_isPast_46 : decode cX3_isPast 46 = .ok (.ifCond .eq 7, 3) := by decide +kernel
theorem dX3_isPast_49 : decode cX3_isPast 49 = .ok (.iconst 1, 1) := by decide +kernel
theorem dX3_isPast_50 : decode cX3_isPast 50 = .ok (.goto 4, 3) := by decide +kernel
theorem dX3_isPast_53 : decode cX3_isPast 53 = .ok (.iconst 0, 1) := by decide +kernel
theorem dX3_isPast_54 : decode cX3_isPast 54 = .ok (.istore_n 2, 1) := by decide +kernel
theorem dX3_isPast_55 : decode cX3_isPast 55 = .ok (.iinc 3 1, 3) := by decide +kernel
theorem dX3_isPast_58 : decode cX3_isPast 58 = .ok (.goto (-54), 3) := by decide +kernel
theorem dX3_isPast_61 : decode cX3_isPast 61 = .ok (.iload_n 2, 1) := by decide +kernel
theorem dX3_isPast_62 : decode cX3_isPast 62 = .ok (.ifCond .eq 15, 3) := by decide +kernel
theorem dX3_isPast_65 : decode cX3_isPast 65 = .ok (.aload_n 0, 1) := by decide +kernel
theorem dX3_isPast_66 : decode cX3_isPast 66 = .ok (.iload_n 1, 1) := by decide +kernel
theorem dX3_isPast_67 : decode cX3_isPast 67 = .ok (.invokevirtual 123, 3) := by decide +kernel
theorem dX3_isPast_70 : decode cX3_isPast 70 = .ok (.ifCond .eq 7, 3) := by decide +kernel
theorem dX3_isPast_73 : decode cX3_isPast 73 = .ok (.iconst 1, 1) := by decide +kernel
theorem dX3_isPast_74 : decode cX3_isPast 74 = .ok (.goto 4, 3) := by decide +kernel
theorem dX3_isPast_77 : decode cX3_isPast 77 = .ok (.iconst 0, 1) := by decide +kernel
theorem dX3_isPast_78 : decode cX3_isPast 78 = .ok (.ireturn, 1) := by decide +kernel
theorem dX3_compact_0 : decode cX3_compact 0 = .ok (.aload_n 0, 1) := by decide +kernel
theorem dX3_compact_1 : decode cX3_compact 1 = .ok (.iconst 0, 1) := by decide +kernel
theorem dX3_compact_2 : decode cX3_compact 2 = .ok (.putfield 50, 3) := by decide +kernel
theorem dX3_compact_5 : decode cX3_compact 5 = .ok (.iconst 0, 1) := by decide +kernel
theorem dX3_compact_6 : decode cX3_compact 6 = .ok (.istore_n 1, 1) := by decide +kernel
theorem dX3_compact_7 : decode cX3_compact 7 = .ok (.iconst 0, 1) := by decide +kernel
theorem dX3_compact_8 : decode cX3_compact 8 = .ok (.istore_n 2, 1) := by decide +kernel
theorem dX3_compact_9 : decode cX3_compact 9 = .ok (.iload_n 2, 1) := by decide +kernel
theorem dX3_compact_10 : decode cX3_compact 10 = .ok (.aload_n 0, 1) := by decide +kernel
theorem dX3_compact_11 : decode cX3_compact 11 = .ok (.getfield 58, 3) := by decide +kernel
theorem dX3_compact_14 : decode cX3_compact 14 = .ok (.if_icmp .ge 54, 3) := by decide +kernel
theorem dX3_compact_17 : decode cX3_compact 17 = .ok (.aload_n 0, 1) := by decide +kernel
theorem dX3_compact_18 : decode cX3_compact 18 = .ok (.getfield 47, 3) := by decide +kernel
theorem dX3_compact_21 : decode cX3_compact 21 = .ok (.iload_n 2, 1) := by decide +kernel
theorem dX3_compact_22 : decode cX3_compact 22 = .ok (.aload_n 0, 1) := by decide +kernel
theorem dX3_compact_23 : decode cX3_compact 23 = .ok (.getfield 16, 3) := by decide +kernel
theorem dX3_compact_26 : decode cX3_compact 26 = .ok (.iload_n 2, 1) := by decide +kernel
theorem dX3_compact_27 : decode cX3_compact 27 = .ok (.iaload, 1) := by decide +kernel
theorem dX3_compact_28 : decode cX3_compact 28 = .ok (.ifCond .ne 15, 3) := by decide +kernel
theorem dX3_compact_31 : decode cX3_compact 31 = .ok (.aload_n 0, 1) := by decide +kernel
theorem dX3_compact_32 : decode cX3_compact 32 = .ok (.iload_n 2, 1) := by decide +kernel
theorem dX3_compact_33 : decode cX3_compact 33 = .ok (.invokevirtual 126, 3) := by decide +kernel
theorem dX3_compact_36 : decode cX3_compact 36 = .ok (.ifCond .eq 7, 3) := by decide +kernel
theorem dX3_compact_39 : decode cX3_compact 39 = .ok (.iconst 1, 1) := by decide +kernel
theorem dX3_compact_40 : decode cX3_compact 40 = .ok (.goto 4, 3) := by decide +kernel
theorem dX3_compact_43 : decode cX3_compact 43 = .ok (.iconst 0, 1) := by decide +kernel
theorem dX3_compact_44 : decode cX3_compact 44 = .ok (.bastore, 1) := by decide +kernel
theorem dX3_compact_45 : decode cX3_compact 45 = .ok (.aload_n 0, 1) := by decide +kernel
theorem dX3_compact_46 : decode cX3_compact 46 = .ok (.getfield 47, 3) := by decide +kernel
theorem dX3_compact_49 : decode cX3_compact 49 = .ok (.iload_n 2, 1) := by decide +kernel
theorem dX3_compact_50 : decode cX3_compact 50 = .ok (.baload, 1) := by decide +kernel
theorem dX3_compact_51 : decode cX3_compact 51 = .ok (.ifCond .eq 9, 3) := by decide +kernel
theorem dX3_compact_54 : decode cX3_compact 54 = .ok (.iload_n 1, 1) := by decide +kernel
theorem dX3_compact_55 : decode cX3_compact 55 = .ok (.iconst 1, 1) := by decide +kernel
theorem dX3_compact_56 : decode cX3_compact 56 = .ok (.iadd, 1) := by decide +kernel
theorem dX3_compact_57 : decode cX3_compact 57 = .ok (.goto 4, 3) := by decide +kernel
theorem dX3_compact_60 : decode cX3_compact 60 = .ok (.iload_n 1, 1) := by decide +kernel
theorem dX3_compact_61 : decode cX3_compact 61 = .ok (.istore_n 1, 1) := by decide +kernel
theorem dX3_compact_62 : decode cX3_compact 62 = .ok (.iinc 2 1, 3) := by decide +kernel
theorem dX3_compact_65 : decode cX3_compact 65 = .ok (.goto (-56), 3) := by decide +kernel
theorem dX3_compact_68 : decode cX3_compact 68 = .ok (.iconst 0, 1) := by decide +kernel
theorem dX3_compact_69 : decode cX3_compact 69 = .ok (.istore_n 2, 1) := by decide +kernel
theorem dX3_compact_70 : decode cX3_compact 70 = .ok (.iload_n 2, 1) := by decide +kernel
theorem dX3_compact_71 : decode cX3_compact 71 = .ok (.aload_n 0, 1) := by decide +kernel
theorem dX3_compact_72 : decode cX3_compact 72 = .ok (.getfield 58, 3) := by decide +kernel
theorem dX3_compact_75 : decode cX3_compact 75 = .ok (.if_icmp .ge 91, 3) := by decide +kernel
theorem dX3_compact_78 : decode cX3_compact 78 = .ok (.aload_n 0, 1) := by decide +kernel
theorem dX3_compact_79 : decode cX3_compact 79 = .ok (.getfield 28, 3) := by decide +kernel
theorem dX3_compact_82 : decode cX3_compact 82 = .ok (.iload_n 2, 1) := by decide +kernel
theorem dX3_compact_83 : decode cX3_compact 83 = .ok (.aload_n 0, 1) := by decide +kernel
theorem dX3_compact_84 : decode cX3_compact 84 = .ok (.getfield 28, 3) := by decide +kernel
theorem dX3_compact_87 : decode cX3_compact 87 = .ok (.iload_n 2, 1) := by decide +kernel
theorem dX3_compact_88 : decode cX3_compact 88 = .ok (.baload, 1) := by decide +kernel
theorem dX3_compact_89 : decode cX3_compact 89 = .ok (.ifCond .ne 12, 3) := by decide +kernel
theorem dX3_compact_92 : decode cX3_compact 92 = .ok (.aload_n 0, 1) := by decide +kernel
theorem dX3_compact_93 : decode cX3_compact 93 = .ok (.getfield 47, 3) := by decide +kernel
theorem dX3_compact_96 : decode cX3_compact 96 = .ok (.iload_n 2, 1) := by decide +kernel
theorem dX3_compact_97 : decode cX3_compact 97 = .ok (.baload, 1) := by decide +kernel
theorem dX3_compact_98 : decode cX3_compact 98 = .ok (.ifCond .eq 7, 3) := by decide +kernel
theorem dX3_compact_101 : decode cX3_compact 101 = .ok (.iconst 1, 1) := by decide +kernel
theorem dX3_compact_102 : decode cX3_compact 102 = .ok (.goto 4, 3) := by decide +kernel
theorem dX3_compact_105 : decode cX3_compact 105 = .ok (.iconst 0, 1) := by decide +kernel
theorem dX3_compact_106 : decode cX3_compact 106 = .ok (.bastore, 1) := by decide +kernel
theorem dX3_compact_107 : decode cX3_compact 107 = .ok (.iconst 0, 1) := by decide +kernel
theorem dX3_compact_108 : decode cX3_compact 108 = .ok (.istore_n 3, 1) := by decide +kernel
theorem dX3_compact_109 : decode cX3_compact 109 = .ok (.iload_n 3, 1) := by decide +kernel
theorem dX3_compact_110 : decode cX3_compact 110 = .ok (.bipush 6, 2) := by decide +kernel
theorem dX3_compact_112 : decode cX3_compact 112 = .ok (.if_icmp .ge 48, 3) := by decide +kernel
theorem dX3_compact_115 : decode cX3_compact 115 = .ok (.aload_n 0, 1) := by decide +kernel
theorem dX3_compact_116 : decode cX3_compact 116 = .ok (.getfield 32, 3) := by decide +kernel
theorem dX3_compact_119 : decode cX3_compact 119 = .ok (.bipush 120, 2) := by decide +kernel
theorem dX3_compact_121 : decode cX3_compact 121 = .ok (.iload_n 3, 1) := by decide +kernel
theorem dX3_compact_122 : decode cX3_compact 122 = .ok (.imul, 1) := by decide +kernel
theorem dX3_compact_123 : decode cX3_compact 123 = .ok (.iload_n 2, 1) := by decide +kernel
theorem dX3_compact_124 : decode cX3_compact 124 = .ok (.iadd, 1) := by decide +kernel
theorem dX3_compact_125 : decode cX3_compact 125 = .ok (.aload_n 0, 1) := by decide +kernel
theorem dX3_compact_126 : decode cX3_compact 126 = .ok (.getfield 32, 3) := by decide +kernel
theorem dX3_compact_129 : decode cX3_compact 129 = .ok (.bipush 120, 2) := by decide +kernel
theorem dX3_compact_131 : decode cX3_compact 131 = .ok (.iload_n 3, 1) := by decide +kernel
theorem dX3_compact_132 : decode cX3_compact 132 = .ok (.imul, 1) := by decide +kernel
theorem dX3_compact_133 : decode cX3_compact 133 = .ok (.iload_n 2, 1) := by decide +kernel
theorem dX3_compact_134 : decode cX3_compact 134 = .ok (.iadd, 1) := by decide +kernel
theorem dX3_compact_135 : decode cX3_compact 135 = .ok (.baload, 1) := by decide +kernel
theorem dX3_compact_136 : decode cX3_compact 136 = .ok (.ifCond .eq 16, 3) := by decide +kernel
theorem dX3_compact_139 : decode cX3_compact 139 = .ok (.aload_n 0, 1) := by decide +kernel
theorem dX3_compact_140 : decode cX3_compact 140 = .ok (.getfield 28, 3) := by decide +kernel
theorem dX3_compact_143 : decode cX3_compact 143 = .ok (.iload_n 2, 1) := by decide +kernel
theorem dX3_compact_144 : decode cX3_compact 144 = .ok (.baload, 1) := by decide +kernel
theorem dX3_compact_145 : decode cX3_compact 145 = .ok (.ifCond .ne 7, 3) := by decide +kernel
theorem dX3_compact_148 : decode cX3_compact 148 = .ok (.iconst 1, 1) := by decide +kernel
theorem dX3_compact_149 : decode cX3_compact 149 = .ok (.goto 4, 3) := by decide +kernel
theorem dX3_compact_152 : decode cX3_compact 152 = .ok (.iconst 0, 1) := by decide +kernel
theorem dX3_compact_153 : decode cX3_compact 153 = .ok (.bastore, 1) := by decide +kernel
theorem dX3_compact_154 : decode cX3_compact 154 = .ok (.iinc 3 1, 3) := by decide +kernel
theorem dX3_compact_157 : decode cX3_compact 157 = .ok (.goto (-48), 3) := by decide +kernel
theorem dX3_compact_160 : decode cX3_compact 160 = .ok (.iinc 2 1, 3) := by decide +kernel
theorem dX3_compact_163 : decode cX3_compact 163 = .ok (.goto (-93), 3) := by decide +kernel
theorem dX3_compact_166 : decode cX3_compact 166 = .ok (.iload_n 1, 1) := by decide +kernel
theorem dX3_compact_167 : decode cX3_compact 167 = .ok (.ireturn, 1) := by decide +kernel
theorem dX3_about_0 : decode cX3_about 0 = .ok (.aload_n 0, 1) := by decide +kernel
theorem dX3_about_1 : decode cX3_about 1 = .ok (.aload_n 0, 1) := by decide +kernel
theorem dX3_about_2 : decode cX3_about 2 = .ok (.iload_n 1, 1) := by decide +kernel
theorem dX3_about_3 : decode cX3_about 3 = .ok (.iload_n 2, 1) := by decide +kernel
theorem dX3_about_4 : decode cX3_about 4 = .ok (.invokevirtual 75, 3) := by decide +kernel
theorem dX3_about_7 : decode cX3_about 7 = .ok (.iload_n 3, 1) := by decide +kernel
theorem dX3_about_8 : decode cX3_about 8 = .ok (.iconst 0, 1) := by decide +kernel
theorem dX3_about_9 : decode cX3_about 9 = .ok (.iconst 3, 1) := by decide +kernel
theorem dX3_about_10 : decode cX3_about 10 = .ok (.invokestatic 64, 3) := by decide +kernel
theorem dX3_about_13 : decode cX3_about 13 = .ok (.iconst 1, 1) := by decide +kernel
theorem dX3_about_14 : decode cX3_about 14 = .ok (.invokevirtual 68, 3) := by decide +kernel
theorem dX3_about_17 : decode cX3_about 17 = .ok (.ifCond .ne 5, 3) := by decide +kernel
theorem dX3_about_20 : decode cX3_about 20 = .ok (.iconst 0, 1) := by decide +kernel
theorem dX3_about_21 : decode cX3_about 21 = .ok (.ireturn, 1) := by decide +kernel
theorem dX3_about_22 : decode cX3_about 22 = .ok (.iload_n 3, 1) := by decide +kernel
theorem dX3_about_23 : decode cX3_about 23 = .ok (.ifCond .ne 12, 3) := by decide +kernel
theorem dX3_about_26 : decode cX3_about 26 = .ok (.aload_n 0, 1) := by decide +kernel
theorem dX3_about_27 : decode cX3_about 27 = .ok (.getfield 7, 3) := by decide +kernel
theorem dX3_about_30 : decode cX3_about 30 = .ok (.iload_n 2, 1) := by decide +kernel
theorem dX3_about_31 : decode cX3_about 31 = .ok (.iaload, 1) := by decide +kernel
theorem dX3_about_32 : decode cX3_about 32 = .ok (.goto 37, 3) := by decide +kernel
theorem dX3_about_35 : decode cX3_about 35 = .ok (.iload_n 3, 1) := by decide +kernel
theorem dX3_about_36 : decode cX3_about 36 = .ok (.iconst 1, 1) := by decide +kernel
theorem dX3_about_37 : decode cX3_about 37 = .ok (.if_icmp .ne 12, 3) := by decide +kernel
theorem dX3_about_40 : decode cX3_about 40 = .ok (.aload_n 0, 1) := by decide +kernel
theorem dX3_about_41 : decode cX3_about 41 = .ok (.getfield 13, 3) := by decide +kernel
theorem dX3_about_44 : decode cX3_about 44 = .ok (.iload_n 2, 1) := by decide +kernel
theorem dX3_about_45 : decode cX3_about 45 = .ok (.iaload, 1) := by decide +kernel
theorem dX3_about_46 : decode cX3_about 46 = .ok (.goto 23, 3) := by decide +kernel
theorem dX3_about_49 : decode cX3_about 49 = .ok (.iload_n 3, 1) := by decide +kernel
theorem dX3_about_50 : decode cX3_about 50 = .ok (.iconst 2, 1) := by decide +kernel
theorem dX3_about_51 : decode cX3_about 51 = .ok (.if_icmp .ne 12, 3) := by decide +kernel
theorem dX3_about_54 : decode cX3_about 54 = .ok (.aload_n 0, 1) := by decide +kernel
theorem dX3_about_55 : decode cX3_about 55 = .ok (.getfield 16, 3) := by decide +kernel
theorem dX3_about_58 : decode cX3_about 58 = .ok (.iload_n 2, 1) := by decide +kernel
theorem dX3_about_59 : decode cX3_about 59 = .ok (.iaload, 1) := by decide +kernel
theorem dX3_about_60 : decode cX3_about 60 = .ok (.goto 9, 3) := by decide +kernel
theorem dX3_about_63 : decode cX3_about 63 = .ok (.aload_n 0, 1) := by decide +kernel
theorem dX3_about_64 : decode cX3_about 64 = .ok (.getfield 22, 3) := by decide +kernel
theorem dX3_about_67 : decode cX3_about 67 = .ok (.iload_n 2, 1) := by decide +kernel
theorem dX3_about_68 : decode cX3_about 68 = .ok (.iaload, 1) := by decide +kernel
theorem dX3_about_69 : decode cX3_about 69 = .ok (.ireturn, 1) := by decide +kernel
theorem dX3_count_0 : decode cX3_count 0 = .ok (.aload_n 0, 1) := by decide +kernel
theorem dX3_count_1 : decode cX3_count 1 = .ok (.iload_n 1, 1) := by decide +kernel
theorem dX3_count_2 : decode cX3_count 2 = .ok (.iconst 0, 1) := by decide +kernel
theorem dX3_count_3 : decode cX3_count 3 = .ok (.iconst 2, 1) := by decide +kernel
theorem dX3_count_4 : decode cX3_count 4 = .ok (.invokestatic 64, 3) := by decide +kernel
theorem dX3_count_7 : decode cX3_count 7 = .ok (.iconst 1, 1) := by decide +kernel
theorem dX3_count_8 : decode cX3_count 8 = .ok (.iconst 1, 1) := by decide +kernel
theorem dX3_count_9 : decode cX3_count 9 = .ok (.invokevirtual 68, 3) := by decide +kernel
theorem dX3_count_12 : decode cX3_count 12 = .ok (.ifCond .ne 5, 3) := by decide +kernel
theorem dX3_count_15 : decode cX3_count 15 = .ok (.iconst 0, 1) := by decide +kernel
theorem dX3_count_16 : decode cX3_count 16 = .ok (.ireturn, 1) := by decide +kernel
theorem dX3_count_17 : decode cX3_count 17 = .ok (.iconst 0, 1) := by decide +kernel
theorem dX3_count_18 : decode cX3_count 18 = .ok (.istore_n 2, 1) := by decide +kernel
theorem dX3_count_19 : decode cX3_count 19 = .ok (.iconst 0, 1) := by decide +kernel
theorem dX3_count_20 : decode cX3_count 20 = .ok (.istore_n 3, 1) := by decide +kernel
theorem dX3_count_21 : decode cX3_count 21 = .ok (.iload_n 3, 1) := by decide +kernel
theorem dX3_count_22 : decode cX3_count 22 = .ok (.aload_n 0, 1) := by decide +kernel
theorem dX3_count_23 : decode cX3_count 23 = .ok (.getfield 58, 3) := by decide +kernel
theorem dX3_count_26 : decode cX3_count 26 = .ok (.if_icmp .ge 98, 3) := by decide +kernel
theorem dX3_count_29 : decode cX3_count 29 = .ok (.iconst 0, 1) := by decide +kernel
theorem dX3_count_30 : decode cX3_count 30 = .ok (.istore 4, 2) := by decide +kernel
theorem dX3_count_32 : decode cX3_count 32 = .ok (.iconst 0, 1) := by decide +kernel
theorem dX3_count_33 : decode cX3_count 33 = .ok (.istore 5, 2) := by decide +kernel
theorem dX3_count_35 : decode cX3_count 35 = .ok (.iload 5, 2) := by decide +kernel
theorem dX3_count_37 : decode cX3_count 37 = .ok (.bipush 6, 2) := by decide +kernel
theorem dX3_count_39 : decode cX3_count 39 = .ok (.if_icmp .ge 35, 3) := by decide +kernel
theorem dX3_count_42 : decode cX3_count 42 = .ok (.aload_n 0, 1) := by decide +kernel
theorem dX3_count_43 : decode cX3_count 43 = .ok (.getfield 32, 3) := by decide +kernel
theorem dX3_count_46 : decode cX3_count 46 = .ok (.bipush 120, 2) := by decide +kernel
theorem dX3_count_48 : decode cX3_count 48 = .ok (.iload 5, 2) := by decide +kernel
theorem dX3_count_50 : decode cX3_count 50 = .ok (.imul, 1) := by decide +kernel
theorem dX3_count_51 : decode cX3_count 51 = .ok (.iload_n 3, 1) := by decide +kernel
theorem dX3_count_52 : decode cX3_count 52 = .ok (.iadd, 1) := by decide +kernel
theorem dX3_count_53 : decode cX3_count 53 = .ok (.baload, 1) := by decide +kernel
theorem dX3_count_54 : decode cX3_count 54 = .ok (.ifCond .eq 10, 3) := by decide +kernel
theorem dX3_count_57 : decode cX3_count 57 = .ok (.iload 4, 2) := by decide +kernel
theorem dX3_count_59 : decode cX3_count 59 = .ok (.iconst 1, 1) := by decide +kernel
theorem dX3_count_60 : decode cX3_count 60 = .ok (.iadd, 1) := by decide +kernel
theorem dX3_count_61 : decode cX3_count 61 = .ok (.goto 5, 3) := by decide +kernel
theorem dX3_count_64 : decode cX3_count 64 = .ok (.iload 4, 2) := by decide +kernel
theorem dX3_count_66 : decode cX3_count 66 = .ok (.istore 4, 2) := by decide +kernel
theorem dX3_count_68 : decode cX3_count 68 = .ok (.iinc 5 1, 3) := by decide +kernel
theorem dX3_count_71 : decode cX3_count 71 = .ok (.goto (-36), 3) := by decide +kernel
theorem dX3_count_74 : decode cX3_count 74 = .ok (.iload_n 1, 1) := by decide +kernel
theorem dX3_count_75 : decode cX3_count 75 = .ok (.iconst 1, 1) := by decide +kernel
theorem dX3_count_76 : decode cX3_count 76 = .ok (.if_icmp .ne 22, 3) := by decide +kernel
theorem dX3_count_79 : decode cX3_count 79 = .ok (.aload_n 0, 1) := by decide +kernel
theorem dX3_count_80 : decode cX3_count 80 = .ok (.getfield 28, 3) := by decide +kernel
theorem dX3_count_83 : decode cX3_count 83 = .ok (.iload_n 3, 1) := by decide +kernel
theorem dX3_count_84 : decode cX3_count 84 = .ok (.baload, 1) := by decide +kernel
theorem dX3_count_85 : decode cX3_count 85 = .ok (.ifCond .eq 9, 3) := by decide +kernel
theorem dX3_count_88 : decode cX3_count 88 = .ok (.iload_n 2, 1) := by decide +kernel
theorem dX3_count_89 : decode cX3_count 89 = .ok (.iconst 1, 1) := by decide +kernel
theorem dX3_count_90 : decode cX3_count 90 = .ok (.iadd, 1) := by decide +kernel
theorem dX3_count_91 : decode cX3_count 91 = .ok (.goto 26, 3) := by decide +kernel
theorem dX3_count_94 : decode cX3_count 94 = .ok (.iload_n 2, 1) := by decide +kernel
theorem dX3_count_95 : decode cX3_count 95 = .ok (.goto 22, 3) := by decide +kernel
theorem dX3_count_98 : decode cX3_count 98 = .ok (.iload 4, 2) := by decide +kernel
theorem dX3_count_100 : decode cX3_count 100 = .ok (.ifCond .le 16, 3) := by decide +kernel
theorem dX3_count_103 : decode cX3_count 103 = .ok (.iload 4, 2) := by decide +kernel
theorem dX3_count_105 : decode cX3_count 105 = .ok (.bipush 6, 2) := by decide +kernel
theorem dX3_count_107 : decode cX3_count 107 = .ok (.if_icmp .ge 9, 3) := by decide +kernel
theorem dX3_count_110 : decode cX3_count 110 = .ok (.iload_n 2, 1) := by decide +kernel
theorem dX3_count_111 : decode cX3_count 111 = .ok (.iconst 1, 1) := by decide +kernel
theorem dX3_count_112 : decode cX3_count 112 = .ok (.iadd, 1) := by decide +kernel
theorem dX3_count_113 : decode cX3_count 113 = .ok (.goto 4, 3) := by decide +kernel
theorem dX3_count_116 : decode cX3_count 116 = .ok (.iload_n 2, 1) := by decide +kernel
theorem dX3_count_117 : decode cX3_count 117 = .ok (.istore_n 2, 1) := by decide +kernel
theorem dX3_count_118 : decode cX3_count 118 = .ok (.iinc 3 1, 3) := by decide +kernel
theorem dX3_count_121 : decode cX3_count 121 = .ok (.goto (-100), 3) := by decide +kernel
theorem dX3_count_124 : decode cX3_count 124 = .ok (.iload_n 1, 1) := by decide +kernel
theorem dX3_count_125 : decode cX3_count 125 = .ok (.ifCond .ne 10, 3) := by decide +kernel
theorem dX3_count_128 : decode cX3_count 128 = .ok (.aload_n 0, 1) := by decide +kernel
theorem dX3_count_129 : decode cX3_count 129 = .ok (.getfield 58, 3) := by decide +kernel
theorem dX3_count_132 : decode cX3_count 132 = .ok (.goto 4, 3) := by decide +kernel
theorem dX3_count_135 : decode cX3_count 135 = .ok (.iload_n 2, 1) := by decide +kernel
theorem dX3_count_136 : decode cX3_count 136 = .ok (.ireturn, 1) := by decide +kernel
theorem dL_tell_0 : decode cL_tell 0 = .ok (.aload 5, 2) := by decide +kernel
theorem dL_tell_2 : decode cL_tell 2 = .ok (.iconst 0, 1) := by decide +kernel
theorem dL_tell_3 : decode cL_tell 3 = .ok (.aload_n 0, 1) := by decide +kernel
theorem dL_tell_4 : decode cL_tell 4 = .ok (.iload_n 1, 1) := by decide +kernel
theorem dL_tell_5 : decode cL_tell 5 = .ok (.iload_n 2, 1) := by decide +kernel
theorem dL_tell_6 : decode cL_tell 6 = .ok (.iload_n 3, 1) := by decide +kernel
theorem dL_tell_7 : decode cL_tell 7 = .ok (.iload 4, 2) := by decide +kernel
theorem dL_tell_9 : decode cL_tell 9 = .ok (.invokevirtual 7, 3) := by decide +kernel
theorem dL_tell_12 : decode cL_tell 12 = .ok (.i2l, 1) := by decide +kernel
theorem dL_tell_13 : decode cL_tell 13 = .ok (.lastore, 1) := by decide +kernel
theorem dL_tell_14 : decode cL_tell 14 = .ok (.goto 15, 3) := by decide +kernel
theorem dL_tell_17 : decode cL_tell 17 = .ok (.astore 6, 2) := by decide +kernel
theorem dL_tell_19 : decode cL_tell 19 = .ok (.iconst 1, 1) := by decide +kernel
theorem dL_tell_20 : decode cL_tell 20 = .ok (.ireturn, 1) := by decide +kernel
theorem dL_tell_21 : decode cL_tell 21 = .ok (.astore 6, 2) := by decide +kernel
theorem dL_tell_23 : decode cL_tell 23 = .ok (.iconst 2, 1) := by decide +kernel
theorem dL_tell_24 : decode cL_tell 24 = .ok (.ireturn, 1) := by decide +kernel
theorem dL_tell_25 : decode cL_tell 25 = .ok (.astore 6, 2) := by decide +kernel
theorem dL_tell_27 : decode cL_tell 27 = .ok (.iconst 3, 1) := by decide +kernel
theorem dL_tell_28 : decode cL_tell 28 = .ok (.ireturn, 1) := by decide +kernel
theorem dL_tell_29 : decode cL_tell 29 = .ok (.iconst 0, 1) := by decide +kernel
theorem dL_tell_30 : decode cL_tell 30 = .ok (.ireturn, 1) := by decide +kernel
theorem dL_insert_0 : decode cL_insert 0 = .ok (.aload 5, 2) := by decide +kernel
theorem dL_insert_2 : decode cL_insert 2 = .ok (.iconst 0, 1) := by decide +kernel
theorem dL_insert_3 : decode cL_insert 3 = .ok (.aload_n 0, 1) := by decide +kernel
theorem dL_insert_4 : decode cL_insert 4 = .ok (.iload_n 1, 1) := by decide +kernel
theorem dL_insert_5 : decode cL_insert 5 = .ok (.iload_n 2, 1) := by decide +kernel
theorem dL_insert_6 : decode cL_insert 6 = .ok (.iload_n 3, 1) := by decide +kernel
theorem dL_insert_7 : decode cL_insert 7 = .ok (.iload 4, 2) := by decide +kernel
theorem dL_insert_9 : decode cL_insert 9 = .ok (.invokevirtual 19, 3) := by decide +kernel
theorem dL_insert_12 : decode cL_insert 12 = .ok (.i2l, 1) := by decide +kernel
theorem dL_insert_13 : decode cL_insert 13 = .ok (.lastore, 1) := by decide +kernel
theorem dL_insert_14 : decode cL_insert 14 = .ok (.goto 15, 3) := by decide +kernel
theorem dL_insert_17 : decode cL_insert 17 = .ok (.astore 6, 2) := by decide +kernel
theorem dL_insert_19 : decode cL_insert 19 = .ok (.iconst 1, 1) := by decide +kernel
theorem dL_insert_20 : decode cL_insert 20 = .ok (.ireturn, 1) := by decide +kernel
theorem dL_insert_21 : decode cL_insert 21 = .ok (.astore 6, 2) := by decide +kernel
theorem dL_insert_23 : decode cL_insert 23 = .ok (.iconst 2, 1) := by decide +kernel
theorem dL_insert_24 : decode cL_insert 24 = .ok (.ireturn, 1) := by decide +kernel
theorem dL_insert_25 : decode cL_insert 25 = .ok (.astore 6, 2) := by decide +kernel
theorem dL_insert_27 : decode cL_insert 27 = .ok (.iconst 3, 1) := by decide +kernel
theorem dL_insert_28 : decode cL_insert 28 = .ok (.ireturn, 1) := by decide +kernel
theorem dL_insert_29 : decode cL_insert 29 = .ok (.iconst 0, 1) := by decide +kernel
theorem dL_insert_30 : decode cL_insert 30 = .ok (.ireturn, 1) := by decide +kernel
theorem dL_remove_0 : decode cL_remove 0 = .ok (.aload_n 3, 1) := by decide +kernel
theorem dL_remove_1 : decode cL_remove 1 = .ok (.iconst 0, 1) := by decide +kernel
theorem dL_remove_2 : decode cL_remove 2 = .ok (.aload_n 0, 1) := by decide +kernel
theorem dL_remove_3 : decode cL_remove 3 = .ok (.iload_n 1, 1) := by decide +kernel
theorem dL_remove_4 : decode cL_remove 4 = .ok (.iload_n 2, 1) := by decide +kernel
theorem dL_remove_5 : decode cL_remove 5 = .ok (.invokevirtual 22, 3) := by decide +kernel
theorem dL_remove_8 : decode cL_remove 8 = .ok (.i2l, 1) := by decide +kernel
theorem dL_remove_9 : decode cL_remove 9 = .ok (.lastore, 1) := by decide +kernel
theorem dL_remove_10 : decode cL_remove 10 = .ok (.goto 15, 3) := by decide +kernel
theorem dL_remove_13 : decode cL_remove 13 = .ok (.astore 4, 2) := by decide +kernel
theorem dL_remove_15 : decode cL_remove 15 = .ok (.iconst 1, 1) := by decide +kernel
theorem dL_remove_16 : decode cL_remove 16 = .ok (.ireturn, 1) := by decide +kernel
theorem dL_remove_17 : decode cL_remove 17 = .ok (.astore 4, 2) := by decide +kernel
theorem dL_remove_19 : decode cL_remove 19 = .ok (.iconst 2, 1) := by decide +kernel
theorem dL_remove_20 : decode cL_remove 20 = .ok (.ireturn, 1) := by decide +kernel
theorem dL_remove_21 : decode cL_remove 21 = .ok (.astore 4, 2) := by decide +kernel
theorem dL_remove_23 : decode cL_remove 23 = .ok (.iconst 3, 1) := by decide +kernel
theorem dL_remove_24 : decode cL_remove 24 = .ok (.ireturn, 1) := by decide +kernel
theorem dL_remove_25 : decode cL_remove 25 = .ok (.iconst 0, 1) := by decide +kernel
theorem dL_remove_26 : decode cL_remove 26 = .ok (.ireturn, 1) := by decide +kernel
theorem dL_relate_0 : decode cL_relate 0 = .ok (.aload 4, 2) := by decide +kernel
theorem dL_relate_2 : decode cL_relate 2 = .ok (.iconst 0, 1) := by decide +kernel
theorem dL_relate_3 : decode cL_relate 3 = .ok (.aload_n 0, 1) := by decide +kernel
theorem dL_relate_4 : decode cL_relate 4 = .ok (.iload_n 1, 1) := by decide +kernel
theorem dL_relate_5 : decode cL_relate 5 = .ok (.iload_n 2, 1) := by decide +kernel
theorem dL_relate_6 : decode cL_relate 6 = .ok (.iload_n 3, 1) := by decide +kernel
theorem dL_relate_7 : decode cL_relate 7 = .ok (.invokevirtual 26, 3) := by decide +kernel
theorem dL_relate_10 : decode cL_relate 10 = .ok (.i2l, 1) := by decide +kernel
theorem dL_relate_11 : decode cL_relate 11 = .ok (.lastore, 1) := by decide +kernel
theorem dL_relate_12 : decode cL_relate 12 = .ok (.goto 15, 3) := by decide +kernel
theorem dL_relate_15 : decode cL_relate 15 = .ok (.astore 5, 2) := by decide +kernel
theorem dL_relate_17 : decode cL_relate 17 = .ok (.iconst 1, 1) := by decide +kernel
theorem dL_relate_18 : decode cL_relate 18 = .ok (.ireturn, 1) := by decide +kernel
theorem dL_relate_19 : decode cL_relate 19 = .ok (.astore 5, 2) := by decide +kernel
theorem dL_relate_21 : decode cL_relate 21 = .ok (.iconst 2, 1) := by decide +kernel
theorem dL_relate_22 : decode cL_relate 22 = .ok (.ireturn, 1) := by decide +kernel
theorem dL_relate_23 : decode cL_relate 23 = .ok (.astore 5, 2) := by decide +kernel
theorem dL_relate_25 : decode cL_relate 25 = .ok (.iconst 3, 1) := by decide +kernel
theorem dL_relate_26 : decode cL_relate 26 = .ok (.ireturn, 1) := by decide +kernel
theorem dL_relate_27 : decode cL_relate 27 = .ok (.iconst 0, 1) := by decide +kernel
theorem dL_relate_28 : decode cL_relate 28 = .ok (.ireturn, 1) := by decide +kernel
theorem dL_drop_0 : decode cL_drop 0 = .ok (.aload_n 3, 1) := by decide +kernel
theorem dL_drop_1 : decode cL_drop 1 = .ok (.iconst 0, 1) := by decide +kernel
theorem dL_drop_2 : decode cL_drop 2 = .ok (.aload_n 0, 1) := by decide +kernel
theorem dL_drop_3 : decode cL_drop 3 = .ok (.iload_n 1, 1) := by decide +kernel
theorem dL_drop_4 : decode cL_drop 4 = .ok (.iload_n 2, 1) := by decide +kernel
theorem dL_drop_5 : decode cL_drop 5 = .ok (.invokevirtual 30, 3) := by decide +kernel
theorem dL_drop_8 : decode cL_drop 8 = .ok (.i2l, 1) := by decide +kernel
theorem dL_drop_9 : decode cL_drop 9 = .ok (.lastore, 1) := by decide +kernel
theorem dL_drop_10 : decode cL_drop 10 = .ok (.goto 15, 3) := by decide +kernel
theorem dL_drop_13 : decode cL_drop 13 = .ok (.astore 4, 2) := by decide +kernel
theorem dL_drop_15 : decode cL_drop 15 = .ok (.iconst 1, 1) := by decide +kernel
theorem dL_drop_16 : decode cL_drop 16 = .ok (.ireturn, 1) := by decide +kernel
theorem dL_drop_17 : decode cL_drop 17 = .ok (.astore 4, 2) := by decide +kernel
theorem dL_drop_19 : decode cL_drop 19 = .ok (.iconst 2, 1) := by decide +kernel
theorem dL_drop_20 : decode cL_drop 20 = .ok (.ireturn, 1) := by decide +kernel
theorem dL_drop_21 : decode cL_drop 21 = .ok (.astore 4, 2) := by decide +kernel
theorem dL_drop_23 : decode cL_drop 23 = .ok (.iconst 3, 1) := by decide +kernel
theorem dL_drop_24 : decode cL_drop 24 = .ok (.ireturn, 1) := by decide +kernel
theorem dL_drop_25 : decode cL_drop 25 = .ok (.iconst 0, 1) := by decide +kernel
theorem dL_drop_26 : decode cL_drop 26 = .ok (.ireturn, 1) := by decide +kernel
theorem dL_join_0 : decode cL_join 0 = .ok (.aload_n 3, 1) := by decide +kernel
theorem dL_join_1 : decode cL_join 1 = .ok (.iconst 0, 1) := by decide +kernel
