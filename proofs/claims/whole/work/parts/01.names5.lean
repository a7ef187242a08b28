/-! decode rows, made by a program of mine -/
theorem dX4_seat_14 : decode cX4_seat 14 = .ok (.ifCond .lt 8, 3) := by decide +kernel
theorem dX4_seat_17 : decode cX4_seat 17 = .ok (.iload_n 2, 1) := by decide +kernel
theorem dX4_seat_18 : decode cX4_seat 18 = .ok (.iconst 5, 1) := by decide +kernel
theorem dX4_seat_19 : decode cX4_seat 19 = .ok (.if_icmp .le 5, 3) := by decide +kernel
theorem dX4_seat_22 : decode cX4_seat 22 = .ok (.iconst (-1), 1) := by decide +kernel
theorem dX4_seat_23 : decode cX4_seat 23 = .ok (.ireturn, 1) := by decide +kernel
theorem dX4_seat_24 : decode cX4_seat 24 = .ok (.iload_n 2, 1) := by decide +kernel
theorem dX4_seat_25 : decode cX4_seat 25 = .ok (.ifCond .ne 12, 3) := by decide +kernel
theorem dX4_seat_28 : decode cX4_seat 28 = .ok (.aload_n 0, 1) := by decide +kernel
theorem dX4_seat_29 : decode cX4_seat 29 = .ok (.getfield 38, 3) := by decide +kernel
theorem dX4_seat_32 : decode cX4_seat 32 = .ok (.iload_n 1, 1) := by decide +kernel
theorem dX4_seat_33 : decode cX4_seat 33 = .ok (.iaload, 1) := by decide +kernel
theorem dX4_seat_34 : decode cX4_seat 34 = .ok (.goto 65, 3) := by decide +kernel
theorem dX4_seat_37 : decode cX4_seat 37 = .ok (.iload_n 2, 1) := by decide +kernel
theorem dX4_seat_38 : decode cX4_seat 38 = .ok (.iconst 1, 1) := by decide +kernel
theorem dX4_seat_39 : decode cX4_seat 39 = .ok (.if_icmp .ne 12, 3) := by decide +kernel
theorem dX4_seat_42 : decode cX4_seat 42 = .ok (.aload_n 0, 1) := by decide +kernel
theorem dX4_seat_43 : decode cX4_seat 43 = .ok (.getfield 41, 3) := by decide +kernel
theorem dX4_seat_46 : decode cX4_seat 46 = .ok (.iload_n 1, 1) := by decide +kernel
theorem dX4_seat_47 : decode cX4_seat 47 = .ok (.iaload, 1) := by decide +kernel
theorem dX4_seat_48 : decode cX4_seat 48 = .ok (.goto 51, 3) := by decide +kernel
theorem dX4_seat_51 : decode cX4_seat 51 = .ok (.iload_n 2, 1) := by decide +kernel
theorem dX4_seat_52 : decode cX4_seat 52 = .ok (.iconst 2, 1) := by decide +kernel
theorem dX4_seat_53 : decode cX4_seat 53 = .ok (.if_icmp .ne 12, 3) := by decide +kernel
theorem dX4_seat_56 : decode cX4_seat 56 = .ok (.aload_n 0, 1) := by decide +kernel
theorem dX4_seat_57 : decode cX4_seat 57 = .ok (.getfield 35, 3) := by decide +kernel
theorem dX4_seat_60 : decode cX4_seat 60 = .ok (.iload_n 1, 1) := by decide +kernel
theorem dX4_seat_61 : decode cX4_seat 61 = .ok (.iaload, 1) := by decide +kernel
theorem dX4_seat_62 : decode cX4_seat 62 = .ok (.goto 37, 3) := by decide +kernel
theorem dX4_seat_65 : decode cX4_seat 65 = .ok (.iload_n 2, 1) := by decide +kernel
theorem dX4_seat_66 : decode cX4_seat 66 = .ok (.iconst 3, 1) := by decide +kernel
theorem dX4_seat_67 : decode cX4_seat 67 = .ok (.if_icmp .ne 12, 3) := by decide +kernel
theorem dX4_seat_70 : decode cX4_seat 70 = .ok (.aload_n 0, 1) := by decide +kernel
theorem dX4_seat_71 : decode cX4_seat 71 = .ok (.getfield 44, 3) := by decide +kernel
theorem dX4_seat_74 : decode cX4_seat 74 = .ok (.iload_n 1, 1) := by decide +kernel
theorem dX4_seat_75 : decode cX4_seat 75 = .ok (.iaload, 1) := by decide +kernel
theorem dX4_seat_76 : decode cX4_seat 76 = .ok (.goto 23, 3) := by decide +kernel
theorem dX4_seat_79 : decode cX4_seat 79 = .ok (.iload_n 2, 1) := by decide +kernel
theorem dX4_seat_80 : decode cX4_seat 80 = .ok (.iconst 4, 1) := by decide +kernel
theorem dX4_seat_81 : decode cX4_seat 81 = .ok (.if_icmp .ne 12, 3) := by decide +kernel
theorem dX4_seat_84 : decode cX4_seat 84 = .ok (.aload_n 0, 1) := by decide +kernel
theorem dX4_seat_85 : decode cX4_seat 85 = .ok (.getfield 50, 3) := by decide +kernel
theorem dX4_seat_88 : decode cX4_seat 88 = .ok (.iload_n 1, 1) := by decide +kernel
theorem dX4_seat_89 : decode cX4_seat 89 = .ok (.iaload, 1) := by decide +kernel
theorem dX4_seat_90 : decode cX4_seat 90 = .ok (.goto 9, 3) := by decide +kernel
theorem dX4_seat_93 : decode cX4_seat 93 = .ok (.aload_n 0, 1) := by decide +kernel
theorem dX4_seat_94 : decode cX4_seat 94 = .ok (.getfield 19, 3) := by decide +kernel
theorem dX4_seat_97 : decode cX4_seat 97 = .ok (.iload_n 1, 1) := by decide +kernel
theorem dX4_seat_98 : decode cX4_seat 98 = .ok (.iaload, 1) := by decide +kernel
theorem dX4_seat_99 : decode cX4_seat 99 = .ok (.ireturn, 1) := by decide +kernel
theorem dX4_held_0 : decode cX4_held 0 = .ok (.aload_n 0, 1) := by decide +kernel
theorem dX4_held_1 : decode cX4_held 1 = .ok (.iconst 0, 1) := by decide +kernel
theorem dX4_held_2 : decode cX4_held 2 = .ok (.putfield 59, 3) := by decide +kernel
theorem dX4_held_5 : decode cX4_held 5 = .ok (.aload_n 0, 1) := by decide +kernel
theorem dX4_held_6 : decode cX4_held 6 = .ok (.iload_n 1, 1) := by decide +kernel
theorem dX4_held_7 : decode cX4_held 7 = .ok (.invokevirtual 73, 3) := by decide +kernel
theorem dX4_held_10 : decode cX4_held 10 = .ok (.ifCond .eq 16, 3) := by decide +kernel
theorem dX4_held_13 : decode cX4_held 13 = .ok (.iload_n 2, 1) := by decide +kernel
theorem dX4_held_14 : decode cX4_held 14 = .ok (.ifCond .lt 12, 3) := by decide +kernel
theorem dX4_held_17 : decode cX4_held 17 = .ok (.iload_n 3, 1) := by decide +kernel
theorem dX4_held_18 : decode cX4_held 18 = .ok (.ifCond .lt 8, 3) := by decide +kernel
theorem dX4_held_21 : decode cX4_held 21 = .ok (.iload_n 3, 1) := by decide +kernel
theorem dX4_held_22 : decode cX4_held 22 = .ok (.iconst 2, 1) := by decide +kernel
theorem dX4_held_23 : decode cX4_held 23 = .ok (.if_icmp .le 5, 3) := by decide +kernel
theorem dX4_held_26 : decode cX4_held 26 = .ok (.iconst (-1), 1) := by decide +kernel
theorem dX4_held_27 : decode cX4_held 27 = .ok (.ireturn, 1) := by decide +kernel
theorem dX4_held_28 : decode cX4_held 28 = .ok (.iload_n 2, 1) := by decide +kernel
theorem dX4_held_29 : decode cX4_held 29 = .ok (.aload_n 0, 1) := by decide +kernel
theorem dX4_held_30 : decode cX4_held 30 = .ok (.getfield 7, 3) := by decide +kernel
theorem dX4_held_33 : decode cX4_held 33 = .ok (.iload_n 1, 1) := by decide +kernel
theorem dX4_held_34 : decode cX4_held 34 = .ok (.iaload, 1) := by decide +kernel
theorem dX4_held_35 : decode cX4_held 35 = .ok (.if_icmp .lt 5, 3) := by decide +kernel
theorem dX4_held_38 : decode cX4_held 38 = .ok (.iconst (-1), 1) := by decide +kernel
theorem dX4_held_39 : decode cX4_held 39 = .ok (.ireturn, 1) := by decide +kernel
theorem dX4_held_40 : decode cX4_held 40 = .ok (.iload_n 3, 1) := by decide +kernel
theorem dX4_held_41 : decode cX4_held 41 = .ok (.iconst 2, 1) := by decide +kernel
theorem dX4_held_42 : decode cX4_held 42 = .ok (.if_icmp .ge 27, 3) := by decide +kernel
theorem dX4_held_45 : decode cX4_held 45 = .ok (.iload_n 3, 1) := by decide +kernel
theorem dX4_held_46 : decode cX4_held 46 = .ok (.ifCond .ne 16, 3) := by decide +kernel
theorem dX4_held_49 : decode cX4_held 49 = .ok (.aload_n 0, 1) := by decide +kernel
theorem dX4_held_50 : decode cX4_held 50 = .ok (.getfield 13, 3) := by decide +kernel
theorem dX4_held_53 : decode cX4_held 53 = .ok (.iconst 3, 1) := by decide +kernel
theorem dX4_held_54 : decode cX4_held 54 = .ok (.iload_n 1, 1) := by decide +kernel
theorem dX4_held_55 : decode cX4_held 55 = .ok (.imul, 1) := by decide +kernel
theorem dX4_held_56 : decode cX4_held 56 = .ok (.iload_n 2, 1) := by decide +kernel
theorem dX4_held_57 : decode cX4_held 57 = .ok (.iadd, 1) := by decide +kernel
theorem dX4_held_58 : decode cX4_held 58 = .ok (.iaload, 1) := by decide +kernel
theorem dX4_held_59 : decode cX4_held 59 = .ok (.goto 9, 3) := by decide +kernel
theorem dX4_held_62 : decode cX4_held 62 = .ok (.aload_n 0, 1) := by decide +kernel
theorem dX4_held_63 : decode cX4_held 63 = .ok (.iload_n 1, 1) := by decide +kernel
theorem dX4_held_64 : decode cX4_held 64 = .ok (.iload_n 2, 1) := by decide +kernel
theorem dX4_held_65 : decode cX4_held 65 = .ok (.invokevirtual 114, 3) := by decide +kernel
theorem dX4_held_68 : decode cX4_held 68 = .ok (.ireturn, 1) := by decide +kernel
theorem dX4_held_69 : decode cX4_held 69 = .ok (.iconst (-1), 1) := by decide +kernel
theorem dX4_held_70 : decode cX4_held 70 = .ok (.istore 4, 2) := by decide +kernel
theorem dX4_held_72 : decode cX4_held 72 = .ok (.iconst 0, 1) := by decide +kernel
theorem dX4_held_73 : decode cX4_held 73 = .ok (.istore 5, 2) := by decide +kernel
theorem dX4_held_75 : decode cX4_held 75 = .ok (.iload 5, 2) := by decide +kernel
theorem dX4_held_77 : decode cX4_held 77 = .ok (.aload_n 0, 1) := by decide +kernel
theorem dX4_held_78 : decode cX4_held 78 = .ok (.getfield 66, 3) := by decide +kernel
theorem dX4_held_81 : decode cX4_held 81 = .ok (.if_icmp .ge 145, 3) := by decide +kernel
theorem dX4_held_84 : decode cX4_held 84 = .ok (.aload_n 0, 1) := by decide +kernel
theorem dX4_held_85 : decode cX4_held 85 = .ok (.getfield 38, 3) := by decide +kernel
theorem dX4_held_88 : decode cX4_held 88 = .ok (.iload 5, 2) := by decide +kernel
theorem dX4_held_90 : decode cX4_held 90 = .ok (.iaload, 1) := by decide +kernel
theorem dX4_held_91 : decode cX4_held 91 = .ok (.iload_n 1, 1) := by decide +kernel
theorem dX4_held_92 : decode cX4_held 92 = .ok (.if_icmp .ne 128, 3) := by decide +kernel
theorem dX4_held_95 : decode cX4_held 95 = .ok (.aload_n 0, 1) := by decide +kernel
theorem dX4_held_96 : decode cX4_held 96 = .ok (.getfield 41, 3) := by decide +kernel
theorem dX4_held_99 : decode cX4_held 99 = .ok (.iload 5, 2) := by decide +kernel
theorem dX4_held_101 : decode cX4_held 101 = .ok (.iaload, 1) := by decide +kernel
theorem dX4_held_102 : decode cX4_held 102 = .ok (.iload_n 2, 1) := by decide +kernel
theorem dX4_held_103 : decode cX4_held 103 = .ok (.if_icmp .ne 117, 3) := by decide +kernel
theorem dX4_held_106 : decode cX4_held 106 = .ok (.aload_n 0, 1) := by decide +kernel
theorem dX4_held_107 : decode cX4_held 107 = .ok (.iload 5, 2) := by decide +kernel
theorem dX4_held_109 : decode cX4_held 109 = .ok (.iload_n 1, 1) := by decide +kernel
theorem dX4_held_110 : decode cX4_held 110 = .ok (.iload_n 2, 1) := by decide +kernel
theorem dX4_held_111 : decode cX4_held 111 = .ok (.invokevirtual 89, 3) := by decide +kernel
theorem dX4_held_114 : decode cX4_held 114 = .ok (.ifCond .ne 7, 3) := by decide +kernel
theorem dX4_held_117 : decode cX4_held 117 = .ok (.iconst 1, 1) := by decide +kernel
theorem dX4_held_118 : decode cX4_held 118 = .ok (.goto 4, 3) := by decide +kernel
theorem dX4_held_121 : decode cX4_held 121 = .ok (.iconst 0, 1) := by decide +kernel
theorem dX4_held_122 : decode cX4_held 122 = .ok (.istore 6, 2) := by decide +kernel
theorem dX4_held_124 : decode cX4_held 124 = .ok (.iload 4, 2) := by decide +kernel
theorem dX4_held_126 : decode cX4_held 126 = .ok (.ifCond .lt 27, 3) := by decide +kernel
theorem dX4_held_129 : decode cX4_held 129 = .ok (.aload_n 0, 1) := by decide +kernel
theorem dX4_held_130 : decode cX4_held 130 = .ok (.iload 4, 2) := by decide +kernel
theorem dX4_held_132 : decode cX4_held 132 = .ok (.ifCond .ge 7, 3) := by decide +kernel
theorem dX4_held_135 : decode cX4_held 135 = .ok (.iconst 0, 1) := by decide +kernel
theorem dX4_held_136 : decode cX4_held 136 = .ok (.goto 5, 3) := by decide +kernel
theorem dX4_held_139 : decode cX4_held 139 = .ok (.iload 4, 2) := by decide +kernel
theorem dX4_held_141 : decode cX4_held 141 = .ok (.iload_n 1, 1) := by decide +kernel
theorem dX4_held_142 : decode cX4_held 142 = .ok (.iload_n 2, 1) := by decide +kernel
theorem dX4_held_143 : decode cX4_held 143 = .ok (.invokevirtual 89, 3) := by decide +kernel
theorem dX4_held_146 : decode cX4_held 146 = .ok (.ifCond .ne 7, 3) := by decide +kernel
theorem dX4_held_149 : decode cX4_held 149 = .ok (.iconst 1, 1) := by decide +kernel
theorem dX4_held_150 : decode cX4_held 150 = .ok (.goto 4, 3) := by decide +kernel
theorem dX4_held_153 : decode cX4_held 153 = .ok (.iconst 0, 1) := by decide +kernel
theorem dX4_held_154 : decode cX4_held 154 = .ok (.istore 7, 2) := by decide +kernel
theorem dX4_held_156 : decode cX4_held 156 = .ok (.iload 4, 2) := by decide +kernel
theorem dX4_held_158 : decode cX4_held 158 = .ok (.ifCond .lt 41, 3) := by decide +kernel
theorem dX4_held_161 : decode cX4_held 161 = .ok (.iload 6, 2) := by decide +kernel
theorem dX4_held_163 : decode cX4_held 163 = .ok (.ifCond .ne 36, 3) := by decide +kernel
theorem dX4_held_166 : decode cX4_held 166 = .ok (.iload 7, 2) := by decide +kernel
theorem dX4_held_168 : decode cX4_held 168 = .ok (.ifCond .ne 35, 3) := by decide +kernel
theorem dX4_held_171 : decode cX4_held 171 = .ok (.aload_n 0, 1) := by decide +kernel
theorem dX4_held_172 : decode cX4_held 172 = .ok (.iload 5, 2) := by decide +kernel
theorem dX4_held_174 : decode cX4_held 174 = .ok (.iload_n 1, 1) := by decide +kernel
theorem dX4_held_175 : decode cX4_held 175 = .ok (.iload_n 2, 1) := by decide +kernel
theorem dX4_held_176 : decode cX4_held 176 = .ok (.invokevirtual 93, 3) := by decide +kernel
theorem dX4_held_179 : decode cX4_held 179 = .ok (.aload_n 0, 1) := by decide +kernel
theorem dX4_held_180 : decode cX4_held 180 = .ok (.iload 4, 2) := by decide +kernel
theorem dX4_held_182 : decode cX4_held 182 = .ok (.ifCond .ge 7, 3) := by decide +kernel
theorem dX4_held_185 : decode cX4_held 185 = .ok (.iconst 0, 1) := by decide +kernel
theorem dX4_held_186 : decode cX4_held 186 = .ok (.goto 5, 3) := by decide +kernel
theorem dX4_held_189 : decode cX4_held 189 = .ok (.iload 4, 2) := by decide +kernel
theorem dX4_held_191 : decode cX4_held 191 = .ok (.iload_n 1, 1) := by decide +kernel
theorem dX4_held_192 : decode cX4_held 192 = .ok (.iload_n 2, 1) := by decide +kernel
theorem dX4_held_193 : decode cX4_held 193 = .ok (.invokevirtual 93, 3) := by decide +kernel
theorem dX4_held_196 : decode cX4_held 196 = .ok (.if_icmp .le 7, 3) := by decide +kernel
theorem dX4_held_199 : decode cX4_held 199 = .ok (.iconst 1, 1) := by decide +kernel
theorem dX4_held_200 : decode cX4_held 200 = .ok (.goto 4, 3) := by decide +kernel
theorem dX4_held_203 : decode cX4_held 203 = .ok (.iconst 0, 1) := by decide +kernel
theorem dX4_held_204 : decode cX4_held 204 = .ok (.istore 8, 2) := by decide +kernel
theorem dX4_held_206 : decode cX4_held 206 = .ok (.iload 8, 2) := by decide +kernel
theorem dX4_held_208 : decode cX4_held 208 = .ok (.ifCond .eq 8, 3) := by decide +kernel
theorem dX4_held_211 : decode cX4_held 211 = .ok (.iload 5, 2) := by decide +kernel
theorem dX4_held_213 : decode cX4_held 213 = .ok (.goto 5, 3) := by decide +kernel
theorem dX4_held_216 : decode cX4_held 216 = .ok (.iload 4, 2) := by decide +kernel
theorem dX4_held_218 : decode cX4_held 218 = .ok (.istore 4, 2) := by decide +kernel
theorem dX4_held_220 : decode cX4_held 220 = .ok (.iinc 5 1, 3) := by decide +kernel
theorem dX4_held_223 : decode cX4_held 223 = .ok (.goto (-148), 3) := by decide +kernel
theorem dX4_held_226 : decode cX4_held 226 = .ok (.iload 4, 2) := by decide +kernel
theorem dX4_held_228 : decode cX4_held 228 = .ok (.ireturn, 1) := by decide +kernel
theorem dX4_blocking_0 : decode cX4_blocking 0 = .ok (.aload_n 0, 1) := by decide +kernel
theorem dX4_blocking_1 : decode cX4_blocking 1 = .ok (.iconst 0, 1) := by decide +kernel
theorem dX4_blocking_2 : decode cX4_blocking 2 = .ok (.putfield 59, 3) := by decide +kernel
theorem dX4_blocking_5 : decode cX4_blocking 5 = .ok (.aload_n 0, 1) := by decide +kernel
theorem dX4_blocking_6 : decode cX4_blocking 6 = .ok (.getfield 69, 3) := by decide +kernel
theorem dX4_blocking_9 : decode cX4_blocking 9 = .ok (.ifCond .eq 8, 3) := by decide +kernel
theorem dX4_blocking_12 : decode cX4_blocking 12 = .ok (.iload_n 1, 1) := by decide +kernel
theorem dX4_blocking_13 : decode cX4_blocking 13 = .ok (.iconst (-1), 1) := by decide +kernel
theorem dX4_blocking_14 : decode cX4_blocking 14 = .ok (.if_icmp .ge 5, 3) := by decide +kernel
theorem dX4_blocking_17 : decode cX4_blocking 17 = .ok (.iconst (-1), 1) := by decide +kernel
theorem dX4_blocking_18 : decode cX4_blocking 18 = .ok (.ireturn, 1) := by decide +kernel
theorem dX4_blocking_19 : decode cX4_blocking 19 = .ok (.iconst 0, 1) := by decide +kernel
theorem dX4_blocking_20 : decode cX4_blocking 20 = .ok (.istore_n 2, 1) := by decide +kernel
theorem dX4_blocking_21 : decode cX4_blocking 21 = .ok (.iconst 0, 1) := by decide +kernel
theorem dX4_blocking_22 : decode cX4_blocking 22 = .ok (.istore_n 3, 1) := by decide +kernel
theorem dX4_blocking_23 : decode cX4_blocking 23 = .ok (.iload_n 3, 1) := by decide +kernel
theorem dX4_blocking_24 : decode cX4_blocking 24 = .ok (.aload_n 0, 1) := by decide +kernel
theorem dX4_blocking_25 : decode cX4_blocking 25 = .ok (.getfield 66, 3) := by decide +kernel
theorem dX4_blocking_28 : decode cX4_blocking 28 = .ok (.if_icmp .ge 93, 3) := by decide +kernel
theorem dX4_blocking_31 : decode cX4_blocking 31 = .ok (.iconst 0, 1) := by decide +kernel
theorem dX4_blocking_32 : decode cX4_blocking 32 = .ok (.istore 4, 2) := by decide +kernel
theorem dX4_blocking_34 : decode cX4_blocking 34 = .ok (.iload 4, 2) := by decide +kernel
theorem dX4_blocking_36 : decode cX4_blocking 36 = .ok (.aload_n 0, 1) := by decide +kernel
theorem dX4_blocking_37 : decode cX4_blocking 37 = .ok (.getfield 26, 3) := by decide +kernel
theorem dX4_blocking_40 : decode cX4_blocking 40 = .ok (.iload_n 3, 1) := by decide +kernel
theorem dX4_blocking_41 : decode cX4_blocking 41 = .ok (.iaload, 1) := by decide +kernel
theorem dX4_blocking_42 : decode cX4_blocking 42 = .ok (.if_icmp .ge 73, 3) := by decide +kernel
theorem dX4_blocking_45 : decode cX4_blocking 45 = .ok (.iload 4, 2) := by decide +kernel
theorem dX4_blocking_47 : decode cX4_blocking 47 = .ok (.aload_n 0, 1) := by decide +kernel
theorem dX4_blocking_48 : decode cX4_blocking 48 = .ok (.iload_n 3, 1) := by decide +kernel
theorem dX4_blocking_49 : decode cX4_blocking 49 = .ok (.invokevirtual 110, 3) := by decide +kernel
theorem dX4_blocking_52 : decode cX4_blocking 52 = .ok (.if_icmp .ge 63, 3) := by decide +kernel
theorem dX4_blocking_55 : decode cX4_blocking 55 = .ok (.aload_n 0, 1) := by decide +kernel
theorem dX4_blocking_56 : decode cX4_blocking 56 = .ok (.getfield 44, 3) := by decide +kernel
theorem dX4_blocking_59 : decode cX4_blocking 59 = .ok (.iload_n 3, 1) := by decide +kernel
theorem dX4_blocking_60 : decode cX4_blocking 60 = .ok (.iaload, 1) := by decide +kernel
theorem dX4_blocking_61 : decode cX4_blocking 61 = .ok (.iconst 3, 1) := by decide +kernel
theorem dX4_blocking_62 : decode cX4_blocking 62 = .ok (.if_icmp .eq 53, 3) := by decide +kernel
theorem dX4_blocking_65 : decode cX4_blocking 65 = .ok (.aload_n 0, 1) := by decide +kernel
theorem dX4_blocking_66 : decode cX4_blocking 66 = .ok (.iload_n 3, 1) := by decide +kernel
theorem dX4_blocking_67 : decode cX4_blocking 67 = .ok (.aload_n 0, 1) := by decide +kernel
theorem dX4_blocking_68 : decode cX4_blocking 68 = .ok (.getfield 29, 3) := by decide +kernel
theorem dX4_blocking_71 : decode cX4_blocking 71 = .ok (.iconst 4, 1) := by decide +kernel
theorem dX4_blocking_72 : decode cX4_blocking 72 = .ok (.iload_n 3, 1) := by decide +kernel
theorem dX4_blocking_73 : decode cX4_blocking 73 = .ok (.imul, 1) := by decide +kernel
theorem dX4_blocking_74 : decode cX4_blocking 74 = .ok (.iload 4, 2) := by decide +kernel
theorem dX4_blocking_76 : decode cX4_blocking 76 = .ok (.iadd, 1) := by decide +kernel
theorem dX4_blocking_77 : decode cX4_blocking 77 = .ok (.iaload, 1) := by decide +kernel
theorem dX4_blocking_78 : decode cX4_blocking 78 = .ok (.invokevirtual 125, 3) := by decide +kernel
theorem dX4_blocking_81 : decode cX4_blocking 81 = .ok (.ifCond .eq 28, 3) := by decide +kernel
theorem dX4_blocking_84 : decode cX4_blocking 84 = .ok (.iload_n 2, 1) := by decide +kernel
theorem dX4_blocking_85 : decode cX4_blocking 85 = .ok (.iload_n 1, 1) := by decide +kernel
theorem dX4_blocking_86 : decode cX4_blocking 86 = .ok (.if_icmp .ne 20, 3) := by decide +kernel
theorem dX4_blocking_89 : decode cX4_blocking 89 = .ok (.bipush 8, 2) := by decide +kernel
theorem dX4_blocking_91 : decode cX4_blocking 91 = .ok (.iload_n 3, 1) := by decide +kernel
theorem dX4_blocking_92 : decode cX4_blocking 92 = .ok (.imul, 1) := by decide +kernel
theorem dX4_blocking_93 : decode cX4_blocking 93 = .ok (.aload_n 0, 1) := by decide +kernel
theorem dX4_blocking_94 : decode cX4_blocking 94 = .ok (.getfield 29, 3) := by decide +kernel
theorem dX4_blocking_97 : decode cX4_blocking 97 = .ok (.iconst 4, 1) := by decide +kernel
theorem dX4_blocking_98 : decode cX4_blocking 98 = .ok (.iload_n 3, 1) := by decide +kernel
theorem dX4_blocking_99 : decode cX4_blocking 99 = .ok (.imul, 1) := by decide +kernel
theorem dX4_blocking_100 : decode cX4_blocking 100 = .ok (.iload 4, 2) := by decide +kernel
theorem dX4_blocking_102 : decode cX4_blocking 102 = .ok (.iadd, 1) := by decide +kernel
theorem dX4_blocking_103 : decode cX4_blocking 103 = .ok (.iaload, 1) := by decide +kernel
theorem dX4_blocking_104 : decode cX4_blocking 104 = .ok (.iadd, 1) := by decide +kernel
theorem dX4_blocking_105 : decode cX4_blocking 105 = .ok (.ireturn, 1) := by decide +kernel
theorem dX4_blocking_106 : decode cX4_blocking 106 = .ok (.iinc 2 1, 3) := by decide +kernel
theorem dX4_blocking_109 : decode cX4_blocking 109 = .ok (.iinc 4 1, 3) := by decide +kernel
theorem dX4_blocking_112 : decode cX4_blocking 112 = .ok (.goto (-78), 3) := by decide +kernel
theorem dX4_blocking_115 : decode cX4_blocking 115 = .ok (.iinc 3 1, 3) := by decide +kernel
theorem dX4_blocking_118 : decode cX4_blocking 118 = .ok (.goto (-95), 3) := by decide +kernel
theorem dX4_blocking_121 : decode cX4_blocking 121 = .ok (.iload_n 1, 1) := by decide +kernel
theorem dX4_blocking_122 : decode cX4_blocking 122 = .ok (.iconst (-1), 1) := by decide +kernel
theorem dX4_blocking_123 : decode cX4_blocking 123 = .ok (.if_icmp .ne 7, 3) := by decide +kernel
theorem dX4_blocking_126 : decode cX4_blocking 126 = .ok (.iload_n 2, 1) := by decide +kernel
theorem dX4_blocking_127 : decode cX4_blocking 127 = .ok (.goto 4, 3) := by decide +kernel
theorem dX4_blocking_130 : decode cX4_blocking 130 = .ok (.iconst (-1), 1) := by decide +kernel
theorem dX4_blocking_131 : decode cX4_blocking 131 = .ok (.ireturn, 1) := by decide +kernel
theorem dX4_blocks_0 : decode cX4_blocks 0 = .ok (.iconst 0, 1) := by decide +kernel
theorem dX4_blocks_1 : decode cX4_blocks 1 = .ok (.istore_n 3, 1) := by decide +kernel
theorem dX4_blocks_2 : decode cX4_blocks 2 = .ok (.iload_n 3, 1) := by decide +kernel
theorem dX4_blocks_3 : decode cX4_blocks 3 = .ok (.aload_n 0, 1) := by decide +kernel
theorem dX4_blocks_4 : decode cX4_blocks 4 = .ok (.getfield 66, 3) := by decide +kernel
theorem dX4_blocks_7 : decode cX4_blocks 7 = .ok (.if_icmp .ge 44, 3) := by decide +kernel
theorem dX4_blocks_10 : decode cX4_blocks 10 = .ok (.aload_n 0, 1) := by decide +kernel
theorem dX4_blocks_11 : decode cX4_blocks 11 = .ok (.getfield 53, 3) := by decide +kernel
theorem dX4_blocks_14 : decode cX4_blocks 14 = .ok (.iload_n 3, 1) := by decide +kernel
theorem dX4_blocks_15 : decode cX4_blocks 15 = .ok (.iload_n 3, 1) := by decide +kernel
theorem dX4_blocks_16 : decode cX4_blocks 16 = .ok (.iload_n 1, 1) := by decide +kernel
theorem dX4_blocks_17 : decode cX4_blocks 17 = .ok (.if_icmp .eq 22, 3) := by decide +kernel
theorem dX4_blocks_20 : decode cX4_blocks 20 = .ok (.aload_n 0, 1) := by decide +kernel
theorem dX4_blocks_21 : decode cX4_blocks 21 = .ok (.getfield 38, 3) := by decide +kernel
theorem dX4_blocks_24 : decode cX4_blocks 24 = .ok (.iload_n 3, 1) := by decide +kernel
theorem dX4_blocks_25 : decode cX4_blocks 25 = .ok (.iaload, 1) := by decide +kernel
theorem dX4_blocks_26 : decode cX4_blocks 26 = .ok (.iload_n 2, 1) := by decide +kernel
theorem dX4_blocks_27 : decode cX4_blocks 27 = .ok (.if_icmp .ne 16, 3) := by decide +kernel
theorem dX4_blocks_30 : decode cX4_blocks 30 = .ok (.aload_n 0, 1) := by decide +kernel
theorem dX4_blocks_31 : decode cX4_blocks 31 = .ok (.getfield 41, 3) := by decide +kernel
theorem dX4_blocks_34 : decode cX4_blocks 34 = .ok (.iload_n 3, 1) := by decide +kernel
theorem dX4_blocks_35 : decode cX4_blocks 35 = .ok (.iaload, 1) := by decide +kernel
theorem dX4_blocks_36 : decode cX4_blocks 36 = .ok (.ifCond .lt 7, 3) := by decide +kernel
theorem dX4_blocks_39 : decode cX4_blocks 39 = .ok (.iconst 1, 1) := by decide +kernel
theorem dX4_blocks_40 : decode cX4_blocks 40 = .ok (.goto 4, 3) := by decide +kernel
theorem dX4_blocks_43 : decode cX4_blocks 43 = .ok (.iconst 0, 1) := by decide +kernel
theorem dX4_blocks_44 : decode cX4_blocks 44 = .ok (.bastore, 1) := by decide +kernel
theorem dX4_blocks_45 : decode cX4_blocks 45 = .ok (.iinc 3 1, 3) := by decide +kernel
theorem dX4_blocks_48 : decode cX4_blocks 48 = .ok (.goto (-46), 3) := by decide +kernel
theorem dX4_blocks_51 : decode cX4_blocks 51 = .ok (.aload_n 0, 1) := by decide +kernel
theorem dX4_blocks_52 : decode cX4_blocks 52 = .ok (.iload_n 2, 1) := by decide +kernel
theorem dX4_blocks_53 : decode cX4_blocks 53 = .ok (.invokevirtual 96, 3) := by decide +kernel
theorem dX4_blocks_56 : decode cX4_blocks 56 = .ok (.aload_n 0, 1) := by decide +kernel
theorem dX4_blocks_57 : decode cX4_blocks 57 = .ok (.getfield 56, 3) := by decide +kernel
theorem dX4_blocks_60 : decode cX4_blocks 60 = .ok (.iload_n 1, 1) := by decide +kernel
theorem dX4_blocks_61 : decode cX4_blocks 61 = .ok (.iaload, 1) := by decide +kernel
theorem dX4_blocks_62 : decode cX4_blocks 62 = .ok (.ifCond .lt 7, 3) := by decide +kernel
theorem dX4_blocks_65 : decode cX4_blocks 65 = .ok (.iconst 1, 1) := by decide +kernel
theorem dX4_blocks_66 : decode cX4_blocks 66 = .ok (.goto 4, 3) := by decide +kernel
theorem dX4_blocks_69 : decode cX4_blocks 69 = .ok (.iconst 0, 1) := by decide +kernel
theorem dX4_blocks_70 : decode cX4_blocks 70 = .ok (.ireturn, 1) := by decide +kernel
theorem dX4_envies_0 : decode cX4_envies 0 = .ok (.aload_n 0, 1) := by decide +kernel
theorem dX4_envies_1 : decode cX4_envies 1 = .ok (.aload_n 0, 1) := by decide +kernel
theorem dX4_envies_2 : decode cX4_envies 2 = .ok (.iload_n 1, 1) := by decide +kernel
theorem dX4_envies_3 : decode cX4_envies 3 = .ok (.invokevirtual 77, 3) := by decide +kernel
theorem dX4_envies_6 : decode cX4_envies 6 = .ok (.ifCond .eq 15, 3) := by decide +kernel
theorem dX4_envies_9 : decode cX4_envies 9 = .ok (.aload_n 0, 1) := by decide +kernel
theorem dX4_envies_10 : decode cX4_envies 10 = .ok (.iload_n 2, 1) := by decide +kernel
theorem dX4_envies_11 : decode cX4_envies 11 = .ok (.invokevirtual 77, 3) := by decide +kernel
theorem dX4_envies_14 : decode cX4_envies 14 = .ok (.ifCond .eq 7, 3) := by decide +kernel
theorem dX4_envies_17 : decode cX4_envies 17 = .ok (.iconst 0, 1) := by decide +kernel
theorem dX4_envies_18 : decode cX4_envies 18 = .ok (.goto 4, 3) := by decide +kernel
theorem dX4_envies_21 : decode cX4_envies 21 = .ok (.iconst 1, 1) := by decide +kernel
theorem dX4_envies_22 : decode cX4_envies 22 = .ok (.putfield 59, 3) := by decide +kernel
theorem dX4_envies_25 : decode cX4_envies 25 = .ok (.aload_n 0, 1) := by decide +kernel
theorem dX4_envies_26 : decode cX4_envies 26 = .ok (.getfield 59, 3) := by decide +kernel
theorem dX4_envies_29 : decode cX4_envies 29 = .ok (.ifCond .le 5, 3) := by decide +kernel
theorem dX4_envies_32 : decode cX4_envies 32 = .ok (.iconst 0, 1) := by decide +kernel
theorem dX4_envies_33 : decode cX4_envies 33 = .ok (.ireturn, 1) := by decide +kernel
theorem dX4_envies_34 : decode cX4_envies 34 = .ok (.aload_n 0, 1) := by decide +kernel
theorem dX4_envies_35 : decode cX4_envies 35 = .ok (.aload_n 0, 1) := by decide +kernel
theorem dX4_envies_36 : decode cX4_envies 36 = .ok (.getfield 38, 3) := by decide +kernel
theorem dX4_envies_39 : decode cX4_envies 39 = .ok (.iload_n 2, 1) := by decide +kernel
theorem dX4_envies_40 : decode cX4_envies 40 = .ok (.iaload, 1) := by decide +kernel
theorem dX4_envies_41 : decode cX4_envies 41 = .ok (.ifCond .lt 16, 3) := by decide +kernel
theorem dX4_envies_44 : decode cX4_envies 44 = .ok (.aload_n 0, 1) := by decide +kernel
theorem dX4_envies_45 : decode cX4_envies 45 = .ok (.getfield 41, 3) := by decide +kernel
theorem dX4_envies_48 : decode cX4_envies 48 = .ok (.iload_n 2, 1) := by decide +kernel
theorem dX4_envies_49 : decode cX4_envies 49 = .ok (.iaload, 1) := by decide +kernel
theorem dX4_envies_50 : decode cX4_envies 50 = .ok (.ifCond .lt 7, 3) := by decide +kernel
theorem dX4_envies_53 : decode cX4_envies 53 = .ok (.iconst 0, 1) := by decide +kernel
theorem dX4_envies_54 : decode cX4_envies 54 = .ok (.goto 4, 3) := by decide +kernel
theorem dX4_envies_57 : decode cX4_envies 57 = .ok (.iconst 1, 1) := by decide +kernel
theorem dX4_envies_58 : decode cX4_envies 58 = .ok (.putfield 59, 3) := by decide +kernel
theorem dX4_envies_61 : decode cX4_envies 61 = .ok (.aload_n 0, 1) := by decide +kernel
theorem dX4_envies_62 : decode cX4_envies 62 = .ok (.getfield 59, 3) := by decide +kernel
theorem dX4_envies_65 : decode cX4_envies 65 = .ok (.ifCond .le 5, 3) := by decide +kernel
theorem dX4_envies_68 : decode cX4_envies 68 = .ok (.iconst 0, 1) := by decide +kernel
theorem dX4_envies_69 : decode cX4_envies 69 = .ok (.ireturn, 1) := by decide +kernel
theorem dX4_envies_70 : decode cX4_envies 70 = .ok (.aload_n 0, 1) := by decide +kernel
theorem dX4_envies_71 : decode cX4_envies 71 = .ok (.getfield 38, 3) := by decide +kernel
theorem dX4_envies_74 : decode cX4_envies 74 = .ok (.iload_n 2, 1) := by decide +kernel
theorem dX4_envies_75 : decode cX4_envies 75 = .ok (.iaload, 1) := by decide +kernel
theorem dX4_envies_76 : decode cX4_envies 76 = .ok (.istore_n 3, 1) := by decide +kernel
theorem dX4_envies_77 : decode cX4_envies 77 = .ok (.aload_n 0, 1) := by decide +kernel
theorem dX4_envies_78 : decode cX4_envies 78 = .ok (.getfield 41, 3) := by decide +kernel
theorem dX4_envies_81 : decode cX4_envies 81 = .ok (.iload_n 2, 1) := by decide +kernel
theorem dX4_envies_82 : decode cX4_envies 82 = .ok (.iaload, 1) := by decide +kernel
theorem dX4_envies_83 : decode cX4_envies 83 = .ok (.istore 4, 2) := by decide +kernel
theorem dX4_envies_85 : decode cX4_envies 85 = .ok (.aload_n 0, 1) := by decide +kernel
theorem dX4_envies_86 : decode cX4_envies 86 = .ok (.iload_n 1, 1) := by decide +kernel
theorem dX4_envies_87 : decode cX4_envies 87 = .ok (.iload_n 3, 1) := by decide +kernel
theorem dX4_envies_88 : decode cX4_envies 88 = .ok (.invokevirtual 80, 3) := by decide +kernel
theorem dX4_envies_91 : decode cX4_envies 91 = .ok (.aload_n 0, 1) := by decide +kernel
theorem dX4_envies_92 : decode cX4_envies 92 = .ok (.iload_n 1, 1) := by decide +kernel
theorem dX4_envies_93 : decode cX4_envies 93 = .ok (.invokevirtual 110, 3) := by decide +kernel
theorem dX4_envies_96 : decode cX4_envies 96 = .ok (.if_icmp .ge 48, 3) := by decide +kernel
theorem dX4_envies_99 : decode cX4_envies 99 = .ok (.aload_n 0, 1) := by decide +kernel
theorem dX4_envies_100 : decode cX4_envies 100 = .ok (.iload_n 1, 1) := by decide +kernel
theorem dX4_envies_101 : decode cX4_envies 101 = .ok (.iload_n 3, 1) := by decide +kernel
theorem dX4_envies_102 : decode cX4_envies 102 = .ok (.iload 4, 2) := by decide +kernel
theorem dX4_envies_104 : decode cX4_envies 104 = .ok (.invokevirtual 89, 3) := by decide +kernel
theorem dX4_envies_107 : decode cX4_envies 107 = .ok (.ifCond .eq 37, 3) := by decide +kernel
theorem dX4_envies_110 : decode cX4_envies 110 = .ok (.aload_n 0, 1) := by decide +kernel
theorem dX4_envies_111 : decode cX4_envies 111 = .ok (.iload_n 2, 1) := by decide +kernel
theorem dX4_envies_112 : decode cX4_envies 112 = .ok (.iload_n 3, 1) := by decide +kernel
theorem dX4_envies_113 : decode cX4_envies 113 = .ok (.iload 4, 2) := by decide +kernel
theorem dX4_envies_115 : decode cX4_envies 115 = .ok (.invokevirtual 89, 3) := by decide +kernel
theorem dX4_envies_118 : decode cX4_envies 118 = .ok (.ifCond .eq 26, 3) := by decide +kernel
theorem dX4_envies_121 : decode cX4_envies 121 = .ok (.aload_n 0, 1) := by decide +kernel
theorem dX4_envies_122 : decode cX4_envies 122 = .ok (.iload_n 1, 1) := by decide +kernel
theorem dX4_envies_123 : decode cX4_envies 123 = .ok (.iload_n 3, 1) := by decide +kernel
theorem dX4_envies_124 : decode cX4_envies 124 = .ok (.iload 4, 2) := by decide +kernel
theorem dX4_envies_126 : decode cX4_envies 126 = .ok (.invokevirtual 93, 3) := by decide +kernel
theorem dX4_envies_129 : decode cX4_envies 129 = .ok (.aload_n 0, 1) := by decide +kernel
theorem dX4_envies_130 : decode cX4_envies 130 = .ok (.iload_n 2, 1) := by decide +kernel
theorem dX4_envies_131 : decode cX4_envies 131 = .ok (.iload_n 3, 1) := by decide +kernel
theorem dX4_envies_132 : decode cX4_envies 132 = .ok (.iload 4, 2) := by decide +kernel
theorem dX4_envies_134 : decode cX4_envies 134 = .ok (.invokevirtual 93, 3) := by decide +kernel
theorem dX4_envies_137 : decode cX4_envies 137 = .ok (.if_icmp .ge 7, 3) := by decide +kernel
theorem dX4_envies_140 : decode cX4_envies 140 = .ok (.iconst 1, 1) := by decide +kernel
theorem dX4_envies_141 : decode cX4_envies 141 = .ok (.goto 4, 3) := by decide +kernel
theorem dX4_envies_144 : decode cX4_envies 144 = .ok (.iconst 0, 1) := by decide +kernel
theorem dX4_envies_145 : decode cX4_envies 145 = .ok (.ireturn, 1) := by decide +kernel
theorem dX4_why_0 : decode cX4_why 0 = .ok (.aload_n 0, 1) := by decide +kernel
theorem dX4_why_1 : decode cX4_why 1 = .ok (.iconst 0, 1) := by decide +kernel
theorem dX4_why_2 : decode cX4_why 2 = .ok (.putfield 59, 3) := by decide +kernel
theorem dX4_why_5 : decode cX4_why 5 = .ok (.aload_n 0, 1) := by decide +kernel
theorem dX4_why_6 : decode cX4_why 6 = .ok (.iload_n 1, 1) := by decide +kernel
theorem dX4_why_7 : decode cX4_why 7 = .ok (.invokevirtual 77, 3) := by decide +kernel
theorem dX4_why_10 : decode cX4_why 10 = .ok (.ifCond .eq 11, 3) := by decide +kernel
theorem dX4_why_13 : decode cX4_why 13 = .ok (.aload_n 0, 1) := by decide +kernel
theorem dX4_why_14 : decode cX4_why 14 = .ok (.iload_n 2, 1) := by decide +kernel
theorem dX4_why_15 : decode cX4_why 15 = .ok (.invokevirtual 73, 3) := by decide +kernel
theorem dX4_why_18 : decode cX4_why 18 = .ok (.ifCond .ne 5, 3) := by decide +kernel
theorem dX4_why_21 : decode cX4_why 21 = .ok (.iconst (-1), 1) := by decide +kernel
theorem dX4_why_22 : decode cX4_why 22 = .ok (.ireturn, 1) := by decide +kernel
theorem dX4_why_23 : decode cX4_why 23 = .ok (.aload_n 0, 1) := by decide +kernel
theorem dX4_why_24 : decode cX4_why 24 = .ok (.getfield 38, 3) := by decide +kernel
theorem dX4_why_27 : decode cX4_why 27 = .ok (.iload_n 1, 1) := by decide +kernel
theorem dX4_why_28 : decode cX4_why 28 = .ok (.iaload, 1) := by decide +kernel
theorem dX4_why_29 : decode cX4_why 29 = .ok (.iload_n 2, 1) := by decide +kernel
theorem dX4_why_30 : decode cX4_why 30 = .ok (.if_icmp .ne 5, 3) := by decide +kernel
theorem dX4_why_33 : decode cX4_why 33 = .ok (.iconst 0, 1) := by decide +kernel
theorem dX4_why_34 : decode cX4_why 34 = .ok (.ireturn, 1) := by decide +kernel
theorem dX4_why_35 : decode cX4_why 35 = .ok (.aload_n 0, 1) := by decide +kernel
theorem dX4_why_36 : decode cX4_why 36 = .ok (.iload_n 1, 1) := by decide +kernel
theorem dX4_why_37 : decode cX4_why 37 = .ok (.iload_n 2, 1) := by decide +kernel
theorem dX4_why_38 : decode cX4_why 38 = .ok (.invokevirtual 80, 3) := by decide +kernel
theorem dX4_why_41 : decode cX4_why 41 = .ok (.istore_n 3, 1) := by decide +kernel
theorem dX4_why_42 : decode cX4_why 42 = .ok (.iconst 0, 1) := by decide +kernel
theorem dX4_why_43 : decode cX4_why 43 = .ok (.istore 4, 2) := by decide +kernel
theorem dX4_why_45 : decode cX4_why 45 = .ok (.iconst 0, 1) := by decide +kernel
theorem dX4_why_46 : decode cX4_why 46 = .ok (.istore 5, 2) := by decide +kernel
theorem dX4_why_48 : decode cX4_why 48 = .ok (.iload 5, 2) := by decide +kernel
theorem dX4_why_50 : decode cX4_why 50 = .ok (.aload_n 0, 1) := by decide +kernel
theorem dX4_why_51 : decode cX4_why 51 = .ok (.getfield 7, 3) := by decide +kernel
theorem dX4_why_54 : decode cX4_why 54 = .ok (.iload_n 2, 1) := by decide +kernel
theorem dX4_why_55 : decode cX4_why 55 = .ok (.iaload, 1) := by decide +kernel
theorem dX4_why_56 : decode cX4_why 56 = .ok (.if_icmp .ge 32, 3) := by decide +kernel
theorem dX4_why_59 : decode cX4_why 59 = .ok (.iload 4, 2) := by decide +kernel
theorem dX4_why_61 : decode cX4_why 61 = .ok (.ifCond .ne 14, 3) := by decide +kernel
theorem dX4_why_64 : decode cX4_why 64 = .ok (.aload_n 0, 1) := by decide +kernel
theorem dX4_why_65 : decode cX4_why 65 = .ok (.iload_n 1, 1) := by decide +kernel
theorem dX4_why_66 : decode cX4_why 66 = .ok (.iload_n 2, 1) := by decide +kernel
theorem dX4_why_67 : decode cX4_why 67 = .ok (.iload 5, 2) := by decide +kernel
theorem dX4_why_69 : decode cX4_why 69 = .ok (.invokevirtual 89, 3) := by decide +kernel
theorem dX4_why_72 : decode cX4_why 72 = .ok (.ifCond .eq 7, 3) := by decide +kernel
theorem dX4_why_75 : decode cX4_why 75 = .ok (.iconst 1, 1) := by decide +kernel
theorem dX4_why_76 : decode cX4_why 76 = .ok (.goto 4, 3) := by decide +kernel
theorem dX4_why_79 : decode cX4_why 79 = .ok (.iconst 0, 1) := by decide +kernel
theorem dX4_why_80 : decode cX4_why 80 = .ok (.istore 4, 2) := by decide +kernel
theorem dX4_why_82 : decode cX4_why 82 = .ok (.iinc 5 1, 3) := by decide +kernel
theorem dX4_why_85 : decode cX4_why 85 = .ok (.goto (-37), 3) := by decide +kernel
theorem dX4_why_88 : decode cX4_why 88 = .ok (.iload_n 3, 1) := by decide +kernel
theorem dX4_why_89 : decode cX4_why 89 = .ok (.bipush 9, 2) := by decide +kernel
theorem dX4_why_91 : decode cX4_why 91 = .ok (.if_icmp .ne 7, 3) := by decide +kernel
theorem dX4_why_94 : decode cX4_why 94 = .ok (.iconst 1, 1) := by decide +kernel
theorem dX4_why_95 : decode cX4_why 95 = .ok (.goto 26, 3) := by decide +kernel
theorem dX4_why_98 : decode cX4_why 98 = .ok (.iload 4, 2) := by decide +kernel
theorem dX4_why_100 : decode cX4_why 100 = .ok (.ifCond .ne 7, 3) := by decide +kernel
theorem dX4_why_103 : decode cX4_why 103 = .ok (.iconst 2, 1) := by decide +kernel
theorem dX4_why_104 : decode cX4_why 104 = .ok (.goto 17, 3) := by decide +kernel
theorem dX4_why_107 : decode cX4_why 107 = .ok (.aload_n 0, 1) := by decide +kernel
theorem dX4_why_108 : decode cX4_why 108 = .ok (.iload_n 1, 1) := by decide +kernel
theorem dX4_why_109 : decode cX4_why 109 = .ok (.invokevirtual 110, 3) := by decide +kernel
theorem dX4_why_112 : decode cX4_why 112 = .ok (.iload_n 3, 1) := by decide +kernel
theorem dX4_why_113 : decode cX4_why 113 = .ok (.if_icmp .ge 7, 3) := by decide +kernel
theorem dX4_why_116 : decode cX4_why 116 = .ok (.iconst 3, 1) := by decide +kernel
theorem dX4_why_117 : decode cX4_why 117 = .ok (.goto 4, 3) := by decide +kernel
theorem dX4_why_120 : decode cX4_why 120 = .ok (.iconst 4, 1) := by decide +kernel
theorem dX4_why_121 : decode cX4_why 121 = .ok (.ireturn, 1) := by decide +kernel
theorem dX4_look_0 : decode cX4_look 0 = .ok (.aload_n 0, 1) := by decide +kernel
theorem dX4_look_1 : decode cX4_look 1 = .ok (.iconst 0, 1) := by decide +kernel
theorem dX4_look_2 : decode cX4_look 2 = .ok (.putfield 59, 3) := by decide +kernel
theorem dX4_look_5 : decode cX4_look 5 = .ok (.iconst 0, 1) := by decide +kernel
theorem dX4_look_6 : decode cX4_look 6 = .ok (.istore_n 2, 1) := by decide +kernel
theorem dX4_look_7 : decode cX4_look 7 = .ok (.iconst 0, 1) := by decide +kernel
theorem dX4_look_8 : decode cX4_look 8 = .ok (.istore_n 3, 1) := by decide +kernel
theorem dX4_look_9 : decode cX4_look 9 = .ok (.iload_n 3, 1) := by decide +kernel
theorem dX4_look_10 : decode cX4_look 10 = .ok (.aload_n 0, 1) := by decide +kernel
theorem dX4_look_11 : decode cX4_look 11 = .ok (.getfield 66, 3) := by decide +kernel
theorem dX4_look_14 : decode cX4_look 14 = .ok (.if_icmp .ge 18, 3) := by decide +kernel
theorem dX4_look_17 : decode cX4_look 17 = .ok (.iload_n 2, 1) := by decide +kernel
theorem dX4_look_18 : decode cX4_look 18 = .ok (.aload_n 0, 1) := by decide +kernel
theorem dX4_look_19 : decode cX4_look 19 = .ok (.getfield 35, 3) := by decide +kernel
theorem dX4_look_22 : decode cX4_look 22 = .ok (.iload_n 3, 1) := by decide +kernel
theorem dX4_look_23 : decode cX4_look 23 = .ok (.iaload, 1) := by decide +kernel
theorem dX4_look_24 : decode cX4_look 24 = .ok (.iadd, 1) := by decide +kernel
theorem dX4_look_25 : decode cX4_look 25 = .ok (.istore_n 2, 1) := by decide +kernel
theorem dX4_look_26 : decode cX4_look 26 = .ok (.iinc 3 1, 3) := by decide +kernel
theorem dX4_look_29 : decode cX4_look 29 = .ok (.goto (-20), 3) := by decide +kernel
theorem dX4_look_32 : decode cX4_look 32 = .ok (.iload_n 1, 1) := by decide +kernel
theorem dX4_look_33 : decode cX4_look 33 = .ok (.ifCond .ne 10, 3) := by decide +kernel
theorem dX4_look_36 : decode cX4_look 36 = .ok (.aload_n 0, 1) := by decide +kernel
theorem dX4_look_37 : decode cX4_look 37 = .ok (.getfield 63, 3) := by decide +kernel
theorem dX4_look_40 : decode cX4_look 40 = .ok (.goto 57, 3) := by decide +kernel
theorem dX4_look_43 : decode cX4_look 43 = .ok (.iload_n 1, 1) := by decide +kernel
theorem dX4_look_44 : decode cX4_look 44 = .ok (.iconst 1, 1) := by decide +kernel
theorem dX4_look_45 : decode cX4_look 45 = .ok (.if_icmp .ne 10, 3) := by decide +kernel
theorem dX4_look_48 : decode cX4_look 48 = .ok (.aload_n 0, 1) := by decide +kernel
theorem dX4_look_49 : decode cX4_look 49 = .ok (.getfield 66, 3) := by decide +kernel
theorem dX4_look_52 : decode cX4_look 52 = .ok (.goto 45, 3) := by decide +kernel
theorem dX4_look_55 : decode cX4_look 55 = .ok (.iload_n 1, 1) := by decide +kernel
theorem dX4_look_56 : decode cX4_look 56 = .ok (.iconst 2, 1) := by decide +kernel
theorem dX4_look_57 : decode cX4_look 57 = .ok (.if_icmp .ne 18, 3) := by decide +kernel
theorem dX4_look_60 : decode cX4_look 60 = .ok (.aload_n 0, 1) := by decide +kernel
theorem dX4_look_61 : decode cX4_look 61 = .ok (.getfield 69, 3) := by decide +kernel
theorem dX4_look_64 : decode cX4_look 64 = .ok (.ifCond .eq 7, 3) := by decide +kernel
theorem dX4_look_67 : decode cX4_look 67 = .ok (.iconst 1, 1) := by decide +kernel
theorem dX4_look_68 : decode cX4_look 68 = .ok (.goto 29, 3) := by decide +kernel
theorem dX4_look_71 : decode cX4_look 71 = .ok (.iconst 0, 1) := by decide +kernel
theorem dX4_look_72 : decode cX4_look 72 = .ok (.goto 25, 3) := by decide +kernel
theorem dX4_look_75 : decode cX4_look 75 = .ok (.iload_n 1, 1) := by decide +kernel
theorem dX4_look_76 : decode cX4_look 76 = .ok (.iconst 3, 1) := by decide +kernel
theorem dX4_look_77 : decode cX4_look 77 = .ok (.if_icmp .ne 7, 3) := by decide +kernel
theorem dX4_look_80 : decode cX4_look 80 = .ok (.iload_n 2, 1) := by decide +kernel
theorem dX4_look_81 : decode cX4_look 81 = .ok (.goto 16, 3) := by decide +kernel
theorem dX4_look_84 : decode cX4_look 84 = .ok (.iload_n 1, 1) := by decide +kernel
theorem dX4_look_85 : decode cX4_look 85 = .ok (.iconst 4, 1) := by decide +kernel
theorem dX4_look_86 : decode cX4_look 86 = .ok (.if_icmp .ne 10, 3) := by decide +kernel
theorem dX4_look_89 : decode cX4_look 89 = .ok (.aload_n 0, 1) := by decide +kernel
theorem dX4_look_90 : decode cX4_look 90 = .ok (.invokevirtual 103, 3) := by decide +kernel
theorem dX4_look_93 : decode cX4_look 93 = .ok (.goto 4, 3) := by decide +kernel
theorem dX4_look_96 : decode cX4_look 96 = .ok (.iconst (-1), 1) := by decide +kernel
theorem dX4_look_97 : decode cX4_look 97 = .ok (.ireturn, 1) := by decide +kernel
theorem dL_law_0 : decode cL_law 0 = .ok (.new 8, 3) := by decide +kernel
theorem dL_law_3 : decode cL_law 3 = .ok (.dup, 1) := by decide +kernel
theorem dL_law_4 : decode cL_law 4 = .ok (.invokespecial 42, 3) := by decide +kernel
theorem dL_law_7 : decode cL_law 7 = .ok (.astore_n 1, 1) := by decide +kernel
theorem dL_law_8 : decode cL_law 8 = .ok (.new 43, 3) := by decide +kernel
theorem dL_law_11 : decode cL_law 11 = .ok (.dup, 1) := by decide +kernel
theorem dL_law_12 : decode cL_law 12 = .ok (.invokespecial 45, 3) := by decide +kernel
theorem dL_law_15 : decode cL_law 15 = .ok (.astore_n 2, 1) := by decide +kernel
theorem dL_law_16 : decode cL_law 16 = .ok (.iconst 1, 1) := by decide +kernel
theorem dL_law_17 : decode cL_law 17 = .ok (.newarray .long, 2) := by decide +kernel
theorem dL_law_19 : decode cL_law 19 = .ok (.astore_n 3, 1) := by decide +kernel
theorem dL_law_20 : decode cL_law 20 = .ok (.iconst 0, 1) := by decide +kernel
theorem dL_law_21 : decode cL_law 21 = .ok (.istore 4, 2) := by decide +kernel
theorem dL_law_23 : decode cL_law 23 = .ok (.iload 4, 2) := by decide +kernel
theorem dL_law_25 : decode cL_law 25 = .ok (.aload_n 0, 1) := by decide +kernel
theorem dL_law_26 : decode cL_law 26 = .ok (.arraylength, 1) := by decide +kernel
theorem dL_law_27 : decode cL_law 27 = .ok (.bipush 6, 2) := by decide +kernel
theorem dL_law_29 : decode cL_law 29 = .ok (.isub, 1) := by decide +kernel
theorem dL_law_30 : decode cL_law 30 = .ok (.if_icmp .gt 971, 3) := by decide +kernel
theorem dL_law_33 : decode cL_law 33 = .ok (.aload_n 0, 1) := by decide +kernel
theorem dL_law_34 : decode cL_law 34 = .ok (.iload 4, 2) := by decide +kernel
theorem dL_law_36 : decode cL_law 36 = .ok (.iaload, 1) := by decide +kernel
theorem dL_law_37 : decode cL_law 37 = .ok (.bipush 31, 2) := by decide +kernel
theorem dL_law_39 : decode cL_law 39 = .ok (.iand, 1) := by decide +kernel
theorem dL_law_40 : decode cL_law 40 = .ok (.tableswitch 955 0 16 #[84, 128, 232, 316, 384, 433, 477, 514, 551, 595, 632, 707, 744, 793, 818, 893, 930], 84) := by decide +kernel
theorem dL_law_124 : decode cL_law 124 = .ok (.aload_n 1, 1) := by decide +kernel
theorem dL_law_125 : decode cL_law 125 = .ok (.aload_n 3, 1) := by decide +kernel
theorem dL_law_126 : decode cL_law 126 = .ok (.invokestatic 46, 3) := by decide +kernel
theorem dL_law_129 : decode cL_law 129 = .ok (.istore 5, 2) := by decide +kernel
theorem dL_law_131 : decode cL_law 131 = .ok (.aload_n 2, 1) := by decide +kernel
theorem dL_law_132 : decode cL_law 132 = .ok (.invokevirtual 51, 3) := by decide +kernel
theorem dL_law_135 : decode cL_law 135 = .ok (.istore 6, 2) := by decide +kernel
theorem dL_law_137 : decode cL_law 137 = .ok (.aload_n 2, 1) := by decide +kernel
theorem dL_law_138 : decode cL_law 138 = .ok (.invokevirtual 52, 3) := by decide +kernel
theorem dL_law_141 : decode cL_law 141 = .ok (.iload 5, 2) := by decide +kernel
theorem dL_law_143 : decode cL_law 143 = .ok (.if_icmp .eq 5, 3) := by decide +kernel
theorem dL_law_146 : decode cL_law 146 = .ok (.iconst 0, 1) := by decide +kernel
theorem dL_law_147 : decode cL_law 147 = .ok (.ireturn, 1) := by decide +kernel
theorem dL_law_148 : decode cL_law 148 = .ok (.iload 5, 2) := by decide +kernel
theorem dL_law_150 : decode cL_law 150 = .ok (.ifCond .ne 15, 3) := by decide +kernel
theorem dL_law_153 : decode cL_law 153 = .ok (.aload_n 3, 1) := by decide +kernel
theorem dL_law_154 : decode cL_law 154 = .ok (.iconst 0, 1) := by decide +kernel
theorem dL_law_155 : decode cL_law 155 = .ok (.laload, 1) := by decide +kernel
theorem dL_law_156 : decode cL_law 156 = .ok (.iload 6, 2) := by decide +kernel
theorem dL_law_158 : decode cL_law 158 = .ok (.i2l, 1) := by decide +kernel
theorem dL_law_159 : decode cL_law 159 = .ok (.lcmp, 1) := by decide +kernel
theorem dL_law_160 : decode cL_law 160 = .ok (.ifCond .eq 5, 3) := by decide +kernel
theorem dL_law_163 : decode cL_law 163 = .ok (.iconst 0, 1) := by decide +kernel
theorem dL_law_164 : decode cL_law 164 = .ok (.ireturn, 1) := by decide +kernel
theorem dL_law_165 : decode cL_law 165 = .ok (.goto 830, 3) := by decide +kernel
theorem dL_law_168 : decode cL_law 168 = .ok (.aload_n 1, 1) := by decide +kernel
theorem dL_law_169 : decode cL_law 169 = .ok (.aload_n 0, 1) := by decide +kernel
theorem dL_law_170 : decode cL_law 170 = .ok (.iload 4, 2) := by decide +kernel
theorem dL_law_172 : decode cL_law 172 = .ok (.iconst 1, 1) := by decide +kernel
theorem dL_law_173 : decode cL_law 173 = .ok (.iadd, 1) := by decide +kernel
theorem dL_law_174 : decode cL_law 174 = .ok (.iaload, 1) := by decide +kernel
theorem dL_law_175 : decode cL_law 175 = .ok (.aload_n 0, 1) := by decide +kernel
theorem dL_law_176 : decode cL_law 176 = .ok (.iload 4, 2) := by decide +kernel
theorem dL_law_178 : decode cL_law 178 = .ok (.iconst 2, 1) := by decide +kernel
theorem dL_law_179 : decode cL_law 179 = .ok (.iadd, 1) := by decide +kernel
theorem dL_law_180 : decode cL_law 180 = .ok (.iaload, 1) := by decide +kernel
theorem dL_law_181 : decode cL_law 181 = .ok (.aload_n 0, 1) := by decide +kernel
theorem dL_law_182 : decode cL_law 182 = .ok (.iload 4, 2) := by decide +kernel
theorem dL_law_184 : decode cL_law 184 = .ok (.iconst 3, 1) := by decide +kernel
theorem dL_law_185 : decode cL_law 185 = .ok (.iadd, 1) := by decide +kernel
theorem dL_law_186 : decode cL_law 186 = .ok (.iaload, 1) := by decide +kernel
theorem dL_law_187 : decode cL_law 187 = .ok (.aload_n 0, 1) := by decide +kernel
theorem dL_law_188 : decode cL_law 188 = .ok (.iload 4, 2) := by decide +kernel
theorem dL_law_190 : decode cL_law 190 = .ok (.iconst 4, 1) := by decide +kernel
theorem dL_law_191 : decode cL_law 191 = .ok (.iadd, 1) := by decide +kernel
theorem dL_law_192 : decode cL_law 192 = .ok (.iaload, 1) := by decide +kernel
theorem dL_law_193 : decode cL_law 193 = .ok (.aload_n 0, 1) := by decide +kernel
theorem dL_law_194 : decode cL_law 194 = .ok (.iload 4, 2) := by decide +kernel
theorem dL_law_196 : decode cL_law 196 = .ok (.iconst 5, 1) := by decide +kernel
theorem dL_law_197 : decode cL_law 197 = .ok (.iadd, 1) := by decide +kernel
theorem dL_law_198 : decode cL_law 198 = .ok (.iaload, 1) := by decide +kernel
theorem dL_law_199 : decode cL_law 199 = .ok (.aload_n 3, 1) := by decide +kernel
theorem dL_law_200 : decode cL_law 200 = .ok (.invokestatic 55, 3) := by decide +kernel
theorem dL_law_203 : decode cL_law 203 = .ok (.istore 5, 2) := by decide +kernel
theorem dL_law_205 : decode cL_law 205 = .ok (.aload_n 2, 1) := by decide +kernel
theorem dL_law_206 : decode cL_law 206 = .ok (.aload_n 0, 1) := by decide +kernel
theorem dL_law_207 : decode cL_law 207 = .ok (.iload 4, 2) := by decide +kernel
theorem dL_law_209 : decode cL_law 209 = .ok (.iconst 1, 1) := by decide +kernel
theorem dL_law_210 : decode cL_law 210 = .ok (.iadd, 1) := by decide +kernel
theorem dL_law_211 : decode cL_law 211 = .ok (.iaload, 1) := by decide +kernel
theorem dL_law_212 : decode cL_law 212 = .ok (.aload_n 0, 1) := by decide +kernel
theorem dL_law_213 : decode cL_law 213 = .ok (.iload 4, 2) := by decide +kernel
theorem dL_law_215 : decode cL_law 215 = .ok (.iconst 2, 1) := by decide +kernel
theorem dL_law_216 : decode cL_law 216 = .ok (.iadd, 1) := by decide +kernel
theorem dL_law_217 : decode cL_law 217 = .ok (.iaload, 1) := by decide +kernel
theorem dL_law_218 : decode cL_law 218 = .ok (.aload_n 0, 1) := by decide +kernel
theorem dL_law_219 : decode cL_law 219 = .ok (.iload 4, 2) := by decide +kernel
theorem dL_law_221 : decode cL_law 221 = .ok (.iconst 3, 1) := by decide +kernel
theorem dL_law_222 : decode cL_law 222 = .ok (.iadd, 1) := by decide +kernel
theorem dL_law_223 : decode cL_law 223 = .ok (.iaload, 1) := by decide +kernel
theorem dL_law_224 : decode cL_law 224 = .ok (.aload_n 0, 1) := by decide +kernel
theorem dL_law_225 : decode cL_law 225 = .ok (.iload 4, 2) := by decide +kernel
theorem dL_law_227 : decode cL_law 227 = .ok (.iconst 4, 1) := by decide +kernel
theorem dL_law_228 : decode cL_law 228 = .ok (.iadd, 1) := by decide +kernel
theorem dL_law_229 : decode cL_law 229 = .ok (.iaload, 1) := by decide +kernel
theorem dL_law_230 : decode cL_law 230 = .ok (.aload_n 0, 1) := by decide +kernel
theorem dL_law_231 : decode cL_law 231 = .ok (.iload 4, 2) := by decide +kernel
theorem dL_law_233 : decode cL_law 233 = .ok (.iconst 5, 1) := by decide +kernel
theorem dL_law_234 : decode cL_law 234 = .ok (.iadd, 1) := by decide +kernel
theorem dL_law_235 : decode cL_law 235 = .ok (.iaload, 1) := by decide +kernel
theorem dL_law_236 : decode cL_law 236 = .ok (.invokevirtual 58, 3) := by decide +kernel
theorem dL_law_239 : decode cL_law 239 = .ok (.istore 6, 2) := by decide +kernel
theorem dL_law_241 : decode cL_law 241 = .ok (.aload_n 2, 1) := by decide +kernel
theorem dL_law_242 : decode cL_law 242 = .ok (.invokevirtual 52, 3) := by decide +kernel
theorem dL_law_245 : decode cL_law 245 = .ok (.iload 5, 2) := by decide +kernel
theorem dL_law_247 : decode cL_law 247 = .ok (.if_icmp .eq 5, 3) := by decide +kernel
theorem dL_law_250 : decode cL_law 250 = .ok (.iconst 0, 1) := by decide +kernel
theorem dL_law_251 : decode cL_law 251 = .ok (.ireturn, 1) := by decide +kernel
theorem dL_law_252 : decode cL_law 252 = .ok (.iload 5, 2) := by decide +kernel
theorem dL_law_254 : decode cL_law 254 = .ok (.ifCond .ne 15, 3) := by decide +kernel
theorem dL_law_257 : decode cL_law 257 = .ok (.aload_n 3, 1) := by decide +kernel
theorem dL_law_258 : decode cL_law 258 = .ok (.iconst 0, 1) := by decide +kernel
theorem dL_law_259 : decode cL_law 259 = .ok (.laload, 1) := by decide +kernel
theorem dL_law_260 : decode cL_law 260 = .ok (.iload 6, 2) := by decide +kernel
theorem dL_law_262 : decode cL_law 262 = .ok (.i2l, 1) := by decide +kernel
theorem dL_law_263 : decode cL_law 263 = .ok (.lcmp, 1) := by decide +kernel
theorem dL_law_264 : decode cL_law 264 = .ok (.ifCond .eq 5, 3) := by decide +kernel
theorem dL_law_267 : decode cL_law 267 = .ok (.iconst 0, 1) := by decide +kernel
theorem dL_law_268 : decode cL_law 268 = .ok (.ireturn, 1) := by decide +kernel
theorem dL_law_269 : decode cL_law 269 = .ok (.goto 726, 3) := by decide +kernel
theorem dL_law_272 : decode cL_law 272 = .ok (.aload_n 1, 1) := by decide +kernel
theorem dL_law_273 : decode cL_law 273 = .ok (.aload_n 0, 1) := by decide +kernel
theorem dL_law_274 : decode cL_law 274 = .ok (.iload 4, 2) := by decide +kernel
theorem dL_law_276 : decode cL_law 276 = .ok (.iconst 1, 1) := by decide +kernel
theorem dL_law_277 : decode cL_law 277 = .ok (.iadd, 1) := by decide +kernel
theorem dL_law_278 : decode cL_law 278 = .ok (.iaload, 1) := by decide +kernel
theorem dL_law_279 : decode cL_law 279 = .ok (.aload_n 0, 1) := by decide +kernel
theorem dL_law_280 : decode cL_law 280 = .ok (.iload 4, 2) := by decide +kernel
theorem dL_law_282 : decode cL_law 282 = .ok (.iconst 2, 1) := by decide +kernel
theorem dL_law_283 : decode cL_law 283 = .ok (.iadd, 1) := by decide +kernel
theorem dL_law_284 : decode cL_law 284 = .ok (.iaload, 1) := by decide +kernel
theorem dL_law_285 : decode cL_law 285 = .ok (.ifCond .eq 7, 3) := by decide +kernel
theorem dL_law_288 : decode cL_law 288 = .ok (.iconst 1, 1) := by decide +kernel
theorem dL_law_289 : decode cL_law 289 = .ok (.goto 4, 3) := by decide +kernel
theorem dL_law_292 : decode cL_law 292 = .ok (.iconst 0, 1) := by decide +kernel
theorem dL_law_293 : decode cL_law 293 = .ok (.aload_n 3, 1) := by decide +kernel
theorem dL_law_294 : decode cL_law 294 = .ok (.invokestatic 59, 3) := by decide +kernel
theorem dL_law_297 : decode cL_law 297 = .ok (.istore 5, 2) := by decide +kernel
theorem dL_law_299 : decode cL_law 299 = .ok (.aload_n 2, 1) := by decide +kernel
theorem dL_law_300 : decode cL_law 300 = .ok (.aload_n 0, 1) := by decide +kernel
theorem dL_law_301 : decode cL_law 301 = .ok (.iload 4, 2) := by decide +kernel
theorem dL_law_303 : decode cL_law 303 = .ok (.iconst 1, 1) := by decide +kernel
theorem dL_law_304 : decode cL_law 304 = .ok (.iadd, 1) := by decide +kernel
theorem dL_law_305 : decode cL_law 305 = .ok (.iaload, 1) := by decide +kernel
theorem dL_law_306 : decode cL_law 306 = .ok (.aload_n 0, 1) := by decide +kernel
theorem dL_law_307 : decode cL_law 307 = .ok (.iload 4, 2) := by decide +kernel
theorem dL_law_309 : decode cL_law 309 = .ok (.iconst 2, 1) := by decide +kernel
theorem dL_law_310 : decode cL_law 310 = .ok (.iadd, 1) := by decide +kernel
theorem dL_law_311 : decode cL_law 311 = .ok (.iaload, 1) := by decide +kernel
theorem dL_law_312 : decode cL_law 312 = .ok (.ifCond .eq 7, 3) := by decide +kernel
theorem dL_law_315 : decode cL_law 315 = .ok (.iconst 1, 1) := by decide +kernel
theorem dL_law_316 : decode cL_law 316 = .ok (.goto 4, 3) := by decide +kernel
theorem dL_law_319 : decode cL_law 319 = .ok (.iconst 0, 1) := by decide +kernel
theorem dL_law_320 : decode cL_law 320 = .ok (.invokevirtual 62, 3) := by decide +kernel
theorem dL_law_323 : decode cL_law 323 = .ok (.istore 6, 2) := by decide +kernel
theorem dL_law_325 : decode cL_law 325 = .ok (.aload_n 2, 1) := by decide +kernel
theorem dL_law_326 : decode cL_law 326 = .ok (.invokevirtual 52, 3) := by decide +kernel
theorem dL_law_329 : decode cL_law 329 = .ok (.iload 5, 2) := by decide +kernel
theorem dL_law_331 : decode cL_law 331 = .ok (.if_icmp .eq 5, 3) := by decide +kernel
theorem dL_law_334 : decode cL_law 334 = .ok (.iconst 0, 1) := by decide +kernel
theorem dL_law_335 : decode cL_law 335 = .ok (.ireturn, 1) := by decide +kernel
theorem dL_law_336 : decode cL_law 336 = .ok (.iload 5, 2) := by decide +kernel
theorem dL_law_338 : decode cL_law 338 = .ok (.ifCond .ne 15, 3) := by decide +kernel
theorem dL_law_341 : decode cL_law 341 = .ok (.aload_n 3, 1) := by decide +kernel
theorem dL_law_342 : decode cL_law 342 = .ok (.iconst 0, 1) := by decide +kernel
theorem dL_law_343 : decode cL_law 343 = .ok (.laload, 1) := by decide +kernel
theorem dL_law_344 : decode cL_law 344 = .ok (.iload 6, 2) := by decide +kernel
theorem dL_law_346 : decode cL_law 346 = .ok (.i2l, 1) := by decide +kernel
theorem dL_law_347 : decode cL_law 347 = .ok (.lcmp, 1) := by decide +kernel
theorem dL_law_348 : decode cL_law 348 = .ok (.ifCond .eq 5, 3) := by decide +kernel
theorem dL_law_351 : decode cL_law 351 = .ok (.iconst 0, 1) := by decide +kernel
theorem dL_law_352 : decode cL_law 352 = .ok (.ireturn, 1) := by decide +kernel
theorem dL_law_353 : decode cL_law 353 = .ok (.goto 642, 3) := by decide +kernel
theorem dL_law_356 : decode cL_law 356 = .ok (.aload_n 1, 1) := by decide +kernel
theorem dL_law_357 : decode cL_law 357 = .ok (.aload_n 0, 1) := by decide +kernel
theorem dL_law_358 : decode cL_law 358 = .ok (.iload 4, 2) := by decide +kernel
theorem dL_law_360 : decode cL_law 360 = .ok (.iconst 1, 1) := by decide +kernel
theorem dL_law_361 : decode cL_law 361 = .ok (.iadd, 1) := by decide +kernel
theorem dL_law_362 : decode cL_law 362 = .ok (.iaload, 1) := by decide +kernel
theorem dL_law_363 : decode cL_law 363 = .ok (.aload_n 0, 1) := by decide +kernel
theorem dL_law_364 : decode cL_law 364 = .ok (.iload 4, 2) := by decide +kernel
theorem dL_law_366 : decode cL_law 366 = .ok (.iconst 2, 1) := by decide +kernel
theorem dL_law_367 : decode cL_law 367 = .ok (.iadd, 1) := by decide +kernel
theorem dL_law_368 : decode cL_law 368 = .ok (.iaload, 1) := by decide +kernel
theorem dL_law_369 : decode cL_law 369 = .ok (.aload_n 3, 1) := by decide +kernel
theorem dL_law_370 : decode cL_law 370 = .ok (.invokestatic 63, 3) := by decide +kernel
theorem dL_law_373 : decode cL_law 373 = .ok (.istore 5, 2) := by decide +kernel
theorem dL_law_375 : decode cL_law 375 = .ok (.aload_n 2, 1) := by decide +kernel
theorem dL_law_376 : decode cL_law 376 = .ok (.aload_n 0, 1) := by decide +kernel
theorem dL_law_377 : decode cL_law 377 = .ok (.iload 4, 2) := by decide +kernel
theorem dL_law_379 : decode cL_law 379 = .ok (.iconst 1, 1) := by decide +kernel
theorem dL_law_380 : decode cL_law 380 = .ok (.iadd, 1) := by decide +kernel
theorem dL_law_381 : decode cL_law 381 = .ok (.iaload, 1) := by decide +kernel
theorem dL_law_382 : decode cL_law 382 = .ok (.aload_n 0, 1) := by decide +kernel
theorem dL_law_383 : decode cL_law 383 = .ok (.iload 4, 2) := by decide +kernel
theorem dL_law_385 : decode cL_law 385 = .ok (.iconst 2, 1) := by decide +kernel
theorem dL_law_386 : decode cL_law 386 = .ok (.iadd, 1) := by decide +kernel
