/-! decode rows, made by a program of mine -/
theorem dX4_run_30 : decode cX4_run 30 = .ok (.iconst 1, 1) := by decide +kernel
theorem dX4_run_31 : decode cX4_run 31 = .ok (.istore_n 1, 1) := by decide +kernel
theorem dX4_run_32 : decode cX4_run 32 = .ok (.iload_n 1, 1) := by decide +kernel
theorem dX4_run_33 : decode cX4_run 33 = .ok (.ifCond .eq 55, 3) := by decide +kernel
theorem dX4_run_36 : decode cX4_run 36 = .ok (.iconst 0, 1) := by decide +kernel
theorem dX4_run_37 : decode cX4_run 37 = .ok (.istore_n 1, 1) := by decide +kernel
theorem dX4_run_38 : decode cX4_run 38 = .ok (.iconst 0, 1) := by decide +kernel
theorem dX4_run_39 : decode cX4_run 39 = .ok (.istore_n 2, 1) := by decide +kernel
theorem dX4_run_40 : decode cX4_run 40 = .ok (.iload_n 2, 1) := by decide +kernel
theorem dX4_run_41 : decode cX4_run 41 = .ok (.aload_n 0, 1) := by decide +kernel
theorem dX4_run_42 : decode cX4_run 42 = .ok (.getfield 66, 3) := by decide +kernel
theorem dX4_run_45 : decode cX4_run 45 = .ok (.if_icmp .ge 40, 3) := by decide +kernel
theorem dX4_run_48 : decode cX4_run 48 = .ok (.aload_n 0, 1) := by decide +kernel
theorem dX4_run_49 : decode cX4_run 49 = .ok (.getfield 38, 3) := by decide +kernel
theorem dX4_run_52 : decode cX4_run 52 = .ok (.iload_n 2, 1) := by decide +kernel
theorem dX4_run_53 : decode cX4_run 53 = .ok (.iaload, 1) := by decide +kernel
theorem dX4_run_54 : decode cX4_run 54 = .ok (.ifCond .ge 25, 3) := by decide +kernel
theorem dX4_run_57 : decode cX4_run 57 = .ok (.aload_n 0, 1) := by decide +kernel
theorem dX4_run_58 : decode cX4_run 58 = .ok (.getfield 35, 3) := by decide +kernel
theorem dX4_run_61 : decode cX4_run 61 = .ok (.iload_n 2, 1) := by decide +kernel
theorem dX4_run_62 : decode cX4_run 62 = .ok (.iaload, 1) := by decide +kernel
theorem dX4_run_63 : decode cX4_run 63 = .ok (.aload_n 0, 1) := by decide +kernel
theorem dX4_run_64 : decode cX4_run 64 = .ok (.getfield 26, 3) := by decide +kernel
theorem dX4_run_67 : decode cX4_run 67 = .ok (.iload_n 2, 1) := by decide +kernel
theorem dX4_run_68 : decode cX4_run 68 = .ok (.iaload, 1) := by decide +kernel
theorem dX4_run_69 : decode cX4_run 69 = .ok (.if_icmp .ge 10, 3) := by decide +kernel
theorem dX4_run_72 : decode cX4_run 72 = .ok (.aload_n 0, 1) := by decide +kernel
theorem dX4_run_73 : decode cX4_run 73 = .ok (.iload_n 2, 1) := by decide +kernel
theorem dX4_run_74 : decode cX4_run 74 = .ok (.invokevirtual 100, 3) := by decide +kernel
theorem dX4_run_77 : decode cX4_run 77 = .ok (.iconst 1, 1) := by decide +kernel
theorem dX4_run_78 : decode cX4_run 78 = .ok (.istore_n 1, 1) := by decide +kernel
theorem dX4_run_79 : decode cX4_run 79 = .ok (.iinc 2 1, 3) := by decide +kernel
theorem dX4_run_82 : decode cX4_run 82 = .ok (.goto (-42), 3) := by decide +kernel
theorem dX4_run_85 : decode cX4_run 85 = .ok (.goto (-53), 3) := by decide +kernel
theorem dX4_run_88 : decode cX4_run 88 = .ok (.aload_n 0, 1) := by decide +kernel
theorem dX4_run_89 : decode cX4_run 89 = .ok (.invokevirtual 103, 3) := by decide +kernel
theorem dX4_run_92 : decode cX4_run 92 = .ok (.ireturn, 1) := by decide +kernel
theorem dX4_ask_0 : decode cX4_ask 0 = .ok (.aload_n 0, 1) := by decide +kernel
theorem dX4_ask_1 : decode cX4_ask 1 = .ok (.getfield 29, 3) := by decide +kernel
theorem dX4_ask_4 : decode cX4_ask 4 = .ok (.iconst 4, 1) := by decide +kernel
theorem dX4_ask_5 : decode cX4_ask 5 = .ok (.iload_n 1, 1) := by decide +kernel
theorem dX4_ask_6 : decode cX4_ask 6 = .ok (.imul, 1) := by decide +kernel
theorem dX4_ask_7 : decode cX4_ask 7 = .ok (.aload_n 0, 1) := by decide +kernel
theorem dX4_ask_8 : decode cX4_ask 8 = .ok (.getfield 35, 3) := by decide +kernel
theorem dX4_ask_11 : decode cX4_ask 11 = .ok (.iload_n 1, 1) := by decide +kernel
theorem dX4_ask_12 : decode cX4_ask 12 = .ok (.iaload, 1) := by decide +kernel
theorem dX4_ask_13 : decode cX4_ask 13 = .ok (.iadd, 1) := by decide +kernel
theorem dX4_ask_14 : decode cX4_ask 14 = .ok (.iaload, 1) := by decide +kernel
theorem dX4_ask_15 : decode cX4_ask 15 = .ok (.istore_n 2, 1) := by decide +kernel
theorem dX4_ask_16 : decode cX4_ask 16 = .ok (.aload_n 0, 1) := by decide +kernel
theorem dX4_ask_17 : decode cX4_ask 17 = .ok (.getfield 35, 3) := by decide +kernel
theorem dX4_ask_20 : decode cX4_ask 20 = .ok (.iload_n 1, 1) := by decide +kernel
theorem dX4_ask_21 : decode cX4_ask 21 = .ok (.dup2, 1) := by decide +kernel
theorem dX4_ask_22 : decode cX4_ask 22 = .ok (.iaload, 1) := by decide +kernel
theorem dX4_ask_23 : decode cX4_ask 23 = .ok (.iconst 1, 1) := by decide +kernel
theorem dX4_ask_24 : decode cX4_ask 24 = .ok (.iadd, 1) := by decide +kernel
theorem dX4_ask_25 : decode cX4_ask 25 = .ok (.iastore, 1) := by decide +kernel
theorem dX4_ask_26 : decode cX4_ask 26 = .ok (.iconst 0, 1) := by decide +kernel
theorem dX4_ask_27 : decode cX4_ask 27 = .ok (.istore_n 3, 1) := by decide +kernel
theorem dX4_ask_28 : decode cX4_ask 28 = .ok (.iload_n 3, 1) := by decide +kernel
theorem dX4_ask_29 : decode cX4_ask 29 = .ok (.aload_n 0, 1) := by decide +kernel
theorem dX4_ask_30 : decode cX4_ask 30 = .ok (.getfield 66, 3) := by decide +kernel
theorem dX4_ask_33 : decode cX4_ask 33 = .ok (.if_icmp .ge 35, 3) := by decide +kernel
theorem dX4_ask_36 : decode cX4_ask 36 = .ok (.aload_n 0, 1) := by decide +kernel
theorem dX4_ask_37 : decode cX4_ask 37 = .ok (.getfield 53, 3) := by decide +kernel
theorem dX4_ask_40 : decode cX4_ask 40 = .ok (.iload_n 3, 1) := by decide +kernel
theorem dX4_ask_41 : decode cX4_ask 41 = .ok (.iload_n 3, 1) := by decide +kernel
theorem dX4_ask_42 : decode cX4_ask 42 = .ok (.iload_n 1, 1) := by decide +kernel
theorem dX4_ask_43 : decode cX4_ask 43 = .ok (.if_icmp .eq 13, 3) := by decide +kernel
theorem dX4_ask_46 : decode cX4_ask 46 = .ok (.aload_n 0, 1) := by decide +kernel
theorem dX4_ask_47 : decode cX4_ask 47 = .ok (.getfield 38, 3) := by decide +kernel
theorem dX4_ask_50 : decode cX4_ask 50 = .ok (.iload_n 3, 1) := by decide +kernel
theorem dX4_ask_51 : decode cX4_ask 51 = .ok (.iaload, 1) := by decide +kernel
theorem dX4_ask_52 : decode cX4_ask 52 = .ok (.iload_n 2, 1) := by decide +kernel
theorem dX4_ask_53 : decode cX4_ask 53 = .ok (.if_icmp .ne 7, 3) := by decide +kernel
theorem dX4_ask_56 : decode cX4_ask 56 = .ok (.iconst 1, 1) := by decide +kernel
theorem dX4_ask_57 : decode cX4_ask 57 = .ok (.goto 4, 3) := by decide +kernel
theorem dX4_ask_60 : decode cX4_ask 60 = .ok (.iconst 0, 1) := by decide +kernel
theorem dX4_ask_61 : decode cX4_ask 61 = .ok (.bastore, 1) := by decide +kernel
theorem dX4_ask_62 : decode cX4_ask 62 = .ok (.iinc 3 1, 3) := by decide +kernel
theorem dX4_ask_65 : decode cX4_ask 65 = .ok (.goto (-37), 3) := by decide +kernel
theorem dX4_ask_68 : decode cX4_ask 68 = .ok (.aload_n 0, 1) := by decide +kernel
theorem dX4_ask_69 : decode cX4_ask 69 = .ok (.iload_n 2, 1) := by decide +kernel
theorem dX4_ask_70 : decode cX4_ask 70 = .ok (.invokevirtual 96, 3) := by decide +kernel
theorem dX4_ask_73 : decode cX4_ask 73 = .ok (.iconst 0, 1) := by decide +kernel
theorem dX4_ask_74 : decode cX4_ask 74 = .ok (.istore_n 3, 1) := by decide +kernel
theorem dX4_ask_75 : decode cX4_ask 75 = .ok (.iload_n 3, 1) := by decide +kernel
theorem dX4_ask_76 : decode cX4_ask 76 = .ok (.aload_n 0, 1) := by decide +kernel
theorem dX4_ask_77 : decode cX4_ask 77 = .ok (.getfield 66, 3) := by decide +kernel
theorem dX4_ask_80 : decode cX4_ask 80 = .ok (.if_icmp .ge 50, 3) := by decide +kernel
theorem dX4_ask_83 : decode cX4_ask 83 = .ok (.aload_n 0, 1) := by decide +kernel
theorem dX4_ask_84 : decode cX4_ask 84 = .ok (.getfield 53, 3) := by decide +kernel
theorem dX4_ask_87 : decode cX4_ask 87 = .ok (.iload_n 3, 1) := by decide +kernel
theorem dX4_ask_88 : decode cX4_ask 88 = .ok (.baload, 1) := by decide +kernel
theorem dX4_ask_89 : decode cX4_ask 89 = .ok (.ifCond .eq 35, 3) := by decide +kernel
theorem dX4_ask_92 : decode cX4_ask 92 = .ok (.aload_n 0, 1) := by decide +kernel
theorem dX4_ask_93 : decode cX4_ask 93 = .ok (.getfield 38, 3) := by decide +kernel
theorem dX4_ask_96 : decode cX4_ask 96 = .ok (.iload_n 3, 1) := by decide +kernel
theorem dX4_ask_97 : decode cX4_ask 97 = .ok (.aload_n 0, 1) := by decide +kernel
theorem dX4_ask_98 : decode cX4_ask 98 = .ok (.getfield 56, 3) := by decide +kernel
theorem dX4_ask_101 : decode cX4_ask 101 = .ok (.iload_n 3, 1) := by decide +kernel
theorem dX4_ask_102 : decode cX4_ask 102 = .ok (.iaload, 1) := by decide +kernel
theorem dX4_ask_103 : decode cX4_ask 103 = .ok (.ifCond .ge 7, 3) := by decide +kernel
theorem dX4_ask_106 : decode cX4_ask 106 = .ok (.iconst (-1), 1) := by decide +kernel
theorem dX4_ask_107 : decode cX4_ask 107 = .ok (.goto 4, 3) := by decide +kernel
theorem dX4_ask_110 : decode cX4_ask 110 = .ok (.iload_n 2, 1) := by decide +kernel
theorem dX4_ask_111 : decode cX4_ask 111 = .ok (.iastore, 1) := by decide +kernel
theorem dX4_ask_112 : decode cX4_ask 112 = .ok (.aload_n 0, 1) := by decide +kernel
theorem dX4_ask_113 : decode cX4_ask 113 = .ok (.getfield 41, 3) := by decide +kernel
theorem dX4_ask_116 : decode cX4_ask 116 = .ok (.iload_n 3, 1) := by decide +kernel
theorem dX4_ask_117 : decode cX4_ask 117 = .ok (.aload_n 0, 1) := by decide +kernel
theorem dX4_ask_118 : decode cX4_ask 118 = .ok (.getfield 56, 3) := by decide +kernel
theorem dX4_ask_121 : decode cX4_ask 121 = .ok (.iload_n 3, 1) := by decide +kernel
theorem dX4_ask_122 : decode cX4_ask 122 = .ok (.iaload, 1) := by decide +kernel
theorem dX4_ask_123 : decode cX4_ask 123 = .ok (.iastore, 1) := by decide +kernel
theorem dX4_ask_124 : decode cX4_ask 124 = .ok (.iinc 3 1, 3) := by decide +kernel
theorem dX4_ask_127 : decode cX4_ask 127 = .ok (.goto (-52), 3) := by decide +kernel
theorem dX4_ask_130 : decode cX4_ask 130 = .ok (.return_, 1) := by decide +kernel
theorem dX4_choose_0 : decode cX4_choose 0 = .ok (.iconst 0, 1) := by decide +kernel
theorem dX4_choose_1 : decode cX4_choose 1 = .ok (.istore_n 2, 1) := by decide +kernel
theorem dX4_choose_2 : decode cX4_choose 2 = .ok (.iload_n 2, 1) := by decide +kernel
theorem dX4_choose_3 : decode cX4_choose 3 = .ok (.aload_n 0, 1) := by decide +kernel
theorem dX4_choose_4 : decode cX4_choose 4 = .ok (.getfield 66, 3) := by decide +kernel
theorem dX4_choose_7 : decode cX4_choose 7 = .ok (.if_icmp .ge 16, 3) := by decide +kernel
theorem dX4_choose_10 : decode cX4_choose 10 = .ok (.aload_n 0, 1) := by decide +kernel
theorem dX4_choose_11 : decode cX4_choose 11 = .ok (.getfield 56, 3) := by decide +kernel
theorem dX4_choose_14 : decode cX4_choose 14 = .ok (.iload_n 2, 1) := by decide +kernel
theorem dX4_choose_15 : decode cX4_choose 15 = .ok (.iconst (-1), 1) := by decide +kernel
theorem dX4_choose_16 : decode cX4_choose 16 = .ok (.iastore, 1) := by decide +kernel
theorem dX4_choose_17 : decode cX4_choose 17 = .ok (.iinc 2 1, 3) := by decide +kernel
theorem dX4_choose_20 : decode cX4_choose 20 = .ok (.goto (-18), 3) := by decide +kernel
theorem dX4_choose_23 : decode cX4_choose 23 = .ok (.iconst 0, 1) := by decide +kernel
theorem dX4_choose_24 : decode cX4_choose 24 = .ok (.istore_n 2, 1) := by decide +kernel
theorem dX4_choose_25 : decode cX4_choose 25 = .ok (.iload_n 2, 1) := by decide +kernel
theorem dX4_choose_26 : decode cX4_choose 26 = .ok (.aload_n 0, 1) := by decide +kernel
theorem dX4_choose_27 : decode cX4_choose 27 = .ok (.getfield 7, 3) := by decide +kernel
theorem dX4_choose_30 : decode cX4_choose 30 = .ok (.iload_n 1, 1) := by decide +kernel
theorem dX4_choose_31 : decode cX4_choose 31 = .ok (.iaload, 1) := by decide +kernel
theorem dX4_choose_32 : decode cX4_choose 32 = .ok (.if_icmp .ge 150, 3) := by decide +kernel
theorem dX4_choose_35 : decode cX4_choose 35 = .ok (.iconst 0, 1) := by decide +kernel
theorem dX4_choose_36 : decode cX4_choose 36 = .ok (.istore_n 3, 1) := by decide +kernel
theorem dX4_choose_37 : decode cX4_choose 37 = .ok (.iload_n 3, 1) := by decide +kernel
theorem dX4_choose_38 : decode cX4_choose 38 = .ok (.aload_n 0, 1) := by decide +kernel
theorem dX4_choose_39 : decode cX4_choose 39 = .ok (.getfield 13, 3) := by decide +kernel
theorem dX4_choose_42 : decode cX4_choose 42 = .ok (.iconst 3, 1) := by decide +kernel
theorem dX4_choose_43 : decode cX4_choose 43 = .ok (.iload_n 1, 1) := by decide +kernel
theorem dX4_choose_44 : decode cX4_choose 44 = .ok (.imul, 1) := by decide +kernel
theorem dX4_choose_45 : decode cX4_choose 45 = .ok (.iload_n 2, 1) := by decide +kernel
theorem dX4_choose_46 : decode cX4_choose 46 = .ok (.iadd, 1) := by decide +kernel
theorem dX4_choose_47 : decode cX4_choose 47 = .ok (.iaload, 1) := by decide +kernel
theorem dX4_choose_48 : decode cX4_choose 48 = .ok (.if_icmp .ge 128, 3) := by decide +kernel
theorem dX4_choose_51 : decode cX4_choose 51 = .ok (.iconst (-1), 1) := by decide +kernel
theorem dX4_choose_52 : decode cX4_choose 52 = .ok (.istore 4, 2) := by decide +kernel
theorem dX4_choose_54 : decode cX4_choose 54 = .ok (.iconst 0, 1) := by decide +kernel
theorem dX4_choose_55 : decode cX4_choose 55 = .ok (.istore 5, 2) := by decide +kernel
theorem dX4_choose_57 : decode cX4_choose 57 = .ok (.iload 5, 2) := by decide +kernel
theorem dX4_choose_59 : decode cX4_choose 59 = .ok (.aload_n 0, 1) := by decide +kernel
theorem dX4_choose_60 : decode cX4_choose 60 = .ok (.getfield 66, 3) := by decide +kernel
theorem dX4_choose_63 : decode cX4_choose 63 = .ok (.if_icmp .ge 94, 3) := by decide +kernel
theorem dX4_choose_66 : decode cX4_choose 66 = .ok (.aload_n 0, 1) := by decide +kernel
theorem dX4_choose_67 : decode cX4_choose 67 = .ok (.getfield 53, 3) := by decide +kernel
theorem dX4_choose_70 : decode cX4_choose 70 = .ok (.iload 5, 2) := by decide +kernel
theorem dX4_choose_72 : decode cX4_choose 72 = .ok (.baload, 1) := by decide +kernel
theorem dX4_choose_73 : decode cX4_choose 73 = .ok (.ifCond .eq 28, 3) := by decide +kernel
theorem dX4_choose_76 : decode cX4_choose 76 = .ok (.aload_n 0, 1) := by decide +kernel
theorem dX4_choose_77 : decode cX4_choose 77 = .ok (.getfield 56, 3) := by decide +kernel
theorem dX4_choose_80 : decode cX4_choose 80 = .ok (.iload 5, 2) := by decide +kernel
theorem dX4_choose_82 : decode cX4_choose 82 = .ok (.iaload, 1) := by decide +kernel
theorem dX4_choose_83 : decode cX4_choose 83 = .ok (.ifCond .ge 18, 3) := by decide +kernel
theorem dX4_choose_86 : decode cX4_choose 86 = .ok (.aload_n 0, 1) := by decide +kernel
theorem dX4_choose_87 : decode cX4_choose 87 = .ok (.iload 5, 2) := by decide +kernel
theorem dX4_choose_89 : decode cX4_choose 89 = .ok (.iload_n 1, 1) := by decide +kernel
theorem dX4_choose_90 : decode cX4_choose 90 = .ok (.iload_n 2, 1) := by decide +kernel
theorem dX4_choose_91 : decode cX4_choose 91 = .ok (.invokevirtual 89, 3) := by decide +kernel
theorem dX4_choose_94 : decode cX4_choose 94 = .ok (.ifCond .eq 7, 3) := by decide +kernel
theorem dX4_choose_97 : decode cX4_choose 97 = .ok (.iconst 1, 1) := by decide +kernel
theorem dX4_choose_98 : decode cX4_choose 98 = .ok (.goto 4, 3) := by decide +kernel
theorem dX4_choose_101 : decode cX4_choose 101 = .ok (.iconst 0, 1) := by decide +kernel
theorem dX4_choose_102 : decode cX4_choose 102 = .ok (.istore 6, 2) := by decide +kernel
theorem dX4_choose_104 : decode cX4_choose 104 = .ok (.iload 6, 2) := by decide +kernel
theorem dX4_choose_106 : decode cX4_choose 106 = .ok (.ifCond .eq 41, 3) := by decide +kernel
theorem dX4_choose_109 : decode cX4_choose 109 = .ok (.iload 4, 2) := by decide +kernel
theorem dX4_choose_111 : decode cX4_choose 111 = .ok (.ifCond .lt 31, 3) := by decide +kernel
theorem dX4_choose_114 : decode cX4_choose 114 = .ok (.aload_n 0, 1) := by decide +kernel
theorem dX4_choose_115 : decode cX4_choose 115 = .ok (.iload 5, 2) := by decide +kernel
theorem dX4_choose_117 : decode cX4_choose 117 = .ok (.iload_n 1, 1) := by decide +kernel
theorem dX4_choose_118 : decode cX4_choose 118 = .ok (.iload_n 2, 1) := by decide +kernel
theorem dX4_choose_119 : decode cX4_choose 119 = .ok (.invokevirtual 93, 3) := by decide +kernel
theorem dX4_choose_122 : decode cX4_choose 122 = .ok (.aload_n 0, 1) := by decide +kernel
theorem dX4_choose_123 : decode cX4_choose 123 = .ok (.iload 4, 2) := by decide +kernel
theorem dX4_choose_125 : decode cX4_choose 125 = .ok (.ifCond .ge 7, 3) := by decide +kernel
theorem dX4_choose_128 : decode cX4_choose 128 = .ok (.iconst 0, 1) := by decide +kernel
theorem dX4_choose_129 : decode cX4_choose 129 = .ok (.goto 5, 3) := by decide +kernel
theorem dX4_choose_132 : decode cX4_choose 132 = .ok (.iload 4, 2) := by decide +kernel
theorem dX4_choose_134 : decode cX4_choose 134 = .ok (.iload_n 1, 1) := by decide +kernel
theorem dX4_choose_135 : decode cX4_choose 135 = .ok (.iload_n 2, 1) := by decide +kernel
theorem dX4_choose_136 : decode cX4_choose 136 = .ok (.invokevirtual 93, 3) := by decide +kernel
theorem dX4_choose_139 : decode cX4_choose 139 = .ok (.if_icmp .ge 8, 3) := by decide +kernel
theorem dX4_choose_142 : decode cX4_choose 142 = .ok (.iload 5, 2) := by decide +kernel
theorem dX4_choose_144 : decode cX4_choose 144 = .ok (.goto 5, 3) := by decide +kernel
theorem dX4_choose_147 : decode cX4_choose 147 = .ok (.iload 4, 2) := by decide +kernel
theorem dX4_choose_149 : decode cX4_choose 149 = .ok (.istore 4, 2) := by decide +kernel
theorem dX4_choose_151 : decode cX4_choose 151 = .ok (.iinc 5 1, 3) := by decide +kernel
theorem dX4_choose_154 : decode cX4_choose 154 = .ok (.goto (-97), 3) := by decide +kernel
theorem dX4_choose_157 : decode cX4_choose 157 = .ok (.iload 4, 2) := by decide +kernel
theorem dX4_choose_159 : decode cX4_choose 159 = .ok (.ifCond .lt 11, 3) := by decide +kernel
theorem dX4_choose_162 : decode cX4_choose 162 = .ok (.aload_n 0, 1) := by decide +kernel
theorem dX4_choose_163 : decode cX4_choose 163 = .ok (.getfield 56, 3) := by decide +kernel
theorem dX4_choose_166 : decode cX4_choose 166 = .ok (.iload 4, 2) := by decide +kernel
theorem dX4_choose_168 : decode cX4_choose 168 = .ok (.iload_n 2, 1) := by decide +kernel
theorem dX4_choose_169 : decode cX4_choose 169 = .ok (.iastore, 1) := by decide +kernel
theorem dX4_choose_170 : decode cX4_choose 170 = .ok (.iinc 3 1, 3) := by decide +kernel
theorem dX4_choose_173 : decode cX4_choose 173 = .ok (.goto (-136), 3) := by decide +kernel
theorem dX4_choose_176 : decode cX4_choose 176 = .ok (.iinc 2 1, 3) := by decide +kernel
theorem dX4_choose_179 : decode cX4_choose 179 = .ok (.goto (-154), 3) := by decide +kernel
theorem dX4_choose_182 : decode cX4_choose 182 = .ok (.return_, 1) := by decide +kernel
theorem dX4_eligible_0 : decode cX4_eligible 0 = .ok (.aload_n 0, 1) := by decide +kernel
theorem dX4_eligible_1 : decode cX4_eligible 1 = .ok (.iload_n 1, 1) := by decide +kernel
theorem dX4_eligible_2 : decode cX4_eligible 2 = .ok (.iload_n 2, 1) := by decide +kernel
theorem dX4_eligible_3 : decode cX4_eligible 3 = .ok (.iload_n 3, 1) := by decide +kernel
theorem dX4_eligible_4 : decode cX4_eligible 4 = .ok (.invokevirtual 84, 3) := by decide +kernel
theorem dX4_eligible_7 : decode cX4_eligible 7 = .ok (.bipush 9, 2) := by decide +kernel
theorem dX4_eligible_9 : decode cX4_eligible 9 = .ok (.if_icmp .ge 7, 3) := by decide +kernel
theorem dX4_eligible_12 : decode cX4_eligible 12 = .ok (.iconst 1, 1) := by decide +kernel
theorem dX4_eligible_13 : decode cX4_eligible 13 = .ok (.goto 4, 3) := by decide +kernel
theorem dX4_eligible_16 : decode cX4_eligible 16 = .ok (.iconst 0, 1) := by decide +kernel
theorem dX4_eligible_17 : decode cX4_eligible 17 = .ok (.ireturn, 1) := by decide +kernel
theorem dX4_band_0 : decode cX4_band 0 = .ok (.iconst 0, 1) := by decide +kernel
theorem dX4_band_1 : decode cX4_band 1 = .ok (.istore 4, 2) := by decide +kernel
theorem dX4_band_3 : decode cX4_band 3 = .ok (.iload 4, 2) := by decide +kernel
theorem dX4_band_5 : decode cX4_band 5 = .ok (.iconst 3, 1) := by decide +kernel
theorem dX4_band_6 : decode cX4_band 6 = .ok (.if_icmp .ge 49, 3) := by decide +kernel
theorem dX4_band_9 : decode cX4_band 9 = .ok (.aload_n 0, 1) := by decide +kernel
theorem dX4_band_10 : decode cX4_band 10 = .ok (.getfield 16, 3) := by decide +kernel
theorem dX4_band_13 : decode cX4_band 13 = .ok (.bipush 9, 2) := by decide +kernel
theorem dX4_band_15 : decode cX4_band 15 = .ok (.iload_n 2, 1) := by decide +kernel
theorem dX4_band_16 : decode cX4_band 16 = .ok (.imul, 1) := by decide +kernel
theorem dX4_band_17 : decode cX4_band 17 = .ok (.iconst 3, 1) := by decide +kernel
theorem dX4_band_18 : decode cX4_band 18 = .ok (.iload_n 3, 1) := by decide +kernel
theorem dX4_band_19 : decode cX4_band 19 = .ok (.imul, 1) := by decide +kernel
theorem dX4_band_20 : decode cX4_band 20 = .ok (.iadd, 1) := by decide +kernel
theorem dX4_band_21 : decode cX4_band 21 = .ok (.iload 4, 2) := by decide +kernel
theorem dX4_band_23 : decode cX4_band 23 = .ok (.iadd, 1) := by decide +kernel
theorem dX4_band_24 : decode cX4_band 24 = .ok (.iaload, 1) := by decide +kernel
theorem dX4_band_25 : decode cX4_band 25 = .ok (.istore 5, 2) := by decide +kernel
theorem dX4_band_27 : decode cX4_band 27 = .ok (.iload 5, 2) := by decide +kernel
theorem dX4_band_29 : decode cX4_band 29 = .ok (.ifCond .lt 20, 3) := by decide +kernel
theorem dX4_band_32 : decode cX4_band 32 = .ok (.aload_n 0, 1) := by decide +kernel
theorem dX4_band_33 : decode cX4_band 33 = .ok (.getfield 19, 3) := by decide +kernel
theorem dX4_band_36 : decode cX4_band 36 = .ok (.iload_n 1, 1) := by decide +kernel
theorem dX4_band_37 : decode cX4_band 37 = .ok (.iaload, 1) := by decide +kernel
theorem dX4_band_38 : decode cX4_band 38 = .ok (.iload 5, 2) := by decide +kernel
theorem dX4_band_40 : decode cX4_band 40 = .ok (.iand, 1) := by decide +kernel
theorem dX4_band_41 : decode cX4_band 41 = .ok (.iload 5, 2) := by decide +kernel
theorem dX4_band_43 : decode cX4_band 43 = .ok (.if_icmp .ne 6, 3) := by decide +kernel
theorem dX4_band_46 : decode cX4_band 46 = .ok (.iload 4, 2) := by decide +kernel
theorem dX4_band_48 : decode cX4_band 48 = .ok (.ireturn, 1) := by decide +kernel
theorem dX4_band_49 : decode cX4_band 49 = .ok (.iinc 4 1, 3) := by decide +kernel
theorem dX4_band_52 : decode cX4_band 52 = .ok (.goto (-49), 3) := by decide +kernel
theorem dX4_band_55 : decode cX4_band 55 = .ok (.bipush 9, 2) := by decide +kernel
theorem dX4_band_57 : decode cX4_band 57 = .ok (.ireturn, 1) := by decide +kernel
theorem dX4_rank_0 : decode cX4_rank 0 = .ok (.aload_n 0, 1) := by decide +kernel
theorem dX4_rank_1 : decode cX4_rank 1 = .ok (.getfield 32, 3) := by decide +kernel
theorem dX4_rank_4 : decode cX4_rank 4 = .ok (.bipush 6, 2) := by decide +kernel
theorem dX4_rank_6 : decode cX4_rank 6 = .ok (.iload_n 1, 1) := by decide +kernel
theorem dX4_rank_7 : decode cX4_rank 7 = .ok (.imul, 1) := by decide +kernel
theorem dX4_rank_8 : decode cX4_rank 8 = .ok (.iload_n 2, 1) := by decide +kernel
theorem dX4_rank_9 : decode cX4_rank 9 = .ok (.iadd, 1) := by decide +kernel
theorem dX4_rank_10 : decode cX4_rank 10 = .ok (.iaload, 1) := by decide +kernel
theorem dX4_rank_11 : decode cX4_rank 11 = .ok (.istore 4, 2) := by decide +kernel
theorem dX4_rank_13 : decode cX4_rank 13 = .ok (.aload_n 0, 1) := by decide +kernel
theorem dX4_rank_14 : decode cX4_rank 14 = .ok (.getfield 22, 3) := by decide +kernel
theorem dX4_rank_17 : decode cX4_rank 17 = .ok (.iload_n 1, 1) := by decide +kernel
theorem dX4_rank_18 : decode cX4_rank 18 = .ok (.baload, 1) := by decide +kernel
theorem dX4_rank_19 : decode cX4_rank 19 = .ok (.ifCond .eq 8, 3) := by decide +kernel
theorem dX4_rank_22 : decode cX4_rank 22 = .ok (.ldc 88, 2) := by decide +kernel
theorem dX4_rank_24 : decode cX4_rank 24 = .ok (.goto 4, 3) := by decide +kernel
theorem dX4_rank_27 : decode cX4_rank 27 = .ok (.iconst 0, 1) := by decide +kernel
theorem dX4_rank_28 : decode cX4_rank 28 = .ok (.sipush 10000, 3) := by decide +kernel
theorem dX4_rank_31 : decode cX4_rank 31 = .ok (.aload_n 0, 1) := by decide +kernel
theorem dX4_rank_32 : decode cX4_rank 32 = .ok (.iload_n 1, 1) := by decide +kernel
theorem dX4_rank_33 : decode cX4_rank 33 = .ok (.iload_n 2, 1) := by decide +kernel
theorem dX4_rank_34 : decode cX4_rank 34 = .ok (.iload_n 3, 1) := by decide +kernel
theorem dX4_rank_35 : decode cX4_rank 35 = .ok (.invokevirtual 84, 3) := by decide +kernel
theorem dX4_rank_38 : decode cX4_rank 38 = .ok (.imul, 1) := by decide +kernel
theorem dX4_rank_39 : decode cX4_rank 39 = .ok (.iadd, 1) := by decide +kernel
theorem dX4_rank_40 : decode cX4_rank 40 = .ok (.iload 4, 2) := by decide +kernel
theorem dX4_rank_42 : decode cX4_rank 42 = .ok (.ifCond .ge 11, 3) := by decide +kernel
theorem dX4_rank_45 : decode cX4_rank 45 = .ok (.sipush 1000, 3) := by decide +kernel
theorem dX4_rank_48 : decode cX4_rank 48 = .ok (.iload_n 1, 1) := by decide +kernel
theorem dX4_rank_49 : decode cX4_rank 49 = .ok (.iadd, 1) := by decide +kernel
theorem dX4_rank_50 : decode cX4_rank 50 = .ok (.goto 5, 3) := by decide +kernel
theorem dX4_rank_53 : decode cX4_rank 53 = .ok (.iload 4, 2) := by decide +kernel
theorem dX4_rank_55 : decode cX4_rank 55 = .ok (.iadd, 1) := by decide +kernel
theorem dX4_rank_56 : decode cX4_rank 56 = .ok (.ireturn, 1) := by decide +kernel
theorem dX4_placed_0 : decode cX4_placed 0 = .ok (.iconst 0, 1) := by decide +kernel
theorem dX4_placed_1 : decode cX4_placed 1 = .ok (.istore_n 1, 1) := by decide +kernel
theorem dX4_placed_2 : decode cX4_placed 2 = .ok (.iconst 0, 1) := by decide +kernel
theorem dX4_placed_3 : decode cX4_placed 3 = .ok (.istore_n 2, 1) := by decide +kernel
theorem dX4_placed_4 : decode cX4_placed 4 = .ok (.iload_n 2, 1) := by decide +kernel
theorem dX4_placed_5 : decode cX4_placed 5 = .ok (.aload_n 0, 1) := by decide +kernel
theorem dX4_placed_6 : decode cX4_placed 6 = .ok (.getfield 66, 3) := by decide +kernel
theorem dX4_placed_9 : decode cX4_placed 9 = .ok (.if_icmp .ge 33, 3) := by decide +kernel
theorem dX4_placed_12 : decode cX4_placed 12 = .ok (.iload_n 1, 1) := by decide +kernel
theorem dX4_placed_13 : decode cX4_placed 13 = .ok (.aload_n 0, 1) := by decide +kernel
theorem dX4_placed_14 : decode cX4_placed 14 = .ok (.getfield 69, 3) := by decide +kernel
theorem dX4_placed_17 : decode cX4_placed 17 = .ok (.ifCond .eq 16, 3) := by decide +kernel
theorem dX4_placed_20 : decode cX4_placed 20 = .ok (.aload_n 0, 1) := by decide +kernel
theorem dX4_placed_21 : decode cX4_placed 21 = .ok (.getfield 38, 3) := by decide +kernel
theorem dX4_placed_24 : decode cX4_placed 24 = .ok (.iload_n 2, 1) := by decide +kernel
theorem dX4_placed_25 : decode cX4_placed 25 = .ok (.iaload, 1) := by decide +kernel
theorem dX4_placed_26 : decode cX4_placed 26 = .ok (.ifCond .lt 7, 3) := by decide +kernel
theorem dX4_placed_29 : decode cX4_placed 29 = .ok (.iconst 1, 1) := by decide +kernel
theorem dX4_placed_30 : decode cX4_placed 30 = .ok (.goto 4, 3) := by decide +kernel
theorem dX4_placed_33 : decode cX4_placed 33 = .ok (.iconst 0, 1) := by decide +kernel
theorem dX4_placed_34 : decode cX4_placed 34 = .ok (.iadd, 1) := by decide +kernel
theorem dX4_placed_35 : decode cX4_placed 35 = .ok (.istore_n 1, 1) := by decide +kernel
theorem dX4_placed_36 : decode cX4_placed 36 = .ok (.iinc 2 1, 3) := by decide +kernel
theorem dX4_placed_39 : decode cX4_placed 39 = .ok (.goto (-35), 3) := by decide +kernel
theorem dX4_placed_42 : decode cX4_placed 42 = .ok (.iload_n 1, 1) := by decide +kernel
theorem dX4_placed_43 : decode cX4_placed 43 = .ok (.ireturn, 1) := by decide +kernel
theorem dX4_answer_0 : decode cX4_answer 0 = .ok (.aload_n 0, 1) := by decide +kernel
theorem dX4_answer_1 : decode cX4_answer 1 = .ok (.iconst 0, 1) := by decide +kernel
theorem dX4_answer_2 : decode cX4_answer 2 = .ok (.putfield 59, 3) := by decide +kernel
theorem dX4_answer_5 : decode cX4_answer 5 = .ok (.aload_n 0, 1) := by decide +kernel
theorem dX4_answer_6 : decode cX4_answer 6 = .ok (.iload_n 1, 1) := by decide +kernel
theorem dX4_answer_7 : decode cX4_answer 7 = .ok (.invokevirtual 77, 3) := by decide +kernel
theorem dX4_answer_10 : decode cX4_answer 10 = .ok (.ifCond .eq 19, 3) := by decide +kernel
theorem dX4_answer_13 : decode cX4_answer 13 = .ok (.aload_n 0, 1) := by decide +kernel
theorem dX4_answer_14 : decode cX4_answer 14 = .ok (.getfield 69, 3) := by decide +kernel
theorem dX4_answer_17 : decode cX4_answer 17 = .ok (.ifCond .eq 12, 3) := by decide +kernel
theorem dX4_answer_20 : decode cX4_answer 20 = .ok (.iload_n 2, 1) := by decide +kernel
theorem dX4_answer_21 : decode cX4_answer 21 = .ok (.ifCond .lt 8, 3) := by decide +kernel
theorem dX4_answer_24 : decode cX4_answer 24 = .ok (.iload_n 2, 1) := by decide +kernel
theorem dX4_answer_25 : decode cX4_answer 25 = .ok (.iconst 2, 1) := by decide +kernel
theorem dX4_answer_26 : decode cX4_answer 26 = .ok (.if_icmp .le 5, 3) := by decide +kernel
theorem dX4_answer_29 : decode cX4_answer 29 = .ok (.iconst 0, 1) := by decide +kernel
theorem dX4_answer_30 : decode cX4_answer 30 = .ok (.ireturn, 1) := by decide +kernel
theorem dX4_answer_31 : decode cX4_answer 31 = .ok (.aload_n 0, 1) := by decide +kernel
theorem dX4_answer_32 : decode cX4_answer 32 = .ok (.getfield 44, 3) := by decide +kernel
theorem dX4_answer_35 : decode cX4_answer 35 = .ok (.iload_n 1, 1) := by decide +kernel
theorem dX4_answer_36 : decode cX4_answer 36 = .ok (.iaload, 1) := by decide +kernel
theorem dX4_answer_37 : decode cX4_answer 37 = .ok (.iconst 3, 1) := by decide +kernel
theorem dX4_answer_38 : decode cX4_answer 38 = .ok (.if_icmp .eq 26, 3) := by decide +kernel
theorem dX4_answer_41 : decode cX4_answer 41 = .ok (.iload_n 2, 1) := by decide +kernel
theorem dX4_answer_42 : decode cX4_answer 42 = .ok (.iconst 2, 1) := by decide +kernel
theorem dX4_answer_43 : decode cX4_answer 43 = .ok (.if_icmp .ge 23, 3) := by decide +kernel
theorem dX4_answer_46 : decode cX4_answer 46 = .ok (.aload_n 0, 1) := by decide +kernel
theorem dX4_answer_47 : decode cX4_answer 47 = .ok (.getfield 47, 3) := by decide +kernel
theorem dX4_answer_50 : decode cX4_answer 50 = .ok (.iload_n 1, 1) := by decide +kernel
theorem dX4_answer_51 : decode cX4_answer 51 = .ok (.baload, 1) := by decide +kernel
theorem dX4_answer_52 : decode cX4_answer 52 = .ok (.ifCond .ne 12, 3) := by decide +kernel
theorem dX4_answer_55 : decode cX4_answer 55 = .ok (.aload_n 0, 1) := by decide +kernel
theorem dX4_answer_56 : decode cX4_answer 56 = .ok (.getfield 38, 3) := by decide +kernel
theorem dX4_answer_59 : decode cX4_answer 59 = .ok (.iload_n 1, 1) := by decide +kernel
theorem dX4_answer_60 : decode cX4_answer 60 = .ok (.iaload, 1) := by decide +kernel
theorem dX4_answer_61 : decode cX4_answer 61 = .ok (.ifCond .ge 5, 3) := by decide +kernel
theorem dX4_answer_64 : decode cX4_answer 64 = .ok (.iconst 0, 1) := by decide +kernel
theorem dX4_answer_65 : decode cX4_answer 65 = .ok (.ireturn, 1) := by decide +kernel
theorem dX4_answer_66 : decode cX4_answer 66 = .ok (.aload_n 0, 1) := by decide +kernel
theorem dX4_answer_67 : decode cX4_answer 67 = .ok (.getfield 47, 3) := by decide +kernel
theorem dX4_answer_70 : decode cX4_answer 70 = .ok (.iload_n 1, 1) := by decide +kernel
theorem dX4_answer_71 : decode cX4_answer 71 = .ok (.iconst 1, 1) := by decide +kernel
theorem dX4_answer_72 : decode cX4_answer 72 = .ok (.bastore, 1) := by decide +kernel
theorem dX4_answer_73 : decode cX4_answer 73 = .ok (.aload_n 0, 1) := by decide +kernel
theorem dX4_answer_74 : decode cX4_answer 74 = .ok (.getfield 44, 3) := by decide +kernel
theorem dX4_answer_77 : decode cX4_answer 77 = .ok (.iload_n 1, 1) := by decide +kernel
theorem dX4_answer_78 : decode cX4_answer 78 = .ok (.iload_n 2, 1) := by decide +kernel
theorem dX4_answer_79 : decode cX4_answer 79 = .ok (.iconst 1, 1) := by decide +kernel
theorem dX4_answer_80 : decode cX4_answer 80 = .ok (.iadd, 1) := by decide +kernel
theorem dX4_answer_81 : decode cX4_answer 81 = .ok (.iastore, 1) := by decide +kernel
theorem dX4_answer_82 : decode cX4_answer 82 = .ok (.iload_n 2, 1) := by decide +kernel
theorem dX4_answer_83 : decode cX4_answer 83 = .ok (.ifCond .le 8, 3) := by decide +kernel
theorem dX4_answer_86 : decode cX4_answer 86 = .ok (.aload_n 0, 1) := by decide +kernel
theorem dX4_answer_87 : decode cX4_answer 87 = .ok (.iload_n 1, 1) := by decide +kernel
theorem dX4_answer_88 : decode cX4_answer 88 = .ok (.invokevirtual 107, 3) := by decide +kernel
theorem dX4_answer_91 : decode cX4_answer 91 = .ok (.iconst 1, 1) := by decide +kernel
theorem dX4_answer_92 : decode cX4_answer 92 = .ok (.ireturn, 1) := by decide +kernel
theorem dX4_give_0 : decode cX4_give 0 = .ok (.aload_n 0, 1) := by decide +kernel
theorem dX4_give_1 : decode cX4_give 1 = .ok (.getfield 38, 3) := by decide +kernel
theorem dX4_give_4 : decode cX4_give 4 = .ok (.iload_n 1, 1) := by decide +kernel
theorem dX4_give_5 : decode cX4_give 5 = .ok (.iconst (-1), 1) := by decide +kernel
theorem dX4_give_6 : decode cX4_give 6 = .ok (.iastore, 1) := by decide +kernel
theorem dX4_give_7 : decode cX4_give 7 = .ok (.aload_n 0, 1) := by decide +kernel
theorem dX4_give_8 : decode cX4_give 8 = .ok (.getfield 41, 3) := by decide +kernel
theorem dX4_give_11 : decode cX4_give 11 = .ok (.iload_n 1, 1) := by decide +kernel
theorem dX4_give_12 : decode cX4_give 12 = .ok (.iconst (-1), 1) := by decide +kernel
theorem dX4_give_13 : decode cX4_give 13 = .ok (.iastore, 1) := by decide +kernel
theorem dX4_give_14 : decode cX4_give 14 = .ok (.aload_n 0, 1) := by decide +kernel
theorem dX4_give_15 : decode cX4_give 15 = .ok (.getfield 50, 3) := by decide +kernel
theorem dX4_give_18 : decode cX4_give 18 = .ok (.iload_n 1, 1) := by decide +kernel
theorem dX4_give_19 : decode cX4_give 19 = .ok (.iconst 0, 1) := by decide +kernel
theorem dX4_give_20 : decode cX4_give 20 = .ok (.iastore, 1) := by decide +kernel
theorem dX4_give_21 : decode cX4_give 21 = .ok (.return_, 1) := by decide +kernel
theorem dX4_stay_0 : decode cX4_stay 0 = .ok (.aload_n 0, 1) := by decide +kernel
theorem dX4_stay_1 : decode cX4_stay 1 = .ok (.iconst 0, 1) := by decide +kernel
theorem dX4_stay_2 : decode cX4_stay 2 = .ok (.putfield 59, 3) := by decide +kernel
theorem dX4_stay_5 : decode cX4_stay 5 = .ok (.aload_n 0, 1) := by decide +kernel
theorem dX4_stay_6 : decode cX4_stay 6 = .ok (.iload_n 1, 1) := by decide +kernel
theorem dX4_stay_7 : decode cX4_stay 7 = .ok (.invokevirtual 77, 3) := by decide +kernel
theorem dX4_stay_10 : decode cX4_stay 10 = .ok (.ifCond .eq 19, 3) := by decide +kernel
theorem dX4_stay_13 : decode cX4_stay 13 = .ok (.aload_n 0, 1) := by decide +kernel
theorem dX4_stay_14 : decode cX4_stay 14 = .ok (.getfield 69, 3) := by decide +kernel
theorem dX4_stay_17 : decode cX4_stay 17 = .ok (.ifCond .eq 12, 3) := by decide +kernel
theorem dX4_stay_20 : decode cX4_stay 20 = .ok (.iload_n 2, 1) := by decide +kernel
theorem dX4_stay_21 : decode cX4_stay 21 = .ok (.ifCond .lt 8, 3) := by decide +kernel
theorem dX4_stay_24 : decode cX4_stay 24 = .ok (.iload_n 2, 1) := by decide +kernel
theorem dX4_stay_25 : decode cX4_stay 25 = .ok (.iconst 4, 1) := by decide +kernel
theorem dX4_stay_26 : decode cX4_stay 26 = .ok (.if_icmp .le 5, 3) := by decide +kernel
theorem dX4_stay_29 : decode cX4_stay 29 = .ok (.iconst 0, 1) := by decide +kernel
theorem dX4_stay_30 : decode cX4_stay 30 = .ok (.ireturn, 1) := by decide +kernel
theorem dX4_stay_31 : decode cX4_stay 31 = .ok (.aload_n 0, 1) := by decide +kernel
theorem dX4_stay_32 : decode cX4_stay 32 = .ok (.getfield 44, 3) := by decide +kernel
theorem dX4_stay_35 : decode cX4_stay 35 = .ok (.iload_n 1, 1) := by decide +kernel
theorem dX4_stay_36 : decode cX4_stay 36 = .ok (.iaload, 1) := by decide +kernel
theorem dX4_stay_37 : decode cX4_stay 37 = .ok (.iconst 3, 1) := by decide +kernel
theorem dX4_stay_38 : decode cX4_stay 38 = .ok (.if_icmp .ne 5, 3) := by decide +kernel
theorem dX4_stay_41 : decode cX4_stay 41 = .ok (.iconst 0, 1) := by decide +kernel
theorem dX4_stay_42 : decode cX4_stay 42 = .ok (.ireturn, 1) := by decide +kernel
theorem dX4_stay_43 : decode cX4_stay 43 = .ok (.aload_n 0, 1) := by decide +kernel
theorem dX4_stay_44 : decode cX4_stay 44 = .ok (.getfield 50, 3) := by decide +kernel
theorem dX4_stay_47 : decode cX4_stay 47 = .ok (.iload_n 1, 1) := by decide +kernel
theorem dX4_stay_48 : decode cX4_stay 48 = .ok (.iload_n 2, 1) := by decide +kernel
theorem dX4_stay_49 : decode cX4_stay 49 = .ok (.iastore, 1) := by decide +kernel
theorem dX4_stay_50 : decode cX4_stay 50 = .ok (.iconst 1, 1) := by decide +kernel
theorem dX4_stay_51 : decode cX4_stay 51 = .ok (.ireturn, 1) := by decide +kernel
theorem dX4_chain_0 : decode cX4_chain 0 = .ok (.aload_n 0, 1) := by decide +kernel
theorem dX4_chain_1 : decode cX4_chain 1 = .ok (.aload_n 0, 1) := by decide +kernel
theorem dX4_chain_2 : decode cX4_chain 2 = .ok (.getfield 69, 3) := by decide +kernel
theorem dX4_chain_5 : decode cX4_chain 5 = .ok (.ifCond .eq 7, 3) := by decide +kernel
theorem dX4_chain_8 : decode cX4_chain 8 = .ok (.iconst 0, 1) := by decide +kernel
theorem dX4_chain_9 : decode cX4_chain 9 = .ok (.goto 4, 3) := by decide +kernel
theorem dX4_chain_12 : decode cX4_chain 12 = .ok (.iconst 1, 1) := by decide +kernel
theorem dX4_chain_13 : decode cX4_chain 13 = .ok (.putfield 59, 3) := by decide +kernel
theorem dX4_chain_16 : decode cX4_chain 16 = .ok (.iconst 0, 1) := by decide +kernel
theorem dX4_chain_17 : decode cX4_chain 17 = .ok (.istore_n 1, 1) := by decide +kernel
theorem dX4_chain_18 : decode cX4_chain 18 = .ok (.aload_n 0, 1) := by decide +kernel
theorem dX4_chain_19 : decode cX4_chain 19 = .ok (.getfield 59, 3) := by decide +kernel
theorem dX4_chain_22 : decode cX4_chain 22 = .ok (.ifCond .ne 16, 3) := by decide +kernel
theorem dX4_chain_25 : decode cX4_chain 25 = .ok (.aload_n 0, 1) := by decide +kernel
theorem dX4_chain_26 : decode cX4_chain 26 = .ok (.invokevirtual 121, 3) := by decide +kernel
theorem dX4_chain_29 : decode cX4_chain 29 = .ok (.ifCond .eq 9, 3) := by decide +kernel
theorem dX4_chain_32 : decode cX4_chain 32 = .ok (.iinc 1 1, 3) := by decide +kernel
theorem dX4_chain_35 : decode cX4_chain 35 = .ok (.goto (-17), 3) := by decide +kernel
theorem dX4_chain_38 : decode cX4_chain 38 = .ok (.iload_n 1, 1) := by decide +kernel
theorem dX4_chain_39 : decode cX4_chain 39 = .ok (.ireturn, 1) := by decide +kernel
theorem dX4_move_0 : decode cX4_move 0 = .ok (.iconst 0, 1) := by decide +kernel
theorem dX4_move_1 : decode cX4_move 1 = .ok (.istore_n 1, 1) := by decide +kernel
theorem dX4_move_2 : decode cX4_move 2 = .ok (.iload_n 1, 1) := by decide +kernel
theorem dX4_move_3 : decode cX4_move 3 = .ok (.aload_n 0, 1) := by decide +kernel
theorem dX4_move_4 : decode cX4_move 4 = .ok (.getfield 63, 3) := by decide +kernel
theorem dX4_move_7 : decode cX4_move 7 = .ok (.if_icmp .ge 156, 3) := by decide +kernel
theorem dX4_move_10 : decode cX4_move 10 = .ok (.iconst 0, 1) := by decide +kernel
theorem dX4_move_11 : decode cX4_move 11 = .ok (.istore_n 2, 1) := by decide +kernel
theorem dX4_move_12 : decode cX4_move 12 = .ok (.iload_n 2, 1) := by decide +kernel
theorem dX4_move_13 : decode cX4_move 13 = .ok (.aload_n 0, 1) := by decide +kernel
theorem dX4_move_14 : decode cX4_move 14 = .ok (.getfield 7, 3) := by decide +kernel
theorem dX4_move_17 : decode cX4_move 17 = .ok (.iload_n 1, 1) := by decide +kernel
theorem dX4_move_18 : decode cX4_move 18 = .ok (.iaload, 1) := by decide +kernel
theorem dX4_move_19 : decode cX4_move 19 = .ok (.if_icmp .ge 138, 3) := by decide +kernel
theorem dX4_move_22 : decode cX4_move 22 = .ok (.iconst (-1), 1) := by decide +kernel
theorem dX4_move_23 : decode cX4_move 23 = .ok (.istore_n 3, 1) := by decide +kernel
theorem dX4_move_24 : decode cX4_move 24 = .ok (.iconst 0, 1) := by decide +kernel
theorem dX4_move_25 : decode cX4_move 25 = .ok (.istore 4, 2) := by decide +kernel
theorem dX4_move_27 : decode cX4_move 27 = .ok (.iload 4, 2) := by decide +kernel
theorem dX4_move_29 : decode cX4_move 29 = .ok (.aload_n 0, 1) := by decide +kernel
theorem dX4_move_30 : decode cX4_move 30 = .ok (.getfield 66, 3) := by decide +kernel
theorem dX4_move_33 : decode cX4_move 33 = .ok (.if_icmp .ge 98, 3) := by decide +kernel
theorem dX4_move_36 : decode cX4_move 36 = .ok (.aload_n 0, 1) := by decide +kernel
theorem dX4_move_37 : decode cX4_move 37 = .ok (.iload_n 1, 1) := by decide +kernel
theorem dX4_move_38 : decode cX4_move 38 = .ok (.iload_n 2, 1) := by decide +kernel
theorem dX4_move_39 : decode cX4_move 39 = .ok (.invokevirtual 114, 3) := by decide +kernel
theorem dX4_move_42 : decode cX4_move 42 = .ok (.aload_n 0, 1) := by decide +kernel
theorem dX4_move_43 : decode cX4_move 43 = .ok (.getfield 13, 3) := by decide +kernel
theorem dX4_move_46 : decode cX4_move 46 = .ok (.iconst 3, 1) := by decide +kernel
theorem dX4_move_47 : decode cX4_move 47 = .ok (.iload_n 1, 1) := by decide +kernel
theorem dX4_move_48 : decode cX4_move 48 = .ok (.imul, 1) := by decide +kernel
theorem dX4_move_49 : decode cX4_move 49 = .ok (.iload_n 2, 1) := by decide +kernel
theorem dX4_move_50 : decode cX4_move 50 = .ok (.iadd, 1) := by decide +kernel
theorem dX4_move_51 : decode cX4_move 51 = .ok (.iaload, 1) := by decide +kernel
theorem dX4_move_52 : decode cX4_move 52 = .ok (.if_icmp .ge 79, 3) := by decide +kernel
theorem dX4_move_55 : decode cX4_move 55 = .ok (.aload_n 0, 1) := by decide +kernel
theorem dX4_move_56 : decode cX4_move 56 = .ok (.iload 4, 2) := by decide +kernel
theorem dX4_move_58 : decode cX4_move 58 = .ok (.iload_n 1, 1) := by decide +kernel
theorem dX4_move_59 : decode cX4_move 59 = .ok (.invokevirtual 117, 3) := by decide +kernel
theorem dX4_move_62 : decode cX4_move 62 = .ok (.ifCond .eq 18, 3) := by decide +kernel
theorem dX4_move_65 : decode cX4_move 65 = .ok (.aload_n 0, 1) := by decide +kernel
theorem dX4_move_66 : decode cX4_move 66 = .ok (.iload 4, 2) := by decide +kernel
theorem dX4_move_68 : decode cX4_move 68 = .ok (.iload_n 1, 1) := by decide +kernel
theorem dX4_move_69 : decode cX4_move 69 = .ok (.iload_n 2, 1) := by decide +kernel
theorem dX4_move_70 : decode cX4_move 70 = .ok (.invokevirtual 89, 3) := by decide +kernel
theorem dX4_move_73 : decode cX4_move 73 = .ok (.ifCond .eq 7, 3) := by decide +kernel
theorem dX4_move_76 : decode cX4_move 76 = .ok (.iconst 1, 1) := by decide +kernel
theorem dX4_move_77 : decode cX4_move 77 = .ok (.goto 4, 3) := by decide +kernel
theorem dX4_move_80 : decode cX4_move 80 = .ok (.iconst 0, 1) := by decide +kernel
theorem dX4_move_81 : decode cX4_move 81 = .ok (.istore 5, 2) := by decide +kernel
theorem dX4_move_83 : decode cX4_move 83 = .ok (.iload 5, 2) := by decide +kernel
theorem dX4_move_85 : decode cX4_move 85 = .ok (.ifCond .eq 38, 3) := by decide +kernel
theorem dX4_move_88 : decode cX4_move 88 = .ok (.iload_n 3, 1) := by decide +kernel
theorem dX4_move_89 : decode cX4_move 89 = .ok (.ifCond .lt 29, 3) := by decide +kernel
theorem dX4_move_92 : decode cX4_move 92 = .ok (.aload_n 0, 1) := by decide +kernel
theorem dX4_move_93 : decode cX4_move 93 = .ok (.iload 4, 2) := by decide +kernel
theorem dX4_move_95 : decode cX4_move 95 = .ok (.iload_n 1, 1) := by decide +kernel
theorem dX4_move_96 : decode cX4_move 96 = .ok (.iload_n 2, 1) := by decide +kernel
theorem dX4_move_97 : decode cX4_move 97 = .ok (.invokevirtual 93, 3) := by decide +kernel
theorem dX4_move_100 : decode cX4_move 100 = .ok (.aload_n 0, 1) := by decide +kernel
theorem dX4_move_101 : decode cX4_move 101 = .ok (.iload_n 3, 1) := by decide +kernel
theorem dX4_move_102 : decode cX4_move 102 = .ok (.ifCond .ge 7, 3) := by decide +kernel
theorem dX4_move_105 : decode cX4_move 105 = .ok (.iconst 0, 1) := by decide +kernel
theorem dX4_move_106 : decode cX4_move 106 = .ok (.goto 4, 3) := by decide +kernel
theorem dX4_move_109 : decode cX4_move 109 = .ok (.iload_n 3, 1) := by decide +kernel
theorem dX4_move_110 : decode cX4_move 110 = .ok (.iload_n 1, 1) := by decide +kernel
theorem dX4_move_111 : decode cX4_move 111 = .ok (.iload_n 2, 1) := by decide +kernel
theorem dX4_move_112 : decode cX4_move 112 = .ok (.invokevirtual 93, 3) := by decide +kernel
theorem dX4_move_115 : decode cX4_move 115 = .ok (.if_icmp .ge 8, 3) := by decide +kernel
theorem dX4_move_118 : decode cX4_move 118 = .ok (.iload 4, 2) := by decide +kernel
theorem dX4_move_120 : decode cX4_move 120 = .ok (.goto 4, 3) := by decide +kernel
theorem dX4_move_123 : decode cX4_move 123 = .ok (.iload_n 3, 1) := by decide +kernel
theorem dX4_move_124 : decode cX4_move 124 = .ok (.istore_n 3, 1) := by decide +kernel
theorem dX4_move_125 : decode cX4_move 125 = .ok (.iinc 4 1, 3) := by decide +kernel
theorem dX4_move_128 : decode cX4_move 128 = .ok (.goto (-101), 3) := by decide +kernel
theorem dX4_move_131 : decode cX4_move 131 = .ok (.iload_n 3, 1) := by decide +kernel
theorem dX4_move_132 : decode cX4_move 132 = .ok (.ifCond .lt 19, 3) := by decide +kernel
theorem dX4_move_135 : decode cX4_move 135 = .ok (.aload_n 0, 1) := by decide +kernel
theorem dX4_move_136 : decode cX4_move 136 = .ok (.getfield 38, 3) := by decide +kernel
theorem dX4_move_139 : decode cX4_move 139 = .ok (.iload_n 3, 1) := by decide +kernel
theorem dX4_move_140 : decode cX4_move 140 = .ok (.iload_n 1, 1) := by decide +kernel
theorem dX4_move_141 : decode cX4_move 141 = .ok (.iastore, 1) := by decide +kernel
theorem dX4_move_142 : decode cX4_move 142 = .ok (.aload_n 0, 1) := by decide +kernel
theorem dX4_move_143 : decode cX4_move 143 = .ok (.getfield 41, 3) := by decide +kernel
theorem dX4_move_146 : decode cX4_move 146 = .ok (.iload_n 3, 1) := by decide +kernel
theorem dX4_move_147 : decode cX4_move 147 = .ok (.iload_n 2, 1) := by decide +kernel
theorem dX4_move_148 : decode cX4_move 148 = .ok (.iastore, 1) := by decide +kernel
theorem dX4_move_149 : decode cX4_move 149 = .ok (.iconst 1, 1) := by decide +kernel
theorem dX4_move_150 : decode cX4_move 150 = .ok (.ireturn, 1) := by decide +kernel
theorem dX4_move_151 : decode cX4_move 151 = .ok (.iinc 2 1, 3) := by decide +kernel
theorem dX4_move_154 : decode cX4_move 154 = .ok (.goto (-142), 3) := by decide +kernel
theorem dX4_move_157 : decode cX4_move 157 = .ok (.iinc 1 1, 3) := by decide +kernel
theorem dX4_move_160 : decode cX4_move 160 = .ok (.goto (-158), 3) := by decide +kernel
theorem dX4_move_163 : decode cX4_move 163 = .ok (.iconst 0, 1) := by decide +kernel
theorem dX4_move_164 : decode cX4_move 164 = .ok (.ireturn, 1) := by decide +kernel
theorem dX4_holders_0 : decode cX4_holders 0 = .ok (.iconst 0, 1) := by decide +kernel
theorem dX4_holders_1 : decode cX4_holders 1 = .ok (.istore_n 3, 1) := by decide +kernel
theorem dX4_holders_2 : decode cX4_holders 2 = .ok (.iconst 0, 1) := by decide +kernel
theorem dX4_holders_3 : decode cX4_holders 3 = .ok (.istore 4, 2) := by decide +kernel
theorem dX4_holders_5 : decode cX4_holders 5 = .ok (.iload 4, 2) := by decide +kernel
theorem dX4_holders_7 : decode cX4_holders 7 = .ok (.aload_n 0, 1) := by decide +kernel
theorem dX4_holders_8 : decode cX4_holders 8 = .ok (.getfield 66, 3) := by decide +kernel
theorem dX4_holders_11 : decode cX4_holders 11 = .ok (.if_icmp .ge 39, 3) := by decide +kernel
theorem dX4_holders_14 : decode cX4_holders 14 = .ok (.iload_n 3, 1) := by decide +kernel
theorem dX4_holders_15 : decode cX4_holders 15 = .ok (.aload_n 0, 1) := by decide +kernel
theorem dX4_holders_16 : decode cX4_holders 16 = .ok (.getfield 38, 3) := by decide +kernel
theorem dX4_holders_19 : decode cX4_holders 19 = .ok (.iload 4, 2) := by decide +kernel
theorem dX4_holders_21 : decode cX4_holders 21 = .ok (.iaload, 1) := by decide +kernel
theorem dX4_holders_22 : decode cX4_holders 22 = .ok (.iload_n 1, 1) := by decide +kernel
theorem dX4_holders_23 : decode cX4_holders 23 = .ok (.if_icmp .ne 18, 3) := by decide +kernel
theorem dX4_holders_26 : decode cX4_holders 26 = .ok (.aload_n 0, 1) := by decide +kernel
theorem dX4_holders_27 : decode cX4_holders 27 = .ok (.getfield 41, 3) := by decide +kernel
theorem dX4_holders_30 : decode cX4_holders 30 = .ok (.iload 4, 2) := by decide +kernel
theorem dX4_holders_32 : decode cX4_holders 32 = .ok (.iaload, 1) := by decide +kernel
theorem dX4_holders_33 : decode cX4_holders 33 = .ok (.iload_n 2, 1) := by decide +kernel
theorem dX4_holders_34 : decode cX4_holders 34 = .ok (.if_icmp .ne 7, 3) := by decide +kernel
theorem dX4_holders_37 : decode cX4_holders 37 = .ok (.iconst 1, 1) := by decide +kernel
theorem dX4_holders_38 : decode cX4_holders 38 = .ok (.goto 4, 3) := by decide +kernel
theorem dX4_holders_41 : decode cX4_holders 41 = .ok (.iconst 0, 1) := by decide +kernel
theorem dX4_holders_42 : decode cX4_holders 42 = .ok (.iadd, 1) := by decide +kernel
theorem dX4_holders_43 : decode cX4_holders 43 = .ok (.istore_n 3, 1) := by decide +kernel
theorem dX4_holders_44 : decode cX4_holders 44 = .ok (.iinc 4 1, 3) := by decide +kernel
theorem dX4_holders_47 : decode cX4_holders 47 = .ok (.goto (-42), 3) := by decide +kernel
theorem dX4_holders_50 : decode cX4_holders 50 = .ok (.iload_n 3, 1) := by decide +kernel
theorem dX4_holders_51 : decode cX4_holders 51 = .ok (.ireturn, 1) := by decide +kernel
theorem dX4_waits_0 : decode cX4_waits 0 = .ok (.aload_n 0, 1) := by decide +kernel
theorem dX4_waits_1 : decode cX4_waits 1 = .ok (.iload_n 1, 1) := by decide +kernel
theorem dX4_waits_2 : decode cX4_waits 2 = .ok (.iload_n 2, 1) := by decide +kernel
theorem dX4_waits_3 : decode cX4_waits 3 = .ok (.invokevirtual 80, 3) := by decide +kernel
theorem dX4_waits_6 : decode cX4_waits 6 = .ok (.istore_n 3, 1) := by decide +kernel
theorem dX4_waits_7 : decode cX4_waits 7 = .ok (.iload_n 3, 1) := by decide +kernel
theorem dX4_waits_8 : decode cX4_waits 8 = .ok (.bipush 9, 2) := by decide +kernel
theorem dX4_waits_10 : decode cX4_waits 10 = .ok (.if_icmp .ge 26, 3) := by decide +kernel
theorem dX4_waits_13 : decode cX4_waits 13 = .ok (.iload_n 3, 1) := by decide +kernel
theorem dX4_waits_14 : decode cX4_waits 14 = .ok (.aload_n 0, 1) := by decide +kernel
theorem dX4_waits_15 : decode cX4_waits 15 = .ok (.getfield 50, 3) := by decide +kernel
theorem dX4_waits_18 : decode cX4_waits 18 = .ok (.iload_n 1, 1) := by decide +kernel
theorem dX4_waits_19 : decode cX4_waits 19 = .ok (.iaload, 1) := by decide +kernel
theorem dX4_waits_20 : decode cX4_waits 20 = .ok (.if_icmp .ge 16, 3) := by decide +kernel
theorem dX4_waits_23 : decode cX4_waits 23 = .ok (.iload_n 3, 1) := by decide +kernel
theorem dX4_waits_24 : decode cX4_waits 24 = .ok (.aload_n 0, 1) := by decide +kernel
theorem dX4_waits_25 : decode cX4_waits 25 = .ok (.iload_n 1, 1) := by decide +kernel
theorem dX4_waits_26 : decode cX4_waits 26 = .ok (.invokevirtual 110, 3) := by decide +kernel
theorem dX4_waits_29 : decode cX4_waits 29 = .ok (.if_icmp .ge 7, 3) := by decide +kernel
theorem dX4_waits_32 : decode cX4_waits 32 = .ok (.iconst 1, 1) := by decide +kernel
theorem dX4_waits_33 : decode cX4_waits 33 = .ok (.goto 4, 3) := by decide +kernel
theorem dX4_waits_36 : decode cX4_waits 36 = .ok (.iconst 0, 1) := by decide +kernel
theorem dX4_waits_37 : decode cX4_waits 37 = .ok (.ireturn, 1) := by decide +kernel
theorem dX4_own_0 : decode cX4_own 0 = .ok (.aload_n 0, 1) := by decide +kernel
theorem dX4_own_1 : decode cX4_own 1 = .ok (.getfield 38, 3) := by decide +kernel
theorem dX4_own_4 : decode cX4_own 4 = .ok (.iload_n 1, 1) := by decide +kernel
theorem dX4_own_5 : decode cX4_own 5 = .ok (.iaload, 1) := by decide +kernel
theorem dX4_own_6 : decode cX4_own 6 = .ok (.ifCond .ge 8, 3) := by decide +kernel
theorem dX4_own_9 : decode cX4_own 9 = .ok (.bipush 9, 2) := by decide +kernel
theorem dX4_own_11 : decode cX4_own 11 = .ok (.goto 14, 3) := by decide +kernel
theorem dX4_own_14 : decode cX4_own 14 = .ok (.aload_n 0, 1) := by decide +kernel
theorem dX4_own_15 : decode cX4_own 15 = .ok (.iload_n 1, 1) := by decide +kernel
theorem dX4_own_16 : decode cX4_own 16 = .ok (.aload_n 0, 1) := by decide +kernel
theorem dX4_own_17 : decode cX4_own 17 = .ok (.getfield 38, 3) := by decide +kernel
theorem dX4_own_20 : decode cX4_own 20 = .ok (.iload_n 1, 1) := by decide +kernel
theorem dX4_own_21 : decode cX4_own 21 = .ok (.iaload, 1) := by decide +kernel
theorem dX4_own_22 : decode cX4_own 22 = .ok (.invokevirtual 80, 3) := by decide +kernel
theorem dX4_own_25 : decode cX4_own 25 = .ok (.ireturn, 1) := by decide +kernel
theorem dX4_appeal_0 : decode cX4_appeal 0 = .ok (.aload_n 0, 1) := by decide +kernel
theorem dX4_appeal_1 : decode cX4_appeal 1 = .ok (.iconst 0, 1) := by decide +kernel
theorem dX4_appeal_2 : decode cX4_appeal 2 = .ok (.putfield 59, 3) := by decide +kernel
theorem dX4_appeal_5 : decode cX4_appeal 5 = .ok (.aload_n 0, 1) := by decide +kernel
theorem dX4_appeal_6 : decode cX4_appeal 6 = .ok (.iload_n 1, 1) := by decide +kernel
theorem dX4_appeal_7 : decode cX4_appeal 7 = .ok (.invokevirtual 77, 3) := by decide +kernel
theorem dX4_appeal_10 : decode cX4_appeal 10 = .ok (.ifCond .eq 13, 3) := by decide +kernel
theorem dX4_appeal_13 : decode cX4_appeal 13 = .ok (.iload_n 2, 1) := by decide +kernel
theorem dX4_appeal_14 : decode cX4_appeal 14 = .ok (.ifCond .lt 9, 3) := by decide +kernel
theorem dX4_appeal_17 : decode cX4_appeal 17 = .ok (.iload_n 2, 1) := by decide +kernel
theorem dX4_appeal_18 : decode cX4_appeal 18 = .ok (.bipush 15, 2) := by decide +kernel
theorem dX4_appeal_20 : decode cX4_appeal 20 = .ok (.if_icmp .le 5, 3) := by decide +kernel
theorem dX4_appeal_23 : decode cX4_appeal 23 = .ok (.iconst 0, 1) := by decide +kernel
theorem dX4_appeal_24 : decode cX4_appeal 24 = .ok (.ireturn, 1) := by decide +kernel
theorem dX4_appeal_25 : decode cX4_appeal 25 = .ok (.aload_n 0, 1) := by decide +kernel
theorem dX4_appeal_26 : decode cX4_appeal 26 = .ok (.getfield 19, 3) := by decide +kernel
theorem dX4_appeal_29 : decode cX4_appeal 29 = .ok (.iload_n 1, 1) := by decide +kernel
theorem dX4_appeal_30 : decode cX4_appeal 30 = .ok (.iload_n 2, 1) := by decide +kernel
theorem dX4_appeal_31 : decode cX4_appeal 31 = .ok (.iastore, 1) := by decide +kernel
theorem dX4_appeal_32 : decode cX4_appeal 32 = .ok (.iconst 1, 1) := by decide +kernel
theorem dX4_appeal_33 : decode cX4_appeal 33 = .ok (.ireturn, 1) := by decide +kernel
theorem dX4_over_0 : decode cX4_over 0 = .ok (.aload_n 0, 1) := by decide +kernel
theorem dX4_over_1 : decode cX4_over 1 = .ok (.aload_n 0, 1) := by decide +kernel
theorem dX4_over_2 : decode cX4_over 2 = .ok (.iload_n 1, 1) := by decide +kernel
theorem dX4_over_3 : decode cX4_over 3 = .ok (.invokevirtual 77, 3) := by decide +kernel
theorem dX4_over_6 : decode cX4_over 6 = .ok (.ifCond .eq 7, 3) := by decide +kernel
theorem dX4_over_9 : decode cX4_over 9 = .ok (.iconst 0, 1) := by decide +kernel
theorem dX4_over_10 : decode cX4_over 10 = .ok (.goto 4, 3) := by decide +kernel
theorem dX4_over_13 : decode cX4_over 13 = .ok (.iconst 1, 1) := by decide +kernel
theorem dX4_over_14 : decode cX4_over 14 = .ok (.putfield 59, 3) := by decide +kernel
theorem dX4_over_17 : decode cX4_over 17 = .ok (.aload_n 0, 1) := by decide +kernel
theorem dX4_over_18 : decode cX4_over 18 = .ok (.getfield 59, 3) := by decide +kernel
theorem dX4_over_21 : decode cX4_over 21 = .ok (.ifCond .le 5, 3) := by decide +kernel
theorem dX4_over_24 : decode cX4_over 24 = .ok (.iconst 0, 1) := by decide +kernel
theorem dX4_over_25 : decode cX4_over 25 = .ok (.ireturn, 1) := by decide +kernel
theorem dX4_over_26 : decode cX4_over 26 = .ok (.aload_n 0, 1) := by decide +kernel
theorem dX4_over_27 : decode cX4_over 27 = .ok (.aload_n 0, 1) := by decide +kernel
theorem dX4_over_28 : decode cX4_over 28 = .ok (.iload_n 1, 1) := by decide +kernel
theorem dX4_over_29 : decode cX4_over 29 = .ok (.iload_n 2, 1) := by decide +kernel
theorem dX4_over_30 : decode cX4_over 30 = .ok (.invokevirtual 80, 3) := by decide +kernel
theorem dX4_over_33 : decode cX4_over 33 = .ok (.bipush 9, 2) := by decide +kernel
theorem dX4_over_35 : decode cX4_over 35 = .ok (.if_icmp .eq 20, 3) := by decide +kernel
theorem dX4_over_38 : decode cX4_over 38 = .ok (.aload_n 0, 1) := by decide +kernel
theorem dX4_over_39 : decode cX4_over 39 = .ok (.getfield 69, 3) := by decide +kernel
theorem dX4_over_42 : decode cX4_over 42 = .ok (.ifCond .eq 17, 3) := by decide +kernel
theorem dX4_over_45 : decode cX4_over 45 = .ok (.aload_n 0, 1) := by decide +kernel
theorem dX4_over_46 : decode cX4_over 46 = .ok (.getfield 38, 3) := by decide +kernel
theorem dX4_over_49 : decode cX4_over 49 = .ok (.iload_n 1, 1) := by decide +kernel
theorem dX4_over_50 : decode cX4_over 50 = .ok (.iaload, 1) := by decide +kernel
theorem dX4_over_51 : decode cX4_over 51 = .ok (.iload_n 2, 1) := by decide +kernel
theorem dX4_over_52 : decode cX4_over 52 = .ok (.if_icmp .ne 7, 3) := by decide +kernel
theorem dX4_over_55 : decode cX4_over 55 = .ok (.iconst 1, 1) := by decide +kernel
theorem dX4_over_56 : decode cX4_over 56 = .ok (.goto 25, 3) := by decide +kernel
theorem dX4_over_59 : decode cX4_over 59 = .ok (.aload_n 0, 1) := by decide +kernel
theorem dX4_over_60 : decode cX4_over 60 = .ok (.getfield 69, 3) := by decide +kernel
theorem dX4_over_63 : decode cX4_over 63 = .ok (.ifCond .eq 13, 3) := by decide +kernel
theorem dX4_over_66 : decode cX4_over 66 = .ok (.aload_n 0, 1) := by decide +kernel
theorem dX4_over_67 : decode cX4_over 67 = .ok (.getfield 44, 3) := by decide +kernel
theorem dX4_over_70 : decode cX4_over 70 = .ok (.iload_n 1, 1) := by decide +kernel
theorem dX4_over_71 : decode cX4_over 71 = .ok (.iaload, 1) := by decide +kernel
theorem dX4_over_72 : decode cX4_over 72 = .ok (.iconst 3, 1) := by decide +kernel
theorem dX4_over_73 : decode cX4_over 73 = .ok (.if_icmp .ne 7, 3) := by decide +kernel
theorem dX4_over_76 : decode cX4_over 76 = .ok (.iconst 2, 1) := by decide +kernel
theorem dX4_over_77 : decode cX4_over 77 = .ok (.goto 4, 3) := by decide +kernel
theorem dX4_over_80 : decode cX4_over 80 = .ok (.iconst 0, 1) := by decide +kernel
theorem dX4_over_81 : decode cX4_over 81 = .ok (.putfield 59, 3) := by decide +kernel
theorem dX4_over_84 : decode cX4_over 84 = .ok (.aload_n 0, 1) := by decide +kernel
theorem dX4_over_85 : decode cX4_over 85 = .ok (.getfield 59, 3) := by decide +kernel
theorem dX4_over_88 : decode cX4_over 88 = .ok (.ifCond .le 5, 3) := by decide +kernel
theorem dX4_over_91 : decode cX4_over 91 = .ok (.iconst 0, 1) := by decide +kernel
theorem dX4_over_92 : decode cX4_over 92 = .ok (.ireturn, 1) := by decide +kernel
theorem dX4_over_93 : decode cX4_over 93 = .ok (.aload_n 0, 1) := by decide +kernel
theorem dX4_over_94 : decode cX4_over 94 = .ok (.getfield 38, 3) := by decide +kernel
theorem dX4_over_97 : decode cX4_over 97 = .ok (.iload_n 1, 1) := by decide +kernel
theorem dX4_over_98 : decode cX4_over 98 = .ok (.iload_n 2, 1) := by decide +kernel
theorem dX4_over_99 : decode cX4_over 99 = .ok (.iastore, 1) := by decide +kernel
theorem dX4_over_100 : decode cX4_over 100 = .ok (.aload_n 0, 1) := by decide +kernel
theorem dX4_over_101 : decode cX4_over 101 = .ok (.getfield 41, 3) := by decide +kernel
theorem dX4_over_104 : decode cX4_over 104 = .ok (.iload_n 1, 1) := by decide +kernel
theorem dX4_over_105 : decode cX4_over 105 = .ok (.iconst (-1), 1) := by decide +kernel
theorem dX4_over_106 : decode cX4_over 106 = .ok (.iastore, 1) := by decide +kernel
theorem dX4_over_107 : decode cX4_over 107 = .ok (.iconst 1, 1) := by decide +kernel
theorem dX4_over_108 : decode cX4_over 108 = .ok (.ireturn, 1) := by decide +kernel
theorem dX4_seat_0 : decode cX4_seat 0 = .ok (.aload_n 0, 1) := by decide +kernel
theorem dX4_seat_1 : decode cX4_seat 1 = .ok (.iconst 0, 1) := by decide +kernel
theorem dX4_seat_2 : decode cX4_seat 2 = .ok (.putfield 59, 3) := by decide +kernel
theorem dX4_seat_5 : decode cX4_seat 5 = .ok (.aload_n 0, 1) := by decide +kernel
theorem dX4_seat_6 : decode cX4_seat 6 = .ok (.iload_n 1, 1) := by decide +kernel
theorem dX4_seat_7 : decode cX4_seat 7 = .ok (.invokevirtual 77, 3) := by decide +kernel
theorem dX4_seat_10 : decode cX4_seat 10 = .ok (.ifCond .eq 12, 3) := by decide +kernel
theorem dX4_seat_13 : decode cX4_seat 13 = .ok (.iload_n 2, 1) := by decide +kernel
