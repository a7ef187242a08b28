/-! decode rows, made by a program of mine -/
theorem dX3_init_0 : decode cX3_init 0 = .ok (.aload_n 0, 1) := by decide +kernel
theorem dX3_init_1 : decode cX3_init 1 = .ok (.invokespecial 3, 3) := by decide +kernel
theorem dX3_init_4 : decode cX3_init 4 = .ok (.aload_n 0, 1) := by decide +kernel
theorem dX3_init_5 : decode cX3_init 5 = .ok (.bipush 6, 2) := by decide +kernel
theorem dX3_init_7 : decode cX3_init 7 = .ok (.anewarray 9, 3) := by decide +kernel
theorem dX3_init_10 : decode cX3_init 10 = .ok (.putfield 11, 3) := by decide +kernel
theorem dX3_init_13 : decode cX3_init 13 = .ok (.iconst 0, 1) := by decide +kernel
theorem dX3_init_14 : decode cX3_init 14 = .ok (.istore_n 1, 1) := by decide +kernel
theorem dX3_init_15 : decode cX3_init 15 = .ok (.iload_n 1, 1) := by decide +kernel
theorem dX3_init_16 : decode cX3_init 16 = .ok (.bipush 6, 2) := by decide +kernel
theorem dX3_init_18 : decode cX3_init 18 = .ok (.if_icmp .ge 22, 3) := by decide +kernel
theorem dX3_init_21 : decode cX3_init 21 = .ok (.aload_n 0, 1) := by decide +kernel
theorem dX3_init_22 : decode cX3_init 22 = .ok (.getfield 11, 3) := by decide +kernel
theorem dX3_init_25 : decode cX3_init 25 = .ok (.iload_n 1, 1) := by decide +kernel
theorem dX3_init_26 : decode cX3_init 26 = .ok (.new 9, 3) := by decide +kernel
theorem dX3_init_29 : decode cX3_init 29 = .ok (.dup, 1) := by decide +kernel
theorem dX3_init_30 : decode cX3_init 30 = .ok (.invokespecial 15, 3) := by decide +kernel
theorem dX3_init_33 : decode cX3_init 33 = .ok (.aastore, 1) := by decide +kernel
theorem dX3_init_34 : decode cX3_init 34 = .ok (.iinc 1 1, 3) := by decide +kernel
theorem dX3_init_37 : decode cX3_init 37 = .ok (.goto (-22), 3) := by decide +kernel
theorem dX3_init_40 : decode cX3_init 40 = .ok (.aload_n 0, 1) := by decide +kernel
theorem dX3_init_41 : decode cX3_init 41 = .ok (.bipush 20, 2) := by decide +kernel
theorem dX3_init_43 : decode cX3_init 43 = .ok (.anewarray 16, 3) := by decide +kernel
theorem dX3_init_46 : decode cX3_init 46 = .ok (.putfield 18, 3) := by decide +kernel
theorem dX3_init_49 : decode cX3_init 49 = .ok (.iconst 0, 1) := by decide +kernel
theorem dX3_init_50 : decode cX3_init 50 = .ok (.istore_n 1, 1) := by decide +kernel
theorem dX3_init_51 : decode cX3_init 51 = .ok (.iload_n 1, 1) := by decide +kernel
theorem dX3_init_52 : decode cX3_init 52 = .ok (.bipush 20, 2) := by decide +kernel
theorem dX3_init_54 : decode cX3_init 54 = .ok (.if_icmp .ge 23, 3) := by decide +kernel
theorem dX3_init_57 : decode cX3_init 57 = .ok (.aload_n 0, 1) := by decide +kernel
theorem dX3_init_58 : decode cX3_init 58 = .ok (.getfield 18, 3) := by decide +kernel
theorem dX3_init_61 : decode cX3_init 61 = .ok (.iload_n 1, 1) := by decide +kernel
theorem dX3_init_62 : decode cX3_init 62 = .ok (.new 16, 3) := by decide +kernel
theorem dX3_init_65 : decode cX3_init 65 = .ok (.dup, 1) := by decide +kernel
theorem dX3_init_66 : decode cX3_init 66 = .ok (.iload_n 1, 1) := by decide +kernel
theorem dX3_init_67 : decode cX3_init 67 = .ok (.invokespecial 22, 3) := by decide +kernel
theorem dX3_init_70 : decode cX3_init 70 = .ok (.aastore, 1) := by decide +kernel
theorem dX3_init_71 : decode cX3_init 71 = .ok (.iinc 1 1, 3) := by decide +kernel
theorem dX3_init_74 : decode cX3_init 74 = .ok (.goto (-23), 3) := by decide +kernel
theorem dX3_init_77 : decode cX3_init 77 = .ok (.aload_n 0, 1) := by decide +kernel
theorem dX3_init_78 : decode cX3_init 78 = .ok (.bipush 20, 2) := by decide +kernel
theorem dX3_init_80 : decode cX3_init 80 = .ok (.newarray .int, 2) := by decide +kernel
theorem dX3_init_82 : decode cX3_init 82 = .ok (.putfield 25, 3) := by decide +kernel
theorem dX3_init_85 : decode cX3_init 85 = .ok (.aload_n 0, 1) := by decide +kernel
theorem dX3_init_86 : decode cX3_init 86 = .ok (.bipush 20, 2) := by decide +kernel
theorem dX3_init_88 : decode cX3_init 88 = .ok (.newarray .int, 2) := by decide +kernel
theorem dX3_init_90 : decode cX3_init 90 = .ok (.putfield 29, 3) := by decide +kernel
theorem dX3_init_93 : decode cX3_init 93 = .ok (.return_, 1) := by decide +kernel
theorem dX2_init_0 : decode cX2_init 0 = .ok (.aload_n 0, 1) := by decide +kernel
theorem dX2_init_1 : decode cX2_init 1 = .ok (.invokespecial 3, 3) := by decide +kernel
theorem dX2_init_4 : decode cX2_init 4 = .ok (.aload_n 0, 1) := by decide +kernel
theorem dX2_init_5 : decode cX2_init 5 = .ok (.iconst 3, 1) := by decide +kernel
theorem dX2_init_6 : decode cX2_init 6 = .ok (.anewarray 9, 3) := by decide +kernel
theorem dX2_init_9 : decode cX2_init 9 = .ok (.putfield 11, 3) := by decide +kernel
theorem dX2_init_12 : decode cX2_init 12 = .ok (.iconst 0, 1) := by decide +kernel
theorem dX2_init_13 : decode cX2_init 13 = .ok (.istore_n 1, 1) := by decide +kernel
theorem dX2_init_14 : decode cX2_init 14 = .ok (.iload_n 1, 1) := by decide +kernel
theorem dX2_init_15 : decode cX2_init 15 = .ok (.iconst 3, 1) := by decide +kernel
theorem dX2_init_16 : decode cX2_init 16 = .ok (.if_icmp .ge 22, 3) := by decide +kernel
theorem dX2_init_19 : decode cX2_init 19 = .ok (.aload_n 0, 1) := by decide +kernel
theorem dX2_init_20 : decode cX2_init 20 = .ok (.getfield 11, 3) := by decide +kernel
theorem dX2_init_23 : decode cX2_init 23 = .ok (.iload_n 1, 1) := by decide +kernel
theorem dX2_init_24 : decode cX2_init 24 = .ok (.new 9, 3) := by decide +kernel
theorem dX2_init_27 : decode cX2_init 27 = .ok (.dup, 1) := by decide +kernel
theorem dX2_init_28 : decode cX2_init 28 = .ok (.invokespecial 17, 3) := by decide +kernel
theorem dX2_init_31 : decode cX2_init 31 = .ok (.aastore, 1) := by decide +kernel
theorem dX2_init_32 : decode cX2_init 32 = .ok (.iinc 1 1, 3) := by decide +kernel
theorem dX2_init_35 : decode cX2_init 35 = .ok (.goto (-21), 3) := by decide +kernel
theorem dX2_init_38 : decode cX2_init 38 = .ok (.return_, 1) := by decide +kernel
theorem dX0_init_0 : decode cX0_init 0 = .ok (.aload_n 0, 1) := by decide +kernel
theorem dX0_init_1 : decode cX0_init 1 = .ok (.invokespecial 3, 3) := by decide +kernel
theorem dX0_init_4 : decode cX0_init 4 = .ok (.aload_n 0, 1) := by decide +kernel
theorem dX0_init_5 : decode cX0_init 5 = .ok (.iconst 3, 1) := by decide +kernel
theorem dX0_init_6 : decode cX0_init 6 = .ok (.newarray .int, 2) := by decide +kernel
theorem dX0_init_8 : decode cX0_init 8 = .ok (.putfield 9, 3) := by decide +kernel
theorem dX0_init_11 : decode cX0_init 11 = .ok (.return_, 1) := by decide +kernel
theorem dX1_init_0 : decode cX1_init 0 = .ok (.aload_n 0, 1) := by decide +kernel
theorem dX1_init_1 : decode cX1_init 1 = .ok (.invokespecial 3, 3) := by decide +kernel
theorem dX1_init_4 : decode cX1_init 4 = .ok (.aload_n 0, 1) := by decide +kernel
theorem dX1_init_5 : decode cX1_init 5 = .ok (.iconst 4, 1) := by decide +kernel
theorem dX1_init_6 : decode cX1_init 6 = .ok (.newarray .int, 2) := by decide +kernel
theorem dX1_init_8 : decode cX1_init 8 = .ok (.putfield 9, 3) := by decide +kernel
theorem dX1_init_11 : decode cX1_init 11 = .ok (.aload_n 0, 1) := by decide +kernel
theorem dX1_init_12 : decode cX1_init 12 = .ok (.bipush 6, 2) := by decide +kernel
theorem dX1_init_14 : decode cX1_init 14 = .ok (.newarray .int, 2) := by decide +kernel
theorem dX1_init_16 : decode cX1_init 16 = .ok (.putfield 15, 3) := by decide +kernel
theorem dX1_init_19 : decode cX1_init 19 = .ok (.iconst 0, 1) := by decide +kernel
theorem dX1_init_20 : decode cX1_init 20 = .ok (.istore_n 2, 1) := by decide +kernel
theorem dX1_init_21 : decode cX1_init 21 = .ok (.iload_n 2, 1) := by decide +kernel
theorem dX1_init_22 : decode cX1_init 22 = .ok (.bipush 6, 2) := by decide +kernel
theorem dX1_init_24 : decode cX1_init 24 = .ok (.if_icmp .ge 20, 3) := by decide +kernel
theorem dX1_init_27 : decode cX1_init 27 = .ok (.aload_n 0, 1) := by decide +kernel
theorem dX1_init_28 : decode cX1_init 28 = .ok (.getfield 15, 3) := by decide +kernel
theorem dX1_init_31 : decode cX1_init 31 = .ok (.iload_n 2, 1) := by decide +kernel
theorem dX1_init_32 : decode cX1_init 32 = .ok (.sipush 1000, 3) := by decide +kernel
theorem dX1_init_35 : decode cX1_init 35 = .ok (.iload_n 1, 1) := by decide +kernel
theorem dX1_init_36 : decode cX1_init 36 = .ok (.iadd, 1) := by decide +kernel
theorem dX1_init_37 : decode cX1_init 37 = .ok (.iastore, 1) := by decide +kernel
theorem dX1_init_38 : decode cX1_init 38 = .ok (.iinc 2 1, 3) := by decide +kernel
theorem dX1_init_41 : decode cX1_init 41 = .ok (.goto (-20), 3) := by decide +kernel
theorem dX1_init_44 : decode cX1_init 44 = .ok (.aload_n 0, 1) := by decide +kernel
theorem dX1_init_45 : decode cX1_init 45 = .ok (.iconst (-1), 1) := by decide +kernel
theorem dX1_init_46 : decode cX1_init 46 = .ok (.putfield 18, 3) := by decide +kernel
theorem dX1_init_49 : decode cX1_init 49 = .ok (.aload_n 0, 1) := by decide +kernel
theorem dX1_init_50 : decode cX1_init 50 = .ok (.iconst (-1), 1) := by decide +kernel
theorem dX1_init_51 : decode cX1_init 51 = .ok (.putfield 22, 3) := by decide +kernel
theorem dX1_init_54 : decode cX1_init 54 = .ok (.aload_n 0, 1) := by decide +kernel
theorem dX1_init_55 : decode cX1_init 55 = .ok (.iconst 0, 1) := by decide +kernel
theorem dX1_init_56 : decode cX1_init 56 = .ok (.putfield 25, 3) := by decide +kernel
theorem dX1_init_59 : decode cX1_init 59 = .ok (.return_, 1) := by decide +kernel
theorem dX3_draw_0 : decode cX3_draw 0 = .ok (.aload_n 0, 1) := by decide +kernel
theorem dX3_draw_1 : decode cX3_draw 1 = .ok (.iload_n 1, 1) := by decide +kernel
theorem dX3_draw_2 : decode cX3_draw 2 = .ok (.invokevirtual 78, 3) := by decide +kernel
theorem dX3_draw_5 : decode cX3_draw 5 = .ok (.ifCond .eq 29, 3) := by decide +kernel
theorem dX3_draw_8 : decode cX3_draw 8 = .ok (.aload_n 0, 1) := by decide +kernel
theorem dX3_draw_9 : decode cX3_draw 9 = .ok (.iload_n 2, 1) := by decide +kernel
theorem dX3_draw_10 : decode cX3_draw 10 = .ok (.invokevirtual 43, 3) := by decide +kernel
theorem dX3_draw_13 : decode cX3_draw 13 = .ok (.ifCond .eq 21, 3) := by decide +kernel
theorem dX3_draw_16 : decode cX3_draw 16 = .ok (.iload_n 3, 1) := by decide +kernel
theorem dX3_draw_17 : decode cX3_draw 17 = .ok (.ifCond .lt 17, 3) := by decide +kernel
theorem dX3_draw_20 : decode cX3_draw 20 = .ok (.iload_n 3, 1) := by decide +kernel
theorem dX3_draw_21 : decode cX3_draw 21 = .ok (.sipush 999, 3) := by decide +kernel
theorem dX3_draw_24 : decode cX3_draw 24 = .ok (.if_icmp .gt 10, 3) := by decide +kernel
theorem dX3_draw_27 : decode cX3_draw 27 = .ok (.aload_n 0, 1) := by decide +kernel
theorem dX3_draw_28 : decode cX3_draw 28 = .ok (.getfield 32, 3) := by decide +kernel
theorem dX3_draw_31 : decode cX3_draw 31 = .ok (.ifCond .eq 5, 3) := by decide +kernel
theorem dX3_draw_34 : decode cX3_draw 34 = .ok (.iconst 0, 1) := by decide +kernel
theorem dX3_draw_35 : decode cX3_draw 35 = .ok (.ireturn, 1) := by decide +kernel
theorem dX3_draw_36 : decode cX3_draw 36 = .ok (.iconst 0, 1) := by decide +kernel
theorem dX3_draw_37 : decode cX3_draw 37 = .ok (.istore 4, 2) := by decide +kernel
theorem dX3_draw_39 : decode cX3_draw 39 = .ok (.iload 4, 2) := by decide +kernel
theorem dX3_draw_41 : decode cX3_draw 41 = .ok (.aload_n 0, 1) := by decide +kernel
theorem dX3_draw_42 : decode cX3_draw 42 = .ok (.getfield 69, 3) := by decide +kernel
theorem dX3_draw_45 : decode cX3_draw 45 = .ok (.if_icmp .ge 33, 3) := by decide +kernel
theorem dX3_draw_48 : decode cX3_draw 48 = .ok (.iload 4, 2) := by decide +kernel
theorem dX3_draw_50 : decode cX3_draw 50 = .ok (.iload_n 1, 1) := by decide +kernel
theorem dX3_draw_51 : decode cX3_draw 51 = .ok (.if_icmp .eq 21, 3) := by decide +kernel
theorem dX3_draw_54 : decode cX3_draw 54 = .ok (.aload_n 0, 1) := by decide +kernel
theorem dX3_draw_55 : decode cX3_draw 55 = .ok (.getfield 18, 3) := by decide +kernel
theorem dX3_draw_58 : decode cX3_draw 58 = .ok (.iload 4, 2) := by decide +kernel
theorem dX3_draw_60 : decode cX3_draw 60 = .ok (.aaload, 1) := by decide +kernel
theorem dX3_draw_61 : decode cX3_draw 61 = .ok (.getfield 91, 3) := by decide +kernel
theorem dX3_draw_64 : decode cX3_draw 64 = .ok (.iload_n 2, 1) := by decide +kernel
theorem dX3_draw_65 : decode cX3_draw 65 = .ok (.iaload, 1) := by decide +kernel
theorem dX3_draw_66 : decode cX3_draw 66 = .ok (.iload_n 3, 1) := by decide +kernel
theorem dX3_draw_67 : decode cX3_draw 67 = .ok (.if_icmp .ne 5, 3) := by decide +kernel
theorem dX3_draw_70 : decode cX3_draw 70 = .ok (.iconst 0, 1) := by decide +kernel
theorem dX3_draw_71 : decode cX3_draw 71 = .ok (.ireturn, 1) := by decide +kernel
theorem dX3_draw_72 : decode cX3_draw 72 = .ok (.iinc 4 1, 3) := by decide +kernel
theorem dX3_draw_75 : decode cX3_draw 75 = .ok (.goto (-36), 3) := by decide +kernel
theorem dX3_draw_78 : decode cX3_draw 78 = .ok (.aload_n 0, 1) := by decide +kernel
theorem dX3_draw_79 : decode cX3_draw 79 = .ok (.getfield 18, 3) := by decide +kernel
theorem dX3_draw_82 : decode cX3_draw 82 = .ok (.iload_n 1, 1) := by decide +kernel
theorem dX3_draw_83 : decode cX3_draw 83 = .ok (.aaload, 1) := by decide +kernel
theorem dX3_draw_84 : decode cX3_draw 84 = .ok (.getfield 91, 3) := by decide +kernel
theorem dX3_draw_87 : decode cX3_draw 87 = .ok (.iload_n 2, 1) := by decide +kernel
theorem dX3_draw_88 : decode cX3_draw 88 = .ok (.iload_n 3, 1) := by decide +kernel
theorem dX3_draw_89 : decode cX3_draw 89 = .ok (.iastore, 1) := by decide +kernel
theorem dX3_draw_90 : decode cX3_draw 90 = .ok (.iconst 1, 1) := by decide +kernel
theorem dX3_draw_91 : decode cX3_draw 91 = .ok (.ireturn, 1) := by decide +kernel
theorem dX3_isPupil_0 : decode cX3_isPupil 0 = .ok (.iload_n 1, 1) := by decide +kernel
theorem dX3_isPupil_1 : decode cX3_isPupil 1 = .ok (.ifCond .lt 15, 3) := by decide +kernel
theorem dX3_isPupil_4 : decode cX3_isPupil 4 = .ok (.iload_n 1, 1) := by decide +kernel
theorem dX3_isPupil_5 : decode cX3_isPupil 5 = .ok (.aload_n 0, 1) := by decide +kernel
theorem dX3_isPupil_6 : decode cX3_isPupil 6 = .ok (.getfield 69, 3) := by decide +kernel
theorem dX3_isPupil_9 : decode cX3_isPupil 9 = .ok (.if_icmp .ge 7, 3) := by decide +kernel
theorem dX3_isPupil_12 : decode cX3_isPupil 12 = .ok (.iconst 1, 1) := by decide +kernel
theorem dX3_isPupil_13 : decode cX3_isPupil 13 = .ok (.goto 4, 3) := by decide +kernel
theorem dX3_isPupil_16 : decode cX3_isPupil 16 = .ok (.iconst 0, 1) := by decide +kernel
theorem dX3_isPupil_17 : decode cX3_isPupil 17 = .ok (.ireturn, 1) := by decide +kernel
theorem dX3_isSchool_0 : decode cX3_isSchool 0 = .ok (.iload_n 1, 1) := by decide +kernel
theorem dX3_isSchool_1 : decode cX3_isSchool 1 = .ok (.ifCond .lt 15, 3) := by decide +kernel
theorem dX3_isSchool_4 : decode cX3_isSchool 4 = .ok (.iload_n 1, 1) := by decide +kernel
theorem dX3_isSchool_5 : decode cX3_isSchool 5 = .ok (.aload_n 0, 1) := by decide +kernel
theorem dX3_isSchool_6 : decode cX3_isSchool 6 = .ok (.getfield 36, 3) := by decide +kernel
theorem dX3_isSchool_9 : decode cX3_isSchool 9 = .ok (.if_icmp .ge 7, 3) := by decide +kernel
theorem dX3_isSchool_12 : decode cX3_isSchool 12 = .ok (.iconst 1, 1) := by decide +kernel
theorem dX3_isSchool_13 : decode cX3_isSchool 13 = .ok (.goto 4, 3) := by decide +kernel
theorem dX3_isSchool_16 : decode cX3_isSchool 16 = .ok (.iconst 0, 1) := by decide +kernel
theorem dX3_isSchool_17 : decode cX3_isSchool 17 = .ok (.ireturn, 1) := by decide +kernel
theorem dX3_answer_0 : decode cX3_answer 0 = .ok (.aload_n 0, 1) := by decide +kernel
theorem dX3_answer_1 : decode cX3_answer 1 = .ok (.iload_n 1, 1) := by decide +kernel
theorem dX3_answer_2 : decode cX3_answer 2 = .ok (.invokevirtual 78, 3) := by decide +kernel
theorem dX3_answer_5 : decode cX3_answer 5 = .ok (.ifCond .eq 22, 3) := by decide +kernel
theorem dX3_answer_8 : decode cX3_answer 8 = .ok (.aload_n 0, 1) := by decide +kernel
theorem dX3_answer_9 : decode cX3_answer 9 = .ok (.getfield 32, 3) := by decide +kernel
theorem dX3_answer_12 : decode cX3_answer 12 = .ok (.ifCond .eq 15, 3) := by decide +kernel
theorem dX3_answer_15 : decode cX3_answer 15 = .ok (.aload_n 0, 1) := by decide +kernel
theorem dX3_answer_16 : decode cX3_answer 16 = .ok (.getfield 18, 3) := by decide +kernel
theorem dX3_answer_19 : decode cX3_answer 19 = .ok (.iload_n 1, 1) := by decide +kernel
theorem dX3_answer_20 : decode cX3_answer 20 = .ok (.aaload, 1) := by decide +kernel
theorem dX3_answer_21 : decode cX3_answer 21 = .ok (.invokevirtual 104, 3) := by decide +kernel
theorem dX3_answer_24 : decode cX3_answer 24 = .ok (.ifCond .eq 5, 3) := by decide +kernel
theorem dX3_answer_27 : decode cX3_answer 27 = .ok (.iconst 0, 1) := by decide +kernel
theorem dX3_answer_28 : decode cX3_answer 28 = .ok (.ireturn, 1) := by decide +kernel
theorem dX3_answer_29 : decode cX3_answer 29 = .ok (.aload_n 0, 1) := by decide +kernel
theorem dX3_answer_30 : decode cX3_answer 30 = .ok (.getfield 18, 3) := by decide +kernel
theorem dX3_answer_33 : decode cX3_answer 33 = .ok (.iload_n 1, 1) := by decide +kernel
theorem dX3_answer_34 : decode cX3_answer 34 = .ok (.aaload, 1) := by decide +kernel
theorem dX3_answer_35 : decode cX3_answer 35 = .ok (.astore_n 3, 1) := by decide +kernel
theorem dX3_answer_36 : decode cX3_answer 36 = .ok (.iload_n 2, 1) := by decide +kernel
theorem dX3_answer_37 : decode cX3_answer 37 = .ok (.tableswitch 43 0 2 #[27, 32, 37], 27) := by decide +kernel
theorem dX3_answer_64 : decode cX3_answer 64 = .ok (.aload_n 3, 1) := by decide +kernel
theorem dX3_answer_65 : decode cX3_answer 65 = .ok (.invokevirtual 108, 3) := by decide +kernel
theorem dX3_answer_68 : decode cX3_answer 68 = .ok (.ireturn, 1) := by decide +kernel
theorem dX3_answer_69 : decode cX3_answer 69 = .ok (.aload_n 3, 1) := by decide +kernel
theorem dX3_answer_70 : decode cX3_answer 70 = .ok (.invokevirtual 111, 3) := by decide +kernel
theorem dX3_answer_73 : decode cX3_answer 73 = .ok (.ireturn, 1) := by decide +kernel
theorem dX3_answer_74 : decode cX3_answer 74 = .ok (.aload_n 3, 1) := by decide +kernel
theorem dX3_answer_75 : decode cX3_answer 75 = .ok (.invokevirtual 114, 3) := by decide +kernel
theorem dX3_answer_78 : decode cX3_answer 78 = .ok (.iconst 1, 1) := by decide +kernel
theorem dX3_answer_79 : decode cX3_answer 79 = .ok (.ireturn, 1) := by decide +kernel
theorem dX3_answer_80 : decode cX3_answer 80 = .ok (.iconst 0, 1) := by decide +kernel
theorem dX3_answer_81 : decode cX3_answer 81 = .ok (.ireturn, 1) := by decide +kernel
theorem dX1_hasLeft_0 : decode cX1_hasLeft 0 = .ok (.aload_n 0, 1) := by decide +kernel
theorem dX1_hasLeft_1 : decode cX1_hasLeft 1 = .ok (.getfield 25, 3) := by decide +kernel
theorem dX1_hasLeft_4 : decode cX1_hasLeft 4 = .ok (.iconst 3, 1) := by decide +kernel
theorem dX1_hasLeft_5 : decode cX1_hasLeft 5 = .ok (.if_icmp .ne 7, 3) := by decide +kernel
theorem dX1_hasLeft_8 : decode cX1_hasLeft 8 = .ok (.iconst 1, 1) := by decide +kernel
theorem dX1_hasLeft_9 : decode cX1_hasLeft 9 = .ok (.goto 4, 3) := by decide +kernel
theorem dX1_hasLeft_12 : decode cX1_hasLeft 12 = .ok (.iconst 0, 1) := by decide +kernel
theorem dX1_hasLeft_13 : decode cX1_hasLeft 13 = .ok (.ireturn, 1) := by decide +kernel
theorem dX1_accept_0 : decode cX1_accept 0 = .ok (.aload_n 0, 1) := by decide +kernel
theorem dX1_accept_1 : decode cX1_accept 1 = .ok (.invokevirtual 50, 3) := by decide +kernel
theorem dX1_accept_4 : decode cX1_accept 4 = .ok (.ifCond .ne 5, 3) := by decide +kernel
theorem dX1_accept_7 : decode cX1_accept 7 = .ok (.iconst 0, 1) := by decide +kernel
theorem dX1_accept_8 : decode cX1_accept 8 = .ok (.ireturn, 1) := by decide +kernel
theorem dX1_accept_9 : decode cX1_accept 9 = .ok (.aload_n 0, 1) := by decide +kernel
theorem dX1_accept_10 : decode cX1_accept 10 = .ok (.iconst 1, 1) := by decide +kernel
theorem dX1_accept_11 : decode cX1_accept 11 = .ok (.putfield 25, 3) := by decide +kernel
theorem dX1_accept_14 : decode cX1_accept 14 = .ok (.iconst 1, 1) := by decide +kernel
theorem dX1_accept_15 : decode cX1_accept 15 = .ok (.ireturn, 1) := by decide +kernel
theorem dX1_mayAnswer_0 : decode cX1_mayAnswer 0 = .ok (.aload_n 0, 1) := by decide +kernel
theorem dX1_mayAnswer_1 : decode cX1_mayAnswer 1 = .ok (.getfield 25, 3) := by decide +kernel
theorem dX1_mayAnswer_4 : decode cX1_mayAnswer 4 = .ok (.ifCond .ne 14, 3) := by decide +kernel
theorem dX1_mayAnswer_7 : decode cX1_mayAnswer 7 = .ok (.aload_n 0, 1) := by decide +kernel
theorem dX1_mayAnswer_8 : decode cX1_mayAnswer 8 = .ok (.invokevirtual 35, 3) := by decide +kernel
theorem dX1_mayAnswer_11 : decode cX1_mayAnswer 11 = .ok (.ifCond .eq 7, 3) := by decide +kernel
theorem dX1_mayAnswer_14 : decode cX1_mayAnswer 14 = .ok (.iconst 1, 1) := by decide +kernel
theorem dX1_mayAnswer_15 : decode cX1_mayAnswer 15 = .ok (.goto 4, 3) := by decide +kernel
theorem dX1_mayAnswer_18 : decode cX1_mayAnswer 18 = .ok (.iconst 0, 1) := by decide +kernel
theorem dX1_mayAnswer_19 : decode cX1_mayAnswer 19 = .ok (.ireturn, 1) := by decide +kernel
theorem dX1_isPlaced_0 : decode cX1_isPlaced 0 = .ok (.aload_n 0, 1) := by decide +kernel
theorem dX1_isPlaced_1 : decode cX1_isPlaced 1 = .ok (.getfield 18, 3) := by decide +kernel
theorem dX1_isPlaced_4 : decode cX1_isPlaced 4 = .ok (.iconst (-1), 1) := by decide +kernel
theorem dX1_isPlaced_5 : decode cX1_isPlaced 5 = .ok (.if_icmp .eq 7, 3) := by decide +kernel
theorem dX1_isPlaced_8 : decode cX1_isPlaced 8 = .ok (.iconst 1, 1) := by decide +kernel
theorem dX1_isPlaced_9 : decode cX1_isPlaced 9 = .ok (.goto 4, 3) := by decide +kernel
theorem dX1_isPlaced_12 : decode cX1_isPlaced 12 = .ok (.iconst 0, 1) := by decide +kernel
theorem dX1_isPlaced_13 : decode cX1_isPlaced 13 = .ok (.ireturn, 1) := by decide +kernel
theorem dX1_decline_0 : decode cX1_decline 0 = .ok (.aload_n 0, 1) := by decide +kernel
theorem dX1_decline_1 : decode cX1_decline 1 = .ok (.invokevirtual 50, 3) := by decide +kernel
theorem dX1_decline_4 : decode cX1_decline 4 = .ok (.ifCond .ne 5, 3) := by decide +kernel
theorem dX1_decline_7 : decode cX1_decline 7 = .ok (.iconst 0, 1) := by decide +kernel
theorem dX1_decline_8 : decode cX1_decline 8 = .ok (.ireturn, 1) := by decide +kernel
theorem dX1_decline_9 : decode cX1_decline 9 = .ok (.aload_n 0, 1) := by decide +kernel
theorem dX1_decline_10 : decode cX1_decline 10 = .ok (.iconst 2, 1) := by decide +kernel
theorem dX1_decline_11 : decode cX1_decline 11 = .ok (.putfield 25, 3) := by decide +kernel
theorem dX1_decline_14 : decode cX1_decline 14 = .ok (.aload_n 0, 1) := by decide +kernel
theorem dX1_decline_15 : decode cX1_decline 15 = .ok (.invokevirtual 53, 3) := by decide +kernel
theorem dX1_decline_18 : decode cX1_decline 18 = .ok (.aload_n 0, 1) := by decide +kernel
theorem dX1_decline_19 : decode cX1_decline 19 = .ok (.iconst 0, 1) := by decide +kernel
theorem dX1_decline_20 : decode cX1_decline 20 = .ok (.putfield 43, 3) := by decide +kernel
theorem dX1_decline_23 : decode cX1_decline 23 = .ok (.iconst 1, 1) := by decide +kernel
theorem dX1_decline_24 : decode cX1_decline 24 = .ok (.ireturn, 1) := by decide +kernel
theorem dX1_giveUpSeat_0 : decode cX1_giveUpSeat 0 = .ok (.aload_n 0, 1) := by decide +kernel
theorem dX1_giveUpSeat_1 : decode cX1_giveUpSeat 1 = .ok (.iconst (-1), 1) := by decide +kernel
theorem dX1_giveUpSeat_2 : decode cX1_giveUpSeat 2 = .ok (.iconst (-1), 1) := by decide +kernel
theorem dX1_giveUpSeat_3 : decode cX1_giveUpSeat 3 = .ok (.invokevirtual 46, 3) := by decide +kernel
theorem dX1_giveUpSeat_6 : decode cX1_giveUpSeat 6 = .ok (.return_, 1) := by decide +kernel
theorem dX1_sitAt_0 : decode cX1_sitAt 0 = .ok (.aload_n 0, 1) := by decide +kernel
theorem dX1_sitAt_1 : decode cX1_sitAt 1 = .ok (.iload_n 1, 1) := by decide +kernel
theorem dX1_sitAt_2 : decode cX1_sitAt 2 = .ok (.putfield 18, 3) := by decide +kernel
theorem dX1_sitAt_5 : decode cX1_sitAt 5 = .ok (.aload_n 0, 1) := by decide +kernel
theorem dX1_sitAt_6 : decode cX1_sitAt 6 = .ok (.iload_n 2, 1) := by decide +kernel
theorem dX1_sitAt_7 : decode cX1_sitAt 7 = .ok (.putfield 22, 3) := by decide +kernel
theorem dX1_sitAt_10 : decode cX1_sitAt 10 = .ok (.return_, 1) := by decide +kernel
theorem dX1_leave_0 : decode cX1_leave 0 = .ok (.aload_n 0, 1) := by decide +kernel
theorem dX1_leave_1 : decode cX1_leave 1 = .ok (.iconst 3, 1) := by decide +kernel
theorem dX1_leave_2 : decode cX1_leave 2 = .ok (.putfield 25, 3) := by decide +kernel
theorem dX1_leave_5 : decode cX1_leave 5 = .ok (.aload_n 0, 1) := by decide +kernel
theorem dX1_leave_6 : decode cX1_leave 6 = .ok (.invokevirtual 53, 3) := by decide +kernel
theorem dX1_leave_9 : decode cX1_leave 9 = .ok (.aload_n 0, 1) := by decide +kernel
theorem dX1_leave_10 : decode cX1_leave 10 = .ok (.iconst 0, 1) := by decide +kernel
theorem dX1_leave_11 : decode cX1_leave 11 = .ok (.putfield 43, 3) := by decide +kernel
theorem dX1_leave_14 : decode cX1_leave 14 = .ok (.return_, 1) := by decide +kernel
theorem dX3_stay_0 : decode cX3_stay 0 = .ok (.aload_n 0, 1) := by decide +kernel
theorem dX3_stay_1 : decode cX3_stay 1 = .ok (.iload_n 1, 1) := by decide +kernel
theorem dX3_stay_2 : decode cX3_stay 2 = .ok (.invokevirtual 78, 3) := by decide +kernel
theorem dX3_stay_5 : decode cX3_stay 5 = .ok (.ifCond .eq 31, 3) := by decide +kernel
theorem dX3_stay_8 : decode cX3_stay 8 = .ok (.iload_n 2, 1) := by decide +kernel
theorem dX3_stay_9 : decode cX3_stay 9 = .ok (.ifCond .lt 27, 3) := by decide +kernel
theorem dX3_stay_12 : decode cX3_stay 12 = .ok (.iload_n 2, 1) := by decide +kernel
theorem dX3_stay_13 : decode cX3_stay 13 = .ok (.iconst 4, 1) := by decide +kernel
theorem dX3_stay_14 : decode cX3_stay 14 = .ok (.if_icmp .gt 22, 3) := by decide +kernel
theorem dX3_stay_17 : decode cX3_stay 17 = .ok (.aload_n 0, 1) := by decide +kernel
theorem dX3_stay_18 : decode cX3_stay 18 = .ok (.getfield 32, 3) := by decide +kernel
theorem dX3_stay_21 : decode cX3_stay 21 = .ok (.ifCond .eq 15, 3) := by decide +kernel
theorem dX3_stay_24 : decode cX3_stay 24 = .ok (.aload_n 0, 1) := by decide +kernel
theorem dX3_stay_25 : decode cX3_stay 25 = .ok (.getfield 18, 3) := by decide +kernel
theorem dX3_stay_28 : decode cX3_stay 28 = .ok (.iload_n 1, 1) := by decide +kernel
theorem dX3_stay_29 : decode cX3_stay 29 = .ok (.aaload, 1) := by decide +kernel
theorem dX3_stay_30 : decode cX3_stay 30 = .ok (.invokevirtual 104, 3) := by decide +kernel
theorem dX3_stay_33 : decode cX3_stay 33 = .ok (.ifCond .eq 5, 3) := by decide +kernel
theorem dX3_stay_36 : decode cX3_stay 36 = .ok (.iconst 0, 1) := by decide +kernel
theorem dX3_stay_37 : decode cX3_stay 37 = .ok (.ireturn, 1) := by decide +kernel
theorem dX3_stay_38 : decode cX3_stay 38 = .ok (.aload_n 0, 1) := by decide +kernel
theorem dX3_stay_39 : decode cX3_stay 39 = .ok (.getfield 18, 3) := by decide +kernel
theorem dX3_stay_42 : decode cX3_stay 42 = .ok (.iload_n 1, 1) := by decide +kernel
theorem dX3_stay_43 : decode cX3_stay 43 = .ok (.aaload, 1) := by decide +kernel
theorem dX3_stay_44 : decode cX3_stay 44 = .ok (.iload_n 2, 1) := by decide +kernel
theorem dX3_stay_45 : decode cX3_stay 45 = .ok (.putfield 117, 3) := by decide +kernel
theorem dX3_stay_48 : decode cX3_stay 48 = .ok (.iconst 1, 1) := by decide +kernel
theorem dX3_stay_49 : decode cX3_stay 49 = .ok (.ireturn, 1) := by decide +kernel
theorem dX3_appeal_0 : decode cX3_appeal 0 = .ok (.aload_n 0, 1) := by decide +kernel
theorem dX3_appeal_1 : decode cX3_appeal 1 = .ok (.iload_n 1, 1) := by decide +kernel
theorem dX3_appeal_2 : decode cX3_appeal 2 = .ok (.invokevirtual 78, 3) := by decide +kernel
theorem dX3_appeal_5 : decode cX3_appeal 5 = .ok (.ifCond .eq 10, 3) := by decide +kernel
theorem dX3_appeal_8 : decode cX3_appeal 8 = .ok (.iload_n 2, 1) := by decide +kernel
theorem dX3_appeal_9 : decode cX3_appeal 9 = .ok (.invokestatic 66, 3) := by decide +kernel
theorem dX3_appeal_12 : decode cX3_appeal 12 = .ok (.ifCond .ne 5, 3) := by decide +kernel
theorem dX3_appeal_15 : decode cX3_appeal 15 = .ok (.iconst 0, 1) := by decide +kernel
theorem dX3_appeal_16 : decode cX3_appeal 16 = .ok (.ireturn, 1) := by decide +kernel
theorem dX3_appeal_17 : decode cX3_appeal 17 = .ok (.aload_n 0, 1) := by decide +kernel
theorem dX3_appeal_18 : decode cX3_appeal 18 = .ok (.getfield 18, 3) := by decide +kernel
theorem dX3_appeal_21 : decode cX3_appeal 21 = .ok (.iload_n 1, 1) := by decide +kernel
theorem dX3_appeal_22 : decode cX3_appeal 22 = .ok (.aaload, 1) := by decide +kernel
theorem dX3_appeal_23 : decode cX3_appeal 23 = .ok (.iload_n 2, 1) := by decide +kernel
theorem dX3_appeal_24 : decode cX3_appeal 24 = .ok (.putfield 72, 3) := by decide +kernel
theorem dX3_appeal_27 : decode cX3_appeal 27 = .ok (.iconst 1, 1) := by decide +kernel
theorem dX3_appeal_28 : decode cX3_appeal 28 = .ok (.ireturn, 1) := by decide +kernel
theorem dX3_areFlags_0 : decode cX3_areFlags 0 = .ok (.iload_n 0, 1) := by decide +kernel
theorem dX3_areFlags_1 : decode cX3_areFlags 1 = .ok (.ifCond .lt 13, 3) := by decide +kernel
theorem dX3_areFlags_4 : decode cX3_areFlags 4 = .ok (.iload_n 0, 1) := by decide +kernel
theorem dX3_areFlags_5 : decode cX3_areFlags 5 = .ok (.bipush 15, 2) := by decide +kernel
theorem dX3_areFlags_7 : decode cX3_areFlags 7 = .ok (.if_icmp .gt 7, 3) := by decide +kernel
theorem dX3_areFlags_10 : decode cX3_areFlags 10 = .ok (.iconst 1, 1) := by decide +kernel
theorem dX3_areFlags_11 : decode cX3_areFlags 11 = .ok (.goto 4, 3) := by decide +kernel
theorem dX3_areFlags_14 : decode cX3_areFlags 14 = .ok (.iconst 0, 1) := by decide +kernel
theorem dX3_areFlags_15 : decode cX3_areFlags 15 = .ok (.ireturn, 1) := by decide +kernel
theorem dX3_seat_0 : decode cX3_seat 0 = .ok (.aload_n 0, 1) := by decide +kernel
theorem dX3_seat_1 : decode cX3_seat 1 = .ok (.iload_n 1, 1) := by decide +kernel
theorem dX3_seat_2 : decode cX3_seat 2 = .ok (.invokevirtual 78, 3) := by decide +kernel
theorem dX3_seat_5 : decode cX3_seat 5 = .ok (.ifCond .ne 5, 3) := by decide +kernel
theorem dX3_seat_8 : decode cX3_seat 8 = .ok (.iconst (-1), 1) := by decide +kernel
theorem dX3_seat_9 : decode cX3_seat 9 = .ok (.ireturn, 1) := by decide +kernel
theorem dX3_seat_10 : decode cX3_seat 10 = .ok (.aload_n 0, 1) := by decide +kernel
theorem dX3_seat_11 : decode cX3_seat 11 = .ok (.getfield 18, 3) := by decide +kernel
theorem dX3_seat_14 : decode cX3_seat 14 = .ok (.iload_n 1, 1) := by decide +kernel
theorem dX3_seat_15 : decode cX3_seat 15 = .ok (.aaload, 1) := by decide +kernel
theorem dX3_seat_16 : decode cX3_seat 16 = .ok (.astore_n 3, 1) := by decide +kernel
theorem dX3_seat_17 : decode cX3_seat 17 = .ok (.iload_n 2, 1) := by decide +kernel
theorem dX3_seat_18 : decode cX3_seat 18 = .ok (.tableswitch 68 0 5 #[38, 43, 48, 53, 58, 63], 38) := by decide +kernel
theorem dX3_seat_56 : decode cX3_seat 56 = .ok (.aload_n 3, 1) := by decide +kernel
theorem dX3_seat_57 : decode cX3_seat 57 = .ok (.getfield 123, 3) := by decide +kernel
theorem dX3_seat_60 : decode cX3_seat 60 = .ok (.ireturn, 1) := by decide +kernel
theorem dX3_seat_61 : decode cX3_seat 61 = .ok (.aload_n 3, 1) := by decide +kernel
theorem dX3_seat_62 : decode cX3_seat 62 = .ok (.getfield 130, 3) := by decide +kernel
theorem dX3_seat_65 : decode cX3_seat 65 = .ok (.ireturn, 1) := by decide +kernel
theorem dX3_seat_66 : decode cX3_seat 66 = .ok (.aload_n 3, 1) := by decide +kernel
theorem dX3_seat_67 : decode cX3_seat 67 = .ok (.getfield 133, 3) := by decide +kernel
theorem dX3_seat_70 : decode cX3_seat 70 = .ok (.ireturn, 1) := by decide +kernel
theorem dX3_seat_71 : decode cX3_seat 71 = .ok (.aload_n 3, 1) := by decide +kernel
theorem dX3_seat_72 : decode cX3_seat 72 = .ok (.getfield 136, 3) := by decide +kernel
theorem dX3_seat_75 : decode cX3_seat 75 = .ok (.ireturn, 1) := by decide +kernel
theorem dX3_seat_76 : decode cX3_seat 76 = .ok (.aload_n 3, 1) := by decide +kernel
theorem dX3_seat_77 : decode cX3_seat 77 = .ok (.getfield 117, 3) := by decide +kernel
theorem dX3_seat_80 : decode cX3_seat 80 = .ok (.ireturn, 1) := by decide +kernel
theorem dX3_seat_81 : decode cX3_seat 81 = .ok (.aload_n 3, 1) := by decide +kernel
theorem dX3_seat_82 : decode cX3_seat 82 = .ok (.getfield 72, 3) := by decide +kernel
theorem dX3_seat_85 : decode cX3_seat 85 = .ok (.ireturn, 1) := by decide +kernel
theorem dX3_seat_86 : decode cX3_seat 86 = .ok (.iconst (-1), 1) := by decide +kernel
theorem dX3_seat_87 : decode cX3_seat 87 = .ok (.ireturn, 1) := by decide +kernel
theorem dX3_held_0 : decode cX3_held 0 = .ok (.aload_n 0, 1) := by decide +kernel
theorem dX3_held_1 : decode cX3_held 1 = .ok (.iload_n 1, 1) := by decide +kernel
theorem dX3_held_2 : decode cX3_held 2 = .ok (.invokevirtual 43, 3) := by decide +kernel
theorem dX3_held_5 : decode cX3_held 5 = .ok (.ifCond .eq 20, 3) := by decide +kernel
theorem dX3_held_8 : decode cX3_held 8 = .ok (.iload_n 2, 1) := by decide +kernel
theorem dX3_held_9 : decode cX3_held 9 = .ok (.ifCond .lt 16, 3) := by decide +kernel
theorem dX3_held_12 : decode cX3_held 12 = .ok (.iload_n 2, 1) := by decide +kernel
theorem dX3_held_13 : decode cX3_held 13 = .ok (.aload_n 0, 1) := by decide +kernel
theorem dX3_held_14 : decode cX3_held 14 = .ok (.getfield 11, 3) := by decide +kernel
theorem dX3_held_17 : decode cX3_held 17 = .ok (.iload_n 1, 1) := by decide +kernel
theorem dX3_held_18 : decode cX3_held 18 = .ok (.aaload, 1) := by decide +kernel
theorem dX3_held_19 : decode cX3_held 19 = .ok (.getfield 50, 3) := by decide +kernel
theorem dX3_held_22 : decode cX3_held 22 = .ok (.if_icmp .lt 5, 3) := by decide +kernel
theorem dX3_held_25 : decode cX3_held 25 = .ok (.iconst (-1), 1) := by decide +kernel
theorem dX3_held_26 : decode cX3_held 26 = .ok (.ireturn, 1) := by decide +kernel
theorem dX3_held_27 : decode cX3_held 27 = .ok (.iload_n 3, 1) := by decide +kernel
theorem dX3_held_28 : decode cX3_held 28 = .ok (.tableswitch 57 0 2 #[28, 43, 50], 28) := by decide +kernel
theorem dX3_held_56 : decode cX3_held 56 = .ok (.aload_n 0, 1) := by decide +kernel
theorem dX3_held_57 : decode cX3_held 57 = .ok (.getfield 11, 3) := by decide +kernel
theorem dX3_held_60 : decode cX3_held 60 = .ok (.iload_n 1, 1) := by decide +kernel
theorem dX3_held_61 : decode cX3_held 61 = .ok (.aaload, 1) := by decide +kernel
theorem dX3_held_62 : decode cX3_held 62 = .ok (.getfield 53, 3) := by decide +kernel
theorem dX3_held_65 : decode cX3_held 65 = .ok (.iload_n 2, 1) := by decide +kernel
theorem dX3_held_66 : decode cX3_held 66 = .ok (.aaload, 1) := by decide +kernel
theorem dX3_held_67 : decode cX3_held 67 = .ok (.getfield 57, 3) := by decide +kernel
theorem dX3_held_70 : decode cX3_held 70 = .ok (.ireturn, 1) := by decide +kernel
theorem dX3_held_71 : decode cX3_held 71 = .ok (.aload_n 0, 1) := by decide +kernel
theorem dX3_held_72 : decode cX3_held 72 = .ok (.iload_n 1, 1) := by decide +kernel
theorem dX3_held_73 : decode cX3_held 73 = .ok (.iload_n 2, 1) := by decide +kernel
theorem dX3_held_74 : decode cX3_held 74 = .ok (.invokevirtual 139, 3) := by decide +kernel
theorem dX3_held_77 : decode cX3_held 77 = .ok (.ireturn, 1) := by decide +kernel
theorem dX3_held_78 : decode cX3_held 78 = .ok (.aload_n 0, 1) := by decide +kernel
theorem dX3_held_79 : decode cX3_held 79 = .ok (.iload_n 1, 1) := by decide +kernel
theorem dX3_held_80 : decode cX3_held 80 = .ok (.iload_n 2, 1) := by decide +kernel
theorem dX3_held_81 : decode cX3_held 81 = .ok (.invokevirtual 143, 3) := by decide +kernel
theorem dX3_held_84 : decode cX3_held 84 = .ok (.ireturn, 1) := by decide +kernel
theorem dX3_held_85 : decode cX3_held 85 = .ok (.iconst (-1), 1) := by decide +kernel
theorem dX3_held_86 : decode cX3_held 86 = .ok (.ireturn, 1) := by decide +kernel
theorem dX3_countHolders_0 : decode cX3_countHolders 0 = .ok (.iconst 0, 1) := by decide +kernel
theorem dX3_countHolders_1 : decode cX3_countHolders 1 = .ok (.istore_n 3, 1) := by decide +kernel
theorem dX3_countHolders_2 : decode cX3_countHolders 2 = .ok (.iconst 0, 1) := by decide +kernel
theorem dX3_countHolders_3 : decode cX3_countHolders 3 = .ok (.istore 4, 2) := by decide +kernel
theorem dX3_countHolders_5 : decode cX3_countHolders 5 = .ok (.iload 4, 2) := by decide +kernel
theorem dX3_countHolders_7 : decode cX3_countHolders 7 = .ok (.aload_n 0, 1) := by decide +kernel
theorem dX3_countHolders_8 : decode cX3_countHolders 8 = .ok (.getfield 69, 3) := by decide +kernel
theorem dX3_countHolders_11 : decode cX3_countHolders 11 = .ok (.if_icmp .ge 27, 3) := by decide +kernel
theorem dX3_countHolders_14 : decode cX3_countHolders 14 = .ok (.aload_n 0, 1) := by decide +kernel
theorem dX3_countHolders_15 : decode cX3_countHolders 15 = .ok (.getfield 18, 3) := by decide +kernel
theorem dX3_countHolders_18 : decode cX3_countHolders 18 = .ok (.iload 4, 2) := by decide +kernel
theorem dX3_countHolders_20 : decode cX3_countHolders 20 = .ok (.aaload, 1) := by decide +kernel
theorem dX3_countHolders_21 : decode cX3_countHolders 21 = .ok (.iload_n 1, 1) := by decide +kernel
theorem dX3_countHolders_22 : decode cX3_countHolders 22 = .ok (.iload_n 2, 1) := by decide +kernel
theorem dX3_countHolders_23 : decode cX3_countHolders 23 = .ok (.invokevirtual 167, 3) := by decide +kernel
theorem dX3_countHolders_26 : decode cX3_countHolders 26 = .ok (.ifCond .eq 6, 3) := by decide +kernel
theorem dX3_countHolders_29 : decode cX3_countHolders 29 = .ok (.iinc 3 1, 3) := by decide +kernel
theorem dX3_countHolders_32 : decode cX3_countHolders 32 = .ok (.iinc 4 1, 3) := by decide +kernel
theorem dX3_countHolders_35 : decode cX3_countHolders 35 = .ok (.goto (-30), 3) := by decide +kernel
theorem dX3_countHolders_38 : decode cX3_countHolders 38 = .ok (.iload_n 3, 1) := by decide +kernel
theorem dX3_countHolders_39 : decode cX3_countHolders 39 = .ok (.ireturn, 1) := by decide +kernel
theorem dX1_holds_0 : decode cX1_holds 0 = .ok (.aload_n 0, 1) := by decide +kernel
theorem dX1_holds_1 : decode cX1_holds 1 = .ok (.getfield 18, 3) := by decide +kernel
theorem dX1_holds_4 : decode cX1_holds 4 = .ok (.iload_n 1, 1) := by decide +kernel
theorem dX1_holds_5 : decode cX1_holds 5 = .ok (.if_icmp .ne 15, 3) := by decide +kernel
theorem dX1_holds_8 : decode cX1_holds 8 = .ok (.aload_n 0, 1) := by decide +kernel
theorem dX1_holds_9 : decode cX1_holds 9 = .ok (.getfield 22, 3) := by decide +kernel
theorem dX1_holds_12 : decode cX1_holds 12 = .ok (.iload_n 2, 1) := by decide +kernel
theorem dX1_holds_13 : decode cX1_holds 13 = .ok (.if_icmp .ne 7, 3) := by decide +kernel
theorem dX1_holds_16 : decode cX1_holds 16 = .ok (.iconst 1, 1) := by decide +kernel
theorem dX1_holds_17 : decode cX1_holds 17 = .ok (.goto 4, 3) := by decide +kernel
theorem dX1_holds_20 : decode cX1_holds 20 = .ok (.iconst 0, 1) := by decide +kernel
theorem dX1_holds_21 : decode cX1_holds 21 = .ok (.ireturn, 1) := by decide +kernel
theorem dX3_lastHolder_0 : decode cX3_lastHolder 0 = .ok (.iconst (-1), 1) := by decide +kernel
theorem dX3_lastHolder_1 : decode cX3_lastHolder 1 = .ok (.istore_n 3, 1) := by decide +kernel
theorem dX3_lastHolder_2 : decode cX3_lastHolder 2 = .ok (.iconst (-1), 1) := by decide +kernel
theorem dX3_lastHolder_3 : decode cX3_lastHolder 3 = .ok (.istore 4, 2) := by decide +kernel
theorem dX3_lastHolder_5 : decode cX3_lastHolder 5 = .ok (.iconst 0, 1) := by decide +kernel
theorem dX3_lastHolder_6 : decode cX3_lastHolder 6 = .ok (.istore 5, 2) := by decide +kernel
theorem dX3_lastHolder_8 : decode cX3_lastHolder 8 = .ok (.iload 5, 2) := by decide +kernel
theorem dX3_lastHolder_10 : decode cX3_lastHolder 10 = .ok (.aload_n 0, 1) := by decide +kernel
theorem dX3_lastHolder_11 : decode cX3_lastHolder 11 = .ok (.getfield 69, 3) := by decide +kernel
theorem dX3_lastHolder_14 : decode cX3_lastHolder 14 = .ok (.if_icmp .ge 48, 3) := by decide +kernel
theorem dX3_lastHolder_17 : decode cX3_lastHolder 17 = .ok (.aload_n 0, 1) := by decide +kernel
theorem dX3_lastHolder_18 : decode cX3_lastHolder 18 = .ok (.getfield 18, 3) := by decide +kernel
theorem dX3_lastHolder_21 : decode cX3_lastHolder 21 = .ok (.iload 5, 2) := by decide +kernel
theorem dX3_lastHolder_23 : decode cX3_lastHolder 23 = .ok (.aaload, 1) := by decide +kernel
theorem dX3_lastHolder_24 : decode cX3_lastHolder 24 = .ok (.iload_n 1, 1) := by decide +kernel
theorem dX3_lastHolder_25 : decode cX3_lastHolder 25 = .ok (.iload_n 2, 1) := by decide +kernel
theorem dX3_lastHolder_26 : decode cX3_lastHolder 26 = .ok (.invokevirtual 167, 3) := by decide +kernel
theorem dX3_lastHolder_29 : decode cX3_lastHolder 29 = .ok (.ifCond .eq 27, 3) := by decide +kernel
theorem dX3_lastHolder_32 : decode cX3_lastHolder 32 = .ok (.aload_n 0, 1) := by decide +kernel
theorem dX3_lastHolder_33 : decode cX3_lastHolder 33 = .ok (.iload 5, 2) := by decide +kernel
theorem dX3_lastHolder_35 : decode cX3_lastHolder 35 = .ok (.iload_n 1, 1) := by decide +kernel
theorem dX3_lastHolder_36 : decode cX3_lastHolder 36 = .ok (.iload_n 2, 1) := by decide +kernel
theorem dX3_lastHolder_37 : decode cX3_lastHolder 37 = .ok (.invokevirtual 153, 3) := by decide +kernel
theorem dX3_lastHolder_40 : decode cX3_lastHolder 40 = .ok (.istore 6, 2) := by decide +kernel
theorem dX3_lastHolder_42 : decode cX3_lastHolder 42 = .ok (.iload 6, 2) := by decide +kernel
theorem dX3_lastHolder_44 : decode cX3_lastHolder 44 = .ok (.iload 4, 2) := by decide +kernel
theorem dX3_lastHolder_46 : decode cX3_lastHolder 46 = .ok (.if_icmp .le 10, 3) := by decide +kernel
theorem dX3_lastHolder_49 : decode cX3_lastHolder 49 = .ok (.iload 5, 2) := by decide +kernel
theorem dX3_lastHolder_51 : decode cX3_lastHolder 51 = .ok (.istore_n 3, 1) := by decide +kernel
theorem dX3_lastHolder_52 : decode cX3_lastHolder 52 = .ok (.iload 6, 2) := by decide +kernel
theorem dX3_lastHolder_54 : decode cX3_lastHolder 54 = .ok (.istore 4, 2) := by decide +kernel
theorem dX3_lastHolder_56 : decode cX3_lastHolder 56 = .ok (.iinc 5 1, 3) := by decide +kernel
theorem dX3_lastHolder_59 : decode cX3_lastHolder 59 = .ok (.goto (-51), 3) := by decide +kernel
theorem dX3_lastHolder_62 : decode cX3_lastHolder 62 = .ok (.iload_n 3, 1) := by decide +kernel
theorem dX3_lastHolder_63 : decode cX3_lastHolder 63 = .ok (.ireturn, 1) := by decide +kernel
theorem dX3_standing_0 : decode cX3_standing 0 = .ok (.aload_n 0, 1) := by decide +kernel
theorem dX3_standing_1 : decode cX3_standing 1 = .ok (.getfield 18, 3) := by decide +kernel
theorem dX3_standing_4 : decode cX3_standing 4 = .ok (.iload_n 1, 1) := by decide +kernel
theorem dX3_standing_5 : decode cX3_standing 5 = .ok (.aaload, 1) := by decide +kernel
theorem dX3_standing_6 : decode cX3_standing 6 = .ok (.astore 4, 2) := by decide +kernel
theorem dX3_standing_8 : decode cX3_standing 8 = .ok (.aload_n 0, 1) := by decide +kernel
theorem dX3_standing_9 : decode cX3_standing 9 = .ok (.getfield 11, 3) := by decide +kernel
theorem dX3_standing_12 : decode cX3_standing 12 = .ok (.iload_n 2, 1) := by decide +kernel
theorem dX3_standing_13 : decode cX3_standing 13 = .ok (.aaload, 1) := by decide +kernel
theorem dX3_standing_14 : decode cX3_standing 14 = .ok (.getfield 53, 3) := by decide +kernel
theorem dX3_standing_17 : decode cX3_standing 17 = .ok (.iload_n 3, 1) := by decide +kernel
theorem dX3_standing_18 : decode cX3_standing 18 = .ok (.aaload, 1) := by decide +kernel
theorem dX3_standing_19 : decode cX3_standing 19 = .ok (.aload 4, 2) := by decide +kernel
theorem dX3_standing_21 : decode cX3_standing 21 = .ok (.getfield 72, 3) := by decide +kernel
theorem dX3_standing_24 : decode cX3_standing 24 = .ok (.invokevirtual 170, 3) := by decide +kernel
theorem dX3_standing_27 : decode cX3_standing 27 = .ok (.istore 5, 2) := by decide +kernel
theorem dX3_standing_29 : decode cX3_standing 29 = .ok (.iload 5, 2) := by decide +kernel
theorem dX3_standing_31 : decode cX3_standing 31 = .ok (.iconst (-1), 1) := by decide +kernel
theorem dX3_standing_32 : decode cX3_standing 32 = .ok (.if_icmp .ne 8, 3) := by decide +kernel
theorem dX3_standing_35 : decode cX3_standing 35 = .ok (.ldc 157, 2) := by decide +kernel
theorem dX3_standing_37 : decode cX3_standing 37 = .ok (.iload_n 1, 1) := by decide +kernel
theorem dX3_standing_38 : decode cX3_standing 38 = .ok (.iadd, 1) := by decide +kernel
theorem dX3_standing_39 : decode cX3_standing 39 = .ok (.ireturn, 1) := by decide +kernel
theorem dX3_standing_40 : decode cX3_standing 40 = .ok (.aload 4, 2) := by decide +kernel
theorem dX3_standing_42 : decode cX3_standing 42 = .ok (.getfield 75, 3) := by decide +kernel
theorem dX3_standing_45 : decode cX3_standing 45 = .ok (.ifCond .eq 10, 3) := by decide +kernel
theorem dX3_standing_48 : decode cX3_standing 48 = .ok (.iconst 3, 1) := by decide +kernel
theorem dX3_standing_49 : decode cX3_standing 49 = .ok (.iload 5, 2) := by decide +kernel
theorem dX3_standing_51 : decode cX3_standing 51 = .ok (.iadd, 1) := by decide +kernel
theorem dX3_standing_52 : decode cX3_standing 52 = .ok (.goto 5, 3) := by decide +kernel
theorem dX3_standing_55 : decode cX3_standing 55 = .ok (.iload 5, 2) := by decide +kernel
theorem dX3_standing_57 : decode cX3_standing 57 = .ok (.istore 6, 2) := by decide +kernel
theorem dX3_standing_59 : decode cX3_standing 59 = .ok (.iload 6, 2) := by decide +kernel
theorem dX3_standing_61 : decode cX3_standing 61 = .ok (.sipush 2000, 3) := by decide +kernel
theorem dX3_standing_64 : decode cX3_standing 64 = .ok (.imul, 1) := by decide +kernel
theorem dX3_standing_65 : decode cX3_standing 65 = .ok (.aload 4, 2) := by decide +kernel
theorem dX3_standing_67 : decode cX3_standing 67 = .ok (.getfield 91, 3) := by decide +kernel
theorem dX3_standing_70 : decode cX3_standing 70 = .ok (.iload_n 2, 1) := by decide +kernel
theorem dX3_standing_71 : decode cX3_standing 71 = .ok (.iaload, 1) := by decide +kernel
theorem dX3_standing_72 : decode cX3_standing 72 = .ok (.iadd, 1) := by decide +kernel
theorem dX3_standing_73 : decode cX3_standing 73 = .ok (.ireturn, 1) := by decide +kernel
theorem dX0_bandOf_0 : decode cX0_bandOf 0 = .ok (.iconst 0, 1) := by decide +kernel
theorem dX0_bandOf_1 : decode cX0_bandOf 1 = .ok (.istore_n 2, 1) := by decide +kernel
theorem dX0_bandOf_2 : decode cX0_bandOf 2 = .ok (.iload_n 2, 1) := by decide +kernel
theorem dX0_bandOf_3 : decode cX0_bandOf 3 = .ok (.aload_n 0, 1) := by decide +kernel
theorem dX0_bandOf_4 : decode cX0_bandOf 4 = .ok (.getfield 15, 3) := by decide +kernel
theorem dX0_bandOf_7 : decode cX0_bandOf 7 = .ok (.if_icmp .ge 28, 3) := by decide +kernel
theorem dX0_bandOf_10 : decode cX0_bandOf 10 = .ok (.iload_n 1, 1) := by decide +kernel
theorem dX0_bandOf_11 : decode cX0_bandOf 11 = .ok (.aload_n 0, 1) := by decide +kernel
theorem dX0_bandOf_12 : decode cX0_bandOf 12 = .ok (.getfield 9, 3) := by decide +kernel
theorem dX0_bandOf_15 : decode cX0_bandOf 15 = .ok (.iload_n 2, 1) := by decide +kernel
theorem dX0_bandOf_16 : decode cX0_bandOf 16 = .ok (.iaload, 1) := by decide +kernel
theorem dX0_bandOf_17 : decode cX0_bandOf 17 = .ok (.iand, 1) := by decide +kernel
theorem dX0_bandOf_18 : decode cX0_bandOf 18 = .ok (.aload_n 0, 1) := by decide +kernel
theorem dX0_bandOf_19 : decode cX0_bandOf 19 = .ok (.getfield 9, 3) := by decide +kernel
theorem dX0_bandOf_22 : decode cX0_bandOf 22 = .ok (.iload_n 2, 1) := by decide +kernel
theorem dX0_bandOf_23 : decode cX0_bandOf 23 = .ok (.iaload, 1) := by decide +kernel
theorem dX0_bandOf_24 : decode cX0_bandOf 24 = .ok (.if_icmp .ne 5, 3) := by decide +kernel
theorem dX0_bandOf_27 : decode cX0_bandOf 27 = .ok (.iload_n 2, 1) := by decide +kernel
theorem dX0_bandOf_28 : decode cX0_bandOf 28 = .ok (.ireturn, 1) := by decide +kernel
theorem dX0_bandOf_29 : decode cX0_bandOf 29 = .ok (.iinc 2 1, 3) := by decide +kernel
theorem dX0_bandOf_32 : decode cX0_bandOf 32 = .ok (.goto (-30), 3) := by decide +kernel
theorem dX0_bandOf_35 : decode cX0_bandOf 35 = .ok (.iconst (-1), 1) := by decide +kernel
theorem dX0_bandOf_36 : decode cX0_bandOf 36 = .ok (.ireturn, 1) := by decide +kernel
theorem dX3_blocking_0 : decode cX3_blocking 0 = .ok (.aload_n 0, 1) := by decide +kernel
theorem dX3_blocking_1 : decode cX3_blocking 1 = .ok (.getfield 32, 3) := by decide +kernel
theorem dX3_blocking_4 : decode cX3_blocking 4 = .ok (.ifCond .ne 5, 3) := by decide +kernel
theorem dX3_blocking_7 : decode cX3_blocking 7 = .ok (.iconst (-1), 1) := by decide +kernel
theorem dX3_blocking_8 : decode cX3_blocking 8 = .ok (.ireturn, 1) := by decide +kernel
theorem dX3_blocking_9 : decode cX3_blocking 9 = .ok (.iconst 0, 1) := by decide +kernel
theorem dX3_blocking_10 : decode cX3_blocking 10 = .ok (.istore_n 2, 1) := by decide +kernel
theorem dX3_blocking_11 : decode cX3_blocking 11 = .ok (.iconst 0, 1) := by decide +kernel
theorem dX3_blocking_12 : decode cX3_blocking 12 = .ok (.istore_n 3, 1) := by decide +kernel
theorem dX3_blocking_13 : decode cX3_blocking 13 = .ok (.iload_n 3, 1) := by decide +kernel
theorem dX3_blocking_14 : decode cX3_blocking 14 = .ok (.aload_n 0, 1) := by decide +kernel
theorem dX3_blocking_15 : decode cX3_blocking 15 = .ok (.getfield 69, 3) := by decide +kernel
theorem dX3_blocking_18 : decode cX3_blocking 18 = .ok (.if_icmp .ge 72, 3) := by decide +kernel
theorem dX3_blocking_21 : decode cX3_blocking 21 = .ok (.aload_n 0, 1) := by decide +kernel
theorem dX3_blocking_22 : decode cX3_blocking 22 = .ok (.getfield 18, 3) := by decide +kernel
theorem dX3_blocking_25 : decode cX3_blocking 25 = .ok (.iload_n 3, 1) := by decide +kernel
theorem dX3_blocking_26 : decode cX3_blocking 26 = .ok (.aaload, 1) := by decide +kernel
theorem dX3_blocking_27 : decode cX3_blocking 27 = .ok (.astore 4, 2) := by decide +kernel
theorem dX3_blocking_29 : decode cX3_blocking 29 = .ok (.iconst 0, 1) := by decide +kernel
theorem dX3_blocking_30 : decode cX3_blocking 30 = .ok (.istore 5, 2) := by decide +kernel
theorem dX3_blocking_32 : decode cX3_blocking 32 = .ok (.iload 5, 2) := by decide +kernel
theorem dX3_blocking_34 : decode cX3_blocking 34 = .ok (.aload 4, 2) := by decide +kernel
theorem dX3_blocking_36 : decode cX3_blocking 36 = .ok (.getfield 85, 3) := by decide +kernel
theorem dX3_blocking_39 : decode cX3_blocking 39 = .ok (.if_icmp .ge 45, 3) := by decide +kernel
theorem dX3_blocking_42 : decode cX3_blocking 42 = .ok (.aload 4, 2) := by decide +kernel
theorem dX3_blocking_44 : decode cX3_blocking 44 = .ok (.getfield 88, 3) := by decide +kernel
theorem dX3_blocking_47 : decode cX3_blocking 47 = .ok (.iload 5, 2) := by decide +kernel
theorem dX3_blocking_49 : decode cX3_blocking 49 = .ok (.iaload, 1) := by decide +kernel
theorem dX3_blocking_50 : decode cX3_blocking 50 = .ok (.istore 6, 2) := by decide +kernel
theorem dX3_blocking_52 : decode cX3_blocking 52 = .ok (.aload_n 0, 1) := by decide +kernel
theorem dX3_blocking_53 : decode cX3_blocking 53 = .ok (.iload_n 3, 1) := by decide +kernel
theorem dX3_blocking_54 : decode cX3_blocking 54 = .ok (.iload 6, 2) := by decide +kernel
theorem dX3_blocking_56 : decode cX3_blocking 56 = .ok (.invokevirtual 146, 3) := by decide +kernel
theorem dX3_blocking_59 : decode cX3_blocking 59 = .ok (.ifCond .eq 19, 3) := by decide +kernel
theorem dX3_blocking_62 : decode cX3_blocking 62 = .ok (.iload_n 2, 1) := by decide +kernel
theorem dX3_blocking_63 : decode cX3_blocking 63 = .ok (.iload_n 1, 1) := by decide +kernel
theorem dX3_blocking_64 : decode cX3_blocking 64 = .ok (.if_icmp .ne 11, 3) := by decide +kernel
theorem dX3_blocking_67 : decode cX3_blocking 67 = .ok (.bipush 8, 2) := by decide +kernel
theorem dX3_blocking_69 : decode cX3_blocking 69 = .ok (.iload_n 3, 1) := by decide +kernel
theorem dX3_blocking_70 : decode cX3_blocking 70 = .ok (.imul, 1) := by decide +kernel
theorem dX3_blocking_71 : decode cX3_blocking 71 = .ok (.iload 6, 2) := by decide +kernel
theorem dX3_blocking_73 : decode cX3_blocking 73 = .ok (.iadd, 1) := by decide +kernel
theorem dX3_blocking_74 : decode cX3_blocking 74 = .ok (.ireturn, 1) := by decide +kernel
theorem dX3_blocking_75 : decode cX3_blocking 75 = .ok (.iinc 2 1, 3) := by decide +kernel
theorem dX3_blocking_78 : decode cX3_blocking 78 = .ok (.iinc 5 1, 3) := by decide +kernel
theorem dX3_blocking_81 : decode cX3_blocking 81 = .ok (.goto (-49), 3) := by decide +kernel
theorem dX3_blocking_84 : decode cX3_blocking 84 = .ok (.iinc 3 1, 3) := by decide +kernel
theorem dX3_blocking_87 : decode cX3_blocking 87 = .ok (.goto (-74), 3) := by decide +kernel
theorem dX3_blocking_90 : decode cX3_blocking 90 = .ok (.iload_n 1, 1) := by decide +kernel
theorem dX3_blocking_91 : decode cX3_blocking 91 = .ok (.iconst (-1), 1) := by decide +kernel
theorem dX3_blocking_92 : decode cX3_blocking 92 = .ok (.if_icmp .ne 7, 3) := by decide +kernel
theorem dX3_blocking_95 : decode cX3_blocking 95 = .ok (.iload_n 2, 1) := by decide +kernel
theorem dX3_blocking_96 : decode cX3_blocking 96 = .ok (.goto 4, 3) := by decide +kernel
theorem dX3_blocking_99 : decode cX3_blocking 99 = .ok (.iconst (-1), 1) := by decide +kernel
theorem dX3_blocking_100 : decode cX3_blocking 100 = .ok (.ireturn, 1) := by decide +kernel
theorem dX3_blocks_0 : decode cX3_blocks 0 = .ok (.aload_n 0, 1) := by decide +kernel
theorem dX3_blocks_1 : decode cX3_blocks 1 = .ok (.getfield 18, 3) := by decide +kernel
theorem dX3_blocks_4 : decode cX3_blocks 4 = .ok (.iload_n 1, 1) := by decide +kernel
theorem dX3_blocks_5 : decode cX3_blocks 5 = .ok (.aaload, 1) := by decide +kernel
theorem dX3_blocks_6 : decode cX3_blocks 6 = .ok (.astore_n 3, 1) := by decide +kernel
theorem dX3_blocks_7 : decode cX3_blocks 7 = .ok (.aload_n 3, 1) := by decide +kernel
theorem dX3_blocks_8 : decode cX3_blocks 8 = .ok (.invokevirtual 104, 3) := by decide +kernel
theorem dX3_blocks_11 : decode cX3_blocks 11 = .ok (.ifCond .ne 11, 3) := by decide +kernel
theorem dX3_blocks_14 : decode cX3_blocks 14 = .ok (.aload_n 3, 1) := by decide +kernel
theorem dX3_blocks_15 : decode cX3_blocks 15 = .ok (.iload_n 2, 1) := by decide +kernel
theorem dX3_blocks_16 : decode cX3_blocks 16 = .ok (.invokevirtual 150, 3) := by decide +kernel
theorem dX3_blocks_19 : decode cX3_blocks 19 = .ok (.ifCond .ne 5, 3) := by decide +kernel
theorem dX3_blocks_22 : decode cX3_blocks 22 = .ok (.iconst 0, 1) := by decide +kernel
theorem dX3_blocks_23 : decode cX3_blocks 23 = .ok (.ireturn, 1) := by decide +kernel
theorem dX3_blocks_24 : decode cX3_blocks 24 = .ok (.aload_n 0, 1) := by decide +kernel
theorem dX3_blocks_25 : decode cX3_blocks 25 = .ok (.iload_n 2, 1) := by decide +kernel
theorem dX3_blocks_26 : decode cX3_blocks 26 = .ok (.iload_n 1, 1) := by decide +kernel
theorem dX3_blocks_27 : decode cX3_blocks 27 = .ok (.invokevirtual 173, 3) := by decide +kernel
theorem dX3_blocks_30 : decode cX3_blocks 30 = .ok (.aload_n 0, 1) := by decide +kernel
theorem dX3_blocks_31 : decode cX3_blocks 31 = .ok (.getfield 29, 3) := by decide +kernel
theorem dX3_blocks_34 : decode cX3_blocks 34 = .ok (.iload_n 1, 1) := by decide +kernel
theorem dX3_blocks_35 : decode cX3_blocks 35 = .ok (.iaload, 1) := by decide +kernel
theorem dX3_blocks_36 : decode cX3_blocks 36 = .ok (.iconst (-1), 1) := by decide +kernel
theorem dX3_blocks_37 : decode cX3_blocks 37 = .ok (.if_icmp .eq 7, 3) := by decide +kernel
theorem dX3_blocks_40 : decode cX3_blocks 40 = .ok (.iconst 1, 1) := by decide +kernel
theorem dX3_blocks_41 : decode cX3_blocks 41 = .ok (.goto 4, 3) := by decide +kernel
theorem dX3_blocks_44 : decode cX3_blocks 44 = .ok (.iconst 0, 1) := by decide +kernel
theorem dX3_blocks_45 : decode cX3_blocks 45 = .ok (.ireturn, 1) := by decide +kernel
theorem dX1_prefers_0 : decode cX1_prefers 0 = .ok (.aload_n 0, 1) := by decide +kernel
theorem dX1_prefers_1 : decode cX1_prefers 1 = .ok (.iload_n 1, 1) := by decide +kernel
theorem dX1_prefers_2 : decode cX1_prefers 2 = .ok (.invokevirtual 31, 3) := by decide +kernel
theorem dX1_prefers_5 : decode cX1_prefers 5 = .ok (.istore_n 2, 1) := by decide +kernel
theorem dX1_prefers_6 : decode cX1_prefers 6 = .ok (.iload_n 2, 1) := by decide +kernel
theorem dX1_prefers_7 : decode cX1_prefers 7 = .ok (.iconst (-1), 1) := by decide +kernel
theorem dX1_prefers_8 : decode cX1_prefers 8 = .ok (.if_icmp .eq 26, 3) := by decide +kernel
theorem dX1_prefers_11 : decode cX1_prefers 11 = .ok (.aload_n 0, 1) := by decide +kernel
theorem dX1_prefers_12 : decode cX1_prefers 12 = .ok (.invokevirtual 35, 3) := by decide +kernel
theorem dX1_prefers_15 : decode cX1_prefers 15 = .ok (.ifCond .eq 15, 3) := by decide +kernel
theorem dX1_prefers_18 : decode cX1_prefers 18 = .ok (.iload_n 2, 1) := by decide +kernel
theorem dX1_prefers_19 : decode cX1_prefers 19 = .ok (.aload_n 0, 1) := by decide +kernel
theorem dX1_prefers_20 : decode cX1_prefers 20 = .ok (.aload_n 0, 1) := by decide +kernel
theorem dX1_prefers_21 : decode cX1_prefers 21 = .ok (.getfield 18, 3) := by decide +kernel
theorem dX1_prefers_24 : decode cX1_prefers 24 = .ok (.invokevirtual 31, 3) := by decide +kernel
theorem dX1_prefers_27 : decode cX1_prefers 27 = .ok (.if_icmp .ge 7, 3) := by decide +kernel
theorem dX1_prefers_30 : decode cX1_prefers 30 = .ok (.iconst 1, 1) := by decide +kernel
theorem dX1_prefers_31 : decode cX1_prefers 31 = .ok (.goto 4, 3) := by decide +kernel
theorem dX1_prefers_34 : decode cX1_prefers 34 = .ok (.iconst 0, 1) := by decide +kernel
theorem dX1_prefers_35 : decode cX1_prefers 35 = .ok (.ireturn, 1) := by decide +kernel
theorem dX1_placeOf_0 : decode cX1_placeOf 0 = .ok (.iconst 0, 1) := by decide +kernel
theorem dX1_placeOf_1 : decode cX1_placeOf 1 = .ok (.istore_n 2, 1) := by decide +kernel
theorem dX1_placeOf_2 : decode cX1_placeOf 2 = .ok (.iload_n 2, 1) := by decide +kernel
theorem dX1_placeOf_3 : decode cX1_placeOf 3 = .ok (.aload_n 0, 1) := by decide +kernel
theorem dX1_placeOf_4 : decode cX1_placeOf 4 = .ok (.getfield 28, 3) := by decide +kernel
theorem dX1_placeOf_7 : decode cX1_placeOf 7 = .ok (.if_icmp .ge 21, 3) := by decide +kernel
theorem dX1_placeOf_10 : decode cX1_placeOf 10 = .ok (.aload_n 0, 1) := by decide +kernel
theorem dX1_placeOf_11 : decode cX1_placeOf 11 = .ok (.getfield 9, 3) := by decide +kernel
theorem dX1_placeOf_14 : decode cX1_placeOf 14 = .ok (.iload_n 2, 1) := by decide +kernel
theorem dX1_placeOf_15 : decode cX1_placeOf 15 = .ok (.iaload, 1) := by decide +kernel
theorem dX1_placeOf_16 : decode cX1_placeOf 16 = .ok (.iload_n 1, 1) := by decide +kernel
theorem dX1_placeOf_17 : decode cX1_placeOf 17 = .ok (.if_icmp .ne 5, 3) := by decide +kernel
theorem dX1_placeOf_20 : decode cX1_placeOf 20 = .ok (.iload_n 2, 1) := by decide +kernel
theorem dX1_placeOf_21 : decode cX1_placeOf 21 = .ok (.ireturn, 1) := by decide +kernel
theorem dX1_placeOf_22 : decode cX1_placeOf 22 = .ok (.iinc 2 1, 3) := by decide +kernel
theorem dX1_placeOf_25 : decode cX1_placeOf 25 = .ok (.goto (-23), 3) := by decide +kernel
theorem dX1_placeOf_28 : decode cX1_placeOf 28 = .ok (.iconst (-1), 1) := by decide +kernel
theorem dX1_placeOf_29 : decode cX1_placeOf 29 = .ok (.ireturn, 1) := by decide +kernel
theorem dX3_choose_0 : decode cX3_choose 0 = .ok (.aload_n 0, 1) := by decide +kernel
theorem dX3_choose_1 : decode cX3_choose 1 = .ok (.iconst 0, 1) := by decide +kernel
theorem dX3_choose_2 : decode cX3_choose 2 = .ok (.putfield 176, 3) := by decide +kernel
theorem dX3_choose_5 : decode cX3_choose 5 = .ok (.iconst 0, 1) := by decide +kernel
theorem dX3_choose_6 : decode cX3_choose 6 = .ok (.istore_n 3, 1) := by decide +kernel
theorem dX3_choose_7 : decode cX3_choose 7 = .ok (.iload_n 3, 1) := by decide +kernel
theorem dX3_choose_8 : decode cX3_choose 8 = .ok (.aload_n 0, 1) := by decide +kernel
theorem dX3_choose_9 : decode cX3_choose 9 = .ok (.getfield 69, 3) := by decide +kernel
theorem dX3_choose_12 : decode cX3_choose 12 = .ok (.if_icmp .ge 54, 3) := by decide +kernel
theorem dX3_choose_15 : decode cX3_choose 15 = .ok (.aload_n 0, 1) := by decide +kernel
theorem dX3_choose_16 : decode cX3_choose 16 = .ok (.getfield 29, 3) := by decide +kernel
theorem dX3_choose_19 : decode cX3_choose 19 = .ok (.iload_n 3, 1) := by decide +kernel
theorem dX3_choose_20 : decode cX3_choose 20 = .ok (.iconst (-1), 1) := by decide +kernel
theorem dX3_choose_21 : decode cX3_choose 21 = .ok (.iastore, 1) := by decide +kernel
theorem dX3_choose_22 : decode cX3_choose 22 = .ok (.iload_n 3, 1) := by decide +kernel
theorem dX3_choose_23 : decode cX3_choose 23 = .ok (.iload_n 2, 1) := by decide +kernel
theorem dX3_choose_24 : decode cX3_choose 24 = .ok (.if_icmp .eq 16, 3) := by decide +kernel
theorem dX3_choose_27 : decode cX3_choose 27 = .ok (.aload_n 0, 1) := by decide +kernel
theorem dX3_choose_28 : decode cX3_choose 28 = .ok (.getfield 18, 3) := by decide +kernel
theorem dX3_choose_31 : decode cX3_choose 31 = .ok (.iload_n 3, 1) := by decide +kernel
theorem dX3_choose_32 : decode cX3_choose 32 = .ok (.aaload, 1) := by decide +kernel
theorem dX3_choose_33 : decode cX3_choose 33 = .ok (.iload_n 1, 1) := by decide +kernel
theorem dX3_choose_34 : decode cX3_choose 34 = .ok (.invokevirtual 182, 3) := by decide +kernel
theorem dX3_choose_37 : decode cX3_choose 37 = .ok (.ifCond .eq 23, 3) := by decide +kernel
theorem dX3_choose_40 : decode cX3_choose 40 = .ok (.aload_n 0, 1) := by decide +kernel
theorem dX3_choose_41 : decode cX3_choose 41 = .ok (.getfield 25, 3) := by decide +kernel
theorem dX3_choose_44 : decode cX3_choose 44 = .ok (.aload_n 0, 1) := by decide +kernel
theorem dX3_choose_45 : decode cX3_choose 45 = .ok (.getfield 176, 3) := by decide +kernel
theorem dX3_choose_48 : decode cX3_choose 48 = .ok (.iload_n 3, 1) := by decide +kernel
theorem dX3_choose_49 : decode cX3_choose 49 = .ok (.iastore, 1) := by decide +kernel
theorem dX3_choose_50 : decode cX3_choose 50 = .ok (.aload_n 0, 1) := by decide +kernel
theorem dX3_choose_51 : decode cX3_choose 51 = .ok (.dup, 1) := by decide +kernel
theorem dX3_choose_52 : decode cX3_choose 52 = .ok (.getfield 176, 3) := by decide +kernel
theorem dX3_choose_55 : decode cX3_choose 55 = .ok (.iconst 1, 1) := by decide +kernel
theorem dX3_choose_56 : decode cX3_choose 56 = .ok (.iadd, 1) := by decide +kernel
theorem dX3_choose_57 : decode cX3_choose 57 = .ok (.putfield 176, 3) := by decide +kernel
