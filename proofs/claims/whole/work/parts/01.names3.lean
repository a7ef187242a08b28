/-! decode rows, made by a program of mine -/
theorem dX3_moveOne_26 : decode cX3_moveOne 26 = .ok (.iload_n 1, 1) := by decide +kernel
theorem dX3_moveOne_27 : decode cX3_moveOne 27 = .ok (.iload_n 2, 1) := by decide +kernel
theorem dX3_moveOne_28 : decode cX3_moveOne 28 = .ok (.invokevirtual 139, 3) := by decide +kernel
theorem dX3_moveOne_31 : decode cX3_moveOne 31 = .ok (.aload_n 0, 1) := by decide +kernel
theorem dX3_moveOne_32 : decode cX3_moveOne 32 = .ok (.getfield 11, 3) := by decide +kernel
theorem dX3_moveOne_35 : decode cX3_moveOne 35 = .ok (.iload_n 1, 1) := by decide +kernel
theorem dX3_moveOne_36 : decode cX3_moveOne 36 = .ok (.aaload, 1) := by decide +kernel
theorem dX3_moveOne_37 : decode cX3_moveOne 37 = .ok (.getfield 53, 3) := by decide +kernel
theorem dX3_moveOne_40 : decode cX3_moveOne 40 = .ok (.iload_n 2, 1) := by decide +kernel
theorem dX3_moveOne_41 : decode cX3_moveOne 41 = .ok (.aaload, 1) := by decide +kernel
theorem dX3_moveOne_42 : decode cX3_moveOne 42 = .ok (.getfield 57, 3) := by decide +kernel
theorem dX3_moveOne_45 : decode cX3_moveOne 45 = .ok (.if_icmp .ge 28, 3) := by decide +kernel
theorem dX3_moveOne_48 : decode cX3_moveOne 48 = .ok (.aload_n 0, 1) := by decide +kernel
theorem dX3_moveOne_49 : decode cX3_moveOne 49 = .ok (.iload_n 1, 1) := by decide +kernel
theorem dX3_moveOne_50 : decode cX3_moveOne 50 = .ok (.iload_n 2, 1) := by decide +kernel
theorem dX3_moveOne_51 : decode cX3_moveOne 51 = .ok (.invokevirtual 191, 3) := by decide +kernel
theorem dX3_moveOne_54 : decode cX3_moveOne 54 = .ok (.istore_n 3, 1) := by decide +kernel
theorem dX3_moveOne_55 : decode cX3_moveOne 55 = .ok (.iload_n 3, 1) := by decide +kernel
theorem dX3_moveOne_56 : decode cX3_moveOne 56 = .ok (.iconst (-1), 1) := by decide +kernel
theorem dX3_moveOne_57 : decode cX3_moveOne 57 = .ok (.if_icmp .eq 16, 3) := by decide +kernel
theorem dX3_moveOne_60 : decode cX3_moveOne 60 = .ok (.aload_n 0, 1) := by decide +kernel
theorem dX3_moveOne_61 : decode cX3_moveOne 61 = .ok (.getfield 18, 3) := by decide +kernel
theorem dX3_moveOne_64 : decode cX3_moveOne 64 = .ok (.iload_n 3, 1) := by decide +kernel
theorem dX3_moveOne_65 : decode cX3_moveOne 65 = .ok (.aaload, 1) := by decide +kernel
theorem dX3_moveOne_66 : decode cX3_moveOne 66 = .ok (.iload_n 1, 1) := by decide +kernel
theorem dX3_moveOne_67 : decode cX3_moveOne 67 = .ok (.iload_n 2, 1) := by decide +kernel
theorem dX3_moveOne_68 : decode cX3_moveOne 68 = .ok (.invokevirtual 126, 3) := by decide +kernel
theorem dX3_moveOne_71 : decode cX3_moveOne 71 = .ok (.iconst 1, 1) := by decide +kernel
theorem dX3_moveOne_72 : decode cX3_moveOne 72 = .ok (.ireturn, 1) := by decide +kernel
theorem dX3_moveOne_73 : decode cX3_moveOne 73 = .ok (.iinc 2 1, 3) := by decide +kernel
theorem dX3_moveOne_76 : decode cX3_moveOne 76 = .ok (.goto (-64), 3) := by decide +kernel
theorem dX3_moveOne_79 : decode cX3_moveOne 79 = .ok (.iinc 1 1, 3) := by decide +kernel
theorem dX3_moveOne_82 : decode cX3_moveOne 82 = .ok (.goto (-80), 3) := by decide +kernel
theorem dX3_moveOne_85 : decode cX3_moveOne 85 = .ok (.iconst 0, 1) := by decide +kernel
theorem dX3_moveOne_86 : decode cX3_moveOne 86 = .ok (.ireturn, 1) := by decide +kernel
theorem dX3_firstWaiting_0 : decode cX3_firstWaiting 0 = .ok (.iconst (-1), 1) := by decide +kernel
theorem dX3_firstWaiting_1 : decode cX3_firstWaiting 1 = .ok (.istore_n 3, 1) := by decide +kernel
theorem dX3_firstWaiting_2 : decode cX3_firstWaiting 2 = .ok (.ldc 157, 2) := by decide +kernel
theorem dX3_firstWaiting_4 : decode cX3_firstWaiting 4 = .ok (.istore 4, 2) := by decide +kernel
theorem dX3_firstWaiting_6 : decode cX3_firstWaiting 6 = .ok (.iconst 0, 1) := by decide +kernel
theorem dX3_firstWaiting_7 : decode cX3_firstWaiting 7 = .ok (.istore 5, 2) := by decide +kernel
theorem dX3_firstWaiting_9 : decode cX3_firstWaiting 9 = .ok (.iload 5, 2) := by decide +kernel
theorem dX3_firstWaiting_11 : decode cX3_firstWaiting 11 = .ok (.aload_n 0, 1) := by decide +kernel
theorem dX3_firstWaiting_12 : decode cX3_firstWaiting 12 = .ok (.getfield 69, 3) := by decide +kernel
theorem dX3_firstWaiting_15 : decode cX3_firstWaiting 15 = .ok (.if_icmp .ge 47, 3) := by decide +kernel
theorem dX3_firstWaiting_18 : decode cX3_firstWaiting 18 = .ok (.aload_n 0, 1) := by decide +kernel
theorem dX3_firstWaiting_19 : decode cX3_firstWaiting 19 = .ok (.getfield 18, 3) := by decide +kernel
theorem dX3_firstWaiting_22 : decode cX3_firstWaiting 22 = .ok (.iload 5, 2) := by decide +kernel
theorem dX3_firstWaiting_24 : decode cX3_firstWaiting 24 = .ok (.aaload, 1) := by decide +kernel
theorem dX3_firstWaiting_25 : decode cX3_firstWaiting 25 = .ok (.iload_n 1, 1) := by decide +kernel
theorem dX3_firstWaiting_26 : decode cX3_firstWaiting 26 = .ok (.invokevirtual 194, 3) := by decide +kernel
theorem dX3_firstWaiting_29 : decode cX3_firstWaiting 29 = .ok (.ifCond .eq 27, 3) := by decide +kernel
theorem dX3_firstWaiting_32 : decode cX3_firstWaiting 32 = .ok (.aload_n 0, 1) := by decide +kernel
theorem dX3_firstWaiting_33 : decode cX3_firstWaiting 33 = .ok (.iload 5, 2) := by decide +kernel
theorem dX3_firstWaiting_35 : decode cX3_firstWaiting 35 = .ok (.iload_n 1, 1) := by decide +kernel
theorem dX3_firstWaiting_36 : decode cX3_firstWaiting 36 = .ok (.iload_n 2, 1) := by decide +kernel
theorem dX3_firstWaiting_37 : decode cX3_firstWaiting 37 = .ok (.invokevirtual 153, 3) := by decide +kernel
theorem dX3_firstWaiting_40 : decode cX3_firstWaiting 40 = .ok (.istore 6, 2) := by decide +kernel
theorem dX3_firstWaiting_42 : decode cX3_firstWaiting 42 = .ok (.iload 6, 2) := by decide +kernel
theorem dX3_firstWaiting_44 : decode cX3_firstWaiting 44 = .ok (.iload 4, 2) := by decide +kernel
theorem dX3_firstWaiting_46 : decode cX3_firstWaiting 46 = .ok (.if_icmp .ge 10, 3) := by decide +kernel
theorem dX3_firstWaiting_49 : decode cX3_firstWaiting 49 = .ok (.iload 5, 2) := by decide +kernel
theorem dX3_firstWaiting_51 : decode cX3_firstWaiting 51 = .ok (.istore_n 3, 1) := by decide +kernel
theorem dX3_firstWaiting_52 : decode cX3_firstWaiting 52 = .ok (.iload 6, 2) := by decide +kernel
theorem dX3_firstWaiting_54 : decode cX3_firstWaiting 54 = .ok (.istore 4, 2) := by decide +kernel
theorem dX3_firstWaiting_56 : decode cX3_firstWaiting 56 = .ok (.iinc 5 1, 3) := by decide +kernel
theorem dX3_firstWaiting_59 : decode cX3_firstWaiting 59 = .ok (.goto (-50), 3) := by decide +kernel
theorem dX3_firstWaiting_62 : decode cX3_firstWaiting 62 = .ok (.iload_n 3, 1) := by decide +kernel
theorem dX3_firstWaiting_63 : decode cX3_firstWaiting 63 = .ok (.ireturn, 1) := by decide +kernel
theorem dX1_waitsFor_0 : decode cX1_waitsFor 0 = .ok (.aload_n 0, 1) := by decide +kernel
theorem dX1_waitsFor_1 : decode cX1_waitsFor 1 = .ok (.iload_n 1, 1) := by decide +kernel
theorem dX1_waitsFor_2 : decode cX1_waitsFor 2 = .ok (.invokevirtual 39, 3) := by decide +kernel
theorem dX1_waitsFor_5 : decode cX1_waitsFor 5 = .ok (.ifCond .eq 19, 3) := by decide +kernel
theorem dX1_waitsFor_8 : decode cX1_waitsFor 8 = .ok (.aload_n 0, 1) := by decide +kernel
theorem dX1_waitsFor_9 : decode cX1_waitsFor 9 = .ok (.iload_n 1, 1) := by decide +kernel
theorem dX1_waitsFor_10 : decode cX1_waitsFor 10 = .ok (.invokevirtual 31, 3) := by decide +kernel
theorem dX1_waitsFor_13 : decode cX1_waitsFor 13 = .ok (.aload_n 0, 1) := by decide +kernel
theorem dX1_waitsFor_14 : decode cX1_waitsFor 14 = .ok (.getfield 43, 3) := by decide +kernel
theorem dX1_waitsFor_17 : decode cX1_waitsFor 17 = .ok (.if_icmp .ge 7, 3) := by decide +kernel
theorem dX1_waitsFor_20 : decode cX1_waitsFor 20 = .ok (.iconst 1, 1) := by decide +kernel
theorem dX1_waitsFor_21 : decode cX1_waitsFor 21 = .ok (.goto 4, 3) := by decide +kernel
theorem dX1_waitsFor_24 : decode cX1_waitsFor 24 = .ok (.iconst 0, 1) := by decide +kernel
theorem dX1_waitsFor_25 : decode cX1_waitsFor 25 = .ok (.ireturn, 1) := by decide +kernel
theorem dL_over_0 : decode cL_over 0 = .ok (.aload_n 3, 1) := by decide +kernel
theorem dL_over_1 : decode cL_over 1 = .ok (.iconst 0, 1) := by decide +kernel
theorem dL_over_2 : decode cL_over 2 = .ok (.aload_n 0, 1) := by decide +kernel
theorem dL_over_3 : decode cL_over 3 = .ok (.iload_n 1, 1) := by decide +kernel
theorem dL_over_4 : decode cL_over 4 = .ok (.iload_n 2, 1) := by decide +kernel
theorem dL_over_5 : decode cL_over 5 = .ok (.invokevirtual 35, 3) := by decide +kernel
theorem dL_over_8 : decode cL_over 8 = .ok (.ifCond .eq 7, 3) := by decide +kernel
theorem dL_over_11 : decode cL_over 11 = .ok (.lconst 1, 1) := by decide +kernel
theorem dL_over_12 : decode cL_over 12 = .ok (.goto 4, 3) := by decide +kernel
theorem dL_over_15 : decode cL_over 15 = .ok (.lconst 0, 1) := by decide +kernel
theorem dL_over_16 : decode cL_over 16 = .ok (.lastore, 1) := by decide +kernel
theorem dL_over_17 : decode cL_over 17 = .ok (.goto 11, 3) := by decide +kernel
theorem dL_over_20 : decode cL_over 20 = .ok (.astore 4, 2) := by decide +kernel
theorem dL_over_22 : decode cL_over 22 = .ok (.iconst 1, 1) := by decide +kernel
theorem dL_over_23 : decode cL_over 23 = .ok (.ireturn, 1) := by decide +kernel
theorem dL_over_24 : decode cL_over 24 = .ok (.astore 4, 2) := by decide +kernel
theorem dL_over_26 : decode cL_over 26 = .ok (.iconst 2, 1) := by decide +kernel
theorem dL_over_27 : decode cL_over 27 = .ok (.ireturn, 1) := by decide +kernel
theorem dL_over_28 : decode cL_over 28 = .ok (.iconst 0, 1) := by decide +kernel
theorem dL_over_29 : decode cL_over 29 = .ok (.ireturn, 1) := by decide +kernel
theorem dX3_over_0 : decode cX3_over 0 = .ok (.aload_n 0, 1) := by decide +kernel
theorem dX3_over_1 : decode cX3_over 1 = .ok (.iload_n 1, 1) := by decide +kernel
theorem dX3_over_2 : decode cX3_over 2 = .ok (.invokevirtual 78, 3) := by decide +kernel
theorem dX3_over_5 : decode cX3_over 5 = .ok (.ifCond .ne 11, 3) := by decide +kernel
theorem dX3_over_8 : decode cX3_over 8 = .ok (.new 47, 3) := by decide +kernel
theorem dX3_over_11 : decode cX3_over 11 = .ok (.dup, 1) := by decide +kernel
theorem dX3_over_12 : decode cX3_over 12 = .ok (.invokespecial 49, 3) := by decide +kernel
theorem dX3_over_15 : decode cX3_over 15 = .ok (.athrow, 1) := by decide +kernel
theorem dX3_over_16 : decode cX3_over 16 = .ok (.aload_n 0, 1) := by decide +kernel
theorem dX3_over_17 : decode cX3_over 17 = .ok (.getfield 18, 3) := by decide +kernel
theorem dX3_over_20 : decode cX3_over 20 = .ok (.iload_n 1, 1) := by decide +kernel
theorem dX3_over_21 : decode cX3_over 21 = .ok (.aaload, 1) := by decide +kernel
theorem dX3_over_22 : decode cX3_over 22 = .ok (.astore_n 3, 1) := by decide +kernel
theorem dX3_over_23 : decode cX3_over 23 = .ok (.aload_n 3, 1) := by decide +kernel
theorem dX3_over_24 : decode cX3_over 24 = .ok (.iload_n 2, 1) := by decide +kernel
theorem dX3_over_25 : decode cX3_over 25 = .ok (.invokevirtual 81, 3) := by decide +kernel
theorem dX3_over_28 : decode cX3_over 28 = .ok (.iconst (-1), 1) := by decide +kernel
theorem dX3_over_29 : decode cX3_over 29 = .ok (.if_icmp .eq 11, 3) := by decide +kernel
theorem dX3_over_32 : decode cX3_over 32 = .ok (.aload_n 3, 1) := by decide +kernel
theorem dX3_over_33 : decode cX3_over 33 = .ok (.getfield 123, 3) := by decide +kernel
theorem dX3_over_36 : decode cX3_over 36 = .ok (.iload_n 2, 1) := by decide +kernel
theorem dX3_over_37 : decode cX3_over 37 = .ok (.if_icmp .ne 11, 3) := by decide +kernel
theorem dX3_over_40 : decode cX3_over 40 = .ok (.new 47, 3) := by decide +kernel
theorem dX3_over_43 : decode cX3_over 43 = .ok (.dup, 1) := by decide +kernel
theorem dX3_over_44 : decode cX3_over 44 = .ok (.invokespecial 49, 3) := by decide +kernel
theorem dX3_over_47 : decode cX3_over 47 = .ok (.athrow, 1) := by decide +kernel
theorem dX3_over_48 : decode cX3_over 48 = .ok (.aload_n 0, 1) := by decide +kernel
theorem dX3_over_49 : decode cX3_over 49 = .ok (.getfield 32, 3) := by decide +kernel
theorem dX3_over_52 : decode cX3_over 52 = .ok (.ifCond .eq 10, 3) := by decide +kernel
theorem dX3_over_55 : decode cX3_over 55 = .ok (.aload_n 3, 1) := by decide +kernel
theorem dX3_over_56 : decode cX3_over 56 = .ok (.invokevirtual 104, 3) := by decide +kernel
theorem dX3_over_59 : decode cX3_over 59 = .ok (.ifCond .eq 11, 3) := by decide +kernel
theorem dX3_over_62 : decode cX3_over 62 = .ok (.new 40, 3) := by decide +kernel
theorem dX3_over_65 : decode cX3_over 65 = .ok (.dup, 1) := by decide +kernel
theorem dX3_over_66 : decode cX3_over 66 = .ok (.invokespecial 42, 3) := by decide +kernel
theorem dX3_over_69 : decode cX3_over 69 = .ok (.athrow, 1) := by decide +kernel
theorem dX3_over_70 : decode cX3_over 70 = .ok (.aload_n 3, 1) := by decide +kernel
theorem dX3_over_71 : decode cX3_over 71 = .ok (.iload_n 2, 1) := by decide +kernel
theorem dX3_over_72 : decode cX3_over 72 = .ok (.iconst (-1), 1) := by decide +kernel
theorem dX3_over_73 : decode cX3_over 73 = .ok (.invokevirtual 126, 3) := by decide +kernel
theorem dX3_over_76 : decode cX3_over 76 = .ok (.iconst 1, 1) := by decide +kernel
theorem dX3_over_77 : decode cX3_over 77 = .ok (.ireturn, 1) := by decide +kernel
theorem dL_envies_0 : decode cL_envies 0 = .ok (.aload_n 3, 1) := by decide +kernel
theorem dL_envies_1 : decode cL_envies 1 = .ok (.iconst 0, 1) := by decide +kernel
theorem dL_envies_2 : decode cL_envies 2 = .ok (.aload_n 0, 1) := by decide +kernel
theorem dL_envies_3 : decode cL_envies 3 = .ok (.iload_n 1, 1) := by decide +kernel
theorem dL_envies_4 : decode cL_envies 4 = .ok (.iload_n 2, 1) := by decide +kernel
theorem dL_envies_5 : decode cL_envies 5 = .ok (.invokevirtual 39, 3) := by decide +kernel
theorem dL_envies_8 : decode cL_envies 8 = .ok (.ifCond .eq 7, 3) := by decide +kernel
theorem dL_envies_11 : decode cL_envies 11 = .ok (.lconst 1, 1) := by decide +kernel
theorem dL_envies_12 : decode cL_envies 12 = .ok (.goto 4, 3) := by decide +kernel
theorem dL_envies_15 : decode cL_envies 15 = .ok (.lconst 0, 1) := by decide +kernel
theorem dL_envies_16 : decode cL_envies 16 = .ok (.lastore, 1) := by decide +kernel
theorem dL_envies_17 : decode cL_envies 17 = .ok (.goto 7, 3) := by decide +kernel
theorem dL_envies_20 : decode cL_envies 20 = .ok (.astore 4, 2) := by decide +kernel
theorem dL_envies_22 : decode cL_envies 22 = .ok (.iconst 1, 1) := by decide +kernel
theorem dL_envies_23 : decode cL_envies 23 = .ok (.ireturn, 1) := by decide +kernel
theorem dL_envies_24 : decode cL_envies 24 = .ok (.iconst 0, 1) := by decide +kernel
theorem dL_envies_25 : decode cL_envies 25 = .ok (.ireturn, 1) := by decide +kernel
theorem dX3_envies_0 : decode cX3_envies 0 = .ok (.aload_n 0, 1) := by decide +kernel
theorem dX3_envies_1 : decode cX3_envies 1 = .ok (.iload_n 1, 1) := by decide +kernel
theorem dX3_envies_2 : decode cX3_envies 2 = .ok (.invokevirtual 78, 3) := by decide +kernel
theorem dX3_envies_5 : decode cX3_envies 5 = .ok (.ifCond .eq 24, 3) := by decide +kernel
theorem dX3_envies_8 : decode cX3_envies 8 = .ok (.aload_n 0, 1) := by decide +kernel
theorem dX3_envies_9 : decode cX3_envies 9 = .ok (.iload_n 2, 1) := by decide +kernel
theorem dX3_envies_10 : decode cX3_envies 10 = .ok (.invokevirtual 78, 3) := by decide +kernel
theorem dX3_envies_13 : decode cX3_envies 13 = .ok (.ifCond .eq 16, 3) := by decide +kernel
theorem dX3_envies_16 : decode cX3_envies 16 = .ok (.aload_n 0, 1) := by decide +kernel
theorem dX3_envies_17 : decode cX3_envies 17 = .ok (.getfield 18, 3) := by decide +kernel
theorem dX3_envies_20 : decode cX3_envies 20 = .ok (.iload_n 2, 1) := by decide +kernel
theorem dX3_envies_21 : decode cX3_envies 21 = .ok (.aaload, 1) := by decide +kernel
theorem dX3_envies_22 : decode cX3_envies 22 = .ok (.getfield 130, 3) := by decide +kernel
theorem dX3_envies_25 : decode cX3_envies 25 = .ok (.iconst (-1), 1) := by decide +kernel
theorem dX3_envies_26 : decode cX3_envies 26 = .ok (.if_icmp .ne 11, 3) := by decide +kernel
theorem dX3_envies_29 : decode cX3_envies 29 = .ok (.new 47, 3) := by decide +kernel
theorem dX3_envies_32 : decode cX3_envies 32 = .ok (.dup, 1) := by decide +kernel
theorem dX3_envies_33 : decode cX3_envies 33 = .ok (.invokespecial 49, 3) := by decide +kernel
theorem dX3_envies_36 : decode cX3_envies 36 = .ok (.athrow, 1) := by decide +kernel
theorem dX3_envies_37 : decode cX3_envies 37 = .ok (.aload_n 0, 1) := by decide +kernel
theorem dX3_envies_38 : decode cX3_envies 38 = .ok (.getfield 18, 3) := by decide +kernel
theorem dX3_envies_41 : decode cX3_envies 41 = .ok (.iload_n 2, 1) := by decide +kernel
theorem dX3_envies_42 : decode cX3_envies 42 = .ok (.aaload, 1) := by decide +kernel
theorem dX3_envies_43 : decode cX3_envies 43 = .ok (.getfield 123, 3) := by decide +kernel
theorem dX3_envies_46 : decode cX3_envies 46 = .ok (.istore_n 3, 1) := by decide +kernel
theorem dX3_envies_47 : decode cX3_envies 47 = .ok (.aload_n 0, 1) := by decide +kernel
theorem dX3_envies_48 : decode cX3_envies 48 = .ok (.getfield 18, 3) := by decide +kernel
theorem dX3_envies_51 : decode cX3_envies 51 = .ok (.iload_n 2, 1) := by decide +kernel
theorem dX3_envies_52 : decode cX3_envies 52 = .ok (.aaload, 1) := by decide +kernel
theorem dX3_envies_53 : decode cX3_envies 53 = .ok (.getfield 130, 3) := by decide +kernel
theorem dX3_envies_56 : decode cX3_envies 56 = .ok (.istore 4, 2) := by decide +kernel
theorem dX3_envies_58 : decode cX3_envies 58 = .ok (.aload_n 0, 1) := by decide +kernel
theorem dX3_envies_59 : decode cX3_envies 59 = .ok (.getfield 18, 3) := by decide +kernel
theorem dX3_envies_62 : decode cX3_envies 62 = .ok (.iload_n 1, 1) := by decide +kernel
theorem dX3_envies_63 : decode cX3_envies 63 = .ok (.aaload, 1) := by decide +kernel
theorem dX3_envies_64 : decode cX3_envies 64 = .ok (.iload_n 3, 1) := by decide +kernel
theorem dX3_envies_65 : decode cX3_envies 65 = .ok (.invokevirtual 150, 3) := by decide +kernel
theorem dX3_envies_68 : decode cX3_envies 68 = .ok (.ifCond .ne 5, 3) := by decide +kernel
theorem dX3_envies_71 : decode cX3_envies 71 = .ok (.iconst 0, 1) := by decide +kernel
theorem dX3_envies_72 : decode cX3_envies 72 = .ok (.ireturn, 1) := by decide +kernel
theorem dX3_envies_73 : decode cX3_envies 73 = .ok (.aload_n 0, 1) := by decide +kernel
theorem dX3_envies_74 : decode cX3_envies 74 = .ok (.iload_n 2, 1) := by decide +kernel
theorem dX3_envies_75 : decode cX3_envies 75 = .ok (.iload_n 3, 1) := by decide +kernel
theorem dX3_envies_76 : decode cX3_envies 76 = .ok (.iload 4, 2) := by decide +kernel
theorem dX3_envies_78 : decode cX3_envies 78 = .ok (.invokevirtual 153, 3) := by decide +kernel
theorem dX3_envies_81 : decode cX3_envies 81 = .ok (.istore 5, 2) := by decide +kernel
theorem dX3_envies_83 : decode cX3_envies 83 = .ok (.iload 5, 2) := by decide +kernel
theorem dX3_envies_85 : decode cX3_envies 85 = .ok (.ldc 157, 2) := by decide +kernel
theorem dX3_envies_87 : decode cX3_envies 87 = .ok (.if_icmp .ge 20, 3) := by decide +kernel
theorem dX3_envies_90 : decode cX3_envies 90 = .ok (.aload_n 0, 1) := by decide +kernel
theorem dX3_envies_91 : decode cX3_envies 91 = .ok (.iload_n 1, 1) := by decide +kernel
theorem dX3_envies_92 : decode cX3_envies 92 = .ok (.iload_n 3, 1) := by decide +kernel
theorem dX3_envies_93 : decode cX3_envies 93 = .ok (.iload 4, 2) := by decide +kernel
theorem dX3_envies_95 : decode cX3_envies 95 = .ok (.invokevirtual 153, 3) := by decide +kernel
theorem dX3_envies_98 : decode cX3_envies 98 = .ok (.iload 5, 2) := by decide +kernel
theorem dX3_envies_100 : decode cX3_envies 100 = .ok (.if_icmp .ge 7, 3) := by decide +kernel
theorem dX3_envies_103 : decode cX3_envies 103 = .ok (.iconst 1, 1) := by decide +kernel
theorem dX3_envies_104 : decode cX3_envies 104 = .ok (.goto 4, 3) := by decide +kernel
theorem dX3_envies_107 : decode cX3_envies 107 = .ok (.iconst 0, 1) := by decide +kernel
theorem dX3_envies_108 : decode cX3_envies 108 = .ok (.ireturn, 1) := by decide +kernel
theorem dX4_init_0 : decode cX4_init 0 = .ok (.aload_n 0, 1) := by decide +kernel
theorem dX4_init_1 : decode cX4_init 1 = .ok (.invokespecial 1, 3) := by decide +kernel
theorem dX4_init_4 : decode cX4_init 4 = .ok (.aload_n 0, 1) := by decide +kernel
theorem dX4_init_5 : decode cX4_init 5 = .ok (.bipush 6, 2) := by decide +kernel
theorem dX4_init_7 : decode cX4_init 7 = .ok (.newarray .int, 2) := by decide +kernel
theorem dX4_init_9 : decode cX4_init 9 = .ok (.putfield 7, 3) := by decide +kernel
theorem dX4_init_12 : decode cX4_init 12 = .ok (.aload_n 0, 1) := by decide +kernel
theorem dX4_init_13 : decode cX4_init 13 = .ok (.bipush 18, 2) := by decide +kernel
theorem dX4_init_15 : decode cX4_init 15 = .ok (.newarray .int, 2) := by decide +kernel
theorem dX4_init_17 : decode cX4_init 17 = .ok (.putfield 13, 3) := by decide +kernel
theorem dX4_init_20 : decode cX4_init 20 = .ok (.aload_n 0, 1) := by decide +kernel
theorem dX4_init_21 : decode cX4_init 21 = .ok (.bipush 54, 2) := by decide +kernel
theorem dX4_init_23 : decode cX4_init 23 = .ok (.newarray .int, 2) := by decide +kernel
theorem dX4_init_25 : decode cX4_init 25 = .ok (.putfield 16, 3) := by decide +kernel
theorem dX4_init_28 : decode cX4_init 28 = .ok (.aload_n 0, 1) := by decide +kernel
theorem dX4_init_29 : decode cX4_init 29 = .ok (.bipush 20, 2) := by decide +kernel
theorem dX4_init_31 : decode cX4_init 31 = .ok (.newarray .int, 2) := by decide +kernel
theorem dX4_init_33 : decode cX4_init 33 = .ok (.putfield 19, 3) := by decide +kernel
theorem dX4_init_36 : decode cX4_init 36 = .ok (.aload_n 0, 1) := by decide +kernel
theorem dX4_init_37 : decode cX4_init 37 = .ok (.bipush 20, 2) := by decide +kernel
theorem dX4_init_39 : decode cX4_init 39 = .ok (.newarray .boolean, 2) := by decide +kernel
theorem dX4_init_41 : decode cX4_init 41 = .ok (.putfield 22, 3) := by decide +kernel
theorem dX4_init_44 : decode cX4_init 44 = .ok (.aload_n 0, 1) := by decide +kernel
theorem dX4_init_45 : decode cX4_init 45 = .ok (.bipush 20, 2) := by decide +kernel
theorem dX4_init_47 : decode cX4_init 47 = .ok (.newarray .int, 2) := by decide +kernel
theorem dX4_init_49 : decode cX4_init 49 = .ok (.putfield 26, 3) := by decide +kernel
theorem dX4_init_52 : decode cX4_init 52 = .ok (.aload_n 0, 1) := by decide +kernel
theorem dX4_init_53 : decode cX4_init 53 = .ok (.bipush 80, 2) := by decide +kernel
theorem dX4_init_55 : decode cX4_init 55 = .ok (.newarray .int, 2) := by decide +kernel
theorem dX4_init_57 : decode cX4_init 57 = .ok (.putfield 29, 3) := by decide +kernel
theorem dX4_init_60 : decode cX4_init 60 = .ok (.aload_n 0, 1) := by decide +kernel
theorem dX4_init_61 : decode cX4_init 61 = .ok (.bipush 120, 2) := by decide +kernel
theorem dX4_init_63 : decode cX4_init 63 = .ok (.newarray .int, 2) := by decide +kernel
theorem dX4_init_65 : decode cX4_init 65 = .ok (.putfield 32, 3) := by decide +kernel
theorem dX4_init_68 : decode cX4_init 68 = .ok (.aload_n 0, 1) := by decide +kernel
theorem dX4_init_69 : decode cX4_init 69 = .ok (.bipush 20, 2) := by decide +kernel
theorem dX4_init_71 : decode cX4_init 71 = .ok (.newarray .int, 2) := by decide +kernel
theorem dX4_init_73 : decode cX4_init 73 = .ok (.putfield 35, 3) := by decide +kernel
theorem dX4_init_76 : decode cX4_init 76 = .ok (.aload_n 0, 1) := by decide +kernel
theorem dX4_init_77 : decode cX4_init 77 = .ok (.bipush 20, 2) := by decide +kernel
theorem dX4_init_79 : decode cX4_init 79 = .ok (.newarray .int, 2) := by decide +kernel
theorem dX4_init_81 : decode cX4_init 81 = .ok (.putfield 38, 3) := by decide +kernel
theorem dX4_init_84 : decode cX4_init 84 = .ok (.aload_n 0, 1) := by decide +kernel
theorem dX4_init_85 : decode cX4_init 85 = .ok (.bipush 20, 2) := by decide +kernel
theorem dX4_init_87 : decode cX4_init 87 = .ok (.newarray .int, 2) := by decide +kernel
theorem dX4_init_89 : decode cX4_init 89 = .ok (.putfield 41, 3) := by decide +kernel
theorem dX4_init_92 : decode cX4_init 92 = .ok (.aload_n 0, 1) := by decide +kernel
theorem dX4_init_93 : decode cX4_init 93 = .ok (.bipush 20, 2) := by decide +kernel
theorem dX4_init_95 : decode cX4_init 95 = .ok (.newarray .int, 2) := by decide +kernel
theorem dX4_init_97 : decode cX4_init 97 = .ok (.putfield 44, 3) := by decide +kernel
theorem dX4_init_100 : decode cX4_init 100 = .ok (.aload_n 0, 1) := by decide +kernel
theorem dX4_init_101 : decode cX4_init 101 = .ok (.bipush 20, 2) := by decide +kernel
theorem dX4_init_103 : decode cX4_init 103 = .ok (.newarray .boolean, 2) := by decide +kernel
theorem dX4_init_105 : decode cX4_init 105 = .ok (.putfield 47, 3) := by decide +kernel
theorem dX4_init_108 : decode cX4_init 108 = .ok (.aload_n 0, 1) := by decide +kernel
theorem dX4_init_109 : decode cX4_init 109 = .ok (.bipush 20, 2) := by decide +kernel
theorem dX4_init_111 : decode cX4_init 111 = .ok (.newarray .int, 2) := by decide +kernel
theorem dX4_init_113 : decode cX4_init 113 = .ok (.putfield 50, 3) := by decide +kernel
theorem dX4_init_116 : decode cX4_init 116 = .ok (.aload_n 0, 1) := by decide +kernel
theorem dX4_init_117 : decode cX4_init 117 = .ok (.bipush 20, 2) := by decide +kernel
theorem dX4_init_119 : decode cX4_init 119 = .ok (.newarray .boolean, 2) := by decide +kernel
theorem dX4_init_121 : decode cX4_init 121 = .ok (.putfield 53, 3) := by decide +kernel
theorem dX4_init_124 : decode cX4_init 124 = .ok (.aload_n 0, 1) := by decide +kernel
theorem dX4_init_125 : decode cX4_init 125 = .ok (.bipush 20, 2) := by decide +kernel
theorem dX4_init_127 : decode cX4_init 127 = .ok (.newarray .int, 2) := by decide +kernel
theorem dX4_init_129 : decode cX4_init 129 = .ok (.putfield 56, 3) := by decide +kernel
theorem dX4_init_132 : decode cX4_init 132 = .ok (.iconst 0, 1) := by decide +kernel
theorem dX4_init_133 : decode cX4_init 133 = .ok (.istore_n 1, 1) := by decide +kernel
theorem dX4_init_134 : decode cX4_init 134 = .ok (.iload_n 1, 1) := by decide +kernel
theorem dX4_init_135 : decode cX4_init 135 = .ok (.bipush 20, 2) := by decide +kernel
theorem dX4_init_137 : decode cX4_init 137 = .ok (.if_icmp .ge 23, 3) := by decide +kernel
theorem dX4_init_140 : decode cX4_init 140 = .ok (.aload_n 0, 1) := by decide +kernel
theorem dX4_init_141 : decode cX4_init 141 = .ok (.getfield 38, 3) := by decide +kernel
theorem dX4_init_144 : decode cX4_init 144 = .ok (.iload_n 1, 1) := by decide +kernel
theorem dX4_init_145 : decode cX4_init 145 = .ok (.iconst (-1), 1) := by decide +kernel
theorem dX4_init_146 : decode cX4_init 146 = .ok (.iastore, 1) := by decide +kernel
theorem dX4_init_147 : decode cX4_init 147 = .ok (.aload_n 0, 1) := by decide +kernel
theorem dX4_init_148 : decode cX4_init 148 = .ok (.getfield 41, 3) := by decide +kernel
theorem dX4_init_151 : decode cX4_init 151 = .ok (.iload_n 1, 1) := by decide +kernel
theorem dX4_init_152 : decode cX4_init 152 = .ok (.iconst (-1), 1) := by decide +kernel
theorem dX4_init_153 : decode cX4_init 153 = .ok (.iastore, 1) := by decide +kernel
theorem dX4_init_154 : decode cX4_init 154 = .ok (.iinc 1 1, 3) := by decide +kernel
theorem dX4_init_157 : decode cX4_init 157 = .ok (.goto (-23), 3) := by decide +kernel
theorem dX4_init_160 : decode cX4_init 160 = .ok (.iconst 0, 1) := by decide +kernel
theorem dX4_init_161 : decode cX4_init 161 = .ok (.istore_n 1, 1) := by decide +kernel
theorem dX4_init_162 : decode cX4_init 162 = .ok (.iload_n 1, 1) := by decide +kernel
theorem dX4_init_163 : decode cX4_init 163 = .ok (.bipush 120, 2) := by decide +kernel
theorem dX4_init_165 : decode cX4_init 165 = .ok (.if_icmp .ge 16, 3) := by decide +kernel
theorem dX4_init_168 : decode cX4_init 168 = .ok (.aload_n 0, 1) := by decide +kernel
theorem dX4_init_169 : decode cX4_init 169 = .ok (.getfield 32, 3) := by decide +kernel
theorem dX4_init_172 : decode cX4_init 172 = .ok (.iload_n 1, 1) := by decide +kernel
theorem dX4_init_173 : decode cX4_init 173 = .ok (.iconst (-1), 1) := by decide +kernel
theorem dX4_init_174 : decode cX4_init 174 = .ok (.iastore, 1) := by decide +kernel
theorem dX4_init_175 : decode cX4_init 175 = .ok (.iinc 1 1, 3) := by decide +kernel
theorem dX4_init_178 : decode cX4_init 178 = .ok (.goto (-16), 3) := by decide +kernel
theorem dX4_init_181 : decode cX4_init 181 = .ok (.return_, 1) := by decide +kernel
theorem dX4_thrown_0 : decode cX4_thrown 0 = .ok (.aload_n 0, 1) := by decide +kernel
theorem dX4_thrown_1 : decode cX4_thrown 1 = .ok (.getfield 59, 3) := by decide +kernel
theorem dX4_thrown_4 : decode cX4_thrown 4 = .ok (.ireturn, 1) := by decide +kernel
theorem dX4_school_0 : decode cX4_school 0 = .ok (.aload_n 0, 1) := by decide +kernel
theorem dX4_school_1 : decode cX4_school 1 = .ok (.aload_n 0, 1) := by decide +kernel
theorem dX4_school_2 : decode cX4_school 2 = .ok (.getfield 69, 3) := by decide +kernel
theorem dX4_school_5 : decode cX4_school 5 = .ok (.ifCond .ne 12, 3) := by decide +kernel
theorem dX4_school_8 : decode cX4_school 8 = .ok (.aload_n 0, 1) := by decide +kernel
theorem dX4_school_9 : decode cX4_school 9 = .ok (.getfield 63, 3) := by decide +kernel
theorem dX4_school_12 : decode cX4_school 12 = .ok (.bipush 6, 2) := by decide +kernel
theorem dX4_school_14 : decode cX4_school 14 = .ok (.if_icmp .ne 7, 3) := by decide +kernel
theorem dX4_school_17 : decode cX4_school 17 = .ok (.iconst 1, 1) := by decide +kernel
theorem dX4_school_18 : decode cX4_school 18 = .ok (.goto 4, 3) := by decide +kernel
theorem dX4_school_21 : decode cX4_school 21 = .ok (.iconst 0, 1) := by decide +kernel
theorem dX4_school_22 : decode cX4_school 22 = .ok (.putfield 59, 3) := by decide +kernel
theorem dX4_school_25 : decode cX4_school 25 = .ok (.aload_n 0, 1) := by decide +kernel
theorem dX4_school_26 : decode cX4_school 26 = .ok (.getfield 59, 3) := by decide +kernel
theorem dX4_school_29 : decode cX4_school 29 = .ok (.ifCond .le 5, 3) := by decide +kernel
theorem dX4_school_32 : decode cX4_school 32 = .ok (.iconst 0, 1) := by decide +kernel
theorem dX4_school_33 : decode cX4_school 33 = .ok (.ireturn, 1) := by decide +kernel
theorem dX4_school_34 : decode cX4_school 34 = .ok (.aload_n 0, 1) := by decide +kernel
theorem dX4_school_35 : decode cX4_school 35 = .ok (.dup, 1) := by decide +kernel
theorem dX4_school_36 : decode cX4_school 36 = .ok (.getfield 63, 3) := by decide +kernel
theorem dX4_school_39 : decode cX4_school 39 = .ok (.iconst 1, 1) := by decide +kernel
theorem dX4_school_40 : decode cX4_school 40 = .ok (.iadd, 1) := by decide +kernel
theorem dX4_school_41 : decode cX4_school 41 = .ok (.putfield 63, 3) := by decide +kernel
theorem dX4_school_44 : decode cX4_school 44 = .ok (.aload_n 0, 1) := by decide +kernel
theorem dX4_school_45 : decode cX4_school 45 = .ok (.getfield 63, 3) := by decide +kernel
theorem dX4_school_48 : decode cX4_school 48 = .ok (.iconst 1, 1) := by decide +kernel
theorem dX4_school_49 : decode cX4_school 49 = .ok (.isub, 1) := by decide +kernel
theorem dX4_school_50 : decode cX4_school 50 = .ok (.ireturn, 1) := by decide +kernel
theorem dX4_kind_0 : decode cX4_kind 0 = .ok (.aload_n 0, 1) := by decide +kernel
theorem dX4_kind_1 : decode cX4_kind 1 = .ok (.aload_n 0, 1) := by decide +kernel
theorem dX4_kind_2 : decode cX4_kind 2 = .ok (.iload_n 1, 1) := by decide +kernel
theorem dX4_kind_3 : decode cX4_kind 3 = .ok (.invokevirtual 73, 3) := by decide +kernel
theorem dX4_kind_6 : decode cX4_kind 6 = .ok (.ifCond .eq 33, 3) := by decide +kernel
theorem dX4_kind_9 : decode cX4_kind 9 = .ok (.iload_n 2, 1) := by decide +kernel
theorem dX4_kind_10 : decode cX4_kind 10 = .ok (.ifCond .lt 29, 3) := by decide +kernel
theorem dX4_kind_13 : decode cX4_kind 13 = .ok (.iload_n 2, 1) := by decide +kernel
theorem dX4_kind_14 : decode cX4_kind 14 = .ok (.bipush 6, 2) := by decide +kernel
theorem dX4_kind_16 : decode cX4_kind 16 = .ok (.if_icmp .gt 23, 3) := by decide +kernel
theorem dX4_kind_19 : decode cX4_kind 19 = .ok (.iload_n 3, 1) := by decide +kernel
theorem dX4_kind_20 : decode cX4_kind 20 = .ok (.bipush 15, 2) := by decide +kernel
theorem dX4_kind_22 : decode cX4_kind 22 = .ok (.if_icmp .gt 17, 3) := by decide +kernel
theorem dX4_kind_25 : decode cX4_kind 25 = .ok (.iload 4, 2) := by decide +kernel
theorem dX4_kind_27 : decode cX4_kind 27 = .ok (.bipush 15, 2) := by decide +kernel
theorem dX4_kind_29 : decode cX4_kind 29 = .ok (.if_icmp .gt 10, 3) := by decide +kernel
theorem dX4_kind_32 : decode cX4_kind 32 = .ok (.iload 5, 2) := by decide +kernel
theorem dX4_kind_34 : decode cX4_kind 34 = .ok (.bipush 15, 2) := by decide +kernel
theorem dX4_kind_36 : decode cX4_kind 36 = .ok (.if_icmp .le 7, 3) := by decide +kernel
theorem dX4_kind_39 : decode cX4_kind 39 = .ok (.iconst 1, 1) := by decide +kernel
theorem dX4_kind_40 : decode cX4_kind 40 = .ok (.goto 4, 3) := by decide +kernel
theorem dX4_kind_43 : decode cX4_kind 43 = .ok (.iconst 0, 1) := by decide +kernel
theorem dX4_kind_44 : decode cX4_kind 44 = .ok (.putfield 59, 3) := by decide +kernel
theorem dX4_kind_47 : decode cX4_kind 47 = .ok (.aload_n 0, 1) := by decide +kernel
theorem dX4_kind_48 : decode cX4_kind 48 = .ok (.getfield 59, 3) := by decide +kernel
theorem dX4_kind_51 : decode cX4_kind 51 = .ok (.ifCond .le 5, 3) := by decide +kernel
theorem dX4_kind_54 : decode cX4_kind 54 = .ok (.iconst 0, 1) := by decide +kernel
theorem dX4_kind_55 : decode cX4_kind 55 = .ok (.ireturn, 1) := by decide +kernel
theorem dX4_kind_56 : decode cX4_kind 56 = .ok (.aload_n 0, 1) := by decide +kernel
theorem dX4_kind_57 : decode cX4_kind 57 = .ok (.aload_n 0, 1) := by decide +kernel
theorem dX4_kind_58 : decode cX4_kind 58 = .ok (.getfield 69, 3) := by decide +kernel
theorem dX4_kind_61 : decode cX4_kind 61 = .ok (.ifCond .ne 13, 3) := by decide +kernel
theorem dX4_kind_64 : decode cX4_kind 64 = .ok (.aload_n 0, 1) := by decide +kernel
theorem dX4_kind_65 : decode cX4_kind 65 = .ok (.getfield 7, 3) := by decide +kernel
theorem dX4_kind_68 : decode cX4_kind 68 = .ok (.iload_n 1, 1) := by decide +kernel
theorem dX4_kind_69 : decode cX4_kind 69 = .ok (.iaload, 1) := by decide +kernel
theorem dX4_kind_70 : decode cX4_kind 70 = .ok (.iconst 3, 1) := by decide +kernel
theorem dX4_kind_71 : decode cX4_kind 71 = .ok (.if_icmp .ne 7, 3) := by decide +kernel
theorem dX4_kind_74 : decode cX4_kind 74 = .ok (.iconst 2, 1) := by decide +kernel
theorem dX4_kind_75 : decode cX4_kind 75 = .ok (.goto 4, 3) := by decide +kernel
theorem dX4_kind_78 : decode cX4_kind 78 = .ok (.iconst 0, 1) := by decide +kernel
theorem dX4_kind_79 : decode cX4_kind 79 = .ok (.putfield 59, 3) := by decide +kernel
theorem dX4_kind_82 : decode cX4_kind 82 = .ok (.aload_n 0, 1) := by decide +kernel
theorem dX4_kind_83 : decode cX4_kind 83 = .ok (.getfield 59, 3) := by decide +kernel
theorem dX4_kind_86 : decode cX4_kind 86 = .ok (.ifCond .le 5, 3) := by decide +kernel
theorem dX4_kind_89 : decode cX4_kind 89 = .ok (.iconst 0, 1) := by decide +kernel
theorem dX4_kind_90 : decode cX4_kind 90 = .ok (.ireturn, 1) := by decide +kernel
theorem dX4_kind_91 : decode cX4_kind 91 = .ok (.iconst 3, 1) := by decide +kernel
theorem dX4_kind_92 : decode cX4_kind 92 = .ok (.iload_n 1, 1) := by decide +kernel
theorem dX4_kind_93 : decode cX4_kind 93 = .ok (.imul, 1) := by decide +kernel
theorem dX4_kind_94 : decode cX4_kind 94 = .ok (.aload_n 0, 1) := by decide +kernel
theorem dX4_kind_95 : decode cX4_kind 95 = .ok (.getfield 7, 3) := by decide +kernel
theorem dX4_kind_98 : decode cX4_kind 98 = .ok (.iload_n 1, 1) := by decide +kernel
theorem dX4_kind_99 : decode cX4_kind 99 = .ok (.iaload, 1) := by decide +kernel
theorem dX4_kind_100 : decode cX4_kind 100 = .ok (.iadd, 1) := by decide +kernel
theorem dX4_kind_101 : decode cX4_kind 101 = .ok (.istore 6, 2) := by decide +kernel
theorem dX4_kind_103 : decode cX4_kind 103 = .ok (.aload_n 0, 1) := by decide +kernel
theorem dX4_kind_104 : decode cX4_kind 104 = .ok (.getfield 13, 3) := by decide +kernel
theorem dX4_kind_107 : decode cX4_kind 107 = .ok (.iload 6, 2) := by decide +kernel
theorem dX4_kind_109 : decode cX4_kind 109 = .ok (.iload_n 2, 1) := by decide +kernel
theorem dX4_kind_110 : decode cX4_kind 110 = .ok (.iastore, 1) := by decide +kernel
theorem dX4_kind_111 : decode cX4_kind 111 = .ok (.aload_n 0, 1) := by decide +kernel
theorem dX4_kind_112 : decode cX4_kind 112 = .ok (.getfield 16, 3) := by decide +kernel
theorem dX4_kind_115 : decode cX4_kind 115 = .ok (.iconst 3, 1) := by decide +kernel
theorem dX4_kind_116 : decode cX4_kind 116 = .ok (.iload 6, 2) := by decide +kernel
theorem dX4_kind_118 : decode cX4_kind 118 = .ok (.imul, 1) := by decide +kernel
theorem dX4_kind_119 : decode cX4_kind 119 = .ok (.iload_n 3, 1) := by decide +kernel
theorem dX4_kind_120 : decode cX4_kind 120 = .ok (.ifCond .ge 7, 3) := by decide +kernel
theorem dX4_kind_123 : decode cX4_kind 123 = .ok (.iconst (-1), 1) := by decide +kernel
theorem dX4_kind_124 : decode cX4_kind 124 = .ok (.goto 4, 3) := by decide +kernel
theorem dX4_kind_127 : decode cX4_kind 127 = .ok (.iload_n 3, 1) := by decide +kernel
theorem dX4_kind_128 : decode cX4_kind 128 = .ok (.iastore, 1) := by decide +kernel
theorem dX4_kind_129 : decode cX4_kind 129 = .ok (.aload_n 0, 1) := by decide +kernel
theorem dX4_kind_130 : decode cX4_kind 130 = .ok (.getfield 16, 3) := by decide +kernel
theorem dX4_kind_133 : decode cX4_kind 133 = .ok (.iconst 3, 1) := by decide +kernel
theorem dX4_kind_134 : decode cX4_kind 134 = .ok (.iload 6, 2) := by decide +kernel
theorem dX4_kind_136 : decode cX4_kind 136 = .ok (.imul, 1) := by decide +kernel
theorem dX4_kind_137 : decode cX4_kind 137 = .ok (.iconst 1, 1) := by decide +kernel
theorem dX4_kind_138 : decode cX4_kind 138 = .ok (.iadd, 1) := by decide +kernel
theorem dX4_kind_139 : decode cX4_kind 139 = .ok (.iload_n 3, 1) := by decide +kernel
theorem dX4_kind_140 : decode cX4_kind 140 = .ok (.ifCond .lt 8, 3) := by decide +kernel
theorem dX4_kind_143 : decode cX4_kind 143 = .ok (.iload 4, 2) := by decide +kernel
theorem dX4_kind_145 : decode cX4_kind 145 = .ok (.ifCond .ge 7, 3) := by decide +kernel
theorem dX4_kind_148 : decode cX4_kind 148 = .ok (.iconst (-1), 1) := by decide +kernel
theorem dX4_kind_149 : decode cX4_kind 149 = .ok (.goto 5, 3) := by decide +kernel
theorem dX4_kind_152 : decode cX4_kind 152 = .ok (.iload 4, 2) := by decide +kernel
theorem dX4_kind_154 : decode cX4_kind 154 = .ok (.iastore, 1) := by decide +kernel
theorem dX4_kind_155 : decode cX4_kind 155 = .ok (.aload_n 0, 1) := by decide +kernel
theorem dX4_kind_156 : decode cX4_kind 156 = .ok (.getfield 16, 3) := by decide +kernel
theorem dX4_kind_159 : decode cX4_kind 159 = .ok (.iconst 3, 1) := by decide +kernel
theorem dX4_kind_160 : decode cX4_kind 160 = .ok (.iload 6, 2) := by decide +kernel
theorem dX4_kind_162 : decode cX4_kind 162 = .ok (.imul, 1) := by decide +kernel
theorem dX4_kind_163 : decode cX4_kind 163 = .ok (.iconst 2, 1) := by decide +kernel
theorem dX4_kind_164 : decode cX4_kind 164 = .ok (.iadd, 1) := by decide +kernel
theorem dX4_kind_165 : decode cX4_kind 165 = .ok (.iload_n 3, 1) := by decide +kernel
theorem dX4_kind_166 : decode cX4_kind 166 = .ok (.ifCond .lt 13, 3) := by decide +kernel
theorem dX4_kind_169 : decode cX4_kind 169 = .ok (.iload 4, 2) := by decide +kernel
theorem dX4_kind_171 : decode cX4_kind 171 = .ok (.ifCond .lt 8, 3) := by decide +kernel
theorem dX4_kind_174 : decode cX4_kind 174 = .ok (.iload 5, 2) := by decide +kernel
theorem dX4_kind_176 : decode cX4_kind 176 = .ok (.ifCond .ge 7, 3) := by decide +kernel
theorem dX4_kind_179 : decode cX4_kind 179 = .ok (.iconst (-1), 1) := by decide +kernel
theorem dX4_kind_180 : decode cX4_kind 180 = .ok (.goto 5, 3) := by decide +kernel
theorem dX4_kind_183 : decode cX4_kind 183 = .ok (.iload 5, 2) := by decide +kernel
theorem dX4_kind_185 : decode cX4_kind 185 = .ok (.iastore, 1) := by decide +kernel
theorem dX4_kind_186 : decode cX4_kind 186 = .ok (.aload_n 0, 1) := by decide +kernel
theorem dX4_kind_187 : decode cX4_kind 187 = .ok (.getfield 7, 3) := by decide +kernel
theorem dX4_kind_190 : decode cX4_kind 190 = .ok (.iload_n 1, 1) := by decide +kernel
theorem dX4_kind_191 : decode cX4_kind 191 = .ok (.dup2, 1) := by decide +kernel
theorem dX4_kind_192 : decode cX4_kind 192 = .ok (.iaload, 1) := by decide +kernel
theorem dX4_kind_193 : decode cX4_kind 193 = .ok (.iconst 1, 1) := by decide +kernel
theorem dX4_kind_194 : decode cX4_kind 194 = .ok (.iadd, 1) := by decide +kernel
theorem dX4_kind_195 : decode cX4_kind 195 = .ok (.iastore, 1) := by decide +kernel
theorem dX4_kind_196 : decode cX4_kind 196 = .ok (.aload_n 0, 1) := by decide +kernel
theorem dX4_kind_197 : decode cX4_kind 197 = .ok (.getfield 7, 3) := by decide +kernel
theorem dX4_kind_200 : decode cX4_kind 200 = .ok (.iload_n 1, 1) := by decide +kernel
theorem dX4_kind_201 : decode cX4_kind 201 = .ok (.iaload, 1) := by decide +kernel
theorem dX4_kind_202 : decode cX4_kind 202 = .ok (.iconst 1, 1) := by decide +kernel
theorem dX4_kind_203 : decode cX4_kind 203 = .ok (.isub, 1) := by decide +kernel
theorem dX4_kind_204 : decode cX4_kind 204 = .ok (.ireturn, 1) := by decide +kernel
theorem dX4_isSchool_0 : decode cX4_isSchool 0 = .ok (.iload_n 1, 1) := by decide +kernel
theorem dX4_isSchool_1 : decode cX4_isSchool 1 = .ok (.ifCond .lt 15, 3) := by decide +kernel
theorem dX4_isSchool_4 : decode cX4_isSchool 4 = .ok (.iload_n 1, 1) := by decide +kernel
theorem dX4_isSchool_5 : decode cX4_isSchool 5 = .ok (.aload_n 0, 1) := by decide +kernel
theorem dX4_isSchool_6 : decode cX4_isSchool 6 = .ok (.getfield 63, 3) := by decide +kernel
theorem dX4_isSchool_9 : decode cX4_isSchool 9 = .ok (.if_icmp .ge 7, 3) := by decide +kernel
theorem dX4_isSchool_12 : decode cX4_isSchool 12 = .ok (.iconst 1, 1) := by decide +kernel
theorem dX4_isSchool_13 : decode cX4_isSchool 13 = .ok (.goto 4, 3) := by decide +kernel
theorem dX4_isSchool_16 : decode cX4_isSchool 16 = .ok (.iconst 0, 1) := by decide +kernel
theorem dX4_isSchool_17 : decode cX4_isSchool 17 = .ok (.ireturn, 1) := by decide +kernel
theorem dX4_pupil_0 : decode cX4_pupil 0 = .ok (.aload_n 0, 1) := by decide +kernel
theorem dX4_pupil_1 : decode cX4_pupil 1 = .ok (.iload_n 1, 1) := by decide +kernel
theorem dX4_pupil_2 : decode cX4_pupil 2 = .ok (.ifCond .lt 9, 3) := by decide +kernel
theorem dX4_pupil_5 : decode cX4_pupil 5 = .ok (.iload_n 1, 1) := by decide +kernel
theorem dX4_pupil_6 : decode cX4_pupil 6 = .ok (.bipush 15, 2) := by decide +kernel
theorem dX4_pupil_8 : decode cX4_pupil 8 = .ok (.if_icmp .le 7, 3) := by decide +kernel
theorem dX4_pupil_11 : decode cX4_pupil 11 = .ok (.iconst 1, 1) := by decide +kernel
theorem dX4_pupil_12 : decode cX4_pupil 12 = .ok (.goto 24, 3) := by decide +kernel
theorem dX4_pupil_15 : decode cX4_pupil 15 = .ok (.aload_n 0, 1) := by decide +kernel
theorem dX4_pupil_16 : decode cX4_pupil 16 = .ok (.getfield 69, 3) := by decide +kernel
theorem dX4_pupil_19 : decode cX4_pupil 19 = .ok (.ifCond .ne 12, 3) := by decide +kernel
theorem dX4_pupil_22 : decode cX4_pupil 22 = .ok (.aload_n 0, 1) := by decide +kernel
theorem dX4_pupil_23 : decode cX4_pupil 23 = .ok (.getfield 66, 3) := by decide +kernel
theorem dX4_pupil_26 : decode cX4_pupil 26 = .ok (.bipush 20, 2) := by decide +kernel
theorem dX4_pupil_28 : decode cX4_pupil 28 = .ok (.if_icmp .ne 7, 3) := by decide +kernel
theorem dX4_pupil_31 : decode cX4_pupil 31 = .ok (.iconst 2, 1) := by decide +kernel
theorem dX4_pupil_32 : decode cX4_pupil 32 = .ok (.goto 4, 3) := by decide +kernel
theorem dX4_pupil_35 : decode cX4_pupil 35 = .ok (.iconst 0, 1) := by decide +kernel
theorem dX4_pupil_36 : decode cX4_pupil 36 = .ok (.putfield 59, 3) := by decide +kernel
theorem dX4_pupil_39 : decode cX4_pupil 39 = .ok (.aload_n 0, 1) := by decide +kernel
theorem dX4_pupil_40 : decode cX4_pupil 40 = .ok (.getfield 59, 3) := by decide +kernel
theorem dX4_pupil_43 : decode cX4_pupil 43 = .ok (.ifCond .le 5, 3) := by decide +kernel
theorem dX4_pupil_46 : decode cX4_pupil 46 = .ok (.iconst 0, 1) := by decide +kernel
theorem dX4_pupil_47 : decode cX4_pupil 47 = .ok (.ireturn, 1) := by decide +kernel
theorem dX4_pupil_48 : decode cX4_pupil 48 = .ok (.aload_n 0, 1) := by decide +kernel
theorem dX4_pupil_49 : decode cX4_pupil 49 = .ok (.getfield 19, 3) := by decide +kernel
theorem dX4_pupil_52 : decode cX4_pupil 52 = .ok (.aload_n 0, 1) := by decide +kernel
theorem dX4_pupil_53 : decode cX4_pupil 53 = .ok (.getfield 66, 3) := by decide +kernel
theorem dX4_pupil_56 : decode cX4_pupil 56 = .ok (.iload_n 1, 1) := by decide +kernel
theorem dX4_pupil_57 : decode cX4_pupil 57 = .ok (.iastore, 1) := by decide +kernel
theorem dX4_pupil_58 : decode cX4_pupil 58 = .ok (.aload_n 0, 1) := by decide +kernel
theorem dX4_pupil_59 : decode cX4_pupil 59 = .ok (.getfield 22, 3) := by decide +kernel
theorem dX4_pupil_62 : decode cX4_pupil 62 = .ok (.aload_n 0, 1) := by decide +kernel
theorem dX4_pupil_63 : decode cX4_pupil 63 = .ok (.getfield 66, 3) := by decide +kernel
theorem dX4_pupil_66 : decode cX4_pupil 66 = .ok (.iload_n 2, 1) := by decide +kernel
theorem dX4_pupil_67 : decode cX4_pupil 67 = .ok (.bastore, 1) := by decide +kernel
theorem dX4_pupil_68 : decode cX4_pupil 68 = .ok (.aload_n 0, 1) := by decide +kernel
theorem dX4_pupil_69 : decode cX4_pupil 69 = .ok (.dup, 1) := by decide +kernel
theorem dX4_pupil_70 : decode cX4_pupil 70 = .ok (.getfield 66, 3) := by decide +kernel
theorem dX4_pupil_73 : decode cX4_pupil 73 = .ok (.iconst 1, 1) := by decide +kernel
theorem dX4_pupil_74 : decode cX4_pupil 74 = .ok (.iadd, 1) := by decide +kernel
theorem dX4_pupil_75 : decode cX4_pupil 75 = .ok (.putfield 66, 3) := by decide +kernel
theorem dX4_pupil_78 : decode cX4_pupil 78 = .ok (.aload_n 0, 1) := by decide +kernel
theorem dX4_pupil_79 : decode cX4_pupil 79 = .ok (.getfield 66, 3) := by decide +kernel
theorem dX4_pupil_82 : decode cX4_pupil 82 = .ok (.iconst 1, 1) := by decide +kernel
theorem dX4_pupil_83 : decode cX4_pupil 83 = .ok (.isub, 1) := by decide +kernel
theorem dX4_pupil_84 : decode cX4_pupil 84 = .ok (.ireturn, 1) := by decide +kernel
theorem dX4_wish_0 : decode cX4_wish 0 = .ok (.aload_n 0, 1) := by decide +kernel
theorem dX4_wish_1 : decode cX4_wish 1 = .ok (.aload_n 0, 1) := by decide +kernel
theorem dX4_wish_2 : decode cX4_wish 2 = .ok (.iload_n 1, 1) := by decide +kernel
theorem dX4_wish_3 : decode cX4_wish 3 = .ok (.invokevirtual 77, 3) := by decide +kernel
theorem dX4_wish_6 : decode cX4_wish 6 = .ok (.ifCond .eq 11, 3) := by decide +kernel
theorem dX4_wish_9 : decode cX4_wish 9 = .ok (.aload_n 0, 1) := by decide +kernel
theorem dX4_wish_10 : decode cX4_wish 10 = .ok (.iload_n 2, 1) := by decide +kernel
theorem dX4_wish_11 : decode cX4_wish 11 = .ok (.invokevirtual 73, 3) := by decide +kernel
theorem dX4_wish_14 : decode cX4_wish 14 = .ok (.ifCond .ne 7, 3) := by decide +kernel
theorem dX4_wish_17 : decode cX4_wish 17 = .ok (.iconst 1, 1) := by decide +kernel
theorem dX4_wish_18 : decode cX4_wish 18 = .ok (.goto 4, 3) := by decide +kernel
theorem dX4_wish_21 : decode cX4_wish 21 = .ok (.iconst 0, 1) := by decide +kernel
theorem dX4_wish_22 : decode cX4_wish 22 = .ok (.putfield 59, 3) := by decide +kernel
theorem dX4_wish_25 : decode cX4_wish 25 = .ok (.aload_n 0, 1) := by decide +kernel
theorem dX4_wish_26 : decode cX4_wish 26 = .ok (.getfield 59, 3) := by decide +kernel
theorem dX4_wish_29 : decode cX4_wish 29 = .ok (.ifCond .le 5, 3) := by decide +kernel
theorem dX4_wish_32 : decode cX4_wish 32 = .ok (.iconst 0, 1) := by decide +kernel
theorem dX4_wish_33 : decode cX4_wish 33 = .ok (.ireturn, 1) := by decide +kernel
theorem dX4_wish_34 : decode cX4_wish 34 = .ok (.aload_n 0, 1) := by decide +kernel
theorem dX4_wish_35 : decode cX4_wish 35 = .ok (.aload_n 0, 1) := by decide +kernel
theorem dX4_wish_36 : decode cX4_wish 36 = .ok (.iload_n 1, 1) := by decide +kernel
theorem dX4_wish_37 : decode cX4_wish 37 = .ok (.iload_n 2, 1) := by decide +kernel
theorem dX4_wish_38 : decode cX4_wish 38 = .ok (.invokevirtual 80, 3) := by decide +kernel
theorem dX4_wish_41 : decode cX4_wish 41 = .ok (.bipush 9, 2) := by decide +kernel
theorem dX4_wish_43 : decode cX4_wish 43 = .ok (.if_icmp .ge 7, 3) := by decide +kernel
theorem dX4_wish_46 : decode cX4_wish 46 = .ok (.iconst 1, 1) := by decide +kernel
theorem dX4_wish_47 : decode cX4_wish 47 = .ok (.goto 25, 3) := by decide +kernel
theorem dX4_wish_50 : decode cX4_wish 50 = .ok (.aload_n 0, 1) := by decide +kernel
theorem dX4_wish_51 : decode cX4_wish 51 = .ok (.getfield 69, 3) := by decide +kernel
theorem dX4_wish_54 : decode cX4_wish 54 = .ok (.ifCond .ne 13, 3) := by decide +kernel
theorem dX4_wish_57 : decode cX4_wish 57 = .ok (.aload_n 0, 1) := by decide +kernel
theorem dX4_wish_58 : decode cX4_wish 58 = .ok (.getfield 26, 3) := by decide +kernel
theorem dX4_wish_61 : decode cX4_wish 61 = .ok (.iload_n 1, 1) := by decide +kernel
theorem dX4_wish_62 : decode cX4_wish 62 = .ok (.iaload, 1) := by decide +kernel
theorem dX4_wish_63 : decode cX4_wish 63 = .ok (.iconst 4, 1) := by decide +kernel
theorem dX4_wish_64 : decode cX4_wish 64 = .ok (.if_icmp .ne 7, 3) := by decide +kernel
theorem dX4_wish_67 : decode cX4_wish 67 = .ok (.iconst 2, 1) := by decide +kernel
theorem dX4_wish_68 : decode cX4_wish 68 = .ok (.goto 4, 3) := by decide +kernel
theorem dX4_wish_71 : decode cX4_wish 71 = .ok (.iconst 0, 1) := by decide +kernel
theorem dX4_wish_72 : decode cX4_wish 72 = .ok (.putfield 59, 3) := by decide +kernel
theorem dX4_wish_75 : decode cX4_wish 75 = .ok (.aload_n 0, 1) := by decide +kernel
theorem dX4_wish_76 : decode cX4_wish 76 = .ok (.getfield 59, 3) := by decide +kernel
theorem dX4_wish_79 : decode cX4_wish 79 = .ok (.ifCond .le 5, 3) := by decide +kernel
theorem dX4_wish_82 : decode cX4_wish 82 = .ok (.iconst 0, 1) := by decide +kernel
theorem dX4_wish_83 : decode cX4_wish 83 = .ok (.ireturn, 1) := by decide +kernel
theorem dX4_wish_84 : decode cX4_wish 84 = .ok (.aload_n 0, 1) := by decide +kernel
theorem dX4_wish_85 : decode cX4_wish 85 = .ok (.getfield 29, 3) := by decide +kernel
theorem dX4_wish_88 : decode cX4_wish 88 = .ok (.iconst 4, 1) := by decide +kernel
theorem dX4_wish_89 : decode cX4_wish 89 = .ok (.iload_n 1, 1) := by decide +kernel
theorem dX4_wish_90 : decode cX4_wish 90 = .ok (.imul, 1) := by decide +kernel
theorem dX4_wish_91 : decode cX4_wish 91 = .ok (.aload_n 0, 1) := by decide +kernel
theorem dX4_wish_92 : decode cX4_wish 92 = .ok (.getfield 26, 3) := by decide +kernel
theorem dX4_wish_95 : decode cX4_wish 95 = .ok (.iload_n 1, 1) := by decide +kernel
theorem dX4_wish_96 : decode cX4_wish 96 = .ok (.iaload, 1) := by decide +kernel
theorem dX4_wish_97 : decode cX4_wish 97 = .ok (.iadd, 1) := by decide +kernel
theorem dX4_wish_98 : decode cX4_wish 98 = .ok (.iload_n 2, 1) := by decide +kernel
theorem dX4_wish_99 : decode cX4_wish 99 = .ok (.iastore, 1) := by decide +kernel
theorem dX4_wish_100 : decode cX4_wish 100 = .ok (.aload_n 0, 1) := by decide +kernel
theorem dX4_wish_101 : decode cX4_wish 101 = .ok (.getfield 26, 3) := by decide +kernel
theorem dX4_wish_104 : decode cX4_wish 104 = .ok (.iload_n 1, 1) := by decide +kernel
theorem dX4_wish_105 : decode cX4_wish 105 = .ok (.dup2, 1) := by decide +kernel
theorem dX4_wish_106 : decode cX4_wish 106 = .ok (.iaload, 1) := by decide +kernel
theorem dX4_wish_107 : decode cX4_wish 107 = .ok (.iconst 1, 1) := by decide +kernel
theorem dX4_wish_108 : decode cX4_wish 108 = .ok (.iadd, 1) := by decide +kernel
theorem dX4_wish_109 : decode cX4_wish 109 = .ok (.iastore, 1) := by decide +kernel
theorem dX4_wish_110 : decode cX4_wish 110 = .ok (.aload_n 0, 1) := by decide +kernel
theorem dX4_wish_111 : decode cX4_wish 111 = .ok (.getfield 26, 3) := by decide +kernel
theorem dX4_wish_114 : decode cX4_wish 114 = .ok (.iload_n 1, 1) := by decide +kernel
theorem dX4_wish_115 : decode cX4_wish 115 = .ok (.iaload, 1) := by decide +kernel
theorem dX4_wish_116 : decode cX4_wish 116 = .ok (.ireturn, 1) := by decide +kernel
theorem dX4_isPupil_0 : decode cX4_isPupil 0 = .ok (.iload_n 1, 1) := by decide +kernel
theorem dX4_isPupil_1 : decode cX4_isPupil 1 = .ok (.ifCond .lt 15, 3) := by decide +kernel
theorem dX4_isPupil_4 : decode cX4_isPupil 4 = .ok (.iload_n 1, 1) := by decide +kernel
theorem dX4_isPupil_5 : decode cX4_isPupil 5 = .ok (.aload_n 0, 1) := by decide +kernel
theorem dX4_isPupil_6 : decode cX4_isPupil 6 = .ok (.getfield 66, 3) := by decide +kernel
theorem dX4_isPupil_9 : decode cX4_isPupil 9 = .ok (.if_icmp .ge 7, 3) := by decide +kernel
theorem dX4_isPupil_12 : decode cX4_isPupil 12 = .ok (.iconst 1, 1) := by decide +kernel
theorem dX4_isPupil_13 : decode cX4_isPupil 13 = .ok (.goto 4, 3) := by decide +kernel
theorem dX4_isPupil_16 : decode cX4_isPupil 16 = .ok (.iconst 0, 1) := by decide +kernel
theorem dX4_isPupil_17 : decode cX4_isPupil 17 = .ok (.ireturn, 1) := by decide +kernel
theorem dX4_place_0 : decode cX4_place 0 = .ok (.iconst 0, 1) := by decide +kernel
theorem dX4_place_1 : decode cX4_place 1 = .ok (.istore_n 3, 1) := by decide +kernel
theorem dX4_place_2 : decode cX4_place 2 = .ok (.iload_n 3, 1) := by decide +kernel
theorem dX4_place_3 : decode cX4_place 3 = .ok (.aload_n 0, 1) := by decide +kernel
theorem dX4_place_4 : decode cX4_place 4 = .ok (.getfield 26, 3) := by decide +kernel
theorem dX4_place_7 : decode cX4_place 7 = .ok (.iload_n 1, 1) := by decide +kernel
theorem dX4_place_8 : decode cX4_place 8 = .ok (.iaload, 1) := by decide +kernel
theorem dX4_place_9 : decode cX4_place 9 = .ok (.if_icmp .ge 25, 3) := by decide +kernel
theorem dX4_place_12 : decode cX4_place 12 = .ok (.aload_n 0, 1) := by decide +kernel
theorem dX4_place_13 : decode cX4_place 13 = .ok (.getfield 29, 3) := by decide +kernel
theorem dX4_place_16 : decode cX4_place 16 = .ok (.iconst 4, 1) := by decide +kernel
theorem dX4_place_17 : decode cX4_place 17 = .ok (.iload_n 1, 1) := by decide +kernel
theorem dX4_place_18 : decode cX4_place 18 = .ok (.imul, 1) := by decide +kernel
theorem dX4_place_19 : decode cX4_place 19 = .ok (.iload_n 3, 1) := by decide +kernel
theorem dX4_place_20 : decode cX4_place 20 = .ok (.iadd, 1) := by decide +kernel
theorem dX4_place_21 : decode cX4_place 21 = .ok (.iaload, 1) := by decide +kernel
theorem dX4_place_22 : decode cX4_place 22 = .ok (.iload_n 2, 1) := by decide +kernel
theorem dX4_place_23 : decode cX4_place 23 = .ok (.if_icmp .ne 5, 3) := by decide +kernel
theorem dX4_place_26 : decode cX4_place 26 = .ok (.iload_n 3, 1) := by decide +kernel
theorem dX4_place_27 : decode cX4_place 27 = .ok (.ireturn, 1) := by decide +kernel
theorem dX4_place_28 : decode cX4_place 28 = .ok (.iinc 3 1, 3) := by decide +kernel
theorem dX4_place_31 : decode cX4_place 31 = .ok (.goto (-29), 3) := by decide +kernel
theorem dX4_place_34 : decode cX4_place 34 = .ok (.bipush 9, 2) := by decide +kernel
theorem dX4_place_36 : decode cX4_place 36 = .ok (.ireturn, 1) := by decide +kernel
theorem dX4_draw_0 : decode cX4_draw 0 = .ok (.aload_n 0, 1) := by decide +kernel
theorem dX4_draw_1 : decode cX4_draw 1 = .ok (.iconst 0, 1) := by decide +kernel
theorem dX4_draw_2 : decode cX4_draw 2 = .ok (.putfield 59, 3) := by decide +kernel
theorem dX4_draw_5 : decode cX4_draw 5 = .ok (.aload_n 0, 1) := by decide +kernel
theorem dX4_draw_6 : decode cX4_draw 6 = .ok (.iload_n 1, 1) := by decide +kernel
theorem dX4_draw_7 : decode cX4_draw 7 = .ok (.invokevirtual 77, 3) := by decide +kernel
theorem dX4_draw_10 : decode cX4_draw 10 = .ok (.ifCond .eq 29, 3) := by decide +kernel
theorem dX4_draw_13 : decode cX4_draw 13 = .ok (.aload_n 0, 1) := by decide +kernel
theorem dX4_draw_14 : decode cX4_draw 14 = .ok (.iload_n 2, 1) := by decide +kernel
theorem dX4_draw_15 : decode cX4_draw 15 = .ok (.invokevirtual 73, 3) := by decide +kernel
theorem dX4_draw_18 : decode cX4_draw 18 = .ok (.ifCond .eq 21, 3) := by decide +kernel
theorem dX4_draw_21 : decode cX4_draw 21 = .ok (.iload_n 3, 1) := by decide +kernel
theorem dX4_draw_22 : decode cX4_draw 22 = .ok (.ifCond .lt 17, 3) := by decide +kernel
theorem dX4_draw_25 : decode cX4_draw 25 = .ok (.iload_n 3, 1) := by decide +kernel
theorem dX4_draw_26 : decode cX4_draw 26 = .ok (.sipush 999, 3) := by decide +kernel
theorem dX4_draw_29 : decode cX4_draw 29 = .ok (.if_icmp .gt 10, 3) := by decide +kernel
theorem dX4_draw_32 : decode cX4_draw 32 = .ok (.aload_n 0, 1) := by decide +kernel
theorem dX4_draw_33 : decode cX4_draw 33 = .ok (.getfield 69, 3) := by decide +kernel
theorem dX4_draw_36 : decode cX4_draw 36 = .ok (.ifCond .eq 5, 3) := by decide +kernel
theorem dX4_draw_39 : decode cX4_draw 39 = .ok (.iconst 0, 1) := by decide +kernel
theorem dX4_draw_40 : decode cX4_draw 40 = .ok (.ireturn, 1) := by decide +kernel
theorem dX4_draw_41 : decode cX4_draw 41 = .ok (.iconst 0, 1) := by decide +kernel
theorem dX4_draw_42 : decode cX4_draw 42 = .ok (.istore 4, 2) := by decide +kernel
theorem dX4_draw_44 : decode cX4_draw 44 = .ok (.iload 4, 2) := by decide +kernel
theorem dX4_draw_46 : decode cX4_draw 46 = .ok (.aload_n 0, 1) := by decide +kernel
theorem dX4_draw_47 : decode cX4_draw 47 = .ok (.getfield 66, 3) := by decide +kernel
theorem dX4_draw_50 : decode cX4_draw 50 = .ok (.if_icmp .ge 33, 3) := by decide +kernel
theorem dX4_draw_53 : decode cX4_draw 53 = .ok (.iload 4, 2) := by decide +kernel
theorem dX4_draw_55 : decode cX4_draw 55 = .ok (.iload_n 1, 1) := by decide +kernel
theorem dX4_draw_56 : decode cX4_draw 56 = .ok (.if_icmp .eq 21, 3) := by decide +kernel
theorem dX4_draw_59 : decode cX4_draw 59 = .ok (.aload_n 0, 1) := by decide +kernel
theorem dX4_draw_60 : decode cX4_draw 60 = .ok (.getfield 32, 3) := by decide +kernel
theorem dX4_draw_63 : decode cX4_draw 63 = .ok (.bipush 6, 2) := by decide +kernel
theorem dX4_draw_65 : decode cX4_draw 65 = .ok (.iload 4, 2) := by decide +kernel
theorem dX4_draw_67 : decode cX4_draw 67 = .ok (.imul, 1) := by decide +kernel
theorem dX4_draw_68 : decode cX4_draw 68 = .ok (.iload_n 2, 1) := by decide +kernel
theorem dX4_draw_69 : decode cX4_draw 69 = .ok (.iadd, 1) := by decide +kernel
theorem dX4_draw_70 : decode cX4_draw 70 = .ok (.iaload, 1) := by decide +kernel
theorem dX4_draw_71 : decode cX4_draw 71 = .ok (.iload_n 3, 1) := by decide +kernel
theorem dX4_draw_72 : decode cX4_draw 72 = .ok (.if_icmp .ne 5, 3) := by decide +kernel
theorem dX4_draw_75 : decode cX4_draw 75 = .ok (.iconst 0, 1) := by decide +kernel
theorem dX4_draw_76 : decode cX4_draw 76 = .ok (.ireturn, 1) := by decide +kernel
theorem dX4_draw_77 : decode cX4_draw 77 = .ok (.iinc 4 1, 3) := by decide +kernel
theorem dX4_draw_80 : decode cX4_draw 80 = .ok (.goto (-36), 3) := by decide +kernel
theorem dX4_draw_83 : decode cX4_draw 83 = .ok (.aload_n 0, 1) := by decide +kernel
theorem dX4_draw_84 : decode cX4_draw 84 = .ok (.getfield 32, 3) := by decide +kernel
theorem dX4_draw_87 : decode cX4_draw 87 = .ok (.bipush 6, 2) := by decide +kernel
theorem dX4_draw_89 : decode cX4_draw 89 = .ok (.iload_n 1, 1) := by decide +kernel
theorem dX4_draw_90 : decode cX4_draw 90 = .ok (.imul, 1) := by decide +kernel
theorem dX4_draw_91 : decode cX4_draw 91 = .ok (.iload_n 2, 1) := by decide +kernel
theorem dX4_draw_92 : decode cX4_draw 92 = .ok (.iadd, 1) := by decide +kernel
theorem dX4_draw_93 : decode cX4_draw 93 = .ok (.iload_n 3, 1) := by decide +kernel
theorem dX4_draw_94 : decode cX4_draw 94 = .ok (.iastore, 1) := by decide +kernel
theorem dX4_draw_95 : decode cX4_draw 95 = .ok (.iconst 1, 1) := by decide +kernel
theorem dX4_draw_96 : decode cX4_draw 96 = .ok (.ireturn, 1) := by decide +kernel
theorem dX4_run_0 : decode cX4_run 0 = .ok (.aload_n 0, 1) := by decide +kernel
theorem dX4_run_1 : decode cX4_run 1 = .ok (.aload_n 0, 1) := by decide +kernel
theorem dX4_run_2 : decode cX4_run 2 = .ok (.getfield 69, 3) := by decide +kernel
theorem dX4_run_5 : decode cX4_run 5 = .ok (.ifCond .eq 7, 3) := by decide +kernel
theorem dX4_run_8 : decode cX4_run 8 = .ok (.iconst 1, 1) := by decide +kernel
theorem dX4_run_9 : decode cX4_run 9 = .ok (.goto 4, 3) := by decide +kernel
theorem dX4_run_12 : decode cX4_run 12 = .ok (.iconst 0, 1) := by decide +kernel
theorem dX4_run_13 : decode cX4_run 13 = .ok (.putfield 59, 3) := by decide +kernel
theorem dX4_run_16 : decode cX4_run 16 = .ok (.aload_n 0, 1) := by decide +kernel
theorem dX4_run_17 : decode cX4_run 17 = .ok (.getfield 59, 3) := by decide +kernel
theorem dX4_run_20 : decode cX4_run 20 = .ok (.ifCond .le 5, 3) := by decide +kernel
theorem dX4_run_23 : decode cX4_run 23 = .ok (.iconst 0, 1) := by decide +kernel
theorem dX4_run_24 : decode cX4_run 24 = .ok (.ireturn, 1) := by decide +kernel
theorem dX4_run_25 : decode cX4_run 25 = .ok (.aload_n 0, 1) := by decide +kernel
theorem dX4_run_26 : decode cX4_run 26 = .ok (.iconst 1, 1) := by decide +kernel
theorem dX4_run_27 : decode cX4_run 27 = .ok (.putfield 69, 3) := by decide +kernel
