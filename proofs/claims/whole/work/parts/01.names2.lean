/-! decode rows, made by a program of mine -/
theorem dX3_choose_60 : decode cX3_choose 60 = .ok (.iinc 3 1, 3) := by decide +kernel
theorem dX3_choose_63 : decode cX3_choose 63 = .ok (.goto (-56), 3) := by decide +kernel
theorem dX3_choose_66 : decode cX3_choose 66 = .ok (.iconst 0, 1) := by decide +kernel
theorem dX3_choose_67 : decode cX3_choose 67 = .ok (.istore_n 3, 1) := by decide +kernel
theorem dX3_choose_68 : decode cX3_choose 68 = .ok (.iload_n 3, 1) := by decide +kernel
theorem dX3_choose_69 : decode cX3_choose 69 = .ok (.aload_n 0, 1) := by decide +kernel
theorem dX3_choose_70 : decode cX3_choose 70 = .ok (.getfield 11, 3) := by decide +kernel
theorem dX3_choose_73 : decode cX3_choose 73 = .ok (.iload_n 1, 1) := by decide +kernel
theorem dX3_choose_74 : decode cX3_choose 74 = .ok (.aaload, 1) := by decide +kernel
theorem dX3_choose_75 : decode cX3_choose 75 = .ok (.getfield 50, 3) := by decide +kernel
theorem dX3_choose_78 : decode cX3_choose 78 = .ok (.if_icmp .ge 15, 3) := by decide +kernel
theorem dX3_choose_81 : decode cX3_choose 81 = .ok (.aload_n 0, 1) := by decide +kernel
theorem dX3_choose_82 : decode cX3_choose 82 = .ok (.iload_n 1, 1) := by decide +kernel
theorem dX3_choose_83 : decode cX3_choose 83 = .ok (.iload_n 3, 1) := by decide +kernel
theorem dX3_choose_84 : decode cX3_choose 84 = .ok (.invokevirtual 185, 3) := by decide +kernel
theorem dX3_choose_87 : decode cX3_choose 87 = .ok (.iinc 3 1, 3) := by decide +kernel
theorem dX3_choose_90 : decode cX3_choose 90 = .ok (.goto (-22), 3) := by decide +kernel
theorem dX3_choose_93 : decode cX3_choose 93 = .ok (.return_, 1) := by decide +kernel
theorem dX1_holdsAnyKind_0 : decode cX1_holdsAnyKind 0 = .ok (.aload_n 0, 1) := by decide +kernel
theorem dX1_holdsAnyKind_1 : decode cX1_holdsAnyKind 1 = .ok (.getfield 18, 3) := by decide +kernel
theorem dX1_holdsAnyKind_4 : decode cX1_holdsAnyKind 4 = .ok (.iload_n 1, 1) := by decide +kernel
theorem dX1_holdsAnyKind_5 : decode cX1_holdsAnyKind 5 = .ok (.if_icmp .ne 15, 3) := by decide +kernel
theorem dX1_holdsAnyKind_8 : decode cX1_holdsAnyKind 8 = .ok (.aload_n 0, 1) := by decide +kernel
theorem dX1_holdsAnyKind_9 : decode cX1_holdsAnyKind 9 = .ok (.getfield 22, 3) := by decide +kernel
theorem dX1_holdsAnyKind_12 : decode cX1_holdsAnyKind 12 = .ok (.iconst (-1), 1) := by decide +kernel
theorem dX1_holdsAnyKind_13 : decode cX1_holdsAnyKind 13 = .ok (.if_icmp .eq 7, 3) := by decide +kernel
theorem dX1_holdsAnyKind_16 : decode cX1_holdsAnyKind 16 = .ok (.iconst 1, 1) := by decide +kernel
theorem dX1_holdsAnyKind_17 : decode cX1_holdsAnyKind 17 = .ok (.goto 4, 3) := by decide +kernel
theorem dX1_holdsAnyKind_20 : decode cX1_holdsAnyKind 20 = .ok (.iconst 0, 1) := by decide +kernel
theorem dX1_holdsAnyKind_21 : decode cX1_holdsAnyKind 21 = .ok (.ireturn, 1) := by decide +kernel
theorem dX3_takeFromPool_0 : decode cX3_takeFromPool 0 = .ok (.aload_n 0, 1) := by decide +kernel
theorem dX3_takeFromPool_1 : decode cX3_takeFromPool 1 = .ok (.getfield 11, 3) := by decide +kernel
theorem dX3_takeFromPool_4 : decode cX3_takeFromPool 4 = .ok (.iload_n 1, 1) := by decide +kernel
theorem dX3_takeFromPool_5 : decode cX3_takeFromPool 5 = .ok (.aaload, 1) := by decide +kernel
theorem dX3_takeFromPool_6 : decode cX3_takeFromPool 6 = .ok (.getfield 53, 3) := by decide +kernel
theorem dX3_takeFromPool_9 : decode cX3_takeFromPool 9 = .ok (.iload_n 2, 1) := by decide +kernel
theorem dX3_takeFromPool_10 : decode cX3_takeFromPool 10 = .ok (.aaload, 1) := by decide +kernel
theorem dX3_takeFromPool_11 : decode cX3_takeFromPool 11 = .ok (.getfield 57, 3) := by decide +kernel
theorem dX3_takeFromPool_14 : decode cX3_takeFromPool 14 = .ok (.istore_n 3, 1) := by decide +kernel
theorem dX3_takeFromPool_15 : decode cX3_takeFromPool 15 = .ok (.iconst 0, 1) := by decide +kernel
theorem dX3_takeFromPool_16 : decode cX3_takeFromPool 16 = .ok (.istore 4, 2) := by decide +kernel
theorem dX3_takeFromPool_18 : decode cX3_takeFromPool 18 = .ok (.iload 4, 2) := by decide +kernel
theorem dX3_takeFromPool_20 : decode cX3_takeFromPool 20 = .ok (.iload_n 3, 1) := by decide +kernel
theorem dX3_takeFromPool_21 : decode cX3_takeFromPool 21 = .ok (.if_icmp .ge 63, 3) := by decide +kernel
theorem dX3_takeFromPool_24 : decode cX3_takeFromPool 24 = .ok (.aload_n 0, 1) := by decide +kernel
theorem dX3_takeFromPool_25 : decode cX3_takeFromPool 25 = .ok (.iload_n 1, 1) := by decide +kernel
theorem dX3_takeFromPool_26 : decode cX3_takeFromPool 26 = .ok (.iload_n 2, 1) := by decide +kernel
theorem dX3_takeFromPool_27 : decode cX3_takeFromPool 27 = .ok (.invokevirtual 188, 3) := by decide +kernel
theorem dX3_takeFromPool_30 : decode cX3_takeFromPool 30 = .ok (.istore 5, 2) := by decide +kernel
theorem dX3_takeFromPool_32 : decode cX3_takeFromPool 32 = .ok (.iload 5, 2) := by decide +kernel
theorem dX3_takeFromPool_34 : decode cX3_takeFromPool 34 = .ok (.iconst (-1), 1) := by decide +kernel
theorem dX3_takeFromPool_35 : decode cX3_takeFromPool 35 = .ok (.if_icmp .ne 4, 3) := by decide +kernel
theorem dX3_takeFromPool_38 : decode cX3_takeFromPool 38 = .ok (.return_, 1) := by decide +kernel
theorem dX3_takeFromPool_39 : decode cX3_takeFromPool 39 = .ok (.aload_n 0, 1) := by decide +kernel
theorem dX3_takeFromPool_40 : decode cX3_takeFromPool 40 = .ok (.getfield 29, 3) := by decide +kernel
theorem dX3_takeFromPool_43 : decode cX3_takeFromPool 43 = .ok (.aload_n 0, 1) := by decide +kernel
theorem dX3_takeFromPool_44 : decode cX3_takeFromPool 44 = .ok (.getfield 25, 3) := by decide +kernel
theorem dX3_takeFromPool_47 : decode cX3_takeFromPool 47 = .ok (.iload 5, 2) := by decide +kernel
theorem dX3_takeFromPool_49 : decode cX3_takeFromPool 49 = .ok (.iaload, 1) := by decide +kernel
theorem dX3_takeFromPool_50 : decode cX3_takeFromPool 50 = .ok (.iload_n 2, 1) := by decide +kernel
theorem dX3_takeFromPool_51 : decode cX3_takeFromPool 51 = .ok (.iastore, 1) := by decide +kernel
theorem dX3_takeFromPool_52 : decode cX3_takeFromPool 52 = .ok (.aload_n 0, 1) := by decide +kernel
theorem dX3_takeFromPool_53 : decode cX3_takeFromPool 53 = .ok (.dup, 1) := by decide +kernel
theorem dX3_takeFromPool_54 : decode cX3_takeFromPool 54 = .ok (.getfield 176, 3) := by decide +kernel
theorem dX3_takeFromPool_57 : decode cX3_takeFromPool 57 = .ok (.iconst 1, 1) := by decide +kernel
theorem dX3_takeFromPool_58 : decode cX3_takeFromPool 58 = .ok (.isub, 1) := by decide +kernel
theorem dX3_takeFromPool_59 : decode cX3_takeFromPool 59 = .ok (.putfield 176, 3) := by decide +kernel
theorem dX3_takeFromPool_62 : decode cX3_takeFromPool 62 = .ok (.aload_n 0, 1) := by decide +kernel
theorem dX3_takeFromPool_63 : decode cX3_takeFromPool 63 = .ok (.getfield 25, 3) := by decide +kernel
theorem dX3_takeFromPool_66 : decode cX3_takeFromPool 66 = .ok (.iload 5, 2) := by decide +kernel
theorem dX3_takeFromPool_68 : decode cX3_takeFromPool 68 = .ok (.aload_n 0, 1) := by decide +kernel
theorem dX3_takeFromPool_69 : decode cX3_takeFromPool 69 = .ok (.getfield 25, 3) := by decide +kernel
theorem dX3_takeFromPool_72 : decode cX3_takeFromPool 72 = .ok (.aload_n 0, 1) := by decide +kernel
theorem dX3_takeFromPool_73 : decode cX3_takeFromPool 73 = .ok (.getfield 176, 3) := by decide +kernel
theorem dX3_takeFromPool_76 : decode cX3_takeFromPool 76 = .ok (.iaload, 1) := by decide +kernel
theorem dX3_takeFromPool_77 : decode cX3_takeFromPool 77 = .ok (.iastore, 1) := by decide +kernel
theorem dX3_takeFromPool_78 : decode cX3_takeFromPool 78 = .ok (.iinc 4 1, 3) := by decide +kernel
theorem dX3_takeFromPool_81 : decode cX3_takeFromPool 81 = .ok (.goto (-63), 3) := by decide +kernel
theorem dX3_takeFromPool_84 : decode cX3_takeFromPool 84 = .ok (.return_, 1) := by decide +kernel
theorem dX3_firstInPool_0 : decode cX3_firstInPool 0 = .ok (.iconst (-1), 1) := by decide +kernel
theorem dX3_firstInPool_1 : decode cX3_firstInPool 1 = .ok (.istore_n 3, 1) := by decide +kernel
theorem dX3_firstInPool_2 : decode cX3_firstInPool 2 = .ok (.ldc 157, 2) := by decide +kernel
theorem dX3_firstInPool_4 : decode cX3_firstInPool 4 = .ok (.istore 4, 2) := by decide +kernel
theorem dX3_firstInPool_6 : decode cX3_firstInPool 6 = .ok (.iconst 0, 1) := by decide +kernel
theorem dX3_firstInPool_7 : decode cX3_firstInPool 7 = .ok (.istore 5, 2) := by decide +kernel
theorem dX3_firstInPool_9 : decode cX3_firstInPool 9 = .ok (.iload 5, 2) := by decide +kernel
theorem dX3_firstInPool_11 : decode cX3_firstInPool 11 = .ok (.aload_n 0, 1) := by decide +kernel
theorem dX3_firstInPool_12 : decode cX3_firstInPool 12 = .ok (.getfield 176, 3) := by decide +kernel
theorem dX3_firstInPool_15 : decode cX3_firstInPool 15 = .ok (.if_icmp .ge 38, 3) := by decide +kernel
theorem dX3_firstInPool_18 : decode cX3_firstInPool 18 = .ok (.aload_n 0, 1) := by decide +kernel
theorem dX3_firstInPool_19 : decode cX3_firstInPool 19 = .ok (.aload_n 0, 1) := by decide +kernel
theorem dX3_firstInPool_20 : decode cX3_firstInPool 20 = .ok (.getfield 25, 3) := by decide +kernel
theorem dX3_firstInPool_23 : decode cX3_firstInPool 23 = .ok (.iload 5, 2) := by decide +kernel
theorem dX3_firstInPool_25 : decode cX3_firstInPool 25 = .ok (.iaload, 1) := by decide +kernel
theorem dX3_firstInPool_26 : decode cX3_firstInPool 26 = .ok (.iload_n 1, 1) := by decide +kernel
theorem dX3_firstInPool_27 : decode cX3_firstInPool 27 = .ok (.iload_n 2, 1) := by decide +kernel
theorem dX3_firstInPool_28 : decode cX3_firstInPool 28 = .ok (.invokevirtual 153, 3) := by decide +kernel
theorem dX3_firstInPool_31 : decode cX3_firstInPool 31 = .ok (.istore 6, 2) := by decide +kernel
theorem dX3_firstInPool_33 : decode cX3_firstInPool 33 = .ok (.iload 6, 2) := by decide +kernel
theorem dX3_firstInPool_35 : decode cX3_firstInPool 35 = .ok (.iload 4, 2) := by decide +kernel
theorem dX3_firstInPool_37 : decode cX3_firstInPool 37 = .ok (.if_icmp .ge 10, 3) := by decide +kernel
theorem dX3_firstInPool_40 : decode cX3_firstInPool 40 = .ok (.iload 5, 2) := by decide +kernel
theorem dX3_firstInPool_42 : decode cX3_firstInPool 42 = .ok (.istore_n 3, 1) := by decide +kernel
theorem dX3_firstInPool_43 : decode cX3_firstInPool 43 = .ok (.iload 6, 2) := by decide +kernel
theorem dX3_firstInPool_45 : decode cX3_firstInPool 45 = .ok (.istore 4, 2) := by decide +kernel
theorem dX3_firstInPool_47 : decode cX3_firstInPool 47 = .ok (.iinc 5 1, 3) := by decide +kernel
theorem dX3_firstInPool_50 : decode cX3_firstInPool 50 = .ok (.goto (-41), 3) := by decide +kernel
theorem dX3_firstInPool_53 : decode cX3_firstInPool 53 = .ok (.iload_n 3, 1) := by decide +kernel
theorem dX3_firstInPool_54 : decode cX3_firstInPool 54 = .ok (.ireturn, 1) := by decide +kernel
theorem dX3_why_0 : decode cX3_why 0 = .ok (.aload_n 0, 1) := by decide +kernel
theorem dX3_why_1 : decode cX3_why 1 = .ok (.iload_n 1, 1) := by decide +kernel
theorem dX3_why_2 : decode cX3_why 2 = .ok (.invokevirtual 78, 3) := by decide +kernel
theorem dX3_why_5 : decode cX3_why 5 = .ok (.ifCond .eq 11, 3) := by decide +kernel
theorem dX3_why_8 : decode cX3_why 8 = .ok (.aload_n 0, 1) := by decide +kernel
theorem dX3_why_9 : decode cX3_why 9 = .ok (.iload_n 2, 1) := by decide +kernel
theorem dX3_why_10 : decode cX3_why 10 = .ok (.invokevirtual 43, 3) := by decide +kernel
theorem dX3_why_13 : decode cX3_why 13 = .ok (.ifCond .ne 5, 3) := by decide +kernel
theorem dX3_why_16 : decode cX3_why 16 = .ok (.iconst (-1), 1) := by decide +kernel
theorem dX3_why_17 : decode cX3_why 17 = .ok (.ireturn, 1) := by decide +kernel
theorem dX3_why_18 : decode cX3_why 18 = .ok (.aload_n 0, 1) := by decide +kernel
theorem dX3_why_19 : decode cX3_why 19 = .ok (.getfield 18, 3) := by decide +kernel
theorem dX3_why_22 : decode cX3_why 22 = .ok (.iload_n 1, 1) := by decide +kernel
theorem dX3_why_23 : decode cX3_why 23 = .ok (.aaload, 1) := by decide +kernel
theorem dX3_why_24 : decode cX3_why 24 = .ok (.astore_n 3, 1) := by decide +kernel
theorem dX3_why_25 : decode cX3_why 25 = .ok (.aload_n 3, 1) := by decide +kernel
theorem dX3_why_26 : decode cX3_why 26 = .ok (.getfield 123, 3) := by decide +kernel
theorem dX3_why_29 : decode cX3_why 29 = .ok (.iload_n 2, 1) := by decide +kernel
theorem dX3_why_30 : decode cX3_why 30 = .ok (.if_icmp .ne 5, 3) := by decide +kernel
theorem dX3_why_33 : decode cX3_why 33 = .ok (.iconst 0, 1) := by decide +kernel
theorem dX3_why_34 : decode cX3_why 34 = .ok (.ireturn, 1) := by decide +kernel
theorem dX3_why_35 : decode cX3_why 35 = .ok (.aload_n 3, 1) := by decide +kernel
theorem dX3_why_36 : decode cX3_why 36 = .ok (.iload_n 2, 1) := by decide +kernel
theorem dX3_why_37 : decode cX3_why 37 = .ok (.invokevirtual 81, 3) := by decide +kernel
theorem dX3_why_40 : decode cX3_why 40 = .ok (.iconst (-1), 1) := by decide +kernel
theorem dX3_why_41 : decode cX3_why 41 = .ok (.if_icmp .ne 5, 3) := by decide +kernel
theorem dX3_why_44 : decode cX3_why 44 = .ok (.iconst 1, 1) := by decide +kernel
theorem dX3_why_45 : decode cX3_why 45 = .ok (.ireturn, 1) := by decide +kernel
theorem dX3_why_46 : decode cX3_why 46 = .ok (.aload_n 0, 1) := by decide +kernel
theorem dX3_why_47 : decode cX3_why 47 = .ok (.getfield 11, 3) := by decide +kernel
theorem dX3_why_50 : decode cX3_why 50 = .ok (.iload_n 2, 1) := by decide +kernel
theorem dX3_why_51 : decode cX3_why 51 = .ok (.aaload, 1) := by decide +kernel
theorem dX3_why_52 : decode cX3_why 52 = .ok (.aload_n 3, 1) := by decide +kernel
theorem dX3_why_53 : decode cX3_why 53 = .ok (.getfield 72, 3) := by decide +kernel
theorem dX3_why_56 : decode cX3_why 56 = .ok (.invokevirtual 158, 3) := by decide +kernel
theorem dX3_why_59 : decode cX3_why 59 = .ok (.ifCond .ne 5, 3) := by decide +kernel
theorem dX3_why_62 : decode cX3_why 62 = .ok (.iconst 2, 1) := by decide +kernel
theorem dX3_why_63 : decode cX3_why 63 = .ok (.ireturn, 1) := by decide +kernel
theorem dX3_why_64 : decode cX3_why 64 = .ok (.aload_n 3, 1) := by decide +kernel
theorem dX3_why_65 : decode cX3_why 65 = .ok (.iload_n 2, 1) := by decide +kernel
theorem dX3_why_66 : decode cX3_why 66 = .ok (.invokevirtual 150, 3) := by decide +kernel
theorem dX3_why_69 : decode cX3_why 69 = .ok (.ifCond .eq 7, 3) := by decide +kernel
theorem dX3_why_72 : decode cX3_why 72 = .ok (.iconst 4, 1) := by decide +kernel
theorem dX3_why_73 : decode cX3_why 73 = .ok (.goto 4, 3) := by decide +kernel
theorem dX3_why_76 : decode cX3_why 76 = .ok (.iconst 3, 1) := by decide +kernel
theorem dX3_why_77 : decode cX3_why 77 = .ok (.ireturn, 1) := by decide +kernel
theorem dX2_admits_0 : decode cX2_admits 0 = .ok (.iconst 0, 1) := by decide +kernel
theorem dX2_admits_1 : decode cX2_admits 1 = .ok (.istore_n 2, 1) := by decide +kernel
theorem dX2_admits_2 : decode cX2_admits 2 = .ok (.iload_n 2, 1) := by decide +kernel
theorem dX2_admits_3 : decode cX2_admits 3 = .ok (.aload_n 0, 1) := by decide +kernel
theorem dX2_admits_4 : decode cX2_admits 4 = .ok (.getfield 18, 3) := by decide +kernel
theorem dX2_admits_7 : decode cX2_admits 7 = .ok (.if_icmp .ge 25, 3) := by decide +kernel
theorem dX2_admits_10 : decode cX2_admits 10 = .ok (.aload_n 0, 1) := by decide +kernel
theorem dX2_admits_11 : decode cX2_admits 11 = .ok (.getfield 11, 3) := by decide +kernel
theorem dX2_admits_14 : decode cX2_admits 14 = .ok (.iload_n 2, 1) := by decide +kernel
theorem dX2_admits_15 : decode cX2_admits 15 = .ok (.aaload, 1) := by decide +kernel
theorem dX2_admits_16 : decode cX2_admits 16 = .ok (.iload_n 1, 1) := by decide +kernel
theorem dX2_admits_17 : decode cX2_admits 17 = .ok (.invokevirtual 22, 3) := by decide +kernel
theorem dX2_admits_20 : decode cX2_admits 20 = .ok (.iconst (-1), 1) := by decide +kernel
theorem dX2_admits_21 : decode cX2_admits 21 = .ok (.if_icmp .eq 5, 3) := by decide +kernel
theorem dX2_admits_24 : decode cX2_admits 24 = .ok (.iconst 1, 1) := by decide +kernel
theorem dX2_admits_25 : decode cX2_admits 25 = .ok (.ireturn, 1) := by decide +kernel
theorem dX2_admits_26 : decode cX2_admits 26 = .ok (.iinc 2 1, 3) := by decide +kernel
theorem dX2_admits_29 : decode cX2_admits 29 = .ok (.goto (-27), 3) := by decide +kernel
theorem dX2_admits_32 : decode cX2_admits 32 = .ok (.iconst 0, 1) := by decide +kernel
theorem dX2_admits_33 : decode cX2_admits 33 = .ok (.ireturn, 1) := by decide +kernel
theorem dX3_look_0 : decode cX3_look 0 = .ok (.iload_n 1, 1) := by decide +kernel
theorem dX3_look_1 : decode cX3_look 1 = .ok (.tableswitch 68 0 4 #[35, 40, 45, 58, 63], 35) := by decide +kernel
theorem dX3_look_36 : decode cX3_look 36 = .ok (.aload_n 0, 1) := by decide +kernel
theorem dX3_look_37 : decode cX3_look 37 = .ok (.getfield 36, 3) := by decide +kernel
theorem dX3_look_40 : decode cX3_look 40 = .ok (.ireturn, 1) := by decide +kernel
theorem dX3_look_41 : decode cX3_look 41 = .ok (.aload_n 0, 1) := by decide +kernel
theorem dX3_look_42 : decode cX3_look 42 = .ok (.getfield 69, 3) := by decide +kernel
theorem dX3_look_45 : decode cX3_look 45 = .ok (.ireturn, 1) := by decide +kernel
theorem dX3_look_46 : decode cX3_look 46 = .ok (.aload_n 0, 1) := by decide +kernel
theorem dX3_look_47 : decode cX3_look 47 = .ok (.getfield 32, 3) := by decide +kernel
theorem dX3_look_50 : decode cX3_look 50 = .ok (.ifCond .eq 7, 3) := by decide +kernel
theorem dX3_look_53 : decode cX3_look 53 = .ok (.iconst 1, 1) := by decide +kernel
theorem dX3_look_54 : decode cX3_look 54 = .ok (.goto 4, 3) := by decide +kernel
theorem dX3_look_57 : decode cX3_look 57 = .ok (.iconst 0, 1) := by decide +kernel
theorem dX3_look_58 : decode cX3_look 58 = .ok (.ireturn, 1) := by decide +kernel
theorem dX3_look_59 : decode cX3_look 59 = .ok (.aload_n 0, 1) := by decide +kernel
theorem dX3_look_60 : decode cX3_look 60 = .ok (.invokevirtual 161, 3) := by decide +kernel
theorem dX3_look_63 : decode cX3_look 63 = .ok (.ireturn, 1) := by decide +kernel
theorem dX3_look_64 : decode cX3_look 64 = .ok (.aload_n 0, 1) := by decide +kernel
theorem dX3_look_65 : decode cX3_look 65 = .ok (.invokevirtual 101, 3) := by decide +kernel
theorem dX3_look_68 : decode cX3_look 68 = .ok (.ireturn, 1) := by decide +kernel
theorem dX3_look_69 : decode cX3_look 69 = .ok (.iconst (-1), 1) := by decide +kernel
theorem dX3_look_70 : decode cX3_look 70 = .ok (.ireturn, 1) := by decide +kernel
theorem dX3_countAsks_0 : decode cX3_countAsks 0 = .ok (.iconst 0, 1) := by decide +kernel
theorem dX3_countAsks_1 : decode cX3_countAsks 1 = .ok (.istore_n 1, 1) := by decide +kernel
theorem dX3_countAsks_2 : decode cX3_countAsks 2 = .ok (.iconst 0, 1) := by decide +kernel
theorem dX3_countAsks_3 : decode cX3_countAsks 3 = .ok (.istore_n 2, 1) := by decide +kernel
theorem dX3_countAsks_4 : decode cX3_countAsks 4 = .ok (.iload_n 2, 1) := by decide +kernel
theorem dX3_countAsks_5 : decode cX3_countAsks 5 = .ok (.aload_n 0, 1) := by decide +kernel
theorem dX3_countAsks_6 : decode cX3_countAsks 6 = .ok (.getfield 69, 3) := by decide +kernel
theorem dX3_countAsks_9 : decode cX3_countAsks 9 = .ok (.if_icmp .ge 21, 3) := by decide +kernel
theorem dX3_countAsks_12 : decode cX3_countAsks 12 = .ok (.iload_n 1, 1) := by decide +kernel
theorem dX3_countAsks_13 : decode cX3_countAsks 13 = .ok (.aload_n 0, 1) := by decide +kernel
theorem dX3_countAsks_14 : decode cX3_countAsks 14 = .ok (.getfield 18, 3) := by decide +kernel
theorem dX3_countAsks_17 : decode cX3_countAsks 17 = .ok (.iload_n 2, 1) := by decide +kernel
theorem dX3_countAsks_18 : decode cX3_countAsks 18 = .ok (.aaload, 1) := by decide +kernel
theorem dX3_countAsks_19 : decode cX3_countAsks 19 = .ok (.getfield 133, 3) := by decide +kernel
theorem dX3_countAsks_22 : decode cX3_countAsks 22 = .ok (.iadd, 1) := by decide +kernel
theorem dX3_countAsks_23 : decode cX3_countAsks 23 = .ok (.istore_n 1, 1) := by decide +kernel
theorem dX3_countAsks_24 : decode cX3_countAsks 24 = .ok (.iinc 2 1, 3) := by decide +kernel
theorem dX3_countAsks_27 : decode cX3_countAsks 27 = .ok (.goto (-23), 3) := by decide +kernel
theorem dX3_countAsks_30 : decode cX3_countAsks 30 = .ok (.iload_n 1, 1) := by decide +kernel
theorem dX3_countAsks_31 : decode cX3_countAsks 31 = .ok (.ireturn, 1) := by decide +kernel
theorem dX3_countPlaced_0 : decode cX3_countPlaced 0 = .ok (.iconst 0, 1) := by decide +kernel
theorem dX3_countPlaced_1 : decode cX3_countPlaced 1 = .ok (.istore_n 1, 1) := by decide +kernel
theorem dX3_countPlaced_2 : decode cX3_countPlaced 2 = .ok (.iconst 0, 1) := by decide +kernel
theorem dX3_countPlaced_3 : decode cX3_countPlaced 3 = .ok (.istore_n 2, 1) := by decide +kernel
theorem dX3_countPlaced_4 : decode cX3_countPlaced 4 = .ok (.iload_n 2, 1) := by decide +kernel
theorem dX3_countPlaced_5 : decode cX3_countPlaced 5 = .ok (.aload_n 0, 1) := by decide +kernel
theorem dX3_countPlaced_6 : decode cX3_countPlaced 6 = .ok (.getfield 69, 3) := by decide +kernel
theorem dX3_countPlaced_9 : decode cX3_countPlaced 9 = .ok (.if_icmp .ge 24, 3) := by decide +kernel
theorem dX3_countPlaced_12 : decode cX3_countPlaced 12 = .ok (.aload_n 0, 1) := by decide +kernel
theorem dX3_countPlaced_13 : decode cX3_countPlaced 13 = .ok (.getfield 18, 3) := by decide +kernel
theorem dX3_countPlaced_16 : decode cX3_countPlaced 16 = .ok (.iload_n 2, 1) := by decide +kernel
theorem dX3_countPlaced_17 : decode cX3_countPlaced 17 = .ok (.aaload, 1) := by decide +kernel
theorem dX3_countPlaced_18 : decode cX3_countPlaced 18 = .ok (.invokevirtual 164, 3) := by decide +kernel
theorem dX3_countPlaced_21 : decode cX3_countPlaced 21 = .ok (.ifCond .eq 6, 3) := by decide +kernel
theorem dX3_countPlaced_24 : decode cX3_countPlaced 24 = .ok (.iinc 1 1, 3) := by decide +kernel
theorem dX3_countPlaced_27 : decode cX3_countPlaced 27 = .ok (.iinc 2 1, 3) := by decide +kernel
theorem dX3_countPlaced_30 : decode cX3_countPlaced 30 = .ok (.goto (-26), 3) := by decide +kernel
theorem dX3_countPlaced_33 : decode cX3_countPlaced 33 = .ok (.iload_n 1, 1) := by decide +kernel
theorem dX3_countPlaced_34 : decode cX3_countPlaced 34 = .ok (.ireturn, 1) := by decide +kernel
theorem dL_school_0 : decode cL_school 0 = .ok (.aload_n 1, 1) := by decide +kernel
theorem dL_school_1 : decode cL_school 1 = .ok (.iconst 0, 1) := by decide +kernel
theorem dL_school_2 : decode cL_school 2 = .ok (.aload_n 0, 1) := by decide +kernel
theorem dL_school_3 : decode cL_school 3 = .ok (.invokevirtual 7, 3) := by decide +kernel
theorem dL_school_6 : decode cL_school 6 = .ok (.i2l, 1) := by decide +kernel
theorem dL_school_7 : decode cL_school 7 = .ok (.lastore, 1) := by decide +kernel
theorem dL_school_8 : decode cL_school 8 = .ok (.goto 6, 3) := by decide +kernel
theorem dL_school_11 : decode cL_school 11 = .ok (.astore_n 2, 1) := by decide +kernel
theorem dL_school_12 : decode cL_school 12 = .ok (.iconst 1, 1) := by decide +kernel
theorem dL_school_13 : decode cL_school 13 = .ok (.ireturn, 1) := by decide +kernel
theorem dL_school_14 : decode cL_school 14 = .ok (.iconst 0, 1) := by decide +kernel
theorem dL_school_15 : decode cL_school 15 = .ok (.ireturn, 1) := by decide +kernel
theorem dX3_school_0 : decode cX3_school 0 = .ok (.aload_n 0, 1) := by decide +kernel
theorem dX3_school_1 : decode cX3_school 1 = .ok (.getfield 32, 3) := by decide +kernel
theorem dX3_school_4 : decode cX3_school 4 = .ok (.ifCond .ne 12, 3) := by decide +kernel
theorem dX3_school_7 : decode cX3_school 7 = .ok (.aload_n 0, 1) := by decide +kernel
theorem dX3_school_8 : decode cX3_school 8 = .ok (.getfield 36, 3) := by decide +kernel
theorem dX3_school_11 : decode cX3_school 11 = .ok (.bipush 6, 2) := by decide +kernel
theorem dX3_school_13 : decode cX3_school 13 = .ok (.if_icmp .lt 11, 3) := by decide +kernel
theorem dX3_school_16 : decode cX3_school 16 = .ok (.new 40, 3) := by decide +kernel
theorem dX3_school_19 : decode cX3_school 19 = .ok (.dup, 1) := by decide +kernel
theorem dX3_school_20 : decode cX3_school 20 = .ok (.invokespecial 42, 3) := by decide +kernel
theorem dX3_school_23 : decode cX3_school 23 = .ok (.athrow, 1) := by decide +kernel
theorem dX3_school_24 : decode cX3_school 24 = .ok (.aload_n 0, 1) := by decide +kernel
theorem dX3_school_25 : decode cX3_school 25 = .ok (.dup, 1) := by decide +kernel
theorem dX3_school_26 : decode cX3_school 26 = .ok (.getfield 36, 3) := by decide +kernel
theorem dX3_school_29 : decode cX3_school 29 = .ok (.iconst 1, 1) := by decide +kernel
theorem dX3_school_30 : decode cX3_school 30 = .ok (.iadd, 1) := by decide +kernel
theorem dX3_school_31 : decode cX3_school 31 = .ok (.putfield 36, 3) := by decide +kernel
theorem dX3_school_34 : decode cX3_school 34 = .ok (.aload_n 0, 1) := by decide +kernel
theorem dX3_school_35 : decode cX3_school 35 = .ok (.getfield 36, 3) := by decide +kernel
theorem dX3_school_38 : decode cX3_school 38 = .ok (.iconst 1, 1) := by decide +kernel
theorem dX3_school_39 : decode cX3_school 39 = .ok (.isub, 1) := by decide +kernel
theorem dX3_school_40 : decode cX3_school 40 = .ok (.ireturn, 1) := by decide +kernel
theorem dL_kind_0 : decode cL_kind 0 = .ok (.aload 6, 2) := by decide +kernel
theorem dL_kind_2 : decode cL_kind 2 = .ok (.iconst 0, 1) := by decide +kernel
theorem dL_kind_3 : decode cL_kind 3 = .ok (.aload_n 0, 1) := by decide +kernel
theorem dL_kind_4 : decode cL_kind 4 = .ok (.iload_n 1, 1) := by decide +kernel
theorem dL_kind_5 : decode cL_kind 5 = .ok (.iload_n 2, 1) := by decide +kernel
theorem dL_kind_6 : decode cL_kind 6 = .ok (.iload_n 3, 1) := by decide +kernel
theorem dL_kind_7 : decode cL_kind 7 = .ok (.iload 4, 2) := by decide +kernel
theorem dL_kind_9 : decode cL_kind 9 = .ok (.iload 5, 2) := by decide +kernel
theorem dL_kind_11 : decode cL_kind 11 = .ok (.invokevirtual 15, 3) := by decide +kernel
theorem dL_kind_14 : decode cL_kind 14 = .ok (.i2l, 1) := by decide +kernel
theorem dL_kind_15 : decode cL_kind 15 = .ok (.lastore, 1) := by decide +kernel
theorem dL_kind_16 : decode cL_kind 16 = .ok (.goto 11, 3) := by decide +kernel
theorem dL_kind_19 : decode cL_kind 19 = .ok (.astore 7, 2) := by decide +kernel
theorem dL_kind_21 : decode cL_kind 21 = .ok (.iconst 1, 1) := by decide +kernel
theorem dL_kind_22 : decode cL_kind 22 = .ok (.ireturn, 1) := by decide +kernel
theorem dL_kind_23 : decode cL_kind 23 = .ok (.astore 7, 2) := by decide +kernel
theorem dL_kind_25 : decode cL_kind 25 = .ok (.iconst 2, 1) := by decide +kernel
theorem dL_kind_26 : decode cL_kind 26 = .ok (.ireturn, 1) := by decide +kernel
theorem dL_kind_27 : decode cL_kind 27 = .ok (.iconst 0, 1) := by decide +kernel
theorem dL_kind_28 : decode cL_kind 28 = .ok (.ireturn, 1) := by decide +kernel
theorem dX3_kind_0 : decode cX3_kind 0 = .ok (.aload_n 0, 1) := by decide +kernel
theorem dX3_kind_1 : decode cX3_kind 1 = .ok (.iload_n 1, 1) := by decide +kernel
theorem dX3_kind_2 : decode cX3_kind 2 = .ok (.invokevirtual 43, 3) := by decide +kernel
theorem dX3_kind_5 : decode cX3_kind 5 = .ok (.ifCond .eq 13, 3) := by decide +kernel
theorem dX3_kind_8 : decode cX3_kind 8 = .ok (.iload_n 2, 1) := by decide +kernel
theorem dX3_kind_9 : decode cX3_kind 9 = .ok (.ifCond .lt 9, 3) := by decide +kernel
theorem dX3_kind_12 : decode cX3_kind 12 = .ok (.iload_n 2, 1) := by decide +kernel
theorem dX3_kind_13 : decode cX3_kind 13 = .ok (.bipush 6, 2) := by decide +kernel
theorem dX3_kind_15 : decode cX3_kind 15 = .ok (.if_icmp .le 11, 3) := by decide +kernel
theorem dX3_kind_18 : decode cX3_kind 18 = .ok (.new 47, 3) := by decide +kernel
theorem dX3_kind_21 : decode cX3_kind 21 = .ok (.dup, 1) := by decide +kernel
theorem dX3_kind_22 : decode cX3_kind 22 = .ok (.invokespecial 49, 3) := by decide +kernel
theorem dX3_kind_25 : decode cX3_kind 25 = .ok (.athrow, 1) := by decide +kernel
theorem dX3_kind_26 : decode cX3_kind 26 = .ok (.iload_n 3, 1) := by decide +kernel
theorem dX3_kind_27 : decode cX3_kind 27 = .ok (.bipush 15, 2) := by decide +kernel
theorem dX3_kind_29 : decode cX3_kind 29 = .ok (.if_icmp .gt 17, 3) := by decide +kernel
theorem dX3_kind_32 : decode cX3_kind 32 = .ok (.iload 4, 2) := by decide +kernel
theorem dX3_kind_34 : decode cX3_kind 34 = .ok (.bipush 15, 2) := by decide +kernel
theorem dX3_kind_36 : decode cX3_kind 36 = .ok (.if_icmp .gt 10, 3) := by decide +kernel
theorem dX3_kind_39 : decode cX3_kind 39 = .ok (.iload 5, 2) := by decide +kernel
theorem dX3_kind_41 : decode cX3_kind 41 = .ok (.bipush 15, 2) := by decide +kernel
theorem dX3_kind_43 : decode cX3_kind 43 = .ok (.if_icmp .le 11, 3) := by decide +kernel
theorem dX3_kind_46 : decode cX3_kind 46 = .ok (.new 47, 3) := by decide +kernel
theorem dX3_kind_49 : decode cX3_kind 49 = .ok (.dup, 1) := by decide +kernel
theorem dX3_kind_50 : decode cX3_kind 50 = .ok (.invokespecial 49, 3) := by decide +kernel
theorem dX3_kind_53 : decode cX3_kind 53 = .ok (.athrow, 1) := by decide +kernel
theorem dX3_kind_54 : decode cX3_kind 54 = .ok (.aload_n 0, 1) := by decide +kernel
theorem dX3_kind_55 : decode cX3_kind 55 = .ok (.getfield 11, 3) := by decide +kernel
theorem dX3_kind_58 : decode cX3_kind 58 = .ok (.iload_n 1, 1) := by decide +kernel
theorem dX3_kind_59 : decode cX3_kind 59 = .ok (.aaload, 1) := by decide +kernel
theorem dX3_kind_60 : decode cX3_kind 60 = .ok (.astore 6, 2) := by decide +kernel
theorem dX3_kind_62 : decode cX3_kind 62 = .ok (.aload_n 0, 1) := by decide +kernel
theorem dX3_kind_63 : decode cX3_kind 63 = .ok (.getfield 32, 3) := by decide +kernel
theorem dX3_kind_66 : decode cX3_kind 66 = .ok (.ifCond .ne 12, 3) := by decide +kernel
theorem dX3_kind_69 : decode cX3_kind 69 = .ok (.aload 6, 2) := by decide +kernel
theorem dX3_kind_71 : decode cX3_kind 71 = .ok (.getfield 50, 3) := by decide +kernel
theorem dX3_kind_74 : decode cX3_kind 74 = .ok (.iconst 3, 1) := by decide +kernel
theorem dX3_kind_75 : decode cX3_kind 75 = .ok (.if_icmp .lt 11, 3) := by decide +kernel
theorem dX3_kind_78 : decode cX3_kind 78 = .ok (.new 40, 3) := by decide +kernel
theorem dX3_kind_81 : decode cX3_kind 81 = .ok (.dup, 1) := by decide +kernel
theorem dX3_kind_82 : decode cX3_kind 82 = .ok (.invokespecial 42, 3) := by decide +kernel
theorem dX3_kind_85 : decode cX3_kind 85 = .ok (.athrow, 1) := by decide +kernel
theorem dX3_kind_86 : decode cX3_kind 86 = .ok (.aload 6, 2) := by decide +kernel
theorem dX3_kind_88 : decode cX3_kind 88 = .ok (.getfield 53, 3) := by decide +kernel
theorem dX3_kind_91 : decode cX3_kind 91 = .ok (.aload 6, 2) := by decide +kernel
theorem dX3_kind_93 : decode cX3_kind 93 = .ok (.getfield 50, 3) := by decide +kernel
theorem dX3_kind_96 : decode cX3_kind 96 = .ok (.aaload, 1) := by decide +kernel
theorem dX3_kind_97 : decode cX3_kind 97 = .ok (.astore 7, 2) := by decide +kernel
theorem dX3_kind_99 : decode cX3_kind 99 = .ok (.aload 7, 2) := by decide +kernel
theorem dX3_kind_101 : decode cX3_kind 101 = .ok (.iload_n 2, 1) := by decide +kernel
theorem dX3_kind_102 : decode cX3_kind 102 = .ok (.putfield 57, 3) := by decide +kernel
theorem dX3_kind_105 : decode cX3_kind 105 = .ok (.aload 7, 2) := by decide +kernel
theorem dX3_kind_107 : decode cX3_kind 107 = .ok (.iload_n 3, 1) := by decide +kernel
theorem dX3_kind_108 : decode cX3_kind 108 = .ok (.iload 4, 2) := by decide +kernel
theorem dX3_kind_110 : decode cX3_kind 110 = .ok (.iload 5, 2) := by decide +kernel
theorem dX3_kind_112 : decode cX3_kind 112 = .ok (.invokevirtual 62, 3) := by decide +kernel
theorem dX3_kind_115 : decode cX3_kind 115 = .ok (.aload 6, 2) := by decide +kernel
theorem dX3_kind_117 : decode cX3_kind 117 = .ok (.dup, 1) := by decide +kernel
theorem dX3_kind_118 : decode cX3_kind 118 = .ok (.getfield 50, 3) := by decide +kernel
theorem dX3_kind_121 : decode cX3_kind 121 = .ok (.iconst 1, 1) := by decide +kernel
theorem dX3_kind_122 : decode cX3_kind 122 = .ok (.iadd, 1) := by decide +kernel
theorem dX3_kind_123 : decode cX3_kind 123 = .ok (.putfield 50, 3) := by decide +kernel
theorem dX3_kind_126 : decode cX3_kind 126 = .ok (.aload 6, 2) := by decide +kernel
theorem dX3_kind_128 : decode cX3_kind 128 = .ok (.getfield 50, 3) := by decide +kernel
theorem dX3_kind_131 : decode cX3_kind 131 = .ok (.iconst 1, 1) := by decide +kernel
theorem dX3_kind_132 : decode cX3_kind 132 = .ok (.isub, 1) := by decide +kernel
theorem dX3_kind_133 : decode cX3_kind 133 = .ok (.ireturn, 1) := by decide +kernel
theorem dX0_setBands_0 : decode cX0_setBands 0 = .ok (.aload_n 0, 1) := by decide +kernel
theorem dX0_setBands_1 : decode cX0_setBands 1 = .ok (.getfield 9, 3) := by decide +kernel
theorem dX0_setBands_4 : decode cX0_setBands 4 = .ok (.iconst 0, 1) := by decide +kernel
theorem dX0_setBands_5 : decode cX0_setBands 5 = .ok (.iload_n 1, 1) := by decide +kernel
theorem dX0_setBands_6 : decode cX0_setBands 6 = .ok (.iastore, 1) := by decide +kernel
theorem dX0_setBands_7 : decode cX0_setBands 7 = .ok (.aload_n 0, 1) := by decide +kernel
theorem dX0_setBands_8 : decode cX0_setBands 8 = .ok (.getfield 9, 3) := by decide +kernel
theorem dX0_setBands_11 : decode cX0_setBands 11 = .ok (.iconst 1, 1) := by decide +kernel
theorem dX0_setBands_12 : decode cX0_setBands 12 = .ok (.iload_n 2, 1) := by decide +kernel
theorem dX0_setBands_13 : decode cX0_setBands 13 = .ok (.iastore, 1) := by decide +kernel
theorem dX0_setBands_14 : decode cX0_setBands 14 = .ok (.aload_n 0, 1) := by decide +kernel
theorem dX0_setBands_15 : decode cX0_setBands 15 = .ok (.getfield 9, 3) := by decide +kernel
theorem dX0_setBands_18 : decode cX0_setBands 18 = .ok (.iconst 2, 1) := by decide +kernel
theorem dX0_setBands_19 : decode cX0_setBands 19 = .ok (.iload_n 3, 1) := by decide +kernel
theorem dX0_setBands_20 : decode cX0_setBands 20 = .ok (.iastore, 1) := by decide +kernel
theorem dX0_setBands_21 : decode cX0_setBands 21 = .ok (.aload_n 0, 1) := by decide +kernel
theorem dX0_setBands_22 : decode cX0_setBands 22 = .ok (.iconst 0, 1) := by decide +kernel
theorem dX0_setBands_23 : decode cX0_setBands 23 = .ok (.putfield 15, 3) := by decide +kernel
theorem dX0_setBands_26 : decode cX0_setBands 26 = .ok (.aload_n 0, 1) := by decide +kernel
theorem dX0_setBands_27 : decode cX0_setBands 27 = .ok (.getfield 15, 3) := by decide +kernel
theorem dX0_setBands_30 : decode cX0_setBands 30 = .ok (.iconst 3, 1) := by decide +kernel
theorem dX0_setBands_31 : decode cX0_setBands 31 = .ok (.if_icmp .ge 28, 3) := by decide +kernel
theorem dX0_setBands_34 : decode cX0_setBands 34 = .ok (.aload_n 0, 1) := by decide +kernel
theorem dX0_setBands_35 : decode cX0_setBands 35 = .ok (.getfield 9, 3) := by decide +kernel
theorem dX0_setBands_38 : decode cX0_setBands 38 = .ok (.aload_n 0, 1) := by decide +kernel
theorem dX0_setBands_39 : decode cX0_setBands 39 = .ok (.getfield 15, 3) := by decide +kernel
theorem dX0_setBands_42 : decode cX0_setBands 42 = .ok (.iaload, 1) := by decide +kernel
theorem dX0_setBands_43 : decode cX0_setBands 43 = .ok (.ifCond .lt 16, 3) := by decide +kernel
theorem dX0_setBands_46 : decode cX0_setBands 46 = .ok (.aload_n 0, 1) := by decide +kernel
theorem dX0_setBands_47 : decode cX0_setBands 47 = .ok (.dup, 1) := by decide +kernel
theorem dX0_setBands_48 : decode cX0_setBands 48 = .ok (.getfield 15, 3) := by decide +kernel
theorem dX0_setBands_51 : decode cX0_setBands 51 = .ok (.iconst 1, 1) := by decide +kernel
theorem dX0_setBands_52 : decode cX0_setBands 52 = .ok (.iadd, 1) := by decide +kernel
theorem dX0_setBands_53 : decode cX0_setBands 53 = .ok (.putfield 15, 3) := by decide +kernel
theorem dX0_setBands_56 : decode cX0_setBands 56 = .ok (.goto (-30), 3) := by decide +kernel
theorem dX0_setBands_59 : decode cX0_setBands 59 = .ok (.return_, 1) := by decide +kernel
theorem dL_pupil_0 : decode cL_pupil 0 = .ok (.aload_n 3, 1) := by decide +kernel
theorem dL_pupil_1 : decode cL_pupil 1 = .ok (.iconst 0, 1) := by decide +kernel
theorem dL_pupil_2 : decode cL_pupil 2 = .ok (.aload_n 0, 1) := by decide +kernel
theorem dL_pupil_3 : decode cL_pupil 3 = .ok (.iload_n 1, 1) := by decide +kernel
theorem dL_pupil_4 : decode cL_pupil 4 = .ok (.iload_n 2, 1) := by decide +kernel
theorem dL_pupil_5 : decode cL_pupil 5 = .ok (.invokevirtual 21, 3) := by decide +kernel
theorem dL_pupil_8 : decode cL_pupil 8 = .ok (.i2l, 1) := by decide +kernel
theorem dL_pupil_9 : decode cL_pupil 9 = .ok (.lastore, 1) := by decide +kernel
theorem dL_pupil_10 : decode cL_pupil 10 = .ok (.goto 11, 3) := by decide +kernel
theorem dL_pupil_13 : decode cL_pupil 13 = .ok (.astore 4, 2) := by decide +kernel
theorem dL_pupil_15 : decode cL_pupil 15 = .ok (.iconst 1, 1) := by decide +kernel
theorem dL_pupil_16 : decode cL_pupil 16 = .ok (.ireturn, 1) := by decide +kernel
theorem dL_pupil_17 : decode cL_pupil 17 = .ok (.astore 4, 2) := by decide +kernel
theorem dL_pupil_19 : decode cL_pupil 19 = .ok (.iconst 2, 1) := by decide +kernel
theorem dL_pupil_20 : decode cL_pupil 20 = .ok (.ireturn, 1) := by decide +kernel
theorem dL_pupil_21 : decode cL_pupil 21 = .ok (.iconst 0, 1) := by decide +kernel
theorem dL_pupil_22 : decode cL_pupil 22 = .ok (.ireturn, 1) := by decide +kernel
theorem dX3_pupil_0 : decode cX3_pupil 0 = .ok (.iload_n 1, 1) := by decide +kernel
theorem dX3_pupil_1 : decode cX3_pupil 1 = .ok (.invokestatic 66, 3) := by decide +kernel
theorem dX3_pupil_4 : decode cX3_pupil 4 = .ok (.ifCond .ne 11, 3) := by decide +kernel
theorem dX3_pupil_7 : decode cX3_pupil 7 = .ok (.new 47, 3) := by decide +kernel
theorem dX3_pupil_10 : decode cX3_pupil 10 = .ok (.dup, 1) := by decide +kernel
theorem dX3_pupil_11 : decode cX3_pupil 11 = .ok (.invokespecial 49, 3) := by decide +kernel
theorem dX3_pupil_14 : decode cX3_pupil 14 = .ok (.athrow, 1) := by decide +kernel
theorem dX3_pupil_15 : decode cX3_pupil 15 = .ok (.aload_n 0, 1) := by decide +kernel
theorem dX3_pupil_16 : decode cX3_pupil 16 = .ok (.getfield 32, 3) := by decide +kernel
theorem dX3_pupil_19 : decode cX3_pupil 19 = .ok (.ifCond .ne 12, 3) := by decide +kernel
theorem dX3_pupil_22 : decode cX3_pupil 22 = .ok (.aload_n 0, 1) := by decide +kernel
theorem dX3_pupil_23 : decode cX3_pupil 23 = .ok (.getfield 69, 3) := by decide +kernel
theorem dX3_pupil_26 : decode cX3_pupil 26 = .ok (.bipush 20, 2) := by decide +kernel
theorem dX3_pupil_28 : decode cX3_pupil 28 = .ok (.if_icmp .lt 11, 3) := by decide +kernel
theorem dX3_pupil_31 : decode cX3_pupil 31 = .ok (.new 40, 3) := by decide +kernel
theorem dX3_pupil_34 : decode cX3_pupil 34 = .ok (.dup, 1) := by decide +kernel
theorem dX3_pupil_35 : decode cX3_pupil 35 = .ok (.invokespecial 42, 3) := by decide +kernel
theorem dX3_pupil_38 : decode cX3_pupil 38 = .ok (.athrow, 1) := by decide +kernel
theorem dX3_pupil_39 : decode cX3_pupil 39 = .ok (.aload_n 0, 1) := by decide +kernel
theorem dX3_pupil_40 : decode cX3_pupil 40 = .ok (.getfield 18, 3) := by decide +kernel
theorem dX3_pupil_43 : decode cX3_pupil 43 = .ok (.aload_n 0, 1) := by decide +kernel
theorem dX3_pupil_44 : decode cX3_pupil 44 = .ok (.getfield 69, 3) := by decide +kernel
theorem dX3_pupil_47 : decode cX3_pupil 47 = .ok (.aaload, 1) := by decide +kernel
theorem dX3_pupil_48 : decode cX3_pupil 48 = .ok (.astore_n 3, 1) := by decide +kernel
theorem dX3_pupil_49 : decode cX3_pupil 49 = .ok (.aload_n 3, 1) := by decide +kernel
theorem dX3_pupil_50 : decode cX3_pupil 50 = .ok (.iload_n 1, 1) := by decide +kernel
theorem dX3_pupil_51 : decode cX3_pupil 51 = .ok (.putfield 72, 3) := by decide +kernel
theorem dX3_pupil_54 : decode cX3_pupil 54 = .ok (.aload_n 3, 1) := by decide +kernel
theorem dX3_pupil_55 : decode cX3_pupil 55 = .ok (.iload_n 2, 1) := by decide +kernel
theorem dX3_pupil_56 : decode cX3_pupil 56 = .ok (.putfield 75, 3) := by decide +kernel
theorem dX3_pupil_59 : decode cX3_pupil 59 = .ok (.aload_n 0, 1) := by decide +kernel
theorem dX3_pupil_60 : decode cX3_pupil 60 = .ok (.dup, 1) := by decide +kernel
theorem dX3_pupil_61 : decode cX3_pupil 61 = .ok (.getfield 69, 3) := by decide +kernel
theorem dX3_pupil_64 : decode cX3_pupil 64 = .ok (.iconst 1, 1) := by decide +kernel
theorem dX3_pupil_65 : decode cX3_pupil 65 = .ok (.iadd, 1) := by decide +kernel
theorem dX3_pupil_66 : decode cX3_pupil 66 = .ok (.putfield 69, 3) := by decide +kernel
theorem dX3_pupil_69 : decode cX3_pupil 69 = .ok (.aload_n 0, 1) := by decide +kernel
theorem dX3_pupil_70 : decode cX3_pupil 70 = .ok (.getfield 69, 3) := by decide +kernel
theorem dX3_pupil_73 : decode cX3_pupil 73 = .ok (.iconst 1, 1) := by decide +kernel
theorem dX3_pupil_74 : decode cX3_pupil 74 = .ok (.isub, 1) := by decide +kernel
theorem dX3_pupil_75 : decode cX3_pupil 75 = .ok (.ireturn, 1) := by decide +kernel
theorem dL_wish_0 : decode cL_wish 0 = .ok (.aload_n 3, 1) := by decide +kernel
theorem dL_wish_1 : decode cL_wish 1 = .ok (.iconst 0, 1) := by decide +kernel
theorem dL_wish_2 : decode cL_wish 2 = .ok (.aload_n 0, 1) := by decide +kernel
theorem dL_wish_3 : decode cL_wish 3 = .ok (.iload_n 1, 1) := by decide +kernel
theorem dL_wish_4 : decode cL_wish 4 = .ok (.iload_n 2, 1) := by decide +kernel
theorem dL_wish_5 : decode cL_wish 5 = .ok (.invokevirtual 25, 3) := by decide +kernel
theorem dL_wish_8 : decode cL_wish 8 = .ok (.i2l, 1) := by decide +kernel
theorem dL_wish_9 : decode cL_wish 9 = .ok (.lastore, 1) := by decide +kernel
theorem dL_wish_10 : decode cL_wish 10 = .ok (.goto 11, 3) := by decide +kernel
theorem dL_wish_13 : decode cL_wish 13 = .ok (.astore 4, 2) := by decide +kernel
theorem dL_wish_15 : decode cL_wish 15 = .ok (.iconst 1, 1) := by decide +kernel
theorem dL_wish_16 : decode cL_wish 16 = .ok (.ireturn, 1) := by decide +kernel
theorem dL_wish_17 : decode cL_wish 17 = .ok (.astore 4, 2) := by decide +kernel
theorem dL_wish_19 : decode cL_wish 19 = .ok (.iconst 2, 1) := by decide +kernel
theorem dL_wish_20 : decode cL_wish 20 = .ok (.ireturn, 1) := by decide +kernel
theorem dL_wish_21 : decode cL_wish 21 = .ok (.iconst 0, 1) := by decide +kernel
theorem dL_wish_22 : decode cL_wish 22 = .ok (.ireturn, 1) := by decide +kernel
theorem dX3_wish_0 : decode cX3_wish 0 = .ok (.aload_n 0, 1) := by decide +kernel
theorem dX3_wish_1 : decode cX3_wish 1 = .ok (.iload_n 1, 1) := by decide +kernel
theorem dX3_wish_2 : decode cX3_wish 2 = .ok (.invokevirtual 78, 3) := by decide +kernel
theorem dX3_wish_5 : decode cX3_wish 5 = .ok (.ifCond .eq 25, 3) := by decide +kernel
theorem dX3_wish_8 : decode cX3_wish 8 = .ok (.aload_n 0, 1) := by decide +kernel
theorem dX3_wish_9 : decode cX3_wish 9 = .ok (.iload_n 2, 1) := by decide +kernel
theorem dX3_wish_10 : decode cX3_wish 10 = .ok (.invokevirtual 43, 3) := by decide +kernel
theorem dX3_wish_13 : decode cX3_wish 13 = .ok (.ifCond .eq 17, 3) := by decide +kernel
theorem dX3_wish_16 : decode cX3_wish 16 = .ok (.aload_n 0, 1) := by decide +kernel
theorem dX3_wish_17 : decode cX3_wish 17 = .ok (.getfield 18, 3) := by decide +kernel
theorem dX3_wish_20 : decode cX3_wish 20 = .ok (.iload_n 1, 1) := by decide +kernel
theorem dX3_wish_21 : decode cX3_wish 21 = .ok (.aaload, 1) := by decide +kernel
theorem dX3_wish_22 : decode cX3_wish 22 = .ok (.iload_n 2, 1) := by decide +kernel
theorem dX3_wish_23 : decode cX3_wish 23 = .ok (.invokevirtual 81, 3) := by decide +kernel
theorem dX3_wish_26 : decode cX3_wish 26 = .ok (.iconst (-1), 1) := by decide +kernel
theorem dX3_wish_27 : decode cX3_wish 27 = .ok (.if_icmp .eq 11, 3) := by decide +kernel
theorem dX3_wish_30 : decode cX3_wish 30 = .ok (.new 47, 3) := by decide +kernel
theorem dX3_wish_33 : decode cX3_wish 33 = .ok (.dup, 1) := by decide +kernel
theorem dX3_wish_34 : decode cX3_wish 34 = .ok (.invokespecial 49, 3) := by decide +kernel
theorem dX3_wish_37 : decode cX3_wish 37 = .ok (.athrow, 1) := by decide +kernel
theorem dX3_wish_38 : decode cX3_wish 38 = .ok (.aload_n 0, 1) := by decide +kernel
theorem dX3_wish_39 : decode cX3_wish 39 = .ok (.getfield 18, 3) := by decide +kernel
theorem dX3_wish_42 : decode cX3_wish 42 = .ok (.iload_n 1, 1) := by decide +kernel
theorem dX3_wish_43 : decode cX3_wish 43 = .ok (.aaload, 1) := by decide +kernel
theorem dX3_wish_44 : decode cX3_wish 44 = .ok (.astore_n 3, 1) := by decide +kernel
theorem dX3_wish_45 : decode cX3_wish 45 = .ok (.aload_n 0, 1) := by decide +kernel
theorem dX3_wish_46 : decode cX3_wish 46 = .ok (.getfield 32, 3) := by decide +kernel
theorem dX3_wish_49 : decode cX3_wish 49 = .ok (.ifCond .ne 11, 3) := by decide +kernel
theorem dX3_wish_52 : decode cX3_wish 52 = .ok (.aload_n 3, 1) := by decide +kernel
theorem dX3_wish_53 : decode cX3_wish 53 = .ok (.getfield 85, 3) := by decide +kernel
theorem dX3_wish_56 : decode cX3_wish 56 = .ok (.iconst 4, 1) := by decide +kernel
theorem dX3_wish_57 : decode cX3_wish 57 = .ok (.if_icmp .lt 11, 3) := by decide +kernel
theorem dX3_wish_60 : decode cX3_wish 60 = .ok (.new 40, 3) := by decide +kernel
theorem dX3_wish_63 : decode cX3_wish 63 = .ok (.dup, 1) := by decide +kernel
theorem dX3_wish_64 : decode cX3_wish 64 = .ok (.invokespecial 42, 3) := by decide +kernel
theorem dX3_wish_67 : decode cX3_wish 67 = .ok (.athrow, 1) := by decide +kernel
theorem dX3_wish_68 : decode cX3_wish 68 = .ok (.aload_n 3, 1) := by decide +kernel
theorem dX3_wish_69 : decode cX3_wish 69 = .ok (.getfield 88, 3) := by decide +kernel
theorem dX3_wish_72 : decode cX3_wish 72 = .ok (.aload_n 3, 1) := by decide +kernel
theorem dX3_wish_73 : decode cX3_wish 73 = .ok (.getfield 85, 3) := by decide +kernel
theorem dX3_wish_76 : decode cX3_wish 76 = .ok (.iload_n 2, 1) := by decide +kernel
theorem dX3_wish_77 : decode cX3_wish 77 = .ok (.iastore, 1) := by decide +kernel
theorem dX3_wish_78 : decode cX3_wish 78 = .ok (.aload_n 3, 1) := by decide +kernel
theorem dX3_wish_79 : decode cX3_wish 79 = .ok (.dup, 1) := by decide +kernel
theorem dX3_wish_80 : decode cX3_wish 80 = .ok (.getfield 85, 3) := by decide +kernel
theorem dX3_wish_83 : decode cX3_wish 83 = .ok (.iconst 1, 1) := by decide +kernel
theorem dX3_wish_84 : decode cX3_wish 84 = .ok (.iadd, 1) := by decide +kernel
theorem dX3_wish_85 : decode cX3_wish 85 = .ok (.putfield 85, 3) := by decide +kernel
theorem dX3_wish_88 : decode cX3_wish 88 = .ok (.aload_n 3, 1) := by decide +kernel
theorem dX3_wish_89 : decode cX3_wish 89 = .ok (.getfield 85, 3) := by decide +kernel
theorem dX3_wish_92 : decode cX3_wish 92 = .ok (.ireturn, 1) := by decide +kernel
theorem dL_run_0 : decode cL_run 0 = .ok (.aload_n 1, 1) := by decide +kernel
theorem dL_run_1 : decode cL_run 1 = .ok (.iconst 0, 1) := by decide +kernel
theorem dL_run_2 : decode cL_run 2 = .ok (.aload_n 0, 1) := by decide +kernel
theorem dL_run_3 : decode cL_run 3 = .ok (.invokevirtual 29, 3) := by decide +kernel
theorem dL_run_6 : decode cL_run 6 = .ok (.i2l, 1) := by decide +kernel
theorem dL_run_7 : decode cL_run 7 = .ok (.lastore, 1) := by decide +kernel
theorem dL_run_8 : decode cL_run 8 = .ok (.goto 6, 3) := by decide +kernel
theorem dL_run_11 : decode cL_run 11 = .ok (.astore_n 2, 1) := by decide +kernel
theorem dL_run_12 : decode cL_run 12 = .ok (.iconst 1, 1) := by decide +kernel
theorem dL_run_13 : decode cL_run 13 = .ok (.ireturn, 1) := by decide +kernel
theorem dL_run_14 : decode cL_run 14 = .ok (.iconst 0, 1) := by decide +kernel
theorem dL_run_15 : decode cL_run 15 = .ok (.ireturn, 1) := by decide +kernel
theorem dX3_run_0 : decode cX3_run 0 = .ok (.aload_n 0, 1) := by decide +kernel
theorem dX3_run_1 : decode cX3_run 1 = .ok (.getfield 32, 3) := by decide +kernel
theorem dX3_run_4 : decode cX3_run 4 = .ok (.ifCond .eq 11, 3) := by decide +kernel
theorem dX3_run_7 : decode cX3_run 7 = .ok (.new 40, 3) := by decide +kernel
theorem dX3_run_10 : decode cX3_run 10 = .ok (.dup, 1) := by decide +kernel
theorem dX3_run_11 : decode cX3_run 11 = .ok (.invokespecial 42, 3) := by decide +kernel
theorem dX3_run_14 : decode cX3_run 14 = .ok (.athrow, 1) := by decide +kernel
theorem dX3_run_15 : decode cX3_run 15 = .ok (.iconst 0, 1) := by decide +kernel
theorem dX3_run_16 : decode cX3_run 16 = .ok (.istore_n 1, 1) := by decide +kernel
theorem dX3_run_17 : decode cX3_run 17 = .ok (.iload_n 1, 1) := by decide +kernel
theorem dX3_run_18 : decode cX3_run 18 = .ok (.bipush 80, 2) := by decide +kernel
theorem dX3_run_20 : decode cX3_run 20 = .ok (.if_icmp .ge 27, 3) := by decide +kernel
theorem dX3_run_23 : decode cX3_run 23 = .ok (.aload_n 0, 1) := by decide +kernel
theorem dX3_run_24 : decode cX3_run 24 = .ok (.invokevirtual 94, 3) := by decide +kernel
theorem dX3_run_27 : decode cX3_run 27 = .ok (.istore_n 2, 1) := by decide +kernel
theorem dX3_run_28 : decode cX3_run 28 = .ok (.iload_n 2, 1) := by decide +kernel
theorem dX3_run_29 : decode cX3_run 29 = .ok (.iconst (-1), 1) := by decide +kernel
theorem dX3_run_30 : decode cX3_run 30 = .ok (.if_icmp .ne 6, 3) := by decide +kernel
theorem dX3_run_33 : decode cX3_run 33 = .ok (.goto 14, 3) := by decide +kernel
theorem dX3_run_36 : decode cX3_run 36 = .ok (.aload_n 0, 1) := by decide +kernel
theorem dX3_run_37 : decode cX3_run 37 = .ok (.iload_n 2, 1) := by decide +kernel
theorem dX3_run_38 : decode cX3_run 38 = .ok (.invokevirtual 98, 3) := by decide +kernel
theorem dX3_run_41 : decode cX3_run 41 = .ok (.iinc 1 1, 3) := by decide +kernel
theorem dX3_run_44 : decode cX3_run 44 = .ok (.goto (-27), 3) := by decide +kernel
theorem dX3_run_47 : decode cX3_run 47 = .ok (.aload_n 0, 1) := by decide +kernel
theorem dX3_run_48 : decode cX3_run 48 = .ok (.iconst 1, 1) := by decide +kernel
theorem dX3_run_49 : decode cX3_run 49 = .ok (.putfield 32, 3) := by decide +kernel
theorem dX3_run_52 : decode cX3_run 52 = .ok (.aload_n 0, 1) := by decide +kernel
theorem dX3_run_53 : decode cX3_run 53 = .ok (.invokevirtual 101, 3) := by decide +kernel
theorem dX3_run_56 : decode cX3_run 56 = .ok (.ireturn, 1) := by decide +kernel
theorem dX3_nextAsker_0 : decode cX3_nextAsker 0 = .ok (.iconst 0, 1) := by decide +kernel
theorem dX3_nextAsker_1 : decode cX3_nextAsker 1 = .ok (.istore_n 1, 1) := by decide +kernel
theorem dX3_nextAsker_2 : decode cX3_nextAsker 2 = .ok (.iload_n 1, 1) := by decide +kernel
theorem dX3_nextAsker_3 : decode cX3_nextAsker 3 = .ok (.aload_n 0, 1) := by decide +kernel
theorem dX3_nextAsker_4 : decode cX3_nextAsker 4 = .ok (.getfield 69, 3) := by decide +kernel
theorem dX3_nextAsker_7 : decode cX3_nextAsker 7 = .ok (.if_icmp .ge 44, 3) := by decide +kernel
theorem dX3_nextAsker_10 : decode cX3_nextAsker 10 = .ok (.aload_n 0, 1) := by decide +kernel
theorem dX3_nextAsker_11 : decode cX3_nextAsker 11 = .ok (.getfield 18, 3) := by decide +kernel
theorem dX3_nextAsker_14 : decode cX3_nextAsker 14 = .ok (.iload_n 1, 1) := by decide +kernel
theorem dX3_nextAsker_15 : decode cX3_nextAsker 15 = .ok (.aaload, 1) := by decide +kernel
theorem dX3_nextAsker_16 : decode cX3_nextAsker 16 = .ok (.invokevirtual 164, 3) := by decide +kernel
theorem dX3_nextAsker_19 : decode cX3_nextAsker 19 = .ok (.ifCond .ne 26, 3) := by decide +kernel
theorem dX3_nextAsker_22 : decode cX3_nextAsker 22 = .ok (.aload_n 0, 1) := by decide +kernel
theorem dX3_nextAsker_23 : decode cX3_nextAsker 23 = .ok (.getfield 18, 3) := by decide +kernel
theorem dX3_nextAsker_26 : decode cX3_nextAsker 26 = .ok (.iload_n 1, 1) := by decide +kernel
theorem dX3_nextAsker_27 : decode cX3_nextAsker 27 = .ok (.aaload, 1) := by decide +kernel
theorem dX3_nextAsker_28 : decode cX3_nextAsker 28 = .ok (.getfield 133, 3) := by decide +kernel
theorem dX3_nextAsker_31 : decode cX3_nextAsker 31 = .ok (.aload_n 0, 1) := by decide +kernel
theorem dX3_nextAsker_32 : decode cX3_nextAsker 32 = .ok (.getfield 18, 3) := by decide +kernel
theorem dX3_nextAsker_35 : decode cX3_nextAsker 35 = .ok (.iload_n 1, 1) := by decide +kernel
theorem dX3_nextAsker_36 : decode cX3_nextAsker 36 = .ok (.aaload, 1) := by decide +kernel
theorem dX3_nextAsker_37 : decode cX3_nextAsker 37 = .ok (.getfield 85, 3) := by decide +kernel
theorem dX3_nextAsker_40 : decode cX3_nextAsker 40 = .ok (.if_icmp .ge 5, 3) := by decide +kernel
theorem dX3_nextAsker_43 : decode cX3_nextAsker 43 = .ok (.iload_n 1, 1) := by decide +kernel
theorem dX3_nextAsker_44 : decode cX3_nextAsker 44 = .ok (.ireturn, 1) := by decide +kernel
theorem dX3_nextAsker_45 : decode cX3_nextAsker 45 = .ok (.iinc 1 1, 3) := by decide +kernel
theorem dX3_nextAsker_48 : decode cX3_nextAsker 48 = .ok (.goto (-46), 3) := by decide +kernel
theorem dX3_nextAsker_51 : decode cX3_nextAsker 51 = .ok (.iconst (-1), 1) := by decide +kernel
theorem dX3_nextAsker_52 : decode cX3_nextAsker 52 = .ok (.ireturn, 1) := by decide +kernel
theorem dX3_askNext_0 : decode cX3_askNext 0 = .ok (.aload_n 0, 1) := by decide +kernel
theorem dX3_askNext_1 : decode cX3_askNext 1 = .ok (.getfield 18, 3) := by decide +kernel
theorem dX3_askNext_4 : decode cX3_askNext 4 = .ok (.iload_n 1, 1) := by decide +kernel
theorem dX3_askNext_5 : decode cX3_askNext 5 = .ok (.aaload, 1) := by decide +kernel
theorem dX3_askNext_6 : decode cX3_askNext 6 = .ok (.astore_n 2, 1) := by decide +kernel
theorem dX3_askNext_7 : decode cX3_askNext 7 = .ok (.aload_n 2, 1) := by decide +kernel
theorem dX3_askNext_8 : decode cX3_askNext 8 = .ok (.getfield 88, 3) := by decide +kernel
theorem dX3_askNext_11 : decode cX3_askNext 11 = .ok (.aload_n 2, 1) := by decide +kernel
theorem dX3_askNext_12 : decode cX3_askNext 12 = .ok (.getfield 133, 3) := by decide +kernel
theorem dX3_askNext_15 : decode cX3_askNext 15 = .ok (.iaload, 1) := by decide +kernel
theorem dX3_askNext_16 : decode cX3_askNext 16 = .ok (.istore_n 3, 1) := by decide +kernel
theorem dX3_askNext_17 : decode cX3_askNext 17 = .ok (.aload_n 2, 1) := by decide +kernel
theorem dX3_askNext_18 : decode cX3_askNext 18 = .ok (.dup, 1) := by decide +kernel
theorem dX3_askNext_19 : decode cX3_askNext 19 = .ok (.getfield 133, 3) := by decide +kernel
theorem dX3_askNext_22 : decode cX3_askNext 22 = .ok (.iconst 1, 1) := by decide +kernel
theorem dX3_askNext_23 : decode cX3_askNext 23 = .ok (.iadd, 1) := by decide +kernel
theorem dX3_askNext_24 : decode cX3_askNext 24 = .ok (.putfield 133, 3) := by decide +kernel
theorem dX3_askNext_27 : decode cX3_askNext 27 = .ok (.aload_n 0, 1) := by decide +kernel
theorem dX3_askNext_28 : decode cX3_askNext 28 = .ok (.iload_n 3, 1) := by decide +kernel
theorem dX3_askNext_29 : decode cX3_askNext 29 = .ok (.iload_n 1, 1) := by decide +kernel
theorem dX3_askNext_30 : decode cX3_askNext 30 = .ok (.invokevirtual 173, 3) := by decide +kernel
theorem dX3_askNext_33 : decode cX3_askNext 33 = .ok (.iconst 0, 1) := by decide +kernel
theorem dX3_askNext_34 : decode cX3_askNext 34 = .ok (.istore 4, 2) := by decide +kernel
theorem dX3_askNext_36 : decode cX3_askNext 36 = .ok (.iload 4, 2) := by decide +kernel
theorem dX3_askNext_38 : decode cX3_askNext 38 = .ok (.aload_n 0, 1) := by decide +kernel
theorem dX3_askNext_39 : decode cX3_askNext 39 = .ok (.getfield 176, 3) := by decide +kernel
theorem dX3_askNext_42 : decode cX3_askNext 42 = .ok (.if_icmp .ge 24, 3) := by decide +kernel
theorem dX3_askNext_45 : decode cX3_askNext 45 = .ok (.aload_n 0, 1) := by decide +kernel
theorem dX3_askNext_46 : decode cX3_askNext 46 = .ok (.getfield 18, 3) := by decide +kernel
theorem dX3_askNext_49 : decode cX3_askNext 49 = .ok (.aload_n 0, 1) := by decide +kernel
theorem dX3_askNext_50 : decode cX3_askNext 50 = .ok (.getfield 25, 3) := by decide +kernel
theorem dX3_askNext_53 : decode cX3_askNext 53 = .ok (.iload 4, 2) := by decide +kernel
theorem dX3_askNext_55 : decode cX3_askNext 55 = .ok (.iaload, 1) := by decide +kernel
theorem dX3_askNext_56 : decode cX3_askNext 56 = .ok (.aaload, 1) := by decide +kernel
theorem dX3_askNext_57 : decode cX3_askNext 57 = .ok (.invokevirtual 179, 3) := by decide +kernel
theorem dX3_askNext_60 : decode cX3_askNext 60 = .ok (.iinc 4 1, 3) := by decide +kernel
theorem dX3_askNext_63 : decode cX3_askNext 63 = .ok (.goto (-27), 3) := by decide +kernel
theorem dX3_askNext_66 : decode cX3_askNext 66 = .ok (.iconst 0, 1) := by decide +kernel
theorem dX3_askNext_67 : decode cX3_askNext 67 = .ok (.istore 4, 2) := by decide +kernel
theorem dX3_askNext_69 : decode cX3_askNext 69 = .ok (.iload 4, 2) := by decide +kernel
theorem dX3_askNext_71 : decode cX3_askNext 71 = .ok (.aload_n 0, 1) := by decide +kernel
theorem dX3_askNext_72 : decode cX3_askNext 72 = .ok (.getfield 69, 3) := by decide +kernel
theorem dX3_askNext_75 : decode cX3_askNext 75 = .ok (.if_icmp .ge 38, 3) := by decide +kernel
theorem dX3_askNext_78 : decode cX3_askNext 78 = .ok (.aload_n 0, 1) := by decide +kernel
theorem dX3_askNext_79 : decode cX3_askNext 79 = .ok (.getfield 29, 3) := by decide +kernel
theorem dX3_askNext_82 : decode cX3_askNext 82 = .ok (.iload 4, 2) := by decide +kernel
theorem dX3_askNext_84 : decode cX3_askNext 84 = .ok (.iaload, 1) := by decide +kernel
theorem dX3_askNext_85 : decode cX3_askNext 85 = .ok (.iconst (-1), 1) := by decide +kernel
theorem dX3_askNext_86 : decode cX3_askNext 86 = .ok (.if_icmp .eq 21, 3) := by decide +kernel
theorem dX3_askNext_89 : decode cX3_askNext 89 = .ok (.aload_n 0, 1) := by decide +kernel
theorem dX3_askNext_90 : decode cX3_askNext 90 = .ok (.getfield 18, 3) := by decide +kernel
theorem dX3_askNext_93 : decode cX3_askNext 93 = .ok (.iload 4, 2) := by decide +kernel
theorem dX3_askNext_95 : decode cX3_askNext 95 = .ok (.aaload, 1) := by decide +kernel
theorem dX3_askNext_96 : decode cX3_askNext 96 = .ok (.iload_n 3, 1) := by decide +kernel
theorem dX3_askNext_97 : decode cX3_askNext 97 = .ok (.aload_n 0, 1) := by decide +kernel
theorem dX3_askNext_98 : decode cX3_askNext 98 = .ok (.getfield 29, 3) := by decide +kernel
theorem dX3_askNext_101 : decode cX3_askNext 101 = .ok (.iload 4, 2) := by decide +kernel
theorem dX3_askNext_103 : decode cX3_askNext 103 = .ok (.iaload, 1) := by decide +kernel
theorem dX3_askNext_104 : decode cX3_askNext 104 = .ok (.invokevirtual 126, 3) := by decide +kernel
theorem dX3_askNext_107 : decode cX3_askNext 107 = .ok (.iinc 4 1, 3) := by decide +kernel
theorem dX3_askNext_110 : decode cX3_askNext 110 = .ok (.goto (-41), 3) := by decide +kernel
theorem dX3_askNext_113 : decode cX3_askNext 113 = .ok (.return_, 1) := by decide +kernel
theorem dL_chain_0 : decode cL_chain 0 = .ok (.aload_n 1, 1) := by decide +kernel
theorem dL_chain_1 : decode cL_chain 1 = .ok (.iconst 0, 1) := by decide +kernel
theorem dL_chain_2 : decode cL_chain 2 = .ok (.aload_n 0, 1) := by decide +kernel
theorem dL_chain_3 : decode cL_chain 3 = .ok (.invokevirtual 32, 3) := by decide +kernel
theorem dL_chain_6 : decode cL_chain 6 = .ok (.i2l, 1) := by decide +kernel
theorem dL_chain_7 : decode cL_chain 7 = .ok (.lastore, 1) := by decide +kernel
theorem dL_chain_8 : decode cL_chain 8 = .ok (.goto 6, 3) := by decide +kernel
theorem dL_chain_11 : decode cL_chain 11 = .ok (.astore_n 2, 1) := by decide +kernel
theorem dL_chain_12 : decode cL_chain 12 = .ok (.iconst 1, 1) := by decide +kernel
theorem dL_chain_13 : decode cL_chain 13 = .ok (.ireturn, 1) := by decide +kernel
theorem dL_chain_14 : decode cL_chain 14 = .ok (.iconst 0, 1) := by decide +kernel
theorem dL_chain_15 : decode cL_chain 15 = .ok (.ireturn, 1) := by decide +kernel
theorem dX3_chain_0 : decode cX3_chain 0 = .ok (.aload_n 0, 1) := by decide +kernel
theorem dX3_chain_1 : decode cX3_chain 1 = .ok (.getfield 32, 3) := by decide +kernel
theorem dX3_chain_4 : decode cX3_chain 4 = .ok (.ifCond .ne 11, 3) := by decide +kernel
theorem dX3_chain_7 : decode cX3_chain 7 = .ok (.new 40, 3) := by decide +kernel
theorem dX3_chain_10 : decode cX3_chain 10 = .ok (.dup, 1) := by decide +kernel
theorem dX3_chain_11 : decode cX3_chain 11 = .ok (.invokespecial 42, 3) := by decide +kernel
theorem dX3_chain_14 : decode cX3_chain 14 = .ok (.athrow, 1) := by decide +kernel
theorem dX3_chain_15 : decode cX3_chain 15 = .ok (.iconst 0, 1) := by decide +kernel
theorem dX3_chain_16 : decode cX3_chain 16 = .ok (.istore_n 1, 1) := by decide +kernel
theorem dX3_chain_17 : decode cX3_chain 17 = .ok (.iload_n 1, 1) := by decide +kernel
theorem dX3_chain_18 : decode cX3_chain 18 = .ok (.bipush 80, 2) := by decide +kernel
theorem dX3_chain_20 : decode cX3_chain 20 = .ok (.if_icmp .ge 16, 3) := by decide +kernel
theorem dX3_chain_23 : decode cX3_chain 23 = .ok (.aload_n 0, 1) := by decide +kernel
theorem dX3_chain_24 : decode cX3_chain 24 = .ok (.invokevirtual 120, 3) := by decide +kernel
theorem dX3_chain_27 : decode cX3_chain 27 = .ok (.ifCond .eq 9, 3) := by decide +kernel
theorem dX3_chain_30 : decode cX3_chain 30 = .ok (.iinc 1 1, 3) := by decide +kernel
theorem dX3_chain_33 : decode cX3_chain 33 = .ok (.goto (-16), 3) := by decide +kernel
theorem dX3_chain_36 : decode cX3_chain 36 = .ok (.iload_n 1, 1) := by decide +kernel
theorem dX3_chain_37 : decode cX3_chain 37 = .ok (.ireturn, 1) := by decide +kernel
theorem dX3_moveOne_0 : decode cX3_moveOne 0 = .ok (.iconst 0, 1) := by decide +kernel
theorem dX3_moveOne_1 : decode cX3_moveOne 1 = .ok (.istore_n 1, 1) := by decide +kernel
theorem dX3_moveOne_2 : decode cX3_moveOne 2 = .ok (.iload_n 1, 1) := by decide +kernel
theorem dX3_moveOne_3 : decode cX3_moveOne 3 = .ok (.aload_n 0, 1) := by decide +kernel
theorem dX3_moveOne_4 : decode cX3_moveOne 4 = .ok (.getfield 36, 3) := by decide +kernel
theorem dX3_moveOne_7 : decode cX3_moveOne 7 = .ok (.if_icmp .ge 78, 3) := by decide +kernel
theorem dX3_moveOne_10 : decode cX3_moveOne 10 = .ok (.iconst 0, 1) := by decide +kernel
theorem dX3_moveOne_11 : decode cX3_moveOne 11 = .ok (.istore_n 2, 1) := by decide +kernel
theorem dX3_moveOne_12 : decode cX3_moveOne 12 = .ok (.iload_n 2, 1) := by decide +kernel
theorem dX3_moveOne_13 : decode cX3_moveOne 13 = .ok (.aload_n 0, 1) := by decide +kernel
theorem dX3_moveOne_14 : decode cX3_moveOne 14 = .ok (.getfield 11, 3) := by decide +kernel
theorem dX3_moveOne_17 : decode cX3_moveOne 17 = .ok (.iload_n 1, 1) := by decide +kernel
theorem dX3_moveOne_18 : decode cX3_moveOne 18 = .ok (.aaload, 1) := by decide +kernel
theorem dX3_moveOne_19 : decode cX3_moveOne 19 = .ok (.getfield 50, 3) := by decide +kernel
theorem dX3_moveOne_22 : decode cX3_moveOne 22 = .ok (.if_icmp .ge 57, 3) := by decide +kernel
theorem dX3_moveOne_25 : decode cX3_moveOne 25 = .ok (.aload_n 0, 1) := by decide +kernel
