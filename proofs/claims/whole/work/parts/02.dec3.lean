theorem dX7_assist_0 : decode cX7_assist 0 = .ok (.aload_n 0, 1) := by decide +kernel
theorem dX7_assist_1 : decode cX7_assist 1 = .ok (.iload_n 1, 1) := by decide +kernel
theorem dX7_assist_2 : decode cX7_assist 2 = .ok (.iload_n 2, 1) := by decide +kernel
theorem dX7_assist_3 : decode cX7_assist 3 = .ok (.invokevirtual 71, 3) := by decide +kernel
theorem dX7_assist_6 : decode cX7_assist 6 = .ok (.ifCond .ne 5, 3) := by decide +kernel
theorem dX7_assist_9 : decode cX7_assist 9 = .ok (.iconst (-1), 1) := by decide +kernel
theorem dX7_assist_10 : decode cX7_assist 10 = .ok (.ireturn, 1) := by decide +kernel
theorem dX7_assist_11 : decode cX7_assist 11 = .ok (.aload_n 0, 1) := by decide +kernel
theorem dX7_assist_12 : decode cX7_assist 12 = .ok (.iload_n 1, 1) := by decide +kernel
theorem dX7_assist_13 : decode cX7_assist 13 = .ok (.iload_n 2, 1) := by decide +kernel
theorem dX7_assist_14 : decode cX7_assist 14 = .ok (.iconst 3, 1) := by decide +kernel
theorem dX7_assist_15 : decode cX7_assist 15 = .ok (.invokevirtual 55, 3) := by decide +kernel
theorem dX7_assist_18 : decode cX7_assist 18 = .ok (.ifCond .eq 22, 3) := by decide +kernel
theorem dX7_assist_21 : decode cX7_assist 21 = .ok (.aload_n 0, 1) := by decide +kernel
theorem dX7_assist_22 : decode cX7_assist 22 = .ok (.iload_n 1, 1) := by decide +kernel
theorem dX7_assist_23 : decode cX7_assist 23 = .ok (.iload_n 2, 1) := by decide +kernel
theorem dX7_assist_24 : decode cX7_assist 24 = .ok (.invokevirtual 129, 3) := by decide +kernel
theorem dX7_assist_27 : decode cX7_assist 27 = .ok (.ifCond .ne 13, 3) := by decide +kernel
theorem dX7_assist_30 : decode cX7_assist 30 = .ok (.aload_n 0, 1) := by decide +kernel
theorem dX7_assist_31 : decode cX7_assist 31 = .ok (.iload_n 1, 1) := by decide +kernel
theorem dX7_assist_32 : decode cX7_assist 32 = .ok (.iload_n 2, 1) := by decide +kernel
theorem dX7_assist_33 : decode cX7_assist 33 = .ok (.iconst 4, 1) := by decide +kernel
theorem dX7_assist_34 : decode cX7_assist 34 = .ok (.invokevirtual 55, 3) := by decide +kernel
theorem dX7_assist_37 : decode cX7_assist 37 = .ok (.ifCond .le 6, 3) := by decide +kernel
theorem dX7_assist_40 : decode cX7_assist 40 = .ok (.bipush (-5), 2) := by decide +kernel
theorem dX7_assist_42 : decode cX7_assist 42 = .ok (.ireturn, 1) := by decide +kernel
theorem dX7_assist_43 : decode cX7_assist 43 = .ok (.aload_n 0, 1) := by decide +kernel
theorem dX7_assist_44 : decode cX7_assist 44 = .ok (.getfield 7, 3) := by decide +kernel
theorem dX7_assist_47 : decode cX7_assist 47 = .ok (.iload_n 1, 1) := by decide +kernel
theorem dX7_assist_48 : decode cX7_assist 48 = .ok (.iload_n 2, 1) := by decide +kernel
theorem dX7_assist_49 : decode cX7_assist 49 = .ok (.iconst 4, 1) := by decide +kernel
theorem dX7_assist_50 : decode cX7_assist 50 = .ok (.invokestatic 51, 3) := by decide +kernel
theorem dX7_assist_53 : decode cX7_assist 53 = .ok (.iconst 2, 1) := by decide +kernel
theorem dX7_assist_54 : decode cX7_assist 54 = .ok (.aload_n 0, 1) := by decide +kernel
theorem dX7_assist_55 : decode cX7_assist 55 = .ok (.getfield 7, 3) := by decide +kernel
theorem dX7_assist_58 : decode cX7_assist 58 = .ok (.iconst 3, 1) := by decide +kernel
theorem dX7_assist_59 : decode cX7_assist 59 = .ok (.iload_n 1, 1) := by decide +kernel
theorem dX7_assist_60 : decode cX7_assist 60 = .ok (.iadd, 1) := by decide +kernel
theorem dX7_assist_61 : decode cX7_assist 61 = .ok (.iaload, 1) := by decide +kernel
theorem dX7_assist_62 : decode cX7_assist 62 = .ok (.imul, 1) := by decide +kernel
theorem dX7_assist_63 : decode cX7_assist 63 = .ok (.iastore, 1) := by decide +kernel
theorem dX7_assist_64 : decode cX7_assist 64 = .ok (.aload_n 0, 1) := by decide +kernel
theorem dX7_assist_65 : decode cX7_assist 65 = .ok (.iload_n 1, 1) := by decide +kernel
theorem dX7_assist_66 : decode cX7_assist 66 = .ok (.iload_n 2, 1) := by decide +kernel
theorem dX7_assist_67 : decode cX7_assist 67 = .ok (.iload_n 1, 1) := by decide +kernel
theorem dX7_assist_68 : decode cX7_assist 68 = .ok (.iload_n 2, 1) := by decide +kernel
theorem dX7_assist_69 : decode cX7_assist 69 = .ok (.invokestatic 107, 3) := by decide +kernel
theorem dX7_assist_72 : decode cX7_assist 72 = .ok (.bipush 22, 2) := by decide +kernel
theorem dX7_assist_74 : decode cX7_assist 74 = .ok (.invokevirtual 113, 3) := by decide +kernel
theorem dX7_assist_77 : decode cX7_assist 77 = .ok (.pop, 1) := by decide +kernel
theorem dX7_assist_78 : decode cX7_assist 78 = .ok (.aload_n 0, 1) := by decide +kernel
theorem dX7_assist_79 : decode cX7_assist 79 = .ok (.iload_n 1, 1) := by decide +kernel
theorem dX7_assist_80 : decode cX7_assist 80 = .ok (.iload_n 2, 1) := by decide +kernel
theorem dX7_assist_81 : decode cX7_assist 81 = .ok (.iconst 4, 1) := by decide +kernel
theorem dX7_assist_82 : decode cX7_assist 82 = .ok (.invokevirtual 55, 3) := by decide +kernel
theorem dX7_assist_85 : decode cX7_assist 85 = .ok (.ireturn, 1) := by decide +kernel
theorem dX7_obstruct_0 : decode cX7_obstruct 0 = .ok (.aload_n 0, 1) := by decide +kernel
theorem dX7_obstruct_1 : decode cX7_obstruct 1 = .ok (.iload_n 1, 1) := by decide +kernel
theorem dX7_obstruct_2 : decode cX7_obstruct 2 = .ok (.iload_n 2, 1) := by decide +kernel
theorem dX7_obstruct_3 : decode cX7_obstruct 3 = .ok (.invokevirtual 71, 3) := by decide +kernel
theorem dX7_obstruct_6 : decode cX7_obstruct 6 = .ok (.ifCond .ne 5, 3) := by decide +kernel
theorem dX7_obstruct_9 : decode cX7_obstruct 9 = .ok (.iconst (-1), 1) := by decide +kernel
theorem dX7_obstruct_10 : decode cX7_obstruct 10 = .ok (.ireturn, 1) := by decide +kernel
theorem dX7_obstruct_11 : decode cX7_obstruct 11 = .ok (.aload_n 0, 1) := by decide +kernel
theorem dX7_obstruct_12 : decode cX7_obstruct 12 = .ok (.iload_n 1, 1) := by decide +kernel
theorem dX7_obstruct_13 : decode cX7_obstruct 13 = .ok (.iload_n 2, 1) := by decide +kernel
theorem dX7_obstruct_14 : decode cX7_obstruct 14 = .ok (.iconst 0, 1) := by decide +kernel
theorem dX7_obstruct_15 : decode cX7_obstruct 15 = .ok (.invokevirtual 55, 3) := by decide +kernel
theorem dX7_obstruct_18 : decode cX7_obstruct 18 = .ok (.istore_n 3, 1) := by decide +kernel
theorem dX7_obstruct_19 : decode cX7_obstruct 19 = .ok (.iload_n 3, 1) := by decide +kernel
theorem dX7_obstruct_20 : decode cX7_obstruct 20 = .ok (.iconst 1, 1) := by decide +kernel
theorem dX7_obstruct_21 : decode cX7_obstruct 21 = .ok (.if_icmp .le 6, 3) := by decide +kernel
theorem dX7_obstruct_24 : decode cX7_obstruct 24 = .ok (.bipush (-5), 2) := by decide +kernel
theorem dX7_obstruct_26 : decode cX7_obstruct 26 = .ok (.ireturn, 1) := by decide +kernel
theorem dX7_obstruct_27 : decode cX7_obstruct 27 = .ok (.aload_n 0, 1) := by decide +kernel
theorem dX7_obstruct_28 : decode cX7_obstruct 28 = .ok (.iload_n 1, 1) := by decide +kernel
theorem dX7_obstruct_29 : decode cX7_obstruct 29 = .ok (.iload_n 2, 1) := by decide +kernel
theorem dX7_obstruct_30 : decode cX7_obstruct 30 = .ok (.invokevirtual 126, 3) := by decide +kernel
theorem dX7_obstruct_33 : decode cX7_obstruct 33 = .ok (.aload_n 0, 1) := by decide +kernel
theorem dX7_obstruct_34 : decode cX7_obstruct 34 = .ok (.getfield 7, 3) := by decide +kernel
theorem dX7_obstruct_37 : decode cX7_obstruct 37 = .ok (.iload_n 1, 1) := by decide +kernel
theorem dX7_obstruct_38 : decode cX7_obstruct 38 = .ok (.iload_n 2, 1) := by decide +kernel
theorem dX7_obstruct_39 : decode cX7_obstruct 39 = .ok (.iconst 1, 1) := by decide +kernel
theorem dX7_obstruct_40 : decode cX7_obstruct 40 = .ok (.invokestatic 51, 3) := by decide +kernel
theorem dX7_obstruct_43 : decode cX7_obstruct 43 = .ok (.bipush (-6), 2) := by decide +kernel
theorem dX7_obstruct_45 : decode cX7_obstruct 45 = .ok (.iastore, 1) := by decide +kernel
theorem dX7_obstruct_46 : decode cX7_obstruct 46 = .ok (.aload_n 0, 1) := by decide +kernel
theorem dX7_obstruct_47 : decode cX7_obstruct 47 = .ok (.getfield 7, 3) := by decide +kernel
theorem dX7_obstruct_50 : decode cX7_obstruct 50 = .ok (.iload_n 1, 1) := by decide +kernel
theorem dX7_obstruct_51 : decode cX7_obstruct 51 = .ok (.iload_n 2, 1) := by decide +kernel
theorem dX7_obstruct_52 : decode cX7_obstruct 52 = .ok (.iconst 0, 1) := by decide +kernel
theorem dX7_obstruct_53 : decode cX7_obstruct 53 = .ok (.invokestatic 51, 3) := by decide +kernel
theorem dX7_obstruct_56 : decode cX7_obstruct 56 = .ok (.iconst 3, 1) := by decide +kernel
theorem dX7_obstruct_57 : decode cX7_obstruct 57 = .ok (.iastore, 1) := by decide +kernel
theorem dX7_obstruct_58 : decode cX7_obstruct 58 = .ok (.aload_n 0, 1) := by decide +kernel
theorem dX7_obstruct_59 : decode cX7_obstruct 59 = .ok (.iload_n 1, 1) := by decide +kernel
theorem dX7_obstruct_60 : decode cX7_obstruct 60 = .ok (.iload_n 2, 1) := by decide +kernel
theorem dX7_obstruct_61 : decode cX7_obstruct 61 = .ok (.iload_n 1, 1) := by decide +kernel
theorem dX7_obstruct_62 : decode cX7_obstruct 62 = .ok (.iload_n 2, 1) := by decide +kernel
theorem dX7_obstruct_63 : decode cX7_obstruct 63 = .ok (.invokestatic 120, 3) := by decide +kernel
theorem dX7_obstruct_66 : decode cX7_obstruct 66 = .ok (.bipush 6, 2) := by decide +kernel
theorem dX7_obstruct_68 : decode cX7_obstruct 68 = .ok (.invokevirtual 113, 3) := by decide +kernel
theorem dX7_obstruct_71 : decode cX7_obstruct 71 = .ok (.pop, 1) := by decide +kernel
theorem dX7_obstruct_72 : decode cX7_obstruct 72 = .ok (.iload_n 3, 1) := by decide +kernel
theorem dX7_obstruct_73 : decode cX7_obstruct 73 = .ok (.ireturn, 1) := by decide +kernel
theorem dX7_lift_0 : decode cX7_lift 0 = .ok (.aload_n 0, 1) := by decide +kernel
theorem dX7_lift_1 : decode cX7_lift 1 = .ok (.iload_n 1, 1) := by decide +kernel
theorem dX7_lift_2 : decode cX7_lift 2 = .ok (.iload_n 2, 1) := by decide +kernel
theorem dX7_lift_3 : decode cX7_lift 3 = .ok (.invokevirtual 71, 3) := by decide +kernel
theorem dX7_lift_6 : decode cX7_lift 6 = .ok (.ifCond .ne 5, 3) := by decide +kernel
theorem dX7_lift_9 : decode cX7_lift 9 = .ok (.iconst (-1), 1) := by decide +kernel
theorem dX7_lift_10 : decode cX7_lift 10 = .ok (.ireturn, 1) := by decide +kernel
theorem dX7_lift_11 : decode cX7_lift 11 = .ok (.aload_n 0, 1) := by decide +kernel
theorem dX7_lift_12 : decode cX7_lift 12 = .ok (.iload_n 1, 1) := by decide +kernel
theorem dX7_lift_13 : decode cX7_lift 13 = .ok (.iload_n 2, 1) := by decide +kernel
theorem dX7_lift_14 : decode cX7_lift 14 = .ok (.iconst 0, 1) := by decide +kernel
theorem dX7_lift_15 : decode cX7_lift 15 = .ok (.invokevirtual 55, 3) := by decide +kernel
theorem dX7_lift_18 : decode cX7_lift 18 = .ok (.iconst 3, 1) := by decide +kernel
theorem dX7_lift_19 : decode cX7_lift 19 = .ok (.if_icmp .eq 6, 3) := by decide +kernel
theorem dX7_lift_22 : decode cX7_lift 22 = .ok (.bipush (-5), 2) := by decide +kernel
theorem dX7_lift_24 : decode cX7_lift 24 = .ok (.ireturn, 1) := by decide +kernel
theorem dX7_lift_25 : decode cX7_lift 25 = .ok (.aload_n 0, 1) := by decide +kernel
theorem dX7_lift_26 : decode cX7_lift 26 = .ok (.getfield 7, 3) := by decide +kernel
theorem dX7_lift_29 : decode cX7_lift 29 = .ok (.iload_n 1, 1) := by decide +kernel
theorem dX7_lift_30 : decode cX7_lift 30 = .ok (.iload_n 2, 1) := by decide +kernel
theorem dX7_lift_31 : decode cX7_lift 31 = .ok (.iconst 0, 1) := by decide +kernel
theorem dX7_lift_32 : decode cX7_lift 32 = .ok (.invokestatic 51, 3) := by decide +kernel
theorem dX7_lift_35 : decode cX7_lift 35 = .ok (.iconst 0, 1) := by decide +kernel
theorem dX7_lift_36 : decode cX7_lift 36 = .ok (.iastore, 1) := by decide +kernel
theorem dX7_lift_37 : decode cX7_lift 37 = .ok (.aload_n 0, 1) := by decide +kernel
theorem dX7_lift_38 : decode cX7_lift 38 = .ok (.iload_n 1, 1) := by decide +kernel
theorem dX7_lift_39 : decode cX7_lift 39 = .ok (.iload_n 2, 1) := by decide +kernel
theorem dX7_lift_40 : decode cX7_lift 40 = .ok (.iload_n 1, 1) := by decide +kernel
theorem dX7_lift_41 : decode cX7_lift 41 = .ok (.iload_n 2, 1) := by decide +kernel
theorem dX7_lift_42 : decode cX7_lift 42 = .ok (.invokestatic 120, 3) := by decide +kernel
theorem dX7_lift_45 : decode cX7_lift 45 = .ok (.bipush 13, 2) := by decide +kernel
theorem dX7_lift_47 : decode cX7_lift 47 = .ok (.invokevirtual 113, 3) := by decide +kernel
theorem dX7_lift_50 : decode cX7_lift 50 = .ok (.ireturn, 1) := by decide +kernel
theorem dX7_tick_0 : decode cX7_tick 0 = .ok (.iconst 0, 1) := by decide +kernel
theorem dX7_tick_1 : decode cX7_tick 1 = .ok (.istore_n 1, 1) := by decide +kernel
theorem dX7_tick_2 : decode cX7_tick 2 = .ok (.iload_n 1, 1) := by decide +kernel
theorem dX7_tick_3 : decode cX7_tick 3 = .ok (.aload_n 0, 1) := by decide +kernel
theorem dX7_tick_4 : decode cX7_tick 4 = .ok (.getfield 7, 3) := by decide +kernel
theorem dX7_tick_7 : decode cX7_tick 7 = .ok (.sipush 381, 3) := by decide +kernel
theorem dX7_tick_10 : decode cX7_tick 10 = .ok (.iaload, 1) := by decide +kernel
theorem dX7_tick_11 : decode cX7_tick 11 = .ok (.if_icmp .ge 56, 3) := by decide +kernel
theorem dX7_tick_14 : decode cX7_tick 14 = .ok (.aload_n 0, 1) := by decide +kernel
theorem dX7_tick_15 : decode cX7_tick 15 = .ok (.iload_n 1, 1) := by decide +kernel
theorem dX7_tick_16 : decode cX7_tick 16 = .ok (.iconst 2, 1) := by decide +kernel
theorem dX7_tick_17 : decode cX7_tick 17 = .ok (.invokevirtual 61, 3) := by decide +kernel
theorem dX7_tick_20 : decode cX7_tick 20 = .ok (.iconst 2, 1) := by decide +kernel
theorem dX7_tick_21 : decode cX7_tick 21 = .ok (.if_icmp .ne 16, 3) := by decide +kernel
theorem dX7_tick_24 : decode cX7_tick 24 = .ok (.aload_n 0, 1) := by decide +kernel
theorem dX7_tick_25 : decode cX7_tick 25 = .ok (.iload_n 1, 1) := by decide +kernel
theorem dX7_tick_26 : decode cX7_tick 26 = .ok (.iconst 4, 1) := by decide +kernel
theorem dX7_tick_27 : decode cX7_tick 27 = .ok (.invokevirtual 61, 3) := by decide +kernel
theorem dX7_tick_30 : decode cX7_tick 30 = .ok (.ifCond .le 7, 3) := by decide +kernel
theorem dX7_tick_33 : decode cX7_tick 33 = .ok (.iconst 1, 1) := by decide +kernel
theorem dX7_tick_34 : decode cX7_tick 34 = .ok (.goto 4, 3) := by decide +kernel
theorem dX7_tick_37 : decode cX7_tick 37 = .ok (.iconst 0, 1) := by decide +kernel
theorem dX7_tick_38 : decode cX7_tick 38 = .ok (.istore_n 2, 1) := by decide +kernel
theorem dX7_tick_39 : decode cX7_tick 39 = .ok (.aload_n 0, 1) := by decide +kernel
theorem dX7_tick_40 : decode cX7_tick 40 = .ok (.iload_n 1, 1) := by decide +kernel
theorem dX7_tick_41 : decode cX7_tick 41 = .ok (.iconst 4, 1) := by decide +kernel
theorem dX7_tick_42 : decode cX7_tick 42 = .ok (.aload_n 0, 1) := by decide +kernel
theorem dX7_tick_43 : decode cX7_tick 43 = .ok (.iload_n 1, 1) := by decide +kernel
theorem dX7_tick_44 : decode cX7_tick 44 = .ok (.iconst 4, 1) := by decide +kernel
theorem dX7_tick_45 : decode cX7_tick 45 = .ok (.invokevirtual 61, 3) := by decide +kernel
theorem dX7_tick_48 : decode cX7_tick 48 = .ok (.iload_n 2, 1) := by decide +kernel
theorem dX7_tick_49 : decode cX7_tick 49 = .ok (.ifCond .eq 7, 3) := by decide +kernel
theorem dX7_tick_52 : decode cX7_tick 52 = .ok (.iconst 1, 1) := by decide +kernel
theorem dX7_tick_53 : decode cX7_tick 53 = .ok (.goto 4, 3) := by decide +kernel
theorem dX7_tick_56 : decode cX7_tick 56 = .ok (.iconst 0, 1) := by decide +kernel
theorem dX7_tick_57 : decode cX7_tick 57 = .ok (.isub, 1) := by decide +kernel
theorem dX7_tick_58 : decode cX7_tick 58 = .ok (.invokevirtual 75, 3) := by decide +kernel
theorem dX7_tick_61 : decode cX7_tick 61 = .ok (.iinc 1 1, 3) := by decide +kernel
theorem dX7_tick_64 : decode cX7_tick 64 = .ok (.goto (-62), 3) := by decide +kernel
theorem dX7_tick_67 : decode cX7_tick 67 = .ok (.iconst 0, 1) := by decide +kernel
theorem dX7_tick_68 : decode cX7_tick 68 = .ok (.istore_n 1, 1) := by decide +kernel
theorem dX7_tick_69 : decode cX7_tick 69 = .ok (.iload_n 1, 1) := by decide +kernel
theorem dX7_tick_70 : decode cX7_tick 70 = .ok (.iconst 2, 1) := by decide +kernel
theorem dX7_tick_71 : decode cX7_tick 71 = .ok (.aload_n 0, 1) := by decide +kernel
theorem dX7_tick_72 : decode cX7_tick 72 = .ok (.invokevirtual 36, 3) := by decide +kernel
theorem dX7_tick_75 : decode cX7_tick 75 = .ok (.imul, 1) := by decide +kernel
theorem dX7_tick_76 : decode cX7_tick 76 = .ok (.if_icmp .ge 64, 3) := by decide +kernel
theorem dX7_tick_79 : decode cX7_tick 79 = .ok (.bipush 30, 2) := by decide +kernel
theorem dX7_tick_81 : decode cX7_tick 81 = .ok (.iconst 5, 1) := by decide +kernel
theorem dX7_tick_82 : decode cX7_tick 82 = .ok (.iload_n 1, 1) := by decide +kernel
theorem dX7_tick_83 : decode cX7_tick 83 = .ok (.imul, 1) := by decide +kernel
theorem dX7_tick_84 : decode cX7_tick 84 = .ok (.iadd, 1) := by decide +kernel
theorem dX7_tick_85 : decode cX7_tick 85 = .ok (.iconst 4, 1) := by decide +kernel
theorem dX7_tick_86 : decode cX7_tick 86 = .ok (.iadd, 1) := by decide +kernel
theorem dX7_tick_87 : decode cX7_tick 87 = .ok (.istore_n 2, 1) := by decide +kernel
theorem dX7_tick_88 : decode cX7_tick 88 = .ok (.aload_n 0, 1) := by decide +kernel
theorem dX7_tick_89 : decode cX7_tick 89 = .ok (.getfield 7, 3) := by decide +kernel
theorem dX7_tick_92 : decode cX7_tick 92 = .ok (.iload_n 2, 1) := by decide +kernel
theorem dX7_tick_93 : decode cX7_tick 93 = .ok (.iaload, 1) := by decide +kernel
theorem dX7_tick_94 : decode cX7_tick 94 = .ok (.ifCond .le 40, 3) := by decide +kernel
theorem dX7_tick_97 : decode cX7_tick 97 = .ok (.aload_n 0, 1) := by decide +kernel
theorem dX7_tick_98 : decode cX7_tick 98 = .ok (.getfield 7, 3) := by decide +kernel
theorem dX7_tick_101 : decode cX7_tick 101 = .ok (.iload_n 2, 1) := by decide +kernel
theorem dX7_tick_102 : decode cX7_tick 102 = .ok (.dup2, 1) := by decide +kernel
theorem dX7_tick_103 : decode cX7_tick 103 = .ok (.iaload, 1) := by decide +kernel
theorem dX7_tick_104 : decode cX7_tick 104 = .ok (.iconst 1, 1) := by decide +kernel
theorem dX7_tick_105 : decode cX7_tick 105 = .ok (.isub, 1) := by decide +kernel
theorem dX7_tick_106 : decode cX7_tick 106 = .ok (.iastore, 1) := by decide +kernel
theorem dX7_tick_107 : decode cX7_tick 107 = .ok (.aload_n 0, 1) := by decide +kernel
theorem dX7_tick_108 : decode cX7_tick 108 = .ok (.getfield 7, 3) := by decide +kernel
theorem dX7_tick_111 : decode cX7_tick 111 = .ok (.bipush 30, 2) := by decide +kernel
theorem dX7_tick_113 : decode cX7_tick 113 = .ok (.iconst 5, 1) := by decide +kernel
theorem dX7_tick_114 : decode cX7_tick 114 = .ok (.iload_n 1, 1) := by decide +kernel
theorem dX7_tick_115 : decode cX7_tick 115 = .ok (.imul, 1) := by decide +kernel
theorem dX7_tick_116 : decode cX7_tick 116 = .ok (.iadd, 1) := by decide +kernel
theorem dX7_tick_117 : decode cX7_tick 117 = .ok (.iconst 3, 1) := by decide +kernel
theorem dX7_tick_118 : decode cX7_tick 118 = .ok (.iadd, 1) := by decide +kernel
theorem dX7_tick_119 : decode cX7_tick 119 = .ok (.aload_n 0, 1) := by decide +kernel
theorem dX7_tick_120 : decode cX7_tick 120 = .ok (.getfield 7, 3) := by decide +kernel
theorem dX7_tick_123 : decode cX7_tick 123 = .ok (.iload_n 2, 1) := by decide +kernel
theorem dX7_tick_124 : decode cX7_tick 124 = .ok (.iaload, 1) := by decide +kernel
theorem dX7_tick_125 : decode cX7_tick 125 = .ok (.ifCond .le 7, 3) := by decide +kernel
theorem dX7_tick_128 : decode cX7_tick 128 = .ok (.iconst 1, 1) := by decide +kernel
theorem dX7_tick_129 : decode cX7_tick 129 = .ok (.goto 4, 3) := by decide +kernel
theorem dX7_tick_132 : decode cX7_tick 132 = .ok (.iconst 0, 1) := by decide +kernel
theorem dX7_tick_133 : decode cX7_tick 133 = .ok (.iastore, 1) := by decide +kernel
theorem dX7_tick_134 : decode cX7_tick 134 = .ok (.iinc 1 1, 3) := by decide +kernel
theorem dX7_tick_137 : decode cX7_tick 137 = .ok (.goto (-68), 3) := by decide +kernel
theorem dX7_tick_140 : decode cX7_tick 140 = .ok (.aload_n 0, 1) := by decide +kernel
theorem dX7_tick_141 : decode cX7_tick 141 = .ok (.getfield 7, 3) := by decide +kernel
theorem dX7_tick_144 : decode cX7_tick 144 = .ok (.iconst 0, 1) := by decide +kernel
theorem dX7_tick_145 : decode cX7_tick 145 = .ok (.dup2, 1) := by decide +kernel
theorem dX7_tick_146 : decode cX7_tick 146 = .ok (.iaload, 1) := by decide +kernel
theorem dX7_tick_147 : decode cX7_tick 147 = .ok (.iconst 1, 1) := by decide +kernel
theorem dX7_tick_148 : decode cX7_tick 148 = .ok (.iadd, 1) := by decide +kernel
theorem dX7_tick_149 : decode cX7_tick 149 = .ok (.iastore, 1) := by decide +kernel
theorem dX7_tick_150 : decode cX7_tick 150 = .ok (.return_, 1) := by decide +kernel
theorem dX7_pass_0 : decode cX7_pass 0 = .ok (.iload_n 1, 1) := by decide +kernel
theorem dX7_pass_1 : decode cX7_pass 1 = .ok (.iconst 1, 1) := by decide +kernel
theorem dX7_pass_2 : decode cX7_pass 2 = .ok (.sipush 1000, 3) := by decide +kernel
theorem dX7_pass_5 : decode cX7_pass 5 = .ok (.invokestatic 40, 3) := by decide +kernel
theorem dX7_pass_8 : decode cX7_pass 8 = .ok (.ifCond .ne 6, 3) := by decide +kernel
theorem dX7_pass_11 : decode cX7_pass 11 = .ok (.bipush (-2), 2) := by decide +kernel
theorem dX7_pass_13 : decode cX7_pass 13 = .ok (.ireturn, 1) := by decide +kernel
theorem dX7_pass_14 : decode cX7_pass 14 = .ok (.aload_n 0, 1) := by decide +kernel
theorem dX7_pass_15 : decode cX7_pass 15 = .ok (.getfield 7, 3) := by decide +kernel
theorem dX7_pass_18 : decode cX7_pass 18 = .ok (.iconst 0, 1) := by decide +kernel
theorem dX7_pass_19 : decode cX7_pass 19 = .ok (.iaload, 1) := by decide +kernel
theorem dX7_pass_20 : decode cX7_pass 20 = .ok (.iload_n 1, 1) := by decide +kernel
theorem dX7_pass_21 : decode cX7_pass 21 = .ok (.iadd, 1) := by decide +kernel
theorem dX7_pass_22 : decode cX7_pass 22 = .ok (.ldc 132, 2) := by decide +kernel
theorem dX7_pass_24 : decode cX7_pass 24 = .ok (.if_icmp .le 6, 3) := by decide +kernel
theorem dX7_pass_27 : decode cX7_pass 27 = .ok (.bipush (-5), 2) := by decide +kernel
theorem dX7_pass_29 : decode cX7_pass 29 = .ok (.ireturn, 1) := by decide +kernel
theorem dX7_pass_30 : decode cX7_pass 30 = .ok (.iconst 0, 1) := by decide +kernel
theorem dX7_pass_31 : decode cX7_pass 31 = .ok (.istore_n 2, 1) := by decide +kernel
theorem dX7_pass_32 : decode cX7_pass 32 = .ok (.iload_n 2, 1) := by decide +kernel
theorem dX7_pass_33 : decode cX7_pass 33 = .ok (.iload_n 1, 1) := by decide +kernel
theorem dX7_pass_34 : decode cX7_pass 34 = .ok (.if_icmp .ge 13, 3) := by decide +kernel
theorem dX7_pass_37 : decode cX7_pass 37 = .ok (.aload_n 0, 1) := by decide +kernel
theorem dX7_pass_38 : decode cX7_pass 38 = .ok (.invokevirtual 133, 3) := by decide +kernel
theorem dX7_pass_41 : decode cX7_pass 41 = .ok (.iinc 2 1, 3) := by decide +kernel
theorem dX7_pass_44 : decode cX7_pass 44 = .ok (.goto (-12), 3) := by decide +kernel
theorem dX7_pass_47 : decode cX7_pass 47 = .ok (.aload_n 0, 1) := by decide +kernel
theorem dX7_pass_48 : decode cX7_pass 48 = .ok (.getfield 7, 3) := by decide +kernel
theorem dX7_pass_51 : decode cX7_pass 51 = .ok (.iconst 0, 1) := by decide +kernel
theorem dX7_pass_52 : decode cX7_pass 52 = .ok (.iaload, 1) := by decide +kernel
theorem dX7_pass_53 : decode cX7_pass 53 = .ok (.ireturn, 1) := by decide +kernel
theorem dX7_signal_0 : decode cX7_signal 0 = .ok (.iload_n 2, 1) := by decide +kernel
theorem dX7_signal_1 : decode cX7_signal 1 = .ok (.iconst 0, 1) := by decide +kernel
theorem dX7_signal_2 : decode cX7_signal 2 = .ok (.iconst 4, 1) := by decide +kernel
theorem dX7_signal_3 : decode cX7_signal 3 = .ok (.invokestatic 40, 3) := by decide +kernel
theorem dX7_signal_6 : decode cX7_signal 6 = .ok (.ifCond .ne 6, 3) := by decide +kernel
theorem dX7_signal_9 : decode cX7_signal 9 = .ok (.bipush (-2), 2) := by decide +kernel
theorem dX7_signal_11 : decode cX7_signal 11 = .ok (.ireturn, 1) := by decide +kernel
theorem dX7_signal_12 : decode cX7_signal 12 = .ok (.iload_n 1, 1) := by decide +kernel
theorem dX7_signal_13 : decode cX7_signal 13 = .ok (.iconst 0, 1) := by decide +kernel
theorem dX7_signal_14 : decode cX7_signal 14 = .ok (.aload_n 0, 1) := by decide +kernel
theorem dX7_signal_15 : decode cX7_signal 15 = .ok (.getfield 7, 3) := by decide +kernel
theorem dX7_signal_18 : decode cX7_signal 18 = .ok (.bipush 80, 2) := by decide +kernel
theorem dX7_signal_20 : decode cX7_signal 20 = .ok (.iaload, 1) := by decide +kernel
theorem dX7_signal_21 : decode cX7_signal 21 = .ok (.iconst 1, 1) := by decide +kernel
theorem dX7_signal_22 : decode cX7_signal 22 = .ok (.isub, 1) := by decide +kernel
theorem dX7_signal_23 : decode cX7_signal 23 = .ok (.invokestatic 40, 3) := by decide +kernel
theorem dX7_signal_26 : decode cX7_signal 26 = .ok (.ifCond .eq 21, 3) := by decide +kernel
theorem dX7_signal_29 : decode cX7_signal 29 = .ok (.iload_n 1, 1) := by decide +kernel
theorem dX7_signal_30 : decode cX7_signal 30 = .ok (.aload_n 0, 1) := by decide +kernel
theorem dX7_signal_31 : decode cX7_signal 31 = .ok (.getfield 7, 3) := by decide +kernel
theorem dX7_signal_34 : decode cX7_signal 34 = .ok (.bipush 80, 2) := by decide +kernel
theorem dX7_signal_36 : decode cX7_signal 36 = .ok (.iaload, 1) := by decide +kernel
theorem dX7_signal_37 : decode cX7_signal 37 = .ok (.bipush 60, 2) := by decide +kernel
theorem dX7_signal_39 : decode cX7_signal 39 = .ok (.isub, 1) := by decide +kernel
theorem dX7_signal_40 : decode cX7_signal 40 = .ok (.if_icmp .lt 7, 3) := by decide +kernel
theorem dX7_signal_43 : decode cX7_signal 43 = .ok (.iconst 1, 1) := by decide +kernel
theorem dX7_signal_44 : decode cX7_signal 44 = .ok (.goto 4, 3) := by decide +kernel
theorem dX7_signal_47 : decode cX7_signal 47 = .ok (.iconst 0, 1) := by decide +kernel
theorem dX7_signal_48 : decode cX7_signal 48 = .ok (.istore_n 3, 1) := by decide +kernel
theorem dX7_signal_49 : decode cX7_signal 49 = .ok (.iload_n 3, 1) := by decide +kernel
theorem dX7_signal_50 : decode cX7_signal 50 = .ok (.ifCond .eq 22, 3) := by decide +kernel
theorem dX7_signal_53 : decode cX7_signal 53 = .ok (.aload_n 0, 1) := by decide +kernel
theorem dX7_signal_54 : decode cX7_signal 54 = .ok (.getfield 7, 3) := by decide +kernel
theorem dX7_signal_57 : decode cX7_signal 57 = .ok (.bipush 81, 2) := by decide +kernel
theorem dX7_signal_59 : decode cX7_signal 59 = .ok (.iconst 5, 1) := by decide +kernel
theorem dX7_signal_60 : decode cX7_signal 60 = .ok (.iload_n 1, 1) := by decide +kernel
theorem dX7_signal_61 : decode cX7_signal 61 = .ok (.bipush 60, 2) := by decide +kernel
theorem dX7_signal_63 : decode cX7_signal 63 = .ok (.irem, 1) := by decide +kernel
theorem dX7_signal_64 : decode cX7_signal 64 = .ok (.imul, 1) := by decide +kernel
theorem dX7_signal_65 : decode cX7_signal 65 = .ok (.iadd, 1) := by decide +kernel
theorem dX7_signal_66 : decode cX7_signal 66 = .ok (.iload_n 2, 1) := by decide +kernel
theorem dX7_signal_67 : decode cX7_signal 67 = .ok (.iadd, 1) := by decide +kernel
theorem dX7_signal_68 : decode cX7_signal 68 = .ok (.iaload, 1) := by decide +kernel
theorem dX7_signal_69 : decode cX7_signal 69 = .ok (.goto 5, 3) := by decide +kernel
theorem dX7_signal_72 : decode cX7_signal 72 = .ok (.bipush (-6), 2) := by decide +kernel
theorem dX7_signal_74 : decode cX7_signal 74 = .ok (.ireturn, 1) := by decide +kernel
theorem dX7_rung_0 : decode cX7_rung 0 = .ok (.iload_n 2, 1) := by decide +kernel
theorem dX7_rung_1 : decode cX7_rung 1 = .ok (.iconst (-1), 1) := by decide +kernel
theorem dX7_rung_2 : decode cX7_rung 2 = .ok (.if_icmp .eq 13, 3) := by decide +kernel
theorem dX7_rung_5 : decode cX7_rung 5 = .ok (.aload_n 0, 1) := by decide +kernel
theorem dX7_rung_6 : decode cX7_rung 6 = .ok (.iload_n 2, 1) := by decide +kernel
theorem dX7_rung_7 : decode cX7_rung 7 = .ok (.invokevirtual 44, 3) := by decide +kernel
theorem dX7_rung_10 : decode cX7_rung 10 = .ok (.ifCond .ne 5, 3) := by decide +kernel
theorem dX7_rung_13 : decode cX7_rung 13 = .ok (.iconst (-1), 1) := by decide +kernel
theorem dX7_rung_14 : decode cX7_rung 14 = .ok (.ireturn, 1) := by decide +kernel
theorem dX7_rung_15 : decode cX7_rung 15 = .ok (.aload_n 0, 1) := by decide +kernel
theorem dX7_rung_16 : decode cX7_rung 16 = .ok (.getfield 7, 3) := by decide +kernel
theorem dX7_rung_19 : decode cX7_rung 19 = .ok (.bipush 80, 2) := by decide +kernel
theorem dX7_rung_21 : decode cX7_rung 21 = .ok (.iaload, 1) := by decide +kernel
theorem dX7_rung_22 : decode cX7_rung 22 = .ok (.bipush 60, 2) := by decide +kernel
theorem dX7_rung_24 : decode cX7_rung 24 = .ok (.if_icmp .ge 13, 3) := by decide +kernel
theorem dX7_rung_27 : decode cX7_rung 27 = .ok (.aload_n 0, 1) := by decide +kernel
theorem dX7_rung_28 : decode cX7_rung 28 = .ok (.getfield 7, 3) := by decide +kernel
theorem dX7_rung_31 : decode cX7_rung 31 = .ok (.bipush 80, 2) := by decide +kernel
theorem dX7_rung_33 : decode cX7_rung 33 = .ok (.iaload, 1) := by decide +kernel
theorem dX7_rung_34 : decode cX7_rung 34 = .ok (.goto 5, 3) := by decide +kernel
theorem dX7_rung_37 : decode cX7_rung 37 = .ok (.bipush 60, 2) := by decide +kernel
theorem dX7_rung_39 : decode cX7_rung 39 = .ok (.istore_n 3, 1) := by decide +kernel
theorem dX7_rung_40 : decode cX7_rung 40 = .ok (.iconst 0, 1) := by decide +kernel
theorem dX7_rung_41 : decode cX7_rung 41 = .ok (.istore 4, 2) := by decide +kernel
theorem dX7_rung_43 : decode cX7_rung 43 = .ok (.iconst 0, 1) := by decide +kernel
theorem dX7_rung_44 : decode cX7_rung 44 = .ok (.istore 5, 2) := by decide +kernel
theorem dX7_rung_46 : decode cX7_rung 46 = .ok (.iload 5, 2) := by decide +kernel
theorem dX7_rung_48 : decode cX7_rung 48 = .ok (.iload_n 3, 1) := by decide +kernel
theorem dX7_rung_49 : decode cX7_rung 49 = .ok (.if_icmp .ge 60, 3) := by decide +kernel
theorem dX7_rung_52 : decode cX7_rung 52 = .ok (.iload 4, 2) := by decide +kernel
theorem dX7_rung_54 : decode cX7_rung 54 = .ok (.aload_n 0, 1) := by decide +kernel
theorem dX7_rung_55 : decode cX7_rung 55 = .ok (.getfield 7, 3) := by decide +kernel
theorem dX7_rung_58 : decode cX7_rung 58 = .ok (.bipush 81, 2) := by decide +kernel
theorem dX7_rung_60 : decode cX7_rung 60 = .ok (.iconst 5, 1) := by decide +kernel
theorem dX7_rung_61 : decode cX7_rung 61 = .ok (.iload 5, 2) := by decide +kernel
theorem dX7_rung_63 : decode cX7_rung 63 = .ok (.imul, 1) := by decide +kernel
theorem dX7_rung_64 : decode cX7_rung 64 = .ok (.iadd, 1) := by decide +kernel
theorem dX7_rung_65 : decode cX7_rung 65 = .ok (.iconst 4, 1) := by decide +kernel
theorem dX7_rung_66 : decode cX7_rung 66 = .ok (.iadd, 1) := by decide +kernel
theorem dX7_rung_67 : decode cX7_rung 67 = .ok (.iaload, 1) := by decide +kernel
theorem dX7_rung_68 : decode cX7_rung 68 = .ok (.iload_n 1, 1) := by decide +kernel
theorem dX7_rung_69 : decode cX7_rung 69 = .ok (.if_icmp .ne 30, 3) := by decide +kernel
theorem dX7_rung_72 : decode cX7_rung 72 = .ok (.iload_n 2, 1) := by decide +kernel
theorem dX7_rung_73 : decode cX7_rung 73 = .ok (.iconst (-1), 1) := by decide +kernel
theorem dX7_rung_74 : decode cX7_rung 74 = .ok (.if_icmp .eq 21, 3) := by decide +kernel
theorem dX7_rung_77 : decode cX7_rung 77 = .ok (.aload_n 0, 1) := by decide +kernel
theorem dX7_rung_78 : decode cX7_rung 78 = .ok (.getfield 7, 3) := by decide +kernel
theorem dX7_rung_81 : decode cX7_rung 81 = .ok (.bipush 81, 2) := by decide +kernel
theorem dX7_rung_83 : decode cX7_rung 83 = .ok (.iconst 5, 1) := by decide +kernel
theorem dX7_rung_84 : decode cX7_rung 84 = .ok (.iload 5, 2) := by decide +kernel
theorem dX7_rung_86 : decode cX7_rung 86 = .ok (.imul, 1) := by decide +kernel
theorem dX7_rung_87 : decode cX7_rung 87 = .ok (.iadd, 1) := by decide +kernel
theorem dX7_rung_88 : decode cX7_rung 88 = .ok (.iconst 1, 1) := by decide +kernel
theorem dX7_rung_89 : decode cX7_rung 89 = .ok (.iadd, 1) := by decide +kernel
theorem dX7_rung_90 : decode cX7_rung 90 = .ok (.iaload, 1) := by decide +kernel
theorem dX7_rung_91 : decode cX7_rung 91 = .ok (.iload_n 2, 1) := by decide +kernel
theorem dX7_rung_92 : decode cX7_rung 92 = .ok (.if_icmp .ne 7, 3) := by decide +kernel
theorem dX7_rung_95 : decode cX7_rung 95 = .ok (.iconst 1, 1) := by decide +kernel
theorem dX7_rung_96 : decode cX7_rung 96 = .ok (.goto 4, 3) := by decide +kernel
theorem dX7_rung_99 : decode cX7_rung 99 = .ok (.iconst 0, 1) := by decide +kernel
theorem dX7_rung_100 : decode cX7_rung 100 = .ok (.iadd, 1) := by decide +kernel
theorem dX7_rung_101 : decode cX7_rung 101 = .ok (.istore 4, 2) := by decide +kernel
theorem dX7_rung_103 : decode cX7_rung 103 = .ok (.iinc 5 1, 3) := by decide +kernel
theorem dX7_rung_106 : decode cX7_rung 106 = .ok (.goto (-60), 3) := by decide +kernel
theorem dX7_rung_109 : decode cX7_rung 109 = .ok (.iload 4, 2) := by decide +kernel
theorem dX7_rung_111 : decode cX7_rung 111 = .ok (.ireturn, 1) := by decide +kernel
theorem dX7_workBlocks_0 : decode cX7_workBlocks 0 = .ok (.iconst 0, 1) := by decide +kernel
theorem dX7_workBlocks_1 : decode cX7_workBlocks 1 = .ok (.istore_n 2, 1) := by decide +kernel
theorem dX7_workBlocks_2 : decode cX7_workBlocks 2 = .ok (.iload_n 2, 1) := by decide +kernel
theorem dX7_workBlocks_3 : decode cX7_workBlocks 3 = .ok (.aload_n 0, 1) := by decide +kernel
theorem dX7_workBlocks_4 : decode cX7_workBlocks 4 = .ok (.invokevirtual 36, 3) := by decide +kernel
theorem dX7_workBlocks_7 : decode cX7_workBlocks 7 = .ok (.if_icmp .ge 97, 3) := by decide +kernel
theorem dX7_workBlocks_10 : decode cX7_workBlocks 10 = .ok (.iconst 0, 1) := by decide +kernel
theorem dX7_workBlocks_11 : decode cX7_workBlocks 11 = .ok (.istore_n 3, 1) := by decide +kernel
theorem dX7_workBlocks_12 : decode cX7_workBlocks 12 = .ok (.iload_n 3, 1) := by decide +kernel
theorem dX7_workBlocks_13 : decode cX7_workBlocks 13 = .ok (.iconst 2, 1) := by decide +kernel
theorem dX7_workBlocks_14 : decode cX7_workBlocks 14 = .ok (.if_icmp .ge 84, 3) := by decide +kernel
theorem dX7_workBlocks_17 : decode cX7_workBlocks 17 = .ok (.iload_n 1, 1) := by decide +kernel
theorem dX7_workBlocks_18 : decode cX7_workBlocks 18 = .ok (.tableswitch 56 0 2 #[26, 36, 46], 26) := by decide +kernel
theorem dX7_workBlocks_44 : decode cX7_workBlocks 44 = .ok (.aload_n 0, 1) := by decide +kernel
theorem dX7_workBlocks_45 : decode cX7_workBlocks 45 = .ok (.iload_n 2, 1) := by decide +kernel
theorem dX7_workBlocks_46 : decode cX7_workBlocks 46 = .ok (.iload_n 3, 1) := by decide +kernel
theorem dX7_workBlocks_47 : decode cX7_workBlocks 47 = .ok (.invokevirtual 136, 3) := by decide +kernel
theorem dX7_workBlocks_50 : decode cX7_workBlocks 50 = .ok (.pop, 1) := by decide +kernel
theorem dX7_workBlocks_51 : decode cX7_workBlocks 51 = .ok (.goto 41, 3) := by decide +kernel
theorem dX7_workBlocks_54 : decode cX7_workBlocks 54 = .ok (.aload_n 0, 1) := by decide +kernel
theorem dX7_workBlocks_55 : decode cX7_workBlocks 55 = .ok (.iload_n 2, 1) := by decide +kernel
theorem dX7_workBlocks_56 : decode cX7_workBlocks 56 = .ok (.iload_n 3, 1) := by decide +kernel
theorem dX7_workBlocks_57 : decode cX7_workBlocks 57 = .ok (.invokevirtual 139, 3) := by decide +kernel
theorem dX7_workBlocks_60 : decode cX7_workBlocks 60 = .ok (.pop, 1) := by decide +kernel
theorem dX7_workBlocks_61 : decode cX7_workBlocks 61 = .ok (.goto 31, 3) := by decide +kernel
theorem dX7_workBlocks_64 : decode cX7_workBlocks 64 = .ok (.aload_n 0, 1) := by decide +kernel
theorem dX7_workBlocks_65 : decode cX7_workBlocks 65 = .ok (.iload_n 2, 1) := by decide +kernel
theorem dX7_workBlocks_66 : decode cX7_workBlocks 66 = .ok (.iload_n 3, 1) := by decide +kernel
theorem dX7_workBlocks_67 : decode cX7_workBlocks 67 = .ok (.invokevirtual 142, 3) := by decide +kernel
theorem dX7_workBlocks_70 : decode cX7_workBlocks 70 = .ok (.pop, 1) := by decide +kernel
theorem dX7_workBlocks_71 : decode cX7_workBlocks 71 = .ok (.goto 21, 3) := by decide +kernel
theorem dX7_workBlocks_74 : decode cX7_workBlocks 74 = .ok (.aload_n 0, 1) := by decide +kernel
theorem dX7_workBlocks_75 : decode cX7_workBlocks 75 = .ok (.iload_n 2, 1) := by decide +kernel
theorem dX7_workBlocks_76 : decode cX7_workBlocks 76 = .ok (.iload_n 3, 1) := by decide +kernel
theorem dX7_workBlocks_77 : decode cX7_workBlocks 77 = .ok (.iconst 1, 1) := by decide +kernel
theorem dX7_workBlocks_78 : decode cX7_workBlocks 78 = .ok (.invokevirtual 145, 3) := by decide +kernel
theorem dX7_workBlocks_81 : decode cX7_workBlocks 81 = .ok (.ifCond .ge 11, 3) := by decide +kernel
theorem dX7_workBlocks_84 : decode cX7_workBlocks 84 = .ok (.aload_n 0, 1) := by decide +kernel
theorem dX7_workBlocks_85 : decode cX7_workBlocks 85 = .ok (.iload_n 2, 1) := by decide +kernel
theorem dX7_workBlocks_86 : decode cX7_workBlocks 86 = .ok (.iload_n 3, 1) := by decide +kernel
theorem dX7_workBlocks_87 : decode cX7_workBlocks 87 = .ok (.iconst 0, 1) := by decide +kernel
theorem dX7_workBlocks_88 : decode cX7_workBlocks 88 = .ok (.invokevirtual 145, 3) := by decide +kernel
theorem dX7_workBlocks_91 : decode cX7_workBlocks 91 = .ok (.pop, 1) := by decide +kernel
theorem dX7_workBlocks_92 : decode cX7_workBlocks 92 = .ok (.iinc 3 1, 3) := by decide +kernel
theorem dX7_workBlocks_95 : decode cX7_workBlocks 95 = .ok (.goto (-83), 3) := by decide +kernel
theorem dX7_workBlocks_98 : decode cX7_workBlocks 98 = .ok (.iinc 2 1, 3) := by decide +kernel
theorem dX7_workBlocks_101 : decode cX7_workBlocks 101 = .ok (.goto (-99), 3) := by decide +kernel
theorem dX7_workBlocks_104 : decode cX7_workBlocks 104 = .ok (.return_, 1) := by decide +kernel
theorem dX7_workTrains_0 : decode cX7_workTrains 0 = .ok (.iconst 0, 1) := by decide +kernel
theorem dX7_workTrains_1 : decode cX7_workTrains 1 = .ok (.istore_n 2, 1) := by decide +kernel
theorem dX7_workTrains_2 : decode cX7_workTrains 2 = .ok (.iload_n 2, 1) := by decide +kernel
theorem dX7_workTrains_3 : decode cX7_workTrains 3 = .ok (.aload_n 0, 1) := by decide +kernel
theorem dX7_workTrains_4 : decode cX7_workTrains 4 = .ok (.getfield 7, 3) := by decide +kernel
theorem dX7_workTrains_7 : decode cX7_workTrains 7 = .ok (.sipush 381, 3) := by decide +kernel
theorem dX7_workTrains_10 : decode cX7_workTrains 10 = .ok (.iaload, 1) := by decide +kernel
theorem dX7_workTrains_11 : decode cX7_workTrains 11 = .ok (.if_icmp .ge 59, 3) := by decide +kernel
theorem dX7_workTrains_14 : decode cX7_workTrains 14 = .ok (.iload_n 1, 1) := by decide +kernel
theorem dX7_workTrains_15 : decode cX7_workTrains 15 = .ok (.lookupswitch 43 #[(0, 25), (1, 34)], 25) := by decide +kernel
theorem dX7_workTrains_40 : decode cX7_workTrains 40 = .ok (.aload_n 0, 1) := by decide +kernel
theorem dX7_workTrains_41 : decode cX7_workTrains 41 = .ok (.iload_n 2, 1) := by decide +kernel
theorem dX7_workTrains_42 : decode cX7_workTrains 42 = .ok (.invokevirtual 149, 3) := by decide +kernel
theorem dX7_workTrains_45 : decode cX7_workTrains 45 = .ok (.pop, 1) := by decide +kernel
theorem dX7_workTrains_46 : decode cX7_workTrains 46 = .ok (.goto 18, 3) := by decide +kernel
theorem dX7_workTrains_49 : decode cX7_workTrains 49 = .ok (.aload_n 0, 1) := by decide +kernel
theorem dX7_workTrains_50 : decode cX7_workTrains 50 = .ok (.iload_n 2, 1) := by decide +kernel
theorem dX7_workTrains_51 : decode cX7_workTrains 51 = .ok (.invokevirtual 152, 3) := by decide +kernel
theorem dX7_workTrains_54 : decode cX7_workTrains 54 = .ok (.pop, 1) := by decide +kernel
theorem dX7_workTrains_55 : decode cX7_workTrains 55 = .ok (.goto 9, 3) := by decide +kernel
theorem dX7_workTrains_58 : decode cX7_workTrains 58 = .ok (.aload_n 0, 1) := by decide +kernel
theorem dX7_workTrains_59 : decode cX7_workTrains 59 = .ok (.iload_n 2, 1) := by decide +kernel
theorem dX7_workTrains_60 : decode cX7_workTrains 60 = .ok (.invokevirtual 155, 3) := by decide +kernel
theorem dX7_workTrains_63 : decode cX7_workTrains 63 = .ok (.pop, 1) := by decide +kernel
theorem dX7_workTrains_64 : decode cX7_workTrains 64 = .ok (.iinc 2 1, 3) := by decide +kernel
theorem dX7_workTrains_67 : decode cX7_workTrains 67 = .ok (.goto (-65), 3) := by decide +kernel
theorem dX7_workTrains_70 : decode cX7_workTrains 70 = .ok (.return_, 1) := by decide +kernel
theorem dX7_workTick_0 : decode cX7_workTick 0 = .ok (.aload_n 0, 1) := by decide +kernel
theorem dX7_workTick_1 : decode cX7_workTick 1 = .ok (.iconst 0, 1) := by decide +kernel
theorem dX7_workTick_2 : decode cX7_workTick 2 = .ok (.invokevirtual 158, 3) := by decide +kernel
theorem dX7_workTick_5 : decode cX7_workTick 5 = .ok (.aload_n 0, 1) := by decide +kernel
theorem dX7_workTick_6 : decode cX7_workTick 6 = .ok (.iconst 1, 1) := by decide +kernel
theorem dX7_workTick_7 : decode cX7_workTick 7 = .ok (.invokevirtual 158, 3) := by decide +kernel
theorem dX7_workTick_10 : decode cX7_workTick 10 = .ok (.aload_n 0, 1) := by decide +kernel
theorem dX7_workTick_11 : decode cX7_workTick 11 = .ok (.iconst 2, 1) := by decide +kernel
theorem dX7_workTick_12 : decode cX7_workTick 12 = .ok (.invokevirtual 158, 3) := by decide +kernel
theorem dX7_workTick_15 : decode cX7_workTick 15 = .ok (.aload_n 0, 1) := by decide +kernel
theorem dX7_workTick_16 : decode cX7_workTick 16 = .ok (.iconst 0, 1) := by decide +kernel
theorem dX7_workTick_17 : decode cX7_workTick 17 = .ok (.invokevirtual 162, 3) := by decide +kernel
theorem dX7_workTick_20 : decode cX7_workTick 20 = .ok (.aload_n 0, 1) := by decide +kernel
theorem dX7_workTick_21 : decode cX7_workTick 21 = .ok (.iconst 1, 1) := by decide +kernel
theorem dX7_workTick_22 : decode cX7_workTick 22 = .ok (.invokevirtual 162, 3) := by decide +kernel
theorem dX7_workTick_25 : decode cX7_workTick 25 = .ok (.aload_n 0, 1) := by decide +kernel
theorem dX7_workTick_26 : decode cX7_workTick 26 = .ok (.iconst 3, 1) := by decide +kernel
theorem dX7_workTick_27 : decode cX7_workTick 27 = .ok (.invokevirtual 158, 3) := by decide +kernel
theorem dX7_workTick_30 : decode cX7_workTick 30 = .ok (.aload_n 0, 1) := by decide +kernel
theorem dX7_workTick_31 : decode cX7_workTick 31 = .ok (.iconst 2, 1) := by decide +kernel
theorem dX7_workTick_32 : decode cX7_workTick 32 = .ok (.invokevirtual 162, 3) := by decide +kernel
theorem dX7_workTick_35 : decode cX7_workTick 35 = .ok (.aload_n 0, 1) := by decide +kernel
theorem dX7_workTick_36 : decode cX7_workTick 36 = .ok (.invokevirtual 133, 3) := by decide +kernel
theorem dX7_workTick_39 : decode cX7_workTick 39 = .ok (.return_, 1) := by decide +kernel
theorem dX7_trainsAt_0 : decode cX7_trainsAt 0 = .ok (.iconst 0, 1) := by decide +kernel
theorem dX7_trainsAt_1 : decode cX7_trainsAt 1 = .ok (.istore_n 2, 1) := by decide +kernel
theorem dX7_trainsAt_2 : decode cX7_trainsAt 2 = .ok (.iconst 0, 1) := by decide +kernel
theorem dX7_trainsAt_3 : decode cX7_trainsAt 3 = .ok (.istore_n 3, 1) := by decide +kernel
theorem dX7_trainsAt_4 : decode cX7_trainsAt 4 = .ok (.iload_n 3, 1) := by decide +kernel
theorem dX7_trainsAt_5 : decode cX7_trainsAt 5 = .ok (.aload_n 0, 1) := by decide +kernel
theorem dX7_trainsAt_6 : decode cX7_trainsAt 6 = .ok (.getfield 7, 3) := by decide +kernel
theorem dX7_trainsAt_9 : decode cX7_trainsAt 9 = .ok (.sipush 381, 3) := by decide +kernel
theorem dX7_trainsAt_12 : decode cX7_trainsAt 12 = .ok (.iaload, 1) := by decide +kernel
theorem dX7_trainsAt_13 : decode cX7_trainsAt 13 = .ok (.if_icmp .ge 27, 3) := by decide +kernel
theorem dX7_trainsAt_16 : decode cX7_trainsAt 16 = .ok (.iload_n 2, 1) := by decide +kernel
theorem dX7_trainsAt_17 : decode cX7_trainsAt 17 = .ok (.aload_n 0, 1) := by decide +kernel
theorem dX7_trainsAt_18 : decode cX7_trainsAt 18 = .ok (.iload_n 3, 1) := by decide +kernel
theorem dX7_trainsAt_19 : decode cX7_trainsAt 19 = .ok (.iconst 2, 1) := by decide +kernel
theorem dX7_trainsAt_20 : decode cX7_trainsAt 20 = .ok (.invokevirtual 61, 3) := by decide +kernel
theorem dX7_trainsAt_23 : decode cX7_trainsAt 23 = .ok (.iload_n 1, 1) := by decide +kernel
theorem dX7_trainsAt_24 : decode cX7_trainsAt 24 = .ok (.if_icmp .ne 7, 3) := by decide +kernel
theorem dX7_trainsAt_27 : decode cX7_trainsAt 27 = .ok (.iconst 1, 1) := by decide +kernel
theorem dX7_trainsAt_28 : decode cX7_trainsAt 28 = .ok (.goto 4, 3) := by decide +kernel
theorem dX7_trainsAt_31 : decode cX7_trainsAt 31 = .ok (.iconst 0, 1) := by decide +kernel
theorem dX7_trainsAt_32 : decode cX7_trainsAt 32 = .ok (.iadd, 1) := by decide +kernel
theorem dX7_trainsAt_33 : decode cX7_trainsAt 33 = .ok (.istore_n 2, 1) := by decide +kernel
theorem dX7_trainsAt_34 : decode cX7_trainsAt 34 = .ok (.iinc 3 1, 3) := by decide +kernel
theorem dX7_trainsAt_37 : decode cX7_trainsAt 37 = .ok (.goto (-33), 3) := by decide +kernel
theorem dX7_trainsAt_40 : decode cX7_trainsAt 40 = .ok (.iload_n 2, 1) := by decide +kernel
theorem dX7_trainsAt_41 : decode cX7_trainsAt 41 = .ok (.ireturn, 1) := by decide +kernel
theorem dX7_work_0 : decode cX7_work 0 = .ok (.iload_n 1, 1) := by decide +kernel
theorem dX7_work_1 : decode cX7_work 1 = .ok (.iconst 1, 1) := by decide +kernel
theorem dX7_work_2 : decode cX7_work 2 = .ok (.sipush 300, 3) := by decide +kernel
theorem dX7_work_5 : decode cX7_work 5 = .ok (.invokestatic 40, 3) := by decide +kernel
theorem dX7_work_8 : decode cX7_work 8 = .ok (.ifCond .ne 6, 3) := by decide +kernel
theorem dX7_work_11 : decode cX7_work 11 = .ok (.bipush (-2), 2) := by decide +kernel
theorem dX7_work_13 : decode cX7_work 13 = .ok (.ireturn, 1) := by decide +kernel
theorem dX7_work_14 : decode cX7_work 14 = .ok (.aload_n 0, 1) := by decide +kernel
theorem dX7_work_15 : decode cX7_work 15 = .ok (.getfield 7, 3) := by decide +kernel
theorem dX7_work_18 : decode cX7_work 18 = .ok (.iconst 0, 1) := by decide +kernel
theorem dX7_work_19 : decode cX7_work 19 = .ok (.iaload, 1) := by decide +kernel
theorem dX7_work_20 : decode cX7_work 20 = .ok (.iload_n 1, 1) := by decide +kernel
theorem dX7_work_21 : decode cX7_work 21 = .ok (.iadd, 1) := by decide +kernel
theorem dX7_work_22 : decode cX7_work 22 = .ok (.ldc 132, 2) := by decide +kernel
theorem dX7_work_24 : decode cX7_work 24 = .ok (.if_icmp .le 6, 3) := by decide +kernel
theorem dX7_work_27 : decode cX7_work 27 = .ok (.bipush (-5), 2) := by decide +kernel
theorem dX7_work_29 : decode cX7_work 29 = .ok (.ireturn, 1) := by decide +kernel
theorem dX7_work_30 : decode cX7_work 30 = .ok (.aload_n 0, 1) := by decide +kernel
theorem dX7_work_31 : decode cX7_work 31 = .ok (.iconst 3, 1) := by decide +kernel
theorem dX7_work_32 : decode cX7_work 32 = .ok (.invokevirtual 165, 3) := by decide +kernel
theorem dX7_work_35 : decode cX7_work 35 = .ok (.istore_n 2, 1) := by decide +kernel
theorem dX7_work_36 : decode cX7_work 36 = .ok (.iconst 0, 1) := by decide +kernel
theorem dX7_work_37 : decode cX7_work 37 = .ok (.istore_n 3, 1) := by decide +kernel
theorem dX7_work_38 : decode cX7_work 38 = .ok (.iload_n 3, 1) := by decide +kernel
theorem dX7_work_39 : decode cX7_work 39 = .ok (.iload_n 1, 1) := by decide +kernel
theorem dX7_work_40 : decode cX7_work 40 = .ok (.if_icmp .ge 13, 3) := by decide +kernel
theorem dX7_work_43 : decode cX7_work 43 = .ok (.aload_n 0, 1) := by decide +kernel
theorem dX7_work_44 : decode cX7_work 44 = .ok (.invokevirtual 168, 3) := by decide +kernel
theorem dX7_work_47 : decode cX7_work 47 = .ok (.iinc 3 1, 3) := by decide +kernel
theorem dX7_work_50 : decode cX7_work 50 = .ok (.goto (-12), 3) := by decide +kernel
theorem dX7_work_53 : decode cX7_work 53 = .ok (.aload_n 0, 1) := by decide +kernel
theorem dX7_work_54 : decode cX7_work 54 = .ok (.iconst 3, 1) := by decide +kernel
theorem dX7_work_55 : decode cX7_work 55 = .ok (.invokevirtual 165, 3) := by decide +kernel
theorem dX7_work_58 : decode cX7_work 58 = .ok (.iload_n 2, 1) := by decide +kernel
theorem dX7_work_59 : decode cX7_work 59 = .ok (.isub, 1) := by decide +kernel
theorem dX7_work_60 : decode cX7_work 60 = .ok (.ireturn, 1) := by decide +kernel
theorem dX7_forecast_0 : decode cX7_forecast 0 = .ok (.aload_n 0, 1) := by decide +kernel
theorem dX7_forecast_1 : decode cX7_forecast 1 = .ok (.iload_n 1, 1) := by decide +kernel
theorem dX7_forecast_2 : decode cX7_forecast 2 = .ok (.invokevirtual 89, 3) := by decide +kernel
theorem dX7_forecast_5 : decode cX7_forecast 5 = .ok (.ifCond .ne 5, 3) := by decide +kernel
theorem dX7_forecast_8 : decode cX7_forecast 8 = .ok (.iconst (-1), 1) := by decide +kernel
theorem dX7_forecast_9 : decode cX7_forecast 9 = .ok (.ireturn, 1) := by decide +kernel
theorem dX7_forecast_10 : decode cX7_forecast 10 = .ok (.iload_n 2, 1) := by decide +kernel
theorem dX7_forecast_11 : decode cX7_forecast 11 = .ok (.iconst 1, 1) := by decide +kernel
theorem dX7_forecast_12 : decode cX7_forecast 12 = .ok (.sipush 500, 3) := by decide +kernel
theorem dX7_forecast_15 : decode cX7_forecast 15 = .ok (.invokestatic 40, 3) := by decide +kernel
theorem dX7_forecast_18 : decode cX7_forecast 18 = .ok (.ifCond .ne 6, 3) := by decide +kernel
theorem dX7_forecast_21 : decode cX7_forecast 21 = .ok (.bipush (-2), 2) := by decide +kernel
theorem dX7_forecast_23 : decode cX7_forecast 23 = .ok (.ireturn, 1) := by decide +kernel
theorem dX7_forecast_24 : decode cX7_forecast 24 = .ok (.aload_n 0, 1) := by decide +kernel
theorem dX7_forecast_25 : decode cX7_forecast 25 = .ok (.invokevirtual 171, 3) := by decide +kernel
theorem dX7_forecast_28 : decode cX7_forecast 28 = .ok (.aload_n 0, 1) := by decide +kernel
theorem dX7_forecast_29 : decode cX7_forecast 29 = .ok (.iload_n 1, 1) := by decide +kernel
theorem dX7_forecast_30 : decode cX7_forecast 30 = .ok (.iconst 2, 1) := by decide +kernel
theorem dX7_forecast_31 : decode cX7_forecast 31 = .ok (.invokevirtual 61, 3) := by decide +kernel
theorem dX7_forecast_34 : decode cX7_forecast 34 = .ok (.iconst 3, 1) := by decide +kernel
theorem dX7_forecast_35 : decode cX7_forecast 35 = .ok (.if_icmp .ne 7, 3) := by decide +kernel
theorem dX7_forecast_38 : decode cX7_forecast 38 = .ok (.iconst 0, 1) := by decide +kernel
theorem dX7_forecast_39 : decode cX7_forecast 39 = .ok (.goto 5, 3) := by decide +kernel
theorem dX7_forecast_42 : decode cX7_forecast 42 = .ok (.bipush (-6), 2) := by decide +kernel
theorem dX7_forecast_44 : decode cX7_forecast 44 = .ok (.istore_n 3, 1) := by decide +kernel
theorem dX7_forecast_45 : decode cX7_forecast 45 = .ok (.iconst 1, 1) := by decide +kernel
theorem dX7_forecast_46 : decode cX7_forecast 46 = .ok (.istore 4, 2) := by decide +kernel
theorem dX7_forecast_48 : decode cX7_forecast 48 = .ok (.iload 4, 2) := by decide +kernel
theorem dX7_forecast_50 : decode cX7_forecast 50 = .ok (.iload_n 2, 1) := by decide +kernel
theorem dX7_forecast_51 : decode cX7_forecast 51 = .ok (.if_icmp .gt 35, 3) := by decide +kernel
theorem dX7_forecast_54 : decode cX7_forecast 54 = .ok (.iload_n 3, 1) := by decide +kernel
theorem dX7_forecast_55 : decode cX7_forecast 55 = .ok (.ifCond .ge 31, 3) := by decide +kernel
theorem dX7_forecast_58 : decode cX7_forecast 58 = .ok (.aload_n 0, 1) := by decide +kernel
theorem dX7_forecast_59 : decode cX7_forecast 59 = .ok (.invokevirtual 168, 3) := by decide +kernel
theorem dX7_forecast_62 : decode cX7_forecast 62 = .ok (.aload_n 0, 1) := by decide +kernel
theorem dX7_forecast_63 : decode cX7_forecast 63 = .ok (.iload_n 1, 1) := by decide +kernel
theorem dX7_forecast_64 : decode cX7_forecast 64 = .ok (.iconst 2, 1) := by decide +kernel
theorem dX7_forecast_65 : decode cX7_forecast 65 = .ok (.invokevirtual 61, 3) := by decide +kernel
theorem dX7_forecast_68 : decode cX7_forecast 68 = .ok (.iconst 3, 1) := by decide +kernel
theorem dX7_forecast_69 : decode cX7_forecast 69 = .ok (.if_icmp .ne 8, 3) := by decide +kernel
theorem dX7_forecast_72 : decode cX7_forecast 72 = .ok (.iload 4, 2) := by decide +kernel
theorem dX7_forecast_74 : decode cX7_forecast 74 = .ok (.goto 5, 3) := by decide +kernel
theorem dX7_forecast_77 : decode cX7_forecast 77 = .ok (.bipush (-6), 2) := by decide +kernel
theorem dX7_forecast_79 : decode cX7_forecast 79 = .ok (.istore_n 3, 1) := by decide +kernel
theorem dX7_forecast_80 : decode cX7_forecast 80 = .ok (.iinc 4 1, 3) := by decide +kernel
theorem dX7_forecast_83 : decode cX7_forecast 83 = .ok (.goto (-35), 3) := by decide +kernel
theorem dX7_forecast_86 : decode cX7_forecast 86 = .ok (.aload_n 0, 1) := by decide +kernel
theorem dX7_forecast_87 : decode cX7_forecast 87 = .ok (.invokevirtual 174, 3) := by decide +kernel
theorem dX7_forecast_90 : decode cX7_forecast 90 = .ok (.iload_n 3, 1) := by decide +kernel
theorem dX7_forecast_91 : decode cX7_forecast 91 = .ok (.ireturn, 1) := by decide +kernel
theorem dX7_capacity_0 : decode cX7_capacity 0 = .ok (.iload_n 1, 1) := by decide +kernel
theorem dX7_capacity_1 : decode cX7_capacity 1 = .ok (.iconst 1, 1) := by decide +kernel
theorem dX7_capacity_2 : decode cX7_capacity 2 = .ok (.iconst 5, 1) := by decide +kernel
theorem dX7_capacity_3 : decode cX7_capacity 3 = .ok (.invokestatic 40, 3) := by decide +kernel
theorem dX7_capacity_6 : decode cX7_capacity 6 = .ok (.ifCond .eq 21, 3) := by decide +kernel
theorem dX7_capacity_9 : decode cX7_capacity 9 = .ok (.iload_n 2, 1) := by decide +kernel
theorem dX7_capacity_10 : decode cX7_capacity 10 = .ok (.invokestatic 48, 3) := by decide +kernel
theorem dX7_capacity_13 : decode cX7_capacity 13 = .ok (.ifCond .eq 14, 3) := by decide +kernel
theorem dX7_capacity_16 : decode cX7_capacity 16 = .ok (.iload_n 3, 1) := by decide +kernel
theorem dX7_capacity_17 : decode cX7_capacity 17 = .ok (.iconst 1, 1) := by decide +kernel
theorem dX7_capacity_18 : decode cX7_capacity 18 = .ok (.sipush 300, 3) := by decide +kernel
theorem dX7_capacity_21 : decode cX7_capacity 21 = .ok (.invokestatic 40, 3) := by decide +kernel
theorem dX7_capacity_24 : decode cX7_capacity 24 = .ok (.ifCond .ne 6, 3) := by decide +kernel
theorem dX7_capacity_27 : decode cX7_capacity 27 = .ok (.bipush (-2), 2) := by decide +kernel
theorem dX7_capacity_29 : decode cX7_capacity 29 = .ok (.ireturn, 1) := by decide +kernel
theorem dX7_capacity_30 : decode cX7_capacity 30 = .ok (.aload_n 0, 1) := by decide +kernel
theorem dX7_capacity_31 : decode cX7_capacity 31 = .ok (.invokevirtual 171, 3) := by decide +kernel
theorem dX7_capacity_34 : decode cX7_capacity 34 = .ok (.aload_n 0, 1) := by decide +kernel
theorem dX7_capacity_35 : decode cX7_capacity 35 = .ok (.getfield 7, 3) := by decide +kernel
theorem dX7_capacity_38 : decode cX7_capacity 38 = .ok (.iconst 0, 1) := by decide +kernel
theorem dX7_capacity_39 : decode cX7_capacity 39 = .ok (.iconst 0, 1) := by decide +kernel
theorem dX7_capacity_40 : decode cX7_capacity 40 = .ok (.iastore, 1) := by decide +kernel
theorem dX7_capacity_41 : decode cX7_capacity 41 = .ok (.aload_n 0, 1) := by decide +kernel
theorem dX7_capacity_42 : decode cX7_capacity 42 = .ok (.getfield 7, 3) := by decide +kernel
theorem dX7_capacity_45 : decode cX7_capacity 45 = .ok (.sipush 381, 3) := by decide +kernel
theorem dX7_capacity_48 : decode cX7_capacity 48 = .ok (.iconst 0, 1) := by decide +kernel
theorem dX7_capacity_49 : decode cX7_capacity 49 = .ok (.iastore, 1) := by decide +kernel
theorem dX7_capacity_50 : decode cX7_capacity 50 = .ok (.aload_n 0, 1) := by decide +kernel
theorem dX7_capacity_51 : decode cX7_capacity 51 = .ok (.getfield 7, 3) := by decide +kernel
theorem dX7_capacity_54 : decode cX7_capacity 54 = .ok (.bipush 80, 2) := by decide +kernel
theorem dX7_capacity_56 : decode cX7_capacity 56 = .ok (.iconst 0, 1) := by decide +kernel
theorem dX7_capacity_57 : decode cX7_capacity 57 = .ok (.iastore, 1) := by decide +kernel
theorem dX7_capacity_58 : decode cX7_capacity 58 = .ok (.aload_n 0, 1) := by decide +kernel
theorem dX7_capacity_59 : decode cX7_capacity 59 = .ok (.invokevirtual 33, 3) := by decide +kernel
theorem dX7_capacity_62 : decode cX7_capacity 62 = .ok (.iconst 0, 1) := by decide +kernel
theorem dX7_capacity_63 : decode cX7_capacity 63 = .ok (.istore 4, 2) := by decide +kernel
theorem dX7_capacity_65 : decode cX7_capacity 65 = .ok (.iload 4, 2) := by decide +kernel
theorem dX7_capacity_67 : decode cX7_capacity 67 = .ok (.iload_n 3, 1) := by decide +kernel
theorem dX7_capacity_68 : decode cX7_capacity 68 = .ok (.if_icmp .ge 33, 3) := by decide +kernel
theorem dX7_capacity_71 : decode cX7_capacity 71 = .ok (.aload_n 0, 1) := by decide +kernel
theorem dX7_capacity_72 : decode cX7_capacity 72 = .ok (.aload_n 0, 1) := by decide +kernel
theorem dX7_capacity_73 : decode cX7_capacity 73 = .ok (.iload_n 2, 1) := by decide +kernel
theorem dX7_capacity_74 : decode cX7_capacity 74 = .ok (.invokevirtual 79, 3) := by decide +kernel
theorem dX7_capacity_77 : decode cX7_capacity 77 = .ok (.iload_n 2, 1) := by decide +kernel
theorem dX7_capacity_78 : decode cX7_capacity 78 = .ok (.invokevirtual 83, 3) := by decide +kernel
theorem dX7_capacity_81 : decode cX7_capacity 81 = .ok (.ifCond .eq 10, 3) := by decide +kernel
theorem dX7_capacity_84 : decode cX7_capacity 84 = .ok (.aload_n 0, 1) := by decide +kernel
theorem dX7_capacity_85 : decode cX7_capacity 85 = .ok (.iload_n 1, 1) := by decide +kernel
theorem dX7_capacity_86 : decode cX7_capacity 86 = .ok (.iload_n 2, 1) := by decide +kernel
theorem dX7_capacity_87 : decode cX7_capacity 87 = .ok (.invokevirtual 86, 3) := by decide +kernel
theorem dX7_capacity_90 : decode cX7_capacity 90 = .ok (.pop, 1) := by decide +kernel
theorem dX7_capacity_91 : decode cX7_capacity 91 = .ok (.aload_n 0, 1) := by decide +kernel
theorem dX7_capacity_92 : decode cX7_capacity 92 = .ok (.invokevirtual 168, 3) := by decide +kernel
theorem dX7_capacity_95 : decode cX7_capacity 95 = .ok (.iinc 4 1, 3) := by decide +kernel
theorem dX7_capacity_98 : decode cX7_capacity 98 = .ok (.goto (-33), 3) := by decide +kernel
theorem dX7_capacity_101 : decode cX7_capacity 101 = .ok (.aload_n 0, 1) := by decide +kernel
theorem dX7_capacity_102 : decode cX7_capacity 102 = .ok (.iconst 3, 1) := by decide +kernel
theorem dX7_capacity_103 : decode cX7_capacity 103 = .ok (.invokevirtual 165, 3) := by decide +kernel
theorem dX7_capacity_106 : decode cX7_capacity 106 = .ok (.istore 4, 2) := by decide +kernel
theorem dX7_capacity_108 : decode cX7_capacity 108 = .ok (.aload_n 0, 1) := by decide +kernel
theorem dX7_capacity_109 : decode cX7_capacity 109 = .ok (.invokevirtual 174, 3) := by decide +kernel
theorem dX7_capacity_112 : decode cX7_capacity 112 = .ok (.iload 4, 2) := by decide +kernel
theorem dX7_capacity_114 : decode cX7_capacity 114 = .ok (.ireturn, 1) := by decide +kernel
theorem dX7_say_0 : decode cX7_say 0 = .ok (.iload_n 1, 1) := by decide +kernel
theorem dX7_say_1 : decode cX7_say 1 = .ok (.bipush 33, 2) := by decide +kernel
theorem dX7_say_3 : decode cX7_say 3 = .ok (.bipush 126, 2) := by decide +kernel
theorem dX7_say_5 : decode cX7_say 5 = .ok (.invokestatic 40, 3) := by decide +kernel
theorem dX7_say_8 : decode cX7_say 8 = .ok (.ifCond .ne 6, 3) := by decide +kernel
theorem dX7_say_11 : decode cX7_say 11 = .ok (.bipush (-2), 2) := by decide +kernel
theorem dX7_say_13 : decode cX7_say 13 = .ok (.ireturn, 1) := by decide +kernel
theorem dX7_say_14 : decode cX7_say 14 = .ok (.aload_n 0, 1) := by decide +kernel
theorem dX7_say_15 : decode cX7_say 15 = .ok (.getfield 177, 3) := by decide +kernel
theorem dX7_say_18 : decode cX7_say 18 = .ok (.bipush 60, 2) := by decide +kernel
theorem dX7_say_20 : decode cX7_say 20 = .ok (.if_icmp .ne 6, 3) := by decide +kernel
theorem dX7_say_23 : decode cX7_say 23 = .ok (.bipush (-4), 2) := by decide +kernel
theorem dX7_say_25 : decode cX7_say 25 = .ok (.ireturn, 1) := by decide +kernel
theorem dX7_say_26 : decode cX7_say 26 = .ok (.aload_n 0, 1) := by decide +kernel
theorem dX7_say_27 : decode cX7_say 27 = .ok (.getfield 23, 3) := by decide +kernel
theorem dX7_say_30 : decode cX7_say 30 = .ok (.aload_n 0, 1) := by decide +kernel
theorem dX7_say_31 : decode cX7_say 31 = .ok (.getfield 177, 3) := by decide +kernel
theorem dX7_say_34 : decode cX7_say 34 = .ok (.iload_n 1, 1) := by decide +kernel
theorem dX7_say_35 : decode cX7_say 35 = .ok (.iastore, 1) := by decide +kernel
theorem dX7_say_36 : decode cX7_say 36 = .ok (.aload_n 0, 1) := by decide +kernel
theorem dX7_say_37 : decode cX7_say 37 = .ok (.dup, 1) := by decide +kernel
theorem dX7_say_38 : decode cX7_say 38 = .ok (.getfield 177, 3) := by decide +kernel
theorem dX7_say_41 : decode cX7_say 41 = .ok (.iconst 1, 1) := by decide +kernel
theorem dX7_say_42 : decode cX7_say 42 = .ok (.iadd, 1) := by decide +kernel
theorem dX7_say_43 : decode cX7_say 43 = .ok (.putfield 177, 3) := by decide +kernel
theorem dX7_say_46 : decode cX7_say 46 = .ok (.aload_n 0, 1) := by decide +kernel
theorem dX7_say_47 : decode cX7_say 47 = .ok (.getfield 177, 3) := by decide +kernel
theorem dX7_say_50 : decode cX7_say 50 = .ok (.ireturn, 1) := by decide +kernel
theorem dX7_wipe_0 : decode cX7_wipe 0 = .ok (.aload_n 0, 1) := by decide +kernel
theorem dX7_wipe_1 : decode cX7_wipe 1 = .ok (.getfield 177, 3) := by decide +kernel
theorem dX7_wipe_4 : decode cX7_wipe 4 = .ok (.istore_n 1, 1) := by decide +kernel
theorem dX7_wipe_5 : decode cX7_wipe 5 = .ok (.aload_n 0, 1) := by decide +kernel
theorem dX7_wipe_6 : decode cX7_wipe 6 = .ok (.iconst 0, 1) := by decide +kernel
theorem dX7_wipe_7 : decode cX7_wipe 7 = .ok (.putfield 177, 3) := by decide +kernel
theorem dX7_wipe_10 : decode cX7_wipe 10 = .ok (.iload_n 1, 1) := by decide +kernel
theorem dX7_wipe_11 : decode cX7_wipe 11 = .ok (.ireturn, 1) := by decide +kernel
theorem dX7_nextSign_0 : decode cX7_nextSign 0 = .ok (.aload_n 0, 1) := by decide +kernel
theorem dX7_nextSign_1 : decode cX7_nextSign 1 = .ok (.getfield 181, 3) := by decide +kernel
theorem dX7_nextSign_4 : decode cX7_nextSign 4 = .ok (.aload_n 0, 1) := by decide +kernel
theorem dX7_nextSign_5 : decode cX7_nextSign 5 = .ok (.getfield 177, 3) := by decide +kernel
theorem dX7_nextSign_8 : decode cX7_nextSign 8 = .ok (.if_icmp .ge 15, 3) := by decide +kernel
theorem dX7_nextSign_11 : decode cX7_nextSign 11 = .ok (.aload_n 0, 1) := by decide +kernel
theorem dX7_nextSign_12 : decode cX7_nextSign 12 = .ok (.getfield 23, 3) := by decide +kernel
theorem dX7_nextSign_15 : decode cX7_nextSign 15 = .ok (.aload_n 0, 1) := by decide +kernel
theorem dX7_nextSign_16 : decode cX7_nextSign 16 = .ok (.getfield 181, 3) := by decide +kernel
theorem dX7_nextSign_19 : decode cX7_nextSign 19 = .ok (.iaload, 1) := by decide +kernel
theorem dX7_nextSign_20 : decode cX7_nextSign 20 = .ok (.goto 4, 3) := by decide +kernel
theorem dX7_nextSign_23 : decode cX7_nextSign 23 = .ok (.iconst 0, 1) := by decide +kernel
theorem dX7_nextSign_24 : decode cX7_nextSign 24 = .ok (.ireturn, 1) := by decide +kernel
theorem dX7_takeNumber_0 : decode cX7_takeNumber 0 = .ok (.aload_n 0, 1) := by decide +kernel
theorem dX7_takeNumber_1 : decode cX7_takeNumber 1 = .ok (.invokevirtual 184, 3) := by decide +kernel
theorem dX7_takeNumber_4 : decode cX7_takeNumber 4 = .ok (.bipush 48, 2) := by decide +kernel
theorem dX7_takeNumber_6 : decode cX7_takeNumber 6 = .ok (.isub, 1) := by decide +kernel
theorem dX7_takeNumber_7 : decode cX7_takeNumber 7 = .ok (.istore_n 3, 1) := by decide +kernel
theorem dX7_takeNumber_8 : decode cX7_takeNumber 8 = .ok (.iload_n 3, 1) := by decide +kernel
theorem dX7_takeNumber_9 : decode cX7_takeNumber 9 = .ok (.iload_n 1, 1) := by decide +kernel
theorem dX7_takeNumber_10 : decode cX7_takeNumber 10 = .ok (.bipush 9, 2) := by decide +kernel
theorem dX7_takeNumber_12 : decode cX7_takeNumber 12 = .ok (.invokestatic 40, 3) := by decide +kernel
theorem dX7_takeNumber_15 : decode cX7_takeNumber 15 = .ok (.ifCond .eq 8, 3) := by decide +kernel
theorem dX7_takeNumber_18 : decode cX7_takeNumber 18 = .ok (.iload_n 3, 1) := by decide +kernel
theorem dX7_takeNumber_19 : decode cX7_takeNumber 19 = .ok (.iload_n 2, 1) := by decide +kernel
theorem dX7_takeNumber_20 : decode cX7_takeNumber 20 = .ok (.if_icmp .le 10, 3) := by decide +kernel
theorem dX7_takeNumber_23 : decode cX7_takeNumber 23 = .ok (.aload_n 0, 1) := by decide +kernel
theorem dX7_takeNumber_24 : decode cX7_takeNumber 24 = .ok (.iconst 1, 1) := by decide +kernel
theorem dX7_takeNumber_25 : decode cX7_takeNumber 25 = .ok (.putfield 187, 3) := by decide +kernel
theorem dX7_takeNumber_28 : decode cX7_takeNumber 28 = .ok (.iconst 0, 1) := by decide +kernel
theorem dX7_takeNumber_29 : decode cX7_takeNumber 29 = .ok (.ireturn, 1) := by decide +kernel
theorem dX7_takeNumber_30 : decode cX7_takeNumber 30 = .ok (.aload_n 0, 1) := by decide +kernel
theorem dX7_takeNumber_31 : decode cX7_takeNumber 31 = .ok (.dup, 1) := by decide +kernel
theorem dX7_takeNumber_32 : decode cX7_takeNumber 32 = .ok (.getfield 181, 3) := by decide +kernel
theorem dX7_takeNumber_35 : decode cX7_takeNumber 35 = .ok (.iconst 1, 1) := by decide +kernel
theorem dX7_takeNumber_36 : decode cX7_takeNumber 36 = .ok (.iadd, 1) := by decide +kernel
theorem dX7_takeNumber_37 : decode cX7_takeNumber 37 = .ok (.putfield 181, 3) := by decide +kernel
theorem dX7_takeNumber_40 : decode cX7_takeNumber 40 = .ok (.iload_n 3, 1) := by decide +kernel
theorem dX7_takeNumber_41 : decode cX7_takeNumber 41 = .ok (.ifCond .le 59, 3) := by decide +kernel
theorem dX7_takeNumber_44 : decode cX7_takeNumber 44 = .ok (.aload_n 0, 1) := by decide +kernel
theorem dX7_takeNumber_45 : decode cX7_takeNumber 45 = .ok (.invokevirtual 184, 3) := by decide +kernel
theorem dX7_takeNumber_48 : decode cX7_takeNumber 48 = .ok (.bipush 48, 2) := by decide +kernel
theorem dX7_takeNumber_50 : decode cX7_takeNumber 50 = .ok (.bipush 57, 2) := by decide +kernel
theorem dX7_takeNumber_52 : decode cX7_takeNumber 52 = .ok (.invokestatic 40, 3) := by decide +kernel
theorem dX7_takeNumber_55 : decode cX7_takeNumber 55 = .ok (.ifCond .eq 45, 3) := by decide +kernel
theorem dX7_takeNumber_58 : decode cX7_takeNumber 58 = .ok (.bipush 10, 2) := by decide +kernel
theorem dX7_takeNumber_60 : decode cX7_takeNumber 60 = .ok (.iload_n 3, 1) := by decide +kernel
theorem dX7_takeNumber_61 : decode cX7_takeNumber 61 = .ok (.imul, 1) := by decide +kernel
theorem dX7_takeNumber_62 : decode cX7_takeNumber 62 = .ok (.aload_n 0, 1) := by decide +kernel
theorem dX7_takeNumber_63 : decode cX7_takeNumber 63 = .ok (.invokevirtual 184, 3) := by decide +kernel
theorem dX7_takeNumber_66 : decode cX7_takeNumber 66 = .ok (.iadd, 1) := by decide +kernel
theorem dX7_takeNumber_67 : decode cX7_takeNumber 67 = .ok (.bipush 48, 2) := by decide +kernel
theorem dX7_takeNumber_69 : decode cX7_takeNumber 69 = .ok (.isub, 1) := by decide +kernel
theorem dX7_takeNumber_70 : decode cX7_takeNumber 70 = .ok (.iload_n 2, 1) := by decide +kernel
theorem dX7_takeNumber_71 : decode cX7_takeNumber 71 = .ok (.if_icmp .gt 29, 3) := by decide +kernel
theorem dX7_takeNumber_74 : decode cX7_takeNumber 74 = .ok (.bipush 10, 2) := by decide +kernel
theorem dX7_takeNumber_76 : decode cX7_takeNumber 76 = .ok (.iload_n 3, 1) := by decide +kernel
theorem dX7_takeNumber_77 : decode cX7_takeNumber 77 = .ok (.imul, 1) := by decide +kernel
theorem dX7_takeNumber_78 : decode cX7_takeNumber 78 = .ok (.aload_n 0, 1) := by decide +kernel
theorem dX7_takeNumber_79 : decode cX7_takeNumber 79 = .ok (.invokevirtual 184, 3) := by decide +kernel
theorem dX7_takeNumber_82 : decode cX7_takeNumber 82 = .ok (.iadd, 1) := by decide +kernel
theorem dX7_takeNumber_83 : decode cX7_takeNumber 83 = .ok (.bipush 48, 2) := by decide +kernel
theorem dX7_takeNumber_85 : decode cX7_takeNumber 85 = .ok (.isub, 1) := by decide +kernel
theorem dX7_takeNumber_86 : decode cX7_takeNumber 86 = .ok (.istore_n 3, 1) := by decide +kernel
theorem dX7_takeNumber_87 : decode cX7_takeNumber 87 = .ok (.aload_n 0, 1) := by decide +kernel
theorem dX7_takeNumber_88 : decode cX7_takeNumber 88 = .ok (.dup, 1) := by decide +kernel
theorem dX7_takeNumber_89 : decode cX7_takeNumber 89 = .ok (.getfield 181, 3) := by decide +kernel
theorem dX7_takeNumber_92 : decode cX7_takeNumber 92 = .ok (.iconst 1, 1) := by decide +kernel
theorem dX7_takeNumber_93 : decode cX7_takeNumber 93 = .ok (.iadd, 1) := by decide +kernel
theorem dX7_takeNumber_94 : decode cX7_takeNumber 94 = .ok (.putfield 181, 3) := by decide +kernel
theorem dX7_takeNumber_97 : decode cX7_takeNumber 97 = .ok (.goto (-57), 3) := by decide +kernel
theorem dX7_takeNumber_100 : decode cX7_takeNumber 100 = .ok (.iload_n 3, 1) := by decide +kernel
theorem dX7_takeNumber_101 : decode cX7_takeNumber 101 = .ok (.ireturn, 1) := by decide +kernel
theorem dX7_takeSide_0 : decode cX7_takeSide 0 = .ok (.aload_n 0, 1) := by decide +kernel
theorem dX7_takeSide_1 : decode cX7_takeSide 1 = .ok (.getfield 187, 3) := by decide +kernel
theorem dX7_takeSide_4 : decode cX7_takeSide 4 = .ok (.ifCond .ne 21, 3) := by decide +kernel
theorem dX7_takeSide_7 : decode cX7_takeSide 7 = .ok (.aload_n 0, 1) := by decide +kernel
theorem dX7_takeSide_8 : decode cX7_takeSide 8 = .ok (.invokevirtual 184, 3) := by decide +kernel
theorem dX7_takeSide_11 : decode cX7_takeSide 11 = .ok (.bipush 43, 2) := by decide +kernel
theorem dX7_takeSide_13 : decode cX7_takeSide 13 = .ok (.if_icmp .eq 19, 3) := by decide +kernel
theorem dX7_takeSide_16 : decode cX7_takeSide 16 = .ok (.aload_n 0, 1) := by decide +kernel
theorem dX7_takeSide_17 : decode cX7_takeSide 17 = .ok (.invokevirtual 184, 3) := by decide +kernel
theorem dX7_takeSide_20 : decode cX7_takeSide 20 = .ok (.bipush 45, 2) := by decide +kernel
theorem dX7_takeSide_22 : decode cX7_takeSide 22 = .ok (.if_icmp .eq 10, 3) := by decide +kernel
theorem dX7_takeSide_25 : decode cX7_takeSide 25 = .ok (.aload_n 0, 1) := by decide +kernel
theorem dX7_takeSide_26 : decode cX7_takeSide 26 = .ok (.iconst 1, 1) := by decide +kernel
theorem dX7_takeSide_27 : decode cX7_takeSide 27 = .ok (.putfield 187, 3) := by decide +kernel
theorem dX7_takeSide_30 : decode cX7_takeSide 30 = .ok (.iconst 0, 1) := by decide +kernel
theorem dX7_takeSide_31 : decode cX7_takeSide 31 = .ok (.ireturn, 1) := by decide +kernel
theorem dX7_takeSide_32 : decode cX7_takeSide 32 = .ok (.aload_n 0, 1) := by decide +kernel
theorem dX7_takeSide_33 : decode cX7_takeSide 33 = .ok (.dup, 1) := by decide +kernel
theorem dX7_takeSide_34 : decode cX7_takeSide 34 = .ok (.getfield 181, 3) := by decide +kernel
theorem dX7_takeSide_37 : decode cX7_takeSide 37 = .ok (.iconst 1, 1) := by decide +kernel
theorem dX7_takeSide_38 : decode cX7_takeSide 38 = .ok (.iadd, 1) := by decide +kernel
theorem dX7_takeSide_39 : decode cX7_takeSide 39 = .ok (.putfield 181, 3) := by decide +kernel
theorem dX7_takeSide_42 : decode cX7_takeSide 42 = .ok (.aload_n 0, 1) := by decide +kernel
theorem dX7_takeSide_43 : decode cX7_takeSide 43 = .ok (.getfield 23, 3) := by decide +kernel
theorem dX7_takeSide_46 : decode cX7_takeSide 46 = .ok (.aload_n 0, 1) := by decide +kernel
theorem dX7_takeSide_47 : decode cX7_takeSide 47 = .ok (.getfield 181, 3) := by decide +kernel
theorem dX7_takeSide_50 : decode cX7_takeSide 50 = .ok (.iconst 1, 1) := by decide +kernel
theorem dX7_takeSide_51 : decode cX7_takeSide 51 = .ok (.isub, 1) := by decide +kernel
theorem dX7_takeSide_52 : decode cX7_takeSide 52 = .ok (.iaload, 1) := by decide +kernel
theorem dX7_takeSide_53 : decode cX7_takeSide 53 = .ok (.bipush 43, 2) := by decide +kernel
theorem dX7_takeSide_55 : decode cX7_takeSide 55 = .ok (.if_icmp .ne 7, 3) := by decide +kernel
theorem dX7_takeSide_58 : decode cX7_takeSide 58 = .ok (.iconst 0, 1) := by decide +kernel
theorem dX7_takeSide_59 : decode cX7_takeSide 59 = .ok (.goto 4, 3) := by decide +kernel
theorem dX7_takeSide_62 : decode cX7_takeSide 62 = .ok (.iconst 1, 1) := by decide +kernel
theorem dX7_takeSide_63 : decode cX7_takeSide 63 = .ok (.ireturn, 1) := by decide +kernel
theorem dX7_isForTrain_0 : decode cX7_isForTrain 0 = .ok (.iload_n 0, 1) := by decide +kernel
theorem dX7_isForTrain_1 : decode cX7_isForTrain 1 = .ok (.bipush 111, 2) := by decide +kernel
theorem dX7_isForTrain_3 : decode cX7_isForTrain 3 = .ok (.if_icmp .eq 21, 3) := by decide +kernel
theorem dX7_isForTrain_6 : decode cX7_isForTrain 6 = .ok (.iload_n 0, 1) := by decide +kernel
theorem dX7_isForTrain_7 : decode cX7_isForTrain 7 = .ok (.bipush 100, 2) := by decide +kernel
theorem dX7_isForTrain_9 : decode cX7_isForTrain 9 = .ok (.if_icmp .eq 15, 3) := by decide +kernel
theorem dX7_isForTrain_12 : decode cX7_isForTrain 12 = .ok (.iload_n 0, 1) := by decide +kernel
theorem dX7_isForTrain_13 : decode cX7_isForTrain 13 = .ok (.bipush 115, 2) := by decide +kernel
theorem dX7_isForTrain_15 : decode cX7_isForTrain 15 = .ok (.if_icmp .eq 9, 3) := by decide +kernel
theorem dX7_isForTrain_18 : decode cX7_isForTrain 18 = .ok (.iload_n 0, 1) := by decide +kernel
theorem dX7_isForTrain_19 : decode cX7_isForTrain 19 = .ok (.bipush 108, 2) := by decide +kernel
theorem dX7_isForTrain_21 : decode cX7_isForTrain 21 = .ok (.if_icmp .ne 7, 3) := by decide +kernel
theorem dX7_isForTrain_24 : decode cX7_isForTrain 24 = .ok (.iconst 1, 1) := by decide +kernel
theorem dX7_isForTrain_25 : decode cX7_isForTrain 25 = .ok (.goto 4, 3) := by decide +kernel
theorem dX7_isForTrain_28 : decode cX7_isForTrain 28 = .ok (.iconst 0, 1) := by decide +kernel
theorem dX7_isForTrain_29 : decode cX7_isForTrain 29 = .ok (.ireturn, 1) := by decide +kernel
theorem dX7_isForBlock_0 : decode cX7_isForBlock 0 = .ok (.iload_n 0, 1) := by decide +kernel
theorem dX7_isForBlock_1 : decode cX7_isForBlock 1 = .ok (.bipush 121, 2) := by decide +kernel
theorem dX7_isForBlock_3 : decode cX7_isForBlock 3 = .ok (.if_icmp .eq 33, 3) := by decide +kernel
theorem dX7_isForBlock_6 : decode cX7_isForBlock 6 = .ok (.iload_n 0, 1) := by decide +kernel
theorem dX7_isForBlock_7 : decode cX7_isForBlock 7 = .ok (.bipush 110, 2) := by decide +kernel
theorem dX7_isForBlock_9 : decode cX7_isForBlock 9 = .ok (.if_icmp .eq 27, 3) := by decide +kernel
theorem dX7_isForBlock_12 : decode cX7_isForBlock 12 = .ok (.iload_n 0, 1) := by decide +kernel
theorem dX7_isForBlock_13 : decode cX7_isForBlock 13 = .ok (.bipush 99, 2) := by decide +kernel
theorem dX7_isForBlock_15 : decode cX7_isForBlock 15 = .ok (.if_icmp .eq 21, 3) := by decide +kernel
theorem dX7_isForBlock_18 : decode cX7_isForBlock 18 = .ok (.iload_n 0, 1) := by decide +kernel
theorem dX7_isForBlock_19 : decode cX7_isForBlock 19 = .ok (.bipush 97, 2) := by decide +kernel
theorem dX7_isForBlock_21 : decode cX7_isForBlock 21 = .ok (.if_icmp .eq 15, 3) := by decide +kernel
theorem dX7_isForBlock_24 : decode cX7_isForBlock 24 = .ok (.iload_n 0, 1) := by decide +kernel
theorem dX7_isForBlock_25 : decode cX7_isForBlock 25 = .ok (.bipush 117, 2) := by decide +kernel
theorem dX7_isForBlock_27 : decode cX7_isForBlock 27 = .ok (.if_icmp .eq 9, 3) := by decide +kernel
theorem dX7_isForBlock_30 : decode cX7_isForBlock 30 = .ok (.iload_n 0, 1) := by decide +kernel
theorem dX7_isForBlock_31 : decode cX7_isForBlock 31 = .ok (.bipush 101, 2) := by decide +kernel
theorem dX7_isForBlock_33 : decode cX7_isForBlock 33 = .ok (.if_icmp .ne 7, 3) := by decide +kernel
theorem dX7_isForBlock_36 : decode cX7_isForBlock 36 = .ok (.iconst 1, 1) := by decide +kernel
theorem dX7_isForBlock_37 : decode cX7_isForBlock 37 = .ok (.goto 4, 3) := by decide +kernel
theorem dX7_isForBlock_40 : decode cX7_isForBlock 40 = .ok (.iconst 0, 1) := by decide +kernel
theorem dX7_isForBlock_41 : decode cX7_isForBlock 41 = .ok (.ireturn, 1) := by decide +kernel
theorem dX7_readOrder_0 : decode cX7_readOrder 0 = .ok (.aload_n 0, 1) := by decide +kernel
theorem dX7_readOrder_1 : decode cX7_readOrder 1 = .ok (.invokevirtual 184, 3) := by decide +kernel
theorem dX7_readOrder_4 : decode cX7_readOrder 4 = .ok (.istore_n 1, 1) := by decide +kernel
theorem dX7_readOrder_5 : decode cX7_readOrder 5 = .ok (.iload_n 1, 1) := by decide +kernel
theorem dX7_readOrder_6 : decode cX7_readOrder 6 = .ok (.invokestatic 191, 3) := by decide +kernel
theorem dX7_readOrder_9 : decode cX7_readOrder 9 = .ok (.ifCond .ne 22, 3) := by decide +kernel
theorem dX7_readOrder_12 : decode cX7_readOrder 12 = .ok (.iload_n 1, 1) := by decide +kernel
theorem dX7_readOrder_13 : decode cX7_readOrder 13 = .ok (.invokestatic 194, 3) := by decide +kernel
theorem dX7_readOrder_16 : decode cX7_readOrder 16 = .ok (.ifCond .ne 15, 3) := by decide +kernel
theorem dX7_readOrder_19 : decode cX7_readOrder 19 = .ok (.iload_n 1, 1) := by decide +kernel
theorem dX7_readOrder_20 : decode cX7_readOrder 20 = .ok (.bipush 116, 2) := by decide +kernel
theorem dX7_readOrder_22 : decode cX7_readOrder 22 = .ok (.if_icmp .eq 9, 3) := by decide +kernel
theorem dX7_readOrder_25 : decode cX7_readOrder 25 = .ok (.aload_n 0, 1) := by decide +kernel
theorem dX7_readOrder_26 : decode cX7_readOrder 26 = .ok (.iconst 1, 1) := by decide +kernel
theorem dX7_readOrder_27 : decode cX7_readOrder 27 = .ok (.putfield 187, 3) := by decide +kernel
theorem dX7_readOrder_30 : decode cX7_readOrder 30 = .ok (.return_, 1) := by decide +kernel
theorem dX7_readOrder_31 : decode cX7_readOrder 31 = .ok (.aload_n 0, 1) := by decide +kernel
theorem dX7_readOrder_32 : decode cX7_readOrder 32 = .ok (.dup, 1) := by decide +kernel
theorem dX7_readOrder_33 : decode cX7_readOrder 33 = .ok (.getfield 181, 3) := by decide +kernel
theorem dX7_readOrder_36 : decode cX7_readOrder 36 = .ok (.iconst 1, 1) := by decide +kernel
theorem dX7_readOrder_37 : decode cX7_readOrder 37 = .ok (.iadd, 1) := by decide +kernel
theorem dX7_readOrder_38 : decode cX7_readOrder 38 = .ok (.putfield 181, 3) := by decide +kernel
theorem dX7_readOrder_41 : decode cX7_readOrder 41 = .ok (.iconst 3, 1) := by decide +kernel
theorem dX7_readOrder_42 : decode cX7_readOrder 42 = .ok (.aload_n 0, 1) := by decide +kernel
theorem dX7_readOrder_43 : decode cX7_readOrder 43 = .ok (.getfield 197, 3) := by decide +kernel
theorem dX7_readOrder_46 : decode cX7_readOrder 46 = .ok (.imul, 1) := by decide +kernel
theorem dX7_readOrder_47 : decode cX7_readOrder 47 = .ok (.istore_n 2, 1) := by decide +kernel
theorem dX7_readOrder_48 : decode cX7_readOrder 48 = .ok (.aload_n 0, 1) := by decide +kernel
theorem dX7_readOrder_49 : decode cX7_readOrder 49 = .ok (.getfield 26, 3) := by decide +kernel
theorem dX7_readOrder_52 : decode cX7_readOrder 52 = .ok (.iload_n 2, 1) := by decide +kernel
theorem dX7_readOrder_53 : decode cX7_readOrder 53 = .ok (.iload_n 1, 1) := by decide +kernel
theorem dX7_readOrder_54 : decode cX7_readOrder 54 = .ok (.iastore, 1) := by decide +kernel
theorem dX7_readOrder_55 : decode cX7_readOrder 55 = .ok (.aload_n 0, 1) := by decide +kernel
theorem dX7_readOrder_56 : decode cX7_readOrder 56 = .ok (.getfield 26, 3) := by decide +kernel
theorem dX7_readOrder_59 : decode cX7_readOrder 59 = .ok (.iload_n 2, 1) := by decide +kernel
theorem dX7_readOrder_60 : decode cX7_readOrder 60 = .ok (.iconst 1, 1) := by decide +kernel
theorem dX7_readOrder_61 : decode cX7_readOrder 61 = .ok (.iadd, 1) := by decide +kernel
theorem dX7_readOrder_62 : decode cX7_readOrder 62 = .ok (.iload_n 1, 1) := by decide +kernel
theorem dX7_readOrder_63 : decode cX7_readOrder 63 = .ok (.invokestatic 191, 3) := by decide +kernel
theorem dX7_readOrder_66 : decode cX7_readOrder 66 = .ok (.ifCond .eq 13, 3) := by decide +kernel
theorem dX7_readOrder_69 : decode cX7_readOrder 69 = .ok (.aload_n 0, 1) := by decide +kernel
theorem dX7_readOrder_70 : decode cX7_readOrder 70 = .ok (.iconst 0, 1) := by decide +kernel
theorem dX7_readOrder_71 : decode cX7_readOrder 71 = .ok (.bipush 11, 2) := by decide +kernel
theorem dX7_readOrder_73 : decode cX7_readOrder 73 = .ok (.invokevirtual 200, 3) := by decide +kernel
theorem dX7_readOrder_76 : decode cX7_readOrder 76 = .ok (.goto 26, 3) := by decide +kernel
theorem dX7_readOrder_79 : decode cX7_readOrder 79 = .ok (.iload_n 1, 1) := by decide +kernel
theorem dX7_readOrder_80 : decode cX7_readOrder 80 = .ok (.invokestatic 194, 3) := by decide +kernel
theorem dX7_readOrder_83 : decode cX7_readOrder 83 = .ok (.ifCond .eq 12, 3) := by decide +kernel
theorem dX7_readOrder_86 : decode cX7_readOrder 86 = .ok (.aload_n 0, 1) := by decide +kernel
theorem dX7_readOrder_87 : decode cX7_readOrder 87 = .ok (.iconst 0, 1) := by decide +kernel
theorem dX7_readOrder_88 : decode cX7_readOrder 88 = .ok (.iconst 4, 1) := by decide +kernel
theorem dX7_readOrder_89 : decode cX7_readOrder 89 = .ok (.invokevirtual 200, 3) := by decide +kernel
theorem dX7_readOrder_92 : decode cX7_readOrder 92 = .ok (.goto 10, 3) := by decide +kernel
theorem dX7_readOrder_95 : decode cX7_readOrder 95 = .ok (.aload_n 0, 1) := by decide +kernel
theorem dX7_readOrder_96 : decode cX7_readOrder 96 = .ok (.iconst 1, 1) := by decide +kernel
theorem dX7_readOrder_97 : decode cX7_readOrder 97 = .ok (.bipush 99, 2) := by decide +kernel
theorem dX7_readOrder_99 : decode cX7_readOrder 99 = .ok (.invokevirtual 200, 3) := by decide +kernel
theorem dX7_readOrder_102 : decode cX7_readOrder 102 = .ok (.iastore, 1) := by decide +kernel
theorem dX7_readOrder_103 : decode cX7_readOrder 103 = .ok (.aload_n 0, 1) := by decide +kernel
theorem dX7_readOrder_104 : decode cX7_readOrder 104 = .ok (.getfield 26, 3) := by decide +kernel
theorem dX7_readOrder_107 : decode cX7_readOrder 107 = .ok (.iload_n 2, 1) := by decide +kernel
theorem dX7_readOrder_108 : decode cX7_readOrder 108 = .ok (.iconst 2, 1) := by decide +kernel
theorem dX7_readOrder_109 : decode cX7_readOrder 109 = .ok (.iadd, 1) := by decide +kernel
theorem dX7_readOrder_110 : decode cX7_readOrder 110 = .ok (.iload_n 1, 1) := by decide +kernel
theorem dX7_readOrder_111 : decode cX7_readOrder 111 = .ok (.invokestatic 194, 3) := by decide +kernel
theorem dX7_readOrder_114 : decode cX7_readOrder 114 = .ok (.ifCond .eq 10, 3) := by decide +kernel
theorem dX7_readOrder_117 : decode cX7_readOrder 117 = .ok (.aload_n 0, 1) := by decide +kernel
theorem dX7_readOrder_118 : decode cX7_readOrder 118 = .ok (.invokevirtual 203, 3) := by decide +kernel
theorem dX7_readOrder_121 : decode cX7_readOrder 121 = .ok (.goto 4, 3) := by decide +kernel
theorem dX7_readOrder_124 : decode cX7_readOrder 124 = .ok (.iconst 0, 1) := by decide +kernel
theorem dX7_readOrder_125 : decode cX7_readOrder 125 = .ok (.iastore, 1) := by decide +kernel
theorem dX7_readOrder_126 : decode cX7_readOrder 126 = .ok (.aload_n 0, 1) := by decide +kernel
theorem dX7_readOrder_127 : decode cX7_readOrder 127 = .ok (.dup, 1) := by decide +kernel
theorem dX7_readOrder_128 : decode cX7_readOrder 128 = .ok (.getfield 197, 3) := by decide +kernel
theorem dX7_readOrder_131 : decode cX7_readOrder 131 = .ok (.iconst 1, 1) := by decide +kernel
theorem dX7_readOrder_132 : decode cX7_readOrder 132 = .ok (.iadd, 1) := by decide +kernel
theorem dX7_readOrder_133 : decode cX7_readOrder 133 = .ok (.putfield 197, 3) := by decide +kernel
theorem dX7_readOrder_136 : decode cX7_readOrder 136 = .ok (.return_, 1) := by decide +kernel
theorem dX7_fault_0 : decode cX7_fault 0 = .ok (.aload_n 0, 1) := by decide +kernel
theorem dX7_fault_1 : decode cX7_fault 1 = .ok (.iconst 0, 1) := by decide +kernel
theorem dX7_fault_2 : decode cX7_fault 2 = .ok (.putfield 181, 3) := by decide +kernel
theorem dX7_fault_5 : decode cX7_fault 5 = .ok (.aload_n 0, 1) := by decide +kernel
theorem dX7_fault_6 : decode cX7_fault 6 = .ok (.iconst 0, 1) := by decide +kernel
theorem dX7_fault_7 : decode cX7_fault 7 = .ok (.putfield 187, 3) := by decide +kernel
theorem dX7_fault_10 : decode cX7_fault 10 = .ok (.aload_n 0, 1) := by decide +kernel
theorem dX7_fault_11 : decode cX7_fault 11 = .ok (.iconst 0, 1) := by decide +kernel
theorem dX7_fault_12 : decode cX7_fault 12 = .ok (.putfield 197, 3) := by decide +kernel
theorem dX7_fault_15 : decode cX7_fault 15 = .ok (.aload_n 0, 1) := by decide +kernel
theorem dX7_fault_16 : decode cX7_fault 16 = .ok (.invokevirtual 206, 3) := by decide +kernel
theorem dX7_fault_19 : decode cX7_fault 19 = .ok (.aload_n 0, 1) := by decide +kernel
theorem dX7_fault_20 : decode cX7_fault 20 = .ok (.getfield 187, 3) := by decide +kernel
theorem dX7_fault_23 : decode cX7_fault 23 = .ok (.ifCond .ne 29, 3) := by decide +kernel
theorem dX7_fault_26 : decode cX7_fault 26 = .ok (.aload_n 0, 1) := by decide +kernel
theorem dX7_fault_27 : decode cX7_fault 27 = .ok (.invokevirtual 184, 3) := by decide +kernel
theorem dX7_fault_30 : decode cX7_fault 30 = .ok (.bipush 44, 2) := by decide +kernel
theorem dX7_fault_32 : decode cX7_fault 32 = .ok (.if_icmp .ne 20, 3) := by decide +kernel
theorem dX7_fault_35 : decode cX7_fault 35 = .ok (.aload_n 0, 1) := by decide +kernel
theorem dX7_fault_36 : decode cX7_fault 36 = .ok (.dup, 1) := by decide +kernel
theorem dX7_fault_37 : decode cX7_fault 37 = .ok (.getfield 181, 3) := by decide +kernel
theorem dX7_fault_40 : decode cX7_fault 40 = .ok (.iconst 1, 1) := by decide +kernel
theorem dX7_fault_41 : decode cX7_fault 41 = .ok (.iadd, 1) := by decide +kernel
theorem dX7_fault_42 : decode cX7_fault 42 = .ok (.putfield 181, 3) := by decide +kernel
theorem dX7_fault_45 : decode cX7_fault 45 = .ok (.aload_n 0, 1) := by decide +kernel
theorem dX7_fault_46 : decode cX7_fault 46 = .ok (.invokevirtual 206, 3) := by decide +kernel
theorem dX7_fault_49 : decode cX7_fault 49 = .ok (.goto (-30), 3) := by decide +kernel
theorem dX7_fault_52 : decode cX7_fault 52 = .ok (.aload_n 0, 1) := by decide +kernel
theorem dX7_fault_53 : decode cX7_fault 53 = .ok (.getfield 187, 3) := by decide +kernel
theorem dX7_fault_56 : decode cX7_fault 56 = .ok (.ifCond .ne 14, 3) := by decide +kernel
theorem dX7_fault_59 : decode cX7_fault 59 = .ok (.aload_n 0, 1) := by decide +kernel
theorem dX7_fault_60 : decode cX7_fault 60 = .ok (.getfield 181, 3) := by decide +kernel
theorem dX7_fault_63 : decode cX7_fault 63 = .ok (.aload_n 0, 1) := by decide +kernel
theorem dX7_fault_64 : decode cX7_fault 64 = .ok (.getfield 177, 3) := by decide +kernel
theorem dX7_fault_67 : decode cX7_fault 67 = .ok (.if_icmp .ge 10, 3) := by decide +kernel
theorem dX7_fault_70 : decode cX7_fault 70 = .ok (.aload_n 0, 1) := by decide +kernel
theorem dX7_fault_71 : decode cX7_fault 71 = .ok (.getfield 181, 3) := by decide +kernel
theorem dX7_fault_74 : decode cX7_fault 74 = .ok (.goto 5, 3) := by decide +kernel
theorem dX7_fault_77 : decode cX7_fault 77 = .ok (.bipush (-6), 2) := by decide +kernel
theorem dX7_fault_79 : decode cX7_fault 79 = .ok (.ireturn, 1) := by decide +kernel
theorem dX7_carryOutOne_0 : decode cX7_carryOutOne 0 = .ok (.iload_n 1, 1) := by decide +kernel
theorem dX7_carryOutOne_1 : decode cX7_carryOutOne 1 = .ok (.tableswitch 185 97 121 #[164, 185, 157, 121, 178, 185, 185, 185, 185, 185, 185, 133, 185, 139, 115, 185, 185, 185, 127, 185, 171, 185, 185, 185, 139], 115) := by decide +kernel
theorem dX7_carryOutOne_116 : decode cX7_carryOutOne 116 = .ok (.aload_n 0, 1) := by decide +kernel
theorem dX7_carryOutOne_117 : decode cX7_carryOutOne 117 = .ok (.iload_n 2, 1) := by decide +kernel
theorem dX7_carryOutOne_118 : decode cX7_carryOutOne 118 = .ok (.invokevirtual 152, 3) := by decide +kernel
theorem dX7_carryOutOne_121 : decode cX7_carryOutOne 121 = .ok (.ireturn, 1) := by decide +kernel
theorem dX7_carryOutOne_122 : decode cX7_carryOutOne 122 = .ok (.aload_n 0, 1) := by decide +kernel
theorem dX7_carryOutOne_123 : decode cX7_carryOutOne 123 = .ok (.iload_n 2, 1) := by decide +kernel
theorem dX7_carryOutOne_124 : decode cX7_carryOutOne 124 = .ok (.invokevirtual 155, 3) := by decide +kernel
theorem dX7_carryOutOne_127 : decode cX7_carryOutOne 127 = .ok (.ireturn, 1) := by decide +kernel
theorem dX7_carryOutOne_128 : decode cX7_carryOutOne 128 = .ok (.aload_n 0, 1) := by decide +kernel
theorem dX7_carryOutOne_129 : decode cX7_carryOutOne 129 = .ok (.iload_n 2, 1) := by decide +kernel
theorem dX7_carryOutOne_130 : decode cX7_carryOutOne 130 = .ok (.invokevirtual 209, 3) := by decide +kernel
theorem dX7_carryOutOne_133 : decode cX7_carryOutOne 133 = .ok (.ireturn, 1) := by decide +kernel
theorem dX7_carryOutOne_134 : decode cX7_carryOutOne 134 = .ok (.aload_n 0, 1) := by decide +kernel
theorem dX7_carryOutOne_135 : decode cX7_carryOutOne 135 = .ok (.iload_n 2, 1) := by decide +kernel
theorem dX7_carryOutOne_136 : decode cX7_carryOutOne 136 = .ok (.invokevirtual 149, 3) := by decide +kernel
theorem dX7_carryOutOne_139 : decode cX7_carryOutOne 139 = .ok (.ireturn, 1) := by decide +kernel
theorem dX7_carryOutOne_140 : decode cX7_carryOutOne 140 = .ok (.aload_n 0, 1) := by decide +kernel
theorem dX7_carryOutOne_141 : decode cX7_carryOutOne 141 = .ok (.iload_n 2, 1) := by decide +kernel
theorem dX7_carryOutOne_142 : decode cX7_carryOutOne 142 = .ok (.iload_n 3, 1) := by decide +kernel
theorem dX7_carryOutOne_143 : decode cX7_carryOutOne 143 = .ok (.iload_n 1, 1) := by decide +kernel
theorem dX7_carryOutOne_144 : decode cX7_carryOutOne 144 = .ok (.bipush 121, 2) := by decide +kernel
theorem dX7_carryOutOne_146 : decode cX7_carryOutOne 146 = .ok (.if_icmp .ne 7, 3) := by decide +kernel
theorem dX7_carryOutOne_149 : decode cX7_carryOutOne 149 = .ok (.iconst 1, 1) := by decide +kernel
theorem dX7_carryOutOne_150 : decode cX7_carryOutOne 150 = .ok (.goto 4, 3) := by decide +kernel
theorem dX7_carryOutOne_153 : decode cX7_carryOutOne 153 = .ok (.iconst 0, 1) := by decide +kernel
theorem dX7_carryOutOne_154 : decode cX7_carryOutOne 154 = .ok (.invokevirtual 145, 3) := by decide +kernel
theorem dX7_carryOutOne_157 : decode cX7_carryOutOne 157 = .ok (.ireturn, 1) := by decide +kernel
theorem dX7_carryOutOne_158 : decode cX7_carryOutOne 158 = .ok (.aload_n 0, 1) := by decide +kernel
theorem dX7_carryOutOne_159 : decode cX7_carryOutOne 159 = .ok (.iload_n 2, 1) := by decide +kernel
theorem dX7_carryOutOne_160 : decode cX7_carryOutOne 160 = .ok (.iload_n 3, 1) := by decide +kernel
theorem dX7_carryOutOne_161 : decode cX7_carryOutOne 161 = .ok (.invokevirtual 212, 3) := by decide +kernel
theorem dX7_carryOutOne_164 : decode cX7_carryOutOne 164 = .ok (.ireturn, 1) := by decide +kernel
theorem dX7_carryOutOne_165 : decode cX7_carryOutOne 165 = .ok (.aload_n 0, 1) := by decide +kernel
theorem dX7_carryOutOne_166 : decode cX7_carryOutOne 166 = .ok (.iload_n 2, 1) := by decide +kernel
theorem dX7_carryOutOne_167 : decode cX7_carryOutOne 167 = .ok (.iload_n 3, 1) := by decide +kernel
theorem dX7_carryOutOne_168 : decode cX7_carryOutOne 168 = .ok (.invokevirtual 142, 3) := by decide +kernel
theorem dX7_carryOutOne_171 : decode cX7_carryOutOne 171 = .ok (.ireturn, 1) := by decide +kernel
theorem dX7_carryOutOne_172 : decode cX7_carryOutOne 172 = .ok (.aload_n 0, 1) := by decide +kernel
theorem dX7_carryOutOne_173 : decode cX7_carryOutOne 173 = .ok (.iload_n 2, 1) := by decide +kernel
theorem dX7_carryOutOne_174 : decode cX7_carryOutOne 174 = .ok (.iload_n 3, 1) := by decide +kernel
theorem dX7_carryOutOne_175 : decode cX7_carryOutOne 175 = .ok (.invokevirtual 136, 3) := by decide +kernel
theorem dX7_carryOutOne_178 : decode cX7_carryOutOne 178 = .ok (.ireturn, 1) := by decide +kernel
theorem dX7_carryOutOne_179 : decode cX7_carryOutOne 179 = .ok (.aload_n 0, 1) := by decide +kernel
theorem dX7_carryOutOne_180 : decode cX7_carryOutOne 180 = .ok (.iload_n 2, 1) := by decide +kernel
theorem dX7_carryOutOne_181 : decode cX7_carryOutOne 181 = .ok (.iload_n 3, 1) := by decide +kernel
theorem dX7_carryOutOne_182 : decode cX7_carryOutOne 182 = .ok (.invokevirtual 139, 3) := by decide +kernel
theorem dX7_carryOutOne_185 : decode cX7_carryOutOne 185 = .ok (.ireturn, 1) := by decide +kernel
theorem dX7_carryOutOne_186 : decode cX7_carryOutOne 186 = .ok (.aload_n 0, 1) := by decide +kernel
theorem dX7_carryOutOne_187 : decode cX7_carryOutOne 187 = .ok (.iload_n 2, 1) := by decide +kernel
theorem dX7_carryOutOne_188 : decode cX7_carryOutOne 188 = .ok (.invokevirtual 215, 3) := by decide +kernel
theorem dX7_carryOutOne_191 : decode cX7_carryOutOne 191 = .ok (.ireturn, 1) := by decide +kernel
theorem dX7_carryOut_0 : decode cX7_carryOut 0 = .ok (.aload_n 0, 1) := by decide +kernel
theorem dX7_carryOut_1 : decode cX7_carryOut 1 = .ok (.invokevirtual 218, 3) := by decide +kernel
theorem dX7_carryOut_4 : decode cX7_carryOut 4 = .ok (.bipush (-6), 2) := by decide +kernel
theorem dX7_carryOut_6 : decode cX7_carryOut 6 = .ok (.if_icmp .eq 6, 3) := by decide +kernel
theorem dX7_carryOut_9 : decode cX7_carryOut 9 = .ok (.bipush (-3), 2) := by decide +kernel
theorem dX7_carryOut_11 : decode cX7_carryOut 11 = .ok (.ireturn, 1) := by decide +kernel
theorem dX7_carryOut_12 : decode cX7_carryOut 12 = .ok (.aload_n 0, 1) := by decide +kernel
theorem dX7_carryOut_13 : decode cX7_carryOut 13 = .ok (.iconst 0, 1) := by decide +kernel
theorem dX7_carryOut_14 : decode cX7_carryOut 14 = .ok (.putfield 177, 3) := by decide +kernel
theorem dX7_carryOut_17 : decode cX7_carryOut 17 = .ok (.iconst 0, 1) := by decide +kernel
theorem dX7_carryOut_18 : decode cX7_carryOut 18 = .ok (.istore_n 1, 1) := by decide +kernel
theorem dX7_carryOut_19 : decode cX7_carryOut 19 = .ok (.iload_n 1, 1) := by decide +kernel
theorem dX7_carryOut_20 : decode cX7_carryOut 20 = .ok (.aload_n 0, 1) := by decide +kernel
theorem dX7_carryOut_21 : decode cX7_carryOut 21 = .ok (.getfield 197, 3) := by decide +kernel
theorem dX7_carryOut_24 : decode cX7_carryOut 24 = .ok (.if_icmp .ge 46, 3) := by decide +kernel
theorem dX7_carryOut_27 : decode cX7_carryOut 27 = .ok (.aload_n 0, 1) := by decide +kernel
theorem dX7_carryOut_28 : decode cX7_carryOut 28 = .ok (.aload_n 0, 1) := by decide +kernel
theorem dX7_carryOut_29 : decode cX7_carryOut 29 = .ok (.getfield 26, 3) := by decide +kernel
theorem dX7_carryOut_32 : decode cX7_carryOut 32 = .ok (.iconst 3, 1) := by decide +kernel
theorem dX7_carryOut_33 : decode cX7_carryOut 33 = .ok (.iload_n 1, 1) := by decide +kernel
theorem dX7_carryOut_34 : decode cX7_carryOut 34 = .ok (.imul, 1) := by decide +kernel
theorem dX7_carryOut_35 : decode cX7_carryOut 35 = .ok (.iaload, 1) := by decide +kernel
theorem dX7_carryOut_36 : decode cX7_carryOut 36 = .ok (.aload_n 0, 1) := by decide +kernel
theorem dX7_carryOut_37 : decode cX7_carryOut 37 = .ok (.getfield 26, 3) := by decide +kernel
theorem dX7_carryOut_40 : decode cX7_carryOut 40 = .ok (.iconst 3, 1) := by decide +kernel
theorem dX7_carryOut_41 : decode cX7_carryOut 41 = .ok (.iload_n 1, 1) := by decide +kernel
theorem dX7_carryOut_42 : decode cX7_carryOut 42 = .ok (.imul, 1) := by decide +kernel
theorem dX7_carryOut_43 : decode cX7_carryOut 43 = .ok (.iconst 1, 1) := by decide +kernel
theorem dX7_carryOut_44 : decode cX7_carryOut 44 = .ok (.iadd, 1) := by decide +kernel
theorem dX7_carryOut_45 : decode cX7_carryOut 45 = .ok (.iaload, 1) := by decide +kernel
theorem dX7_carryOut_46 : decode cX7_carryOut 46 = .ok (.aload_n 0, 1) := by decide +kernel
theorem dX7_carryOut_47 : decode cX7_carryOut 47 = .ok (.getfield 26, 3) := by decide +kernel
theorem dX7_carryOut_50 : decode cX7_carryOut 50 = .ok (.iconst 3, 1) := by decide +kernel
theorem dX7_carryOut_51 : decode cX7_carryOut 51 = .ok (.iload_n 1, 1) := by decide +kernel
theorem dX7_carryOut_52 : decode cX7_carryOut 52 = .ok (.imul, 1) := by decide +kernel
theorem dX7_carryOut_53 : decode cX7_carryOut 53 = .ok (.iconst 2, 1) := by decide +kernel
theorem dX7_carryOut_54 : decode cX7_carryOut 54 = .ok (.iadd, 1) := by decide +kernel
theorem dX7_carryOut_55 : decode cX7_carryOut 55 = .ok (.iaload, 1) := by decide +kernel
theorem dX7_carryOut_56 : decode cX7_carryOut 56 = .ok (.invokevirtual 221, 3) := by decide +kernel
theorem dX7_carryOut_59 : decode cX7_carryOut 59 = .ok (.ifCond .ge 5, 3) := by decide +kernel
theorem dX7_carryOut_62 : decode cX7_carryOut 62 = .ok (.iload_n 1, 1) := by decide +kernel
theorem dX7_carryOut_63 : decode cX7_carryOut 63 = .ok (.ireturn, 1) := by decide +kernel
theorem dX7_carryOut_64 : decode cX7_carryOut 64 = .ok (.iinc 1 1, 3) := by decide +kernel
theorem dX7_carryOut_67 : decode cX7_carryOut 67 = .ok (.goto (-48), 3) := by decide +kernel
theorem dX7_carryOut_70 : decode cX7_carryOut 70 = .ok (.aload_n 0, 1) := by decide +kernel
theorem dX7_carryOut_71 : decode cX7_carryOut 71 = .ok (.getfield 197, 3) := by decide +kernel
theorem dX7_carryOut_74 : decode cX7_carryOut 74 = .ok (.ireturn, 1) := by decide +kernel
theorem dX7_blocksWith_0 : decode cX7_blocksWith 0 = .ok (.iconst 0, 1) := by decide +kernel
theorem dX7_blocksWith_1 : decode cX7_blocksWith 1 = .ok (.istore_n 2, 1) := by decide +kernel
theorem dX7_blocksWith_2 : decode cX7_blocksWith 2 = .ok (.iconst 0, 1) := by decide +kernel
theorem dX7_blocksWith_3 : decode cX7_blocksWith 3 = .ok (.istore_n 3, 1) := by decide +kernel
theorem dX7_blocksWith_4 : decode cX7_blocksWith 4 = .ok (.iload_n 3, 1) := by decide +kernel
theorem dX7_blocksWith_5 : decode cX7_blocksWith 5 = .ok (.iconst 2, 1) := by decide +kernel
theorem dX7_blocksWith_6 : decode cX7_blocksWith 6 = .ok (.aload_n 0, 1) := by decide +kernel
theorem dX7_blocksWith_7 : decode cX7_blocksWith 7 = .ok (.invokevirtual 36, 3) := by decide +kernel
theorem dX7_blocksWith_10 : decode cX7_blocksWith 10 = .ok (.imul, 1) := by decide +kernel
theorem dX7_blocksWith_11 : decode cX7_blocksWith 11 = .ok (.if_icmp .ge 55, 3) := by decide +kernel
theorem dX7_blocksWith_14 : decode cX7_blocksWith 14 = .ok (.aload_n 0, 1) := by decide +kernel
theorem dX7_blocksWith_15 : decode cX7_blocksWith 15 = .ok (.getfield 7, 3) := by decide +kernel
theorem dX7_blocksWith_18 : decode cX7_blocksWith 18 = .ok (.bipush 30, 2) := by decide +kernel
theorem dX7_blocksWith_20 : decode cX7_blocksWith 20 = .ok (.iconst 5, 1) := by decide +kernel
theorem dX7_blocksWith_21 : decode cX7_blocksWith 21 = .ok (.iload_n 3, 1) := by decide +kernel
theorem dX7_blocksWith_22 : decode cX7_blocksWith 22 = .ok (.imul, 1) := by decide +kernel
theorem dX7_blocksWith_23 : decode cX7_blocksWith 23 = .ok (.iadd, 1) := by decide +kernel
theorem dX7_blocksWith_24 : decode cX7_blocksWith 24 = .ok (.iload_n 1, 1) := by decide +kernel
theorem dX7_blocksWith_25 : decode cX7_blocksWith 25 = .ok (.iadd, 1) := by decide +kernel
theorem dX7_blocksWith_26 : decode cX7_blocksWith 26 = .ok (.iaload, 1) := by decide +kernel
theorem dX7_blocksWith_27 : decode cX7_blocksWith 27 = .ok (.istore 4, 2) := by decide +kernel
theorem dX7_blocksWith_29 : decode cX7_blocksWith 29 = .ok (.iload_n 2, 1) := by decide +kernel
theorem dX7_blocksWith_30 : decode cX7_blocksWith 30 = .ok (.iload_n 1, 1) := by decide +kernel
theorem dX7_blocksWith_31 : decode cX7_blocksWith 31 = .ok (.iconst 1, 1) := by decide +kernel
theorem dX7_blocksWith_32 : decode cX7_blocksWith 32 = .ok (.if_icmp .ne 16, 3) := by decide +kernel
theorem dX7_blocksWith_35 : decode cX7_blocksWith 35 = .ok (.iload 4, 2) := by decide +kernel
theorem dX7_blocksWith_37 : decode cX7_blocksWith 37 = .ok (.ifCond .lt 7, 3) := by decide +kernel
theorem dX7_blocksWith_40 : decode cX7_blocksWith 40 = .ok (.iconst 1, 1) := by decide +kernel
theorem dX7_blocksWith_41 : decode cX7_blocksWith 41 = .ok (.goto 17, 3) := by decide +kernel
theorem dX7_blocksWith_44 : decode cX7_blocksWith 44 = .ok (.iconst 0, 1) := by decide +kernel
theorem dX7_blocksWith_45 : decode cX7_blocksWith 45 = .ok (.goto 13, 3) := by decide +kernel
theorem dX7_blocksWith_48 : decode cX7_blocksWith 48 = .ok (.iload 4, 2) := by decide +kernel
theorem dX7_blocksWith_50 : decode cX7_blocksWith 50 = .ok (.ifCond .eq 7, 3) := by decide +kernel
theorem dX7_blocksWith_53 : decode cX7_blocksWith 53 = .ok (.iconst 1, 1) := by decide +kernel
theorem dX7_blocksWith_54 : decode cX7_blocksWith 54 = .ok (.goto 4, 3) := by decide +kernel
theorem dX7_blocksWith_57 : decode cX7_blocksWith 57 = .ok (.iconst 0, 1) := by decide +kernel
theorem dX7_blocksWith_58 : decode cX7_blocksWith 58 = .ok (.iadd, 1) := by decide +kernel
theorem dX7_blocksWith_59 : decode cX7_blocksWith 59 = .ok (.istore_n 2, 1) := by decide +kernel
theorem dX7_blocksWith_60 : decode cX7_blocksWith 60 = .ok (.iinc 3 1, 3) := by decide +kernel
theorem dX7_blocksWith_63 : decode cX7_blocksWith 63 = .ok (.goto (-59), 3) := by decide +kernel
theorem dX7_blocksWith_66 : decode cX7_blocksWith 66 = .ok (.iload_n 2, 1) := by decide +kernel
theorem dX7_blocksWith_67 : decode cX7_blocksWith 67 = .ok (.ireturn, 1) := by decide +kernel
theorem dX7_count_0 : decode cX7_count 0 = .ok (.iload_n 1, 1) := by decide +kernel
theorem dX7_count_1 : decode cX7_count 1 = .ok (.tableswitch 121 0 9 #[55, 62, 71, 77, 83, 91, 97, 104, 109, 115], 55) := by decide +kernel
theorem dX7_count_56 : decode cX7_count 56 = .ok (.aload_n 0, 1) := by decide +kernel
theorem dX7_count_57 : decode cX7_count 57 = .ok (.getfield 7, 3) := by decide +kernel
theorem dX7_count_60 : decode cX7_count 60 = .ok (.iconst 0, 1) := by decide +kernel
theorem dX7_count_61 : decode cX7_count 61 = .ok (.iaload, 1) := by decide +kernel
theorem dX7_count_62 : decode cX7_count 62 = .ok (.ireturn, 1) := by decide +kernel
theorem dX7_count_63 : decode cX7_count 63 = .ok (.aload_n 0, 1) := by decide +kernel
theorem dX7_count_64 : decode cX7_count 64 = .ok (.getfield 7, 3) := by decide +kernel
theorem dX7_count_67 : decode cX7_count 67 = .ok (.sipush 381, 3) := by decide +kernel
theorem dX7_count_70 : decode cX7_count 70 = .ok (.iaload, 1) := by decide +kernel
theorem dX7_count_71 : decode cX7_count 71 = .ok (.ireturn, 1) := by decide +kernel
theorem dX7_count_72 : decode cX7_count 72 = .ok (.aload_n 0, 1) := by decide +kernel
theorem dX7_count_73 : decode cX7_count 73 = .ok (.iconst 3, 1) := by decide +kernel
theorem dX7_count_74 : decode cX7_count 74 = .ok (.invokevirtual 165, 3) := by decide +kernel
theorem dX7_count_77 : decode cX7_count 77 = .ok (.ireturn, 1) := by decide +kernel
theorem dX7_count_78 : decode cX7_count 78 = .ok (.aload_n 0, 1) := by decide +kernel
theorem dX7_count_79 : decode cX7_count 79 = .ok (.iconst 2, 1) := by decide +kernel
theorem dX7_count_80 : decode cX7_count 80 = .ok (.invokevirtual 165, 3) := by decide +kernel
theorem dX7_count_83 : decode cX7_count 83 = .ok (.ireturn, 1) := by decide +kernel
theorem dX7_count_84 : decode cX7_count 84 = .ok (.aload_n 0, 1) := by decide +kernel
theorem dX7_count_85 : decode cX7_count 85 = .ok (.getfield 7, 3) := by decide +kernel
theorem dX7_count_88 : decode cX7_count 88 = .ok (.bipush 80, 2) := by decide +kernel
theorem dX7_count_90 : decode cX7_count 90 = .ok (.iaload, 1) := by decide +kernel
theorem dX7_count_91 : decode cX7_count 91 = .ok (.ireturn, 1) := by decide +kernel
theorem dX7_count_92 : decode cX7_count 92 = .ok (.aload_n 0, 1) := by decide +kernel
theorem dX7_count_93 : decode cX7_count 93 = .ok (.iconst 0, 1) := by decide +kernel
theorem dX7_count_94 : decode cX7_count 94 = .ok (.invokevirtual 224, 3) := by decide +kernel
theorem dX7_count_97 : decode cX7_count 97 = .ok (.ireturn, 1) := by decide +kernel
theorem dX7_count_98 : decode cX7_count 98 = .ok (.aload_n 0, 1) := by decide +kernel
theorem dX7_count_99 : decode cX7_count 99 = .ok (.getfield 7, 3) := by decide +kernel
theorem dX7_count_102 : decode cX7_count 102 = .ok (.iconst 1, 1) := by decide +kernel
theorem dX7_count_103 : decode cX7_count 103 = .ok (.iaload, 1) := by decide +kernel
theorem dX7_count_104 : decode cX7_count 104 = .ok (.ireturn, 1) := by decide +kernel
theorem dX7_count_105 : decode cX7_count 105 = .ok (.aload_n 0, 1) := by decide +kernel
theorem dX7_count_106 : decode cX7_count 106 = .ok (.getfield 177, 3) := by decide +kernel
theorem dX7_count_109 : decode cX7_count 109 = .ok (.ireturn, 1) := by decide +kernel
theorem dX7_count_110 : decode cX7_count 110 = .ok (.aload_n 0, 1) := by decide +kernel
theorem dX7_count_111 : decode cX7_count 111 = .ok (.iconst 3, 1) := by decide +kernel
theorem dX7_count_112 : decode cX7_count 112 = .ok (.invokevirtual 224, 3) := by decide +kernel
theorem dX7_count_115 : decode cX7_count 115 = .ok (.ireturn, 1) := by decide +kernel
theorem dX7_count_116 : decode cX7_count 116 = .ok (.aload_n 0, 1) := by decide +kernel
theorem dX7_count_117 : decode cX7_count 117 = .ok (.iconst 1, 1) := by decide +kernel
theorem dX7_count_118 : decode cX7_count 118 = .ok (.invokevirtual 224, 3) := by decide +kernel
theorem dX7_count_121 : decode cX7_count 121 = .ok (.ireturn, 1) := by decide +kernel
theorem dX7_count_122 : decode cX7_count 122 = .ok (.bipush (-2), 2) := by decide +kernel
theorem dX7_count_124 : decode cX7_count 124 = .ok (.ireturn, 1) := by decide +kernel
theorem dX7_save_0 : decode cX7_save 0 = .ok (.iload_n 1, 1) := by decide +kernel
theorem dX7_save_1 : decode cX7_save 1 = .ok (.iconst 0, 1) := by decide +kernel
theorem dX7_save_2 : decode cX7_save 2 = .ok (.iconst 1, 1) := by decide +kernel
theorem dX7_save_3 : decode cX7_save 3 = .ok (.invokestatic 40, 3) := by decide +kernel
theorem dX7_save_6 : decode cX7_save 6 = .ok (.ifCond .ne 6, 3) := by decide +kernel
theorem dX7_save_9 : decode cX7_save 9 = .ok (.bipush (-2), 2) := by decide +kernel
theorem dX7_save_11 : decode cX7_save 11 = .ok (.ireturn, 1) := by decide +kernel
theorem dX7_save_12 : decode cX7_save 12 = .ok (.iconst 0, 1) := by decide +kernel
theorem dX7_save_13 : decode cX7_save 13 = .ok (.istore_n 2, 1) := by decide +kernel
theorem dX7_save_14 : decode cX7_save 14 = .ok (.iload_n 2, 1) := by decide +kernel
theorem dX7_save_15 : decode cX7_save 15 = .ok (.sipush 2862, 3) := by decide +kernel
theorem dX7_save_18 : decode cX7_save 18 = .ok (.if_icmp .ge 27, 3) := by decide +kernel
theorem dX7_save_21 : decode cX7_save 21 = .ok (.aload_n 0, 1) := by decide +kernel
theorem dX7_save_22 : decode cX7_save 22 = .ok (.getfield 16, 3) := by decide +kernel
theorem dX7_save_25 : decode cX7_save 25 = .ok (.sipush 2862, 3) := by decide +kernel
theorem dX7_save_28 : decode cX7_save 28 = .ok (.iload_n 1, 1) := by decide +kernel
theorem dX7_save_29 : decode cX7_save 29 = .ok (.imul, 1) := by decide +kernel
theorem dX7_save_30 : decode cX7_save 30 = .ok (.iload_n 2, 1) := by decide +kernel
theorem dX7_save_31 : decode cX7_save 31 = .ok (.iadd, 1) := by decide +kernel
theorem dX7_save_32 : decode cX7_save 32 = .ok (.aload_n 0, 1) := by decide +kernel
theorem dX7_save_33 : decode cX7_save 33 = .ok (.getfield 7, 3) := by decide +kernel
theorem dX7_save_36 : decode cX7_save 36 = .ok (.iload_n 2, 1) := by decide +kernel
theorem dX7_save_37 : decode cX7_save 37 = .ok (.iaload, 1) := by decide +kernel
theorem dX7_save_38 : decode cX7_save 38 = .ok (.iastore, 1) := by decide +kernel
theorem dX7_save_39 : decode cX7_save 39 = .ok (.iinc 2 1, 3) := by decide +kernel
theorem dX7_save_42 : decode cX7_save 42 = .ok (.goto (-28), 3) := by decide +kernel
theorem dX7_save_45 : decode cX7_save 45 = .ok (.aload_n 0, 1) := by decide +kernel
theorem dX7_save_46 : decode cX7_save 46 = .ok (.getfield 19, 3) := by decide +kernel
theorem dX7_save_49 : decode cX7_save 49 = .ok (.iload_n 1, 1) := by decide +kernel
theorem dX7_save_50 : decode cX7_save 50 = .ok (.iconst 1, 1) := by decide +kernel
theorem dX7_save_51 : decode cX7_save 51 = .ok (.bastore, 1) := by decide +kernel
theorem dX7_save_52 : decode cX7_save 52 = .ok (.aload_n 0, 1) := by decide +kernel
theorem dX7_save_53 : decode cX7_save 53 = .ok (.getfield 7, 3) := by decide +kernel
theorem dX7_save_56 : decode cX7_save 56 = .ok (.iconst 0, 1) := by decide +kernel
theorem dX7_save_57 : decode cX7_save 57 = .ok (.iaload, 1) := by decide +kernel
theorem dX7_save_58 : decode cX7_save 58 = .ok (.ireturn, 1) := by decide +kernel
theorem dX7_restore_0 : decode cX7_restore 0 = .ok (.iload_n 1, 1) := by decide +kernel
theorem dX7_restore_1 : decode cX7_restore 1 = .ok (.iconst 0, 1) := by decide +kernel
theorem dX7_restore_2 : decode cX7_restore 2 = .ok (.iconst 1, 1) := by decide +kernel
theorem dX7_restore_3 : decode cX7_restore 3 = .ok (.invokestatic 40, 3) := by decide +kernel
theorem dX7_restore_6 : decode cX7_restore 6 = .ok (.ifCond .ne 6, 3) := by decide +kernel
theorem dX7_restore_9 : decode cX7_restore 9 = .ok (.bipush (-2), 2) := by decide +kernel
theorem dX7_restore_11 : decode cX7_restore 11 = .ok (.ireturn, 1) := by decide +kernel
theorem dX7_restore_12 : decode cX7_restore 12 = .ok (.aload_n 0, 1) := by decide +kernel
theorem dX7_restore_13 : decode cX7_restore 13 = .ok (.getfield 19, 3) := by decide +kernel
theorem dX7_restore_16 : decode cX7_restore 16 = .ok (.iload_n 1, 1) := by decide +kernel
theorem dX7_restore_17 : decode cX7_restore 17 = .ok (.baload, 1) := by decide +kernel
theorem dX7_restore_18 : decode cX7_restore 18 = .ok (.ifCond .ne 6, 3) := by decide +kernel
theorem dX7_restore_21 : decode cX7_restore 21 = .ok (.bipush (-5), 2) := by decide +kernel
theorem dX7_restore_23 : decode cX7_restore 23 = .ok (.ireturn, 1) := by decide +kernel
theorem dX7_restore_24 : decode cX7_restore 24 = .ok (.iconst 0, 1) := by decide +kernel
theorem dX7_restore_25 : decode cX7_restore 25 = .ok (.istore_n 2, 1) := by decide +kernel
theorem dX7_restore_26 : decode cX7_restore 26 = .ok (.iload_n 2, 1) := by decide +kernel
theorem dX7_restore_27 : decode cX7_restore 27 = .ok (.sipush 2862, 3) := by decide +kernel
theorem dX7_restore_30 : decode cX7_restore 30 = .ok (.if_icmp .ge 27, 3) := by decide +kernel
theorem dX7_restore_33 : decode cX7_restore 33 = .ok (.aload_n 0, 1) := by decide +kernel
theorem dX7_restore_34 : decode cX7_restore 34 = .ok (.getfield 7, 3) := by decide +kernel
theorem dX7_restore_37 : decode cX7_restore 37 = .ok (.iload_n 2, 1) := by decide +kernel
theorem dX7_restore_38 : decode cX7_restore 38 = .ok (.aload_n 0, 1) := by decide +kernel
theorem dX7_restore_39 : decode cX7_restore 39 = .ok (.getfield 16, 3) := by decide +kernel
theorem dX7_restore_42 : decode cX7_restore 42 = .ok (.sipush 2862, 3) := by decide +kernel
theorem dX7_restore_45 : decode cX7_restore 45 = .ok (.iload_n 1, 1) := by decide +kernel
theorem dX7_restore_46 : decode cX7_restore 46 = .ok (.imul, 1) := by decide +kernel
theorem dX7_restore_47 : decode cX7_restore 47 = .ok (.iload_n 2, 1) := by decide +kernel
theorem dX7_restore_48 : decode cX7_restore 48 = .ok (.iadd, 1) := by decide +kernel
theorem dX7_restore_49 : decode cX7_restore 49 = .ok (.iaload, 1) := by decide +kernel
theorem dX7_restore_50 : decode cX7_restore 50 = .ok (.iastore, 1) := by decide +kernel
theorem dX7_restore_51 : decode cX7_restore 51 = .ok (.iinc 2 1, 3) := by decide +kernel
theorem dX7_restore_54 : decode cX7_restore 54 = .ok (.goto (-28), 3) := by decide +kernel
theorem dX7_restore_57 : decode cX7_restore 57 = .ok (.aload_n 0, 1) := by decide +kernel
theorem dX7_restore_58 : decode cX7_restore 58 = .ok (.getfield 7, 3) := by decide +kernel
theorem dX7_restore_61 : decode cX7_restore 61 = .ok (.iconst 0, 1) := by decide +kernel
theorem dX7_restore_62 : decode cX7_restore 62 = .ok (.iaload, 1) := by decide +kernel
theorem dX7_restore_63 : decode cX7_restore 63 = .ok (.ireturn, 1) := by decide +kernel
theorem dJ9_max_7cf53_0 : decode cJ9_max_7cf53 0 = .ok (.iload_n 0, 1) := by decide +kernel
theorem dJ9_max_7cf53_1 : decode cJ9_max_7cf53 1 = .ok (.iload_n 1, 1) := by decide +kernel
theorem dJ9_max_7cf53_2 : decode cJ9_max_7cf53 2 = .ok (.if_icmp .lt 7, 3) := by decide +kernel
theorem dJ9_max_7cf53_5 : decode cJ9_max_7cf53 5 = .ok (.iload_n 0, 1) := by decide +kernel
theorem dJ9_max_7cf53_6 : decode cJ9_max_7cf53 6 = .ok (.goto 4, 3) := by decide +kernel
theorem dJ9_max_7cf53_9 : decode cJ9_max_7cf53 9 = .ok (.iload_n 1, 1) := by decide +kernel
theorem dJ9_max_7cf53_10 : decode cJ9_max_7cf53 10 = .ok (.ireturn, 1) := by decide +kernel
