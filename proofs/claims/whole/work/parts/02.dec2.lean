theorem dX7_layBlocks_0 : decode cX7_layBlocks 0 = .ok (.iconst 0, 1) := by decide +kernel
theorem dX7_layBlocks_1 : decode cX7_layBlocks 1 = .ok (.istore_n 1, 1) := by decide +kernel
theorem dX7_layBlocks_2 : decode cX7_layBlocks 2 = .ok (.iload_n 1, 1) := by decide +kernel
theorem dX7_layBlocks_3 : decode cX7_layBlocks 3 = .ok (.bipush 10, 2) := by decide +kernel
theorem dX7_layBlocks_5 : decode cX7_layBlocks 5 = .ok (.if_icmp .ge 81, 3) := by decide +kernel
theorem dX7_layBlocks_8 : decode cX7_layBlocks 8 = .ok (.aload_n 0, 1) := by decide +kernel
theorem dX7_layBlocks_9 : decode cX7_layBlocks 9 = .ok (.getfield 7, 3) := by decide +kernel
theorem dX7_layBlocks_12 : decode cX7_layBlocks 12 = .ok (.bipush 30, 2) := by decide +kernel
theorem dX7_layBlocks_14 : decode cX7_layBlocks 14 = .ok (.iconst 5, 1) := by decide +kernel
theorem dX7_layBlocks_15 : decode cX7_layBlocks 15 = .ok (.iload_n 1, 1) := by decide +kernel
theorem dX7_layBlocks_16 : decode cX7_layBlocks 16 = .ok (.imul, 1) := by decide +kernel
theorem dX7_layBlocks_17 : decode cX7_layBlocks 17 = .ok (.iadd, 1) := by decide +kernel
theorem dX7_layBlocks_18 : decode cX7_layBlocks 18 = .ok (.iconst 0, 1) := by decide +kernel
theorem dX7_layBlocks_19 : decode cX7_layBlocks 19 = .ok (.iadd, 1) := by decide +kernel
theorem dX7_layBlocks_20 : decode cX7_layBlocks 20 = .ok (.iconst 0, 1) := by decide +kernel
theorem dX7_layBlocks_21 : decode cX7_layBlocks 21 = .ok (.iastore, 1) := by decide +kernel
theorem dX7_layBlocks_22 : decode cX7_layBlocks 22 = .ok (.aload_n 0, 1) := by decide +kernel
theorem dX7_layBlocks_23 : decode cX7_layBlocks 23 = .ok (.getfield 7, 3) := by decide +kernel
theorem dX7_layBlocks_26 : decode cX7_layBlocks 26 = .ok (.bipush 30, 2) := by decide +kernel
theorem dX7_layBlocks_28 : decode cX7_layBlocks 28 = .ok (.iconst 5, 1) := by decide +kernel
theorem dX7_layBlocks_29 : decode cX7_layBlocks 29 = .ok (.iload_n 1, 1) := by decide +kernel
theorem dX7_layBlocks_30 : decode cX7_layBlocks 30 = .ok (.imul, 1) := by decide +kernel
theorem dX7_layBlocks_31 : decode cX7_layBlocks 31 = .ok (.iadd, 1) := by decide +kernel
theorem dX7_layBlocks_32 : decode cX7_layBlocks 32 = .ok (.iconst 1, 1) := by decide +kernel
theorem dX7_layBlocks_33 : decode cX7_layBlocks 33 = .ok (.iadd, 1) := by decide +kernel
theorem dX7_layBlocks_34 : decode cX7_layBlocks 34 = .ok (.bipush (-6), 2) := by decide +kernel
theorem dX7_layBlocks_36 : decode cX7_layBlocks 36 = .ok (.iastore, 1) := by decide +kernel
theorem dX7_layBlocks_37 : decode cX7_layBlocks 37 = .ok (.aload_n 0, 1) := by decide +kernel
theorem dX7_layBlocks_38 : decode cX7_layBlocks 38 = .ok (.getfield 7, 3) := by decide +kernel
theorem dX7_layBlocks_41 : decode cX7_layBlocks 41 = .ok (.bipush 30, 2) := by decide +kernel
theorem dX7_layBlocks_43 : decode cX7_layBlocks 43 = .ok (.iconst 5, 1) := by decide +kernel
theorem dX7_layBlocks_44 : decode cX7_layBlocks 44 = .ok (.iload_n 1, 1) := by decide +kernel
theorem dX7_layBlocks_45 : decode cX7_layBlocks 45 = .ok (.imul, 1) := by decide +kernel
theorem dX7_layBlocks_46 : decode cX7_layBlocks 46 = .ok (.iadd, 1) := by decide +kernel
theorem dX7_layBlocks_47 : decode cX7_layBlocks 47 = .ok (.iconst 2, 1) := by decide +kernel
theorem dX7_layBlocks_48 : decode cX7_layBlocks 48 = .ok (.iadd, 1) := by decide +kernel
theorem dX7_layBlocks_49 : decode cX7_layBlocks 49 = .ok (.bipush (-6), 2) := by decide +kernel
theorem dX7_layBlocks_51 : decode cX7_layBlocks 51 = .ok (.iastore, 1) := by decide +kernel
theorem dX7_layBlocks_52 : decode cX7_layBlocks 52 = .ok (.aload_n 0, 1) := by decide +kernel
theorem dX7_layBlocks_53 : decode cX7_layBlocks 53 = .ok (.getfield 7, 3) := by decide +kernel
theorem dX7_layBlocks_56 : decode cX7_layBlocks 56 = .ok (.bipush 30, 2) := by decide +kernel
theorem dX7_layBlocks_58 : decode cX7_layBlocks 58 = .ok (.iconst 5, 1) := by decide +kernel
theorem dX7_layBlocks_59 : decode cX7_layBlocks 59 = .ok (.iload_n 1, 1) := by decide +kernel
theorem dX7_layBlocks_60 : decode cX7_layBlocks 60 = .ok (.imul, 1) := by decide +kernel
theorem dX7_layBlocks_61 : decode cX7_layBlocks 61 = .ok (.iadd, 1) := by decide +kernel
theorem dX7_layBlocks_62 : decode cX7_layBlocks 62 = .ok (.iconst 3, 1) := by decide +kernel
theorem dX7_layBlocks_63 : decode cX7_layBlocks 63 = .ok (.iadd, 1) := by decide +kernel
theorem dX7_layBlocks_64 : decode cX7_layBlocks 64 = .ok (.iconst 0, 1) := by decide +kernel
theorem dX7_layBlocks_65 : decode cX7_layBlocks 65 = .ok (.iastore, 1) := by decide +kernel
theorem dX7_layBlocks_66 : decode cX7_layBlocks 66 = .ok (.aload_n 0, 1) := by decide +kernel
theorem dX7_layBlocks_67 : decode cX7_layBlocks 67 = .ok (.getfield 7, 3) := by decide +kernel
theorem dX7_layBlocks_70 : decode cX7_layBlocks 70 = .ok (.bipush 30, 2) := by decide +kernel
theorem dX7_layBlocks_72 : decode cX7_layBlocks 72 = .ok (.iconst 5, 1) := by decide +kernel
theorem dX7_layBlocks_73 : decode cX7_layBlocks 73 = .ok (.iload_n 1, 1) := by decide +kernel
theorem dX7_layBlocks_74 : decode cX7_layBlocks 74 = .ok (.imul, 1) := by decide +kernel
theorem dX7_layBlocks_75 : decode cX7_layBlocks 75 = .ok (.iadd, 1) := by decide +kernel
theorem dX7_layBlocks_76 : decode cX7_layBlocks 76 = .ok (.iconst 4, 1) := by decide +kernel
theorem dX7_layBlocks_77 : decode cX7_layBlocks 77 = .ok (.iadd, 1) := by decide +kernel
theorem dX7_layBlocks_78 : decode cX7_layBlocks 78 = .ok (.iconst 0, 1) := by decide +kernel
theorem dX7_layBlocks_79 : decode cX7_layBlocks 79 = .ok (.iastore, 1) := by decide +kernel
theorem dX7_layBlocks_80 : decode cX7_layBlocks 80 = .ok (.iinc 1 1, 3) := by decide +kernel
theorem dX7_layBlocks_83 : decode cX7_layBlocks 83 = .ok (.goto (-81), 3) := by decide +kernel
theorem dX7_layBlocks_86 : decode cX7_layBlocks 86 = .ok (.return_, 1) := by decide +kernel
theorem dX7_sections_0 : decode cX7_sections 0 = .ok (.aload_n 0, 1) := by decide +kernel
theorem dX7_sections_1 : decode cX7_sections 1 = .ok (.getfield 7, 3) := by decide +kernel
theorem dX7_sections_4 : decode cX7_sections 4 = .ok (.iconst 1, 1) := by decide +kernel
theorem dX7_sections_5 : decode cX7_sections 5 = .ok (.iaload, 1) := by decide +kernel
theorem dX7_sections_6 : decode cX7_sections 6 = .ok (.iconst 1, 1) := by decide +kernel
theorem dX7_sections_7 : decode cX7_sections 7 = .ok (.isub, 1) := by decide +kernel
theorem dX7_sections_8 : decode cX7_sections 8 = .ok (.ireturn, 1) := by decide +kernel
theorem dX7_isSection_0 : decode cX7_isSection 0 = .ok (.iload_n 1, 1) := by decide +kernel
theorem dX7_isSection_1 : decode cX7_isSection 1 = .ok (.iconst 0, 1) := by decide +kernel
theorem dX7_isSection_2 : decode cX7_isSection 2 = .ok (.aload_n 0, 1) := by decide +kernel
theorem dX7_isSection_3 : decode cX7_isSection 3 = .ok (.invokevirtual 36, 3) := by decide +kernel
theorem dX7_isSection_6 : decode cX7_isSection 6 = .ok (.iconst 1, 1) := by decide +kernel
theorem dX7_isSection_7 : decode cX7_isSection 7 = .ok (.isub, 1) := by decide +kernel
theorem dX7_isSection_8 : decode cX7_isSection 8 = .ok (.invokestatic 40, 3) := by decide +kernel
theorem dX7_isSection_11 : decode cX7_isSection 11 = .ok (.ireturn, 1) := by decide +kernel
theorem dX7_isWay_0 : decode cX7_isWay 0 = .ok (.iload_n 0, 1) := by decide +kernel
theorem dX7_isWay_1 : decode cX7_isWay 1 = .ok (.iconst 0, 1) := by decide +kernel
theorem dX7_isWay_2 : decode cX7_isWay 2 = .ok (.iconst 1, 1) := by decide +kernel
theorem dX7_isWay_3 : decode cX7_isWay 3 = .ok (.invokestatic 40, 3) := by decide +kernel
theorem dX7_isWay_6 : decode cX7_isWay 6 = .ok (.ireturn, 1) := by decide +kernel
theorem dX7_isBlock_0 : decode cX7_isBlock 0 = .ok (.aload_n 0, 1) := by decide +kernel
theorem dX7_isBlock_1 : decode cX7_isBlock 1 = .ok (.iload_n 1, 1) := by decide +kernel
theorem dX7_isBlock_2 : decode cX7_isBlock 2 = .ok (.invokevirtual 44, 3) := by decide +kernel
theorem dX7_isBlock_5 : decode cX7_isBlock 5 = .ok (.ifCond .eq 14, 3) := by decide +kernel
theorem dX7_isBlock_8 : decode cX7_isBlock 8 = .ok (.iload_n 2, 1) := by decide +kernel
theorem dX7_isBlock_9 : decode cX7_isBlock 9 = .ok (.invokestatic 48, 3) := by decide +kernel
theorem dX7_isBlock_12 : decode cX7_isBlock 12 = .ok (.ifCond .eq 7, 3) := by decide +kernel
theorem dX7_isBlock_15 : decode cX7_isBlock 15 = .ok (.iconst 1, 1) := by decide +kernel
theorem dX7_isBlock_16 : decode cX7_isBlock 16 = .ok (.goto 4, 3) := by decide +kernel
theorem dX7_isBlock_19 : decode cX7_isBlock 19 = .ok (.iconst 0, 1) := by decide +kernel
theorem dX7_isBlock_20 : decode cX7_isBlock 20 = .ok (.ireturn, 1) := by decide +kernel
theorem dX7_isTrain_0 : decode cX7_isTrain 0 = .ok (.iload_n 1, 1) := by decide +kernel
theorem dX7_isTrain_1 : decode cX7_isTrain 1 = .ok (.iconst 0, 1) := by decide +kernel
theorem dX7_isTrain_2 : decode cX7_isTrain 2 = .ok (.aload_n 0, 1) := by decide +kernel
theorem dX7_isTrain_3 : decode cX7_isTrain 3 = .ok (.getfield 7, 3) := by decide +kernel
theorem dX7_isTrain_6 : decode cX7_isTrain 6 = .ok (.sipush 381, 3) := by decide +kernel
theorem dX7_isTrain_9 : decode cX7_isTrain 9 = .ok (.iaload, 1) := by decide +kernel
theorem dX7_isTrain_10 : decode cX7_isTrain 10 = .ok (.iconst 1, 1) := by decide +kernel
theorem dX7_isTrain_11 : decode cX7_isTrain 11 = .ok (.isub, 1) := by decide +kernel
theorem dX7_isTrain_12 : decode cX7_isTrain 12 = .ok (.invokestatic 40, 3) := by decide +kernel
theorem dX7_isTrain_15 : decode cX7_isTrain 15 = .ok (.ireturn, 1) := by decide +kernel
theorem dX7_rear_0 : decode cX7_rear 0 = .ok (.iload_n 0, 1) := by decide +kernel
theorem dX7_rear_1 : decode cX7_rear 1 = .ok (.iload_n 1, 1) := by decide +kernel
theorem dX7_rear_2 : decode cX7_rear 2 = .ok (.iadd, 1) := by decide +kernel
theorem dX7_rear_3 : decode cX7_rear 3 = .ok (.ireturn, 1) := by decide +kernel
theorem dX7_ahead_0 : decode cX7_ahead 0 = .ok (.iload_n 0, 1) := by decide +kernel
theorem dX7_ahead_1 : decode cX7_ahead 1 = .ok (.iconst 1, 1) := by decide +kernel
theorem dX7_ahead_2 : decode cX7_ahead 2 = .ok (.iadd, 1) := by decide +kernel
theorem dX7_ahead_3 : decode cX7_ahead 3 = .ok (.iload_n 1, 1) := by decide +kernel
theorem dX7_ahead_4 : decode cX7_ahead 4 = .ok (.isub, 1) := by decide +kernel
theorem dX7_ahead_5 : decode cX7_ahead 5 = .ok (.ireturn, 1) := by decide +kernel
theorem dX7_place_0 : decode cX7_place 0 = .ok (.bipush 30, 2) := by decide +kernel
theorem dX7_place_2 : decode cX7_place 2 = .ok (.iconst 5, 1) := by decide +kernel
theorem dX7_place_3 : decode cX7_place 3 = .ok (.iconst 2, 1) := by decide +kernel
theorem dX7_place_4 : decode cX7_place 4 = .ok (.iload_n 0, 1) := by decide +kernel
theorem dX7_place_5 : decode cX7_place 5 = .ok (.imul, 1) := by decide +kernel
theorem dX7_place_6 : decode cX7_place 6 = .ok (.iload_n 1, 1) := by decide +kernel
theorem dX7_place_7 : decode cX7_place 7 = .ok (.iadd, 1) := by decide +kernel
theorem dX7_place_8 : decode cX7_place 8 = .ok (.imul, 1) := by decide +kernel
theorem dX7_place_9 : decode cX7_place 9 = .ok (.iadd, 1) := by decide +kernel
theorem dX7_place_10 : decode cX7_place 10 = .ok (.iload_n 2, 1) := by decide +kernel
theorem dX7_place_11 : decode cX7_place 11 = .ok (.iadd, 1) := by decide +kernel
theorem dX7_place_12 : decode cX7_place 12 = .ok (.ireturn, 1) := by decide +kernel
theorem dX7_ofBlock_0 : decode cX7_ofBlock 0 = .ok (.aload_n 0, 1) := by decide +kernel
theorem dX7_ofBlock_1 : decode cX7_ofBlock 1 = .ok (.getfield 7, 3) := by decide +kernel
theorem dX7_ofBlock_4 : decode cX7_ofBlock 4 = .ok (.iload_n 1, 1) := by decide +kernel
theorem dX7_ofBlock_5 : decode cX7_ofBlock 5 = .ok (.iload_n 2, 1) := by decide +kernel
theorem dX7_ofBlock_6 : decode cX7_ofBlock 6 = .ok (.iload_n 3, 1) := by decide +kernel
theorem dX7_ofBlock_7 : decode cX7_ofBlock 7 = .ok (.invokestatic 51, 3) := by decide +kernel
theorem dX7_ofBlock_10 : decode cX7_ofBlock 10 = .ok (.iaload, 1) := by decide +kernel
theorem dX7_ofBlock_11 : decode cX7_ofBlock 11 = .ok (.ireturn, 1) := by decide +kernel
theorem dX7_ofTrain_0 : decode cX7_ofTrain 0 = .ok (.aload_n 0, 1) := by decide +kernel
theorem dX7_ofTrain_1 : decode cX7_ofTrain 1 = .ok (.getfield 7, 3) := by decide +kernel
theorem dX7_ofTrain_4 : decode cX7_ofTrain 4 = .ok (.sipush 382, 3) := by decide +kernel
theorem dX7_ofTrain_7 : decode cX7_ofTrain 7 = .ok (.bipush 8, 2) := by decide +kernel
theorem dX7_ofTrain_9 : decode cX7_ofTrain 9 = .ok (.iload_n 1, 1) := by decide +kernel
theorem dX7_ofTrain_10 : decode cX7_ofTrain 10 = .ok (.imul, 1) := by decide +kernel
theorem dX7_ofTrain_11 : decode cX7_ofTrain 11 = .ok (.iadd, 1) := by decide +kernel
theorem dX7_ofTrain_12 : decode cX7_ofTrain 12 = .ok (.iload_n 2, 1) := by decide +kernel
theorem dX7_ofTrain_13 : decode cX7_ofTrain 13 = .ok (.iadd, 1) := by decide +kernel
theorem dX7_ofTrain_14 : decode cX7_ofTrain 14 = .ok (.iaload, 1) := by decide +kernel
theorem dX7_ofTrain_15 : decode cX7_ofTrain 15 = .ok (.ireturn, 1) := by decide +kernel
theorem dX7_layTrain_0 : decode cX7_layTrain 0 = .ok (.aload_n 0, 1) := by decide +kernel
theorem dX7_layTrain_1 : decode cX7_layTrain 1 = .ok (.getfield 7, 3) := by decide +kernel
theorem dX7_layTrain_4 : decode cX7_layTrain 4 = .ok (.sipush 382, 3) := by decide +kernel
theorem dX7_layTrain_7 : decode cX7_layTrain 7 = .ok (.bipush 8, 2) := by decide +kernel
theorem dX7_layTrain_9 : decode cX7_layTrain 9 = .ok (.iload_n 1, 1) := by decide +kernel
theorem dX7_layTrain_10 : decode cX7_layTrain 10 = .ok (.imul, 1) := by decide +kernel
theorem dX7_layTrain_11 : decode cX7_layTrain 11 = .ok (.iadd, 1) := by decide +kernel
theorem dX7_layTrain_12 : decode cX7_layTrain 12 = .ok (.iload_n 2, 1) := by decide +kernel
theorem dX7_layTrain_13 : decode cX7_layTrain 13 = .ok (.iadd, 1) := by decide +kernel
theorem dX7_layTrain_14 : decode cX7_layTrain 14 = .ok (.iload_n 3, 1) := by decide +kernel
theorem dX7_layTrain_15 : decode cX7_layTrain 15 = .ok (.iastore, 1) := by decide +kernel
theorem dX7_layTrain_16 : decode cX7_layTrain 16 = .ok (.return_, 1) := by decide +kernel
theorem dX7_isSingle_0 : decode cX7_isSingle 0 = .ok (.aload_n 0, 1) := by decide +kernel
theorem dX7_isSingle_1 : decode cX7_isSingle 1 = .ok (.getfield 7, 3) := by decide +kernel
theorem dX7_isSingle_4 : decode cX7_isSingle 4 = .ok (.iconst 2, 1) := by decide +kernel
theorem dX7_isSingle_5 : decode cX7_isSingle 5 = .ok (.iaload, 1) := by decide +kernel
theorem dX7_isSingle_6 : decode cX7_isSingle 6 = .ok (.iload_n 1, 1) := by decide +kernel
theorem dX7_isSingle_7 : decode cX7_isSingle 7 = .ok (.ishr, 1) := by decide +kernel
theorem dX7_isSingle_8 : decode cX7_isSingle 8 = .ok (.iconst 1, 1) := by decide +kernel
theorem dX7_isSingle_9 : decode cX7_isSingle 9 = .ok (.iand, 1) := by decide +kernel
theorem dX7_isSingle_10 : decode cX7_isSingle 10 = .ok (.iconst 1, 1) := by decide +kernel
theorem dX7_isSingle_11 : decode cX7_isSingle 11 = .ok (.if_icmp .ne 7, 3) := by decide +kernel
theorem dX7_isSingle_14 : decode cX7_isSingle 14 = .ok (.iconst 1, 1) := by decide +kernel
theorem dX7_isSingle_15 : decode cX7_isSingle 15 = .ok (.goto 4, 3) := by decide +kernel
theorem dX7_isSingle_18 : decode cX7_isSingle 18 = .ok (.iconst 0, 1) := by decide +kernel
theorem dX7_isSingle_19 : decode cX7_isSingle 19 = .ok (.ireturn, 1) := by decide +kernel
theorem dX7_isTokenOut_0 : decode cX7_isTokenOut 0 = .ok (.iconst 0, 1) := by decide +kernel
theorem dX7_isTokenOut_1 : decode cX7_isTokenOut 1 = .ok (.istore_n 2, 1) := by decide +kernel
theorem dX7_isTokenOut_2 : decode cX7_isTokenOut 2 = .ok (.iconst 0, 1) := by decide +kernel
theorem dX7_isTokenOut_3 : decode cX7_isTokenOut 3 = .ok (.istore_n 3, 1) := by decide +kernel
theorem dX7_isTokenOut_4 : decode cX7_isTokenOut 4 = .ok (.iload_n 3, 1) := by decide +kernel
theorem dX7_isTokenOut_5 : decode cX7_isTokenOut 5 = .ok (.iconst 2, 1) := by decide +kernel
theorem dX7_isTokenOut_6 : decode cX7_isTokenOut 6 = .ok (.if_icmp .ge 34, 3) := by decide +kernel
theorem dX7_isTokenOut_9 : decode cX7_isTokenOut 9 = .ok (.iload_n 2, 1) := by decide +kernel
theorem dX7_isTokenOut_10 : decode cX7_isTokenOut 10 = .ok (.ifCond .ne 18, 3) := by decide +kernel
theorem dX7_isTokenOut_13 : decode cX7_isTokenOut 13 = .ok (.aload_n 0, 1) := by decide +kernel
theorem dX7_isTokenOut_14 : decode cX7_isTokenOut 14 = .ok (.iload_n 1, 1) := by decide +kernel
theorem dX7_isTokenOut_15 : decode cX7_isTokenOut 15 = .ok (.iload_n 3, 1) := by decide +kernel
theorem dX7_isTokenOut_16 : decode cX7_isTokenOut 16 = .ok (.iconst 0, 1) := by decide +kernel
theorem dX7_isTokenOut_17 : decode cX7_isTokenOut 17 = .ok (.invokevirtual 55, 3) := by decide +kernel
theorem dX7_isTokenOut_20 : decode cX7_isTokenOut 20 = .ok (.iconst 1, 1) := by decide +kernel
theorem dX7_isTokenOut_21 : decode cX7_isTokenOut 21 = .ok (.iconst 2, 1) := by decide +kernel
theorem dX7_isTokenOut_22 : decode cX7_isTokenOut 22 = .ok (.invokestatic 40, 3) := by decide +kernel
theorem dX7_isTokenOut_25 : decode cX7_isTokenOut 25 = .ok (.ifCond .eq 7, 3) := by decide +kernel
theorem dX7_isTokenOut_28 : decode cX7_isTokenOut 28 = .ok (.iconst 1, 1) := by decide +kernel
theorem dX7_isTokenOut_29 : decode cX7_isTokenOut 29 = .ok (.goto 4, 3) := by decide +kernel
theorem dX7_isTokenOut_32 : decode cX7_isTokenOut 32 = .ok (.iconst 0, 1) := by decide +kernel
theorem dX7_isTokenOut_33 : decode cX7_isTokenOut 33 = .ok (.istore_n 2, 1) := by decide +kernel
theorem dX7_isTokenOut_34 : decode cX7_isTokenOut 34 = .ok (.iinc 3 1, 3) := by decide +kernel
theorem dX7_isTokenOut_37 : decode cX7_isTokenOut 37 = .ok (.goto (-33), 3) := by decide +kernel
theorem dX7_isTokenOut_40 : decode cX7_isTokenOut 40 = .ok (.aload_n 0, 1) := by decide +kernel
theorem dX7_isTokenOut_41 : decode cX7_isTokenOut 41 = .ok (.iload_n 1, 1) := by decide +kernel
theorem dX7_isTokenOut_42 : decode cX7_isTokenOut 42 = .ok (.invokevirtual 58, 3) := by decide +kernel
theorem dX7_isTokenOut_45 : decode cX7_isTokenOut 45 = .ok (.ifCond .eq 11, 3) := by decide +kernel
theorem dX7_isTokenOut_48 : decode cX7_isTokenOut 48 = .ok (.iload_n 2, 1) := by decide +kernel
theorem dX7_isTokenOut_49 : decode cX7_isTokenOut 49 = .ok (.ifCond .eq 7, 3) := by decide +kernel
theorem dX7_isTokenOut_52 : decode cX7_isTokenOut 52 = .ok (.iconst 1, 1) := by decide +kernel
theorem dX7_isTokenOut_53 : decode cX7_isTokenOut 53 = .ok (.goto 4, 3) := by decide +kernel
theorem dX7_isTokenOut_56 : decode cX7_isTokenOut 56 = .ok (.iconst 0, 1) := by decide +kernel
theorem dX7_isTokenOut_57 : decode cX7_isTokenOut 57 = .ok (.ireturn, 1) := by decide +kernel
theorem dX7_tokensAt_0 : decode cX7_tokensAt 0 = .ok (.bipush 8, 2) := by decide +kernel
theorem dX7_tokensAt_2 : decode cX7_tokensAt 2 = .ok (.iconst 2, 1) := by decide +kernel
theorem dX7_tokensAt_3 : decode cX7_tokensAt 3 = .ok (.iload_n 0, 1) := by decide +kernel
theorem dX7_tokensAt_4 : decode cX7_tokensAt 4 = .ok (.imul, 1) := by decide +kernel
theorem dX7_tokensAt_5 : decode cX7_tokensAt 5 = .ok (.iadd, 1) := by decide +kernel
theorem dX7_tokensAt_6 : decode cX7_tokensAt 6 = .ok (.iload_n 1, 1) := by decide +kernel
theorem dX7_tokensAt_7 : decode cX7_tokensAt 7 = .ok (.iload_n 0, 1) := by decide +kernel
theorem dX7_tokensAt_8 : decode cX7_tokensAt 8 = .ok (.isub, 1) := by decide +kernel
theorem dX7_tokensAt_9 : decode cX7_tokensAt 9 = .ok (.iadd, 1) := by decide +kernel
theorem dX7_tokensAt_10 : decode cX7_tokensAt 10 = .ok (.ireturn, 1) := by decide +kernel
theorem dX7_setUp_0 : decode cX7_setUp 0 = .ok (.iload_n 1, 1) := by decide +kernel
theorem dX7_setUp_1 : decode cX7_setUp 1 = .ok (.iconst 2, 1) := by decide +kernel
theorem dX7_setUp_2 : decode cX7_setUp 2 = .ok (.bipush 6, 2) := by decide +kernel
theorem dX7_setUp_4 : decode cX7_setUp 4 = .ok (.invokestatic 40, 3) := by decide +kernel
theorem dX7_setUp_7 : decode cX7_setUp 7 = .ok (.ifCond .eq 18, 3) := by decide +kernel
theorem dX7_setUp_10 : decode cX7_setUp 10 = .ok (.iload_n 2, 1) := by decide +kernel
theorem dX7_setUp_11 : decode cX7_setUp 11 = .ok (.iconst 0, 1) := by decide +kernel
theorem dX7_setUp_12 : decode cX7_setUp 12 = .ok (.iconst 1, 1) := by decide +kernel
theorem dX7_setUp_13 : decode cX7_setUp 13 = .ok (.iload_n 1, 1) := by decide +kernel
theorem dX7_setUp_14 : decode cX7_setUp 14 = .ok (.iconst 1, 1) := by decide +kernel
theorem dX7_setUp_15 : decode cX7_setUp 15 = .ok (.isub, 1) := by decide +kernel
theorem dX7_setUp_16 : decode cX7_setUp 16 = .ok (.ishl, 1) := by decide +kernel
theorem dX7_setUp_17 : decode cX7_setUp 17 = .ok (.iconst 1, 1) := by decide +kernel
theorem dX7_setUp_18 : decode cX7_setUp 18 = .ok (.isub, 1) := by decide +kernel
theorem dX7_setUp_19 : decode cX7_setUp 19 = .ok (.invokestatic 40, 3) := by decide +kernel
theorem dX7_setUp_22 : decode cX7_setUp 22 = .ok (.ifCond .ne 6, 3) := by decide +kernel
theorem dX7_setUp_25 : decode cX7_setUp 25 = .ok (.bipush (-2), 2) := by decide +kernel
theorem dX7_setUp_27 : decode cX7_setUp 27 = .ok (.ireturn, 1) := by decide +kernel
theorem dX7_setUp_28 : decode cX7_setUp 28 = .ok (.aload_n 0, 1) := by decide +kernel
theorem dX7_setUp_29 : decode cX7_setUp 29 = .ok (.getfield 7, 3) := by decide +kernel
theorem dX7_setUp_32 : decode cX7_setUp 32 = .ok (.sipush 381, 3) := by decide +kernel
theorem dX7_setUp_35 : decode cX7_setUp 35 = .ok (.iaload, 1) := by decide +kernel
theorem dX7_setUp_36 : decode cX7_setUp 36 = .ok (.istore_n 3, 1) := by decide +kernel
theorem dX7_setUp_37 : decode cX7_setUp 37 = .ok (.aload_n 0, 1) := by decide +kernel
theorem dX7_setUp_38 : decode cX7_setUp 38 = .ok (.iload_n 1, 1) := by decide +kernel
theorem dX7_setUp_39 : decode cX7_setUp 39 = .ok (.iload_n 2, 1) := by decide +kernel
theorem dX7_setUp_40 : decode cX7_setUp 40 = .ok (.invokevirtual 29, 3) := by decide +kernel
theorem dX7_setUp_43 : decode cX7_setUp 43 = .ok (.iload_n 3, 1) := by decide +kernel
theorem dX7_setUp_44 : decode cX7_setUp 44 = .ok (.ireturn, 1) := by decide +kernel
theorem dX7_setTime_0 : decode cX7_setTime 0 = .ok (.aload_n 0, 1) := by decide +kernel
theorem dX7_setTime_1 : decode cX7_setTime 1 = .ok (.iload_n 1, 1) := by decide +kernel
theorem dX7_setTime_2 : decode cX7_setTime 2 = .ok (.invokevirtual 44, 3) := by decide +kernel
theorem dX7_setTime_5 : decode cX7_setTime 5 = .ok (.ifCond .ne 5, 3) := by decide +kernel
theorem dX7_setTime_8 : decode cX7_setTime 8 = .ok (.iconst (-1), 1) := by decide +kernel
theorem dX7_setTime_9 : decode cX7_setTime 9 = .ok (.ireturn, 1) := by decide +kernel
theorem dX7_setTime_10 : decode cX7_setTime 10 = .ok (.iload_n 2, 1) := by decide +kernel
theorem dX7_setTime_11 : decode cX7_setTime 11 = .ok (.iconst 1, 1) := by decide +kernel
theorem dX7_setTime_12 : decode cX7_setTime 12 = .ok (.bipush 30, 2) := by decide +kernel
theorem dX7_setTime_14 : decode cX7_setTime 14 = .ok (.invokestatic 40, 3) := by decide +kernel
theorem dX7_setTime_17 : decode cX7_setTime 17 = .ok (.ifCond .ne 6, 3) := by decide +kernel
theorem dX7_setTime_20 : decode cX7_setTime 20 = .ok (.bipush (-2), 2) := by decide +kernel
theorem dX7_setTime_22 : decode cX7_setTime 22 = .ok (.ireturn, 1) := by decide +kernel
theorem dX7_setTime_23 : decode cX7_setTime 23 = .ok (.aload_n 0, 1) := by decide +kernel
theorem dX7_setTime_24 : decode cX7_setTime 24 = .ok (.getfield 7, 3) := by decide +kernel
theorem dX7_setTime_27 : decode cX7_setTime 27 = .ok (.iconst 3, 1) := by decide +kernel
theorem dX7_setTime_28 : decode cX7_setTime 28 = .ok (.iload_n 1, 1) := by decide +kernel
theorem dX7_setTime_29 : decode cX7_setTime 29 = .ok (.iadd, 1) := by decide +kernel
theorem dX7_setTime_30 : decode cX7_setTime 30 = .ok (.iaload, 1) := by decide +kernel
theorem dX7_setTime_31 : decode cX7_setTime 31 = .ok (.istore_n 3, 1) := by decide +kernel
theorem dX7_setTime_32 : decode cX7_setTime 32 = .ok (.aload_n 0, 1) := by decide +kernel
theorem dX7_setTime_33 : decode cX7_setTime 33 = .ok (.getfield 7, 3) := by decide +kernel
theorem dX7_setTime_36 : decode cX7_setTime 36 = .ok (.iconst 3, 1) := by decide +kernel
theorem dX7_setTime_37 : decode cX7_setTime 37 = .ok (.iload_n 1, 1) := by decide +kernel
theorem dX7_setTime_38 : decode cX7_setTime 38 = .ok (.iadd, 1) := by decide +kernel
theorem dX7_setTime_39 : decode cX7_setTime 39 = .ok (.iload_n 2, 1) := by decide +kernel
theorem dX7_setTime_40 : decode cX7_setTime 40 = .ok (.iastore, 1) := by decide +kernel
theorem dX7_setTime_41 : decode cX7_setTime 41 = .ok (.iload_n 3, 1) := by decide +kernel
theorem dX7_setTime_42 : decode cX7_setTime 42 = .ok (.ireturn, 1) := by decide +kernel
theorem dX7_many_0 : decode cX7_many 0 = .ok (.iconst 0, 1) := by decide +kernel
theorem dX7_many_1 : decode cX7_many 1 = .ok (.istore 4, 2) := by decide +kernel
theorem dX7_many_3 : decode cX7_many 3 = .ok (.iconst 0, 1) := by decide +kernel
theorem dX7_many_4 : decode cX7_many 4 = .ok (.istore 5, 2) := by decide +kernel
theorem dX7_many_6 : decode cX7_many 6 = .ok (.iload 5, 2) := by decide +kernel
theorem dX7_many_8 : decode cX7_many 8 = .ok (.aload_n 0, 1) := by decide +kernel
theorem dX7_many_9 : decode cX7_many 9 = .ok (.getfield 7, 3) := by decide +kernel
theorem dX7_many_12 : decode cX7_many 12 = .ok (.sipush 381, 3) := by decide +kernel
theorem dX7_many_15 : decode cX7_many 15 = .ok (.iaload, 1) := by decide +kernel
theorem dX7_many_16 : decode cX7_many 16 = .ok (.if_icmp .ge 52, 3) := by decide +kernel
theorem dX7_many_19 : decode cX7_many 19 = .ok (.iload 4, 2) := by decide +kernel
theorem dX7_many_21 : decode cX7_many 21 = .ok (.aload_n 0, 1) := by decide +kernel
theorem dX7_many_22 : decode cX7_many 22 = .ok (.iload 5, 2) := by decide +kernel
theorem dX7_many_24 : decode cX7_many 24 = .ok (.iconst 2, 1) := by decide +kernel
theorem dX7_many_25 : decode cX7_many 25 = .ok (.invokevirtual 61, 3) := by decide +kernel
theorem dX7_many_28 : decode cX7_many 28 = .ok (.iload_n 3, 1) := by decide +kernel
theorem dX7_many_29 : decode cX7_many 29 = .ok (.if_icmp .ne 29, 3) := by decide +kernel
theorem dX7_many_32 : decode cX7_many 32 = .ok (.aload_n 0, 1) := by decide +kernel
theorem dX7_many_33 : decode cX7_many 33 = .ok (.iload 5, 2) := by decide +kernel
theorem dX7_many_35 : decode cX7_many 35 = .ok (.iconst 3, 1) := by decide +kernel
theorem dX7_many_36 : decode cX7_many 36 = .ok (.invokevirtual 61, 3) := by decide +kernel
theorem dX7_many_39 : decode cX7_many 39 = .ok (.iload_n 1, 1) := by decide +kernel
theorem dX7_many_40 : decode cX7_many 40 = .ok (.if_icmp .ne 18, 3) := by decide +kernel
theorem dX7_many_43 : decode cX7_many 43 = .ok (.aload_n 0, 1) := by decide +kernel
theorem dX7_many_44 : decode cX7_many 44 = .ok (.iload 5, 2) := by decide +kernel
theorem dX7_many_46 : decode cX7_many 46 = .ok (.iconst 1, 1) := by decide +kernel
theorem dX7_many_47 : decode cX7_many 47 = .ok (.invokevirtual 61, 3) := by decide +kernel
theorem dX7_many_50 : decode cX7_many 50 = .ok (.iload_n 2, 1) := by decide +kernel
theorem dX7_many_51 : decode cX7_many 51 = .ok (.if_icmp .ne 7, 3) := by decide +kernel
theorem dX7_many_54 : decode cX7_many 54 = .ok (.iconst 1, 1) := by decide +kernel
theorem dX7_many_55 : decode cX7_many 55 = .ok (.goto 4, 3) := by decide +kernel
theorem dX7_many_58 : decode cX7_many 58 = .ok (.iconst 0, 1) := by decide +kernel
theorem dX7_many_59 : decode cX7_many 59 = .ok (.iadd, 1) := by decide +kernel
theorem dX7_many_60 : decode cX7_many 60 = .ok (.istore 4, 2) := by decide +kernel
theorem dX7_many_62 : decode cX7_many 62 = .ok (.iinc 5 1, 3) := by decide +kernel
theorem dX7_many_65 : decode cX7_many 65 = .ok (.goto (-59), 3) := by decide +kernel
theorem dX7_many_68 : decode cX7_many 68 = .ok (.iload 4, 2) := by decide +kernel
theorem dX7_many_70 : decode cX7_many 70 = .ok (.ireturn, 1) := by decide +kernel
theorem dX7_setLoops_0 : decode cX7_setLoops 0 = .ok (.iload_n 1, 1) := by decide +kernel
theorem dX7_setLoops_1 : decode cX7_setLoops 1 = .ok (.iconst 0, 1) := by decide +kernel
theorem dX7_setLoops_2 : decode cX7_setLoops 2 = .ok (.aload_n 0, 1) := by decide +kernel
theorem dX7_setLoops_3 : decode cX7_setLoops 3 = .ok (.getfield 7, 3) := by decide +kernel
theorem dX7_setLoops_6 : decode cX7_setLoops 6 = .ok (.iconst 1, 1) := by decide +kernel
theorem dX7_setLoops_7 : decode cX7_setLoops 7 = .ok (.iaload, 1) := by decide +kernel
theorem dX7_setLoops_8 : decode cX7_setLoops 8 = .ok (.iconst 1, 1) := by decide +kernel
theorem dX7_setLoops_9 : decode cX7_setLoops 9 = .ok (.isub, 1) := by decide +kernel
theorem dX7_setLoops_10 : decode cX7_setLoops 10 = .ok (.invokestatic 40, 3) := by decide +kernel
theorem dX7_setLoops_13 : decode cX7_setLoops 13 = .ok (.ifCond .eq 10, 3) := by decide +kernel
theorem dX7_setLoops_16 : decode cX7_setLoops 16 = .ok (.iload_n 2, 1) := by decide +kernel
theorem dX7_setLoops_17 : decode cX7_setLoops 17 = .ok (.invokestatic 48, 3) := by decide +kernel
theorem dX7_setLoops_20 : decode cX7_setLoops 20 = .ok (.ifCond .ne 5, 3) := by decide +kernel
theorem dX7_setLoops_23 : decode cX7_setLoops 23 = .ok (.iconst (-1), 1) := by decide +kernel
theorem dX7_setLoops_24 : decode cX7_setLoops 24 = .ok (.ireturn, 1) := by decide +kernel
theorem dX7_setLoops_25 : decode cX7_setLoops 25 = .ok (.iload_n 3, 1) := by decide +kernel
theorem dX7_setLoops_26 : decode cX7_setLoops 26 = .ok (.iconst 0, 1) := by decide +kernel
theorem dX7_setLoops_27 : decode cX7_setLoops 27 = .ok (.iconst 3, 1) := by decide +kernel
theorem dX7_setLoops_28 : decode cX7_setLoops 28 = .ok (.invokestatic 40, 3) := by decide +kernel
theorem dX7_setLoops_31 : decode cX7_setLoops 31 = .ok (.ifCond .ne 6, 3) := by decide +kernel
theorem dX7_setLoops_34 : decode cX7_setLoops 34 = .ok (.bipush (-2), 2) := by decide +kernel
theorem dX7_setLoops_36 : decode cX7_setLoops 36 = .ok (.ireturn, 1) := by decide +kernel
theorem dX7_setLoops_37 : decode cX7_setLoops 37 = .ok (.aload_n 0, 1) := by decide +kernel
theorem dX7_setLoops_38 : decode cX7_setLoops 38 = .ok (.iload_n 1, 1) := by decide +kernel
theorem dX7_setLoops_39 : decode cX7_setLoops 39 = .ok (.iload_n 2, 1) := by decide +kernel
theorem dX7_setLoops_40 : decode cX7_setLoops 40 = .ok (.iconst 1, 1) := by decide +kernel
theorem dX7_setLoops_41 : decode cX7_setLoops 41 = .ok (.invokevirtual 65, 3) := by decide +kernel
theorem dX7_setLoops_44 : decode cX7_setLoops 44 = .ok (.iload_n 3, 1) := by decide +kernel
theorem dX7_setLoops_45 : decode cX7_setLoops 45 = .ok (.if_icmp .le 6, 3) := by decide +kernel
theorem dX7_setLoops_48 : decode cX7_setLoops 48 = .ok (.bipush (-5), 2) := by decide +kernel
theorem dX7_setLoops_50 : decode cX7_setLoops 50 = .ok (.ireturn, 1) := by decide +kernel
theorem dX7_setLoops_51 : decode cX7_setLoops 51 = .ok (.aload_n 0, 1) := by decide +kernel
theorem dX7_setLoops_52 : decode cX7_setLoops 52 = .ok (.getfield 7, 3) := by decide +kernel
theorem dX7_setLoops_55 : decode cX7_setLoops 55 = .ok (.bipush 18, 2) := by decide +kernel
theorem dX7_setLoops_57 : decode cX7_setLoops 57 = .ok (.iconst 2, 1) := by decide +kernel
theorem dX7_setLoops_58 : decode cX7_setLoops 58 = .ok (.iload_n 1, 1) := by decide +kernel
theorem dX7_setLoops_59 : decode cX7_setLoops 59 = .ok (.imul, 1) := by decide +kernel
theorem dX7_setLoops_60 : decode cX7_setLoops 60 = .ok (.iadd, 1) := by decide +kernel
theorem dX7_setLoops_61 : decode cX7_setLoops 61 = .ok (.iload_n 2, 1) := by decide +kernel
theorem dX7_setLoops_62 : decode cX7_setLoops 62 = .ok (.iadd, 1) := by decide +kernel
theorem dX7_setLoops_63 : decode cX7_setLoops 63 = .ok (.iaload, 1) := by decide +kernel
theorem dX7_setLoops_64 : decode cX7_setLoops 64 = .ok (.istore 4, 2) := by decide +kernel
theorem dX7_setLoops_66 : decode cX7_setLoops 66 = .ok (.aload_n 0, 1) := by decide +kernel
theorem dX7_setLoops_67 : decode cX7_setLoops 67 = .ok (.getfield 7, 3) := by decide +kernel
theorem dX7_setLoops_70 : decode cX7_setLoops 70 = .ok (.bipush 18, 2) := by decide +kernel
theorem dX7_setLoops_72 : decode cX7_setLoops 72 = .ok (.iconst 2, 1) := by decide +kernel
theorem dX7_setLoops_73 : decode cX7_setLoops 73 = .ok (.iload_n 1, 1) := by decide +kernel
theorem dX7_setLoops_74 : decode cX7_setLoops 74 = .ok (.imul, 1) := by decide +kernel
theorem dX7_setLoops_75 : decode cX7_setLoops 75 = .ok (.iadd, 1) := by decide +kernel
theorem dX7_setLoops_76 : decode cX7_setLoops 76 = .ok (.iload_n 2, 1) := by decide +kernel
theorem dX7_setLoops_77 : decode cX7_setLoops 77 = .ok (.iadd, 1) := by decide +kernel
theorem dX7_setLoops_78 : decode cX7_setLoops 78 = .ok (.iload_n 3, 1) := by decide +kernel
theorem dX7_setLoops_79 : decode cX7_setLoops 79 = .ok (.iastore, 1) := by decide +kernel
theorem dX7_setLoops_80 : decode cX7_setLoops 80 = .ok (.iload 4, 2) := by decide +kernel
theorem dX7_setLoops_82 : decode cX7_setLoops 82 = .ok (.ireturn, 1) := by decide +kernel
theorem dX7_moveTokens_0 : decode cX7_moveTokens 0 = .ok (.aload_n 0, 1) := by decide +kernel
theorem dX7_moveTokens_1 : decode cX7_moveTokens 1 = .ok (.iload_n 1, 1) := by decide +kernel
theorem dX7_moveTokens_2 : decode cX7_moveTokens 2 = .ok (.invokevirtual 44, 3) := by decide +kernel
theorem dX7_moveTokens_5 : decode cX7_moveTokens 5 = .ok (.ifCond .ne 5, 3) := by decide +kernel
theorem dX7_moveTokens_8 : decode cX7_moveTokens 8 = .ok (.iconst (-1), 1) := by decide +kernel
theorem dX7_moveTokens_9 : decode cX7_moveTokens 9 = .ok (.ireturn, 1) := by decide +kernel
theorem dX7_moveTokens_10 : decode cX7_moveTokens 10 = .ok (.iload_n 2, 1) := by decide +kernel
theorem dX7_moveTokens_11 : decode cX7_moveTokens 11 = .ok (.bipush (-10), 2) := by decide +kernel
theorem dX7_moveTokens_13 : decode cX7_moveTokens 13 = .ok (.bipush 10, 2) := by decide +kernel
theorem dX7_moveTokens_15 : decode cX7_moveTokens 15 = .ok (.invokestatic 40, 3) := by decide +kernel
theorem dX7_moveTokens_18 : decode cX7_moveTokens 18 = .ok (.ifCond .ne 6, 3) := by decide +kernel
theorem dX7_moveTokens_21 : decode cX7_moveTokens 21 = .ok (.bipush (-2), 2) := by decide +kernel
theorem dX7_moveTokens_23 : decode cX7_moveTokens 23 = .ok (.ireturn, 1) := by decide +kernel
theorem dX7_moveTokens_24 : decode cX7_moveTokens 24 = .ok (.aload_n 0, 1) := by decide +kernel
theorem dX7_moveTokens_25 : decode cX7_moveTokens 25 = .ok (.getfield 7, 3) := by decide +kernel
theorem dX7_moveTokens_28 : decode cX7_moveTokens 28 = .ok (.bipush 8, 2) := by decide +kernel
theorem dX7_moveTokens_30 : decode cX7_moveTokens 30 = .ok (.iconst 2, 1) := by decide +kernel
theorem dX7_moveTokens_31 : decode cX7_moveTokens 31 = .ok (.iload_n 1, 1) := by decide +kernel
theorem dX7_moveTokens_32 : decode cX7_moveTokens 32 = .ok (.imul, 1) := by decide +kernel
theorem dX7_moveTokens_33 : decode cX7_moveTokens 33 = .ok (.iadd, 1) := by decide +kernel
theorem dX7_moveTokens_34 : decode cX7_moveTokens 34 = .ok (.iaload, 1) := by decide +kernel
theorem dX7_moveTokens_35 : decode cX7_moveTokens 35 = .ok (.iload_n 2, 1) := by decide +kernel
theorem dX7_moveTokens_36 : decode cX7_moveTokens 36 = .ok (.isub, 1) := by decide +kernel
theorem dX7_moveTokens_37 : decode cX7_moveTokens 37 = .ok (.istore_n 3, 1) := by decide +kernel
theorem dX7_moveTokens_38 : decode cX7_moveTokens 38 = .ok (.aload_n 0, 1) := by decide +kernel
theorem dX7_moveTokens_39 : decode cX7_moveTokens 39 = .ok (.getfield 7, 3) := by decide +kernel
theorem dX7_moveTokens_42 : decode cX7_moveTokens 42 = .ok (.bipush 8, 2) := by decide +kernel
theorem dX7_moveTokens_44 : decode cX7_moveTokens 44 = .ok (.iconst 2, 1) := by decide +kernel
theorem dX7_moveTokens_45 : decode cX7_moveTokens 45 = .ok (.iload_n 1, 1) := by decide +kernel
theorem dX7_moveTokens_46 : decode cX7_moveTokens 46 = .ok (.imul, 1) := by decide +kernel
theorem dX7_moveTokens_47 : decode cX7_moveTokens 47 = .ok (.iadd, 1) := by decide +kernel
theorem dX7_moveTokens_48 : decode cX7_moveTokens 48 = .ok (.iconst 1, 1) := by decide +kernel
theorem dX7_moveTokens_49 : decode cX7_moveTokens 49 = .ok (.iadd, 1) := by decide +kernel
theorem dX7_moveTokens_50 : decode cX7_moveTokens 50 = .ok (.iaload, 1) := by decide +kernel
theorem dX7_moveTokens_51 : decode cX7_moveTokens 51 = .ok (.iload_n 2, 1) := by decide +kernel
theorem dX7_moveTokens_52 : decode cX7_moveTokens 52 = .ok (.iadd, 1) := by decide +kernel
theorem dX7_moveTokens_53 : decode cX7_moveTokens 53 = .ok (.istore 4, 2) := by decide +kernel
theorem dX7_moveTokens_55 : decode cX7_moveTokens 55 = .ok (.aload_n 0, 1) := by decide +kernel
theorem dX7_moveTokens_56 : decode cX7_moveTokens 56 = .ok (.iload_n 1, 1) := by decide +kernel
theorem dX7_moveTokens_57 : decode cX7_moveTokens 57 = .ok (.invokevirtual 58, 3) := by decide +kernel
theorem dX7_moveTokens_60 : decode cX7_moveTokens 60 = .ok (.ifCond .eq 12, 3) := by decide +kernel
theorem dX7_moveTokens_63 : decode cX7_moveTokens 63 = .ok (.iload_n 3, 1) := by decide +kernel
theorem dX7_moveTokens_64 : decode cX7_moveTokens 64 = .ok (.ifCond .lt 8, 3) := by decide +kernel
theorem dX7_moveTokens_67 : decode cX7_moveTokens 67 = .ok (.iload 4, 2) := by decide +kernel
theorem dX7_moveTokens_69 : decode cX7_moveTokens 69 = .ok (.ifCond .ge 6, 3) := by decide +kernel
theorem dX7_moveTokens_72 : decode cX7_moveTokens 72 = .ok (.bipush (-5), 2) := by decide +kernel
theorem dX7_moveTokens_74 : decode cX7_moveTokens 74 = .ok (.ireturn, 1) := by decide +kernel
theorem dX7_moveTokens_75 : decode cX7_moveTokens 75 = .ok (.aload_n 0, 1) := by decide +kernel
theorem dX7_moveTokens_76 : decode cX7_moveTokens 76 = .ok (.getfield 7, 3) := by decide +kernel
theorem dX7_moveTokens_79 : decode cX7_moveTokens 79 = .ok (.bipush 8, 2) := by decide +kernel
theorem dX7_moveTokens_81 : decode cX7_moveTokens 81 = .ok (.iconst 2, 1) := by decide +kernel
theorem dX7_moveTokens_82 : decode cX7_moveTokens 82 = .ok (.iload_n 1, 1) := by decide +kernel
theorem dX7_moveTokens_83 : decode cX7_moveTokens 83 = .ok (.imul, 1) := by decide +kernel
theorem dX7_moveTokens_84 : decode cX7_moveTokens 84 = .ok (.iadd, 1) := by decide +kernel
theorem dX7_moveTokens_85 : decode cX7_moveTokens 85 = .ok (.iload_n 3, 1) := by decide +kernel
theorem dX7_moveTokens_86 : decode cX7_moveTokens 86 = .ok (.iastore, 1) := by decide +kernel
theorem dX7_moveTokens_87 : decode cX7_moveTokens 87 = .ok (.aload_n 0, 1) := by decide +kernel
theorem dX7_moveTokens_88 : decode cX7_moveTokens 88 = .ok (.getfield 7, 3) := by decide +kernel
theorem dX7_moveTokens_91 : decode cX7_moveTokens 91 = .ok (.bipush 8, 2) := by decide +kernel
theorem dX7_moveTokens_93 : decode cX7_moveTokens 93 = .ok (.iconst 2, 1) := by decide +kernel
theorem dX7_moveTokens_94 : decode cX7_moveTokens 94 = .ok (.iload_n 1, 1) := by decide +kernel
theorem dX7_moveTokens_95 : decode cX7_moveTokens 95 = .ok (.imul, 1) := by decide +kernel
theorem dX7_moveTokens_96 : decode cX7_moveTokens 96 = .ok (.iadd, 1) := by decide +kernel
theorem dX7_moveTokens_97 : decode cX7_moveTokens 97 = .ok (.iconst 1, 1) := by decide +kernel
theorem dX7_moveTokens_98 : decode cX7_moveTokens 98 = .ok (.iadd, 1) := by decide +kernel
theorem dX7_moveTokens_99 : decode cX7_moveTokens 99 = .ok (.iload 4, 2) := by decide +kernel
theorem dX7_moveTokens_101 : decode cX7_moveTokens 101 = .ok (.iastore, 1) := by decide +kernel
theorem dX7_moveTokens_102 : decode cX7_moveTokens 102 = .ok (.iload_n 3, 1) := by decide +kernel
theorem dX7_moveTokens_103 : decode cX7_moveTokens 103 = .ok (.ireturn, 1) := by decide +kernel
theorem dX7_section_0 : decode cX7_section 0 = .ok (.aload_n 0, 1) := by decide +kernel
theorem dX7_section_1 : decode cX7_section 1 = .ok (.iload_n 1, 1) := by decide +kernel
theorem dX7_section_2 : decode cX7_section 2 = .ok (.invokevirtual 44, 3) := by decide +kernel
theorem dX7_section_5 : decode cX7_section 5 = .ok (.ifCond .ne 5, 3) := by decide +kernel
theorem dX7_section_8 : decode cX7_section 8 = .ok (.iconst (-1), 1) := by decide +kernel
theorem dX7_section_9 : decode cX7_section 9 = .ok (.ireturn, 1) := by decide +kernel
theorem dX7_section_10 : decode cX7_section 10 = .ok (.aload_n 0, 1) := by decide +kernel
theorem dX7_section_11 : decode cX7_section 11 = .ok (.iload_n 1, 1) := by decide +kernel
theorem dX7_section_12 : decode cX7_section 12 = .ok (.invokevirtual 58, 3) := by decide +kernel
theorem dX7_section_15 : decode cX7_section 15 = .ok (.istore_n 3, 1) := by decide +kernel
theorem dX7_section_16 : decode cX7_section 16 = .ok (.iload_n 2, 1) := by decide +kernel
theorem dX7_section_17 : decode cX7_section 17 = .ok (.tableswitch 92 0 4 #[35, 45, 54, 54, 78], 35) := by decide +kernel
theorem dX7_section_52 : decode cX7_section 52 = .ok (.iload_n 3, 1) := by decide +kernel
theorem dX7_section_53 : decode cX7_section 53 = .ok (.ifCond .eq 7, 3) := by decide +kernel
theorem dX7_section_56 : decode cX7_section 56 = .ok (.iconst 1, 1) := by decide +kernel
theorem dX7_section_57 : decode cX7_section 57 = .ok (.goto 4, 3) := by decide +kernel
theorem dX7_section_60 : decode cX7_section 60 = .ok (.iconst 0, 1) := by decide +kernel
theorem dX7_section_61 : decode cX7_section 61 = .ok (.ireturn, 1) := by decide +kernel
theorem dX7_section_62 : decode cX7_section 62 = .ok (.aload_n 0, 1) := by decide +kernel
theorem dX7_section_63 : decode cX7_section 63 = .ok (.getfield 7, 3) := by decide +kernel
theorem dX7_section_66 : decode cX7_section 66 = .ok (.iconst 3, 1) := by decide +kernel
theorem dX7_section_67 : decode cX7_section 67 = .ok (.iload_n 1, 1) := by decide +kernel
theorem dX7_section_68 : decode cX7_section 68 = .ok (.iadd, 1) := by decide +kernel
theorem dX7_section_69 : decode cX7_section 69 = .ok (.iaload, 1) := by decide +kernel
theorem dX7_section_70 : decode cX7_section 70 = .ok (.ireturn, 1) := by decide +kernel
theorem dX7_section_71 : decode cX7_section 71 = .ok (.iload_n 3, 1) := by decide +kernel
theorem dX7_section_72 : decode cX7_section 72 = .ok (.ifCond .eq 21, 3) := by decide +kernel
theorem dX7_section_75 : decode cX7_section 75 = .ok (.aload_n 0, 1) := by decide +kernel
theorem dX7_section_76 : decode cX7_section 76 = .ok (.getfield 7, 3) := by decide +kernel
theorem dX7_section_79 : decode cX7_section 79 = .ok (.bipush 8, 2) := by decide +kernel
theorem dX7_section_81 : decode cX7_section 81 = .ok (.iconst 2, 1) := by decide +kernel
theorem dX7_section_82 : decode cX7_section 82 = .ok (.iload_n 1, 1) := by decide +kernel
theorem dX7_section_83 : decode cX7_section 83 = .ok (.imul, 1) := by decide +kernel
theorem dX7_section_84 : decode cX7_section 84 = .ok (.iadd, 1) := by decide +kernel
theorem dX7_section_85 : decode cX7_section 85 = .ok (.iload_n 2, 1) := by decide +kernel
theorem dX7_section_86 : decode cX7_section 86 = .ok (.iadd, 1) := by decide +kernel
theorem dX7_section_87 : decode cX7_section 87 = .ok (.iconst 2, 1) := by decide +kernel
theorem dX7_section_88 : decode cX7_section 88 = .ok (.isub, 1) := by decide +kernel
theorem dX7_section_89 : decode cX7_section 89 = .ok (.iaload, 1) := by decide +kernel
theorem dX7_section_90 : decode cX7_section 90 = .ok (.goto 4, 3) := by decide +kernel
theorem dX7_section_93 : decode cX7_section 93 = .ok (.iconst 0, 1) := by decide +kernel
theorem dX7_section_94 : decode cX7_section 94 = .ok (.ireturn, 1) := by decide +kernel
theorem dX7_section_95 : decode cX7_section 95 = .ok (.aload_n 0, 1) := by decide +kernel
theorem dX7_section_96 : decode cX7_section 96 = .ok (.iload_n 1, 1) := by decide +kernel
theorem dX7_section_97 : decode cX7_section 97 = .ok (.invokevirtual 68, 3) := by decide +kernel
theorem dX7_section_100 : decode cX7_section 100 = .ok (.ifCond .eq 7, 3) := by decide +kernel
theorem dX7_section_103 : decode cX7_section 103 = .ok (.iconst 1, 1) := by decide +kernel
theorem dX7_section_104 : decode cX7_section 104 = .ok (.goto 4, 3) := by decide +kernel
theorem dX7_section_107 : decode cX7_section 107 = .ok (.iconst 0, 1) := by decide +kernel
theorem dX7_section_108 : decode cX7_section 108 = .ok (.ireturn, 1) := by decide +kernel
theorem dX7_section_109 : decode cX7_section 109 = .ok (.bipush (-2), 2) := by decide +kernel
theorem dX7_section_111 : decode cX7_section 111 = .ok (.ireturn, 1) := by decide +kernel
theorem dX7_block_0 : decode cX7_block 0 = .ok (.aload_n 0, 1) := by decide +kernel
theorem dX7_block_1 : decode cX7_block 1 = .ok (.iload_n 1, 1) := by decide +kernel
theorem dX7_block_2 : decode cX7_block 2 = .ok (.iload_n 2, 1) := by decide +kernel
theorem dX7_block_3 : decode cX7_block 3 = .ok (.invokevirtual 71, 3) := by decide +kernel
theorem dX7_block_6 : decode cX7_block 6 = .ok (.ifCond .ne 5, 3) := by decide +kernel
theorem dX7_block_9 : decode cX7_block 9 = .ok (.iconst (-1), 1) := by decide +kernel
theorem dX7_block_10 : decode cX7_block 10 = .ok (.ireturn, 1) := by decide +kernel
theorem dX7_block_11 : decode cX7_block 11 = .ok (.iload_n 3, 1) := by decide +kernel
theorem dX7_block_12 : decode cX7_block 12 = .ok (.iconst 0, 1) := by decide +kernel
theorem dX7_block_13 : decode cX7_block 13 = .ok (.iconst 4, 1) := by decide +kernel
theorem dX7_block_14 : decode cX7_block 14 = .ok (.invokestatic 40, 3) := by decide +kernel
theorem dX7_block_17 : decode cX7_block 17 = .ok (.ifCond .eq 13, 3) := by decide +kernel
theorem dX7_block_20 : decode cX7_block 20 = .ok (.aload_n 0, 1) := by decide +kernel
theorem dX7_block_21 : decode cX7_block 21 = .ok (.iload_n 1, 1) := by decide +kernel
theorem dX7_block_22 : decode cX7_block 22 = .ok (.iload_n 2, 1) := by decide +kernel
theorem dX7_block_23 : decode cX7_block 23 = .ok (.iload_n 3, 1) := by decide +kernel
theorem dX7_block_24 : decode cX7_block 24 = .ok (.invokevirtual 55, 3) := by decide +kernel
theorem dX7_block_27 : decode cX7_block 27 = .ok (.goto 5, 3) := by decide +kernel
theorem dX7_block_30 : decode cX7_block 30 = .ok (.bipush (-2), 2) := by decide +kernel
theorem dX7_block_32 : decode cX7_block 32 = .ok (.ireturn, 1) := by decide +kernel
theorem dX7_firstBox_0 : decode cX7_firstBox 0 = .ok (.iload_n 1, 1) := by decide +kernel
theorem dX7_firstBox_1 : decode cX7_firstBox 1 = .ok (.ifCond .ne 7, 3) := by decide +kernel
theorem dX7_firstBox_4 : decode cX7_firstBox 4 = .ok (.iconst 0, 1) := by decide +kernel
theorem dX7_firstBox_5 : decode cX7_firstBox 5 = .ok (.goto 11, 3) := by decide +kernel
theorem dX7_firstBox_8 : decode cX7_firstBox 8 = .ok (.aload_n 0, 1) := by decide +kernel
theorem dX7_firstBox_9 : decode cX7_firstBox 9 = .ok (.getfield 7, 3) := by decide +kernel
theorem dX7_firstBox_12 : decode cX7_firstBox 12 = .ok (.iconst 1, 1) := by decide +kernel
theorem dX7_firstBox_13 : decode cX7_firstBox 13 = .ok (.iaload, 1) := by decide +kernel
theorem dX7_firstBox_14 : decode cX7_firstBox 14 = .ok (.iconst 1, 1) := by decide +kernel
theorem dX7_firstBox_15 : decode cX7_firstBox 15 = .ok (.isub, 1) := by decide +kernel
theorem dX7_firstBox_16 : decode cX7_firstBox 16 = .ok (.ireturn, 1) := by decide +kernel
theorem dX7_isFree_0 : decode cX7_isFree 0 = .ok (.aload_n 0, 1) := by decide +kernel
theorem dX7_isFree_1 : decode cX7_isFree 1 = .ok (.iload_n 1, 1) := by decide +kernel
theorem dX7_isFree_2 : decode cX7_isFree 2 = .ok (.iload_n 2, 1) := by decide +kernel
theorem dX7_isFree_3 : decode cX7_isFree 3 = .ok (.iconst 0, 1) := by decide +kernel
theorem dX7_isFree_4 : decode cX7_isFree 4 = .ok (.invokevirtual 65, 3) := by decide +kernel
theorem dX7_isFree_7 : decode cX7_isFree 7 = .ok (.ifCond .ne 7, 3) := by decide +kernel
theorem dX7_isFree_10 : decode cX7_isFree 10 = .ok (.iconst 1, 1) := by decide +kernel
theorem dX7_isFree_11 : decode cX7_isFree 11 = .ok (.goto 4, 3) := by decide +kernel
theorem dX7_isFree_14 : decode cX7_isFree 14 = .ok (.iconst 0, 1) := by decide +kernel
theorem dX7_isFree_15 : decode cX7_isFree 15 = .ok (.ireturn, 1) := by decide +kernel
theorem dX7_add_0 : decode cX7_add 0 = .ok (.aload_n 0, 1) := by decide +kernel
theorem dX7_add_1 : decode cX7_add 1 = .ok (.getfield 7, 3) := by decide +kernel
theorem dX7_add_4 : decode cX7_add 4 = .ok (.sipush 381, 3) := by decide +kernel
theorem dX7_add_7 : decode cX7_add 7 = .ok (.iaload, 1) := by decide +kernel
theorem dX7_add_8 : decode cX7_add 8 = .ok (.istore_n 3, 1) := by decide +kernel
theorem dX7_add_9 : decode cX7_add 9 = .ok (.aload_n 0, 1) := by decide +kernel
theorem dX7_add_10 : decode cX7_add 10 = .ok (.iload_n 3, 1) := by decide +kernel
theorem dX7_add_11 : decode cX7_add 11 = .ok (.iconst 0, 1) := by decide +kernel
theorem dX7_add_12 : decode cX7_add 12 = .ok (.iload_n 1, 1) := by decide +kernel
theorem dX7_add_13 : decode cX7_add 13 = .ok (.invokevirtual 75, 3) := by decide +kernel
theorem dX7_add_16 : decode cX7_add 16 = .ok (.aload_n 0, 1) := by decide +kernel
theorem dX7_add_17 : decode cX7_add 17 = .ok (.iload_n 3, 1) := by decide +kernel
theorem dX7_add_18 : decode cX7_add 18 = .ok (.iconst 1, 1) := by decide +kernel
theorem dX7_add_19 : decode cX7_add 19 = .ok (.iload_n 2, 1) := by decide +kernel
theorem dX7_add_20 : decode cX7_add 20 = .ok (.invokevirtual 75, 3) := by decide +kernel
theorem dX7_add_23 : decode cX7_add 23 = .ok (.aload_n 0, 1) := by decide +kernel
theorem dX7_add_24 : decode cX7_add 24 = .ok (.iload_n 3, 1) := by decide +kernel
theorem dX7_add_25 : decode cX7_add 25 = .ok (.iconst 2, 1) := by decide +kernel
theorem dX7_add_26 : decode cX7_add 26 = .ok (.iconst 0, 1) := by decide +kernel
theorem dX7_add_27 : decode cX7_add 27 = .ok (.invokevirtual 75, 3) := by decide +kernel
theorem dX7_add_30 : decode cX7_add 30 = .ok (.aload_n 0, 1) := by decide +kernel
theorem dX7_add_31 : decode cX7_add 31 = .ok (.iload_n 3, 1) := by decide +kernel
theorem dX7_add_32 : decode cX7_add 32 = .ok (.iconst 3, 1) := by decide +kernel
theorem dX7_add_33 : decode cX7_add 33 = .ok (.aload_n 0, 1) := by decide +kernel
theorem dX7_add_34 : decode cX7_add 34 = .ok (.iload_n 2, 1) := by decide +kernel
theorem dX7_add_35 : decode cX7_add 35 = .ok (.invokevirtual 79, 3) := by decide +kernel
theorem dX7_add_38 : decode cX7_add 38 = .ok (.invokevirtual 75, 3) := by decide +kernel
theorem dX7_add_41 : decode cX7_add 41 = .ok (.aload_n 0, 1) := by decide +kernel
theorem dX7_add_42 : decode cX7_add 42 = .ok (.iload_n 3, 1) := by decide +kernel
theorem dX7_add_43 : decode cX7_add 43 = .ok (.iconst 4, 1) := by decide +kernel
theorem dX7_add_44 : decode cX7_add 44 = .ok (.iconst 0, 1) := by decide +kernel
theorem dX7_add_45 : decode cX7_add 45 = .ok (.invokevirtual 75, 3) := by decide +kernel
theorem dX7_add_48 : decode cX7_add 48 = .ok (.aload_n 0, 1) := by decide +kernel
theorem dX7_add_49 : decode cX7_add 49 = .ok (.iload_n 3, 1) := by decide +kernel
theorem dX7_add_50 : decode cX7_add 50 = .ok (.iconst 5, 1) := by decide +kernel
theorem dX7_add_51 : decode cX7_add 51 = .ok (.iconst 1, 1) := by decide +kernel
theorem dX7_add_52 : decode cX7_add 52 = .ok (.invokevirtual 75, 3) := by decide +kernel
theorem dX7_add_55 : decode cX7_add 55 = .ok (.aload_n 0, 1) := by decide +kernel
theorem dX7_add_56 : decode cX7_add 56 = .ok (.iload_n 3, 1) := by decide +kernel
theorem dX7_add_57 : decode cX7_add 57 = .ok (.bipush 6, 2) := by decide +kernel
theorem dX7_add_59 : decode cX7_add 59 = .ok (.aload_n 0, 1) := by decide +kernel
theorem dX7_add_60 : decode cX7_add 60 = .ok (.getfield 7, 3) := by decide +kernel
theorem dX7_add_63 : decode cX7_add 63 = .ok (.iconst 0, 1) := by decide +kernel
theorem dX7_add_64 : decode cX7_add 64 = .ok (.iaload, 1) := by decide +kernel
theorem dX7_add_65 : decode cX7_add 65 = .ok (.invokevirtual 75, 3) := by decide +kernel
theorem dX7_add_68 : decode cX7_add 68 = .ok (.aload_n 0, 1) := by decide +kernel
theorem dX7_add_69 : decode cX7_add 69 = .ok (.iload_n 3, 1) := by decide +kernel
theorem dX7_add_70 : decode cX7_add 70 = .ok (.bipush 7, 2) := by decide +kernel
theorem dX7_add_72 : decode cX7_add 72 = .ok (.bipush (-6), 2) := by decide +kernel
theorem dX7_add_74 : decode cX7_add 74 = .ok (.invokevirtual 75, 3) := by decide +kernel
theorem dX7_add_77 : decode cX7_add 77 = .ok (.aload_n 0, 1) := by decide +kernel
theorem dX7_add_78 : decode cX7_add 78 = .ok (.getfield 7, 3) := by decide +kernel
theorem dX7_add_81 : decode cX7_add 81 = .ok (.sipush 381, 3) := by decide +kernel
theorem dX7_add_84 : decode cX7_add 84 = .ok (.dup2, 1) := by decide +kernel
theorem dX7_add_85 : decode cX7_add 85 = .ok (.iaload, 1) := by decide +kernel
theorem dX7_add_86 : decode cX7_add 86 = .ok (.iconst 1, 1) := by decide +kernel
theorem dX7_add_87 : decode cX7_add 87 = .ok (.iadd, 1) := by decide +kernel
theorem dX7_add_88 : decode cX7_add 88 = .ok (.iastore, 1) := by decide +kernel
theorem dX7_add_89 : decode cX7_add 89 = .ok (.iload_n 3, 1) := by decide +kernel
theorem dX7_add_90 : decode cX7_add 90 = .ok (.ireturn, 1) := by decide +kernel
theorem dX7_appear_0 : decode cX7_appear 0 = .ok (.iload_n 1, 1) := by decide +kernel
theorem dX7_appear_1 : decode cX7_appear 1 = .ok (.iconst 1, 1) := by decide +kernel
theorem dX7_appear_2 : decode cX7_appear 2 = .ok (.iconst 5, 1) := by decide +kernel
theorem dX7_appear_3 : decode cX7_appear 3 = .ok (.invokestatic 40, 3) := by decide +kernel
theorem dX7_appear_6 : decode cX7_appear 6 = .ok (.ifCond .eq 10, 3) := by decide +kernel
theorem dX7_appear_9 : decode cX7_appear 9 = .ok (.iload_n 2, 1) := by decide +kernel
theorem dX7_appear_10 : decode cX7_appear 10 = .ok (.invokestatic 48, 3) := by decide +kernel
theorem dX7_appear_13 : decode cX7_appear 13 = .ok (.ifCond .ne 6, 3) := by decide +kernel
theorem dX7_appear_16 : decode cX7_appear 16 = .ok (.bipush (-2), 2) := by decide +kernel
theorem dX7_appear_18 : decode cX7_appear 18 = .ok (.ireturn, 1) := by decide +kernel
theorem dX7_appear_19 : decode cX7_appear 19 = .ok (.aload_n 0, 1) := by decide +kernel
theorem dX7_appear_20 : decode cX7_appear 20 = .ok (.getfield 7, 3) := by decide +kernel
theorem dX7_appear_23 : decode cX7_appear 23 = .ok (.sipush 381, 3) := by decide +kernel
theorem dX7_appear_26 : decode cX7_appear 26 = .ok (.iaload, 1) := by decide +kernel
theorem dX7_appear_27 : decode cX7_appear 27 = .ok (.bipush 12, 2) := by decide +kernel
theorem dX7_appear_29 : decode cX7_appear 29 = .ok (.if_icmp .ne 6, 3) := by decide +kernel
theorem dX7_appear_32 : decode cX7_appear 32 = .ok (.bipush (-4), 2) := by decide +kernel
theorem dX7_appear_34 : decode cX7_appear 34 = .ok (.ireturn, 1) := by decide +kernel
theorem dX7_appear_35 : decode cX7_appear 35 = .ok (.aload_n 0, 1) := by decide +kernel
theorem dX7_appear_36 : decode cX7_appear 36 = .ok (.aload_n 0, 1) := by decide +kernel
theorem dX7_appear_37 : decode cX7_appear 37 = .ok (.iload_n 2, 1) := by decide +kernel
theorem dX7_appear_38 : decode cX7_appear 38 = .ok (.invokevirtual 79, 3) := by decide +kernel
theorem dX7_appear_41 : decode cX7_appear 41 = .ok (.iload_n 2, 1) := by decide +kernel
theorem dX7_appear_42 : decode cX7_appear 42 = .ok (.invokevirtual 83, 3) := by decide +kernel
theorem dX7_appear_45 : decode cX7_appear 45 = .ok (.ifCond .eq 12, 3) := by decide +kernel
theorem dX7_appear_48 : decode cX7_appear 48 = .ok (.aload_n 0, 1) := by decide +kernel
theorem dX7_appear_49 : decode cX7_appear 49 = .ok (.iload_n 1, 1) := by decide +kernel
theorem dX7_appear_50 : decode cX7_appear 50 = .ok (.iload_n 2, 1) := by decide +kernel
theorem dX7_appear_51 : decode cX7_appear 51 = .ok (.invokevirtual 86, 3) := by decide +kernel
theorem dX7_appear_54 : decode cX7_appear 54 = .ok (.goto 5, 3) := by decide +kernel
theorem dX7_appear_57 : decode cX7_appear 57 = .ok (.bipush (-5), 2) := by decide +kernel
theorem dX7_appear_59 : decode cX7_appear 59 = .ok (.ireturn, 1) := by decide +kernel
theorem dX7_train_0 : decode cX7_train 0 = .ok (.aload_n 0, 1) := by decide +kernel
theorem dX7_train_1 : decode cX7_train 1 = .ok (.iload_n 1, 1) := by decide +kernel
theorem dX7_train_2 : decode cX7_train 2 = .ok (.invokevirtual 89, 3) := by decide +kernel
theorem dX7_train_5 : decode cX7_train 5 = .ok (.ifCond .ne 5, 3) := by decide +kernel
theorem dX7_train_8 : decode cX7_train 8 = .ok (.iconst (-1), 1) := by decide +kernel
theorem dX7_train_9 : decode cX7_train 9 = .ok (.ireturn, 1) := by decide +kernel
theorem dX7_train_10 : decode cX7_train 10 = .ok (.iload_n 2, 1) := by decide +kernel
theorem dX7_train_11 : decode cX7_train 11 = .ok (.iconst 0, 1) := by decide +kernel
theorem dX7_train_12 : decode cX7_train 12 = .ok (.bipush 7, 2) := by decide +kernel
theorem dX7_train_14 : decode cX7_train 14 = .ok (.invokestatic 40, 3) := by decide +kernel
theorem dX7_train_17 : decode cX7_train 17 = .ok (.ifCond .eq 12, 3) := by decide +kernel
theorem dX7_train_20 : decode cX7_train 20 = .ok (.aload_n 0, 1) := by decide +kernel
theorem dX7_train_21 : decode cX7_train 21 = .ok (.iload_n 1, 1) := by decide +kernel
theorem dX7_train_22 : decode cX7_train 22 = .ok (.iload_n 2, 1) := by decide +kernel
theorem dX7_train_23 : decode cX7_train 23 = .ok (.invokevirtual 61, 3) := by decide +kernel
theorem dX7_train_26 : decode cX7_train 26 = .ok (.goto 5, 3) := by decide +kernel
theorem dX7_train_29 : decode cX7_train 29 = .ok (.bipush (-2), 2) := by decide +kernel
theorem dX7_train_31 : decode cX7_train 31 = .ok (.ireturn, 1) := by decide +kernel
theorem dX7_nextSection_0 : decode cX7_nextSection 0 = .ok (.aload_n 0, 1) := by decide +kernel
theorem dX7_nextSection_1 : decode cX7_nextSection 1 = .ok (.iload_n 1, 1) := by decide +kernel
theorem dX7_nextSection_2 : decode cX7_nextSection 2 = .ok (.iconst 3, 1) := by decide +kernel
theorem dX7_nextSection_3 : decode cX7_nextSection 3 = .ok (.invokevirtual 61, 3) := by decide +kernel
theorem dX7_nextSection_6 : decode cX7_nextSection 6 = .ok (.aload_n 0, 1) := by decide +kernel
theorem dX7_nextSection_7 : decode cX7_nextSection 7 = .ok (.iload_n 1, 1) := by decide +kernel
theorem dX7_nextSection_8 : decode cX7_nextSection 8 = .ok (.iconst 1, 1) := by decide +kernel
theorem dX7_nextSection_9 : decode cX7_nextSection 9 = .ok (.invokevirtual 61, 3) := by decide +kernel
theorem dX7_nextSection_12 : decode cX7_nextSection 12 = .ok (.isub, 1) := by decide +kernel
theorem dX7_nextSection_13 : decode cX7_nextSection 13 = .ok (.istore_n 2, 1) := by decide +kernel
theorem dX7_nextSection_14 : decode cX7_nextSection 14 = .ok (.aload_n 0, 1) := by decide +kernel
theorem dX7_nextSection_15 : decode cX7_nextSection 15 = .ok (.iload_n 2, 1) := by decide +kernel
theorem dX7_nextSection_16 : decode cX7_nextSection 16 = .ok (.invokevirtual 44, 3) := by decide +kernel
theorem dX7_nextSection_19 : decode cX7_nextSection 19 = .ok (.ifCond .eq 7, 3) := by decide +kernel
theorem dX7_nextSection_22 : decode cX7_nextSection 22 = .ok (.iload_n 2, 1) := by decide +kernel
theorem dX7_nextSection_23 : decode cX7_nextSection 23 = .ok (.goto 5, 3) := by decide +kernel
theorem dX7_nextSection_26 : decode cX7_nextSection 26 = .ok (.bipush (-6), 2) := by decide +kernel
theorem dX7_nextSection_28 : decode cX7_nextSection 28 = .ok (.ireturn, 1) := by decide +kernel
theorem dX7_isCalmBehind_0 : decode cX7_isCalmBehind 0 = .ok (.aload_n 0, 1) := by decide +kernel
theorem dX7_isCalmBehind_1 : decode cX7_isCalmBehind 1 = .ok (.iload_n 1, 1) := by decide +kernel
theorem dX7_isCalmBehind_2 : decode cX7_isCalmBehind 2 = .ok (.iconst 1, 1) := by decide +kernel
theorem dX7_isCalmBehind_3 : decode cX7_isCalmBehind 3 = .ok (.invokevirtual 61, 3) := by decide +kernel
theorem dX7_isCalmBehind_6 : decode cX7_isCalmBehind 6 = .ok (.istore_n 2, 1) := by decide +kernel
theorem dX7_isCalmBehind_7 : decode cX7_isCalmBehind 7 = .ok (.aload_n 0, 1) := by decide +kernel
theorem dX7_isCalmBehind_8 : decode cX7_isCalmBehind 8 = .ok (.iload_n 1, 1) := by decide +kernel
theorem dX7_isCalmBehind_9 : decode cX7_isCalmBehind 9 = .ok (.iconst 3, 1) := by decide +kernel
theorem dX7_isCalmBehind_10 : decode cX7_isCalmBehind 10 = .ok (.invokevirtual 61, 3) := by decide +kernel
theorem dX7_isCalmBehind_13 : decode cX7_isCalmBehind 13 = .ok (.iconst 1, 1) := by decide +kernel
theorem dX7_isCalmBehind_14 : decode cX7_isCalmBehind 14 = .ok (.isub, 1) := by decide +kernel
theorem dX7_isCalmBehind_15 : decode cX7_isCalmBehind 15 = .ok (.iload_n 2, 1) := by decide +kernel
theorem dX7_isCalmBehind_16 : decode cX7_isCalmBehind 16 = .ok (.iadd, 1) := by decide +kernel
theorem dX7_isCalmBehind_17 : decode cX7_isCalmBehind 17 = .ok (.istore_n 3, 1) := by decide +kernel
theorem dX7_isCalmBehind_18 : decode cX7_isCalmBehind 18 = .ok (.aload_n 0, 1) := by decide +kernel
theorem dX7_isCalmBehind_19 : decode cX7_isCalmBehind 19 = .ok (.iload_n 3, 1) := by decide +kernel
theorem dX7_isCalmBehind_20 : decode cX7_isCalmBehind 20 = .ok (.invokevirtual 44, 3) := by decide +kernel
theorem dX7_isCalmBehind_23 : decode cX7_isCalmBehind 23 = .ok (.ifCond .eq 24, 3) := by decide +kernel
theorem dX7_isCalmBehind_26 : decode cX7_isCalmBehind 26 = .ok (.aload_n 0, 1) := by decide +kernel
theorem dX7_isCalmBehind_27 : decode cX7_isCalmBehind 27 = .ok (.iload_n 3, 1) := by decide +kernel
theorem dX7_isCalmBehind_28 : decode cX7_isCalmBehind 28 = .ok (.iload_n 2, 1) := by decide +kernel
theorem dX7_isCalmBehind_29 : decode cX7_isCalmBehind 29 = .ok (.iconst 0, 1) := by decide +kernel
theorem dX7_isCalmBehind_30 : decode cX7_isCalmBehind 30 = .ok (.invokevirtual 55, 3) := by decide +kernel
theorem dX7_isCalmBehind_33 : decode cX7_isCalmBehind 33 = .ok (.ifCond .eq 14, 3) := by decide +kernel
theorem dX7_isCalmBehind_36 : decode cX7_isCalmBehind 36 = .ok (.aload_n 0, 1) := by decide +kernel
theorem dX7_isCalmBehind_37 : decode cX7_isCalmBehind 37 = .ok (.iload_n 3, 1) := by decide +kernel
theorem dX7_isCalmBehind_38 : decode cX7_isCalmBehind 38 = .ok (.iload_n 2, 1) := by decide +kernel
theorem dX7_isCalmBehind_39 : decode cX7_isCalmBehind 39 = .ok (.iconst 0, 1) := by decide +kernel
theorem dX7_isCalmBehind_40 : decode cX7_isCalmBehind 40 = .ok (.invokevirtual 55, 3) := by decide +kernel
theorem dX7_isCalmBehind_43 : decode cX7_isCalmBehind 43 = .ok (.iconst 3, 1) := by decide +kernel
theorem dX7_isCalmBehind_44 : decode cX7_isCalmBehind 44 = .ok (.if_icmp .ne 7, 3) := by decide +kernel
theorem dX7_isCalmBehind_47 : decode cX7_isCalmBehind 47 = .ok (.iconst 1, 1) := by decide +kernel
theorem dX7_isCalmBehind_48 : decode cX7_isCalmBehind 48 = .ok (.goto 4, 3) := by decide +kernel
theorem dX7_isCalmBehind_51 : decode cX7_isCalmBehind 51 = .ok (.iconst 0, 1) := by decide +kernel
theorem dX7_isCalmBehind_52 : decode cX7_isCalmBehind 52 = .ok (.ireturn, 1) := by decide +kernel
theorem dX7_isOffered_0 : decode cX7_isOffered 0 = .ok (.aload_n 0, 1) := by decide +kernel
theorem dX7_isOffered_1 : decode cX7_isOffered 1 = .ok (.iload_n 1, 1) := by decide +kernel
theorem dX7_isOffered_2 : decode cX7_isOffered 2 = .ok (.invokevirtual 92, 3) := by decide +kernel
theorem dX7_isOffered_5 : decode cX7_isOffered 5 = .ok (.istore_n 2, 1) := by decide +kernel
theorem dX7_isOffered_6 : decode cX7_isOffered 6 = .ok (.iload_n 2, 1) := by decide +kernel
theorem dX7_isOffered_7 : decode cX7_isOffered 7 = .ok (.ifCond .lt 23, 3) := by decide +kernel
theorem dX7_isOffered_10 : decode cX7_isOffered 10 = .ok (.aload_n 0, 1) := by decide +kernel
theorem dX7_isOffered_11 : decode cX7_isOffered 11 = .ok (.iload_n 2, 1) := by decide +kernel
theorem dX7_isOffered_12 : decode cX7_isOffered 12 = .ok (.aload_n 0, 1) := by decide +kernel
theorem dX7_isOffered_13 : decode cX7_isOffered 13 = .ok (.iload_n 1, 1) := by decide +kernel
theorem dX7_isOffered_14 : decode cX7_isOffered 14 = .ok (.iconst 1, 1) := by decide +kernel
theorem dX7_isOffered_15 : decode cX7_isOffered 15 = .ok (.invokevirtual 61, 3) := by decide +kernel
theorem dX7_isOffered_18 : decode cX7_isOffered 18 = .ok (.iconst 1, 1) := by decide +kernel
theorem dX7_isOffered_19 : decode cX7_isOffered 19 = .ok (.invokevirtual 55, 3) := by decide +kernel
theorem dX7_isOffered_22 : decode cX7_isOffered 22 = .ok (.iload_n 1, 1) := by decide +kernel
theorem dX7_isOffered_23 : decode cX7_isOffered 23 = .ok (.if_icmp .ne 7, 3) := by decide +kernel
theorem dX7_isOffered_26 : decode cX7_isOffered 26 = .ok (.iconst 1, 1) := by decide +kernel
theorem dX7_isOffered_27 : decode cX7_isOffered 27 = .ok (.goto 4, 3) := by decide +kernel
theorem dX7_isOffered_30 : decode cX7_isOffered 30 = .ok (.iconst 0, 1) := by decide +kernel
theorem dX7_isOffered_31 : decode cX7_isOffered 31 = .ok (.ireturn, 1) := by decide +kernel
theorem dX7_isClearFor_0 : decode cX7_isClearFor 0 = .ok (.aload_n 0, 1) := by decide +kernel
theorem dX7_isClearFor_1 : decode cX7_isClearFor 1 = .ok (.iload_n 1, 1) := by decide +kernel
theorem dX7_isClearFor_2 : decode cX7_isClearFor 2 = .ok (.invokevirtual 92, 3) := by decide +kernel
theorem dX7_isClearFor_5 : decode cX7_isClearFor 5 = .ok (.istore_n 2, 1) := by decide +kernel
theorem dX7_isClearFor_6 : decode cX7_isClearFor 6 = .ok (.aload_n 0, 1) := by decide +kernel
theorem dX7_isClearFor_7 : decode cX7_isClearFor 7 = .ok (.iload_n 1, 1) := by decide +kernel
theorem dX7_isClearFor_8 : decode cX7_isClearFor 8 = .ok (.iconst 1, 1) := by decide +kernel
theorem dX7_isClearFor_9 : decode cX7_isClearFor 9 = .ok (.invokevirtual 61, 3) := by decide +kernel
theorem dX7_isClearFor_12 : decode cX7_isClearFor 12 = .ok (.istore_n 3, 1) := by decide +kernel
theorem dX7_isClearFor_13 : decode cX7_isClearFor 13 = .ok (.iload_n 2, 1) := by decide +kernel
theorem dX7_isClearFor_14 : decode cX7_isClearFor 14 = .ok (.ifCond .lt 29, 3) := by decide +kernel
theorem dX7_isClearFor_17 : decode cX7_isClearFor 17 = .ok (.aload_n 0, 1) := by decide +kernel
theorem dX7_isClearFor_18 : decode cX7_isClearFor 18 = .ok (.iload_n 2, 1) := by decide +kernel
theorem dX7_isClearFor_19 : decode cX7_isClearFor 19 = .ok (.iload_n 3, 1) := by decide +kernel
theorem dX7_isClearFor_20 : decode cX7_isClearFor 20 = .ok (.iconst 0, 1) := by decide +kernel
theorem dX7_isClearFor_21 : decode cX7_isClearFor 21 = .ok (.invokevirtual 55, 3) := by decide +kernel
theorem dX7_isClearFor_24 : decode cX7_isClearFor 24 = .ok (.iconst 1, 1) := by decide +kernel
theorem dX7_isClearFor_25 : decode cX7_isClearFor 25 = .ok (.if_icmp .ne 18, 3) := by decide +kernel
theorem dX7_isClearFor_28 : decode cX7_isClearFor 28 = .ok (.aload_n 0, 1) := by decide +kernel
theorem dX7_isClearFor_29 : decode cX7_isClearFor 29 = .ok (.iload_n 2, 1) := by decide +kernel
theorem dX7_isClearFor_30 : decode cX7_isClearFor 30 = .ok (.iload_n 3, 1) := by decide +kernel
theorem dX7_isClearFor_31 : decode cX7_isClearFor 31 = .ok (.iconst 2, 1) := by decide +kernel
theorem dX7_isClearFor_32 : decode cX7_isClearFor 32 = .ok (.invokevirtual 55, 3) := by decide +kernel
theorem dX7_isClearFor_35 : decode cX7_isClearFor 35 = .ok (.iload_n 1, 1) := by decide +kernel
theorem dX7_isClearFor_36 : decode cX7_isClearFor 36 = .ok (.if_icmp .ne 7, 3) := by decide +kernel
theorem dX7_isClearFor_39 : decode cX7_isClearFor 39 = .ok (.iconst 1, 1) := by decide +kernel
theorem dX7_isClearFor_40 : decode cX7_isClearFor 40 = .ok (.goto 4, 3) := by decide +kernel
theorem dX7_isClearFor_43 : decode cX7_isClearFor 43 = .ok (.iconst 0, 1) := by decide +kernel
theorem dX7_isClearFor_44 : decode cX7_isClearFor 44 = .ok (.ireturn, 1) := by decide +kernel
theorem dX7_canGoIn_0 : decode cX7_canGoIn 0 = .ok (.aload_n 0, 1) := by decide +kernel
theorem dX7_canGoIn_1 : decode cX7_canGoIn 1 = .ok (.getfield 7, 3) := by decide +kernel
theorem dX7_canGoIn_4 : decode cX7_canGoIn 4 = .ok (.bipush 18, 2) := by decide +kernel
theorem dX7_canGoIn_6 : decode cX7_canGoIn 6 = .ok (.iconst 2, 1) := by decide +kernel
theorem dX7_canGoIn_7 : decode cX7_canGoIn 7 = .ok (.aload_n 0, 1) := by decide +kernel
theorem dX7_canGoIn_8 : decode cX7_canGoIn 8 = .ok (.iload_n 1, 1) := by decide +kernel
theorem dX7_canGoIn_9 : decode cX7_canGoIn 9 = .ok (.iconst 3, 1) := by decide +kernel
theorem dX7_canGoIn_10 : decode cX7_canGoIn 10 = .ok (.invokevirtual 61, 3) := by decide +kernel
theorem dX7_canGoIn_13 : decode cX7_canGoIn 13 = .ok (.imul, 1) := by decide +kernel
theorem dX7_canGoIn_14 : decode cX7_canGoIn 14 = .ok (.iadd, 1) := by decide +kernel
theorem dX7_canGoIn_15 : decode cX7_canGoIn 15 = .ok (.aload_n 0, 1) := by decide +kernel
theorem dX7_canGoIn_16 : decode cX7_canGoIn 16 = .ok (.iload_n 1, 1) := by decide +kernel
theorem dX7_canGoIn_17 : decode cX7_canGoIn 17 = .ok (.iconst 1, 1) := by decide +kernel
theorem dX7_canGoIn_18 : decode cX7_canGoIn 18 = .ok (.invokevirtual 61, 3) := by decide +kernel
theorem dX7_canGoIn_21 : decode cX7_canGoIn 21 = .ok (.iadd, 1) := by decide +kernel
theorem dX7_canGoIn_22 : decode cX7_canGoIn 22 = .ok (.iaload, 1) := by decide +kernel
theorem dX7_canGoIn_23 : decode cX7_canGoIn 23 = .ok (.istore_n 2, 1) := by decide +kernel
theorem dX7_canGoIn_24 : decode cX7_canGoIn 24 = .ok (.aload_n 0, 1) := by decide +kernel
theorem dX7_canGoIn_25 : decode cX7_canGoIn 25 = .ok (.iload_n 1, 1) := by decide +kernel
theorem dX7_canGoIn_26 : decode cX7_canGoIn 26 = .ok (.invokevirtual 95, 3) := by decide +kernel
theorem dX7_canGoIn_29 : decode cX7_canGoIn 29 = .ok (.ifCond .ne 36, 3) := by decide +kernel
theorem dX7_canGoIn_32 : decode cX7_canGoIn 32 = .ok (.aload_n 0, 1) := by decide +kernel
theorem dX7_canGoIn_33 : decode cX7_canGoIn 33 = .ok (.iload_n 1, 1) := by decide +kernel
theorem dX7_canGoIn_34 : decode cX7_canGoIn 34 = .ok (.invokevirtual 98, 3) := by decide +kernel
theorem dX7_canGoIn_37 : decode cX7_canGoIn 37 = .ok (.ifCond .ne 28, 3) := by decide +kernel
theorem dX7_canGoIn_40 : decode cX7_canGoIn 40 = .ok (.aload_n 0, 1) := by decide +kernel
theorem dX7_canGoIn_41 : decode cX7_canGoIn 41 = .ok (.aload_n 0, 1) := by decide +kernel
theorem dX7_canGoIn_42 : decode cX7_canGoIn 42 = .ok (.iload_n 1, 1) := by decide +kernel
theorem dX7_canGoIn_43 : decode cX7_canGoIn 43 = .ok (.iconst 3, 1) := by decide +kernel
theorem dX7_canGoIn_44 : decode cX7_canGoIn 44 = .ok (.invokevirtual 61, 3) := by decide +kernel
theorem dX7_canGoIn_47 : decode cX7_canGoIn 47 = .ok (.aload_n 0, 1) := by decide +kernel
theorem dX7_canGoIn_48 : decode cX7_canGoIn 48 = .ok (.iload_n 1, 1) := by decide +kernel
theorem dX7_canGoIn_49 : decode cX7_canGoIn 49 = .ok (.iconst 1, 1) := by decide +kernel
theorem dX7_canGoIn_50 : decode cX7_canGoIn 50 = .ok (.invokevirtual 61, 3) := by decide +kernel
theorem dX7_canGoIn_53 : decode cX7_canGoIn 53 = .ok (.iconst 1, 1) := by decide +kernel
theorem dX7_canGoIn_54 : decode cX7_canGoIn 54 = .ok (.invokevirtual 65, 3) := by decide +kernel
theorem dX7_canGoIn_57 : decode cX7_canGoIn 57 = .ok (.iload_n 2, 1) := by decide +kernel
theorem dX7_canGoIn_58 : decode cX7_canGoIn 58 = .ok (.if_icmp .ge 7, 3) := by decide +kernel
theorem dX7_canGoIn_61 : decode cX7_canGoIn 61 = .ok (.iconst 1, 1) := by decide +kernel
theorem dX7_canGoIn_62 : decode cX7_canGoIn 62 = .ok (.goto 4, 3) := by decide +kernel
theorem dX7_canGoIn_65 : decode cX7_canGoIn 65 = .ok (.iconst 0, 1) := by decide +kernel
theorem dX7_canGoIn_66 : decode cX7_canGoIn 66 = .ok (.ireturn, 1) := by decide +kernel
theorem dX7_shunt_0 : decode cX7_shunt 0 = .ok (.aload_n 0, 1) := by decide +kernel
theorem dX7_shunt_1 : decode cX7_shunt 1 = .ok (.iload_n 1, 1) := by decide +kernel
theorem dX7_shunt_2 : decode cX7_shunt 2 = .ok (.invokevirtual 89, 3) := by decide +kernel
theorem dX7_shunt_5 : decode cX7_shunt 5 = .ok (.ifCond .ne 5, 3) := by decide +kernel
theorem dX7_shunt_8 : decode cX7_shunt 8 = .ok (.iconst (-1), 1) := by decide +kernel
theorem dX7_shunt_9 : decode cX7_shunt 9 = .ok (.ireturn, 1) := by decide +kernel
theorem dX7_shunt_10 : decode cX7_shunt 10 = .ok (.aload_n 0, 1) := by decide +kernel
theorem dX7_shunt_11 : decode cX7_shunt 11 = .ok (.iload_n 1, 1) := by decide +kernel
theorem dX7_shunt_12 : decode cX7_shunt 12 = .ok (.iconst 2, 1) := by decide +kernel
theorem dX7_shunt_13 : decode cX7_shunt 13 = .ok (.invokevirtual 61, 3) := by decide +kernel
theorem dX7_shunt_16 : decode cX7_shunt 16 = .ok (.istore_n 2, 1) := by decide +kernel
theorem dX7_shunt_17 : decode cX7_shunt 17 = .ok (.iload_n 2, 1) := by decide +kernel
theorem dX7_shunt_18 : decode cX7_shunt 18 = .ok (.iconst 1, 1) := by decide +kernel
theorem dX7_shunt_19 : decode cX7_shunt 19 = .ok (.if_icmp .le 6, 3) := by decide +kernel
theorem dX7_shunt_22 : decode cX7_shunt 22 = .ok (.bipush (-5), 2) := by decide +kernel
theorem dX7_shunt_24 : decode cX7_shunt 24 = .ok (.ireturn, 1) := by decide +kernel
theorem dX7_shunt_25 : decode cX7_shunt 25 = .ok (.iload_n 2, 1) := by decide +kernel
theorem dX7_shunt_26 : decode cX7_shunt 26 = .ok (.ifCond .ne 11, 3) := by decide +kernel
theorem dX7_shunt_29 : decode cX7_shunt 29 = .ok (.aload_n 0, 1) := by decide +kernel
theorem dX7_shunt_30 : decode cX7_shunt 30 = .ok (.iload_n 1, 1) := by decide +kernel
theorem dX7_shunt_31 : decode cX7_shunt 31 = .ok (.invokevirtual 101, 3) := by decide +kernel
theorem dX7_shunt_34 : decode cX7_shunt 34 = .ok (.goto 35, 3) := by decide +kernel
theorem dX7_shunt_37 : decode cX7_shunt 37 = .ok (.aload_n 0, 1) := by decide +kernel
theorem dX7_shunt_38 : decode cX7_shunt 38 = .ok (.aload_n 0, 1) := by decide +kernel
theorem dX7_shunt_39 : decode cX7_shunt 39 = .ok (.iload_n 1, 1) := by decide +kernel
theorem dX7_shunt_40 : decode cX7_shunt 40 = .ok (.iconst 3, 1) := by decide +kernel
theorem dX7_shunt_41 : decode cX7_shunt 41 = .ok (.invokevirtual 61, 3) := by decide +kernel
theorem dX7_shunt_44 : decode cX7_shunt 44 = .ok (.aload_n 0, 1) := by decide +kernel
theorem dX7_shunt_45 : decode cX7_shunt 45 = .ok (.iload_n 1, 1) := by decide +kernel
theorem dX7_shunt_46 : decode cX7_shunt 46 = .ok (.iconst 1, 1) := by decide +kernel
theorem dX7_shunt_47 : decode cX7_shunt 47 = .ok (.invokevirtual 61, 3) := by decide +kernel
theorem dX7_shunt_50 : decode cX7_shunt 50 = .ok (.invokevirtual 83, 3) := by decide +kernel
theorem dX7_shunt_53 : decode cX7_shunt 53 = .ok (.ifCond .eq 15, 3) := by decide +kernel
theorem dX7_shunt_56 : decode cX7_shunt 56 = .ok (.aload_n 0, 1) := by decide +kernel
theorem dX7_shunt_57 : decode cX7_shunt 57 = .ok (.iload_n 1, 1) := by decide +kernel
theorem dX7_shunt_58 : decode cX7_shunt 58 = .ok (.invokevirtual 104, 3) := by decide +kernel
theorem dX7_shunt_61 : decode cX7_shunt 61 = .ok (.ifCond .eq 7, 3) := by decide +kernel
theorem dX7_shunt_64 : decode cX7_shunt 64 = .ok (.iconst 1, 1) := by decide +kernel
theorem dX7_shunt_65 : decode cX7_shunt 65 = .ok (.goto 4, 3) := by decide +kernel
theorem dX7_shunt_68 : decode cX7_shunt 68 = .ok (.iconst 0, 1) := by decide +kernel
theorem dX7_shunt_69 : decode cX7_shunt 69 = .ok (.istore_n 3, 1) := by decide +kernel
theorem dX7_shunt_70 : decode cX7_shunt 70 = .ok (.iload_n 3, 1) := by decide +kernel
theorem dX7_shunt_71 : decode cX7_shunt 71 = .ok (.ifCond .ne 6, 3) := by decide +kernel
theorem dX7_shunt_74 : decode cX7_shunt 74 = .ok (.bipush (-5), 2) := by decide +kernel
theorem dX7_shunt_76 : decode cX7_shunt 76 = .ok (.ireturn, 1) := by decide +kernel
theorem dX7_shunt_77 : decode cX7_shunt 77 = .ok (.aload_n 0, 1) := by decide +kernel
theorem dX7_shunt_78 : decode cX7_shunt 78 = .ok (.iload_n 1, 1) := by decide +kernel
theorem dX7_shunt_79 : decode cX7_shunt 79 = .ok (.iconst 2, 1) := by decide +kernel
theorem dX7_shunt_80 : decode cX7_shunt 80 = .ok (.iconst 1, 1) := by decide +kernel
theorem dX7_shunt_81 : decode cX7_shunt 81 = .ok (.iload_n 2, 1) := by decide +kernel
theorem dX7_shunt_82 : decode cX7_shunt 82 = .ok (.isub, 1) := by decide +kernel
theorem dX7_shunt_83 : decode cX7_shunt 83 = .ok (.invokevirtual 75, 3) := by decide +kernel
theorem dX7_shunt_86 : decode cX7_shunt 86 = .ok (.aload_n 0, 1) := by decide +kernel
theorem dX7_shunt_87 : decode cX7_shunt 87 = .ok (.iload_n 1, 1) := by decide +kernel
theorem dX7_shunt_88 : decode cX7_shunt 88 = .ok (.iconst 2, 1) := by decide +kernel
theorem dX7_shunt_89 : decode cX7_shunt 89 = .ok (.invokevirtual 61, 3) := by decide +kernel
theorem dX7_shunt_92 : decode cX7_shunt 92 = .ok (.ireturn, 1) := by decide +kernel
theorem dX7_leave_0 : decode cX7_leave 0 = .ok (.aload_n 0, 1) := by decide +kernel
theorem dX7_leave_1 : decode cX7_leave 1 = .ok (.iload_n 1, 1) := by decide +kernel
theorem dX7_leave_2 : decode cX7_leave 2 = .ok (.invokevirtual 89, 3) := by decide +kernel
theorem dX7_leave_5 : decode cX7_leave 5 = .ok (.ifCond .ne 5, 3) := by decide +kernel
theorem dX7_leave_8 : decode cX7_leave 8 = .ok (.iconst (-1), 1) := by decide +kernel
theorem dX7_leave_9 : decode cX7_leave 9 = .ok (.ireturn, 1) := by decide +kernel
theorem dX7_leave_10 : decode cX7_leave 10 = .ok (.aload_n 0, 1) := by decide +kernel
theorem dX7_leave_11 : decode cX7_leave 11 = .ok (.iload_n 1, 1) := by decide +kernel
theorem dX7_leave_12 : decode cX7_leave 12 = .ok (.iconst 2, 1) := by decide +kernel
theorem dX7_leave_13 : decode cX7_leave 13 = .ok (.invokevirtual 61, 3) := by decide +kernel
theorem dX7_leave_16 : decode cX7_leave 16 = .ok (.ifCond .ne 24, 3) := by decide +kernel
theorem dX7_leave_19 : decode cX7_leave 19 = .ok (.aload_n 0, 1) := by decide +kernel
theorem dX7_leave_20 : decode cX7_leave 20 = .ok (.iload_n 1, 1) := by decide +kernel
theorem dX7_leave_21 : decode cX7_leave 21 = .ok (.iconst 3, 1) := by decide +kernel
theorem dX7_leave_22 : decode cX7_leave 22 = .ok (.invokevirtual 61, 3) := by decide +kernel
theorem dX7_leave_25 : decode cX7_leave 25 = .ok (.aload_n 0, 1) := by decide +kernel
theorem dX7_leave_26 : decode cX7_leave 26 = .ok (.iconst 1, 1) := by decide +kernel
theorem dX7_leave_27 : decode cX7_leave 27 = .ok (.aload_n 0, 1) := by decide +kernel
theorem dX7_leave_28 : decode cX7_leave 28 = .ok (.iload_n 1, 1) := by decide +kernel
theorem dX7_leave_29 : decode cX7_leave 29 = .ok (.iconst 1, 1) := by decide +kernel
theorem dX7_leave_30 : decode cX7_leave 30 = .ok (.invokevirtual 61, 3) := by decide +kernel
theorem dX7_leave_33 : decode cX7_leave 33 = .ok (.isub, 1) := by decide +kernel
theorem dX7_leave_34 : decode cX7_leave 34 = .ok (.invokevirtual 79, 3) := by decide +kernel
theorem dX7_leave_37 : decode cX7_leave 37 = .ok (.if_icmp .eq 6, 3) := by decide +kernel
theorem dX7_leave_40 : decode cX7_leave 40 = .ok (.bipush (-5), 2) := by decide +kernel
theorem dX7_leave_42 : decode cX7_leave 42 = .ok (.ireturn, 1) := by decide +kernel
theorem dX7_leave_43 : decode cX7_leave 43 = .ok (.aload_n 0, 1) := by decide +kernel
theorem dX7_leave_44 : decode cX7_leave 44 = .ok (.iload_n 1, 1) := by decide +kernel
theorem dX7_leave_45 : decode cX7_leave 45 = .ok (.iconst 2, 1) := by decide +kernel
theorem dX7_leave_46 : decode cX7_leave 46 = .ok (.iconst 3, 1) := by decide +kernel
theorem dX7_leave_47 : decode cX7_leave 47 = .ok (.invokevirtual 75, 3) := by decide +kernel
theorem dX7_leave_50 : decode cX7_leave 50 = .ok (.aload_n 0, 1) := by decide +kernel
theorem dX7_leave_51 : decode cX7_leave 51 = .ok (.iload_n 1, 1) := by decide +kernel
theorem dX7_leave_52 : decode cX7_leave 52 = .ok (.iconst 3, 1) := by decide +kernel
theorem dX7_leave_53 : decode cX7_leave 53 = .ok (.bipush (-6), 2) := by decide +kernel
theorem dX7_leave_55 : decode cX7_leave 55 = .ok (.invokevirtual 75, 3) := by decide +kernel
theorem dX7_leave_58 : decode cX7_leave 58 = .ok (.aload_n 0, 1) := by decide +kernel
theorem dX7_leave_59 : decode cX7_leave 59 = .ok (.iload_n 1, 1) := by decide +kernel
theorem dX7_leave_60 : decode cX7_leave 60 = .ok (.bipush 7, 2) := by decide +kernel
theorem dX7_leave_62 : decode cX7_leave 62 = .ok (.aload_n 0, 1) := by decide +kernel
theorem dX7_leave_63 : decode cX7_leave 63 = .ok (.getfield 7, 3) := by decide +kernel
theorem dX7_leave_66 : decode cX7_leave 66 = .ok (.iconst 0, 1) := by decide +kernel
theorem dX7_leave_67 : decode cX7_leave 67 = .ok (.iaload, 1) := by decide +kernel
theorem dX7_leave_68 : decode cX7_leave 68 = .ok (.invokevirtual 75, 3) := by decide +kernel
theorem dX7_leave_71 : decode cX7_leave 71 = .ok (.aload_n 0, 1) := by decide +kernel
theorem dX7_leave_72 : decode cX7_leave 72 = .ok (.getfield 7, 3) := by decide +kernel
theorem dX7_leave_75 : decode cX7_leave 75 = .ok (.iconst 0, 1) := by decide +kernel
theorem dX7_leave_76 : decode cX7_leave 76 = .ok (.iaload, 1) := by decide +kernel
theorem dX7_leave_77 : decode cX7_leave 77 = .ok (.aload_n 0, 1) := by decide +kernel
theorem dX7_leave_78 : decode cX7_leave 78 = .ok (.iload_n 1, 1) := by decide +kernel
theorem dX7_leave_79 : decode cX7_leave 79 = .ok (.bipush 6, 2) := by decide +kernel
theorem dX7_leave_81 : decode cX7_leave 81 = .ok (.invokevirtual 61, 3) := by decide +kernel
theorem dX7_leave_84 : decode cX7_leave 84 = .ok (.isub, 1) := by decide +kernel
theorem dX7_leave_85 : decode cX7_leave 85 = .ok (.ireturn, 1) := by decide +kernel
theorem dX7_divide_0 : decode cX7_divide 0 = .ok (.aload_n 0, 1) := by decide +kernel
theorem dX7_divide_1 : decode cX7_divide 1 = .ok (.iload_n 1, 1) := by decide +kernel
theorem dX7_divide_2 : decode cX7_divide 2 = .ok (.invokevirtual 89, 3) := by decide +kernel
theorem dX7_divide_5 : decode cX7_divide 5 = .ok (.ifCond .ne 5, 3) := by decide +kernel
theorem dX7_divide_8 : decode cX7_divide 8 = .ok (.iconst (-1), 1) := by decide +kernel
theorem dX7_divide_9 : decode cX7_divide 9 = .ok (.ireturn, 1) := by decide +kernel
theorem dX7_divide_10 : decode cX7_divide 10 = .ok (.aload_n 0, 1) := by decide +kernel
theorem dX7_divide_11 : decode cX7_divide 11 = .ok (.iload_n 1, 1) := by decide +kernel
theorem dX7_divide_12 : decode cX7_divide 12 = .ok (.iconst 2, 1) := by decide +kernel
theorem dX7_divide_13 : decode cX7_divide 13 = .ok (.invokevirtual 61, 3) := by decide +kernel
theorem dX7_divide_16 : decode cX7_divide 16 = .ok (.iconst 2, 1) := by decide +kernel
theorem dX7_divide_17 : decode cX7_divide 17 = .ok (.if_icmp .ne 12, 3) := by decide +kernel
theorem dX7_divide_20 : decode cX7_divide 20 = .ok (.aload_n 0, 1) := by decide +kernel
theorem dX7_divide_21 : decode cX7_divide 21 = .ok (.iload_n 1, 1) := by decide +kernel
theorem dX7_divide_22 : decode cX7_divide 22 = .ok (.iconst 5, 1) := by decide +kernel
theorem dX7_divide_23 : decode cX7_divide 23 = .ok (.invokevirtual 61, 3) := by decide +kernel
theorem dX7_divide_26 : decode cX7_divide 26 = .ok (.ifCond .ne 6, 3) := by decide +kernel
theorem dX7_divide_29 : decode cX7_divide 29 = .ok (.bipush (-5), 2) := by decide +kernel
theorem dX7_divide_31 : decode cX7_divide 31 = .ok (.ireturn, 1) := by decide +kernel
theorem dX7_divide_32 : decode cX7_divide 32 = .ok (.aload_n 0, 1) := by decide +kernel
theorem dX7_divide_33 : decode cX7_divide 33 = .ok (.iload_n 1, 1) := by decide +kernel
theorem dX7_divide_34 : decode cX7_divide 34 = .ok (.iconst 5, 1) := by decide +kernel
theorem dX7_divide_35 : decode cX7_divide 35 = .ok (.iconst 0, 1) := by decide +kernel
theorem dX7_divide_36 : decode cX7_divide 36 = .ok (.invokevirtual 75, 3) := by decide +kernel
theorem dX7_divide_39 : decode cX7_divide 39 = .ok (.aload_n 0, 1) := by decide +kernel
theorem dX7_divide_40 : decode cX7_divide 40 = .ok (.getfield 7, 3) := by decide +kernel
theorem dX7_divide_43 : decode cX7_divide 43 = .ok (.aload_n 0, 1) := by decide +kernel
theorem dX7_divide_44 : decode cX7_divide 44 = .ok (.iload_n 1, 1) := by decide +kernel
theorem dX7_divide_45 : decode cX7_divide 45 = .ok (.iconst 3, 1) := by decide +kernel
theorem dX7_divide_46 : decode cX7_divide 46 = .ok (.invokevirtual 61, 3) := by decide +kernel
theorem dX7_divide_49 : decode cX7_divide 49 = .ok (.aload_n 0, 1) := by decide +kernel
theorem dX7_divide_50 : decode cX7_divide 50 = .ok (.iload_n 1, 1) := by decide +kernel
theorem dX7_divide_51 : decode cX7_divide 51 = .ok (.iconst 1, 1) := by decide +kernel
theorem dX7_divide_52 : decode cX7_divide 52 = .ok (.invokevirtual 61, 3) := by decide +kernel
theorem dX7_divide_55 : decode cX7_divide 55 = .ok (.iconst 3, 1) := by decide +kernel
theorem dX7_divide_56 : decode cX7_divide 56 = .ok (.invokestatic 51, 3) := by decide +kernel
theorem dX7_divide_59 : decode cX7_divide 59 = .ok (.iconst 1, 1) := by decide +kernel
theorem dX7_divide_60 : decode cX7_divide 60 = .ok (.iastore, 1) := by decide +kernel
theorem dX7_divide_61 : decode cX7_divide 61 = .ok (.aload_n 0, 1) := by decide +kernel
theorem dX7_divide_62 : decode cX7_divide 62 = .ok (.iload_n 1, 1) := by decide +kernel
theorem dX7_divide_63 : decode cX7_divide 63 = .ok (.iconst 3, 1) := by decide +kernel
theorem dX7_divide_64 : decode cX7_divide 64 = .ok (.invokevirtual 61, 3) := by decide +kernel
theorem dX7_divide_67 : decode cX7_divide 67 = .ok (.ireturn, 1) := by decide +kernel
theorem dX7_codeOf_0 : decode cX7_codeOf 0 = .ok (.iload_n 0, 1) := by decide +kernel
theorem dX7_codeOf_1 : decode cX7_codeOf 1 = .ok (.tableswitch 41 1 4 #[31, 33, 36, 38], 31) := by decide +kernel
theorem dX7_codeOf_32 : decode cX7_codeOf 32 = .ok (.iconst 4, 1) := by decide +kernel
theorem dX7_codeOf_33 : decode cX7_codeOf 33 = .ok (.ireturn, 1) := by decide +kernel
theorem dX7_codeOf_34 : decode cX7_codeOf 34 = .ok (.bipush 31, 2) := by decide +kernel
theorem dX7_codeOf_36 : decode cX7_codeOf 36 = .ok (.ireturn, 1) := by decide +kernel
theorem dX7_codeOf_37 : decode cX7_codeOf 37 = .ok (.iconst 5, 1) := by decide +kernel
theorem dX7_codeOf_38 : decode cX7_codeOf 38 = .ok (.ireturn, 1) := by decide +kernel
theorem dX7_codeOf_39 : decode cX7_codeOf 39 = .ok (.bipush 32, 2) := by decide +kernel
theorem dX7_codeOf_41 : decode cX7_codeOf 41 = .ok (.ireturn, 1) := by decide +kernel
theorem dX7_codeOf_42 : decode cX7_codeOf 42 = .ok (.bipush 41, 2) := by decide +kernel
theorem dX7_codeOf_44 : decode cX7_codeOf 44 = .ok (.ireturn, 1) := by decide +kernel
theorem dX7_ring_0 : decode cX7_ring 0 = .ok (.bipush 81, 2) := by decide +kernel
theorem dX7_ring_2 : decode cX7_ring 2 = .ok (.iconst 5, 1) := by decide +kernel
theorem dX7_ring_3 : decode cX7_ring 3 = .ok (.aload_n 0, 1) := by decide +kernel
theorem dX7_ring_4 : decode cX7_ring 4 = .ok (.getfield 7, 3) := by decide +kernel
theorem dX7_ring_7 : decode cX7_ring 7 = .ok (.bipush 80, 2) := by decide +kernel
theorem dX7_ring_9 : decode cX7_ring 9 = .ok (.iaload, 1) := by decide +kernel
theorem dX7_ring_10 : decode cX7_ring 10 = .ok (.bipush 60, 2) := by decide +kernel
theorem dX7_ring_12 : decode cX7_ring 12 = .ok (.irem, 1) := by decide +kernel
theorem dX7_ring_13 : decode cX7_ring 13 = .ok (.imul, 1) := by decide +kernel
theorem dX7_ring_14 : decode cX7_ring 14 = .ok (.iadd, 1) := by decide +kernel
theorem dX7_ring_15 : decode cX7_ring 15 = .ok (.istore 5, 2) := by decide +kernel
theorem dX7_ring_17 : decode cX7_ring 17 = .ok (.aload_n 0, 1) := by decide +kernel
theorem dX7_ring_18 : decode cX7_ring 18 = .ok (.getfield 7, 3) := by decide +kernel
theorem dX7_ring_21 : decode cX7_ring 21 = .ok (.iload 5, 2) := by decide +kernel
theorem dX7_ring_23 : decode cX7_ring 23 = .ok (.aload_n 0, 1) := by decide +kernel
theorem dX7_ring_24 : decode cX7_ring 24 = .ok (.getfield 7, 3) := by decide +kernel
theorem dX7_ring_27 : decode cX7_ring 27 = .ok (.iconst 0, 1) := by decide +kernel
theorem dX7_ring_28 : decode cX7_ring 28 = .ok (.iaload, 1) := by decide +kernel
theorem dX7_ring_29 : decode cX7_ring 29 = .ok (.iastore, 1) := by decide +kernel
theorem dX7_ring_30 : decode cX7_ring 30 = .ok (.aload_n 0, 1) := by decide +kernel
theorem dX7_ring_31 : decode cX7_ring 31 = .ok (.getfield 7, 3) := by decide +kernel
theorem dX7_ring_34 : decode cX7_ring 34 = .ok (.iload 5, 2) := by decide +kernel
theorem dX7_ring_36 : decode cX7_ring 36 = .ok (.iconst 1, 1) := by decide +kernel
theorem dX7_ring_37 : decode cX7_ring 37 = .ok (.iadd, 1) := by decide +kernel
theorem dX7_ring_38 : decode cX7_ring 38 = .ok (.iload_n 1, 1) := by decide +kernel
theorem dX7_ring_39 : decode cX7_ring 39 = .ok (.iastore, 1) := by decide +kernel
theorem dX7_ring_40 : decode cX7_ring 40 = .ok (.aload_n 0, 1) := by decide +kernel
theorem dX7_ring_41 : decode cX7_ring 41 = .ok (.getfield 7, 3) := by decide +kernel
theorem dX7_ring_44 : decode cX7_ring 44 = .ok (.iload 5, 2) := by decide +kernel
theorem dX7_ring_46 : decode cX7_ring 46 = .ok (.iconst 2, 1) := by decide +kernel
theorem dX7_ring_47 : decode cX7_ring 47 = .ok (.iadd, 1) := by decide +kernel
theorem dX7_ring_48 : decode cX7_ring 48 = .ok (.iload_n 2, 1) := by decide +kernel
theorem dX7_ring_49 : decode cX7_ring 49 = .ok (.iastore, 1) := by decide +kernel
theorem dX7_ring_50 : decode cX7_ring 50 = .ok (.aload_n 0, 1) := by decide +kernel
theorem dX7_ring_51 : decode cX7_ring 51 = .ok (.getfield 7, 3) := by decide +kernel
theorem dX7_ring_54 : decode cX7_ring 54 = .ok (.iload 5, 2) := by decide +kernel
theorem dX7_ring_56 : decode cX7_ring 56 = .ok (.iconst 3, 1) := by decide +kernel
theorem dX7_ring_57 : decode cX7_ring 57 = .ok (.iadd, 1) := by decide +kernel
theorem dX7_ring_58 : decode cX7_ring 58 = .ok (.iload_n 3, 1) := by decide +kernel
theorem dX7_ring_59 : decode cX7_ring 59 = .ok (.iastore, 1) := by decide +kernel
theorem dX7_ring_60 : decode cX7_ring 60 = .ok (.aload_n 0, 1) := by decide +kernel
theorem dX7_ring_61 : decode cX7_ring 61 = .ok (.getfield 7, 3) := by decide +kernel
theorem dX7_ring_64 : decode cX7_ring 64 = .ok (.iload 5, 2) := by decide +kernel
theorem dX7_ring_66 : decode cX7_ring 66 = .ok (.iconst 4, 1) := by decide +kernel
theorem dX7_ring_67 : decode cX7_ring 67 = .ok (.iadd, 1) := by decide +kernel
theorem dX7_ring_68 : decode cX7_ring 68 = .ok (.iload 4, 2) := by decide +kernel
theorem dX7_ring_70 : decode cX7_ring 70 = .ok (.iastore, 1) := by decide +kernel
theorem dX7_ring_71 : decode cX7_ring 71 = .ok (.aload_n 0, 1) := by decide +kernel
theorem dX7_ring_72 : decode cX7_ring 72 = .ok (.getfield 7, 3) := by decide +kernel
theorem dX7_ring_75 : decode cX7_ring 75 = .ok (.bipush 80, 2) := by decide +kernel
theorem dX7_ring_77 : decode cX7_ring 77 = .ok (.dup2, 1) := by decide +kernel
theorem dX7_ring_78 : decode cX7_ring 78 = .ok (.iaload, 1) := by decide +kernel
theorem dX7_ring_79 : decode cX7_ring 79 = .ok (.iconst 1, 1) := by decide +kernel
theorem dX7_ring_80 : decode cX7_ring 80 = .ok (.iadd, 1) := by decide +kernel
theorem dX7_ring_81 : decode cX7_ring 81 = .ok (.iastore, 1) := by decide +kernel
theorem dX7_ring_82 : decode cX7_ring 82 = .ok (.iload 4, 2) := by decide +kernel
theorem dX7_ring_84 : decode cX7_ring 84 = .ok (.ireturn, 1) := by decide +kernel
theorem dX7_offer_0 : decode cX7_offer 0 = .ok (.aload_n 0, 1) := by decide +kernel
theorem dX7_offer_1 : decode cX7_offer 1 = .ok (.iload_n 1, 1) := by decide +kernel
theorem dX7_offer_2 : decode cX7_offer 2 = .ok (.invokevirtual 89, 3) := by decide +kernel
theorem dX7_offer_5 : decode cX7_offer 5 = .ok (.ifCond .ne 5, 3) := by decide +kernel
theorem dX7_offer_8 : decode cX7_offer 8 = .ok (.iconst (-1), 1) := by decide +kernel
theorem dX7_offer_9 : decode cX7_offer 9 = .ok (.ireturn, 1) := by decide +kernel
theorem dX7_offer_10 : decode cX7_offer 10 = .ok (.aload_n 0, 1) := by decide +kernel
theorem dX7_offer_11 : decode cX7_offer 11 = .ok (.iload_n 1, 1) := by decide +kernel
theorem dX7_offer_12 : decode cX7_offer 12 = .ok (.iconst 2, 1) := by decide +kernel
theorem dX7_offer_13 : decode cX7_offer 13 = .ok (.invokevirtual 61, 3) := by decide +kernel
theorem dX7_offer_16 : decode cX7_offer 16 = .ok (.ifCond .ne 11, 3) := by decide +kernel
theorem dX7_offer_19 : decode cX7_offer 19 = .ok (.aload_n 0, 1) := by decide +kernel
theorem dX7_offer_20 : decode cX7_offer 20 = .ok (.iload_n 1, 1) := by decide +kernel
theorem dX7_offer_21 : decode cX7_offer 21 = .ok (.invokevirtual 92, 3) := by decide +kernel
theorem dX7_offer_24 : decode cX7_offer 24 = .ok (.goto 5, 3) := by decide +kernel
theorem dX7_offer_27 : decode cX7_offer 27 = .ok (.bipush (-6), 2) := by decide +kernel
theorem dX7_offer_29 : decode cX7_offer 29 = .ok (.istore_n 2, 1) := by decide +kernel
theorem dX7_offer_30 : decode cX7_offer 30 = .ok (.aload_n 0, 1) := by decide +kernel
theorem dX7_offer_31 : decode cX7_offer 31 = .ok (.iload_n 1, 1) := by decide +kernel
theorem dX7_offer_32 : decode cX7_offer 32 = .ok (.iconst 1, 1) := by decide +kernel
theorem dX7_offer_33 : decode cX7_offer 33 = .ok (.invokevirtual 61, 3) := by decide +kernel
theorem dX7_offer_36 : decode cX7_offer 36 = .ok (.istore_n 3, 1) := by decide +kernel
theorem dX7_offer_37 : decode cX7_offer 37 = .ok (.iload_n 2, 1) := by decide +kernel
theorem dX7_offer_38 : decode cX7_offer 38 = .ok (.ifCond .lt 23, 3) := by decide +kernel
theorem dX7_offer_41 : decode cX7_offer 41 = .ok (.aload_n 0, 1) := by decide +kernel
theorem dX7_offer_42 : decode cX7_offer 42 = .ok (.iload_n 2, 1) := by decide +kernel
theorem dX7_offer_43 : decode cX7_offer 43 = .ok (.iload_n 3, 1) := by decide +kernel
theorem dX7_offer_44 : decode cX7_offer 44 = .ok (.iconst 0, 1) := by decide +kernel
theorem dX7_offer_45 : decode cX7_offer 45 = .ok (.invokevirtual 55, 3) := by decide +kernel
theorem dX7_offer_48 : decode cX7_offer 48 = .ok (.ifCond .ne 13, 3) := by decide +kernel
theorem dX7_offer_51 : decode cX7_offer 51 = .ok (.aload_n 0, 1) := by decide +kernel
theorem dX7_offer_52 : decode cX7_offer 52 = .ok (.iload_n 2, 1) := by decide +kernel
theorem dX7_offer_53 : decode cX7_offer 53 = .ok (.iload_n 3, 1) := by decide +kernel
theorem dX7_offer_54 : decode cX7_offer 54 = .ok (.iconst 1, 1) := by decide +kernel
theorem dX7_offer_55 : decode cX7_offer 55 = .ok (.invokevirtual 55, 3) := by decide +kernel
theorem dX7_offer_58 : decode cX7_offer 58 = .ok (.ifCond .lt 6, 3) := by decide +kernel
theorem dX7_offer_61 : decode cX7_offer 61 = .ok (.bipush (-5), 2) := by decide +kernel
theorem dX7_offer_63 : decode cX7_offer 63 = .ok (.ireturn, 1) := by decide +kernel
theorem dX7_offer_64 : decode cX7_offer 64 = .ok (.aload_n 0, 1) := by decide +kernel
theorem dX7_offer_65 : decode cX7_offer 65 = .ok (.getfield 7, 3) := by decide +kernel
theorem dX7_offer_68 : decode cX7_offer 68 = .ok (.iload_n 2, 1) := by decide +kernel
theorem dX7_offer_69 : decode cX7_offer 69 = .ok (.iload_n 3, 1) := by decide +kernel
theorem dX7_offer_70 : decode cX7_offer 70 = .ok (.iconst 1, 1) := by decide +kernel
theorem dX7_offer_71 : decode cX7_offer 71 = .ok (.invokestatic 51, 3) := by decide +kernel
theorem dX7_offer_74 : decode cX7_offer 74 = .ok (.iload_n 1, 1) := by decide +kernel
theorem dX7_offer_75 : decode cX7_offer 75 = .ok (.iastore, 1) := by decide +kernel
theorem dX7_offer_76 : decode cX7_offer 76 = .ok (.aload_n 0, 1) := by decide +kernel
theorem dX7_offer_77 : decode cX7_offer 77 = .ok (.iload_n 2, 1) := by decide +kernel
theorem dX7_offer_78 : decode cX7_offer 78 = .ok (.iload_n 3, 1) := by decide +kernel
theorem dX7_offer_79 : decode cX7_offer 79 = .ok (.iload_n 2, 1) := by decide +kernel
theorem dX7_offer_80 : decode cX7_offer 80 = .ok (.iload_n 3, 1) := by decide +kernel
theorem dX7_offer_81 : decode cX7_offer 81 = .ok (.invokestatic 107, 3) := by decide +kernel
theorem dX7_offer_84 : decode cX7_offer 84 = .ok (.aload_n 0, 1) := by decide +kernel
theorem dX7_offer_85 : decode cX7_offer 85 = .ok (.iload_n 1, 1) := by decide +kernel
theorem dX7_offer_86 : decode cX7_offer 86 = .ok (.iconst 0, 1) := by decide +kernel
theorem dX7_offer_87 : decode cX7_offer 87 = .ok (.invokevirtual 61, 3) := by decide +kernel
theorem dX7_offer_90 : decode cX7_offer 90 = .ok (.invokestatic 110, 3) := by decide +kernel
theorem dX7_offer_93 : decode cX7_offer 93 = .ok (.invokevirtual 113, 3) := by decide +kernel
theorem dX7_offer_96 : decode cX7_offer 96 = .ok (.ireturn, 1) := by decide +kernel
theorem dX7_canAccept_0 : decode cX7_canAccept 0 = .ok (.aload_n 0, 1) := by decide +kernel
theorem dX7_canAccept_1 : decode cX7_canAccept 1 = .ok (.iload_n 1, 1) := by decide +kernel
theorem dX7_canAccept_2 : decode cX7_canAccept 2 = .ok (.invokevirtual 58, 3) := by decide +kernel
theorem dX7_canAccept_5 : decode cX7_canAccept 5 = .ok (.ifCond .eq 40, 3) := by decide +kernel
theorem dX7_canAccept_8 : decode cX7_canAccept 8 = .ok (.aload_n 0, 1) := by decide +kernel
theorem dX7_canAccept_9 : decode cX7_canAccept 9 = .ok (.iload_n 1, 1) := by decide +kernel
theorem dX7_canAccept_10 : decode cX7_canAccept 10 = .ok (.iconst 1, 1) := by decide +kernel
theorem dX7_canAccept_11 : decode cX7_canAccept 11 = .ok (.iload_n 2, 1) := by decide +kernel
theorem dX7_canAccept_12 : decode cX7_canAccept 12 = .ok (.isub, 1) := by decide +kernel
theorem dX7_canAccept_13 : decode cX7_canAccept 13 = .ok (.iconst 0, 1) := by decide +kernel
theorem dX7_canAccept_14 : decode cX7_canAccept 14 = .ok (.invokevirtual 55, 3) := by decide +kernel
theorem dX7_canAccept_17 : decode cX7_canAccept 17 = .ok (.ifCond .ne 32, 3) := by decide +kernel
theorem dX7_canAccept_20 : decode cX7_canAccept 20 = .ok (.aload_n 0, 1) := by decide +kernel
theorem dX7_canAccept_21 : decode cX7_canAccept 21 = .ok (.iload_n 1, 1) := by decide +kernel
theorem dX7_canAccept_22 : decode cX7_canAccept 22 = .ok (.invokevirtual 68, 3) := by decide +kernel
theorem dX7_canAccept_25 : decode cX7_canAccept 25 = .ok (.ifCond .ne 24, 3) := by decide +kernel
theorem dX7_canAccept_28 : decode cX7_canAccept 28 = .ok (.aload_n 0, 1) := by decide +kernel
theorem dX7_canAccept_29 : decode cX7_canAccept 29 = .ok (.getfield 7, 3) := by decide +kernel
theorem dX7_canAccept_32 : decode cX7_canAccept 32 = .ok (.iload_n 1, 1) := by decide +kernel
theorem dX7_canAccept_33 : decode cX7_canAccept 33 = .ok (.iload_n 1, 1) := by decide +kernel
theorem dX7_canAccept_34 : decode cX7_canAccept 34 = .ok (.iload_n 2, 1) := by decide +kernel
theorem dX7_canAccept_35 : decode cX7_canAccept 35 = .ok (.invokestatic 107, 3) := by decide +kernel
theorem dX7_canAccept_38 : decode cX7_canAccept 38 = .ok (.invokestatic 117, 3) := by decide +kernel
theorem dX7_canAccept_41 : decode cX7_canAccept 41 = .ok (.iaload, 1) := by decide +kernel
theorem dX7_canAccept_42 : decode cX7_canAccept 42 = .ok (.ifCond .le 7, 3) := by decide +kernel
theorem dX7_canAccept_45 : decode cX7_canAccept 45 = .ok (.iconst 1, 1) := by decide +kernel
theorem dX7_canAccept_46 : decode cX7_canAccept 46 = .ok (.goto 4, 3) := by decide +kernel
theorem dX7_canAccept_49 : decode cX7_canAccept 49 = .ok (.iconst 0, 1) := by decide +kernel
theorem dX7_canAccept_50 : decode cX7_canAccept 50 = .ok (.istore_n 3, 1) := by decide +kernel
theorem dX7_canAccept_51 : decode cX7_canAccept 51 = .ok (.aload_n 0, 1) := by decide +kernel
theorem dX7_canAccept_52 : decode cX7_canAccept 52 = .ok (.iload_n 1, 1) := by decide +kernel
theorem dX7_canAccept_53 : decode cX7_canAccept 53 = .ok (.iload_n 2, 1) := by decide +kernel
theorem dX7_canAccept_54 : decode cX7_canAccept 54 = .ok (.invokestatic 120, 3) := by decide +kernel
theorem dX7_canAccept_57 : decode cX7_canAccept 57 = .ok (.iload_n 2, 1) := by decide +kernel
theorem dX7_canAccept_58 : decode cX7_canAccept 58 = .ok (.invokevirtual 83, 3) := by decide +kernel
theorem dX7_canAccept_61 : decode cX7_canAccept 61 = .ok (.ifCond .eq 11, 3) := by decide +kernel
theorem dX7_canAccept_64 : decode cX7_canAccept 64 = .ok (.iload_n 3, 1) := by decide +kernel
theorem dX7_canAccept_65 : decode cX7_canAccept 65 = .ok (.ifCond .eq 7, 3) := by decide +kernel
theorem dX7_canAccept_68 : decode cX7_canAccept 68 = .ok (.iconst 1, 1) := by decide +kernel
theorem dX7_canAccept_69 : decode cX7_canAccept 69 = .ok (.goto 4, 3) := by decide +kernel
theorem dX7_canAccept_72 : decode cX7_canAccept 72 = .ok (.iconst 0, 1) := by decide +kernel
theorem dX7_canAccept_73 : decode cX7_canAccept 73 = .ok (.ireturn, 1) := by decide +kernel
theorem dX7_answer_0 : decode cX7_answer 0 = .ok (.aload_n 0, 1) := by decide +kernel
theorem dX7_answer_1 : decode cX7_answer 1 = .ok (.iload_n 1, 1) := by decide +kernel
theorem dX7_answer_2 : decode cX7_answer 2 = .ok (.iload_n 2, 1) := by decide +kernel
theorem dX7_answer_3 : decode cX7_answer 3 = .ok (.invokevirtual 71, 3) := by decide +kernel
theorem dX7_answer_6 : decode cX7_answer 6 = .ok (.ifCond .ne 5, 3) := by decide +kernel
theorem dX7_answer_9 : decode cX7_answer 9 = .ok (.iconst (-1), 1) := by decide +kernel
theorem dX7_answer_10 : decode cX7_answer 10 = .ok (.ireturn, 1) := by decide +kernel
theorem dX7_answer_11 : decode cX7_answer 11 = .ok (.aload_n 0, 1) := by decide +kernel
theorem dX7_answer_12 : decode cX7_answer 12 = .ok (.iload_n 1, 1) := by decide +kernel
theorem dX7_answer_13 : decode cX7_answer 13 = .ok (.iload_n 2, 1) := by decide +kernel
theorem dX7_answer_14 : decode cX7_answer 14 = .ok (.iconst 1, 1) := by decide +kernel
theorem dX7_answer_15 : decode cX7_answer 15 = .ok (.invokevirtual 55, 3) := by decide +kernel
theorem dX7_answer_18 : decode cX7_answer 18 = .ok (.istore 4, 2) := by decide +kernel
theorem dX7_answer_20 : decode cX7_answer 20 = .ok (.iload 4, 2) := by decide +kernel
theorem dX7_answer_22 : decode cX7_answer 22 = .ok (.ifCond .lt 16, 3) := by decide +kernel
theorem dX7_answer_25 : decode cX7_answer 25 = .ok (.iload_n 3, 1) := by decide +kernel
theorem dX7_answer_26 : decode cX7_answer 26 = .ok (.ifCond .eq 15, 3) := by decide +kernel
theorem dX7_answer_29 : decode cX7_answer 29 = .ok (.aload_n 0, 1) := by decide +kernel
theorem dX7_answer_30 : decode cX7_answer 30 = .ok (.iload_n 1, 1) := by decide +kernel
theorem dX7_answer_31 : decode cX7_answer 31 = .ok (.iload_n 2, 1) := by decide +kernel
theorem dX7_answer_32 : decode cX7_answer 32 = .ok (.invokevirtual 123, 3) := by decide +kernel
theorem dX7_answer_35 : decode cX7_answer 35 = .ok (.ifCond .ne 6, 3) := by decide +kernel
theorem dX7_answer_38 : decode cX7_answer 38 = .ok (.bipush (-5), 2) := by decide +kernel
theorem dX7_answer_40 : decode cX7_answer 40 = .ok (.ireturn, 1) := by decide +kernel
theorem dX7_answer_41 : decode cX7_answer 41 = .ok (.aload_n 0, 1) := by decide +kernel
theorem dX7_answer_42 : decode cX7_answer 42 = .ok (.getfield 7, 3) := by decide +kernel
theorem dX7_answer_45 : decode cX7_answer 45 = .ok (.iload_n 1, 1) := by decide +kernel
theorem dX7_answer_46 : decode cX7_answer 46 = .ok (.iload_n 2, 1) := by decide +kernel
theorem dX7_answer_47 : decode cX7_answer 47 = .ok (.iconst 1, 1) := by decide +kernel
theorem dX7_answer_48 : decode cX7_answer 48 = .ok (.invokestatic 51, 3) := by decide +kernel
theorem dX7_answer_51 : decode cX7_answer 51 = .ok (.bipush (-6), 2) := by decide +kernel
theorem dX7_answer_53 : decode cX7_answer 53 = .ok (.iastore, 1) := by decide +kernel
theorem dX7_answer_54 : decode cX7_answer 54 = .ok (.iload_n 3, 1) := by decide +kernel
theorem dX7_answer_55 : decode cX7_answer 55 = .ok (.ifCond .ne 16, 3) := by decide +kernel
theorem dX7_answer_58 : decode cX7_answer 58 = .ok (.aload_n 0, 1) := by decide +kernel
theorem dX7_answer_59 : decode cX7_answer 59 = .ok (.iload_n 1, 1) := by decide +kernel
theorem dX7_answer_60 : decode cX7_answer 60 = .ok (.iload_n 2, 1) := by decide +kernel
theorem dX7_answer_61 : decode cX7_answer 61 = .ok (.iload_n 1, 1) := by decide +kernel
theorem dX7_answer_62 : decode cX7_answer 62 = .ok (.iload_n 2, 1) := by decide +kernel
theorem dX7_answer_63 : decode cX7_answer 63 = .ok (.invokestatic 120, 3) := by decide +kernel
theorem dX7_answer_66 : decode cX7_answer 66 = .ok (.iconst 1, 1) := by decide +kernel
theorem dX7_answer_67 : decode cX7_answer 67 = .ok (.invokevirtual 113, 3) := by decide +kernel
theorem dX7_answer_70 : decode cX7_answer 70 = .ok (.ireturn, 1) := by decide +kernel
theorem dX7_answer_71 : decode cX7_answer 71 = .ok (.aload_n 0, 1) := by decide +kernel
theorem dX7_answer_72 : decode cX7_answer 72 = .ok (.getfield 7, 3) := by decide +kernel
theorem dX7_answer_75 : decode cX7_answer 75 = .ok (.iload_n 1, 1) := by decide +kernel
theorem dX7_answer_76 : decode cX7_answer 76 = .ok (.iload_n 2, 1) := by decide +kernel
theorem dX7_answer_77 : decode cX7_answer 77 = .ok (.iconst 0, 1) := by decide +kernel
theorem dX7_answer_78 : decode cX7_answer 78 = .ok (.invokestatic 51, 3) := by decide +kernel
theorem dX7_answer_81 : decode cX7_answer 81 = .ok (.iconst 1, 1) := by decide +kernel
theorem dX7_answer_82 : decode cX7_answer 82 = .ok (.iastore, 1) := by decide +kernel
theorem dX7_answer_83 : decode cX7_answer 83 = .ok (.aload_n 0, 1) := by decide +kernel
theorem dX7_answer_84 : decode cX7_answer 84 = .ok (.getfield 7, 3) := by decide +kernel
theorem dX7_answer_87 : decode cX7_answer 87 = .ok (.iload_n 1, 1) := by decide +kernel
theorem dX7_answer_88 : decode cX7_answer 88 = .ok (.iload_n 2, 1) := by decide +kernel
theorem dX7_answer_89 : decode cX7_answer 89 = .ok (.iconst 2, 1) := by decide +kernel
theorem dX7_answer_90 : decode cX7_answer 90 = .ok (.invokestatic 51, 3) := by decide +kernel
theorem dX7_answer_93 : decode cX7_answer 93 = .ok (.iload 4, 2) := by decide +kernel
theorem dX7_answer_95 : decode cX7_answer 95 = .ok (.iastore, 1) := by decide +kernel
theorem dX7_answer_96 : decode cX7_answer 96 = .ok (.aload_n 0, 1) := by decide +kernel
theorem dX7_answer_97 : decode cX7_answer 97 = .ok (.getfield 7, 3) := by decide +kernel
theorem dX7_answer_100 : decode cX7_answer 100 = .ok (.iload_n 1, 1) := by decide +kernel
theorem dX7_answer_101 : decode cX7_answer 101 = .ok (.iload_n 1, 1) := by decide +kernel
theorem dX7_answer_102 : decode cX7_answer 102 = .ok (.iload_n 2, 1) := by decide +kernel
theorem dX7_answer_103 : decode cX7_answer 103 = .ok (.invokestatic 107, 3) := by decide +kernel
theorem dX7_answer_106 : decode cX7_answer 106 = .ok (.invokestatic 117, 3) := by decide +kernel
theorem dX7_answer_109 : decode cX7_answer 109 = .ok (.dup2, 1) := by decide +kernel
theorem dX7_answer_110 : decode cX7_answer 110 = .ok (.iaload, 1) := by decide +kernel
theorem dX7_answer_111 : decode cX7_answer 111 = .ok (.aload_n 0, 1) := by decide +kernel
theorem dX7_answer_112 : decode cX7_answer 112 = .ok (.iload_n 1, 1) := by decide +kernel
theorem dX7_answer_113 : decode cX7_answer 113 = .ok (.invokevirtual 58, 3) := by decide +kernel
theorem dX7_answer_116 : decode cX7_answer 116 = .ok (.ifCond .eq 7, 3) := by decide +kernel
theorem dX7_answer_119 : decode cX7_answer 119 = .ok (.iconst 1, 1) := by decide +kernel
theorem dX7_answer_120 : decode cX7_answer 120 = .ok (.goto 4, 3) := by decide +kernel
theorem dX7_answer_123 : decode cX7_answer 123 = .ok (.iconst 0, 1) := by decide +kernel
theorem dX7_answer_124 : decode cX7_answer 124 = .ok (.isub, 1) := by decide +kernel
theorem dX7_answer_125 : decode cX7_answer 125 = .ok (.iastore, 1) := by decide +kernel
theorem dX7_answer_126 : decode cX7_answer 126 = .ok (.aload_n 0, 1) := by decide +kernel
theorem dX7_answer_127 : decode cX7_answer 127 = .ok (.iload_n 1, 1) := by decide +kernel
theorem dX7_answer_128 : decode cX7_answer 128 = .ok (.iload_n 2, 1) := by decide +kernel
theorem dX7_answer_129 : decode cX7_answer 129 = .ok (.iload_n 1, 1) := by decide +kernel
theorem dX7_answer_130 : decode cX7_answer 130 = .ok (.iload_n 2, 1) := by decide +kernel
theorem dX7_answer_131 : decode cX7_answer 131 = .ok (.invokestatic 120, 3) := by decide +kernel
theorem dX7_answer_134 : decode cX7_answer 134 = .ok (.aload_n 0, 1) := by decide +kernel
theorem dX7_answer_135 : decode cX7_answer 135 = .ok (.iload 4, 2) := by decide +kernel
theorem dX7_answer_137 : decode cX7_answer 137 = .ok (.iconst 0, 1) := by decide +kernel
theorem dX7_answer_138 : decode cX7_answer 138 = .ok (.invokevirtual 61, 3) := by decide +kernel
theorem dX7_answer_141 : decode cX7_answer 141 = .ok (.invokestatic 110, 3) := by decide +kernel
theorem dX7_answer_144 : decode cX7_answer 144 = .ok (.invokevirtual 113, 3) := by decide +kernel
theorem dX7_answer_147 : decode cX7_answer 147 = .ok (.ireturn, 1) := by decide +kernel
theorem dX7_unclear_0 : decode cX7_unclear 0 = .ok (.aload_n 0, 1) := by decide +kernel
theorem dX7_unclear_1 : decode cX7_unclear 1 = .ok (.iload_n 1, 1) := by decide +kernel
theorem dX7_unclear_2 : decode cX7_unclear 2 = .ok (.iload_n 2, 1) := by decide +kernel
theorem dX7_unclear_3 : decode cX7_unclear 3 = .ok (.iconst 0, 1) := by decide +kernel
theorem dX7_unclear_4 : decode cX7_unclear 4 = .ok (.invokevirtual 55, 3) := by decide +kernel
theorem dX7_unclear_7 : decode cX7_unclear 7 = .ok (.iconst 1, 1) := by decide +kernel
theorem dX7_unclear_8 : decode cX7_unclear 8 = .ok (.if_icmp .ne 46, 3) := by decide +kernel
theorem dX7_unclear_11 : decode cX7_unclear 11 = .ok (.aload_n 0, 1) := by decide +kernel
theorem dX7_unclear_12 : decode cX7_unclear 12 = .ok (.getfield 7, 3) := by decide +kernel
theorem dX7_unclear_15 : decode cX7_unclear 15 = .ok (.iload_n 1, 1) := by decide +kernel
theorem dX7_unclear_16 : decode cX7_unclear 16 = .ok (.iload_n 2, 1) := by decide +kernel
theorem dX7_unclear_17 : decode cX7_unclear 17 = .ok (.iconst 2, 1) := by decide +kernel
theorem dX7_unclear_18 : decode cX7_unclear 18 = .ok (.invokestatic 51, 3) := by decide +kernel
theorem dX7_unclear_21 : decode cX7_unclear 21 = .ok (.bipush (-6), 2) := by decide +kernel
theorem dX7_unclear_23 : decode cX7_unclear 23 = .ok (.iastore, 1) := by decide +kernel
theorem dX7_unclear_24 : decode cX7_unclear 24 = .ok (.aload_n 0, 1) := by decide +kernel
theorem dX7_unclear_25 : decode cX7_unclear 25 = .ok (.getfield 7, 3) := by decide +kernel
theorem dX7_unclear_28 : decode cX7_unclear 28 = .ok (.iload_n 1, 1) := by decide +kernel
theorem dX7_unclear_29 : decode cX7_unclear 29 = .ok (.iload_n 1, 1) := by decide +kernel
theorem dX7_unclear_30 : decode cX7_unclear 30 = .ok (.iload_n 2, 1) := by decide +kernel
theorem dX7_unclear_31 : decode cX7_unclear 31 = .ok (.invokestatic 107, 3) := by decide +kernel
theorem dX7_unclear_34 : decode cX7_unclear 34 = .ok (.invokestatic 117, 3) := by decide +kernel
theorem dX7_unclear_37 : decode cX7_unclear 37 = .ok (.dup2, 1) := by decide +kernel
theorem dX7_unclear_38 : decode cX7_unclear 38 = .ok (.iaload, 1) := by decide +kernel
theorem dX7_unclear_39 : decode cX7_unclear 39 = .ok (.aload_n 0, 1) := by decide +kernel
theorem dX7_unclear_40 : decode cX7_unclear 40 = .ok (.iload_n 1, 1) := by decide +kernel
theorem dX7_unclear_41 : decode cX7_unclear 41 = .ok (.invokevirtual 58, 3) := by decide +kernel
theorem dX7_unclear_44 : decode cX7_unclear 44 = .ok (.ifCond .eq 7, 3) := by decide +kernel
theorem dX7_unclear_47 : decode cX7_unclear 47 = .ok (.iconst 1, 1) := by decide +kernel
theorem dX7_unclear_48 : decode cX7_unclear 48 = .ok (.goto 4, 3) := by decide +kernel
theorem dX7_unclear_51 : decode cX7_unclear 51 = .ok (.iconst 0, 1) := by decide +kernel
theorem dX7_unclear_52 : decode cX7_unclear 52 = .ok (.iadd, 1) := by decide +kernel
theorem dX7_unclear_53 : decode cX7_unclear 53 = .ok (.iastore, 1) := by decide +kernel
theorem dX7_unclear_54 : decode cX7_unclear 54 = .ok (.return_, 1) := by decide +kernel
theorem dX7_cancel_0 : decode cX7_cancel 0 = .ok (.aload_n 0, 1) := by decide +kernel
theorem dX7_cancel_1 : decode cX7_cancel 1 = .ok (.iload_n 1, 1) := by decide +kernel
theorem dX7_cancel_2 : decode cX7_cancel 2 = .ok (.iload_n 2, 1) := by decide +kernel
theorem dX7_cancel_3 : decode cX7_cancel 3 = .ok (.invokevirtual 71, 3) := by decide +kernel
theorem dX7_cancel_6 : decode cX7_cancel 6 = .ok (.ifCond .ne 5, 3) := by decide +kernel
theorem dX7_cancel_9 : decode cX7_cancel 9 = .ok (.iconst (-1), 1) := by decide +kernel
theorem dX7_cancel_10 : decode cX7_cancel 10 = .ok (.ireturn, 1) := by decide +kernel
theorem dX7_cancel_11 : decode cX7_cancel 11 = .ok (.aload_n 0, 1) := by decide +kernel
theorem dX7_cancel_12 : decode cX7_cancel 12 = .ok (.iload_n 1, 1) := by decide +kernel
theorem dX7_cancel_13 : decode cX7_cancel 13 = .ok (.iload_n 2, 1) := by decide +kernel
theorem dX7_cancel_14 : decode cX7_cancel 14 = .ok (.iconst 0, 1) := by decide +kernel
theorem dX7_cancel_15 : decode cX7_cancel 15 = .ok (.invokevirtual 55, 3) := by decide +kernel
theorem dX7_cancel_18 : decode cX7_cancel 18 = .ok (.iconst 1, 1) := by decide +kernel
theorem dX7_cancel_19 : decode cX7_cancel 19 = .ok (.if_icmp .ne 7, 3) := by decide +kernel
theorem dX7_cancel_22 : decode cX7_cancel 22 = .ok (.iconst 1, 1) := by decide +kernel
theorem dX7_cancel_23 : decode cX7_cancel 23 = .ok (.goto 4, 3) := by decide +kernel
theorem dX7_cancel_26 : decode cX7_cancel 26 = .ok (.iconst 0, 1) := by decide +kernel
theorem dX7_cancel_27 : decode cX7_cancel 27 = .ok (.istore_n 3, 1) := by decide +kernel
theorem dX7_cancel_28 : decode cX7_cancel 28 = .ok (.aload_n 0, 1) := by decide +kernel
theorem dX7_cancel_29 : decode cX7_cancel 29 = .ok (.iload_n 1, 1) := by decide +kernel
theorem dX7_cancel_30 : decode cX7_cancel 30 = .ok (.iload_n 2, 1) := by decide +kernel
theorem dX7_cancel_31 : decode cX7_cancel 31 = .ok (.iconst 1, 1) := by decide +kernel
theorem dX7_cancel_32 : decode cX7_cancel 32 = .ok (.invokevirtual 55, 3) := by decide +kernel
theorem dX7_cancel_35 : decode cX7_cancel 35 = .ok (.ifCond .ge 10, 3) := by decide +kernel
theorem dX7_cancel_38 : decode cX7_cancel 38 = .ok (.iload_n 3, 1) := by decide +kernel
theorem dX7_cancel_39 : decode cX7_cancel 39 = .ok (.ifCond .ne 6, 3) := by decide +kernel
theorem dX7_cancel_42 : decode cX7_cancel 42 = .ok (.bipush (-5), 2) := by decide +kernel
theorem dX7_cancel_44 : decode cX7_cancel 44 = .ok (.ireturn, 1) := by decide +kernel
theorem dX7_cancel_45 : decode cX7_cancel 45 = .ok (.aload_n 0, 1) := by decide +kernel
theorem dX7_cancel_46 : decode cX7_cancel 46 = .ok (.getfield 7, 3) := by decide +kernel
theorem dX7_cancel_49 : decode cX7_cancel 49 = .ok (.iload_n 1, 1) := by decide +kernel
theorem dX7_cancel_50 : decode cX7_cancel 50 = .ok (.iload_n 2, 1) := by decide +kernel
theorem dX7_cancel_51 : decode cX7_cancel 51 = .ok (.iconst 1, 1) := by decide +kernel
theorem dX7_cancel_52 : decode cX7_cancel 52 = .ok (.invokestatic 51, 3) := by decide +kernel
theorem dX7_cancel_55 : decode cX7_cancel 55 = .ok (.bipush (-6), 2) := by decide +kernel
theorem dX7_cancel_57 : decode cX7_cancel 57 = .ok (.iastore, 1) := by decide +kernel
theorem dX7_cancel_58 : decode cX7_cancel 58 = .ok (.iload_n 3, 1) := by decide +kernel
theorem dX7_cancel_59 : decode cX7_cancel 59 = .ok (.ifCond .eq 21, 3) := by decide +kernel
theorem dX7_cancel_62 : decode cX7_cancel 62 = .ok (.aload_n 0, 1) := by decide +kernel
theorem dX7_cancel_63 : decode cX7_cancel 63 = .ok (.iload_n 1, 1) := by decide +kernel
theorem dX7_cancel_64 : decode cX7_cancel 64 = .ok (.iload_n 2, 1) := by decide +kernel
theorem dX7_cancel_65 : decode cX7_cancel 65 = .ok (.invokevirtual 126, 3) := by decide +kernel
theorem dX7_cancel_68 : decode cX7_cancel 68 = .ok (.aload_n 0, 1) := by decide +kernel
theorem dX7_cancel_69 : decode cX7_cancel 69 = .ok (.getfield 7, 3) := by decide +kernel
theorem dX7_cancel_72 : decode cX7_cancel 72 = .ok (.iload_n 1, 1) := by decide +kernel
theorem dX7_cancel_73 : decode cX7_cancel 73 = .ok (.iload_n 2, 1) := by decide +kernel
theorem dX7_cancel_74 : decode cX7_cancel 74 = .ok (.iconst 0, 1) := by decide +kernel
theorem dX7_cancel_75 : decode cX7_cancel 75 = .ok (.invokestatic 51, 3) := by decide +kernel
theorem dX7_cancel_78 : decode cX7_cancel 78 = .ok (.iconst 0, 1) := by decide +kernel
theorem dX7_cancel_79 : decode cX7_cancel 79 = .ok (.iastore, 1) := by decide +kernel
theorem dX7_cancel_80 : decode cX7_cancel 80 = .ok (.aload_n 0, 1) := by decide +kernel
theorem dX7_cancel_81 : decode cX7_cancel 81 = .ok (.iload_n 1, 1) := by decide +kernel
theorem dX7_cancel_82 : decode cX7_cancel 82 = .ok (.iload_n 2, 1) := by decide +kernel
theorem dX7_cancel_83 : decode cX7_cancel 83 = .ok (.iload_n 1, 1) := by decide +kernel
theorem dX7_cancel_84 : decode cX7_cancel 84 = .ok (.iload_n 2, 1) := by decide +kernel
theorem dX7_cancel_85 : decode cX7_cancel 85 = .ok (.invokestatic 107, 3) := by decide +kernel
theorem dX7_cancel_88 : decode cX7_cancel 88 = .ok (.bipush 35, 2) := by decide +kernel
theorem dX7_cancel_90 : decode cX7_cancel 90 = .ok (.invokevirtual 113, 3) := by decide +kernel
theorem dX7_cancel_93 : decode cX7_cancel 93 = .ok (.ireturn, 1) := by decide +kernel
theorem dX7_depart_0 : decode cX7_depart 0 = .ok (.aload_n 0, 1) := by decide +kernel
theorem dX7_depart_1 : decode cX7_depart 1 = .ok (.iload_n 1, 1) := by decide +kernel
theorem dX7_depart_2 : decode cX7_depart 2 = .ok (.invokevirtual 89, 3) := by decide +kernel
theorem dX7_depart_5 : decode cX7_depart 5 = .ok (.ifCond .ne 5, 3) := by decide +kernel
theorem dX7_depart_8 : decode cX7_depart 8 = .ok (.iconst (-1), 1) := by decide +kernel
theorem dX7_depart_9 : decode cX7_depart 9 = .ok (.ireturn, 1) := by decide +kernel
theorem dX7_depart_10 : decode cX7_depart 10 = .ok (.aload_n 0, 1) := by decide +kernel
theorem dX7_depart_11 : decode cX7_depart 11 = .ok (.iload_n 1, 1) := by decide +kernel
theorem dX7_depart_12 : decode cX7_depart 12 = .ok (.iconst 2, 1) := by decide +kernel
theorem dX7_depart_13 : decode cX7_depart 13 = .ok (.invokevirtual 61, 3) := by decide +kernel
theorem dX7_depart_16 : decode cX7_depart 16 = .ok (.ifCond .ne 11, 3) := by decide +kernel
theorem dX7_depart_19 : decode cX7_depart 19 = .ok (.aload_n 0, 1) := by decide +kernel
theorem dX7_depart_20 : decode cX7_depart 20 = .ok (.iload_n 1, 1) := by decide +kernel
theorem dX7_depart_21 : decode cX7_depart 21 = .ok (.invokevirtual 98, 3) := by decide +kernel
theorem dX7_depart_24 : decode cX7_depart 24 = .ok (.ifCond .ne 6, 3) := by decide +kernel
theorem dX7_depart_27 : decode cX7_depart 27 = .ok (.bipush (-5), 2) := by decide +kernel
theorem dX7_depart_29 : decode cX7_depart 29 = .ok (.ireturn, 1) := by decide +kernel
theorem dX7_depart_30 : decode cX7_depart 30 = .ok (.aload_n 0, 1) := by decide +kernel
theorem dX7_depart_31 : decode cX7_depart 31 = .ok (.iload_n 1, 1) := by decide +kernel
theorem dX7_depart_32 : decode cX7_depart 32 = .ok (.invokevirtual 92, 3) := by decide +kernel
theorem dX7_depart_35 : decode cX7_depart 35 = .ok (.istore_n 2, 1) := by decide +kernel
theorem dX7_depart_36 : decode cX7_depart 36 = .ok (.aload_n 0, 1) := by decide +kernel
theorem dX7_depart_37 : decode cX7_depart 37 = .ok (.iload_n 1, 1) := by decide +kernel
theorem dX7_depart_38 : decode cX7_depart 38 = .ok (.iconst 1, 1) := by decide +kernel
theorem dX7_depart_39 : decode cX7_depart 39 = .ok (.invokevirtual 61, 3) := by decide +kernel
theorem dX7_depart_42 : decode cX7_depart 42 = .ok (.istore_n 3, 1) := by decide +kernel
theorem dX7_depart_43 : decode cX7_depart 43 = .ok (.aload_n 0, 1) := by decide +kernel
theorem dX7_depart_44 : decode cX7_depart 44 = .ok (.iload_n 1, 1) := by decide +kernel
theorem dX7_depart_45 : decode cX7_depart 45 = .ok (.iconst 2, 1) := by decide +kernel
theorem dX7_depart_46 : decode cX7_depart 46 = .ok (.iconst 2, 1) := by decide +kernel
theorem dX7_depart_47 : decode cX7_depart 47 = .ok (.invokevirtual 75, 3) := by decide +kernel
theorem dX7_depart_50 : decode cX7_depart 50 = .ok (.aload_n 0, 1) := by decide +kernel
theorem dX7_depart_51 : decode cX7_depart 51 = .ok (.iload_n 1, 1) := by decide +kernel
theorem dX7_depart_52 : decode cX7_depart 52 = .ok (.iconst 3, 1) := by decide +kernel
theorem dX7_depart_53 : decode cX7_depart 53 = .ok (.iload_n 2, 1) := by decide +kernel
theorem dX7_depart_54 : decode cX7_depart 54 = .ok (.invokevirtual 75, 3) := by decide +kernel
theorem dX7_depart_57 : decode cX7_depart 57 = .ok (.aload_n 0, 1) := by decide +kernel
theorem dX7_depart_58 : decode cX7_depart 58 = .ok (.iload_n 1, 1) := by decide +kernel
theorem dX7_depart_59 : decode cX7_depart 59 = .ok (.iconst 4, 1) := by decide +kernel
theorem dX7_depart_60 : decode cX7_depart 60 = .ok (.aload_n 0, 1) := by decide +kernel
theorem dX7_depart_61 : decode cX7_depart 61 = .ok (.getfield 7, 3) := by decide +kernel
theorem dX7_depart_64 : decode cX7_depart 64 = .ok (.iconst 3, 1) := by decide +kernel
theorem dX7_depart_65 : decode cX7_depart 65 = .ok (.iload_n 2, 1) := by decide +kernel
theorem dX7_depart_66 : decode cX7_depart 66 = .ok (.iadd, 1) := by decide +kernel
theorem dX7_depart_67 : decode cX7_depart 67 = .ok (.iaload, 1) := by decide +kernel
theorem dX7_depart_68 : decode cX7_depart 68 = .ok (.aload_n 0, 1) := by decide +kernel
theorem dX7_depart_69 : decode cX7_depart 69 = .ok (.iload_n 1, 1) := by decide +kernel
theorem dX7_depart_70 : decode cX7_depart 70 = .ok (.iconst 0, 1) := by decide +kernel
theorem dX7_depart_71 : decode cX7_depart 71 = .ok (.invokevirtual 61, 3) := by decide +kernel
theorem dX7_depart_74 : decode cX7_depart 74 = .ok (.iadd, 1) := by decide +kernel
theorem dX7_depart_75 : decode cX7_depart 75 = .ok (.iconst 1, 1) := by decide +kernel
theorem dX7_depart_76 : decode cX7_depart 76 = .ok (.isub, 1) := by decide +kernel
theorem dX7_depart_77 : decode cX7_depart 77 = .ok (.invokevirtual 75, 3) := by decide +kernel
theorem dX7_depart_80 : decode cX7_depart 80 = .ok (.aload_n 0, 1) := by decide +kernel
theorem dX7_depart_81 : decode cX7_depart 81 = .ok (.getfield 7, 3) := by decide +kernel
theorem dX7_depart_84 : decode cX7_depart 84 = .ok (.iload_n 2, 1) := by decide +kernel
theorem dX7_depart_85 : decode cX7_depart 85 = .ok (.iload_n 3, 1) := by decide +kernel
theorem dX7_depart_86 : decode cX7_depart 86 = .ok (.iconst 0, 1) := by decide +kernel
theorem dX7_depart_87 : decode cX7_depart 87 = .ok (.invokestatic 51, 3) := by decide +kernel
theorem dX7_depart_90 : decode cX7_depart 90 = .ok (.iconst 2, 1) := by decide +kernel
theorem dX7_depart_91 : decode cX7_depart 91 = .ok (.iastore, 1) := by decide +kernel
theorem dX7_depart_92 : decode cX7_depart 92 = .ok (.aload_n 0, 1) := by decide +kernel
theorem dX7_depart_93 : decode cX7_depart 93 = .ok (.iload_n 2, 1) := by decide +kernel
theorem dX7_depart_94 : decode cX7_depart 94 = .ok (.iload_n 3, 1) := by decide +kernel
theorem dX7_depart_95 : decode cX7_depart 95 = .ok (.iload_n 2, 1) := by decide +kernel
theorem dX7_depart_96 : decode cX7_depart 96 = .ok (.iload_n 3, 1) := by decide +kernel
theorem dX7_depart_97 : decode cX7_depart 97 = .ok (.invokestatic 107, 3) := by decide +kernel
theorem dX7_depart_100 : decode cX7_depart 100 = .ok (.iconst 2, 1) := by decide +kernel
theorem dX7_depart_101 : decode cX7_depart 101 = .ok (.invokevirtual 113, 3) := by decide +kernel
theorem dX7_depart_104 : decode cX7_depart 104 = .ok (.pop, 1) := by decide +kernel
theorem dX7_depart_105 : decode cX7_depart 105 = .ok (.aload_n 0, 1) := by decide +kernel
theorem dX7_depart_106 : decode cX7_depart 106 = .ok (.iload_n 1, 1) := by decide +kernel
theorem dX7_depart_107 : decode cX7_depart 107 = .ok (.iconst 4, 1) := by decide +kernel
theorem dX7_depart_108 : decode cX7_depart 108 = .ok (.invokevirtual 61, 3) := by decide +kernel
theorem dX7_depart_111 : decode cX7_depart 111 = .ok (.ireturn, 1) := by decide +kernel
theorem dX7_isInside_0 : decode cX7_isInside 0 = .ok (.aload_n 0, 1) := by decide +kernel
theorem dX7_isInside_1 : decode cX7_isInside 1 = .ok (.iload_n 1, 1) := by decide +kernel
theorem dX7_isInside_2 : decode cX7_isInside 2 = .ok (.iload_n 2, 1) := by decide +kernel
theorem dX7_isInside_3 : decode cX7_isInside 3 = .ok (.iconst 2, 1) := by decide +kernel
theorem dX7_isInside_4 : decode cX7_isInside 4 = .ok (.invokevirtual 55, 3) := by decide +kernel
theorem dX7_isInside_7 : decode cX7_isInside 7 = .ok (.istore_n 3, 1) := by decide +kernel
theorem dX7_isInside_8 : decode cX7_isInside 8 = .ok (.iload_n 3, 1) := by decide +kernel
theorem dX7_isInside_9 : decode cX7_isInside 9 = .ok (.ifCond .lt 27, 3) := by decide +kernel
theorem dX7_isInside_12 : decode cX7_isInside 12 = .ok (.aload_n 0, 1) := by decide +kernel
theorem dX7_isInside_13 : decode cX7_isInside 13 = .ok (.iload_n 3, 1) := by decide +kernel
theorem dX7_isInside_14 : decode cX7_isInside 14 = .ok (.iconst 2, 1) := by decide +kernel
theorem dX7_isInside_15 : decode cX7_isInside 15 = .ok (.invokevirtual 61, 3) := by decide +kernel
theorem dX7_isInside_18 : decode cX7_isInside 18 = .ok (.iconst 2, 1) := by decide +kernel
theorem dX7_isInside_19 : decode cX7_isInside 19 = .ok (.if_icmp .ne 17, 3) := by decide +kernel
theorem dX7_isInside_22 : decode cX7_isInside 22 = .ok (.aload_n 0, 1) := by decide +kernel
theorem dX7_isInside_23 : decode cX7_isInside 23 = .ok (.iload_n 3, 1) := by decide +kernel
theorem dX7_isInside_24 : decode cX7_isInside 24 = .ok (.iconst 3, 1) := by decide +kernel
theorem dX7_isInside_25 : decode cX7_isInside 25 = .ok (.invokevirtual 61, 3) := by decide +kernel
theorem dX7_isInside_28 : decode cX7_isInside 28 = .ok (.iload_n 1, 1) := by decide +kernel
theorem dX7_isInside_29 : decode cX7_isInside 29 = .ok (.if_icmp .ne 7, 3) := by decide +kernel
theorem dX7_isInside_32 : decode cX7_isInside 32 = .ok (.iconst 1, 1) := by decide +kernel
theorem dX7_isInside_33 : decode cX7_isInside 33 = .ok (.goto 4, 3) := by decide +kernel
theorem dX7_isInside_36 : decode cX7_isInside 36 = .ok (.iconst 0, 1) := by decide +kernel
theorem dX7_isInside_37 : decode cX7_isInside 37 = .ok (.ireturn, 1) := by decide +kernel
theorem dX7_admit_0 : decode cX7_admit 0 = .ok (.aload_n 0, 1) := by decide +kernel
theorem dX7_admit_1 : decode cX7_admit 1 = .ok (.iload_n 1, 1) := by decide +kernel
theorem dX7_admit_2 : decode cX7_admit 2 = .ok (.iload_n 2, 1) := by decide +kernel
theorem dX7_admit_3 : decode cX7_admit 3 = .ok (.invokevirtual 71, 3) := by decide +kernel
theorem dX7_admit_6 : decode cX7_admit 6 = .ok (.ifCond .ne 5, 3) := by decide +kernel
theorem dX7_admit_9 : decode cX7_admit 9 = .ok (.iconst (-1), 1) := by decide +kernel
theorem dX7_admit_10 : decode cX7_admit 10 = .ok (.ireturn, 1) := by decide +kernel
theorem dX7_admit_11 : decode cX7_admit 11 = .ok (.aload_n 0, 1) := by decide +kernel
theorem dX7_admit_12 : decode cX7_admit 12 = .ok (.iload_n 1, 1) := by decide +kernel
theorem dX7_admit_13 : decode cX7_admit 13 = .ok (.iload_n 2, 1) := by decide +kernel
theorem dX7_admit_14 : decode cX7_admit 14 = .ok (.iconst 2, 1) := by decide +kernel
theorem dX7_admit_15 : decode cX7_admit 15 = .ok (.invokevirtual 55, 3) := by decide +kernel
theorem dX7_admit_18 : decode cX7_admit 18 = .ok (.istore_n 3, 1) := by decide +kernel
theorem dX7_admit_19 : decode cX7_admit 19 = .ok (.iload_n 1, 1) := by decide +kernel
theorem dX7_admit_20 : decode cX7_admit 20 = .ok (.iload_n 2, 1) := by decide +kernel
theorem dX7_admit_21 : decode cX7_admit 21 = .ok (.invokestatic 120, 3) := by decide +kernel
theorem dX7_admit_24 : decode cX7_admit 24 = .ok (.istore 4, 2) := by decide +kernel
theorem dX7_admit_26 : decode cX7_admit 26 = .ok (.aload_n 0, 1) := by decide +kernel
theorem dX7_admit_27 : decode cX7_admit 27 = .ok (.iload_n 1, 1) := by decide +kernel
theorem dX7_admit_28 : decode cX7_admit 28 = .ok (.iload_n 2, 1) := by decide +kernel
theorem dX7_admit_29 : decode cX7_admit 29 = .ok (.invokevirtual 129, 3) := by decide +kernel
theorem dX7_admit_32 : decode cX7_admit 32 = .ok (.ifCond .eq 22, 3) := by decide +kernel
theorem dX7_admit_35 : decode cX7_admit 35 = .ok (.aload_n 0, 1) := by decide +kernel
theorem dX7_admit_36 : decode cX7_admit 36 = .ok (.iload_n 3, 1) := by decide +kernel
theorem dX7_admit_37 : decode cX7_admit 37 = .ok (.iconst 4, 1) := by decide +kernel
theorem dX7_admit_38 : decode cX7_admit 38 = .ok (.invokevirtual 61, 3) := by decide +kernel
theorem dX7_admit_41 : decode cX7_admit 41 = .ok (.ifCond .gt 13, 3) := by decide +kernel
theorem dX7_admit_44 : decode cX7_admit 44 = .ok (.aload_n 0, 1) := by decide +kernel
theorem dX7_admit_45 : decode cX7_admit 45 = .ok (.iload 4, 2) := by decide +kernel
theorem dX7_admit_47 : decode cX7_admit 47 = .ok (.iload_n 2, 1) := by decide +kernel
theorem dX7_admit_48 : decode cX7_admit 48 = .ok (.invokevirtual 83, 3) := by decide +kernel
theorem dX7_admit_51 : decode cX7_admit 51 = .ok (.ifCond .ne 6, 3) := by decide +kernel
theorem dX7_admit_54 : decode cX7_admit 54 = .ok (.bipush (-5), 2) := by decide +kernel
theorem dX7_admit_56 : decode cX7_admit 56 = .ok (.ireturn, 1) := by decide +kernel
theorem dX7_admit_57 : decode cX7_admit 57 = .ok (.aload_n 0, 1) := by decide +kernel
theorem dX7_admit_58 : decode cX7_admit 58 = .ok (.iload_n 3, 1) := by decide +kernel
theorem dX7_admit_59 : decode cX7_admit 59 = .ok (.iconst 2, 1) := by decide +kernel
theorem dX7_admit_60 : decode cX7_admit 60 = .ok (.iconst 0, 1) := by decide +kernel
theorem dX7_admit_61 : decode cX7_admit 61 = .ok (.invokevirtual 75, 3) := by decide +kernel
theorem dX7_admit_64 : decode cX7_admit 64 = .ok (.aload_n 0, 1) := by decide +kernel
theorem dX7_admit_65 : decode cX7_admit 65 = .ok (.iload_n 3, 1) := by decide +kernel
theorem dX7_admit_66 : decode cX7_admit 66 = .ok (.iconst 3, 1) := by decide +kernel
theorem dX7_admit_67 : decode cX7_admit 67 = .ok (.iload 4, 2) := by decide +kernel
theorem dX7_admit_69 : decode cX7_admit 69 = .ok (.invokevirtual 75, 3) := by decide +kernel
theorem dX7_admit_72 : decode cX7_admit 72 = .ok (.iload_n 3, 1) := by decide +kernel
theorem dX7_admit_73 : decode cX7_admit 73 = .ok (.ireturn, 1) := by decide +kernel
theorem dX7_out_0 : decode cX7_out 0 = .ok (.aload_n 0, 1) := by decide +kernel
theorem dX7_out_1 : decode cX7_out 1 = .ok (.iload_n 1, 1) := by decide +kernel
theorem dX7_out_2 : decode cX7_out 2 = .ok (.iload_n 2, 1) := by decide +kernel
theorem dX7_out_3 : decode cX7_out 3 = .ok (.invokevirtual 71, 3) := by decide +kernel
theorem dX7_out_6 : decode cX7_out 6 = .ok (.ifCond .ne 5, 3) := by decide +kernel
theorem dX7_out_9 : decode cX7_out 9 = .ok (.iconst (-1), 1) := by decide +kernel
theorem dX7_out_10 : decode cX7_out 10 = .ok (.ireturn, 1) := by decide +kernel
theorem dX7_out_11 : decode cX7_out 11 = .ok (.iload_n 1, 1) := by decide +kernel
theorem dX7_out_12 : decode cX7_out 12 = .ok (.iload_n 2, 1) := by decide +kernel
theorem dX7_out_13 : decode cX7_out 13 = .ok (.invokestatic 120, 3) := by decide +kernel
theorem dX7_out_16 : decode cX7_out 16 = .ok (.istore_n 3, 1) := by decide +kernel
theorem dX7_out_17 : decode cX7_out 17 = .ok (.aload_n 0, 1) := by decide +kernel
theorem dX7_out_18 : decode cX7_out 18 = .ok (.iload_n 1, 1) := by decide +kernel
theorem dX7_out_19 : decode cX7_out 19 = .ok (.iload_n 2, 1) := by decide +kernel
theorem dX7_out_20 : decode cX7_out 20 = .ok (.iconst 0, 1) := by decide +kernel
theorem dX7_out_21 : decode cX7_out 21 = .ok (.invokevirtual 55, 3) := by decide +kernel
theorem dX7_out_24 : decode cX7_out 24 = .ok (.iconst 2, 1) := by decide +kernel
theorem dX7_out_25 : decode cX7_out 25 = .ok (.if_icmp .ne 23, 3) := by decide +kernel
theorem dX7_out_28 : decode cX7_out 28 = .ok (.aload_n 0, 1) := by decide +kernel
theorem dX7_out_29 : decode cX7_out 29 = .ok (.iload_n 1, 1) := by decide +kernel
theorem dX7_out_30 : decode cX7_out 30 = .ok (.iload_n 2, 1) := by decide +kernel
theorem dX7_out_31 : decode cX7_out 31 = .ok (.invokevirtual 129, 3) := by decide +kernel
theorem dX7_out_34 : decode cX7_out 34 = .ok (.ifCond .ne 14, 3) := by decide +kernel
theorem dX7_out_37 : decode cX7_out 37 = .ok (.aload_n 0, 1) := by decide +kernel
theorem dX7_out_38 : decode cX7_out 38 = .ok (.iload_n 1, 1) := by decide +kernel
theorem dX7_out_39 : decode cX7_out 39 = .ok (.iload_n 2, 1) := by decide +kernel
theorem dX7_out_40 : decode cX7_out 40 = .ok (.iconst 3, 1) := by decide +kernel
theorem dX7_out_41 : decode cX7_out 41 = .ok (.invokevirtual 55, 3) := by decide +kernel
theorem dX7_out_44 : decode cX7_out 44 = .ok (.iconst 1, 1) := by decide +kernel
theorem dX7_out_45 : decode cX7_out 45 = .ok (.if_icmp .ne 6, 3) := by decide +kernel
theorem dX7_out_48 : decode cX7_out 48 = .ok (.bipush (-5), 2) := by decide +kernel
theorem dX7_out_50 : decode cX7_out 50 = .ok (.ireturn, 1) := by decide +kernel
theorem dX7_out_51 : decode cX7_out 51 = .ok (.aload_n 0, 1) := by decide +kernel
theorem dX7_out_52 : decode cX7_out 52 = .ok (.getfield 7, 3) := by decide +kernel
theorem dX7_out_55 : decode cX7_out 55 = .ok (.iload_n 1, 1) := by decide +kernel
theorem dX7_out_56 : decode cX7_out 56 = .ok (.iload_n 2, 1) := by decide +kernel
theorem dX7_out_57 : decode cX7_out 57 = .ok (.iconst 0, 1) := by decide +kernel
theorem dX7_out_58 : decode cX7_out 58 = .ok (.invokestatic 51, 3) := by decide +kernel
theorem dX7_out_61 : decode cX7_out 61 = .ok (.iconst 0, 1) := by decide +kernel
theorem dX7_out_62 : decode cX7_out 62 = .ok (.iastore, 1) := by decide +kernel
theorem dX7_out_63 : decode cX7_out 63 = .ok (.aload_n 0, 1) := by decide +kernel
theorem dX7_out_64 : decode cX7_out 64 = .ok (.getfield 7, 3) := by decide +kernel
theorem dX7_out_67 : decode cX7_out 67 = .ok (.iload_n 1, 1) := by decide +kernel
theorem dX7_out_68 : decode cX7_out 68 = .ok (.iload_n 2, 1) := by decide +kernel
theorem dX7_out_69 : decode cX7_out 69 = .ok (.iconst 2, 1) := by decide +kernel
theorem dX7_out_70 : decode cX7_out 70 = .ok (.invokestatic 51, 3) := by decide +kernel
theorem dX7_out_73 : decode cX7_out 73 = .ok (.bipush (-6), 2) := by decide +kernel
theorem dX7_out_75 : decode cX7_out 75 = .ok (.iastore, 1) := by decide +kernel
theorem dX7_out_76 : decode cX7_out 76 = .ok (.aload_n 0, 1) := by decide +kernel
theorem dX7_out_77 : decode cX7_out 77 = .ok (.getfield 7, 3) := by decide +kernel
theorem dX7_out_80 : decode cX7_out 80 = .ok (.iload_n 1, 1) := by decide +kernel
theorem dX7_out_81 : decode cX7_out 81 = .ok (.iload_n 3, 1) := by decide +kernel
theorem dX7_out_82 : decode cX7_out 82 = .ok (.invokestatic 117, 3) := by decide +kernel
theorem dX7_out_85 : decode cX7_out 85 = .ok (.dup2, 1) := by decide +kernel
theorem dX7_out_86 : decode cX7_out 86 = .ok (.iaload, 1) := by decide +kernel
theorem dX7_out_87 : decode cX7_out 87 = .ok (.aload_n 0, 1) := by decide +kernel
theorem dX7_out_88 : decode cX7_out 88 = .ok (.iload_n 1, 1) := by decide +kernel
theorem dX7_out_89 : decode cX7_out 89 = .ok (.invokevirtual 58, 3) := by decide +kernel
theorem dX7_out_92 : decode cX7_out 92 = .ok (.ifCond .eq 7, 3) := by decide +kernel
theorem dX7_out_95 : decode cX7_out 95 = .ok (.iconst 1, 1) := by decide +kernel
theorem dX7_out_96 : decode cX7_out 96 = .ok (.goto 4, 3) := by decide +kernel
theorem dX7_out_99 : decode cX7_out 99 = .ok (.iconst 0, 1) := by decide +kernel
theorem dX7_out_100 : decode cX7_out 100 = .ok (.iadd, 1) := by decide +kernel
theorem dX7_out_101 : decode cX7_out 101 = .ok (.iastore, 1) := by decide +kernel
theorem dX7_out_102 : decode cX7_out 102 = .ok (.aload_n 0, 1) := by decide +kernel
theorem dX7_out_103 : decode cX7_out 103 = .ok (.iload_n 1, 1) := by decide +kernel
theorem dX7_out_104 : decode cX7_out 104 = .ok (.iload_n 2, 1) := by decide +kernel
theorem dX7_out_105 : decode cX7_out 105 = .ok (.iload_n 3, 1) := by decide +kernel
theorem dX7_out_106 : decode cX7_out 106 = .ok (.bipush 21, 2) := by decide +kernel
theorem dX7_out_108 : decode cX7_out 108 = .ok (.invokevirtual 113, 3) := by decide +kernel
theorem dX7_out_111 : decode cX7_out 111 = .ok (.ireturn, 1) := by decide +kernel
