theorem dX0_init_0 : decode cX0_init 0 = .ok (.aload_n 0, 1) := by decide +kernel
theorem dX0_init_1 : decode cX0_init 1 = .ok (.invokespecial 3, 3) := by decide +kernel
theorem dX0_init_4 : decode cX0_init 4 = .ok (.aload_n 0, 1) := by decide +kernel
theorem dX0_init_5 : decode cX0_init 5 = .ok (.aload_n 1, 1) := by decide +kernel
theorem dX0_init_6 : decode cX0_init 6 = .ok (.putfield 9, 3) := by decide +kernel
theorem dX0_init_9 : decode cX0_init 9 = .ok (.aload_n 0, 1) := by decide +kernel
theorem dX0_init_10 : decode cX0_init 10 = .ok (.iload_n 2, 1) := by decide +kernel
theorem dX0_init_11 : decode cX0_init 11 = .ok (.putfield 15, 3) := by decide +kernel
theorem dX0_init_14 : decode cX0_init 14 = .ok (.return_, 1) := by decide +kernel
theorem dX0_reset_0 : decode cX0_reset 0 = .ok (.aload_n 0, 1) := by decide +kernel
theorem dX0_reset_1 : decode cX0_reset 1 = .ok (.iconst 0, 1) := by decide +kernel
theorem dX0_reset_2 : decode cX0_reset 2 = .ok (.putfield 19, 3) := by decide +kernel
theorem dX0_reset_5 : decode cX0_reset 5 = .ok (.aload_n 0, 1) := by decide +kernel
theorem dX0_reset_6 : decode cX0_reset 6 = .ok (.bipush (-6), 2) := by decide +kernel
theorem dX0_reset_8 : decode cX0_reset 8 = .ok (.putfield 22, 3) := by decide +kernel
theorem dX0_reset_11 : decode cX0_reset 11 = .ok (.aload_n 0, 1) := by decide +kernel
theorem dX0_reset_12 : decode cX0_reset 12 = .ok (.bipush (-6), 2) := by decide +kernel
theorem dX0_reset_14 : decode cX0_reset 14 = .ok (.putfield 25, 3) := by decide +kernel
theorem dX0_reset_17 : decode cX0_reset 17 = .ok (.aload_n 0, 1) := by decide +kernel
theorem dX0_reset_18 : decode cX0_reset 18 = .ok (.iconst 0, 1) := by decide +kernel
theorem dX0_reset_19 : decode cX0_reset 19 = .ok (.putfield 28, 3) := by decide +kernel
theorem dX0_reset_22 : decode cX0_reset 22 = .ok (.aload_n 0, 1) := by decide +kernel
theorem dX0_reset_23 : decode cX0_reset 23 = .ok (.iconst 0, 1) := by decide +kernel
theorem dX0_reset_24 : decode cX0_reset 24 = .ok (.putfield 32, 3) := by decide +kernel
theorem dX0_reset_27 : decode cX0_reset 27 = .ok (.return_, 1) := by decide +kernel
theorem dX0_copyFrom_0 : decode cX0_copyFrom 0 = .ok (.aload_n 0, 1) := by decide +kernel
theorem dX0_copyFrom_1 : decode cX0_copyFrom 1 = .ok (.aload_n 1, 1) := by decide +kernel
theorem dX0_copyFrom_2 : decode cX0_copyFrom 2 = .ok (.getfield 19, 3) := by decide +kernel
theorem dX0_copyFrom_5 : decode cX0_copyFrom 5 = .ok (.putfield 19, 3) := by decide +kernel
theorem dX0_copyFrom_8 : decode cX0_copyFrom 8 = .ok (.aload_n 0, 1) := by decide +kernel
theorem dX0_copyFrom_9 : decode cX0_copyFrom 9 = .ok (.aload_n 1, 1) := by decide +kernel
theorem dX0_copyFrom_10 : decode cX0_copyFrom 10 = .ok (.getfield 22, 3) := by decide +kernel
theorem dX0_copyFrom_13 : decode cX0_copyFrom 13 = .ok (.putfield 22, 3) := by decide +kernel
theorem dX0_copyFrom_16 : decode cX0_copyFrom 16 = .ok (.aload_n 0, 1) := by decide +kernel
theorem dX0_copyFrom_17 : decode cX0_copyFrom 17 = .ok (.aload_n 1, 1) := by decide +kernel
theorem dX0_copyFrom_18 : decode cX0_copyFrom 18 = .ok (.getfield 25, 3) := by decide +kernel
theorem dX0_copyFrom_21 : decode cX0_copyFrom 21 = .ok (.putfield 25, 3) := by decide +kernel
theorem dX0_copyFrom_24 : decode cX0_copyFrom 24 = .ok (.aload_n 0, 1) := by decide +kernel
theorem dX0_copyFrom_25 : decode cX0_copyFrom 25 = .ok (.aload_n 1, 1) := by decide +kernel
theorem dX0_copyFrom_26 : decode cX0_copyFrom 26 = .ok (.getfield 28, 3) := by decide +kernel
theorem dX0_copyFrom_29 : decode cX0_copyFrom 29 = .ok (.putfield 28, 3) := by decide +kernel
theorem dX0_copyFrom_32 : decode cX0_copyFrom 32 = .ok (.aload_n 0, 1) := by decide +kernel
theorem dX0_copyFrom_33 : decode cX0_copyFrom 33 = .ok (.aload_n 1, 1) := by decide +kernel
theorem dX0_copyFrom_34 : decode cX0_copyFrom 34 = .ok (.getfield 32, 3) := by decide +kernel
theorem dX0_copyFrom_37 : decode cX0_copyFrom 37 = .ok (.putfield 32, 3) := by decide +kernel
theorem dX0_copyFrom_40 : decode cX0_copyFrom 40 = .ok (.return_, 1) := by decide +kernel
theorem dX0_property_0 : decode cX0_property 0 = .ok (.iload_n 1, 1) := by decide +kernel
theorem dX0_property_1 : decode cX0_property 1 = .ok (.tableswitch 68 0 4 #[35, 40, 45, 50, 63], 35) := by decide +kernel
theorem dX0_property_36 : decode cX0_property 36 = .ok (.aload_n 0, 1) := by decide +kernel
theorem dX0_property_37 : decode cX0_property 37 = .ok (.getfield 19, 3) := by decide +kernel
theorem dX0_property_40 : decode cX0_property 40 = .ok (.ireturn, 1) := by decide +kernel
theorem dX0_property_41 : decode cX0_property 41 = .ok (.aload_n 0, 1) := by decide +kernel
theorem dX0_property_42 : decode cX0_property 42 = .ok (.getfield 22, 3) := by decide +kernel
theorem dX0_property_45 : decode cX0_property 45 = .ok (.ireturn, 1) := by decide +kernel
theorem dX0_property_46 : decode cX0_property 46 = .ok (.aload_n 0, 1) := by decide +kernel
theorem dX0_property_47 : decode cX0_property 47 = .ok (.getfield 25, 3) := by decide +kernel
theorem dX0_property_50 : decode cX0_property 50 = .ok (.ireturn, 1) := by decide +kernel
theorem dX0_property_51 : decode cX0_property 51 = .ok (.aload_n 0, 1) := by decide +kernel
theorem dX0_property_52 : decode cX0_property 52 = .ok (.getfield 28, 3) := by decide +kernel
theorem dX0_property_55 : decode cX0_property 55 = .ok (.ifCond .eq 7, 3) := by decide +kernel
theorem dX0_property_58 : decode cX0_property 58 = .ok (.iconst 1, 1) := by decide +kernel
theorem dX0_property_59 : decode cX0_property 59 = .ok (.goto 4, 3) := by decide +kernel
theorem dX0_property_62 : decode cX0_property 62 = .ok (.iconst 0, 1) := by decide +kernel
theorem dX0_property_63 : decode cX0_property 63 = .ok (.ireturn, 1) := by decide +kernel
theorem dX0_property_64 : decode cX0_property 64 = .ok (.aload_n 0, 1) := by decide +kernel
theorem dX0_property_65 : decode cX0_property 65 = .ok (.getfield 32, 3) := by decide +kernel
theorem dX0_property_68 : decode cX0_property 68 = .ok (.ireturn, 1) := by decide +kernel
theorem dX0_property_69 : decode cX0_property 69 = .ok (.bipush (-2), 2) := by decide +kernel
theorem dX0_property_71 : decode cX0_property 71 = .ok (.ireturn, 1) := by decide +kernel
theorem dX0_rearBox_0 : decode cX0_rearBox 0 = .ok (.aload_n 0, 1) := by decide +kernel
theorem dX0_rearBox_1 : decode cX0_rearBox 1 = .ok (.getfield 9, 3) := by decide +kernel
theorem dX0_rearBox_4 : decode cX0_rearBox 4 = .ok (.getfield 35, 3) := by decide +kernel
theorem dX0_rearBox_7 : decode cX0_rearBox 7 = .ok (.aload_n 0, 1) := by decide +kernel
theorem dX0_rearBox_8 : decode cX0_rearBox 8 = .ok (.getfield 15, 3) := by decide +kernel
theorem dX0_rearBox_11 : decode cX0_rearBox 11 = .ok (.iadd, 1) := by decide +kernel
theorem dX0_rearBox_12 : decode cX0_rearBox 12 = .ok (.ireturn, 1) := by decide +kernel
theorem dX0_boxAhead_0 : decode cX0_boxAhead 0 = .ok (.aload_n 0, 1) := by decide +kernel
theorem dX0_boxAhead_1 : decode cX0_boxAhead 1 = .ok (.getfield 9, 3) := by decide +kernel
theorem dX0_boxAhead_4 : decode cX0_boxAhead 4 = .ok (.getfield 35, 3) := by decide +kernel
theorem dX0_boxAhead_7 : decode cX0_boxAhead 7 = .ok (.iconst 1, 1) := by decide +kernel
theorem dX0_boxAhead_8 : decode cX0_boxAhead 8 = .ok (.iadd, 1) := by decide +kernel
theorem dX0_boxAhead_9 : decode cX0_boxAhead 9 = .ok (.aload_n 0, 1) := by decide +kernel
theorem dX0_boxAhead_10 : decode cX0_boxAhead 10 = .ok (.getfield 15, 3) := by decide +kernel
theorem dX0_boxAhead_13 : decode cX0_boxAhead 13 = .ok (.isub, 1) := by decide +kernel
theorem dX0_boxAhead_14 : decode cX0_boxAhead 14 = .ok (.ireturn, 1) := by decide +kernel
theorem dX0_rearEnd_0 : decode cX0_rearEnd 0 = .ok (.aload_n 0, 1) := by decide +kernel
theorem dX0_rearEnd_1 : decode cX0_rearEnd 1 = .ok (.getfield 15, 3) := by decide +kernel
theorem dX0_rearEnd_4 : decode cX0_rearEnd 4 = .ok (.ireturn, 1) := by decide +kernel
theorem dX0_endAhead_0 : decode cX0_endAhead 0 = .ok (.iconst 1, 1) := by decide +kernel
theorem dX0_endAhead_1 : decode cX0_endAhead 1 = .ok (.aload_n 0, 1) := by decide +kernel
theorem dX0_endAhead_2 : decode cX0_endAhead 2 = .ok (.getfield 15, 3) := by decide +kernel
theorem dX0_endAhead_5 : decode cX0_endAhead 5 = .ok (.isub, 1) := by decide +kernel
theorem dX0_endAhead_6 : decode cX0_endAhead 6 = .ok (.ireturn, 1) := by decide +kernel
theorem dX0_makeClear_0 : decode cX0_makeClear 0 = .ok (.aload_n 0, 1) := by decide +kernel
theorem dX0_makeClear_1 : decode cX0_makeClear 1 = .ok (.iconst 1, 1) := by decide +kernel
theorem dX0_makeClear_2 : decode cX0_makeClear 2 = .ok (.putfield 19, 3) := by decide +kernel
theorem dX0_makeClear_5 : decode cX0_makeClear 5 = .ok (.aload_n 0, 1) := by decide +kernel
theorem dX0_makeClear_6 : decode cX0_makeClear 6 = .ok (.aload_n 0, 1) := by decide +kernel
theorem dX0_makeClear_7 : decode cX0_makeClear 7 = .ok (.getfield 22, 3) := by decide +kernel
theorem dX0_makeClear_10 : decode cX0_makeClear 10 = .ok (.putfield 25, 3) := by decide +kernel
theorem dX0_makeClear_13 : decode cX0_makeClear 13 = .ok (.aload_n 0, 1) := by decide +kernel
theorem dX0_makeClear_14 : decode cX0_makeClear 14 = .ok (.bipush (-6), 2) := by decide +kernel
theorem dX0_makeClear_16 : decode cX0_makeClear 16 = .ok (.putfield 22, 3) := by decide +kernel
theorem dX0_makeClear_19 : decode cX0_makeClear 19 = .ok (.aload_n 0, 1) := by decide +kernel
theorem dX0_makeClear_20 : decode cX0_makeClear 20 = .ok (.getfield 9, 3) := by decide +kernel
theorem dX0_makeClear_23 : decode cX0_makeClear 23 = .ok (.aload_n 0, 1) := by decide +kernel
theorem dX0_makeClear_24 : decode cX0_makeClear 24 = .ok (.invokevirtual 40, 3) := by decide +kernel
theorem dX0_makeClear_27 : decode cX0_makeClear 27 = .ok (.invokevirtual 44, 3) := by decide +kernel
theorem dX0_makeClear_30 : decode cX0_makeClear 30 = .ok (.return_, 1) := by decide +kernel
theorem dX0_takeBack_0 : decode cX0_takeBack 0 = .ok (.aload_n 0, 1) := by decide +kernel
theorem dX0_takeBack_1 : decode cX0_takeBack 1 = .ok (.getfield 19, 3) := by decide +kernel
theorem dX0_takeBack_4 : decode cX0_takeBack 4 = .ok (.iconst 1, 1) := by decide +kernel
theorem dX0_takeBack_5 : decode cX0_takeBack 5 = .ok (.if_icmp .ne 14, 3) := by decide +kernel
theorem dX0_takeBack_8 : decode cX0_takeBack 8 = .ok (.aload_n 0, 1) := by decide +kernel
theorem dX0_takeBack_9 : decode cX0_takeBack 9 = .ok (.getfield 9, 3) := by decide +kernel
theorem dX0_takeBack_12 : decode cX0_takeBack 12 = .ok (.aload_n 0, 1) := by decide +kernel
theorem dX0_takeBack_13 : decode cX0_takeBack 13 = .ok (.invokevirtual 40, 3) := by decide +kernel
theorem dX0_takeBack_16 : decode cX0_takeBack 16 = .ok (.invokevirtual 48, 3) := by decide +kernel
theorem dX0_takeBack_19 : decode cX0_takeBack 19 = .ok (.aload_n 0, 1) := by decide +kernel
theorem dX0_takeBack_20 : decode cX0_takeBack 20 = .ok (.iload_n 1, 1) := by decide +kernel
theorem dX0_takeBack_21 : decode cX0_takeBack 21 = .ok (.putfield 19, 3) := by decide +kernel
theorem dX0_takeBack_24 : decode cX0_takeBack 24 = .ok (.aload_n 0, 1) := by decide +kernel
theorem dX0_takeBack_25 : decode cX0_takeBack 25 = .ok (.bipush (-6), 2) := by decide +kernel
theorem dX0_takeBack_27 : decode cX0_takeBack 27 = .ok (.putfield 22, 3) := by decide +kernel
theorem dX0_takeBack_30 : decode cX0_takeBack 30 = .ok (.aload_n 0, 1) := by decide +kernel
theorem dX0_takeBack_31 : decode cX0_takeBack 31 = .ok (.bipush (-6), 2) := by decide +kernel
theorem dX0_takeBack_33 : decode cX0_takeBack 33 = .ok (.putfield 25, 3) := by decide +kernel
theorem dX0_takeBack_36 : decode cX0_takeBack 36 = .ok (.return_, 1) := by decide +kernel
theorem dX0_makeFree_0 : decode cX0_makeFree 0 = .ok (.aload_n 0, 1) := by decide +kernel
theorem dX0_makeFree_1 : decode cX0_makeFree 1 = .ok (.iconst 0, 1) := by decide +kernel
theorem dX0_makeFree_2 : decode cX0_makeFree 2 = .ok (.putfield 19, 3) := by decide +kernel
theorem dX0_makeFree_5 : decode cX0_makeFree 5 = .ok (.aload_n 0, 1) := by decide +kernel
theorem dX0_makeFree_6 : decode cX0_makeFree 6 = .ok (.bipush (-6), 2) := by decide +kernel
theorem dX0_makeFree_8 : decode cX0_makeFree 8 = .ok (.putfield 25, 3) := by decide +kernel
theorem dX0_makeFree_11 : decode cX0_makeFree 11 = .ok (.aload_n 0, 1) := by decide +kernel
theorem dX0_makeFree_12 : decode cX0_makeFree 12 = .ok (.getfield 9, 3) := by decide +kernel
theorem dX0_makeFree_15 : decode cX0_makeFree 15 = .ok (.aload_n 0, 1) := by decide +kernel
theorem dX0_makeFree_16 : decode cX0_makeFree 16 = .ok (.invokevirtual 51, 3) := by decide +kernel
theorem dX0_makeFree_19 : decode cX0_makeFree 19 = .ok (.invokevirtual 48, 3) := by decide +kernel
theorem dX0_makeFree_22 : decode cX0_makeFree 22 = .ok (.return_, 1) := by decide +kernel
theorem dX0_letPass_0 : decode cX0_letPass 0 = .ok (.aload_n 0, 1) := by decide +kernel
theorem dX0_letPass_1 : decode cX0_letPass 1 = .ok (.getfield 32, 3) := by decide +kernel
theorem dX0_letPass_4 : decode cX0_letPass 4 = .ok (.ifCond .ne 4, 3) := by decide +kernel
theorem dX0_letPass_7 : decode cX0_letPass 7 = .ok (.return_, 1) := by decide +kernel
theorem dX0_letPass_8 : decode cX0_letPass 8 = .ok (.aload_n 0, 1) := by decide +kernel
theorem dX0_letPass_9 : decode cX0_letPass 9 = .ok (.iconst 0, 1) := by decide +kernel
theorem dX0_letPass_10 : decode cX0_letPass 10 = .ok (.aload_n 0, 1) := by decide +kernel
theorem dX0_letPass_11 : decode cX0_letPass 11 = .ok (.getfield 32, 3) := by decide +kernel
theorem dX0_letPass_14 : decode cX0_letPass 14 = .ok (.iload_n 1, 1) := by decide +kernel
theorem dX0_letPass_15 : decode cX0_letPass 15 = .ok (.isub, 1) := by decide +kernel
theorem dX0_letPass_16 : decode cX0_letPass 16 = .ok (.invokestatic 54, 3) := by decide +kernel
theorem dX0_letPass_19 : decode cX0_letPass 19 = .ok (.putfield 32, 3) := by decide +kernel
theorem dX0_letPass_22 : decode cX0_letPass 22 = .ok (.aload_n 0, 1) := by decide +kernel
theorem dX0_letPass_23 : decode cX0_letPass 23 = .ok (.getfield 32, 3) := by decide +kernel
theorem dX0_letPass_26 : decode cX0_letPass 26 = .ok (.ifCond .ne 8, 3) := by decide +kernel
theorem dX0_letPass_29 : decode cX0_letPass 29 = .ok (.aload_n 0, 1) := by decide +kernel
theorem dX0_letPass_30 : decode cX0_letPass 30 = .ok (.iconst 0, 1) := by decide +kernel
theorem dX0_letPass_31 : decode cX0_letPass 31 = .ok (.putfield 28, 3) := by decide +kernel
theorem dX0_letPass_34 : decode cX0_letPass 34 = .ok (.return_, 1) := by decide +kernel
theorem dX1_init_0 : decode cX1_init 0 = .ok (.aload_n 0, 1) := by decide +kernel
theorem dX1_init_1 : decode cX1_init 1 = .ok (.invokespecial 3, 3) := by decide +kernel
theorem dX1_init_4 : decode cX1_init 4 = .ok (.aload_n 0, 1) := by decide +kernel
theorem dX1_init_5 : decode cX1_init 5 = .ok (.iconst 5, 1) := by decide +kernel
theorem dX1_init_6 : decode cX1_init 6 = .ok (.anewarray 9, 3) := by decide +kernel
theorem dX1_init_9 : decode cX1_init 9 = .ok (.putfield 11, 3) := by decide +kernel
theorem dX1_init_12 : decode cX1_init 12 = .ok (.aload_n 0, 1) := by decide +kernel
theorem dX1_init_13 : decode cX1_init 13 = .ok (.bipush 10, 2) := by decide +kernel
theorem dX1_init_15 : decode cX1_init 15 = .ok (.anewarray 17, 3) := by decide +kernel
theorem dX1_init_18 : decode cX1_init 18 = .ok (.putfield 19, 3) := by decide +kernel
theorem dX1_init_21 : decode cX1_init 21 = .ok (.iconst 0, 1) := by decide +kernel
theorem dX1_init_22 : decode cX1_init 22 = .ok (.istore_n 1, 1) := by decide +kernel
theorem dX1_init_23 : decode cX1_init 23 = .ok (.iload_n 1, 1) := by decide +kernel
theorem dX1_init_24 : decode cX1_init 24 = .ok (.iconst 5, 1) := by decide +kernel
theorem dX1_init_25 : decode cX1_init 25 = .ok (.if_icmp .ge 69, 3) := by decide +kernel
theorem dX1_init_28 : decode cX1_init 28 = .ok (.aload_n 0, 1) := by decide +kernel
theorem dX1_init_29 : decode cX1_init 29 = .ok (.getfield 11, 3) := by decide +kernel
theorem dX1_init_32 : decode cX1_init 32 = .ok (.iload_n 1, 1) := by decide +kernel
theorem dX1_init_33 : decode cX1_init 33 = .ok (.new 9, 3) := by decide +kernel
theorem dX1_init_36 : decode cX1_init 36 = .ok (.dup, 1) := by decide +kernel
theorem dX1_init_37 : decode cX1_init 37 = .ok (.iload_n 1, 1) := by decide +kernel
theorem dX1_init_38 : decode cX1_init 38 = .ok (.invokespecial 23, 3) := by decide +kernel
theorem dX1_init_41 : decode cX1_init 41 = .ok (.aastore, 1) := by decide +kernel
theorem dX1_init_42 : decode cX1_init 42 = .ok (.aload_n 0, 1) := by decide +kernel
theorem dX1_init_43 : decode cX1_init 43 = .ok (.getfield 19, 3) := by decide +kernel
theorem dX1_init_46 : decode cX1_init 46 = .ok (.iconst 2, 1) := by decide +kernel
theorem dX1_init_47 : decode cX1_init 47 = .ok (.iload_n 1, 1) := by decide +kernel
theorem dX1_init_48 : decode cX1_init 48 = .ok (.imul, 1) := by decide +kernel
theorem dX1_init_49 : decode cX1_init 49 = .ok (.new 17, 3) := by decide +kernel
theorem dX1_init_52 : decode cX1_init 52 = .ok (.dup, 1) := by decide +kernel
theorem dX1_init_53 : decode cX1_init 53 = .ok (.aload_n 0, 1) := by decide +kernel
theorem dX1_init_54 : decode cX1_init 54 = .ok (.getfield 11, 3) := by decide +kernel
theorem dX1_init_57 : decode cX1_init 57 = .ok (.iload_n 1, 1) := by decide +kernel
theorem dX1_init_58 : decode cX1_init 58 = .ok (.aaload, 1) := by decide +kernel
theorem dX1_init_59 : decode cX1_init 59 = .ok (.iconst 0, 1) := by decide +kernel
theorem dX1_init_60 : decode cX1_init 60 = .ok (.invokespecial 26, 3) := by decide +kernel
theorem dX1_init_63 : decode cX1_init 63 = .ok (.aastore, 1) := by decide +kernel
theorem dX1_init_64 : decode cX1_init 64 = .ok (.aload_n 0, 1) := by decide +kernel
theorem dX1_init_65 : decode cX1_init 65 = .ok (.getfield 19, 3) := by decide +kernel
theorem dX1_init_68 : decode cX1_init 68 = .ok (.iconst 2, 1) := by decide +kernel
theorem dX1_init_69 : decode cX1_init 69 = .ok (.iload_n 1, 1) := by decide +kernel
theorem dX1_init_70 : decode cX1_init 70 = .ok (.imul, 1) := by decide +kernel
theorem dX1_init_71 : decode cX1_init 71 = .ok (.iconst 1, 1) := by decide +kernel
theorem dX1_init_72 : decode cX1_init 72 = .ok (.iadd, 1) := by decide +kernel
theorem dX1_init_73 : decode cX1_init 73 = .ok (.new 17, 3) := by decide +kernel
theorem dX1_init_76 : decode cX1_init 76 = .ok (.dup, 1) := by decide +kernel
theorem dX1_init_77 : decode cX1_init 77 = .ok (.aload_n 0, 1) := by decide +kernel
theorem dX1_init_78 : decode cX1_init 78 = .ok (.getfield 11, 3) := by decide +kernel
theorem dX1_init_81 : decode cX1_init 81 = .ok (.iload_n 1, 1) := by decide +kernel
theorem dX1_init_82 : decode cX1_init 82 = .ok (.aaload, 1) := by decide +kernel
theorem dX1_init_83 : decode cX1_init 83 = .ok (.iconst 1, 1) := by decide +kernel
theorem dX1_init_84 : decode cX1_init 84 = .ok (.invokespecial 26, 3) := by decide +kernel
theorem dX1_init_87 : decode cX1_init 87 = .ok (.aastore, 1) := by decide +kernel
theorem dX1_init_88 : decode cX1_init 88 = .ok (.iinc 1 1, 3) := by decide +kernel
theorem dX1_init_91 : decode cX1_init 91 = .ok (.goto (-68), 3) := by decide +kernel
theorem dX1_init_94 : decode cX1_init 94 = .ok (.aload_n 0, 1) := by decide +kernel
theorem dX1_init_95 : decode cX1_init 95 = .ok (.bipush 12, 2) := by decide +kernel
theorem dX1_init_97 : decode cX1_init 97 = .ok (.anewarray 29, 3) := by decide +kernel
theorem dX1_init_100 : decode cX1_init 100 = .ok (.putfield 31, 3) := by decide +kernel
theorem dX1_init_103 : decode cX1_init 103 = .ok (.iconst 0, 1) := by decide +kernel
theorem dX1_init_104 : decode cX1_init 104 = .ok (.istore_n 1, 1) := by decide +kernel
theorem dX1_init_105 : decode cX1_init 105 = .ok (.iload_n 1, 1) := by decide +kernel
theorem dX1_init_106 : decode cX1_init 106 = .ok (.bipush 12, 2) := by decide +kernel
theorem dX1_init_108 : decode cX1_init 108 = .ok (.if_icmp .ge 23, 3) := by decide +kernel
theorem dX1_init_111 : decode cX1_init 111 = .ok (.aload_n 0, 1) := by decide +kernel
theorem dX1_init_112 : decode cX1_init 112 = .ok (.getfield 31, 3) := by decide +kernel
theorem dX1_init_115 : decode cX1_init 115 = .ok (.iload_n 1, 1) := by decide +kernel
theorem dX1_init_116 : decode cX1_init 116 = .ok (.new 29, 3) := by decide +kernel
theorem dX1_init_119 : decode cX1_init 119 = .ok (.dup, 1) := by decide +kernel
theorem dX1_init_120 : decode cX1_init 120 = .ok (.iload_n 1, 1) := by decide +kernel
theorem dX1_init_121 : decode cX1_init 121 = .ok (.invokespecial 35, 3) := by decide +kernel
theorem dX1_init_124 : decode cX1_init 124 = .ok (.aastore, 1) := by decide +kernel
theorem dX1_init_125 : decode cX1_init 125 = .ok (.iinc 1 1, 3) := by decide +kernel
theorem dX1_init_128 : decode cX1_init 128 = .ok (.goto (-23), 3) := by decide +kernel
theorem dX1_init_131 : decode cX1_init 131 = .ok (.aload_n 0, 1) := by decide +kernel
theorem dX1_init_132 : decode cX1_init 132 = .ok (.bipush 12, 2) := by decide +kernel
theorem dX1_init_134 : decode cX1_init 134 = .ok (.newarray .int, 2) := by decide +kernel
theorem dX1_init_136 : decode cX1_init 136 = .ok (.putfield 36, 3) := by decide +kernel
theorem dX1_init_139 : decode cX1_init 139 = .ok (.aload_n 0, 1) := by decide +kernel
theorem dX1_init_140 : decode cX1_init 140 = .ok (.new 40, 3) := by decide +kernel
theorem dX1_init_143 : decode cX1_init 143 = .ok (.dup, 1) := by decide +kernel
theorem dX1_init_144 : decode cX1_init 144 = .ok (.invokespecial 42, 3) := by decide +kernel
theorem dX1_init_147 : decode cX1_init 147 = .ok (.putfield 43, 3) := by decide +kernel
theorem dX1_init_150 : decode cX1_init 150 = .ok (.aload_n 0, 1) := by decide +kernel
theorem dX1_init_151 : decode cX1_init 151 = .ok (.iconst 4, 1) := by decide +kernel
theorem dX1_init_152 : decode cX1_init 152 = .ok (.iconst 0, 1) := by decide +kernel
theorem dX1_init_153 : decode cX1_init 153 = .ok (.invokevirtual 47, 3) := by decide +kernel
theorem dX1_init_156 : decode cX1_init 156 = .ok (.return_, 1) := by decide +kernel
theorem dX1_layOut_0 : decode cX1_layOut 0 = .ok (.aload_n 0, 1) := by decide +kernel
theorem dX1_layOut_1 : decode cX1_layOut 1 = .ok (.iload_n 1, 1) := by decide +kernel
theorem dX1_layOut_2 : decode cX1_layOut 2 = .ok (.putfield 51, 3) := by decide +kernel
theorem dX1_layOut_5 : decode cX1_layOut 5 = .ok (.iconst 0, 1) := by decide +kernel
theorem dX1_layOut_6 : decode cX1_layOut 6 = .ok (.istore_n 3, 1) := by decide +kernel
theorem dX1_layOut_7 : decode cX1_layOut 7 = .ok (.iload_n 3, 1) := by decide +kernel
theorem dX1_layOut_8 : decode cX1_layOut 8 = .ok (.iconst 5, 1) := by decide +kernel
theorem dX1_layOut_9 : decode cX1_layOut 9 = .ok (.if_icmp .ge 32, 3) := by decide +kernel
theorem dX1_layOut_12 : decode cX1_layOut 12 = .ok (.aload_n 0, 1) := by decide +kernel
theorem dX1_layOut_13 : decode cX1_layOut 13 = .ok (.getfield 11, 3) := by decide +kernel
theorem dX1_layOut_16 : decode cX1_layOut 16 = .ok (.iload_n 3, 1) := by decide +kernel
theorem dX1_layOut_17 : decode cX1_layOut 17 = .ok (.aaload, 1) := by decide +kernel
theorem dX1_layOut_18 : decode cX1_layOut 18 = .ok (.iload_n 2, 1) := by decide +kernel
theorem dX1_layOut_19 : decode cX1_layOut 19 = .ok (.iload_n 3, 1) := by decide +kernel
theorem dX1_layOut_20 : decode cX1_layOut 20 = .ok (.ishr, 1) := by decide +kernel
theorem dX1_layOut_21 : decode cX1_layOut 21 = .ok (.iconst 1, 1) := by decide +kernel
theorem dX1_layOut_22 : decode cX1_layOut 22 = .ok (.iand, 1) := by decide +kernel
theorem dX1_layOut_23 : decode cX1_layOut 23 = .ok (.iconst 1, 1) := by decide +kernel
theorem dX1_layOut_24 : decode cX1_layOut 24 = .ok (.if_icmp .ne 7, 3) := by decide +kernel
theorem dX1_layOut_27 : decode cX1_layOut 27 = .ok (.iconst 1, 1) := by decide +kernel
theorem dX1_layOut_28 : decode cX1_layOut 28 = .ok (.goto 4, 3) := by decide +kernel
theorem dX1_layOut_31 : decode cX1_layOut 31 = .ok (.iconst 0, 1) := by decide +kernel
theorem dX1_layOut_32 : decode cX1_layOut 32 = .ok (.invokevirtual 55, 3) := by decide +kernel
theorem dX1_layOut_35 : decode cX1_layOut 35 = .ok (.iinc 3 1, 3) := by decide +kernel
theorem dX1_layOut_38 : decode cX1_layOut 38 = .ok (.goto (-31), 3) := by decide +kernel
theorem dX1_layOut_41 : decode cX1_layOut 41 = .ok (.iconst 0, 1) := by decide +kernel
theorem dX1_layOut_42 : decode cX1_layOut 42 = .ok (.istore_n 3, 1) := by decide +kernel
theorem dX1_layOut_43 : decode cX1_layOut 43 = .ok (.iload_n 3, 1) := by decide +kernel
theorem dX1_layOut_44 : decode cX1_layOut 44 = .ok (.bipush 12, 2) := by decide +kernel
theorem dX1_layOut_46 : decode cX1_layOut 46 = .ok (.if_icmp .ge 16, 3) := by decide +kernel
theorem dX1_layOut_49 : decode cX1_layOut 49 = .ok (.aload_n 0, 1) := by decide +kernel
theorem dX1_layOut_50 : decode cX1_layOut 50 = .ok (.getfield 36, 3) := by decide +kernel
theorem dX1_layOut_53 : decode cX1_layOut 53 = .ok (.iload_n 3, 1) := by decide +kernel
theorem dX1_layOut_54 : decode cX1_layOut 54 = .ok (.iconst 1, 1) := by decide +kernel
theorem dX1_layOut_55 : decode cX1_layOut 55 = .ok (.iastore, 1) := by decide +kernel
theorem dX1_layOut_56 : decode cX1_layOut 56 = .ok (.iinc 3 1, 3) := by decide +kernel
theorem dX1_layOut_59 : decode cX1_layOut 59 = .ok (.goto (-16), 3) := by decide +kernel
theorem dX1_layOut_62 : decode cX1_layOut 62 = .ok (.aload_n 0, 1) := by decide +kernel
theorem dX1_layOut_63 : decode cX1_layOut 63 = .ok (.invokevirtual 58, 3) := by decide +kernel
theorem dX1_layOut_66 : decode cX1_layOut 66 = .ok (.aload_n 0, 1) := by decide +kernel
theorem dX1_layOut_67 : decode cX1_layOut 67 = .ok (.iconst 0, 1) := by decide +kernel
theorem dX1_layOut_68 : decode cX1_layOut 68 = .ok (.putfield 61, 3) := by decide +kernel
theorem dX1_layOut_71 : decode cX1_layOut 71 = .ok (.aload_n 0, 1) := by decide +kernel
theorem dX1_layOut_72 : decode cX1_layOut 72 = .ok (.getfield 43, 3) := by decide +kernel
theorem dX1_layOut_75 : decode cX1_layOut 75 = .ok (.iconst 0, 1) := by decide +kernel
theorem dX1_layOut_76 : decode cX1_layOut 76 = .ok (.putfield 64, 3) := by decide +kernel
theorem dX1_layOut_79 : decode cX1_layOut 79 = .ok (.return_, 1) := by decide +kernel
theorem dX1_clearTraffic_0 : decode cX1_clearTraffic 0 = .ok (.aload_n 0, 1) := by decide +kernel
theorem dX1_clearTraffic_1 : decode cX1_clearTraffic 1 = .ok (.iconst 0, 1) := by decide +kernel
theorem dX1_clearTraffic_2 : decode cX1_clearTraffic 2 = .ok (.putfield 67, 3) := by decide +kernel
theorem dX1_clearTraffic_5 : decode cX1_clearTraffic 5 = .ok (.iconst 0, 1) := by decide +kernel
theorem dX1_clearTraffic_6 : decode cX1_clearTraffic 6 = .ok (.istore_n 1, 1) := by decide +kernel
theorem dX1_clearTraffic_7 : decode cX1_clearTraffic 7 = .ok (.iload_n 1, 1) := by decide +kernel
theorem dX1_clearTraffic_8 : decode cX1_clearTraffic 8 = .ok (.iconst 5, 1) := by decide +kernel
theorem dX1_clearTraffic_9 : decode cX1_clearTraffic 9 = .ok (.if_icmp .ge 19, 3) := by decide +kernel
theorem dX1_clearTraffic_12 : decode cX1_clearTraffic 12 = .ok (.aload_n 0, 1) := by decide +kernel
theorem dX1_clearTraffic_13 : decode cX1_clearTraffic 13 = .ok (.getfield 11, 3) := by decide +kernel
theorem dX1_clearTraffic_16 : decode cX1_clearTraffic 16 = .ok (.iload_n 1, 1) := by decide +kernel
theorem dX1_clearTraffic_17 : decode cX1_clearTraffic 17 = .ok (.aaload, 1) := by decide +kernel
theorem dX1_clearTraffic_18 : decode cX1_clearTraffic 18 = .ok (.iconst 0, 1) := by decide +kernel
theorem dX1_clearTraffic_19 : decode cX1_clearTraffic 19 = .ok (.putfield 70, 3) := by decide +kernel
theorem dX1_clearTraffic_22 : decode cX1_clearTraffic 22 = .ok (.iinc 1 1, 3) := by decide +kernel
theorem dX1_clearTraffic_25 : decode cX1_clearTraffic 25 = .ok (.goto (-18), 3) := by decide +kernel
theorem dX1_clearTraffic_28 : decode cX1_clearTraffic 28 = .ok (.iconst 0, 1) := by decide +kernel
theorem dX1_clearTraffic_29 : decode cX1_clearTraffic 29 = .ok (.istore_n 1, 1) := by decide +kernel
theorem dX1_clearTraffic_30 : decode cX1_clearTraffic 30 = .ok (.iload_n 1, 1) := by decide +kernel
theorem dX1_clearTraffic_31 : decode cX1_clearTraffic 31 = .ok (.bipush 10, 2) := by decide +kernel
theorem dX1_clearTraffic_33 : decode cX1_clearTraffic 33 = .ok (.if_icmp .ge 18, 3) := by decide +kernel
theorem dX1_clearTraffic_36 : decode cX1_clearTraffic 36 = .ok (.aload_n 0, 1) := by decide +kernel
theorem dX1_clearTraffic_37 : decode cX1_clearTraffic 37 = .ok (.getfield 19, 3) := by decide +kernel
theorem dX1_clearTraffic_40 : decode cX1_clearTraffic 40 = .ok (.iload_n 1, 1) := by decide +kernel
theorem dX1_clearTraffic_41 : decode cX1_clearTraffic 41 = .ok (.aaload, 1) := by decide +kernel
theorem dX1_clearTraffic_42 : decode cX1_clearTraffic 42 = .ok (.invokevirtual 74, 3) := by decide +kernel
theorem dX1_clearTraffic_45 : decode cX1_clearTraffic 45 = .ok (.iinc 1 1, 3) := by decide +kernel
theorem dX1_clearTraffic_48 : decode cX1_clearTraffic 48 = .ok (.goto (-18), 3) := by decide +kernel
theorem dX1_clearTraffic_51 : decode cX1_clearTraffic 51 = .ok (.return_, 1) := by decide +kernel
theorem dX1_copyFrom_0 : decode cX1_copyFrom 0 = .ok (.aload_n 0, 1) := by decide +kernel
theorem dX1_copyFrom_1 : decode cX1_copyFrom 1 = .ok (.aload_n 1, 1) := by decide +kernel
theorem dX1_copyFrom_2 : decode cX1_copyFrom 2 = .ok (.getfield 51, 3) := by decide +kernel
theorem dX1_copyFrom_5 : decode cX1_copyFrom 5 = .ok (.putfield 51, 3) := by decide +kernel
theorem dX1_copyFrom_8 : decode cX1_copyFrom 8 = .ok (.aload_n 0, 1) := by decide +kernel
theorem dX1_copyFrom_9 : decode cX1_copyFrom 9 = .ok (.aload_n 1, 1) := by decide +kernel
theorem dX1_copyFrom_10 : decode cX1_copyFrom 10 = .ok (.getfield 67, 3) := by decide +kernel
theorem dX1_copyFrom_13 : decode cX1_copyFrom 13 = .ok (.putfield 67, 3) := by decide +kernel
theorem dX1_copyFrom_16 : decode cX1_copyFrom 16 = .ok (.aload_n 0, 1) := by decide +kernel
theorem dX1_copyFrom_17 : decode cX1_copyFrom 17 = .ok (.aload_n 1, 1) := by decide +kernel
theorem dX1_copyFrom_18 : decode cX1_copyFrom 18 = .ok (.getfield 61, 3) := by decide +kernel
theorem dX1_copyFrom_21 : decode cX1_copyFrom 21 = .ok (.putfield 61, 3) := by decide +kernel
theorem dX1_copyFrom_24 : decode cX1_copyFrom 24 = .ok (.iconst 0, 1) := by decide +kernel
theorem dX1_copyFrom_25 : decode cX1_copyFrom 25 = .ok (.istore_n 2, 1) := by decide +kernel
theorem dX1_copyFrom_26 : decode cX1_copyFrom 26 = .ok (.iload_n 2, 1) := by decide +kernel
theorem dX1_copyFrom_27 : decode cX1_copyFrom 27 = .ok (.iconst 5, 1) := by decide +kernel
theorem dX1_copyFrom_28 : decode cX1_copyFrom 28 = .ok (.if_icmp .ge 24, 3) := by decide +kernel
theorem dX1_copyFrom_31 : decode cX1_copyFrom 31 = .ok (.aload_n 0, 1) := by decide +kernel
theorem dX1_copyFrom_32 : decode cX1_copyFrom 32 = .ok (.getfield 11, 3) := by decide +kernel
theorem dX1_copyFrom_35 : decode cX1_copyFrom 35 = .ok (.iload_n 2, 1) := by decide +kernel
theorem dX1_copyFrom_36 : decode cX1_copyFrom 36 = .ok (.aaload, 1) := by decide +kernel
theorem dX1_copyFrom_37 : decode cX1_copyFrom 37 = .ok (.aload_n 1, 1) := by decide +kernel
theorem dX1_copyFrom_38 : decode cX1_copyFrom 38 = .ok (.getfield 11, 3) := by decide +kernel
theorem dX1_copyFrom_41 : decode cX1_copyFrom 41 = .ok (.iload_n 2, 1) := by decide +kernel
theorem dX1_copyFrom_42 : decode cX1_copyFrom 42 = .ok (.aaload, 1) := by decide +kernel
theorem dX1_copyFrom_43 : decode cX1_copyFrom 43 = .ok (.invokevirtual 77, 3) := by decide +kernel
theorem dX1_copyFrom_46 : decode cX1_copyFrom 46 = .ok (.iinc 2 1, 3) := by decide +kernel
theorem dX1_copyFrom_49 : decode cX1_copyFrom 49 = .ok (.goto (-23), 3) := by decide +kernel
theorem dX1_copyFrom_52 : decode cX1_copyFrom 52 = .ok (.iconst 0, 1) := by decide +kernel
theorem dX1_copyFrom_53 : decode cX1_copyFrom 53 = .ok (.istore_n 2, 1) := by decide +kernel
theorem dX1_copyFrom_54 : decode cX1_copyFrom 54 = .ok (.iload_n 2, 1) := by decide +kernel
theorem dX1_copyFrom_55 : decode cX1_copyFrom 55 = .ok (.bipush 10, 2) := by decide +kernel
theorem dX1_copyFrom_57 : decode cX1_copyFrom 57 = .ok (.if_icmp .ge 24, 3) := by decide +kernel
theorem dX1_copyFrom_60 : decode cX1_copyFrom 60 = .ok (.aload_n 0, 1) := by decide +kernel
theorem dX1_copyFrom_61 : decode cX1_copyFrom 61 = .ok (.getfield 19, 3) := by decide +kernel
theorem dX1_copyFrom_64 : decode cX1_copyFrom 64 = .ok (.iload_n 2, 1) := by decide +kernel
theorem dX1_copyFrom_65 : decode cX1_copyFrom 65 = .ok (.aaload, 1) := by decide +kernel
theorem dX1_copyFrom_66 : decode cX1_copyFrom 66 = .ok (.aload_n 1, 1) := by decide +kernel
theorem dX1_copyFrom_67 : decode cX1_copyFrom 67 = .ok (.getfield 19, 3) := by decide +kernel
theorem dX1_copyFrom_70 : decode cX1_copyFrom 70 = .ok (.iload_n 2, 1) := by decide +kernel
theorem dX1_copyFrom_71 : decode cX1_copyFrom 71 = .ok (.aaload, 1) := by decide +kernel
theorem dX1_copyFrom_72 : decode cX1_copyFrom 72 = .ok (.invokevirtual 81, 3) := by decide +kernel
theorem dX1_copyFrom_75 : decode cX1_copyFrom 75 = .ok (.iinc 2 1, 3) := by decide +kernel
theorem dX1_copyFrom_78 : decode cX1_copyFrom 78 = .ok (.goto (-24), 3) := by decide +kernel
theorem dX1_copyFrom_81 : decode cX1_copyFrom 81 = .ok (.iconst 0, 1) := by decide +kernel
theorem dX1_copyFrom_82 : decode cX1_copyFrom 82 = .ok (.istore_n 2, 1) := by decide +kernel
theorem dX1_copyFrom_83 : decode cX1_copyFrom 83 = .ok (.iload_n 2, 1) := by decide +kernel
theorem dX1_copyFrom_84 : decode cX1_copyFrom 84 = .ok (.bipush 12, 2) := by decide +kernel
theorem dX1_copyFrom_86 : decode cX1_copyFrom 86 = .ok (.if_icmp .ge 24, 3) := by decide +kernel
theorem dX1_copyFrom_89 : decode cX1_copyFrom 89 = .ok (.aload_n 0, 1) := by decide +kernel
theorem dX1_copyFrom_90 : decode cX1_copyFrom 90 = .ok (.getfield 31, 3) := by decide +kernel
theorem dX1_copyFrom_93 : decode cX1_copyFrom 93 = .ok (.iload_n 2, 1) := by decide +kernel
theorem dX1_copyFrom_94 : decode cX1_copyFrom 94 = .ok (.aaload, 1) := by decide +kernel
theorem dX1_copyFrom_95 : decode cX1_copyFrom 95 = .ok (.aload_n 1, 1) := by decide +kernel
theorem dX1_copyFrom_96 : decode cX1_copyFrom 96 = .ok (.getfield 31, 3) := by decide +kernel
theorem dX1_copyFrom_99 : decode cX1_copyFrom 99 = .ok (.iload_n 2, 1) := by decide +kernel
theorem dX1_copyFrom_100 : decode cX1_copyFrom 100 = .ok (.aaload, 1) := by decide +kernel
theorem dX1_copyFrom_101 : decode cX1_copyFrom 101 = .ok (.invokevirtual 84, 3) := by decide +kernel
theorem dX1_copyFrom_104 : decode cX1_copyFrom 104 = .ok (.iinc 2 1, 3) := by decide +kernel
theorem dX1_copyFrom_107 : decode cX1_copyFrom 107 = .ok (.goto (-24), 3) := by decide +kernel
theorem dX1_copyFrom_110 : decode cX1_copyFrom 110 = .ok (.aload_n 1, 1) := by decide +kernel
theorem dX1_copyFrom_111 : decode cX1_copyFrom 111 = .ok (.getfield 36, 3) := by decide +kernel
theorem dX1_copyFrom_114 : decode cX1_copyFrom 114 = .ok (.iconst 0, 1) := by decide +kernel
theorem dX1_copyFrom_115 : decode cX1_copyFrom 115 = .ok (.aload_n 0, 1) := by decide +kernel
theorem dX1_copyFrom_116 : decode cX1_copyFrom 116 = .ok (.getfield 36, 3) := by decide +kernel
theorem dX1_copyFrom_119 : decode cX1_copyFrom 119 = .ok (.iconst 0, 1) := by decide +kernel
theorem dX1_copyFrom_120 : decode cX1_copyFrom 120 = .ok (.bipush 12, 2) := by decide +kernel
theorem dX1_copyFrom_122 : decode cX1_copyFrom 122 = .ok (.invokestatic 87, 3) := by decide +kernel
theorem dX1_copyFrom_125 : decode cX1_copyFrom 125 = .ok (.aload_n 0, 1) := by decide +kernel
theorem dX1_copyFrom_126 : decode cX1_copyFrom 126 = .ok (.getfield 43, 3) := by decide +kernel
theorem dX1_copyFrom_129 : decode cX1_copyFrom 129 = .ok (.aload_n 1, 1) := by decide +kernel
theorem dX1_copyFrom_130 : decode cX1_copyFrom 130 = .ok (.getfield 43, 3) := by decide +kernel
theorem dX1_copyFrom_133 : decode cX1_copyFrom 133 = .ok (.invokevirtual 93, 3) := by decide +kernel
theorem dX1_copyFrom_136 : decode cX1_copyFrom 136 = .ok (.return_, 1) := by decide +kernel
theorem dX1_hasBox_0 : decode cX1_hasBox 0 = .ok (.iload_n 1, 1) := by decide +kernel
theorem dX1_hasBox_1 : decode cX1_hasBox 1 = .ok (.ifCond .lt 15, 3) := by decide +kernel
theorem dX1_hasBox_4 : decode cX1_hasBox 4 = .ok (.iload_n 1, 1) := by decide +kernel
theorem dX1_hasBox_5 : decode cX1_hasBox 5 = .ok (.aload_n 0, 1) := by decide +kernel
theorem dX1_hasBox_6 : decode cX1_hasBox 6 = .ok (.getfield 51, 3) := by decide +kernel
theorem dX1_hasBox_9 : decode cX1_hasBox 9 = .ok (.if_icmp .ge 7, 3) := by decide +kernel
theorem dX1_hasBox_12 : decode cX1_hasBox 12 = .ok (.iconst 1, 1) := by decide +kernel
theorem dX1_hasBox_13 : decode cX1_hasBox 13 = .ok (.goto 4, 3) := by decide +kernel
theorem dX1_hasBox_16 : decode cX1_hasBox 16 = .ok (.iconst 0, 1) := by decide +kernel
theorem dX1_hasBox_17 : decode cX1_hasBox 17 = .ok (.ireturn, 1) := by decide +kernel
theorem dX1_sectionAt_0 : decode cX1_sectionAt 0 = .ok (.iload_n 1, 1) := by decide +kernel
theorem dX1_sectionAt_1 : decode cX1_sectionAt 1 = .ok (.ifCond .lt 22, 3) := by decide +kernel
theorem dX1_sectionAt_4 : decode cX1_sectionAt 4 = .ok (.iload_n 1, 1) := by decide +kernel
theorem dX1_sectionAt_5 : decode cX1_sectionAt 5 = .ok (.aload_n 0, 1) := by decide +kernel
theorem dX1_sectionAt_6 : decode cX1_sectionAt 6 = .ok (.getfield 51, 3) := by decide +kernel
theorem dX1_sectionAt_9 : decode cX1_sectionAt 9 = .ok (.iconst 1, 1) := by decide +kernel
theorem dX1_sectionAt_10 : decode cX1_sectionAt 10 = .ok (.isub, 1) := by decide +kernel
theorem dX1_sectionAt_11 : decode cX1_sectionAt 11 = .ok (.if_icmp .ge 12, 3) := by decide +kernel
theorem dX1_sectionAt_14 : decode cX1_sectionAt 14 = .ok (.aload_n 0, 1) := by decide +kernel
theorem dX1_sectionAt_15 : decode cX1_sectionAt 15 = .ok (.getfield 11, 3) := by decide +kernel
theorem dX1_sectionAt_18 : decode cX1_sectionAt 18 = .ok (.iload_n 1, 1) := by decide +kernel
theorem dX1_sectionAt_19 : decode cX1_sectionAt 19 = .ok (.aaload, 1) := by decide +kernel
theorem dX1_sectionAt_20 : decode cX1_sectionAt 20 = .ok (.goto 4, 3) := by decide +kernel
theorem dX1_sectionAt_23 : decode cX1_sectionAt 23 = .ok (.aconst_null, 1) := by decide +kernel
theorem dX1_sectionAt_24 : decode cX1_sectionAt 24 = .ok (.areturn, 1) := by decide +kernel
theorem dX1_blockAt_0 : decode cX1_blockAt 0 = .ok (.iload_n 1, 1) := by decide +kernel
theorem dX1_blockAt_1 : decode cX1_blockAt 1 = .ok (.ifCond .lt 22, 3) := by decide +kernel
theorem dX1_blockAt_4 : decode cX1_blockAt 4 = .ok (.iload_n 1, 1) := by decide +kernel
theorem dX1_blockAt_5 : decode cX1_blockAt 5 = .ok (.aload_n 0, 1) := by decide +kernel
theorem dX1_blockAt_6 : decode cX1_blockAt 6 = .ok (.getfield 51, 3) := by decide +kernel
theorem dX1_blockAt_9 : decode cX1_blockAt 9 = .ok (.iconst 1, 1) := by decide +kernel
theorem dX1_blockAt_10 : decode cX1_blockAt 10 = .ok (.isub, 1) := by decide +kernel
theorem dX1_blockAt_11 : decode cX1_blockAt 11 = .ok (.if_icmp .ge 12, 3) := by decide +kernel
theorem dX1_blockAt_14 : decode cX1_blockAt 14 = .ok (.iload_n 2, 1) := by decide +kernel
theorem dX1_blockAt_15 : decode cX1_blockAt 15 = .ok (.ifCond .lt 8, 3) := by decide +kernel
theorem dX1_blockAt_18 : decode cX1_blockAt 18 = .ok (.iload_n 2, 1) := by decide +kernel
theorem dX1_blockAt_19 : decode cX1_blockAt 19 = .ok (.iconst 1, 1) := by decide +kernel
theorem dX1_blockAt_20 : decode cX1_blockAt 20 = .ok (.if_icmp .le 5, 3) := by decide +kernel
theorem dX1_blockAt_23 : decode cX1_blockAt 23 = .ok (.aconst_null, 1) := by decide +kernel
theorem dX1_blockAt_24 : decode cX1_blockAt 24 = .ok (.areturn, 1) := by decide +kernel
theorem dX1_blockAt_25 : decode cX1_blockAt 25 = .ok (.aload_n 0, 1) := by decide +kernel
theorem dX1_blockAt_26 : decode cX1_blockAt 26 = .ok (.getfield 19, 3) := by decide +kernel
theorem dX1_blockAt_29 : decode cX1_blockAt 29 = .ok (.iconst 2, 1) := by decide +kernel
theorem dX1_blockAt_30 : decode cX1_blockAt 30 = .ok (.iload_n 1, 1) := by decide +kernel
theorem dX1_blockAt_31 : decode cX1_blockAt 31 = .ok (.imul, 1) := by decide +kernel
theorem dX1_blockAt_32 : decode cX1_blockAt 32 = .ok (.iload_n 2, 1) := by decide +kernel
theorem dX1_blockAt_33 : decode cX1_blockAt 33 = .ok (.iadd, 1) := by decide +kernel
theorem dX1_blockAt_34 : decode cX1_blockAt 34 = .ok (.aaload, 1) := by decide +kernel
theorem dX1_blockAt_35 : decode cX1_blockAt 35 = .ok (.areturn, 1) := by decide +kernel
theorem dX1_trainAt_0 : decode cX1_trainAt 0 = .ok (.iload_n 1, 1) := by decide +kernel
theorem dX1_trainAt_1 : decode cX1_trainAt 1 = .ok (.ifCond .lt 20, 3) := by decide +kernel
theorem dX1_trainAt_4 : decode cX1_trainAt 4 = .ok (.iload_n 1, 1) := by decide +kernel
theorem dX1_trainAt_5 : decode cX1_trainAt 5 = .ok (.aload_n 0, 1) := by decide +kernel
theorem dX1_trainAt_6 : decode cX1_trainAt 6 = .ok (.getfield 67, 3) := by decide +kernel
theorem dX1_trainAt_9 : decode cX1_trainAt 9 = .ok (.if_icmp .ge 12, 3) := by decide +kernel
theorem dX1_trainAt_12 : decode cX1_trainAt 12 = .ok (.aload_n 0, 1) := by decide +kernel
theorem dX1_trainAt_13 : decode cX1_trainAt 13 = .ok (.getfield 31, 3) := by decide +kernel
theorem dX1_trainAt_16 : decode cX1_trainAt 16 = .ok (.iload_n 1, 1) := by decide +kernel
theorem dX1_trainAt_17 : decode cX1_trainAt 17 = .ok (.aaload, 1) := by decide +kernel
theorem dX1_trainAt_18 : decode cX1_trainAt 18 = .ok (.goto 4, 3) := by decide +kernel
theorem dX1_trainAt_21 : decode cX1_trainAt 21 = .ok (.aconst_null, 1) := by decide +kernel
theorem dX1_trainAt_22 : decode cX1_trainAt 22 = .ok (.areturn, 1) := by decide +kernel
theorem dX1_isGone_0 : decode cX1_isGone 0 = .ok (.aload_n 0, 1) := by decide +kernel
theorem dX1_isGone_1 : decode cX1_isGone 1 = .ok (.iload_n 1, 1) := by decide +kernel
theorem dX1_isGone_2 : decode cX1_isGone 2 = .ok (.invokevirtual 96, 3) := by decide +kernel
theorem dX1_isGone_5 : decode cX1_isGone 5 = .ok (.astore_n 2, 1) := by decide +kernel
theorem dX1_isGone_6 : decode cX1_isGone 6 = .ok (.aload_n 2, 1) := by decide +kernel
theorem dX1_isGone_7 : decode cX1_isGone 7 = .ok (.ifnull 15, 3) := by decide +kernel
theorem dX1_isGone_10 : decode cX1_isGone 10 = .ok (.aload_n 2, 1) := by decide +kernel
theorem dX1_isGone_11 : decode cX1_isGone 11 = .ok (.getfield 100, 3) := by decide +kernel
theorem dX1_isGone_14 : decode cX1_isGone 14 = .ok (.iconst 3, 1) := by decide +kernel
theorem dX1_isGone_15 : decode cX1_isGone 15 = .ok (.if_icmp .ne 7, 3) := by decide +kernel
theorem dX1_isGone_18 : decode cX1_isGone 18 = .ok (.iconst 1, 1) := by decide +kernel
theorem dX1_isGone_19 : decode cX1_isGone 19 = .ok (.goto 4, 3) := by decide +kernel
theorem dX1_isGone_22 : decode cX1_isGone 22 = .ok (.iconst 0, 1) := by decide +kernel
theorem dX1_isGone_23 : decode cX1_isGone 23 = .ok (.ireturn, 1) := by decide +kernel
theorem dX1_blockCount_0 : decode cX1_blockCount 0 = .ok (.iconst 2, 1) := by decide +kernel
theorem dX1_blockCount_1 : decode cX1_blockCount 1 = .ok (.aload_n 0, 1) := by decide +kernel
theorem dX1_blockCount_2 : decode cX1_blockCount 2 = .ok (.getfield 51, 3) := by decide +kernel
theorem dX1_blockCount_5 : decode cX1_blockCount 5 = .ok (.iconst 1, 1) := by decide +kernel
theorem dX1_blockCount_6 : decode cX1_blockCount 6 = .ok (.isub, 1) := by decide +kernel
theorem dX1_blockCount_7 : decode cX1_blockCount 7 = .ok (.imul, 1) := by decide +kernel
theorem dX1_blockCount_8 : decode cX1_blockCount 8 = .ok (.ireturn, 1) := by decide +kernel
theorem dX1_firstBox_0 : decode cX1_firstBox 0 = .ok (.iload_n 1, 1) := by decide +kernel
theorem dX1_firstBox_1 : decode cX1_firstBox 1 = .ok (.ifCond .ne 7, 3) := by decide +kernel
theorem dX1_firstBox_4 : decode cX1_firstBox 4 = .ok (.iconst 0, 1) := by decide +kernel
theorem dX1_firstBox_5 : decode cX1_firstBox 5 = .ok (.goto 9, 3) := by decide +kernel
theorem dX1_firstBox_8 : decode cX1_firstBox 8 = .ok (.aload_n 0, 1) := by decide +kernel
theorem dX1_firstBox_9 : decode cX1_firstBox 9 = .ok (.getfield 51, 3) := by decide +kernel
theorem dX1_firstBox_12 : decode cX1_firstBox 12 = .ok (.iconst 1, 1) := by decide +kernel
theorem dX1_firstBox_13 : decode cX1_firstBox 13 = .ok (.isub, 1) := by decide +kernel
theorem dX1_firstBox_14 : decode cX1_firstBox 14 = .ok (.ireturn, 1) := by decide +kernel
theorem dX1_lastBox_0 : decode cX1_lastBox 0 = .ok (.aload_n 0, 1) := by decide +kernel
theorem dX1_lastBox_1 : decode cX1_lastBox 1 = .ok (.iconst 1, 1) := by decide +kernel
theorem dX1_lastBox_2 : decode cX1_lastBox 2 = .ok (.iload_n 1, 1) := by decide +kernel
theorem dX1_lastBox_3 : decode cX1_lastBox 3 = .ok (.isub, 1) := by decide +kernel
theorem dX1_lastBox_4 : decode cX1_lastBox 4 = .ok (.invokevirtual 103, 3) := by decide +kernel
theorem dX1_lastBox_7 : decode cX1_lastBox 7 = .ok (.ireturn, 1) := by decide +kernel
theorem dX1_isLineFree_0 : decode cX1_isLineFree 0 = .ok (.aload_n 0, 1) := by decide +kernel
theorem dX1_isLineFree_1 : decode cX1_isLineFree 1 = .ok (.iconst 0, 1) := by decide +kernel
theorem dX1_isLineFree_2 : decode cX1_isLineFree 2 = .ok (.iload_n 1, 1) := by decide +kernel
theorem dX1_isLineFree_3 : decode cX1_isLineFree 3 = .ok (.iload_n 2, 1) := by decide +kernel
theorem dX1_isLineFree_4 : decode cX1_isLineFree 4 = .ok (.invokevirtual 107, 3) := by decide +kernel
theorem dX1_isLineFree_7 : decode cX1_isLineFree 7 = .ok (.ifCond .ne 7, 3) := by decide +kernel
theorem dX1_isLineFree_10 : decode cX1_isLineFree 10 = .ok (.iconst 1, 1) := by decide +kernel
theorem dX1_isLineFree_11 : decode cX1_isLineFree 11 = .ok (.goto 4, 3) := by decide +kernel
theorem dX1_isLineFree_14 : decode cX1_isLineFree 14 = .ok (.iconst 0, 1) := by decide +kernel
theorem dX1_isLineFree_15 : decode cX1_isLineFree 15 = .ok (.ireturn, 1) := by decide +kernel
theorem dX1_trainsStanding_0 : decode cX1_trainsStanding 0 = .ok (.iconst 0, 1) := by decide +kernel
theorem dX1_trainsStanding_1 : decode cX1_trainsStanding 1 = .ok (.istore 4, 2) := by decide +kernel
theorem dX1_trainsStanding_3 : decode cX1_trainsStanding 3 = .ok (.iconst 0, 1) := by decide +kernel
theorem dX1_trainsStanding_4 : decode cX1_trainsStanding 4 = .ok (.istore 5, 2) := by decide +kernel
theorem dX1_trainsStanding_6 : decode cX1_trainsStanding 6 = .ok (.iload 5, 2) := by decide +kernel
theorem dX1_trainsStanding_8 : decode cX1_trainsStanding 8 = .ok (.aload_n 0, 1) := by decide +kernel
theorem dX1_trainsStanding_9 : decode cX1_trainsStanding 9 = .ok (.getfield 67, 3) := by decide +kernel
theorem dX1_trainsStanding_12 : decode cX1_trainsStanding 12 = .ok (.if_icmp .ge 28, 3) := by decide +kernel
theorem dX1_trainsStanding_15 : decode cX1_trainsStanding 15 = .ok (.aload_n 0, 1) := by decide +kernel
theorem dX1_trainsStanding_16 : decode cX1_trainsStanding 16 = .ok (.getfield 31, 3) := by decide +kernel
theorem dX1_trainsStanding_19 : decode cX1_trainsStanding 19 = .ok (.iload 5, 2) := by decide +kernel
theorem dX1_trainsStanding_21 : decode cX1_trainsStanding 21 = .ok (.aaload, 1) := by decide +kernel
theorem dX1_trainsStanding_22 : decode cX1_trainsStanding 22 = .ok (.iload_n 1, 1) := by decide +kernel
theorem dX1_trainsStanding_23 : decode cX1_trainsStanding 23 = .ok (.iload_n 2, 1) := by decide +kernel
theorem dX1_trainsStanding_24 : decode cX1_trainsStanding 24 = .ok (.iload_n 3, 1) := by decide +kernel
theorem dX1_trainsStanding_25 : decode cX1_trainsStanding 25 = .ok (.invokevirtual 111, 3) := by decide +kernel
theorem dX1_trainsStanding_28 : decode cX1_trainsStanding 28 = .ok (.ifCond .eq 6, 3) := by decide +kernel
theorem dX1_trainsStanding_31 : decode cX1_trainsStanding 31 = .ok (.iinc 4 1, 3) := by decide +kernel
theorem dX1_trainsStanding_34 : decode cX1_trainsStanding 34 = .ok (.iinc 5 1, 3) := by decide +kernel
theorem dX1_trainsStanding_37 : decode cX1_trainsStanding 37 = .ok (.goto (-31), 3) := by decide +kernel
theorem dX1_trainsStanding_40 : decode cX1_trainsStanding 40 = .ok (.iload 4, 2) := by decide +kernel
theorem dX1_trainsStanding_42 : decode cX1_trainsStanding 42 = .ok (.ireturn, 1) := by decide +kernel
theorem dX1_nextBlock_0 : decode cX1_nextBlock 0 = .ok (.aload_n 1, 1) := by decide +kernel
theorem dX1_nextBlock_1 : decode cX1_nextBlock 1 = .ok (.getfield 100, 3) := by decide +kernel
theorem dX1_nextBlock_4 : decode cX1_nextBlock 4 = .ok (.ifCond .ne 23, 3) := by decide +kernel
theorem dX1_nextBlock_7 : decode cX1_nextBlock 7 = .ok (.aload_n 0, 1) := by decide +kernel
theorem dX1_nextBlock_8 : decode cX1_nextBlock 8 = .ok (.aload_n 1, 1) := by decide +kernel
theorem dX1_nextBlock_9 : decode cX1_nextBlock 9 = .ok (.getfield 115, 3) := by decide +kernel
theorem dX1_nextBlock_12 : decode cX1_nextBlock 12 = .ok (.aload_n 1, 1) := by decide +kernel
theorem dX1_nextBlock_13 : decode cX1_nextBlock 13 = .ok (.getfield 118, 3) := by decide +kernel
theorem dX1_nextBlock_16 : decode cX1_nextBlock 16 = .ok (.isub, 1) := by decide +kernel
theorem dX1_nextBlock_17 : decode cX1_nextBlock 17 = .ok (.aload_n 1, 1) := by decide +kernel
theorem dX1_nextBlock_18 : decode cX1_nextBlock 18 = .ok (.getfield 118, 3) := by decide +kernel
theorem dX1_nextBlock_21 : decode cX1_nextBlock 21 = .ok (.invokevirtual 121, 3) := by decide +kernel
theorem dX1_nextBlock_24 : decode cX1_nextBlock 24 = .ok (.goto 4, 3) := by decide +kernel
theorem dX1_nextBlock_27 : decode cX1_nextBlock 27 = .ok (.aconst_null, 1) := by decide +kernel
theorem dX1_nextBlock_28 : decode cX1_nextBlock 28 = .ok (.areturn, 1) := by decide +kernel
theorem dX1_blockTo_0 : decode cX1_blockTo 0 = .ok (.aload_n 0, 1) := by decide +kernel
theorem dX1_blockTo_1 : decode cX1_blockTo 1 = .ok (.iload_n 1, 1) := by decide +kernel
theorem dX1_blockTo_2 : decode cX1_blockTo 2 = .ok (.iconst 1, 1) := by decide +kernel
theorem dX1_blockTo_3 : decode cX1_blockTo 3 = .ok (.isub, 1) := by decide +kernel
theorem dX1_blockTo_4 : decode cX1_blockTo 4 = .ok (.iload_n 2, 1) := by decide +kernel
theorem dX1_blockTo_5 : decode cX1_blockTo 5 = .ok (.iadd, 1) := by decide +kernel
theorem dX1_blockTo_6 : decode cX1_blockTo 6 = .ok (.iload_n 2, 1) := by decide +kernel
theorem dX1_blockTo_7 : decode cX1_blockTo 7 = .ok (.invokevirtual 121, 3) := by decide +kernel
theorem dX1_blockTo_10 : decode cX1_blockTo 10 = .ok (.areturn, 1) := by decide +kernel
theorem dX1_trainInside_0 : decode cX1_trainInside 0 = .ok (.aload_n 1, 1) := by decide +kernel
theorem dX1_trainInside_1 : decode cX1_trainInside 1 = .ok (.getfield 125, 3) := by decide +kernel
theorem dX1_trainInside_4 : decode cX1_trainInside 4 = .ok (.iconst 2, 1) := by decide +kernel
theorem dX1_trainInside_5 : decode cX1_trainInside 5 = .ok (.if_icmp .ne 14, 3) := by decide +kernel
theorem dX1_trainInside_8 : decode cX1_trainInside 8 = .ok (.aload_n 0, 1) := by decide +kernel
theorem dX1_trainInside_9 : decode cX1_trainInside 9 = .ok (.aload_n 1, 1) := by decide +kernel
theorem dX1_trainInside_10 : decode cX1_trainInside 10 = .ok (.getfield 128, 3) := by decide +kernel
theorem dX1_trainInside_13 : decode cX1_trainInside 13 = .ok (.invokevirtual 96, 3) := by decide +kernel
theorem dX1_trainInside_16 : decode cX1_trainInside 16 = .ok (.goto 4, 3) := by decide +kernel
theorem dX1_trainInside_19 : decode cX1_trainInside 19 = .ok (.aconst_null, 1) := by decide +kernel
theorem dX1_trainInside_20 : decode cX1_trainInside 20 = .ok (.astore_n 2, 1) := by decide +kernel
theorem dX1_trainInside_21 : decode cX1_trainInside 21 = .ok (.aload_n 2, 1) := by decide +kernel
theorem dX1_trainInside_22 : decode cX1_trainInside 22 = .ok (.ifnull 25, 3) := by decide +kernel
theorem dX1_trainInside_25 : decode cX1_trainInside 25 = .ok (.aload_n 2, 1) := by decide +kernel
theorem dX1_trainInside_26 : decode cX1_trainInside 26 = .ok (.getfield 100, 3) := by decide +kernel
theorem dX1_trainInside_29 : decode cX1_trainInside 29 = .ok (.iconst 2, 1) := by decide +kernel
theorem dX1_trainInside_30 : decode cX1_trainInside 30 = .ok (.if_icmp .ne 17, 3) := by decide +kernel
theorem dX1_trainInside_33 : decode cX1_trainInside 33 = .ok (.aload_n 2, 1) := by decide +kernel
theorem dX1_trainInside_34 : decode cX1_trainInside 34 = .ok (.getfield 115, 3) := by decide +kernel
theorem dX1_trainInside_37 : decode cX1_trainInside 37 = .ok (.aload_n 1, 1) := by decide +kernel
theorem dX1_trainInside_38 : decode cX1_trainInside 38 = .ok (.getfield 131, 3) := by decide +kernel
theorem dX1_trainInside_41 : decode cX1_trainInside 41 = .ok (.getfield 135, 3) := by decide +kernel
theorem dX1_trainInside_44 : decode cX1_trainInside 44 = .ok (.if_icmp .eq 5, 3) := by decide +kernel
theorem dX1_trainInside_47 : decode cX1_trainInside 47 = .ok (.aconst_null, 1) := by decide +kernel
theorem dX1_trainInside_48 : decode cX1_trainInside 48 = .ok (.areturn, 1) := by decide +kernel
theorem dX1_trainInside_49 : decode cX1_trainInside 49 = .ok (.aload_n 2, 1) := by decide +kernel
theorem dX1_trainInside_50 : decode cX1_trainInside 50 = .ok (.areturn, 1) := by decide +kernel
theorem dX1_trainsThatAre_0 : decode cX1_trainsThatAre 0 = .ok (.iconst 0, 1) := by decide +kernel
theorem dX1_trainsThatAre_1 : decode cX1_trainsThatAre 1 = .ok (.istore_n 2, 1) := by decide +kernel
theorem dX1_trainsThatAre_2 : decode cX1_trainsThatAre 2 = .ok (.iconst 0, 1) := by decide +kernel
theorem dX1_trainsThatAre_3 : decode cX1_trainsThatAre 3 = .ok (.istore_n 3, 1) := by decide +kernel
theorem dX1_trainsThatAre_4 : decode cX1_trainsThatAre 4 = .ok (.iload_n 3, 1) := by decide +kernel
theorem dX1_trainsThatAre_5 : decode cX1_trainsThatAre 5 = .ok (.aload_n 0, 1) := by decide +kernel
theorem dX1_trainsThatAre_6 : decode cX1_trainsThatAre 6 = .ok (.getfield 67, 3) := by decide +kernel
theorem dX1_trainsThatAre_9 : decode cX1_trainsThatAre 9 = .ok (.if_icmp .ge 25, 3) := by decide +kernel
theorem dX1_trainsThatAre_12 : decode cX1_trainsThatAre 12 = .ok (.aload_n 0, 1) := by decide +kernel
theorem dX1_trainsThatAre_13 : decode cX1_trainsThatAre 13 = .ok (.getfield 31, 3) := by decide +kernel
theorem dX1_trainsThatAre_16 : decode cX1_trainsThatAre 16 = .ok (.iload_n 3, 1) := by decide +kernel
theorem dX1_trainsThatAre_17 : decode cX1_trainsThatAre 17 = .ok (.aaload, 1) := by decide +kernel
theorem dX1_trainsThatAre_18 : decode cX1_trainsThatAre 18 = .ok (.getfield 100, 3) := by decide +kernel
theorem dX1_trainsThatAre_21 : decode cX1_trainsThatAre 21 = .ok (.iload_n 1, 1) := by decide +kernel
theorem dX1_trainsThatAre_22 : decode cX1_trainsThatAre 22 = .ok (.if_icmp .ne 6, 3) := by decide +kernel
theorem dX1_trainsThatAre_25 : decode cX1_trainsThatAre 25 = .ok (.iinc 2 1, 3) := by decide +kernel
theorem dX1_trainsThatAre_28 : decode cX1_trainsThatAre 28 = .ok (.iinc 3 1, 3) := by decide +kernel
theorem dX1_trainsThatAre_31 : decode cX1_trainsThatAre 31 = .ok (.goto (-27), 3) := by decide +kernel
theorem dX1_trainsThatAre_34 : decode cX1_trainsThatAre 34 = .ok (.iload_n 2, 1) := by decide +kernel
theorem dX1_trainsThatAre_35 : decode cX1_trainsThatAre 35 = .ok (.ireturn, 1) := by decide +kernel
theorem dX1_blocksOtherThan_0 : decode cX1_blocksOtherThan 0 = .ok (.iconst 0, 1) := by decide +kernel
theorem dX1_blocksOtherThan_1 : decode cX1_blocksOtherThan 1 = .ok (.istore_n 3, 1) := by decide +kernel
theorem dX1_blocksOtherThan_2 : decode cX1_blocksOtherThan 2 = .ok (.iconst 0, 1) := by decide +kernel
theorem dX1_blocksOtherThan_3 : decode cX1_blocksOtherThan 3 = .ok (.istore 4, 2) := by decide +kernel
theorem dX1_blocksOtherThan_5 : decode cX1_blocksOtherThan 5 = .ok (.iload 4, 2) := by decide +kernel
theorem dX1_blocksOtherThan_7 : decode cX1_blocksOtherThan 7 = .ok (.aload_n 0, 1) := by decide +kernel
theorem dX1_blocksOtherThan_8 : decode cX1_blocksOtherThan 8 = .ok (.invokevirtual 138, 3) := by decide +kernel
theorem dX1_blocksOtherThan_11 : decode cX1_blocksOtherThan 11 = .ok (.if_icmp .ge 27, 3) := by decide +kernel
theorem dX1_blocksOtherThan_14 : decode cX1_blocksOtherThan 14 = .ok (.aload_n 0, 1) := by decide +kernel
theorem dX1_blocksOtherThan_15 : decode cX1_blocksOtherThan 15 = .ok (.getfield 19, 3) := by decide +kernel
theorem dX1_blocksOtherThan_18 : decode cX1_blocksOtherThan 18 = .ok (.iload 4, 2) := by decide +kernel
theorem dX1_blocksOtherThan_20 : decode cX1_blocksOtherThan 20 = .ok (.aaload, 1) := by decide +kernel
theorem dX1_blocksOtherThan_21 : decode cX1_blocksOtherThan 21 = .ok (.iload_n 1, 1) := by decide +kernel
theorem dX1_blocksOtherThan_22 : decode cX1_blocksOtherThan 22 = .ok (.invokevirtual 142, 3) := by decide +kernel
theorem dX1_blocksOtherThan_25 : decode cX1_blocksOtherThan 25 = .ok (.iload_n 2, 1) := by decide +kernel
theorem dX1_blocksOtherThan_26 : decode cX1_blocksOtherThan 26 = .ok (.if_icmp .eq 6, 3) := by decide +kernel
theorem dX1_blocksOtherThan_29 : decode cX1_blocksOtherThan 29 = .ok (.iinc 3 1, 3) := by decide +kernel
theorem dX1_blocksOtherThan_32 : decode cX1_blocksOtherThan 32 = .ok (.iinc 4 1, 3) := by decide +kernel
theorem dX1_blocksOtherThan_35 : decode cX1_blocksOtherThan 35 = .ok (.goto (-30), 3) := by decide +kernel
theorem dX1_blocksOtherThan_38 : decode cX1_blocksOtherThan 38 = .ok (.iload_n 3, 1) := by decide +kernel
theorem dX1_blocksOtherThan_39 : decode cX1_blocksOtherThan 39 = .ok (.ireturn, 1) := by decide +kernel
theorem dX1_changeLoops_0 : decode cX1_changeLoops 0 = .ok (.aload_n 0, 1) := by decide +kernel
theorem dX1_changeLoops_1 : decode cX1_changeLoops 1 = .ok (.iconst 1, 1) := by decide +kernel
theorem dX1_changeLoops_2 : decode cX1_changeLoops 2 = .ok (.iload_n 1, 1) := by decide +kernel
theorem dX1_changeLoops_3 : decode cX1_changeLoops 3 = .ok (.iload_n 2, 1) := by decide +kernel
theorem dX1_changeLoops_4 : decode cX1_changeLoops 4 = .ok (.invokevirtual 107, 3) := by decide +kernel
theorem dX1_changeLoops_7 : decode cX1_changeLoops 7 = .ok (.iload_n 3, 1) := by decide +kernel
theorem dX1_changeLoops_8 : decode cX1_changeLoops 8 = .ok (.if_icmp .le 6, 3) := by decide +kernel
theorem dX1_changeLoops_11 : decode cX1_changeLoops 11 = .ok (.bipush (-5), 2) := by decide +kernel
theorem dX1_changeLoops_13 : decode cX1_changeLoops 13 = .ok (.ireturn, 1) := by decide +kernel
theorem dX1_changeLoops_14 : decode cX1_changeLoops 14 = .ok (.aload_n 0, 1) := by decide +kernel
theorem dX1_changeLoops_15 : decode cX1_changeLoops 15 = .ok (.getfield 36, 3) := by decide +kernel
theorem dX1_changeLoops_18 : decode cX1_changeLoops 18 = .ok (.iconst 2, 1) := by decide +kernel
theorem dX1_changeLoops_19 : decode cX1_changeLoops 19 = .ok (.iload_n 1, 1) := by decide +kernel
theorem dX1_changeLoops_20 : decode cX1_changeLoops 20 = .ok (.imul, 1) := by decide +kernel
theorem dX1_changeLoops_21 : decode cX1_changeLoops 21 = .ok (.iload_n 2, 1) := by decide +kernel
theorem dX1_changeLoops_22 : decode cX1_changeLoops 22 = .ok (.iadd, 1) := by decide +kernel
theorem dX1_changeLoops_23 : decode cX1_changeLoops 23 = .ok (.iaload, 1) := by decide +kernel
theorem dX1_changeLoops_24 : decode cX1_changeLoops 24 = .ok (.istore 4, 2) := by decide +kernel
theorem dX1_changeLoops_26 : decode cX1_changeLoops 26 = .ok (.aload_n 0, 1) := by decide +kernel
theorem dX1_changeLoops_27 : decode cX1_changeLoops 27 = .ok (.getfield 36, 3) := by decide +kernel
theorem dX1_changeLoops_30 : decode cX1_changeLoops 30 = .ok (.iconst 2, 1) := by decide +kernel
theorem dX1_changeLoops_31 : decode cX1_changeLoops 31 = .ok (.iload_n 1, 1) := by decide +kernel
theorem dX1_changeLoops_32 : decode cX1_changeLoops 32 = .ok (.imul, 1) := by decide +kernel
theorem dX1_changeLoops_33 : decode cX1_changeLoops 33 = .ok (.iload_n 2, 1) := by decide +kernel
theorem dX1_changeLoops_34 : decode cX1_changeLoops 34 = .ok (.iadd, 1) := by decide +kernel
theorem dX1_changeLoops_35 : decode cX1_changeLoops 35 = .ok (.iload_n 3, 1) := by decide +kernel
theorem dX1_changeLoops_36 : decode cX1_changeLoops 36 = .ok (.iastore, 1) := by decide +kernel
theorem dX1_changeLoops_37 : decode cX1_changeLoops 37 = .ok (.iload 4, 2) := by decide +kernel
theorem dX1_changeLoops_39 : decode cX1_changeLoops 39 = .ok (.ireturn, 1) := by decide +kernel
theorem dX1_bringNew_0 : decode cX1_bringNew 0 = .ok (.aload_n 0, 1) := by decide +kernel
theorem dX1_bringNew_1 : decode cX1_bringNew 1 = .ok (.iload_n 2, 1) := by decide +kernel
theorem dX1_bringNew_2 : decode cX1_bringNew 2 = .ok (.invokevirtual 103, 3) := by decide +kernel
theorem dX1_bringNew_5 : decode cX1_bringNew 5 = .ok (.istore_n 3, 1) := by decide +kernel
theorem dX1_bringNew_6 : decode cX1_bringNew 6 = .ok (.aload_n 0, 1) := by decide +kernel
theorem dX1_bringNew_7 : decode cX1_bringNew 7 = .ok (.getfield 67, 3) := by decide +kernel
theorem dX1_bringNew_10 : decode cX1_bringNew 10 = .ok (.bipush 12, 2) := by decide +kernel
theorem dX1_bringNew_12 : decode cX1_bringNew 12 = .ok (.if_icmp .ge 12, 3) := by decide +kernel
theorem dX1_bringNew_15 : decode cX1_bringNew 15 = .ok (.aload_n 0, 1) := by decide +kernel
theorem dX1_bringNew_16 : decode cX1_bringNew 16 = .ok (.iload_n 3, 1) := by decide +kernel
theorem dX1_bringNew_17 : decode cX1_bringNew 17 = .ok (.iload_n 2, 1) := by decide +kernel
theorem dX1_bringNew_18 : decode cX1_bringNew 18 = .ok (.invokevirtual 145, 3) := by decide +kernel
theorem dX1_bringNew_21 : decode cX1_bringNew 21 = .ok (.ifCond .ne 6, 3) := by decide +kernel
theorem dX1_bringNew_24 : decode cX1_bringNew 24 = .ok (.bipush (-5), 2) := by decide +kernel
theorem dX1_bringNew_26 : decode cX1_bringNew 26 = .ok (.ireturn, 1) := by decide +kernel
theorem dX1_bringNew_27 : decode cX1_bringNew 27 = .ok (.aload_n 0, 1) := by decide +kernel
theorem dX1_bringNew_28 : decode cX1_bringNew 28 = .ok (.getfield 31, 3) := by decide +kernel
theorem dX1_bringNew_31 : decode cX1_bringNew 31 = .ok (.aload_n 0, 1) := by decide +kernel
theorem dX1_bringNew_32 : decode cX1_bringNew 32 = .ok (.getfield 67, 3) := by decide +kernel
theorem dX1_bringNew_35 : decode cX1_bringNew 35 = .ok (.aaload, 1) := by decide +kernel
theorem dX1_bringNew_36 : decode cX1_bringNew 36 = .ok (.astore 4, 2) := by decide +kernel
theorem dX1_bringNew_38 : decode cX1_bringNew 38 = .ok (.aload 4, 2) := by decide +kernel
theorem dX1_bringNew_40 : decode cX1_bringNew 40 = .ok (.iload_n 1, 1) := by decide +kernel
theorem dX1_bringNew_41 : decode cX1_bringNew 41 = .ok (.iload_n 2, 1) := by decide +kernel
theorem dX1_bringNew_42 : decode cX1_bringNew 42 = .ok (.iload_n 3, 1) := by decide +kernel
theorem dX1_bringNew_43 : decode cX1_bringNew 43 = .ok (.aload_n 0, 1) := by decide +kernel
theorem dX1_bringNew_44 : decode cX1_bringNew 44 = .ok (.getfield 61, 3) := by decide +kernel
theorem dX1_bringNew_47 : decode cX1_bringNew 47 = .ok (.invokevirtual 149, 3) := by decide +kernel
theorem dX1_bringNew_50 : decode cX1_bringNew 50 = .ok (.aload_n 0, 1) := by decide +kernel
theorem dX1_bringNew_51 : decode cX1_bringNew 51 = .ok (.dup, 1) := by decide +kernel
theorem dX1_bringNew_52 : decode cX1_bringNew 52 = .ok (.getfield 67, 3) := by decide +kernel
theorem dX1_bringNew_55 : decode cX1_bringNew 55 = .ok (.iconst 1, 1) := by decide +kernel
theorem dX1_bringNew_56 : decode cX1_bringNew 56 = .ok (.iadd, 1) := by decide +kernel
theorem dX1_bringNew_57 : decode cX1_bringNew 57 = .ok (.putfield 67, 3) := by decide +kernel
theorem dX1_bringNew_60 : decode cX1_bringNew 60 = .ok (.aload 4, 2) := by decide +kernel
theorem dX1_bringNew_62 : decode cX1_bringNew 62 = .ok (.getfield 153, 3) := by decide +kernel
theorem dX1_bringNew_65 : decode cX1_bringNew 65 = .ok (.ireturn, 1) := by decide +kernel
theorem dX1_bringSpare_0 : decode cX1_bringSpare 0 = .ok (.aload_n 0, 1) := by decide +kernel
theorem dX1_bringSpare_1 : decode cX1_bringSpare 1 = .ok (.iload_n 2, 1) := by decide +kernel
theorem dX1_bringSpare_2 : decode cX1_bringSpare 2 = .ok (.invokevirtual 103, 3) := by decide +kernel
theorem dX1_bringSpare_5 : decode cX1_bringSpare 5 = .ok (.istore_n 3, 1) := by decide +kernel
theorem dX1_bringSpare_6 : decode cX1_bringSpare 6 = .ok (.aload_n 0, 1) := by decide +kernel
theorem dX1_bringSpare_7 : decode cX1_bringSpare 7 = .ok (.iload_n 3, 1) := by decide +kernel
theorem dX1_bringSpare_8 : decode cX1_bringSpare 8 = .ok (.iload_n 2, 1) := by decide +kernel
theorem dX1_bringSpare_9 : decode cX1_bringSpare 9 = .ok (.invokevirtual 145, 3) := by decide +kernel
theorem dX1_bringSpare_12 : decode cX1_bringSpare 12 = .ok (.ifCond .ne 4, 3) := by decide +kernel
theorem dX1_bringSpare_15 : decode cX1_bringSpare 15 = .ok (.return_, 1) := by decide +kernel
theorem dX1_bringSpare_16 : decode cX1_bringSpare 16 = .ok (.iconst 0, 1) := by decide +kernel
theorem dX1_bringSpare_17 : decode cX1_bringSpare 17 = .ok (.istore 4, 2) := by decide +kernel
theorem dX1_bringSpare_19 : decode cX1_bringSpare 19 = .ok (.iload 4, 2) := by decide +kernel
theorem dX1_bringSpare_21 : decode cX1_bringSpare 21 = .ok (.aload_n 0, 1) := by decide +kernel
theorem dX1_bringSpare_22 : decode cX1_bringSpare 22 = .ok (.getfield 67, 3) := by decide +kernel
theorem dX1_bringSpare_25 : decode cX1_bringSpare 25 = .ok (.if_icmp .ge 41, 3) := by decide +kernel
theorem dX1_bringSpare_28 : decode cX1_bringSpare 28 = .ok (.aload_n 0, 1) := by decide +kernel
theorem dX1_bringSpare_29 : decode cX1_bringSpare 29 = .ok (.getfield 31, 3) := by decide +kernel
theorem dX1_bringSpare_32 : decode cX1_bringSpare 32 = .ok (.iload 4, 2) := by decide +kernel
theorem dX1_bringSpare_34 : decode cX1_bringSpare 34 = .ok (.aaload, 1) := by decide +kernel
theorem dX1_bringSpare_35 : decode cX1_bringSpare 35 = .ok (.getfield 100, 3) := by decide +kernel
theorem dX1_bringSpare_38 : decode cX1_bringSpare 38 = .ok (.iconst 3, 1) := by decide +kernel
theorem dX1_bringSpare_39 : decode cX1_bringSpare 39 = .ok (.if_icmp .ne 21, 3) := by decide +kernel
theorem dX1_bringSpare_42 : decode cX1_bringSpare 42 = .ok (.aload_n 0, 1) := by decide +kernel
theorem dX1_bringSpare_43 : decode cX1_bringSpare 43 = .ok (.getfield 31, 3) := by decide +kernel
theorem dX1_bringSpare_46 : decode cX1_bringSpare 46 = .ok (.iload 4, 2) := by decide +kernel
theorem dX1_bringSpare_48 : decode cX1_bringSpare 48 = .ok (.aaload, 1) := by decide +kernel
theorem dX1_bringSpare_49 : decode cX1_bringSpare 49 = .ok (.iload_n 1, 1) := by decide +kernel
theorem dX1_bringSpare_50 : decode cX1_bringSpare 50 = .ok (.iload_n 2, 1) := by decide +kernel
theorem dX1_bringSpare_51 : decode cX1_bringSpare 51 = .ok (.iload_n 3, 1) := by decide +kernel
theorem dX1_bringSpare_52 : decode cX1_bringSpare 52 = .ok (.aload_n 0, 1) := by decide +kernel
theorem dX1_bringSpare_53 : decode cX1_bringSpare 53 = .ok (.getfield 61, 3) := by decide +kernel
theorem dX1_bringSpare_56 : decode cX1_bringSpare 56 = .ok (.invokevirtual 149, 3) := by decide +kernel
theorem dX1_bringSpare_59 : decode cX1_bringSpare 59 = .ok (.return_, 1) := by decide +kernel
theorem dX1_bringSpare_60 : decode cX1_bringSpare 60 = .ok (.iinc 4 1, 3) := by decide +kernel
theorem dX1_bringSpare_63 : decode cX1_bringSpare 63 = .ok (.goto (-44), 3) := by decide +kernel
theorem dX1_bringSpare_66 : decode cX1_bringSpare 66 = .ok (.aload_n 0, 1) := by decide +kernel
theorem dX1_bringSpare_67 : decode cX1_bringSpare 67 = .ok (.iload_n 1, 1) := by decide +kernel
theorem dX1_bringSpare_68 : decode cX1_bringSpare 68 = .ok (.iload_n 2, 1) := by decide +kernel
theorem dX1_bringSpare_69 : decode cX1_bringSpare 69 = .ok (.invokevirtual 154, 3) := by decide +kernel
theorem dX1_bringSpare_72 : decode cX1_bringSpare 72 = .ok (.pop, 1) := by decide +kernel
theorem dX1_bringSpare_73 : decode cX1_bringSpare 73 = .ok (.return_, 1) := by decide +kernel
theorem dX1_shuntTrain_0 : decode cX1_shuntTrain 0 = .ok (.aload_n 1, 1) := by decide +kernel
theorem dX1_shuntTrain_1 : decode cX1_shuntTrain 1 = .ok (.getfield 100, 3) := by decide +kernel
theorem dX1_shuntTrain_4 : decode cX1_shuntTrain 4 = .ok (.ifCond .ne 9, 3) := by decide +kernel
theorem dX1_shuntTrain_7 : decode cX1_shuntTrain 7 = .ok (.aload_n 0, 1) := by decide +kernel
theorem dX1_shuntTrain_8 : decode cX1_shuntTrain 8 = .ok (.aload_n 1, 1) := by decide +kernel
theorem dX1_shuntTrain_9 : decode cX1_shuntTrain 9 = .ok (.invokevirtual 158, 3) := by decide +kernel
theorem dX1_shuntTrain_12 : decode cX1_shuntTrain 12 = .ok (.ireturn, 1) := by decide +kernel
theorem dX1_shuntTrain_13 : decode cX1_shuntTrain 13 = .ok (.aload_n 1, 1) := by decide +kernel
theorem dX1_shuntTrain_14 : decode cX1_shuntTrain 14 = .ok (.getfield 100, 3) := by decide +kernel
theorem dX1_shuntTrain_17 : decode cX1_shuntTrain 17 = .ok (.iconst 1, 1) := by decide +kernel
theorem dX1_shuntTrain_18 : decode cX1_shuntTrain 18 = .ok (.if_icmp .ne 11, 3) := by decide +kernel
theorem dX1_shuntTrain_21 : decode cX1_shuntTrain 21 = .ok (.aload_n 0, 1) := by decide +kernel
theorem dX1_shuntTrain_22 : decode cX1_shuntTrain 22 = .ok (.aload_n 1, 1) := by decide +kernel
theorem dX1_shuntTrain_23 : decode cX1_shuntTrain 23 = .ok (.invokevirtual 162, 3) := by decide +kernel
theorem dX1_shuntTrain_26 : decode cX1_shuntTrain 26 = .ok (.goto 5, 3) := by decide +kernel
theorem dX1_shuntTrain_29 : decode cX1_shuntTrain 29 = .ok (.bipush (-5), 2) := by decide +kernel
theorem dX1_shuntTrain_31 : decode cX1_shuntTrain 31 = .ok (.ireturn, 1) := by decide +kernel
theorem dX1_shuntToLoop_0 : decode cX1_shuntToLoop 0 = .ok (.aload_n 0, 1) := by decide +kernel
theorem dX1_shuntToLoop_1 : decode cX1_shuntToLoop 1 = .ok (.aload_n 1, 1) := by decide +kernel
theorem dX1_shuntToLoop_2 : decode cX1_shuntToLoop 2 = .ok (.invokevirtual 165, 3) := by decide +kernel
theorem dX1_shuntToLoop_5 : decode cX1_shuntToLoop 5 = .ok (.astore_n 2, 1) := by decide +kernel
theorem dX1_shuntToLoop_6 : decode cX1_shuntToLoop 6 = .ok (.aload_n 2, 1) := by decide +kernel
theorem dX1_shuntToLoop_7 : decode cX1_shuntToLoop 7 = .ok (.ifnull 36, 3) := by decide +kernel
theorem dX1_shuntToLoop_10 : decode cX1_shuntToLoop 10 = .ok (.aload_n 2, 1) := by decide +kernel
theorem dX1_shuntToLoop_11 : decode cX1_shuntToLoop 11 = .ok (.getfield 169, 3) := by decide +kernel
theorem dX1_shuntToLoop_14 : decode cX1_shuntToLoop 14 = .ok (.aload_n 1, 1) := by decide +kernel
theorem dX1_shuntToLoop_15 : decode cX1_shuntToLoop 15 = .ok (.getfield 153, 3) := by decide +kernel
theorem dX1_shuntToLoop_18 : decode cX1_shuntToLoop 18 = .ok (.if_icmp .eq 22, 3) := by decide +kernel
theorem dX1_shuntToLoop_21 : decode cX1_shuntToLoop 21 = .ok (.aload_n 2, 1) := by decide +kernel
theorem dX1_shuntToLoop_22 : decode cX1_shuntToLoop 22 = .ok (.getfield 125, 3) := by decide +kernel
theorem dX1_shuntToLoop_25 : decode cX1_shuntToLoop 25 = .ok (.iconst 1, 1) := by decide +kernel
theorem dX1_shuntToLoop_26 : decode cX1_shuntToLoop 26 = .ok (.if_icmp .ne 17, 3) := by decide +kernel
theorem dX1_shuntToLoop_29 : decode cX1_shuntToLoop 29 = .ok (.aload_n 2, 1) := by decide +kernel
theorem dX1_shuntToLoop_30 : decode cX1_shuntToLoop 30 = .ok (.getfield 128, 3) := by decide +kernel
theorem dX1_shuntToLoop_33 : decode cX1_shuntToLoop 33 = .ok (.aload_n 1, 1) := by decide +kernel
theorem dX1_shuntToLoop_34 : decode cX1_shuntToLoop 34 = .ok (.getfield 153, 3) := by decide +kernel
theorem dX1_shuntToLoop_37 : decode cX1_shuntToLoop 37 = .ok (.if_icmp .ne 6, 3) := by decide +kernel
theorem dX1_shuntToLoop_40 : decode cX1_shuntToLoop 40 = .ok (.bipush (-5), 2) := by decide +kernel
theorem dX1_shuntToLoop_42 : decode cX1_shuntToLoop 42 = .ok (.ireturn, 1) := by decide +kernel
theorem dX1_shuntToLoop_43 : decode cX1_shuntToLoop 43 = .ok (.aload_n 0, 1) := by decide +kernel
theorem dX1_shuntToLoop_44 : decode cX1_shuntToLoop 44 = .ok (.aload_n 1, 1) := by decide +kernel
theorem dX1_shuntToLoop_45 : decode cX1_shuntToLoop 45 = .ok (.getfield 115, 3) := by decide +kernel
theorem dX1_shuntToLoop_48 : decode cX1_shuntToLoop 48 = .ok (.invokevirtual 172, 3) := by decide +kernel
theorem dX1_shuntToLoop_51 : decode cX1_shuntToLoop 51 = .ok (.ifCond .eq 13, 3) := by decide +kernel
theorem dX1_shuntToLoop_54 : decode cX1_shuntToLoop 54 = .ok (.aload_n 1, 1) := by decide +kernel
theorem dX1_shuntToLoop_55 : decode cX1_shuntToLoop 55 = .ok (.getfield 118, 3) := by decide +kernel
theorem dX1_shuntToLoop_58 : decode cX1_shuntToLoop 58 = .ok (.invokestatic 176, 3) := by decide +kernel
theorem dX1_shuntToLoop_61 : decode cX1_shuntToLoop 61 = .ok (.ifCond .ne 6, 3) := by decide +kernel
theorem dX1_shuntToLoop_64 : decode cX1_shuntToLoop 64 = .ok (.bipush (-5), 2) := by decide +kernel
theorem dX1_shuntToLoop_66 : decode cX1_shuntToLoop 66 = .ok (.ireturn, 1) := by decide +kernel
theorem dX1_shuntToLoop_67 : decode cX1_shuntToLoop 67 = .ok (.aload_n 0, 1) := by decide +kernel
theorem dX1_shuntToLoop_68 : decode cX1_shuntToLoop 68 = .ok (.getfield 36, 3) := by decide +kernel
theorem dX1_shuntToLoop_71 : decode cX1_shuntToLoop 71 = .ok (.iconst 2, 1) := by decide +kernel
theorem dX1_shuntToLoop_72 : decode cX1_shuntToLoop 72 = .ok (.aload_n 1, 1) := by decide +kernel
theorem dX1_shuntToLoop_73 : decode cX1_shuntToLoop 73 = .ok (.getfield 115, 3) := by decide +kernel
theorem dX1_shuntToLoop_76 : decode cX1_shuntToLoop 76 = .ok (.imul, 1) := by decide +kernel
theorem dX1_shuntToLoop_77 : decode cX1_shuntToLoop 77 = .ok (.aload_n 1, 1) := by decide +kernel
theorem dX1_shuntToLoop_78 : decode cX1_shuntToLoop 78 = .ok (.getfield 118, 3) := by decide +kernel
theorem dX1_shuntToLoop_81 : decode cX1_shuntToLoop 81 = .ok (.iadd, 1) := by decide +kernel
theorem dX1_shuntToLoop_82 : decode cX1_shuntToLoop 82 = .ok (.iaload, 1) := by decide +kernel
theorem dX1_shuntToLoop_83 : decode cX1_shuntToLoop 83 = .ok (.istore_n 3, 1) := by decide +kernel
theorem dX1_shuntToLoop_84 : decode cX1_shuntToLoop 84 = .ok (.aload_n 0, 1) := by decide +kernel
theorem dX1_shuntToLoop_85 : decode cX1_shuntToLoop 85 = .ok (.iconst 1, 1) := by decide +kernel
theorem dX1_shuntToLoop_86 : decode cX1_shuntToLoop 86 = .ok (.aload_n 1, 1) := by decide +kernel
theorem dX1_shuntToLoop_87 : decode cX1_shuntToLoop 87 = .ok (.getfield 115, 3) := by decide +kernel
theorem dX1_shuntToLoop_90 : decode cX1_shuntToLoop 90 = .ok (.aload_n 1, 1) := by decide +kernel
theorem dX1_shuntToLoop_91 : decode cX1_shuntToLoop 91 = .ok (.getfield 118, 3) := by decide +kernel
theorem dX1_shuntToLoop_94 : decode cX1_shuntToLoop 94 = .ok (.invokevirtual 107, 3) := by decide +kernel
theorem dX1_shuntToLoop_97 : decode cX1_shuntToLoop 97 = .ok (.iload_n 3, 1) := by decide +kernel
theorem dX1_shuntToLoop_98 : decode cX1_shuntToLoop 98 = .ok (.if_icmp .lt 6, 3) := by decide +kernel
theorem dX1_shuntToLoop_101 : decode cX1_shuntToLoop 101 = .ok (.bipush (-5), 2) := by decide +kernel
theorem dX1_shuntToLoop_103 : decode cX1_shuntToLoop 103 = .ok (.ireturn, 1) := by decide +kernel
theorem dX1_shuntToLoop_104 : decode cX1_shuntToLoop 104 = .ok (.aload_n 1, 1) := by decide +kernel
theorem dX1_shuntToLoop_105 : decode cX1_shuntToLoop 105 = .ok (.iconst 1, 1) := by decide +kernel
theorem dX1_shuntToLoop_106 : decode cX1_shuntToLoop 106 = .ok (.aload_n 1, 1) := by decide +kernel
theorem dX1_shuntToLoop_107 : decode cX1_shuntToLoop 107 = .ok (.getfield 115, 3) := by decide +kernel
theorem dX1_shuntToLoop_110 : decode cX1_shuntToLoop 110 = .ok (.invokevirtual 179, 3) := by decide +kernel
theorem dX1_shuntToLoop_113 : decode cX1_shuntToLoop 113 = .ok (.iconst 1, 1) := by decide +kernel
theorem dX1_shuntToLoop_114 : decode cX1_shuntToLoop 114 = .ok (.ireturn, 1) := by decide +kernel
theorem dX1_shuntBack_0 : decode cX1_shuntBack 0 = .ok (.aload_n 0, 1) := by decide +kernel
theorem dX1_shuntBack_1 : decode cX1_shuntBack 1 = .ok (.aload_n 1, 1) := by decide +kernel
theorem dX1_shuntBack_2 : decode cX1_shuntBack 2 = .ok (.getfield 115, 3) := by decide +kernel
theorem dX1_shuntBack_5 : decode cX1_shuntBack 5 = .ok (.aload_n 1, 1) := by decide +kernel
theorem dX1_shuntBack_6 : decode cX1_shuntBack 6 = .ok (.getfield 118, 3) := by decide +kernel
theorem dX1_shuntBack_9 : decode cX1_shuntBack 9 = .ok (.invokevirtual 182, 3) := by decide +kernel
theorem dX1_shuntBack_12 : decode cX1_shuntBack 12 = .ok (.astore_n 2, 1) := by decide +kernel
theorem dX1_shuntBack_13 : decode cX1_shuntBack 13 = .ok (.aload_n 2, 1) := by decide +kernel
theorem dX1_shuntBack_14 : decode cX1_shuntBack 14 = .ok (.ifnull 18, 3) := by decide +kernel
theorem dX1_shuntBack_17 : decode cX1_shuntBack 17 = .ok (.aload_n 2, 1) := by decide +kernel
theorem dX1_shuntBack_18 : decode cX1_shuntBack 18 = .ok (.getfield 125, 3) := by decide +kernel
theorem dX1_shuntBack_21 : decode cX1_shuntBack 21 = .ok (.ifCond .eq 11, 3) := by decide +kernel
theorem dX1_shuntBack_24 : decode cX1_shuntBack 24 = .ok (.aload_n 2, 1) := by decide +kernel
theorem dX1_shuntBack_25 : decode cX1_shuntBack 25 = .ok (.getfield 125, 3) := by decide +kernel
theorem dX1_shuntBack_28 : decode cX1_shuntBack 28 = .ok (.iconst 3, 1) := by decide +kernel
theorem dX1_shuntBack_29 : decode cX1_shuntBack 29 = .ok (.if_icmp .ne 7, 3) := by decide +kernel
theorem dX1_shuntBack_32 : decode cX1_shuntBack 32 = .ok (.iconst 1, 1) := by decide +kernel
theorem dX1_shuntBack_33 : decode cX1_shuntBack 33 = .ok (.goto 4, 3) := by decide +kernel
theorem dX1_shuntBack_36 : decode cX1_shuntBack 36 = .ok (.iconst 0, 1) := by decide +kernel
theorem dX1_shuntBack_37 : decode cX1_shuntBack 37 = .ok (.istore_n 3, 1) := by decide +kernel
theorem dX1_shuntBack_38 : decode cX1_shuntBack 38 = .ok (.iload_n 3, 1) := by decide +kernel
theorem dX1_shuntBack_39 : decode cX1_shuntBack 39 = .ok (.ifCond .eq 18, 3) := by decide +kernel
theorem dX1_shuntBack_42 : decode cX1_shuntBack 42 = .ok (.aload_n 0, 1) := by decide +kernel
theorem dX1_shuntBack_43 : decode cX1_shuntBack 43 = .ok (.aload_n 1, 1) := by decide +kernel
theorem dX1_shuntBack_44 : decode cX1_shuntBack 44 = .ok (.getfield 115, 3) := by decide +kernel
theorem dX1_shuntBack_47 : decode cX1_shuntBack 47 = .ok (.aload_n 1, 1) := by decide +kernel
theorem dX1_shuntBack_48 : decode cX1_shuntBack 48 = .ok (.getfield 118, 3) := by decide +kernel
theorem dX1_shuntBack_51 : decode cX1_shuntBack 51 = .ok (.invokevirtual 145, 3) := by decide +kernel
theorem dX1_shuntBack_54 : decode cX1_shuntBack 54 = .ok (.ifCond .ne 6, 3) := by decide +kernel
theorem dX1_shuntBack_57 : decode cX1_shuntBack 57 = .ok (.bipush (-5), 2) := by decide +kernel
theorem dX1_shuntBack_59 : decode cX1_shuntBack 59 = .ok (.ireturn, 1) := by decide +kernel
theorem dX1_shuntBack_60 : decode cX1_shuntBack 60 = .ok (.aload_n 1, 1) := by decide +kernel
theorem dX1_shuntBack_61 : decode cX1_shuntBack 61 = .ok (.iconst 0, 1) := by decide +kernel
theorem dX1_shuntBack_62 : decode cX1_shuntBack 62 = .ok (.aload_n 1, 1) := by decide +kernel
theorem dX1_shuntBack_63 : decode cX1_shuntBack 63 = .ok (.getfield 115, 3) := by decide +kernel
theorem dX1_shuntBack_66 : decode cX1_shuntBack 66 = .ok (.invokevirtual 179, 3) := by decide +kernel
theorem dX1_shuntBack_69 : decode cX1_shuntBack 69 = .ok (.iconst 0, 1) := by decide +kernel
theorem dX1_shuntBack_70 : decode cX1_shuntBack 70 = .ok (.ireturn, 1) := by decide +kernel
theorem dX1_letLeave_0 : decode cX1_letLeave 0 = .ok (.aload_n 1, 1) := by decide +kernel
theorem dX1_letLeave_1 : decode cX1_letLeave 1 = .ok (.iconst 0, 1) := by decide +kernel
theorem dX1_letLeave_2 : decode cX1_letLeave 2 = .ok (.aload_n 0, 1) := by decide +kernel
theorem dX1_letLeave_3 : decode cX1_letLeave 3 = .ok (.aload_n 1, 1) := by decide +kernel
theorem dX1_letLeave_4 : decode cX1_letLeave 4 = .ok (.getfield 118, 3) := by decide +kernel
theorem dX1_letLeave_7 : decode cX1_letLeave 7 = .ok (.invokevirtual 185, 3) := by decide +kernel
theorem dX1_letLeave_10 : decode cX1_letLeave 10 = .ok (.aload_n 1, 1) := by decide +kernel
theorem dX1_letLeave_11 : decode cX1_letLeave 11 = .ok (.getfield 118, 3) := by decide +kernel
theorem dX1_letLeave_14 : decode cX1_letLeave 14 = .ok (.invokevirtual 111, 3) := by decide +kernel
theorem dX1_letLeave_17 : decode cX1_letLeave 17 = .ok (.ifCond .ne 6, 3) := by decide +kernel
theorem dX1_letLeave_20 : decode cX1_letLeave 20 = .ok (.bipush (-5), 2) := by decide +kernel
theorem dX1_letLeave_22 : decode cX1_letLeave 22 = .ok (.ireturn, 1) := by decide +kernel
theorem dX1_letLeave_23 : decode cX1_letLeave 23 = .ok (.aload_n 1, 1) := by decide +kernel
theorem dX1_letLeave_24 : decode cX1_letLeave 24 = .ok (.aload_n 0, 1) := by decide +kernel
theorem dX1_letLeave_25 : decode cX1_letLeave 25 = .ok (.getfield 61, 3) := by decide +kernel
theorem dX1_letLeave_28 : decode cX1_letLeave 28 = .ok (.invokevirtual 188, 3) := by decide +kernel
theorem dX1_letLeave_31 : decode cX1_letLeave 31 = .ok (.aload_n 0, 1) := by decide +kernel
theorem dX1_letLeave_32 : decode cX1_letLeave 32 = .ok (.getfield 61, 3) := by decide +kernel
theorem dX1_letLeave_35 : decode cX1_letLeave 35 = .ok (.aload_n 1, 1) := by decide +kernel
theorem dX1_letLeave_36 : decode cX1_letLeave 36 = .ok (.getfield 191, 3) := by decide +kernel
theorem dX1_letLeave_39 : decode cX1_letLeave 39 = .ok (.isub, 1) := by decide +kernel
theorem dX1_letLeave_40 : decode cX1_letLeave 40 = .ok (.ireturn, 1) := by decide +kernel
theorem dX1_divideTrain_0 : decode cX1_divideTrain 0 = .ok (.aload_n 1, 1) := by decide +kernel
theorem dX1_divideTrain_1 : decode cX1_divideTrain 1 = .ok (.getfield 100, 3) := by decide +kernel
theorem dX1_divideTrain_4 : decode cX1_divideTrain 4 = .ok (.iconst 2, 1) := by decide +kernel
theorem dX1_divideTrain_5 : decode cX1_divideTrain 5 = .ok (.if_icmp .ne 18, 3) := by decide +kernel
theorem dX1_divideTrain_8 : decode cX1_divideTrain 8 = .ok (.aload_n 0, 1) := by decide +kernel
theorem dX1_divideTrain_9 : decode cX1_divideTrain 9 = .ok (.aload_n 1, 1) := by decide +kernel
theorem dX1_divideTrain_10 : decode cX1_divideTrain 10 = .ok (.getfield 115, 3) := by decide +kernel
theorem dX1_divideTrain_13 : decode cX1_divideTrain 13 = .ok (.aload_n 1, 1) := by decide +kernel
theorem dX1_divideTrain_14 : decode cX1_divideTrain 14 = .ok (.getfield 118, 3) := by decide +kernel
theorem dX1_divideTrain_17 : decode cX1_divideTrain 17 = .ok (.invokevirtual 121, 3) := by decide +kernel
theorem dX1_divideTrain_20 : decode cX1_divideTrain 20 = .ok (.goto 4, 3) := by decide +kernel
theorem dX1_divideTrain_23 : decode cX1_divideTrain 23 = .ok (.aconst_null, 1) := by decide +kernel
theorem dX1_divideTrain_24 : decode cX1_divideTrain 24 = .ok (.astore_n 2, 1) := by decide +kernel
theorem dX1_divideTrain_25 : decode cX1_divideTrain 25 = .ok (.aload_n 2, 1) := by decide +kernel
theorem dX1_divideTrain_26 : decode cX1_divideTrain 26 = .ok (.ifnull 10, 3) := by decide +kernel
theorem dX1_divideTrain_29 : decode cX1_divideTrain 29 = .ok (.aload_n 1, 1) := by decide +kernel
theorem dX1_divideTrain_30 : decode cX1_divideTrain 30 = .ok (.getfield 194, 3) := by decide +kernel
theorem dX1_divideTrain_33 : decode cX1_divideTrain 33 = .ok (.ifCond .ne 6, 3) := by decide +kernel
theorem dX1_divideTrain_36 : decode cX1_divideTrain 36 = .ok (.bipush (-5), 2) := by decide +kernel
theorem dX1_divideTrain_38 : decode cX1_divideTrain 38 = .ok (.ireturn, 1) := by decide +kernel
theorem dX1_divideTrain_39 : decode cX1_divideTrain 39 = .ok (.aload_n 1, 1) := by decide +kernel
theorem dX1_divideTrain_40 : decode cX1_divideTrain 40 = .ok (.iconst 0, 1) := by decide +kernel
theorem dX1_divideTrain_41 : decode cX1_divideTrain 41 = .ok (.putfield 194, 3) := by decide +kernel
theorem dX1_divideTrain_44 : decode cX1_divideTrain 44 = .ok (.aload_n 2, 1) := by decide +kernel
theorem dX1_divideTrain_45 : decode cX1_divideTrain 45 = .ok (.iconst 1, 1) := by decide +kernel
theorem dX1_divideTrain_46 : decode cX1_divideTrain 46 = .ok (.putfield 197, 3) := by decide +kernel
theorem dX1_divideTrain_49 : decode cX1_divideTrain 49 = .ok (.aload_n 2, 1) := by decide +kernel
theorem dX1_divideTrain_50 : decode cX1_divideTrain 50 = .ok (.getfield 131, 3) := by decide +kernel
theorem dX1_divideTrain_53 : decode cX1_divideTrain 53 = .ok (.getfield 135, 3) := by decide +kernel
theorem dX1_divideTrain_56 : decode cX1_divideTrain 56 = .ok (.ireturn, 1) := by decide +kernel
theorem dX1_ringRear_0 : decode cX1_ringRear 0 = .ok (.aload_n 0, 1) := by decide +kernel
theorem dX1_ringRear_1 : decode cX1_ringRear 1 = .ok (.getfield 43, 3) := by decide +kernel
theorem dX1_ringRear_4 : decode cX1_ringRear 4 = .ok (.aload_n 0, 1) := by decide +kernel
theorem dX1_ringRear_5 : decode cX1_ringRear 5 = .ok (.getfield 61, 3) := by decide +kernel
theorem dX1_ringRear_8 : decode cX1_ringRear 8 = .ok (.aload_n 1, 1) := by decide +kernel
theorem dX1_ringRear_9 : decode cX1_ringRear 9 = .ok (.aload_n 1, 1) := by decide +kernel
theorem dX1_ringRear_10 : decode cX1_ringRear 10 = .ok (.invokevirtual 200, 3) := by decide +kernel
theorem dX1_ringRear_13 : decode cX1_ringRear 13 = .ok (.iload_n 2, 1) := by decide +kernel
theorem dX1_ringRear_14 : decode cX1_ringRear 14 = .ok (.invokevirtual 203, 3) := by decide +kernel
theorem dX1_ringRear_17 : decode cX1_ringRear 17 = .ok (.iload_n 2, 1) := by decide +kernel
theorem dX1_ringRear_18 : decode cX1_ringRear 18 = .ok (.ireturn, 1) := by decide +kernel
theorem dX1_ringAhead_0 : decode cX1_ringAhead 0 = .ok (.aload_n 0, 1) := by decide +kernel
theorem dX1_ringAhead_1 : decode cX1_ringAhead 1 = .ok (.getfield 43, 3) := by decide +kernel
theorem dX1_ringAhead_4 : decode cX1_ringAhead 4 = .ok (.aload_n 0, 1) := by decide +kernel
theorem dX1_ringAhead_5 : decode cX1_ringAhead 5 = .ok (.getfield 61, 3) := by decide +kernel
theorem dX1_ringAhead_8 : decode cX1_ringAhead 8 = .ok (.aload_n 1, 1) := by decide +kernel
theorem dX1_ringAhead_9 : decode cX1_ringAhead 9 = .ok (.aload_n 1, 1) := by decide +kernel
theorem dX1_ringAhead_10 : decode cX1_ringAhead 10 = .ok (.invokevirtual 207, 3) := by decide +kernel
theorem dX1_ringAhead_13 : decode cX1_ringAhead 13 = .ok (.iload_n 2, 1) := by decide +kernel
theorem dX1_ringAhead_14 : decode cX1_ringAhead 14 = .ok (.invokevirtual 203, 3) := by decide +kernel
theorem dX1_ringAhead_17 : decode cX1_ringAhead 17 = .ok (.iload_n 2, 1) := by decide +kernel
theorem dX1_ringAhead_18 : decode cX1_ringAhead 18 = .ok (.ireturn, 1) := by decide +kernel
theorem dX1_offerTrain_0 : decode cX1_offerTrain 0 = .ok (.aload_n 0, 1) := by decide +kernel
theorem dX1_offerTrain_1 : decode cX1_offerTrain 1 = .ok (.aload_n 1, 1) := by decide +kernel
theorem dX1_offerTrain_2 : decode cX1_offerTrain 2 = .ok (.invokevirtual 165, 3) := by decide +kernel
theorem dX1_offerTrain_5 : decode cX1_offerTrain 5 = .ok (.astore_n 2, 1) := by decide +kernel
theorem dX1_offerTrain_6 : decode cX1_offerTrain 6 = .ok (.aload_n 2, 1) := by decide +kernel
theorem dX1_offerTrain_7 : decode cX1_offerTrain 7 = .ok (.ifnull 19, 3) := by decide +kernel
theorem dX1_offerTrain_10 : decode cX1_offerTrain 10 = .ok (.aload_n 2, 1) := by decide +kernel
theorem dX1_offerTrain_11 : decode cX1_offerTrain 11 = .ok (.getfield 125, 3) := by decide +kernel
theorem dX1_offerTrain_14 : decode cX1_offerTrain 14 = .ok (.ifCond .ne 12, 3) := by decide +kernel
theorem dX1_offerTrain_17 : decode cX1_offerTrain 17 = .ok (.aload_n 2, 1) := by decide +kernel
theorem dX1_offerTrain_18 : decode cX1_offerTrain 18 = .ok (.getfield 169, 3) := by decide +kernel
theorem dX1_offerTrain_21 : decode cX1_offerTrain 21 = .ok (.bipush (-6), 2) := by decide +kernel
theorem dX1_offerTrain_23 : decode cX1_offerTrain 23 = .ok (.if_icmp .eq 6, 3) := by decide +kernel
theorem dX1_offerTrain_26 : decode cX1_offerTrain 26 = .ok (.bipush (-5), 2) := by decide +kernel
theorem dX1_offerTrain_28 : decode cX1_offerTrain 28 = .ok (.ireturn, 1) := by decide +kernel
theorem dX1_offerTrain_29 : decode cX1_offerTrain 29 = .ok (.aload_n 2, 1) := by decide +kernel
theorem dX1_offerTrain_30 : decode cX1_offerTrain 30 = .ok (.aload_n 1, 1) := by decide +kernel
theorem dX1_offerTrain_31 : decode cX1_offerTrain 31 = .ok (.getfield 153, 3) := by decide +kernel
theorem dX1_offerTrain_34 : decode cX1_offerTrain 34 = .ok (.putfield 169, 3) := by decide +kernel
theorem dX1_offerTrain_37 : decode cX1_offerTrain 37 = .ok (.aload_n 0, 1) := by decide +kernel
theorem dX1_offerTrain_38 : decode cX1_offerTrain 38 = .ok (.aload_n 2, 1) := by decide +kernel
theorem dX1_offerTrain_39 : decode cX1_offerTrain 39 = .ok (.aload_n 1, 1) := by decide +kernel
theorem dX1_offerTrain_40 : decode cX1_offerTrain 40 = .ok (.getfield 210, 3) := by decide +kernel
theorem dX1_offerTrain_43 : decode cX1_offerTrain 43 = .ok (.invokestatic 213, 3) := by decide +kernel
theorem dX1_offerTrain_46 : decode cX1_offerTrain 46 = .ok (.invokevirtual 216, 3) := by decide +kernel
theorem dX1_offerTrain_49 : decode cX1_offerTrain 49 = .ok (.ireturn, 1) := by decide +kernel
theorem dX1_accept_0 : decode cX1_accept 0 = .ok (.aload_n 0, 1) := by decide +kernel
theorem dX1_accept_1 : decode cX1_accept 1 = .ok (.aload_n 1, 1) := by decide +kernel
theorem dX1_accept_2 : decode cX1_accept 2 = .ok (.getfield 169, 3) := by decide +kernel
theorem dX1_accept_5 : decode cX1_accept 5 = .ok (.invokevirtual 96, 3) := by decide +kernel
theorem dX1_accept_8 : decode cX1_accept 8 = .ok (.astore_n 2, 1) := by decide +kernel
theorem dX1_accept_9 : decode cX1_accept 9 = .ok (.aload_n 2, 1) := by decide +kernel
theorem dX1_accept_10 : decode cX1_accept 10 = .ok (.ifnull 26, 3) := by decide +kernel
theorem dX1_accept_13 : decode cX1_accept 13 = .ok (.aload_n 0, 1) := by decide +kernel
theorem dX1_accept_14 : decode cX1_accept 14 = .ok (.aload_n 1, 1) := by decide +kernel
theorem dX1_accept_15 : decode cX1_accept 15 = .ok (.invokevirtual 207, 3) := by decide +kernel
theorem dX1_accept_18 : decode cX1_accept 18 = .ok (.aload_n 1, 1) := by decide +kernel
theorem dX1_accept_19 : decode cX1_accept 19 = .ok (.getfield 220, 3) := by decide +kernel
theorem dX1_accept_22 : decode cX1_accept 22 = .ok (.invokevirtual 145, 3) := by decide +kernel
theorem dX1_accept_25 : decode cX1_accept 25 = .ok (.ifCond .eq 11, 3) := by decide +kernel
theorem dX1_accept_28 : decode cX1_accept 28 = .ok (.aload_n 0, 1) := by decide +kernel
theorem dX1_accept_29 : decode cX1_accept 29 = .ok (.aload_n 1, 1) := by decide +kernel
theorem dX1_accept_30 : decode cX1_accept 30 = .ok (.invokevirtual 221, 3) := by decide +kernel
theorem dX1_accept_33 : decode cX1_accept 33 = .ok (.ifCond .ne 6, 3) := by decide +kernel
theorem dX1_accept_36 : decode cX1_accept 36 = .ok (.bipush (-5), 2) := by decide +kernel
theorem dX1_accept_38 : decode cX1_accept 38 = .ok (.ireturn, 1) := by decide +kernel
theorem dX1_accept_39 : decode cX1_accept 39 = .ok (.aload_n 1, 1) := by decide +kernel
theorem dX1_accept_40 : decode cX1_accept 40 = .ok (.invokevirtual 225, 3) := by decide +kernel
theorem dX1_accept_43 : decode cX1_accept 43 = .ok (.aload_n 0, 1) := by decide +kernel
theorem dX1_accept_44 : decode cX1_accept 44 = .ok (.aload_n 1, 1) := by decide +kernel
theorem dX1_accept_45 : decode cX1_accept 45 = .ok (.aload_n 2, 1) := by decide +kernel
theorem dX1_accept_46 : decode cX1_accept 46 = .ok (.getfield 210, 3) := by decide +kernel
theorem dX1_accept_49 : decode cX1_accept 49 = .ok (.invokestatic 213, 3) := by decide +kernel
theorem dX1_accept_52 : decode cX1_accept 52 = .ok (.invokevirtual 228, 3) := by decide +kernel
theorem dX1_accept_55 : decode cX1_accept 55 = .ok (.ireturn, 1) := by decide +kernel
theorem dX1_isTokenReady_0 : decode cX1_isTokenReady 0 = .ok (.aload_n 1, 1) := by decide +kernel
theorem dX1_isTokenReady_1 : decode cX1_isTokenReady 1 = .ok (.getfield 131, 3) := by decide +kernel
theorem dX1_isTokenReady_4 : decode cX1_isTokenReady 4 = .ok (.astore_n 2, 1) := by decide +kernel
theorem dX1_isTokenReady_5 : decode cX1_isTokenReady 5 = .ok (.aload_n 2, 1) := by decide +kernel
theorem dX1_isTokenReady_6 : decode cX1_isTokenReady 6 = .ok (.getfield 231, 3) := by decide +kernel
theorem dX1_isTokenReady_9 : decode cX1_isTokenReady 9 = .ok (.ifCond .ne 5, 3) := by decide +kernel
theorem dX1_isTokenReady_12 : decode cX1_isTokenReady 12 = .ok (.iconst 1, 1) := by decide +kernel
theorem dX1_isTokenReady_13 : decode cX1_isTokenReady 13 = .ok (.ireturn, 1) := by decide +kernel
theorem dX1_isTokenReady_14 : decode cX1_isTokenReady 14 = .ok (.aload_n 0, 1) := by decide +kernel
theorem dX1_isTokenReady_15 : decode cX1_isTokenReady 15 = .ok (.aload_n 2, 1) := by decide +kernel
theorem dX1_isTokenReady_16 : decode cX1_isTokenReady 16 = .ok (.getfield 135, 3) := by decide +kernel
theorem dX1_isTokenReady_19 : decode cX1_isTokenReady 19 = .ok (.iconst 1, 1) := by decide +kernel
theorem dX1_isTokenReady_20 : decode cX1_isTokenReady 20 = .ok (.aload_n 1, 1) := by decide +kernel
theorem dX1_isTokenReady_21 : decode cX1_isTokenReady 21 = .ok (.getfield 220, 3) := by decide +kernel
theorem dX1_isTokenReady_24 : decode cX1_isTokenReady 24 = .ok (.isub, 1) := by decide +kernel
theorem dX1_isTokenReady_25 : decode cX1_isTokenReady 25 = .ok (.invokevirtual 121, 3) := by decide +kernel
theorem dX1_isTokenReady_28 : decode cX1_isTokenReady 28 = .ok (.astore_n 3, 1) := by decide +kernel
theorem dX1_isTokenReady_29 : decode cX1_isTokenReady 29 = .ok (.aload_n 3, 1) := by decide +kernel
theorem dX1_isTokenReady_30 : decode cX1_isTokenReady 30 = .ok (.ifnull 14, 3) := by decide +kernel
theorem dX1_isTokenReady_33 : decode cX1_isTokenReady 33 = .ok (.aload_n 3, 1) := by decide +kernel
theorem dX1_isTokenReady_34 : decode cX1_isTokenReady 34 = .ok (.getfield 125, 3) := by decide +kernel
theorem dX1_isTokenReady_37 : decode cX1_isTokenReady 37 = .ok (.ifCond .ne 7, 3) := by decide +kernel
theorem dX1_isTokenReady_40 : decode cX1_isTokenReady 40 = .ok (.iconst 1, 1) := by decide +kernel
theorem dX1_isTokenReady_41 : decode cX1_isTokenReady 41 = .ok (.goto 4, 3) := by decide +kernel
theorem dX1_isTokenReady_44 : decode cX1_isTokenReady 44 = .ok (.iconst 0, 1) := by decide +kernel
theorem dX1_isTokenReady_45 : decode cX1_isTokenReady 45 = .ok (.istore 4, 2) := by decide +kernel
theorem dX1_isTokenReady_47 : decode cX1_isTokenReady 47 = .ok (.iload 4, 2) := by decide +kernel
theorem dX1_isTokenReady_49 : decode cX1_isTokenReady 49 = .ok (.ifCond .eq 25, 3) := by decide +kernel
theorem dX1_isTokenReady_52 : decode cX1_isTokenReady 52 = .ok (.aload_n 2, 1) := by decide +kernel
theorem dX1_isTokenReady_53 : decode cX1_isTokenReady 53 = .ok (.getfield 70, 3) := by decide +kernel
theorem dX1_isTokenReady_56 : decode cX1_isTokenReady 56 = .ok (.ifCond .ne 18, 3) := by decide +kernel
theorem dX1_isTokenReady_59 : decode cX1_isTokenReady 59 = .ok (.aload_n 2, 1) := by decide +kernel
theorem dX1_isTokenReady_60 : decode cX1_isTokenReady 60 = .ok (.aload_n 1, 1) := by decide +kernel
theorem dX1_isTokenReady_61 : decode cX1_isTokenReady 61 = .ok (.invokevirtual 234, 3) := by decide +kernel
theorem dX1_isTokenReady_64 : decode cX1_isTokenReady 64 = .ok (.invokevirtual 237, 3) := by decide +kernel
theorem dX1_isTokenReady_67 : decode cX1_isTokenReady 67 = .ok (.ifCond .eq 7, 3) := by decide +kernel
theorem dX1_isTokenReady_70 : decode cX1_isTokenReady 70 = .ok (.iconst 1, 1) := by decide +kernel
theorem dX1_isTokenReady_71 : decode cX1_isTokenReady 71 = .ok (.goto 4, 3) := by decide +kernel
theorem dX1_isTokenReady_74 : decode cX1_isTokenReady 74 = .ok (.iconst 0, 1) := by decide +kernel
theorem dX1_isTokenReady_75 : decode cX1_isTokenReady 75 = .ok (.ireturn, 1) := by decide +kernel
theorem dX1_refuse_0 : decode cX1_refuse 0 = .ok (.aload_n 1, 1) := by decide +kernel
theorem dX1_refuse_1 : decode cX1_refuse 1 = .ok (.getfield 169, 3) := by decide +kernel
theorem dX1_refuse_4 : decode cX1_refuse 4 = .ok (.bipush (-6), 2) := by decide +kernel
theorem dX1_refuse_6 : decode cX1_refuse 6 = .ok (.if_icmp .ne 6, 3) := by decide +kernel
theorem dX1_refuse_9 : decode cX1_refuse 9 = .ok (.bipush (-5), 2) := by decide +kernel
theorem dX1_refuse_11 : decode cX1_refuse 11 = .ok (.ireturn, 1) := by decide +kernel
theorem dX1_refuse_12 : decode cX1_refuse 12 = .ok (.aload_n 1, 1) := by decide +kernel
theorem dX1_refuse_13 : decode cX1_refuse 13 = .ok (.bipush (-6), 2) := by decide +kernel
theorem dX1_refuse_15 : decode cX1_refuse 15 = .ok (.putfield 169, 3) := by decide +kernel
theorem dX1_refuse_18 : decode cX1_refuse 18 = .ok (.aload_n 0, 1) := by decide +kernel
theorem dX1_refuse_19 : decode cX1_refuse 19 = .ok (.aload_n 1, 1) := by decide +kernel
theorem dX1_refuse_20 : decode cX1_refuse 20 = .ok (.iconst 1, 1) := by decide +kernel
theorem dX1_refuse_21 : decode cX1_refuse 21 = .ok (.invokevirtual 228, 3) := by decide +kernel
theorem dX1_refuse_24 : decode cX1_refuse 24 = .ok (.ireturn, 1) := by decide +kernel
theorem dX1_cancelBlock_0 : decode cX1_cancelBlock 0 = .ok (.aload_n 1, 1) := by decide +kernel
theorem dX1_cancelBlock_1 : decode cX1_cancelBlock 1 = .ok (.getfield 169, 3) := by decide +kernel
theorem dX1_cancelBlock_4 : decode cX1_cancelBlock 4 = .ok (.bipush (-6), 2) := by decide +kernel
theorem dX1_cancelBlock_6 : decode cX1_cancelBlock 6 = .ok (.if_icmp .ne 14, 3) := by decide +kernel
theorem dX1_cancelBlock_9 : decode cX1_cancelBlock 9 = .ok (.aload_n 1, 1) := by decide +kernel
theorem dX1_cancelBlock_10 : decode cX1_cancelBlock 10 = .ok (.getfield 125, 3) := by decide +kernel
theorem dX1_cancelBlock_13 : decode cX1_cancelBlock 13 = .ok (.iconst 1, 1) := by decide +kernel
theorem dX1_cancelBlock_14 : decode cX1_cancelBlock 14 = .ok (.if_icmp .eq 6, 3) := by decide +kernel
theorem dX1_cancelBlock_17 : decode cX1_cancelBlock 17 = .ok (.bipush (-5), 2) := by decide +kernel
theorem dX1_cancelBlock_19 : decode cX1_cancelBlock 19 = .ok (.ireturn, 1) := by decide +kernel
theorem dX1_cancelBlock_20 : decode cX1_cancelBlock 20 = .ok (.aload_n 1, 1) := by decide +kernel
theorem dX1_cancelBlock_21 : decode cX1_cancelBlock 21 = .ok (.iconst 0, 1) := by decide +kernel
theorem dX1_cancelBlock_22 : decode cX1_cancelBlock 22 = .ok (.invokevirtual 240, 3) := by decide +kernel
theorem dX1_cancelBlock_25 : decode cX1_cancelBlock 25 = .ok (.aload_n 0, 1) := by decide +kernel
theorem dX1_cancelBlock_26 : decode cX1_cancelBlock 26 = .ok (.aload_n 1, 1) := by decide +kernel
theorem dX1_cancelBlock_27 : decode cX1_cancelBlock 27 = .ok (.bipush 35, 2) := by decide +kernel
theorem dX1_cancelBlock_29 : decode cX1_cancelBlock 29 = .ok (.invokevirtual 216, 3) := by decide +kernel
theorem dX1_cancelBlock_32 : decode cX1_cancelBlock 32 = .ok (.ireturn, 1) := by decide +kernel
theorem dX1_letDepart_0 : decode cX1_letDepart 0 = .ok (.aload_n 0, 1) := by decide +kernel
theorem dX1_letDepart_1 : decode cX1_letDepart 1 = .ok (.aload_n 1, 1) := by decide +kernel
theorem dX1_letDepart_2 : decode cX1_letDepart 2 = .ok (.invokevirtual 165, 3) := by decide +kernel
theorem dX1_letDepart_5 : decode cX1_letDepart 5 = .ok (.astore_n 2, 1) := by decide +kernel
theorem dX1_letDepart_6 : decode cX1_letDepart 6 = .ok (.aload_n 2, 1) := by decide +kernel
theorem dX1_letDepart_7 : decode cX1_letDepart 7 = .ok (.ifnull 22, 3) := by decide +kernel
theorem dX1_letDepart_10 : decode cX1_letDepart 10 = .ok (.aload_n 2, 1) := by decide +kernel
theorem dX1_letDepart_11 : decode cX1_letDepart 11 = .ok (.getfield 125, 3) := by decide +kernel
theorem dX1_letDepart_14 : decode cX1_letDepart 14 = .ok (.iconst 1, 1) := by decide +kernel
theorem dX1_letDepart_15 : decode cX1_letDepart 15 = .ok (.if_icmp .ne 14, 3) := by decide +kernel
theorem dX1_letDepart_18 : decode cX1_letDepart 18 = .ok (.aload_n 2, 1) := by decide +kernel
theorem dX1_letDepart_19 : decode cX1_letDepart 19 = .ok (.getfield 128, 3) := by decide +kernel
theorem dX1_letDepart_22 : decode cX1_letDepart 22 = .ok (.aload_n 1, 1) := by decide +kernel
theorem dX1_letDepart_23 : decode cX1_letDepart 23 = .ok (.getfield 153, 3) := by decide +kernel
theorem dX1_letDepart_26 : decode cX1_letDepart 26 = .ok (.if_icmp .eq 6, 3) := by decide +kernel
theorem dX1_letDepart_29 : decode cX1_letDepart 29 = .ok (.bipush (-5), 2) := by decide +kernel
theorem dX1_letDepart_31 : decode cX1_letDepart 31 = .ok (.ireturn, 1) := by decide +kernel
theorem dX1_letDepart_32 : decode cX1_letDepart 32 = .ok (.aload_n 2, 1) := by decide +kernel
theorem dX1_letDepart_33 : decode cX1_letDepart 33 = .ok (.iconst 2, 1) := by decide +kernel
theorem dX1_letDepart_34 : decode cX1_letDepart 34 = .ok (.putfield 125, 3) := by decide +kernel
theorem dX1_letDepart_37 : decode cX1_letDepart 37 = .ok (.aload_n 1, 1) := by decide +kernel
theorem dX1_letDepart_38 : decode cX1_letDepart 38 = .ok (.aload_n 2, 1) := by decide +kernel
theorem dX1_letDepart_39 : decode cX1_letDepart 39 = .ok (.getfield 131, 3) := by decide +kernel
theorem dX1_letDepart_42 : decode cX1_letDepart 42 = .ok (.invokevirtual 243, 3) := by decide +kernel
theorem dX1_letDepart_45 : decode cX1_letDepart 45 = .ok (.aload_n 0, 1) := by decide +kernel
theorem dX1_letDepart_46 : decode cX1_letDepart 46 = .ok (.aload_n 2, 1) := by decide +kernel
theorem dX1_letDepart_47 : decode cX1_letDepart 47 = .ok (.iconst 2, 1) := by decide +kernel
theorem dX1_letDepart_48 : decode cX1_letDepart 48 = .ok (.invokevirtual 216, 3) := by decide +kernel
theorem dX1_letDepart_51 : decode cX1_letDepart 51 = .ok (.pop, 1) := by decide +kernel
theorem dX1_letDepart_52 : decode cX1_letDepart 52 = .ok (.aload_n 1, 1) := by decide +kernel
theorem dX1_letDepart_53 : decode cX1_letDepart 53 = .ok (.getfield 246, 3) := by decide +kernel
theorem dX1_letDepart_56 : decode cX1_letDepart 56 = .ok (.ireturn, 1) := by decide +kernel
theorem dX1_admitTrain_0 : decode cX1_admitTrain 0 = .ok (.aload_n 0, 1) := by decide +kernel
theorem dX1_admitTrain_1 : decode cX1_admitTrain 1 = .ok (.aload_n 1, 1) := by decide +kernel
theorem dX1_admitTrain_2 : decode cX1_admitTrain 2 = .ok (.invokevirtual 249, 3) := by decide +kernel
theorem dX1_admitTrain_5 : decode cX1_admitTrain 5 = .ok (.astore_n 2, 1) := by decide +kernel
theorem dX1_admitTrain_6 : decode cX1_admitTrain 6 = .ok (.aload_n 2, 1) := by decide +kernel
theorem dX1_admitTrain_7 : decode cX1_admitTrain 7 = .ok (.ifnull 25, 3) := by decide +kernel
theorem dX1_admitTrain_10 : decode cX1_admitTrain 10 = .ok (.aload_n 2, 1) := by decide +kernel
theorem dX1_admitTrain_11 : decode cX1_admitTrain 11 = .ok (.getfield 246, 3) := by decide +kernel
theorem dX1_admitTrain_14 : decode cX1_admitTrain 14 = .ok (.ifCond .gt 18, 3) := by decide +kernel
theorem dX1_admitTrain_17 : decode cX1_admitTrain 17 = .ok (.aload_n 0, 1) := by decide +kernel
theorem dX1_admitTrain_18 : decode cX1_admitTrain 18 = .ok (.aload_n 1, 1) := by decide +kernel
theorem dX1_admitTrain_19 : decode cX1_admitTrain 19 = .ok (.invokevirtual 207, 3) := by decide +kernel
theorem dX1_admitTrain_22 : decode cX1_admitTrain 22 = .ok (.aload_n 1, 1) := by decide +kernel
theorem dX1_admitTrain_23 : decode cX1_admitTrain 23 = .ok (.getfield 220, 3) := by decide +kernel
theorem dX1_admitTrain_26 : decode cX1_admitTrain 26 = .ok (.invokevirtual 145, 3) := by decide +kernel
theorem dX1_admitTrain_29 : decode cX1_admitTrain 29 = .ok (.ifCond .ne 6, 3) := by decide +kernel
theorem dX1_admitTrain_32 : decode cX1_admitTrain 32 = .ok (.bipush (-5), 2) := by decide +kernel
theorem dX1_admitTrain_34 : decode cX1_admitTrain 34 = .ok (.ireturn, 1) := by decide +kernel
theorem dX1_admitTrain_35 : decode cX1_admitTrain 35 = .ok (.aload_n 2, 1) := by decide +kernel
theorem dX1_admitTrain_36 : decode cX1_admitTrain 36 = .ok (.iconst 0, 1) := by decide +kernel
theorem dX1_admitTrain_37 : decode cX1_admitTrain 37 = .ok (.aload_n 1, 1) := by decide +kernel
theorem dX1_admitTrain_38 : decode cX1_admitTrain 38 = .ok (.invokevirtual 207, 3) := by decide +kernel
theorem dX1_admitTrain_41 : decode cX1_admitTrain 41 = .ok (.invokevirtual 179, 3) := by decide +kernel
theorem dX1_admitTrain_44 : decode cX1_admitTrain 44 = .ok (.aload_n 2, 1) := by decide +kernel
theorem dX1_admitTrain_45 : decode cX1_admitTrain 45 = .ok (.getfield 153, 3) := by decide +kernel
theorem dX1_admitTrain_48 : decode cX1_admitTrain 48 = .ok (.ireturn, 1) := by decide +kernel
theorem dX1_reportOut_0 : decode cX1_reportOut 0 = .ok (.aload_n 1, 1) := by decide +kernel
theorem dX1_reportOut_1 : decode cX1_reportOut 1 = .ok (.getfield 125, 3) := by decide +kernel
theorem dX1_reportOut_4 : decode cX1_reportOut 4 = .ok (.iconst 2, 1) := by decide +kernel
theorem dX1_reportOut_5 : decode cX1_reportOut 5 = .ok (.if_icmp .ne 18, 3) := by decide +kernel
theorem dX1_reportOut_8 : decode cX1_reportOut 8 = .ok (.aload_n 1, 1) := by decide +kernel
theorem dX1_reportOut_9 : decode cX1_reportOut 9 = .ok (.getfield 197, 3) := by decide +kernel
theorem dX1_reportOut_12 : decode cX1_reportOut 12 = .ok (.ifCond .ne 11, 3) := by decide +kernel
theorem dX1_reportOut_15 : decode cX1_reportOut 15 = .ok (.aload_n 0, 1) := by decide +kernel
theorem dX1_reportOut_16 : decode cX1_reportOut 16 = .ok (.aload_n 1, 1) := by decide +kernel
theorem dX1_reportOut_17 : decode cX1_reportOut 17 = .ok (.invokevirtual 249, 3) := by decide +kernel
theorem dX1_reportOut_20 : decode cX1_reportOut 20 = .ok (.ifnull 6, 3) := by decide +kernel
theorem dX1_reportOut_23 : decode cX1_reportOut 23 = .ok (.bipush (-5), 2) := by decide +kernel
theorem dX1_reportOut_25 : decode cX1_reportOut 25 = .ok (.ireturn, 1) := by decide +kernel
theorem dX1_reportOut_26 : decode cX1_reportOut 26 = .ok (.aload_n 1, 1) := by decide +kernel
theorem dX1_reportOut_27 : decode cX1_reportOut 27 = .ok (.invokevirtual 253, 3) := by decide +kernel
theorem dX1_reportOut_30 : decode cX1_reportOut 30 = .ok (.aload_n 0, 1) := by decide +kernel
theorem dX1_reportOut_31 : decode cX1_reportOut 31 = .ok (.aload_n 1, 1) := by decide +kernel
theorem dX1_reportOut_32 : decode cX1_reportOut 32 = .ok (.bipush 21, 2) := by decide +kernel
theorem dX1_reportOut_34 : decode cX1_reportOut 34 = .ok (.invokevirtual 228, 3) := by decide +kernel
theorem dX1_reportOut_37 : decode cX1_reportOut 37 = .ok (.ireturn, 1) := by decide +kernel
theorem dX1_sendEngine_0 : decode cX1_sendEngine 0 = .ok (.aload_n 1, 1) := by decide +kernel
theorem dX1_sendEngine_1 : decode cX1_sendEngine 1 = .ok (.getfield 197, 3) := by decide +kernel
theorem dX1_sendEngine_4 : decode cX1_sendEngine 4 = .ok (.ifCond .eq 18, 3) := by decide +kernel
theorem dX1_sendEngine_7 : decode cX1_sendEngine 7 = .ok (.aload_n 1, 1) := by decide +kernel
theorem dX1_sendEngine_8 : decode cX1_sendEngine 8 = .ok (.getfield 256, 3) := by decide +kernel
theorem dX1_sendEngine_11 : decode cX1_sendEngine 11 = .ok (.ifCond .gt 11, 3) := by decide +kernel
theorem dX1_sendEngine_14 : decode cX1_sendEngine 14 = .ok (.aload_n 0, 1) := by decide +kernel
theorem dX1_sendEngine_15 : decode cX1_sendEngine 15 = .ok (.aload_n 1, 1) := by decide +kernel
theorem dX1_sendEngine_16 : decode cX1_sendEngine 16 = .ok (.invokevirtual 249, 3) := by decide +kernel
theorem dX1_sendEngine_19 : decode cX1_sendEngine 19 = .ok (.ifnull 6, 3) := by decide +kernel
theorem dX1_sendEngine_22 : decode cX1_sendEngine 22 = .ok (.bipush (-5), 2) := by decide +kernel
theorem dX1_sendEngine_24 : decode cX1_sendEngine 24 = .ok (.ireturn, 1) := by decide +kernel
theorem dX1_sendEngine_25 : decode cX1_sendEngine 25 = .ok (.aload_n 1, 1) := by decide +kernel
theorem dX1_sendEngine_26 : decode cX1_sendEngine 26 = .ok (.iconst 2, 1) := by decide +kernel
theorem dX1_sendEngine_27 : decode cX1_sendEngine 27 = .ok (.aload_n 1, 1) := by decide +kernel
theorem dX1_sendEngine_28 : decode cX1_sendEngine 28 = .ok (.getfield 131, 3) := by decide +kernel
theorem dX1_sendEngine_31 : decode cX1_sendEngine 31 = .ok (.getfield 259, 3) := by decide +kernel
theorem dX1_sendEngine_34 : decode cX1_sendEngine 34 = .ok (.imul, 1) := by decide +kernel
theorem dX1_sendEngine_35 : decode cX1_sendEngine 35 = .ok (.putfield 256, 3) := by decide +kernel
theorem dX1_sendEngine_38 : decode cX1_sendEngine 38 = .ok (.aload_n 0, 1) := by decide +kernel
theorem dX1_sendEngine_39 : decode cX1_sendEngine 39 = .ok (.aload_n 1, 1) := by decide +kernel
theorem dX1_sendEngine_40 : decode cX1_sendEngine 40 = .ok (.bipush 22, 2) := by decide +kernel
theorem dX1_sendEngine_42 : decode cX1_sendEngine 42 = .ok (.invokevirtual 216, 3) := by decide +kernel
theorem dX1_sendEngine_45 : decode cX1_sendEngine 45 = .ok (.pop, 1) := by decide +kernel
theorem dX1_sendEngine_46 : decode cX1_sendEngine 46 = .ok (.aload_n 1, 1) := by decide +kernel
theorem dX1_sendEngine_47 : decode cX1_sendEngine 47 = .ok (.getfield 256, 3) := by decide +kernel
theorem dX1_sendEngine_50 : decode cX1_sendEngine 50 = .ok (.ireturn, 1) := by decide +kernel
theorem dX1_obstructBlock_0 : decode cX1_obstructBlock 0 = .ok (.aload_n 1, 1) := by decide +kernel
theorem dX1_obstructBlock_1 : decode cX1_obstructBlock 1 = .ok (.getfield 125, 3) := by decide +kernel
theorem dX1_obstructBlock_4 : decode cX1_obstructBlock 4 = .ok (.istore_n 2, 1) := by decide +kernel
theorem dX1_obstructBlock_5 : decode cX1_obstructBlock 5 = .ok (.iload_n 2, 1) := by decide +kernel
theorem dX1_obstructBlock_6 : decode cX1_obstructBlock 6 = .ok (.ifCond .eq 11, 3) := by decide +kernel
theorem dX1_obstructBlock_9 : decode cX1_obstructBlock 9 = .ok (.iload_n 2, 1) := by decide +kernel
theorem dX1_obstructBlock_10 : decode cX1_obstructBlock 10 = .ok (.iconst 1, 1) := by decide +kernel
theorem dX1_obstructBlock_11 : decode cX1_obstructBlock 11 = .ok (.if_icmp .eq 6, 3) := by decide +kernel
theorem dX1_obstructBlock_14 : decode cX1_obstructBlock 14 = .ok (.bipush (-5), 2) := by decide +kernel
theorem dX1_obstructBlock_16 : decode cX1_obstructBlock 16 = .ok (.ireturn, 1) := by decide +kernel
theorem dX1_obstructBlock_17 : decode cX1_obstructBlock 17 = .ok (.aload_n 1, 1) := by decide +kernel
theorem dX1_obstructBlock_18 : decode cX1_obstructBlock 18 = .ok (.iconst 3, 1) := by decide +kernel
theorem dX1_obstructBlock_19 : decode cX1_obstructBlock 19 = .ok (.invokevirtual 240, 3) := by decide +kernel
theorem dX1_obstructBlock_22 : decode cX1_obstructBlock 22 = .ok (.aload_n 0, 1) := by decide +kernel
theorem dX1_obstructBlock_23 : decode cX1_obstructBlock 23 = .ok (.aload_n 1, 1) := by decide +kernel
theorem dX1_obstructBlock_24 : decode cX1_obstructBlock 24 = .ok (.bipush 6, 2) := by decide +kernel
theorem dX1_obstructBlock_26 : decode cX1_obstructBlock 26 = .ok (.invokevirtual 228, 3) := by decide +kernel
theorem dX1_obstructBlock_29 : decode cX1_obstructBlock 29 = .ok (.pop, 1) := by decide +kernel
theorem dX1_obstructBlock_30 : decode cX1_obstructBlock 30 = .ok (.iload_n 2, 1) := by decide +kernel
theorem dX1_obstructBlock_31 : decode cX1_obstructBlock 31 = .ok (.ireturn, 1) := by decide +kernel
theorem dX1_liftBlock_0 : decode cX1_liftBlock 0 = .ok (.aload_n 1, 1) := by decide +kernel
theorem dX1_liftBlock_1 : decode cX1_liftBlock 1 = .ok (.getfield 125, 3) := by decide +kernel
theorem dX1_liftBlock_4 : decode cX1_liftBlock 4 = .ok (.iconst 3, 1) := by decide +kernel
theorem dX1_liftBlock_5 : decode cX1_liftBlock 5 = .ok (.if_icmp .eq 6, 3) := by decide +kernel
theorem dX1_liftBlock_8 : decode cX1_liftBlock 8 = .ok (.bipush (-5), 2) := by decide +kernel
theorem dX1_liftBlock_10 : decode cX1_liftBlock 10 = .ok (.ireturn, 1) := by decide +kernel
theorem dX1_liftBlock_11 : decode cX1_liftBlock 11 = .ok (.aload_n 1, 1) := by decide +kernel
theorem dX1_liftBlock_12 : decode cX1_liftBlock 12 = .ok (.iconst 0, 1) := by decide +kernel
theorem dX1_liftBlock_13 : decode cX1_liftBlock 13 = .ok (.putfield 125, 3) := by decide +kernel
theorem dX1_liftBlock_16 : decode cX1_liftBlock 16 = .ok (.aload_n 0, 1) := by decide +kernel
theorem dX1_liftBlock_17 : decode cX1_liftBlock 17 = .ok (.aload_n 1, 1) := by decide +kernel
theorem dX1_liftBlock_18 : decode cX1_liftBlock 18 = .ok (.bipush 13, 2) := by decide +kernel
theorem dX1_liftBlock_20 : decode cX1_liftBlock 20 = .ok (.invokevirtual 228, 3) := by decide +kernel
theorem dX1_liftBlock_23 : decode cX1_liftBlock 23 = .ok (.ireturn, 1) := by decide +kernel
theorem dX1_letPass_0 : decode cX1_letPass 0 = .ok (.iconst 0, 1) := by decide +kernel
theorem dX1_letPass_1 : decode cX1_letPass 1 = .ok (.istore_n 2, 1) := by decide +kernel
theorem dX1_letPass_2 : decode cX1_letPass 2 = .ok (.iload_n 2, 1) := by decide +kernel
theorem dX1_letPass_3 : decode cX1_letPass 3 = .ok (.aload_n 0, 1) := by decide +kernel
theorem dX1_letPass_4 : decode cX1_letPass 4 = .ok (.getfield 67, 3) := by decide +kernel
theorem dX1_letPass_7 : decode cX1_letPass 7 = .ok (.if_icmp .ge 19, 3) := by decide +kernel
theorem dX1_letPass_10 : decode cX1_letPass 10 = .ok (.aload_n 0, 1) := by decide +kernel
theorem dX1_letPass_11 : decode cX1_letPass 11 = .ok (.getfield 31, 3) := by decide +kernel
theorem dX1_letPass_14 : decode cX1_letPass 14 = .ok (.iload_n 2, 1) := by decide +kernel
theorem dX1_letPass_15 : decode cX1_letPass 15 = .ok (.aaload, 1) := by decide +kernel
theorem dX1_letPass_16 : decode cX1_letPass 16 = .ok (.iload_n 1, 1) := by decide +kernel
theorem dX1_letPass_17 : decode cX1_letPass 17 = .ok (.invokevirtual 262, 3) := by decide +kernel
theorem dX1_letPass_20 : decode cX1_letPass 20 = .ok (.iinc 2 1, 3) := by decide +kernel
theorem dX1_letPass_23 : decode cX1_letPass 23 = .ok (.goto (-21), 3) := by decide +kernel
theorem dX1_letPass_26 : decode cX1_letPass 26 = .ok (.iconst 0, 1) := by decide +kernel
theorem dX1_letPass_27 : decode cX1_letPass 27 = .ok (.istore_n 2, 1) := by decide +kernel
theorem dX1_letPass_28 : decode cX1_letPass 28 = .ok (.iload_n 2, 1) := by decide +kernel
theorem dX1_letPass_29 : decode cX1_letPass 29 = .ok (.aload_n 0, 1) := by decide +kernel
theorem dX1_letPass_30 : decode cX1_letPass 30 = .ok (.invokevirtual 138, 3) := by decide +kernel
theorem dX1_letPass_33 : decode cX1_letPass 33 = .ok (.if_icmp .ge 19, 3) := by decide +kernel
theorem dX1_letPass_36 : decode cX1_letPass 36 = .ok (.aload_n 0, 1) := by decide +kernel
theorem dX1_letPass_37 : decode cX1_letPass 37 = .ok (.getfield 19, 3) := by decide +kernel
theorem dX1_letPass_40 : decode cX1_letPass 40 = .ok (.iload_n 2, 1) := by decide +kernel
theorem dX1_letPass_41 : decode cX1_letPass 41 = .ok (.aaload, 1) := by decide +kernel
theorem dX1_letPass_42 : decode cX1_letPass 42 = .ok (.iload_n 1, 1) := by decide +kernel
theorem dX1_letPass_43 : decode cX1_letPass 43 = .ok (.invokevirtual 265, 3) := by decide +kernel
theorem dX1_letPass_46 : decode cX1_letPass 46 = .ok (.iinc 2 1, 3) := by decide +kernel
theorem dX1_letPass_49 : decode cX1_letPass 49 = .ok (.goto (-21), 3) := by decide +kernel
theorem dX1_letPass_52 : decode cX1_letPass 52 = .ok (.aload_n 0, 1) := by decide +kernel
theorem dX1_letPass_53 : decode cX1_letPass 53 = .ok (.dup, 1) := by decide +kernel
theorem dX1_letPass_54 : decode cX1_letPass 54 = .ok (.getfield 61, 3) := by decide +kernel
theorem dX1_letPass_57 : decode cX1_letPass 57 = .ok (.iload_n 1, 1) := by decide +kernel
theorem dX1_letPass_58 : decode cX1_letPass 58 = .ok (.iadd, 1) := by decide +kernel
theorem dX1_letPass_59 : decode cX1_letPass 59 = .ok (.putfield 61, 3) := by decide +kernel
theorem dX1_letPass_62 : decode cX1_letPass 62 = .ok (.return_, 1) := by decide +kernel
theorem dX1_workTick_0 : decode cX1_workTick 0 = .ok (.aload_n 0, 1) := by decide +kernel
theorem dX1_workTick_1 : decode cX1_workTick 1 = .ok (.invokevirtual 266, 3) := by decide +kernel
theorem dX1_workTick_4 : decode cX1_workTick 4 = .ok (.aload_n 0, 1) := by decide +kernel
theorem dX1_workTick_5 : decode cX1_workTick 5 = .ok (.invokevirtual 269, 3) := by decide +kernel
theorem dX1_workTick_8 : decode cX1_workTick 8 = .ok (.istore_n 1, 1) := by decide +kernel
theorem dX1_workTick_9 : decode cX1_workTick 9 = .ok (.aload_n 0, 1) := by decide +kernel
theorem dX1_workTick_10 : decode cX1_workTick 10 = .ok (.invokevirtual 272, 3) := by decide +kernel
theorem dX1_workTick_13 : decode cX1_workTick 13 = .ok (.aload_n 0, 1) := by decide +kernel
theorem dX1_workTick_14 : decode cX1_workTick 14 = .ok (.invokevirtual 275, 3) := by decide +kernel
theorem dX1_workTick_17 : decode cX1_workTick 17 = .ok (.aload_n 0, 1) := by decide +kernel
theorem dX1_workTick_18 : decode cX1_workTick 18 = .ok (.invokevirtual 278, 3) := by decide +kernel
theorem dX1_workTick_21 : decode cX1_workTick 21 = .ok (.aload_n 0, 1) := by decide +kernel
theorem dX1_workTick_22 : decode cX1_workTick 22 = .ok (.iconst 1, 1) := by decide +kernel
theorem dX1_workTick_23 : decode cX1_workTick 23 = .ok (.invokevirtual 281, 3) := by decide +kernel
theorem dX1_workTick_26 : decode cX1_workTick 26 = .ok (.iload_n 1, 1) := by decide +kernel
theorem dX1_workTick_27 : decode cX1_workTick 27 = .ok (.ireturn, 1) := by decide +kernel
theorem dX1_clearSections_0 : decode cX1_clearSections 0 = .ok (.aload_n 0, 1) := by decide +kernel
theorem dX1_clearSections_1 : decode cX1_clearSections 1 = .ok (.invokevirtual 138, 3) := by decide +kernel
theorem dX1_clearSections_4 : decode cX1_clearSections 4 = .ok (.istore_n 1, 1) := by decide +kernel
theorem dX1_clearSections_5 : decode cX1_clearSections 5 = .ok (.iconst 0, 1) := by decide +kernel
theorem dX1_clearSections_6 : decode cX1_clearSections 6 = .ok (.istore_n 2, 1) := by decide +kernel
theorem dX1_clearSections_7 : decode cX1_clearSections 7 = .ok (.iload_n 2, 1) := by decide +kernel
theorem dX1_clearSections_8 : decode cX1_clearSections 8 = .ok (.iload_n 1, 1) := by decide +kernel
theorem dX1_clearSections_9 : decode cX1_clearSections 9 = .ok (.if_icmp .ge 20, 3) := by decide +kernel
theorem dX1_clearSections_12 : decode cX1_clearSections 12 = .ok (.aload_n 0, 1) := by decide +kernel
theorem dX1_clearSections_13 : decode cX1_clearSections 13 = .ok (.aload_n 0, 1) := by decide +kernel
theorem dX1_clearSections_14 : decode cX1_clearSections 14 = .ok (.getfield 19, 3) := by decide +kernel
theorem dX1_clearSections_17 : decode cX1_clearSections 17 = .ok (.iload_n 2, 1) := by decide +kernel
theorem dX1_clearSections_18 : decode cX1_clearSections 18 = .ok (.aaload, 1) := by decide +kernel
theorem dX1_clearSections_19 : decode cX1_clearSections 19 = .ok (.invokevirtual 282, 3) := by decide +kernel
theorem dX1_clearSections_22 : decode cX1_clearSections 22 = .ok (.pop, 1) := by decide +kernel
theorem dX1_clearSections_23 : decode cX1_clearSections 23 = .ok (.iinc 2 1, 3) := by decide +kernel
theorem dX1_clearSections_26 : decode cX1_clearSections 26 = .ok (.goto (-19), 3) := by decide +kernel
theorem dX1_clearSections_29 : decode cX1_clearSections 29 = .ok (.iconst 0, 1) := by decide +kernel
theorem dX1_clearSections_30 : decode cX1_clearSections 30 = .ok (.istore_n 2, 1) := by decide +kernel
theorem dX1_clearSections_31 : decode cX1_clearSections 31 = .ok (.iload_n 2, 1) := by decide +kernel
theorem dX1_clearSections_32 : decode cX1_clearSections 32 = .ok (.iload_n 1, 1) := by decide +kernel
theorem dX1_clearSections_33 : decode cX1_clearSections 33 = .ok (.if_icmp .ge 20, 3) := by decide +kernel
theorem dX1_clearSections_36 : decode cX1_clearSections 36 = .ok (.aload_n 0, 1) := by decide +kernel
theorem dX1_clearSections_37 : decode cX1_clearSections 37 = .ok (.aload_n 0, 1) := by decide +kernel
theorem dX1_clearSections_38 : decode cX1_clearSections 38 = .ok (.getfield 19, 3) := by decide +kernel
theorem dX1_clearSections_41 : decode cX1_clearSections 41 = .ok (.iload_n 2, 1) := by decide +kernel
theorem dX1_clearSections_42 : decode cX1_clearSections 42 = .ok (.aaload, 1) := by decide +kernel
theorem dX1_clearSections_43 : decode cX1_clearSections 43 = .ok (.invokevirtual 286, 3) := by decide +kernel
theorem dX1_clearSections_46 : decode cX1_clearSections 46 = .ok (.pop, 1) := by decide +kernel
theorem dX1_clearSections_47 : decode cX1_clearSections 47 = .ok (.iinc 2 1, 3) := by decide +kernel
theorem dX1_clearSections_50 : decode cX1_clearSections 50 = .ok (.goto (-19), 3) := by decide +kernel
theorem dX1_clearSections_53 : decode cX1_clearSections 53 = .ok (.iconst 0, 1) := by decide +kernel
theorem dX1_clearSections_54 : decode cX1_clearSections 54 = .ok (.istore_n 2, 1) := by decide +kernel
theorem dX1_clearSections_55 : decode cX1_clearSections 55 = .ok (.iload_n 2, 1) := by decide +kernel
theorem dX1_clearSections_56 : decode cX1_clearSections 56 = .ok (.iload_n 1, 1) := by decide +kernel
theorem dX1_clearSections_57 : decode cX1_clearSections 57 = .ok (.if_icmp .ge 20, 3) := by decide +kernel
theorem dX1_clearSections_60 : decode cX1_clearSections 60 = .ok (.aload_n 0, 1) := by decide +kernel
theorem dX1_clearSections_61 : decode cX1_clearSections 61 = .ok (.aload_n 0, 1) := by decide +kernel
theorem dX1_clearSections_62 : decode cX1_clearSections 62 = .ok (.getfield 19, 3) := by decide +kernel
theorem dX1_clearSections_65 : decode cX1_clearSections 65 = .ok (.iload_n 2, 1) := by decide +kernel
theorem dX1_clearSections_66 : decode cX1_clearSections 66 = .ok (.aaload, 1) := by decide +kernel
theorem dX1_clearSections_67 : decode cX1_clearSections 67 = .ok (.invokevirtual 289, 3) := by decide +kernel
theorem dX1_clearSections_70 : decode cX1_clearSections 70 = .ok (.pop, 1) := by decide +kernel
theorem dX1_clearSections_71 : decode cX1_clearSections 71 = .ok (.iinc 2 1, 3) := by decide +kernel
theorem dX1_clearSections_74 : decode cX1_clearSections 74 = .ok (.goto (-19), 3) := by decide +kernel
theorem dX1_clearSections_77 : decode cX1_clearSections 77 = .ok (.return_, 1) := by decide +kernel
theorem dX1_leaveAll_0 : decode cX1_leaveAll 0 = .ok (.iconst 0, 1) := by decide +kernel
theorem dX1_leaveAll_1 : decode cX1_leaveAll 1 = .ok (.istore_n 1, 1) := by decide +kernel
theorem dX1_leaveAll_2 : decode cX1_leaveAll 2 = .ok (.iconst 0, 1) := by decide +kernel
theorem dX1_leaveAll_3 : decode cX1_leaveAll 3 = .ok (.istore_n 2, 1) := by decide +kernel
theorem dX1_leaveAll_4 : decode cX1_leaveAll 4 = .ok (.iload_n 2, 1) := by decide +kernel
theorem dX1_leaveAll_5 : decode cX1_leaveAll 5 = .ok (.aload_n 0, 1) := by decide +kernel
theorem dX1_leaveAll_6 : decode cX1_leaveAll 6 = .ok (.getfield 67, 3) := by decide +kernel
theorem dX1_leaveAll_9 : decode cX1_leaveAll 9 = .ok (.if_icmp .ge 25, 3) := by decide +kernel
theorem dX1_leaveAll_12 : decode cX1_leaveAll 12 = .ok (.aload_n 0, 1) := by decide +kernel
theorem dX1_leaveAll_13 : decode cX1_leaveAll 13 = .ok (.aload_n 0, 1) := by decide +kernel
theorem dX1_leaveAll_14 : decode cX1_leaveAll 14 = .ok (.getfield 31, 3) := by decide +kernel
theorem dX1_leaveAll_17 : decode cX1_leaveAll 17 = .ok (.iload_n 2, 1) := by decide +kernel
theorem dX1_leaveAll_18 : decode cX1_leaveAll 18 = .ok (.aaload, 1) := by decide +kernel
theorem dX1_leaveAll_19 : decode cX1_leaveAll 19 = .ok (.invokevirtual 292, 3) := by decide +kernel
theorem dX1_leaveAll_22 : decode cX1_leaveAll 22 = .ok (.ifCond .lt 6, 3) := by decide +kernel
theorem dX1_leaveAll_25 : decode cX1_leaveAll 25 = .ok (.iinc 1 1, 3) := by decide +kernel
theorem dX1_leaveAll_28 : decode cX1_leaveAll 28 = .ok (.iinc 2 1, 3) := by decide +kernel
theorem dX1_leaveAll_31 : decode cX1_leaveAll 31 = .ok (.goto (-27), 3) := by decide +kernel
theorem dX1_leaveAll_34 : decode cX1_leaveAll 34 = .ok (.iload_n 1, 1) := by decide +kernel
theorem dX1_leaveAll_35 : decode cX1_leaveAll 35 = .ok (.ireturn, 1) := by decide +kernel
theorem dX1_offerAll_0 : decode cX1_offerAll 0 = .ok (.iconst 0, 1) := by decide +kernel
theorem dX1_offerAll_1 : decode cX1_offerAll 1 = .ok (.istore_n 1, 1) := by decide +kernel
theorem dX1_offerAll_2 : decode cX1_offerAll 2 = .ok (.iload_n 1, 1) := by decide +kernel
theorem dX1_offerAll_3 : decode cX1_offerAll 3 = .ok (.aload_n 0, 1) := by decide +kernel
theorem dX1_offerAll_4 : decode cX1_offerAll 4 = .ok (.getfield 67, 3) := by decide +kernel
theorem dX1_offerAll_7 : decode cX1_offerAll 7 = .ok (.if_icmp .ge 20, 3) := by decide +kernel
theorem dX1_offerAll_10 : decode cX1_offerAll 10 = .ok (.aload_n 0, 1) := by decide +kernel
theorem dX1_offerAll_11 : decode cX1_offerAll 11 = .ok (.aload_n 0, 1) := by decide +kernel
theorem dX1_offerAll_12 : decode cX1_offerAll 12 = .ok (.getfield 31, 3) := by decide +kernel
theorem dX1_offerAll_15 : decode cX1_offerAll 15 = .ok (.iload_n 1, 1) := by decide +kernel
theorem dX1_offerAll_16 : decode cX1_offerAll 16 = .ok (.aaload, 1) := by decide +kernel
theorem dX1_offerAll_17 : decode cX1_offerAll 17 = .ok (.invokevirtual 295, 3) := by decide +kernel
theorem dX1_offerAll_20 : decode cX1_offerAll 20 = .ok (.pop, 1) := by decide +kernel
theorem dX1_offerAll_21 : decode cX1_offerAll 21 = .ok (.iinc 1 1, 3) := by decide +kernel
theorem dX1_offerAll_24 : decode cX1_offerAll 24 = .ok (.goto (-22), 3) := by decide +kernel
theorem dX1_offerAll_27 : decode cX1_offerAll 27 = .ok (.return_, 1) := by decide +kernel
theorem dX1_answerAll_0 : decode cX1_answerAll 0 = .ok (.iconst 0, 1) := by decide +kernel
theorem dX1_answerAll_1 : decode cX1_answerAll 1 = .ok (.istore_n 1, 1) := by decide +kernel
theorem dX1_answerAll_2 : decode cX1_answerAll 2 = .ok (.iload_n 1, 1) := by decide +kernel
theorem dX1_answerAll_3 : decode cX1_answerAll 3 = .ok (.aload_n 0, 1) := by decide +kernel
theorem dX1_answerAll_4 : decode cX1_answerAll 4 = .ok (.invokevirtual 138, 3) := by decide +kernel
theorem dX1_answerAll_7 : decode cX1_answerAll 7 = .ok (.if_icmp .ge 33, 3) := by decide +kernel
theorem dX1_answerAll_10 : decode cX1_answerAll 10 = .ok (.aload_n 0, 1) := by decide +kernel
theorem dX1_answerAll_11 : decode cX1_answerAll 11 = .ok (.aload_n 0, 1) := by decide +kernel
theorem dX1_answerAll_12 : decode cX1_answerAll 12 = .ok (.getfield 19, 3) := by decide +kernel
theorem dX1_answerAll_15 : decode cX1_answerAll 15 = .ok (.iload_n 1, 1) := by decide +kernel
theorem dX1_answerAll_16 : decode cX1_answerAll 16 = .ok (.aaload, 1) := by decide +kernel
theorem dX1_answerAll_17 : decode cX1_answerAll 17 = .ok (.invokevirtual 298, 3) := by decide +kernel
theorem dX1_answerAll_20 : decode cX1_answerAll 20 = .ok (.ifCond .ge 14, 3) := by decide +kernel
theorem dX1_answerAll_23 : decode cX1_answerAll 23 = .ok (.aload_n 0, 1) := by decide +kernel
theorem dX1_answerAll_24 : decode cX1_answerAll 24 = .ok (.aload_n 0, 1) := by decide +kernel
theorem dX1_answerAll_25 : decode cX1_answerAll 25 = .ok (.getfield 19, 3) := by decide +kernel
theorem dX1_answerAll_28 : decode cX1_answerAll 28 = .ok (.iload_n 1, 1) := by decide +kernel
theorem dX1_answerAll_29 : decode cX1_answerAll 29 = .ok (.aaload, 1) := by decide +kernel
theorem dX1_answerAll_30 : decode cX1_answerAll 30 = .ok (.invokevirtual 301, 3) := by decide +kernel
theorem dX1_answerAll_33 : decode cX1_answerAll 33 = .ok (.pop, 1) := by decide +kernel
theorem dX1_answerAll_34 : decode cX1_answerAll 34 = .ok (.iinc 1 1, 3) := by decide +kernel
theorem dX1_answerAll_37 : decode cX1_answerAll 37 = .ok (.goto (-35), 3) := by decide +kernel
theorem dX1_answerAll_40 : decode cX1_answerAll 40 = .ok (.return_, 1) := by decide +kernel
theorem dX1_departAll_0 : decode cX1_departAll 0 = .ok (.iconst 0, 1) := by decide +kernel
theorem dX1_departAll_1 : decode cX1_departAll 1 = .ok (.istore_n 1, 1) := by decide +kernel
theorem dX1_departAll_2 : decode cX1_departAll 2 = .ok (.iload_n 1, 1) := by decide +kernel
theorem dX1_departAll_3 : decode cX1_departAll 3 = .ok (.aload_n 0, 1) := by decide +kernel
theorem dX1_departAll_4 : decode cX1_departAll 4 = .ok (.getfield 67, 3) := by decide +kernel
theorem dX1_departAll_7 : decode cX1_departAll 7 = .ok (.if_icmp .ge 20, 3) := by decide +kernel
theorem dX1_departAll_10 : decode cX1_departAll 10 = .ok (.aload_n 0, 1) := by decide +kernel
theorem dX1_departAll_11 : decode cX1_departAll 11 = .ok (.aload_n 0, 1) := by decide +kernel
theorem dX1_departAll_12 : decode cX1_departAll 12 = .ok (.getfield 31, 3) := by decide +kernel
theorem dX1_departAll_15 : decode cX1_departAll 15 = .ok (.iload_n 1, 1) := by decide +kernel
theorem dX1_departAll_16 : decode cX1_departAll 16 = .ok (.aaload, 1) := by decide +kernel
theorem dX1_departAll_17 : decode cX1_departAll 17 = .ok (.invokevirtual 304, 3) := by decide +kernel
theorem dX1_departAll_20 : decode cX1_departAll 20 = .ok (.pop, 1) := by decide +kernel
theorem dX1_departAll_21 : decode cX1_departAll 21 = .ok (.iinc 1 1, 3) := by decide +kernel
theorem dX1_departAll_24 : decode cX1_departAll 24 = .ok (.goto (-22), 3) := by decide +kernel
theorem dX1_departAll_27 : decode cX1_departAll 27 = .ok (.return_, 1) := by decide +kernel
theorem dX2_init_0 : decode cX2_init 0 = .ok (.aload_n 0, 1) := by decide +kernel
theorem dX2_init_1 : decode cX2_init 1 = .ok (.invokespecial 3, 3) := by decide +kernel
theorem dX2_init_4 : decode cX2_init 4 = .ok (.aload_n 0, 1) := by decide +kernel
theorem dX2_init_5 : decode cX2_init 5 = .ok (.bipush 60, 2) := by decide +kernel
theorem dX2_init_7 : decode cX2_init 7 = .ok (.newarray .int, 2) := by decide +kernel
theorem dX2_init_9 : decode cX2_init 9 = .ok (.putfield 9, 3) := by decide +kernel
theorem dX2_init_12 : decode cX2_init 12 = .ok (.return_, 1) := by decide +kernel
theorem dX2_append_0 : decode cX2_append 0 = .ok (.aload_n 0, 1) := by decide +kernel
theorem dX2_append_1 : decode cX2_append 1 = .ok (.getfield 15, 3) := by decide +kernel
theorem dX2_append_4 : decode cX2_append 4 = .ok (.bipush 60, 2) := by decide +kernel
theorem dX2_append_6 : decode cX2_append 6 = .ok (.if_icmp .lt 6, 3) := by decide +kernel
theorem dX2_append_9 : decode cX2_append 9 = .ok (.bipush (-4), 2) := by decide +kernel
theorem dX2_append_11 : decode cX2_append 11 = .ok (.ireturn, 1) := by decide +kernel
theorem dX2_append_12 : decode cX2_append 12 = .ok (.aload_n 0, 1) := by decide +kernel
theorem dX2_append_13 : decode cX2_append 13 = .ok (.getfield 9, 3) := by decide +kernel
theorem dX2_append_16 : decode cX2_append 16 = .ok (.aload_n 0, 1) := by decide +kernel
theorem dX2_append_17 : decode cX2_append 17 = .ok (.getfield 15, 3) := by decide +kernel
theorem dX2_append_20 : decode cX2_append 20 = .ok (.iload_n 1, 1) := by decide +kernel
theorem dX2_append_21 : decode cX2_append 21 = .ok (.iastore, 1) := by decide +kernel
theorem dX2_append_22 : decode cX2_append 22 = .ok (.aload_n 0, 1) := by decide +kernel
theorem dX2_append_23 : decode cX2_append 23 = .ok (.dup, 1) := by decide +kernel
theorem dX2_append_24 : decode cX2_append 24 = .ok (.getfield 15, 3) := by decide +kernel
theorem dX2_append_27 : decode cX2_append 27 = .ok (.iconst 1, 1) := by decide +kernel
theorem dX2_append_28 : decode cX2_append 28 = .ok (.iadd, 1) := by decide +kernel
theorem dX2_append_29 : decode cX2_append 29 = .ok (.putfield 15, 3) := by decide +kernel
theorem dX2_append_32 : decode cX2_append 32 = .ok (.aload_n 0, 1) := by decide +kernel
theorem dX2_append_33 : decode cX2_append 33 = .ok (.getfield 15, 3) := by decide +kernel
theorem dX2_append_36 : decode cX2_append 36 = .ok (.ireturn, 1) := by decide +kernel
theorem dX2_empty_0 : decode cX2_empty 0 = .ok (.aload_n 0, 1) := by decide +kernel
theorem dX2_empty_1 : decode cX2_empty 1 = .ok (.getfield 15, 3) := by decide +kernel
theorem dX2_empty_4 : decode cX2_empty 4 = .ok (.istore_n 1, 1) := by decide +kernel
theorem dX2_empty_5 : decode cX2_empty 5 = .ok (.aload_n 0, 1) := by decide +kernel
theorem dX2_empty_6 : decode cX2_empty 6 = .ok (.iconst 0, 1) := by decide +kernel
theorem dX2_empty_7 : decode cX2_empty 7 = .ok (.putfield 15, 3) := by decide +kernel
theorem dX2_empty_10 : decode cX2_empty 10 = .ok (.iload_n 1, 1) := by decide +kernel
theorem dX2_empty_11 : decode cX2_empty 11 = .ok (.ireturn, 1) := by decide +kernel
theorem dX2_firstFault_0 : decode cX2_firstFault 0 = .ok (.iconst 0, 1) := by decide +kernel
theorem dX2_firstFault_1 : decode cX2_firstFault 1 = .ok (.istore_n 1, 1) := by decide +kernel
theorem dX2_firstFault_2 : decode cX2_firstFault 2 = .ok (.iconst 0, 1) := by decide +kernel
theorem dX2_firstFault_3 : decode cX2_firstFault 3 = .ok (.istore_n 2, 1) := by decide +kernel
theorem dX2_firstFault_4 : decode cX2_firstFault 4 = .ok (.iload_n 2, 1) := by decide +kernel
theorem dX2_firstFault_5 : decode cX2_firstFault 5 = .ok (.aload_n 0, 1) := by decide +kernel
theorem dX2_firstFault_6 : decode cX2_firstFault 6 = .ok (.getfield 15, 3) := by decide +kernel
theorem dX2_firstFault_9 : decode cX2_firstFault 9 = .ok (.if_icmp .ge 27, 3) := by decide +kernel
theorem dX2_firstFault_12 : decode cX2_firstFault 12 = .ok (.iload_n 1, 1) := by decide +kernel
theorem dX2_firstFault_13 : decode cX2_firstFault 13 = .ok (.aload_n 0, 1) := by decide +kernel
theorem dX2_firstFault_14 : decode cX2_firstFault 14 = .ok (.getfield 9, 3) := by decide +kernel
theorem dX2_firstFault_17 : decode cX2_firstFault 17 = .ok (.iload_n 2, 1) := by decide +kernel
theorem dX2_firstFault_18 : decode cX2_firstFault 18 = .ok (.iaload, 1) := by decide +kernel
theorem dX2_firstFault_19 : decode cX2_firstFault 19 = .ok (.invokestatic 19, 3) := by decide +kernel
theorem dX2_firstFault_22 : decode cX2_firstFault 22 = .ok (.istore_n 1, 1) := by decide +kernel
theorem dX2_firstFault_23 : decode cX2_firstFault 23 = .ok (.iload_n 1, 1) := by decide +kernel
theorem dX2_firstFault_24 : decode cX2_firstFault 24 = .ok (.iconst (-1), 1) := by decide +kernel
theorem dX2_firstFault_25 : decode cX2_firstFault 25 = .ok (.if_icmp .ne 5, 3) := by decide +kernel
theorem dX2_firstFault_28 : decode cX2_firstFault 28 = .ok (.iload_n 2, 1) := by decide +kernel
theorem dX2_firstFault_29 : decode cX2_firstFault 29 = .ok (.ireturn, 1) := by decide +kernel
theorem dX2_firstFault_30 : decode cX2_firstFault 30 = .ok (.iinc 2 1, 3) := by decide +kernel
theorem dX2_firstFault_33 : decode cX2_firstFault 33 = .ok (.goto (-29), 3) := by decide +kernel
theorem dX2_firstFault_36 : decode cX2_firstFault 36 = .ok (.iload_n 1, 1) := by decide +kernel
theorem dX2_firstFault_37 : decode cX2_firstFault 37 = .ok (.bipush 7, 2) := by decide +kernel
theorem dX2_firstFault_39 : decode cX2_firstFault 39 = .ok (.if_icmp .eq 14, 3) := by decide +kernel
theorem dX2_firstFault_42 : decode cX2_firstFault 42 = .ok (.iload_n 1, 1) := by decide +kernel
theorem dX2_firstFault_43 : decode cX2_firstFault 43 = .ok (.iconst 2, 1) := by decide +kernel
theorem dX2_firstFault_44 : decode cX2_firstFault 44 = .ok (.if_icmp .eq 9, 3) := by decide +kernel
theorem dX2_firstFault_47 : decode cX2_firstFault 47 = .ok (.iload_n 1, 1) := by decide +kernel
theorem dX2_firstFault_48 : decode cX2_firstFault 48 = .ok (.bipush 6, 2) := by decide +kernel
theorem dX2_firstFault_50 : decode cX2_firstFault 50 = .ok (.if_icmp .ne 7, 3) := by decide +kernel
theorem dX2_firstFault_53 : decode cX2_firstFault 53 = .ok (.iconst 1, 1) := by decide +kernel
theorem dX2_firstFault_54 : decode cX2_firstFault 54 = .ok (.goto 4, 3) := by decide +kernel
theorem dX2_firstFault_57 : decode cX2_firstFault 57 = .ok (.iconst 0, 1) := by decide +kernel
theorem dX2_firstFault_58 : decode cX2_firstFault 58 = .ok (.istore_n 2, 1) := by decide +kernel
theorem dX2_firstFault_59 : decode cX2_firstFault 59 = .ok (.iload_n 2, 1) := by decide +kernel
theorem dX2_firstFault_60 : decode cX2_firstFault 60 = .ok (.ifCond .eq 8, 3) := by decide +kernel
theorem dX2_firstFault_63 : decode cX2_firstFault 63 = .ok (.bipush (-6), 2) := by decide +kernel
theorem dX2_firstFault_65 : decode cX2_firstFault 65 = .ok (.goto 7, 3) := by decide +kernel
theorem dX2_firstFault_68 : decode cX2_firstFault 68 = .ok (.aload_n 0, 1) := by decide +kernel
theorem dX2_firstFault_69 : decode cX2_firstFault 69 = .ok (.getfield 15, 3) := by decide +kernel
theorem dX2_firstFault_72 : decode cX2_firstFault 72 = .ok (.ireturn, 1) := by decide +kernel
theorem dX2_after_0 : decode cX2_after 0 = .ok (.iload_n 0, 1) := by decide +kernel
theorem dX2_after_1 : decode cX2_after 1 = .ok (.tableswitch 172 0 6 #[43, 48, 76, 97, 114, 133, 151], 43) := by decide +kernel
theorem dX2_after_44 : decode cX2_after 44 = .ok (.iload_n 1, 1) := by decide +kernel
theorem dX2_after_45 : decode cX2_after 45 = .ok (.invokestatic 23, 3) := by decide +kernel
theorem dX2_after_48 : decode cX2_after 48 = .ok (.ireturn, 1) := by decide +kernel
theorem dX2_after_49 : decode cX2_after 49 = .ok (.iload_n 1, 1) := by decide +kernel
theorem dX2_after_50 : decode cX2_after 50 = .ok (.bipush 49, 2) := by decide +kernel
theorem dX2_after_52 : decode cX2_after 52 = .ok (.if_icmp .ne 7, 3) := by decide +kernel
theorem dX2_after_55 : decode cX2_after 55 = .ok (.iconst 2, 1) := by decide +kernel
theorem dX2_after_56 : decode cX2_after 56 = .ok (.goto 20, 3) := by decide +kernel
theorem dX2_after_59 : decode cX2_after 59 = .ok (.iload_n 1, 1) := by decide +kernel
theorem dX2_after_60 : decode cX2_after 60 = .ok (.bipush 48, 2) := by decide +kernel
theorem dX2_after_62 : decode cX2_after 62 = .ok (.bipush 57, 2) := by decide +kernel
theorem dX2_after_64 : decode cX2_after 64 = .ok (.invokestatic 27, 3) := by decide +kernel
theorem dX2_after_67 : decode cX2_after 67 = .ok (.ifCond .eq 8, 3) := by decide +kernel
theorem dX2_after_70 : decode cX2_after 70 = .ok (.bipush 7, 2) := by decide +kernel
theorem dX2_after_72 : decode cX2_after 72 = .ok (.goto 4, 3) := by decide +kernel
theorem dX2_after_75 : decode cX2_after 75 = .ok (.iconst (-1), 1) := by decide +kernel
theorem dX2_after_76 : decode cX2_after 76 = .ok (.ireturn, 1) := by decide +kernel
theorem dX2_after_77 : decode cX2_after 77 = .ok (.iload_n 1, 1) := by decide +kernel
theorem dX2_after_78 : decode cX2_after 78 = .ok (.bipush 48, 2) := by decide +kernel
theorem dX2_after_80 : decode cX2_after 80 = .ok (.bipush 49, 2) := by decide +kernel
theorem dX2_after_82 : decode cX2_after 82 = .ok (.invokestatic 27, 3) := by decide +kernel
theorem dX2_after_85 : decode cX2_after 85 = .ok (.ifCond .eq 8, 3) := by decide +kernel
theorem dX2_after_88 : decode cX2_after 88 = .ok (.bipush 7, 2) := by decide +kernel
theorem dX2_after_90 : decode cX2_after 90 = .ok (.goto 7, 3) := by decide +kernel
theorem dX2_after_93 : decode cX2_after 93 = .ok (.iload_n 1, 1) := by decide +kernel
theorem dX2_after_94 : decode cX2_after 94 = .ok (.invokestatic 31, 3) := by decide +kernel
theorem dX2_after_97 : decode cX2_after 97 = .ok (.ireturn, 1) := by decide +kernel
theorem dX2_after_98 : decode cX2_after 98 = .ok (.iload_n 1, 1) := by decide +kernel
theorem dX2_after_99 : decode cX2_after 99 = .ok (.bipush 48, 2) := by decide +kernel
theorem dX2_after_101 : decode cX2_after 101 = .ok (.bipush 52, 2) := by decide +kernel
theorem dX2_after_103 : decode cX2_after 103 = .ok (.invokestatic 27, 3) := by decide +kernel
theorem dX2_after_106 : decode cX2_after 106 = .ok (.ifCond .eq 7, 3) := by decide +kernel
theorem dX2_after_109 : decode cX2_after 109 = .ok (.iconst 4, 1) := by decide +kernel
theorem dX2_after_110 : decode cX2_after 110 = .ok (.goto 4, 3) := by decide +kernel
theorem dX2_after_113 : decode cX2_after 113 = .ok (.iconst (-1), 1) := by decide +kernel
theorem dX2_after_114 : decode cX2_after 114 = .ok (.ireturn, 1) := by decide +kernel
theorem dX2_after_115 : decode cX2_after 115 = .ok (.iload_n 1, 1) := by decide +kernel
theorem dX2_after_116 : decode cX2_after 116 = .ok (.bipush 43, 2) := by decide +kernel
theorem dX2_after_118 : decode cX2_after 118 = .ok (.if_icmp .eq 9, 3) := by decide +kernel
theorem dX2_after_121 : decode cX2_after 121 = .ok (.iload_n 1, 1) := by decide +kernel
theorem dX2_after_122 : decode cX2_after 122 = .ok (.bipush 45, 2) := by decide +kernel
theorem dX2_after_124 : decode cX2_after 124 = .ok (.if_icmp .ne 8, 3) := by decide +kernel
theorem dX2_after_127 : decode cX2_after 127 = .ok (.bipush 7, 2) := by decide +kernel
theorem dX2_after_129 : decode cX2_after 129 = .ok (.goto 4, 3) := by decide +kernel
theorem dX2_after_132 : decode cX2_after 132 = .ok (.iconst (-1), 1) := by decide +kernel
theorem dX2_after_133 : decode cX2_after 133 = .ok (.ireturn, 1) := by decide +kernel
theorem dX2_after_134 : decode cX2_after 134 = .ok (.iload_n 1, 1) := by decide +kernel
theorem dX2_after_135 : decode cX2_after 135 = .ok (.bipush 49, 2) := by decide +kernel
theorem dX2_after_137 : decode cX2_after 137 = .ok (.bipush 57, 2) := by decide +kernel
theorem dX2_after_139 : decode cX2_after 139 = .ok (.invokestatic 27, 3) := by decide +kernel
theorem dX2_after_142 : decode cX2_after 142 = .ok (.ifCond .eq 8, 3) := by decide +kernel
theorem dX2_after_145 : decode cX2_after 145 = .ok (.bipush 6, 2) := by decide +kernel
theorem dX2_after_147 : decode cX2_after 147 = .ok (.goto 4, 3) := by decide +kernel
theorem dX2_after_150 : decode cX2_after 150 = .ok (.iconst (-1), 1) := by decide +kernel
theorem dX2_after_151 : decode cX2_after 151 = .ok (.ireturn, 1) := by decide +kernel
theorem dX2_after_152 : decode cX2_after 152 = .ok (.iload_n 1, 1) := by decide +kernel
theorem dX2_after_153 : decode cX2_after 153 = .ok (.bipush 48, 2) := by decide +kernel
theorem dX2_after_155 : decode cX2_after 155 = .ok (.bipush 57, 2) := by decide +kernel
theorem dX2_after_157 : decode cX2_after 157 = .ok (.invokestatic 27, 3) := by decide +kernel
theorem dX2_after_160 : decode cX2_after 160 = .ok (.ifCond .eq 8, 3) := by decide +kernel
theorem dX2_after_163 : decode cX2_after 163 = .ok (.bipush 7, 2) := by decide +kernel
theorem dX2_after_165 : decode cX2_after 165 = .ok (.goto 7, 3) := by decide +kernel
theorem dX2_after_168 : decode cX2_after 168 = .ok (.iload_n 1, 1) := by decide +kernel
theorem dX2_after_169 : decode cX2_after 169 = .ok (.invokestatic 31, 3) := by decide +kernel
theorem dX2_after_172 : decode cX2_after 172 = .ok (.ireturn, 1) := by decide +kernel
theorem dX2_after_173 : decode cX2_after 173 = .ok (.iload_n 1, 1) := by decide +kernel
theorem dX2_after_174 : decode cX2_after 174 = .ok (.invokestatic 31, 3) := by decide +kernel
theorem dX2_after_177 : decode cX2_after 177 = .ok (.ireturn, 1) := by decide +kernel
