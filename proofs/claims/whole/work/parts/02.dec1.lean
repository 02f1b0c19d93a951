theorem dX2_afterLetter_0 : decode cX2_afterLetter 0 = .ok (.iload_n 0, 1) := by decide +kernel
theorem dX2_afterLetter_1 : decode cX2_afterLetter 1 = .ok (.tableswitch 121 97 121 #[117, 121, 117, 115, 117, 121, 121, 121, 121, 121, 121, 115, 121, 117, 115, 121, 121, 121, 115, 119, 117, 121, 121, 121, 117], 115) := by decide +kernel
theorem dX2_afterLetter_116 : decode cX2_afterLetter 116 = .ok (.iconst 1, 1) := by decide +kernel
theorem dX2_afterLetter_117 : decode cX2_afterLetter 117 = .ok (.ireturn, 1) := by decide +kernel
theorem dX2_afterLetter_118 : decode cX2_afterLetter 118 = .ok (.iconst 3, 1) := by decide +kernel
theorem dX2_afterLetter_119 : decode cX2_afterLetter 119 = .ok (.ireturn, 1) := by decide +kernel
theorem dX2_afterLetter_120 : decode cX2_afterLetter 120 = .ok (.iconst 5, 1) := by decide +kernel
theorem dX2_afterLetter_121 : decode cX2_afterLetter 121 = .ok (.ireturn, 1) := by decide +kernel
theorem dX2_afterLetter_122 : decode cX2_afterLetter 122 = .ok (.iconst (-1), 1) := by decide +kernel
theorem dX2_afterLetter_123 : decode cX2_afterLetter 123 = .ok (.ireturn, 1) := by decide +kernel
theorem dX2_afterOrder_0 : decode cX2_afterOrder 0 = .ok (.iload_n 0, 1) := by decide +kernel
theorem dX2_afterOrder_1 : decode cX2_afterOrder 1 = .ok (.bipush 44, 2) := by decide +kernel
theorem dX2_afterOrder_3 : decode cX2_afterOrder 3 = .ok (.if_icmp .ne 7, 3) := by decide +kernel
theorem dX2_afterOrder_6 : decode cX2_afterOrder 6 = .ok (.iconst 0, 1) := by decide +kernel
theorem dX2_afterOrder_7 : decode cX2_afterOrder 7 = .ok (.goto 4, 3) := by decide +kernel
theorem dX2_afterOrder_10 : decode cX2_afterOrder 10 = .ok (.iconst (-1), 1) := by decide +kernel
theorem dX2_afterOrder_11 : decode cX2_afterOrder 11 = .ok (.ireturn, 1) := by decide +kernel
theorem dX2_isBetween_0 : decode cX2_isBetween 0 = .ok (.iload_n 0, 1) := by decide +kernel
theorem dX2_isBetween_1 : decode cX2_isBetween 1 = .ok (.iload_n 1, 1) := by decide +kernel
theorem dX2_isBetween_2 : decode cX2_isBetween 2 = .ok (.if_icmp .lt 12, 3) := by decide +kernel
theorem dX2_isBetween_5 : decode cX2_isBetween 5 = .ok (.iload_n 0, 1) := by decide +kernel
theorem dX2_isBetween_6 : decode cX2_isBetween 6 = .ok (.iload_n 2, 1) := by decide +kernel
theorem dX2_isBetween_7 : decode cX2_isBetween 7 = .ok (.if_icmp .gt 7, 3) := by decide +kernel
theorem dX2_isBetween_10 : decode cX2_isBetween 10 = .ok (.iconst 1, 1) := by decide +kernel
theorem dX2_isBetween_11 : decode cX2_isBetween 11 = .ok (.goto 4, 3) := by decide +kernel
theorem dX2_isBetween_14 : decode cX2_isBetween 14 = .ok (.iconst 0, 1) := by decide +kernel
theorem dX2_isBetween_15 : decode cX2_isBetween 15 = .ok (.ireturn, 1) := by decide +kernel
theorem dX2_rewind_0 : decode cX2_rewind 0 = .ok (.aload_n 0, 1) := by decide +kernel
theorem dX2_rewind_1 : decode cX2_rewind 1 = .ok (.iconst 0, 1) := by decide +kernel
theorem dX2_rewind_2 : decode cX2_rewind 2 = .ok (.putfield 34, 3) := by decide +kernel
theorem dX2_rewind_5 : decode cX2_rewind 5 = .ok (.return_, 1) := by decide +kernel
theorem dX2_readOrder_0 : decode cX2_readOrder 0 = .ok (.aload_n 0, 1) := by decide +kernel
theorem dX2_readOrder_1 : decode cX2_readOrder 1 = .ok (.getfield 34, 3) := by decide +kernel
theorem dX2_readOrder_4 : decode cX2_readOrder 4 = .ok (.aload_n 0, 1) := by decide +kernel
theorem dX2_readOrder_5 : decode cX2_readOrder 5 = .ok (.getfield 15, 3) := by decide +kernel
theorem dX2_readOrder_8 : decode cX2_readOrder 8 = .ok (.if_icmp .lt 5, 3) := by decide +kernel
theorem dX2_readOrder_11 : decode cX2_readOrder 11 = .ok (.iconst 0, 1) := by decide +kernel
theorem dX2_readOrder_12 : decode cX2_readOrder 12 = .ok (.ireturn, 1) := by decide +kernel
theorem dX2_readOrder_13 : decode cX2_readOrder 13 = .ok (.aload_n 0, 1) := by decide +kernel
theorem dX2_readOrder_14 : decode cX2_readOrder 14 = .ok (.aload_n 0, 1) := by decide +kernel
theorem dX2_readOrder_15 : decode cX2_readOrder 15 = .ok (.getfield 9, 3) := by decide +kernel
theorem dX2_readOrder_18 : decode cX2_readOrder 18 = .ok (.aload_n 0, 1) := by decide +kernel
theorem dX2_readOrder_19 : decode cX2_readOrder 19 = .ok (.getfield 34, 3) := by decide +kernel
theorem dX2_readOrder_22 : decode cX2_readOrder 22 = .ok (.iaload, 1) := by decide +kernel
theorem dX2_readOrder_23 : decode cX2_readOrder 23 = .ok (.putfield 37, 3) := by decide +kernel
theorem dX2_readOrder_26 : decode cX2_readOrder 26 = .ok (.aload_n 0, 1) := by decide +kernel
theorem dX2_readOrder_27 : decode cX2_readOrder 27 = .ok (.iconst 0, 1) := by decide +kernel
theorem dX2_readOrder_28 : decode cX2_readOrder 28 = .ok (.putfield 40, 3) := by decide +kernel
theorem dX2_readOrder_31 : decode cX2_readOrder 31 = .ok (.aload_n 0, 1) := by decide +kernel
theorem dX2_readOrder_32 : decode cX2_readOrder 32 = .ok (.iconst 0, 1) := by decide +kernel
theorem dX2_readOrder_33 : decode cX2_readOrder 33 = .ok (.putfield 43, 3) := by decide +kernel
theorem dX2_readOrder_36 : decode cX2_readOrder 36 = .ok (.aload_n 0, 1) := by decide +kernel
theorem dX2_readOrder_37 : decode cX2_readOrder 37 = .ok (.dup, 1) := by decide +kernel
theorem dX2_readOrder_38 : decode cX2_readOrder 38 = .ok (.getfield 34, 3) := by decide +kernel
theorem dX2_readOrder_41 : decode cX2_readOrder 41 = .ok (.iconst 1, 1) := by decide +kernel
theorem dX2_readOrder_42 : decode cX2_readOrder 42 = .ok (.iadd, 1) := by decide +kernel
theorem dX2_readOrder_43 : decode cX2_readOrder 43 = .ok (.putfield 34, 3) := by decide +kernel
theorem dX2_readOrder_46 : decode cX2_readOrder 46 = .ok (.aload_n 0, 1) := by decide +kernel
theorem dX2_readOrder_47 : decode cX2_readOrder 47 = .ok (.getfield 34, 3) := by decide +kernel
theorem dX2_readOrder_50 : decode cX2_readOrder 50 = .ok (.aload_n 0, 1) := by decide +kernel
theorem dX2_readOrder_51 : decode cX2_readOrder 51 = .ok (.getfield 15, 3) := by decide +kernel
theorem dX2_readOrder_54 : decode cX2_readOrder 54 = .ok (.if_icmp .ge 43, 3) := by decide +kernel
theorem dX2_readOrder_57 : decode cX2_readOrder 57 = .ok (.aload_n 0, 1) := by decide +kernel
theorem dX2_readOrder_58 : decode cX2_readOrder 58 = .ok (.getfield 9, 3) := by decide +kernel
theorem dX2_readOrder_61 : decode cX2_readOrder 61 = .ok (.aload_n 0, 1) := by decide +kernel
theorem dX2_readOrder_62 : decode cX2_readOrder 62 = .ok (.getfield 34, 3) := by decide +kernel
theorem dX2_readOrder_65 : decode cX2_readOrder 65 = .ok (.iaload, 1) := by decide +kernel
theorem dX2_readOrder_66 : decode cX2_readOrder 66 = .ok (.bipush 44, 2) := by decide +kernel
theorem dX2_readOrder_68 : decode cX2_readOrder 68 = .ok (.if_icmp .eq 29, 3) := by decide +kernel
theorem dX2_readOrder_71 : decode cX2_readOrder 71 = .ok (.aload_n 0, 1) := by decide +kernel
theorem dX2_readOrder_72 : decode cX2_readOrder 72 = .ok (.aload_n 0, 1) := by decide +kernel
theorem dX2_readOrder_73 : decode cX2_readOrder 73 = .ok (.getfield 9, 3) := by decide +kernel
theorem dX2_readOrder_76 : decode cX2_readOrder 76 = .ok (.aload_n 0, 1) := by decide +kernel
theorem dX2_readOrder_77 : decode cX2_readOrder 77 = .ok (.getfield 34, 3) := by decide +kernel
theorem dX2_readOrder_80 : decode cX2_readOrder 80 = .ok (.iaload, 1) := by decide +kernel
theorem dX2_readOrder_81 : decode cX2_readOrder 81 = .ok (.invokevirtual 46, 3) := by decide +kernel
theorem dX2_readOrder_84 : decode cX2_readOrder 84 = .ok (.aload_n 0, 1) := by decide +kernel
theorem dX2_readOrder_85 : decode cX2_readOrder 85 = .ok (.dup, 1) := by decide +kernel
theorem dX2_readOrder_86 : decode cX2_readOrder 86 = .ok (.getfield 34, 3) := by decide +kernel
theorem dX2_readOrder_89 : decode cX2_readOrder 89 = .ok (.iconst 1, 1) := by decide +kernel
theorem dX2_readOrder_90 : decode cX2_readOrder 90 = .ok (.iadd, 1) := by decide +kernel
theorem dX2_readOrder_91 : decode cX2_readOrder 91 = .ok (.putfield 34, 3) := by decide +kernel
theorem dX2_readOrder_94 : decode cX2_readOrder 94 = .ok (.goto (-48), 3) := by decide +kernel
theorem dX2_readOrder_97 : decode cX2_readOrder 97 = .ok (.aload_n 0, 1) := by decide +kernel
theorem dX2_readOrder_98 : decode cX2_readOrder 98 = .ok (.dup, 1) := by decide +kernel
theorem dX2_readOrder_99 : decode cX2_readOrder 99 = .ok (.getfield 34, 3) := by decide +kernel
theorem dX2_readOrder_102 : decode cX2_readOrder 102 = .ok (.iconst 1, 1) := by decide +kernel
theorem dX2_readOrder_103 : decode cX2_readOrder 103 = .ok (.iadd, 1) := by decide +kernel
theorem dX2_readOrder_104 : decode cX2_readOrder 104 = .ok (.putfield 34, 3) := by decide +kernel
theorem dX2_readOrder_107 : decode cX2_readOrder 107 = .ok (.iconst 1, 1) := by decide +kernel
theorem dX2_readOrder_108 : decode cX2_readOrder 108 = .ok (.ireturn, 1) := by decide +kernel
theorem dX2_readSign_0 : decode cX2_readSign 0 = .ok (.iload_n 1, 1) := by decide +kernel
theorem dX2_readSign_1 : decode cX2_readSign 1 = .ok (.bipush 48, 2) := by decide +kernel
theorem dX2_readSign_3 : decode cX2_readSign 3 = .ok (.bipush 57, 2) := by decide +kernel
theorem dX2_readSign_5 : decode cX2_readSign 5 = .ok (.invokestatic 27, 3) := by decide +kernel
theorem dX2_readSign_8 : decode cX2_readSign 8 = .ok (.ifCond .eq 22, 3) := by decide +kernel
theorem dX2_readSign_11 : decode cX2_readSign 11 = .ok (.aload_n 0, 1) := by decide +kernel
theorem dX2_readSign_12 : decode cX2_readSign 12 = .ok (.bipush 10, 2) := by decide +kernel
theorem dX2_readSign_14 : decode cX2_readSign 14 = .ok (.aload_n 0, 1) := by decide +kernel
theorem dX2_readSign_15 : decode cX2_readSign 15 = .ok (.getfield 40, 3) := by decide +kernel
theorem dX2_readSign_18 : decode cX2_readSign 18 = .ok (.imul, 1) := by decide +kernel
theorem dX2_readSign_19 : decode cX2_readSign 19 = .ok (.iload_n 1, 1) := by decide +kernel
theorem dX2_readSign_20 : decode cX2_readSign 20 = .ok (.iadd, 1) := by decide +kernel
theorem dX2_readSign_21 : decode cX2_readSign 21 = .ok (.bipush 48, 2) := by decide +kernel
theorem dX2_readSign_23 : decode cX2_readSign 23 = .ok (.isub, 1) := by decide +kernel
theorem dX2_readSign_24 : decode cX2_readSign 24 = .ok (.putfield 40, 3) := by decide +kernel
theorem dX2_readSign_27 : decode cX2_readSign 27 = .ok (.goto 14, 3) := by decide +kernel
theorem dX2_readSign_30 : decode cX2_readSign 30 = .ok (.iload_n 1, 1) := by decide +kernel
theorem dX2_readSign_31 : decode cX2_readSign 31 = .ok (.bipush 45, 2) := by decide +kernel
theorem dX2_readSign_33 : decode cX2_readSign 33 = .ok (.if_icmp .ne 8, 3) := by decide +kernel
theorem dX2_readSign_36 : decode cX2_readSign 36 = .ok (.aload_n 0, 1) := by decide +kernel
theorem dX2_readSign_37 : decode cX2_readSign 37 = .ok (.iconst 1, 1) := by decide +kernel
theorem dX2_readSign_38 : decode cX2_readSign 38 = .ok (.putfield 43, 3) := by decide +kernel
theorem dX2_readSign_41 : decode cX2_readSign 41 = .ok (.return_, 1) := by decide +kernel
theorem dX3_init_0 : decode cX3_init 0 = .ok (.aload_n 0, 1) := by decide +kernel
theorem dX3_init_1 : decode cX3_init 1 = .ok (.invokespecial 3, 3) := by decide +kernel
theorem dX3_init_4 : decode cX3_init 4 = .ok (.aload_n 0, 1) := by decide +kernel
theorem dX3_init_5 : decode cX3_init 5 = .ok (.sipush 300, 3) := by decide +kernel
theorem dX3_init_8 : decode cX3_init 8 = .ok (.newarray .int, 2) := by decide +kernel
theorem dX3_init_10 : decode cX3_init 10 = .ok (.putfield 9, 3) := by decide +kernel
theorem dX3_init_13 : decode cX3_init 13 = .ok (.return_, 1) := by decide +kernel
theorem dX3_copyFrom_0 : decode cX3_copyFrom 0 = .ok (.aload_n 1, 1) := by decide +kernel
theorem dX3_copyFrom_1 : decode cX3_copyFrom 1 = .ok (.getfield 9, 3) := by decide +kernel
theorem dX3_copyFrom_4 : decode cX3_copyFrom 4 = .ok (.iconst 0, 1) := by decide +kernel
theorem dX3_copyFrom_5 : decode cX3_copyFrom 5 = .ok (.aload_n 0, 1) := by decide +kernel
theorem dX3_copyFrom_6 : decode cX3_copyFrom 6 = .ok (.getfield 9, 3) := by decide +kernel
theorem dX3_copyFrom_9 : decode cX3_copyFrom 9 = .ok (.iconst 0, 1) := by decide +kernel
theorem dX3_copyFrom_10 : decode cX3_copyFrom 10 = .ok (.sipush 300, 3) := by decide +kernel
theorem dX3_copyFrom_13 : decode cX3_copyFrom 13 = .ok (.invokestatic 15, 3) := by decide +kernel
theorem dX3_copyFrom_16 : decode cX3_copyFrom 16 = .ok (.aload_n 0, 1) := by decide +kernel
theorem dX3_copyFrom_17 : decode cX3_copyFrom 17 = .ok (.aload_n 1, 1) := by decide +kernel
theorem dX3_copyFrom_18 : decode cX3_copyFrom 18 = .ok (.getfield 21, 3) := by decide +kernel
theorem dX3_copyFrom_21 : decode cX3_copyFrom 21 = .ok (.putfield 21, 3) := by decide +kernel
theorem dX3_copyFrom_24 : decode cX3_copyFrom 24 = .ok (.return_, 1) := by decide +kernel
theorem dX3_record_0 : decode cX3_record 0 = .ok (.aload_n 0, 1) := by decide +kernel
theorem dX3_record_1 : decode cX3_record 1 = .ok (.getfield 21, 3) := by decide +kernel
theorem dX3_record_4 : decode cX3_record 4 = .ok (.invokestatic 25, 3) := by decide +kernel
theorem dX3_record_7 : decode cX3_record 7 = .ok (.istore 5, 2) := by decide +kernel
theorem dX3_record_9 : decode cX3_record 9 = .ok (.aload_n 0, 1) := by decide +kernel
theorem dX3_record_10 : decode cX3_record 10 = .ok (.getfield 9, 3) := by decide +kernel
theorem dX3_record_13 : decode cX3_record 13 = .ok (.iload 5, 2) := by decide +kernel
theorem dX3_record_15 : decode cX3_record 15 = .ok (.iload_n 1, 1) := by decide +kernel
theorem dX3_record_16 : decode cX3_record 16 = .ok (.iastore, 1) := by decide +kernel
theorem dX3_record_17 : decode cX3_record 17 = .ok (.aload_n 0, 1) := by decide +kernel
theorem dX3_record_18 : decode cX3_record 18 = .ok (.getfield 9, 3) := by decide +kernel
theorem dX3_record_21 : decode cX3_record 21 = .ok (.iload 5, 2) := by decide +kernel
theorem dX3_record_23 : decode cX3_record 23 = .ok (.iconst 1, 1) := by decide +kernel
theorem dX3_record_24 : decode cX3_record 24 = .ok (.iadd, 1) := by decide +kernel
theorem dX3_record_25 : decode cX3_record 25 = .ok (.aload_n 2, 1) := by decide +kernel
theorem dX3_record_26 : decode cX3_record 26 = .ok (.getfield 29, 3) := by decide +kernel
theorem dX3_record_29 : decode cX3_record 29 = .ok (.getfield 35, 3) := by decide +kernel
theorem dX3_record_32 : decode cX3_record 32 = .ok (.iastore, 1) := by decide +kernel
theorem dX3_record_33 : decode cX3_record 33 = .ok (.aload_n 0, 1) := by decide +kernel
theorem dX3_record_34 : decode cX3_record 34 = .ok (.getfield 9, 3) := by decide +kernel
theorem dX3_record_37 : decode cX3_record 37 = .ok (.iload 5, 2) := by decide +kernel
theorem dX3_record_39 : decode cX3_record 39 = .ok (.iconst 2, 1) := by decide +kernel
theorem dX3_record_40 : decode cX3_record 40 = .ok (.iadd, 1) := by decide +kernel
theorem dX3_record_41 : decode cX3_record 41 = .ok (.aload_n 2, 1) := by decide +kernel
theorem dX3_record_42 : decode cX3_record 42 = .ok (.getfield 40, 3) := by decide +kernel
theorem dX3_record_45 : decode cX3_record 45 = .ok (.iastore, 1) := by decide +kernel
theorem dX3_record_46 : decode cX3_record 46 = .ok (.aload_n 0, 1) := by decide +kernel
theorem dX3_record_47 : decode cX3_record 47 = .ok (.getfield 9, 3) := by decide +kernel
theorem dX3_record_50 : decode cX3_record 50 = .ok (.iload 5, 2) := by decide +kernel
theorem dX3_record_52 : decode cX3_record 52 = .ok (.iconst 3, 1) := by decide +kernel
theorem dX3_record_53 : decode cX3_record 53 = .ok (.iadd, 1) := by decide +kernel
theorem dX3_record_54 : decode cX3_record 54 = .ok (.iload_n 3, 1) := by decide +kernel
theorem dX3_record_55 : decode cX3_record 55 = .ok (.iastore, 1) := by decide +kernel
theorem dX3_record_56 : decode cX3_record 56 = .ok (.aload_n 0, 1) := by decide +kernel
theorem dX3_record_57 : decode cX3_record 57 = .ok (.getfield 9, 3) := by decide +kernel
theorem dX3_record_60 : decode cX3_record 60 = .ok (.iload 5, 2) := by decide +kernel
theorem dX3_record_62 : decode cX3_record 62 = .ok (.iconst 4, 1) := by decide +kernel
theorem dX3_record_63 : decode cX3_record 63 = .ok (.iadd, 1) := by decide +kernel
theorem dX3_record_64 : decode cX3_record 64 = .ok (.iload 4, 2) := by decide +kernel
theorem dX3_record_66 : decode cX3_record 66 = .ok (.iastore, 1) := by decide +kernel
theorem dX3_record_67 : decode cX3_record 67 = .ok (.aload_n 0, 1) := by decide +kernel
theorem dX3_record_68 : decode cX3_record 68 = .ok (.dup, 1) := by decide +kernel
theorem dX3_record_69 : decode cX3_record 69 = .ok (.getfield 21, 3) := by decide +kernel
theorem dX3_record_72 : decode cX3_record 72 = .ok (.iconst 1, 1) := by decide +kernel
theorem dX3_record_73 : decode cX3_record 73 = .ok (.iadd, 1) := by decide +kernel
theorem dX3_record_74 : decode cX3_record 74 = .ok (.putfield 21, 3) := by decide +kernel
theorem dX3_record_77 : decode cX3_record 77 = .ok (.return_, 1) := by decide +kernel
theorem dX3_property_0 : decode cX3_property 0 = .ok (.iload_n 1, 1) := by decide +kernel
theorem dX3_property_1 : decode cX3_property 1 = .ok (.aload_n 0, 1) := by decide +kernel
theorem dX3_property_2 : decode cX3_property 2 = .ok (.invokevirtual 43, 3) := by decide +kernel
theorem dX3_property_5 : decode cX3_property 5 = .ok (.if_icmp .lt 11, 3) := by decide +kernel
theorem dX3_property_8 : decode cX3_property 8 = .ok (.iload_n 1, 1) := by decide +kernel
theorem dX3_property_9 : decode cX3_property 9 = .ok (.aload_n 0, 1) := by decide +kernel
theorem dX3_property_10 : decode cX3_property 10 = .ok (.getfield 21, 3) := by decide +kernel
theorem dX3_property_13 : decode cX3_property 13 = .ok (.if_icmp .lt 6, 3) := by decide +kernel
theorem dX3_property_16 : decode cX3_property 16 = .ok (.bipush (-6), 2) := by decide +kernel
theorem dX3_property_18 : decode cX3_property 18 = .ok (.ireturn, 1) := by decide +kernel
theorem dX3_property_19 : decode cX3_property 19 = .ok (.aload_n 0, 1) := by decide +kernel
theorem dX3_property_20 : decode cX3_property 20 = .ok (.getfield 9, 3) := by decide +kernel
theorem dX3_property_23 : decode cX3_property 23 = .ok (.iload_n 1, 1) := by decide +kernel
theorem dX3_property_24 : decode cX3_property 24 = .ok (.invokestatic 25, 3) := by decide +kernel
theorem dX3_property_27 : decode cX3_property 27 = .ok (.iload_n 2, 1) := by decide +kernel
theorem dX3_property_28 : decode cX3_property 28 = .ok (.iadd, 1) := by decide +kernel
theorem dX3_property_29 : decode cX3_property 29 = .ok (.iaload, 1) := by decide +kernel
theorem dX3_property_30 : decode cX3_property 30 = .ok (.ireturn, 1) := by decide +kernel
theorem dX3_countOf_0 : decode cX3_countOf 0 = .ok (.iconst 0, 1) := by decide +kernel
theorem dX3_countOf_1 : decode cX3_countOf 1 = .ok (.istore_n 3, 1) := by decide +kernel
theorem dX3_countOf_2 : decode cX3_countOf 2 = .ok (.aload_n 0, 1) := by decide +kernel
theorem dX3_countOf_3 : decode cX3_countOf 3 = .ok (.invokevirtual 43, 3) := by decide +kernel
theorem dX3_countOf_6 : decode cX3_countOf 6 = .ok (.istore 4, 2) := by decide +kernel
theorem dX3_countOf_8 : decode cX3_countOf 8 = .ok (.iload 4, 2) := by decide +kernel
theorem dX3_countOf_10 : decode cX3_countOf 10 = .ok (.aload_n 0, 1) := by decide +kernel
theorem dX3_countOf_11 : decode cX3_countOf 11 = .ok (.getfield 21, 3) := by decide +kernel
theorem dX3_countOf_14 : decode cX3_countOf 14 = .ok (.if_icmp .ge 50, 3) := by decide +kernel
theorem dX3_countOf_17 : decode cX3_countOf 17 = .ok (.iload 4, 2) := by decide +kernel
theorem dX3_countOf_19 : decode cX3_countOf 19 = .ok (.invokestatic 25, 3) := by decide +kernel
theorem dX3_countOf_22 : decode cX3_countOf 22 = .ok (.istore 5, 2) := by decide +kernel
theorem dX3_countOf_24 : decode cX3_countOf 24 = .ok (.aload_n 0, 1) := by decide +kernel
theorem dX3_countOf_25 : decode cX3_countOf 25 = .ok (.getfield 9, 3) := by decide +kernel
theorem dX3_countOf_28 : decode cX3_countOf 28 = .ok (.iload 5, 2) := by decide +kernel
theorem dX3_countOf_30 : decode cX3_countOf 30 = .ok (.iconst 4, 1) := by decide +kernel
theorem dX3_countOf_31 : decode cX3_countOf 31 = .ok (.iadd, 1) := by decide +kernel
theorem dX3_countOf_32 : decode cX3_countOf 32 = .ok (.iaload, 1) := by decide +kernel
theorem dX3_countOf_33 : decode cX3_countOf 33 = .ok (.iload_n 1, 1) := by decide +kernel
theorem dX3_countOf_34 : decode cX3_countOf 34 = .ok (.if_icmp .ne 24, 3) := by decide +kernel
theorem dX3_countOf_37 : decode cX3_countOf 37 = .ok (.iload_n 2, 1) := by decide +kernel
theorem dX3_countOf_38 : decode cX3_countOf 38 = .ok (.iconst (-1), 1) := by decide +kernel
theorem dX3_countOf_39 : decode cX3_countOf 39 = .ok (.if_icmp .eq 16, 3) := by decide +kernel
theorem dX3_countOf_42 : decode cX3_countOf 42 = .ok (.aload_n 0, 1) := by decide +kernel
theorem dX3_countOf_43 : decode cX3_countOf 43 = .ok (.getfield 9, 3) := by decide +kernel
theorem dX3_countOf_46 : decode cX3_countOf 46 = .ok (.iload 5, 2) := by decide +kernel
theorem dX3_countOf_48 : decode cX3_countOf 48 = .ok (.iconst 1, 1) := by decide +kernel
theorem dX3_countOf_49 : decode cX3_countOf 49 = .ok (.iadd, 1) := by decide +kernel
theorem dX3_countOf_50 : decode cX3_countOf 50 = .ok (.iaload, 1) := by decide +kernel
theorem dX3_countOf_51 : decode cX3_countOf 51 = .ok (.iload_n 2, 1) := by decide +kernel
theorem dX3_countOf_52 : decode cX3_countOf 52 = .ok (.if_icmp .ne 6, 3) := by decide +kernel
theorem dX3_countOf_55 : decode cX3_countOf 55 = .ok (.iinc 3 1, 3) := by decide +kernel
theorem dX3_countOf_58 : decode cX3_countOf 58 = .ok (.iinc 4 1, 3) := by decide +kernel
theorem dX3_countOf_61 : decode cX3_countOf 61 = .ok (.goto (-53), 3) := by decide +kernel
theorem dX3_countOf_64 : decode cX3_countOf 64 = .ok (.iload_n 3, 1) := by decide +kernel
theorem dX3_countOf_65 : decode cX3_countOf 65 = .ok (.ireturn, 1) := by decide +kernel
theorem dX3_oldest_0 : decode cX3_oldest 0 = .ok (.iconst 0, 1) := by decide +kernel
theorem dX3_oldest_1 : decode cX3_oldest 1 = .ok (.aload_n 0, 1) := by decide +kernel
theorem dX3_oldest_2 : decode cX3_oldest 2 = .ok (.getfield 21, 3) := by decide +kernel
theorem dX3_oldest_5 : decode cX3_oldest 5 = .ok (.bipush 60, 2) := by decide +kernel
theorem dX3_oldest_7 : decode cX3_oldest 7 = .ok (.isub, 1) := by decide +kernel
theorem dX3_oldest_8 : decode cX3_oldest 8 = .ok (.invokestatic 47, 3) := by decide +kernel
theorem dX3_oldest_11 : decode cX3_oldest 11 = .ok (.ireturn, 1) := by decide +kernel
theorem dX3_rowOf_0 : decode cX3_rowOf 0 = .ok (.iload_n 0, 1) := by decide +kernel
theorem dX3_rowOf_1 : decode cX3_rowOf 1 = .ok (.ldc 53, 2) := by decide +kernel
theorem dX3_rowOf_3 : decode cX3_rowOf 3 = .ok (.iand, 1) := by decide +kernel
theorem dX3_rowOf_4 : decode cX3_rowOf 4 = .ok (.bipush 60, 2) := by decide +kernel
theorem dX3_rowOf_6 : decode cX3_rowOf 6 = .ok (.irem, 1) := by decide +kernel
theorem dX3_rowOf_7 : decode cX3_rowOf 7 = .ok (.iconst 5, 1) := by decide +kernel
theorem dX3_rowOf_8 : decode cX3_rowOf 8 = .ok (.imul, 1) := by decide +kernel
theorem dX3_rowOf_9 : decode cX3_rowOf 9 = .ok (.ireturn, 1) := by decide +kernel
theorem dX4_init_0 : decode cX4_init 0 = .ok (.aload_n 0, 1) := by decide +kernel
theorem dX4_init_1 : decode cX4_init 1 = .ok (.invokespecial 3, 3) := by decide +kernel
theorem dX4_init_4 : decode cX4_init 4 = .ok (.aload_n 0, 1) := by decide +kernel
theorem dX4_init_5 : decode cX4_init 5 = .ok (.iload_n 1, 1) := by decide +kernel
theorem dX4_init_6 : decode cX4_init 6 = .ok (.putfield 9, 3) := by decide +kernel
theorem dX4_init_9 : decode cX4_init 9 = .ok (.return_, 1) := by decide +kernel
theorem dX4_layOut_0 : decode cX4_layOut 0 = .ok (.aload_n 0, 1) := by decide +kernel
theorem dX4_layOut_1 : decode cX4_layOut 1 = .ok (.iload_n 1, 1) := by decide +kernel
theorem dX4_layOut_2 : decode cX4_layOut 2 = .ok (.putfield 15, 3) := by decide +kernel
theorem dX4_layOut_5 : decode cX4_layOut 5 = .ok (.aload_n 0, 1) := by decide +kernel
theorem dX4_layOut_6 : decode cX4_layOut 6 = .ok (.iconst 5, 1) := by decide +kernel
theorem dX4_layOut_7 : decode cX4_layOut 7 = .ok (.putfield 19, 3) := by decide +kernel
theorem dX4_layOut_10 : decode cX4_layOut 10 = .ok (.aload_n 0, 1) := by decide +kernel
theorem dX4_layOut_11 : decode cX4_layOut 11 = .ok (.iload_n 1, 1) := by decide +kernel
theorem dX4_layOut_12 : decode cX4_layOut 12 = .ok (.ifCond .eq 7, 3) := by decide +kernel
theorem dX4_layOut_15 : decode cX4_layOut 15 = .ok (.iconst 5, 1) := by decide +kernel
theorem dX4_layOut_16 : decode cX4_layOut 16 = .ok (.goto 4, 3) := by decide +kernel
theorem dX4_layOut_19 : decode cX4_layOut 19 = .ok (.iconst 0, 1) := by decide +kernel
theorem dX4_layOut_20 : decode cX4_layOut 20 = .ok (.putfield 22, 3) := by decide +kernel
theorem dX4_layOut_23 : decode cX4_layOut 23 = .ok (.aload_n 0, 1) := by decide +kernel
theorem dX4_layOut_24 : decode cX4_layOut 24 = .ok (.aload_n 0, 1) := by decide +kernel
theorem dX4_layOut_25 : decode cX4_layOut 25 = .ok (.getfield 22, 3) := by decide +kernel
theorem dX4_layOut_28 : decode cX4_layOut 28 = .ok (.putfield 25, 3) := by decide +kernel
theorem dX4_layOut_31 : decode cX4_layOut 31 = .ok (.return_, 1) := by decide +kernel
theorem dX4_copyFrom_0 : decode cX4_copyFrom 0 = .ok (.aload_n 0, 1) := by decide +kernel
theorem dX4_copyFrom_1 : decode cX4_copyFrom 1 = .ok (.aload_n 1, 1) := by decide +kernel
theorem dX4_copyFrom_2 : decode cX4_copyFrom 2 = .ok (.getfield 15, 3) := by decide +kernel
theorem dX4_copyFrom_5 : decode cX4_copyFrom 5 = .ok (.putfield 15, 3) := by decide +kernel
theorem dX4_copyFrom_8 : decode cX4_copyFrom 8 = .ok (.aload_n 0, 1) := by decide +kernel
theorem dX4_copyFrom_9 : decode cX4_copyFrom 9 = .ok (.aload_n 1, 1) := by decide +kernel
theorem dX4_copyFrom_10 : decode cX4_copyFrom 10 = .ok (.getfield 19, 3) := by decide +kernel
theorem dX4_copyFrom_13 : decode cX4_copyFrom 13 = .ok (.putfield 19, 3) := by decide +kernel
theorem dX4_copyFrom_16 : decode cX4_copyFrom 16 = .ok (.aload_n 0, 1) := by decide +kernel
theorem dX4_copyFrom_17 : decode cX4_copyFrom 17 = .ok (.aload_n 1, 1) := by decide +kernel
theorem dX4_copyFrom_18 : decode cX4_copyFrom 18 = .ok (.getfield 22, 3) := by decide +kernel
theorem dX4_copyFrom_21 : decode cX4_copyFrom 21 = .ok (.putfield 22, 3) := by decide +kernel
theorem dX4_copyFrom_24 : decode cX4_copyFrom 24 = .ok (.aload_n 0, 1) := by decide +kernel
theorem dX4_copyFrom_25 : decode cX4_copyFrom 25 = .ok (.aload_n 1, 1) := by decide +kernel
theorem dX4_copyFrom_26 : decode cX4_copyFrom 26 = .ok (.getfield 25, 3) := by decide +kernel
theorem dX4_copyFrom_29 : decode cX4_copyFrom 29 = .ok (.putfield 25, 3) := by decide +kernel
theorem dX4_copyFrom_32 : decode cX4_copyFrom 32 = .ok (.aload_n 0, 1) := by decide +kernel
theorem dX4_copyFrom_33 : decode cX4_copyFrom 33 = .ok (.aload_n 1, 1) := by decide +kernel
theorem dX4_copyFrom_34 : decode cX4_copyFrom 34 = .ok (.getfield 28, 3) := by decide +kernel
theorem dX4_copyFrom_37 : decode cX4_copyFrom 37 = .ok (.putfield 28, 3) := by decide +kernel
theorem dX4_copyFrom_40 : decode cX4_copyFrom 40 = .ok (.return_, 1) := by decide +kernel
theorem dX4_property_0 : decode cX4_property 0 = .ok (.iload_n 1, 1) := by decide +kernel
theorem dX4_property_1 : decode cX4_property 1 = .ok (.tableswitch 76 0 4 #[35, 48, 53, 58, 63], 35) := by decide +kernel
theorem dX4_property_36 : decode cX4_property 36 = .ok (.aload_n 0, 1) := by decide +kernel
theorem dX4_property_37 : decode cX4_property 37 = .ok (.getfield 15, 3) := by decide +kernel
theorem dX4_property_40 : decode cX4_property 40 = .ok (.ifCond .eq 7, 3) := by decide +kernel
theorem dX4_property_43 : decode cX4_property 43 = .ok (.iconst 1, 1) := by decide +kernel
theorem dX4_property_44 : decode cX4_property 44 = .ok (.goto 4, 3) := by decide +kernel
theorem dX4_property_47 : decode cX4_property 47 = .ok (.iconst 0, 1) := by decide +kernel
theorem dX4_property_48 : decode cX4_property 48 = .ok (.ireturn, 1) := by decide +kernel
theorem dX4_property_49 : decode cX4_property 49 = .ok (.aload_n 0, 1) := by decide +kernel
theorem dX4_property_50 : decode cX4_property 50 = .ok (.getfield 19, 3) := by decide +kernel
theorem dX4_property_53 : decode cX4_property 53 = .ok (.ireturn, 1) := by decide +kernel
theorem dX4_property_54 : decode cX4_property 54 = .ok (.aload_n 0, 1) := by decide +kernel
theorem dX4_property_55 : decode cX4_property 55 = .ok (.getfield 22, 3) := by decide +kernel
theorem dX4_property_58 : decode cX4_property 58 = .ok (.ireturn, 1) := by decide +kernel
theorem dX4_property_59 : decode cX4_property 59 = .ok (.aload_n 0, 1) := by decide +kernel
theorem dX4_property_60 : decode cX4_property 60 = .ok (.getfield 25, 3) := by decide +kernel
theorem dX4_property_63 : decode cX4_property 63 = .ok (.ireturn, 1) := by decide +kernel
theorem dX4_property_64 : decode cX4_property 64 = .ok (.aload_n 0, 1) := by decide +kernel
theorem dX4_property_65 : decode cX4_property 65 = .ok (.getfield 28, 3) := by decide +kernel
theorem dX4_property_68 : decode cX4_property 68 = .ok (.ifCond .eq 7, 3) := by decide +kernel
theorem dX4_property_71 : decode cX4_property 71 = .ok (.iconst 1, 1) := by decide +kernel
theorem dX4_property_72 : decode cX4_property 72 = .ok (.goto 4, 3) := by decide +kernel
theorem dX4_property_75 : decode cX4_property 75 = .ok (.iconst 0, 1) := by decide +kernel
theorem dX4_property_76 : decode cX4_property 76 = .ok (.ireturn, 1) := by decide +kernel
theorem dX4_property_77 : decode cX4_property 77 = .ok (.bipush (-2), 2) := by decide +kernel
theorem dX4_property_79 : decode cX4_property 79 = .ok (.ireturn, 1) := by decide +kernel
theorem dX4_moveUp_0 : decode cX4_moveUp 0 = .ok (.aload_n 0, 1) := by decide +kernel
theorem dX4_moveUp_1 : decode cX4_moveUp 1 = .ok (.getfield 15, 3) := by decide +kernel
theorem dX4_moveUp_4 : decode cX4_moveUp 4 = .ok (.ifCond .eq 21, 3) := by decide +kernel
theorem dX4_moveUp_7 : decode cX4_moveUp 7 = .ok (.aload_n 0, 1) := by decide +kernel
theorem dX4_moveUp_8 : decode cX4_moveUp 8 = .ok (.getfield 22, 3) := by decide +kernel
theorem dX4_moveUp_11 : decode cX4_moveUp 11 = .ok (.iload_n 1, 1) := by decide +kernel
theorem dX4_moveUp_12 : decode cX4_moveUp 12 = .ok (.isub, 1) := by decide +kernel
theorem dX4_moveUp_13 : decode cX4_moveUp 13 = .ok (.ifCond .lt 12, 3) := by decide +kernel
theorem dX4_moveUp_16 : decode cX4_moveUp 16 = .ok (.aload_n 0, 1) := by decide +kernel
theorem dX4_moveUp_17 : decode cX4_moveUp 17 = .ok (.getfield 25, 3) := by decide +kernel
theorem dX4_moveUp_20 : decode cX4_moveUp 20 = .ok (.iload_n 1, 1) := by decide +kernel
theorem dX4_moveUp_21 : decode cX4_moveUp 21 = .ok (.iadd, 1) := by decide +kernel
theorem dX4_moveUp_22 : decode cX4_moveUp 22 = .ok (.ifCond .ge 6, 3) := by decide +kernel
theorem dX4_moveUp_25 : decode cX4_moveUp 25 = .ok (.bipush (-5), 2) := by decide +kernel
theorem dX4_moveUp_27 : decode cX4_moveUp 27 = .ok (.ireturn, 1) := by decide +kernel
theorem dX4_moveUp_28 : decode cX4_moveUp 28 = .ok (.aload_n 0, 1) := by decide +kernel
theorem dX4_moveUp_29 : decode cX4_moveUp 29 = .ok (.dup, 1) := by decide +kernel
theorem dX4_moveUp_30 : decode cX4_moveUp 30 = .ok (.getfield 22, 3) := by decide +kernel
theorem dX4_moveUp_33 : decode cX4_moveUp 33 = .ok (.iload_n 1, 1) := by decide +kernel
theorem dX4_moveUp_34 : decode cX4_moveUp 34 = .ok (.isub, 1) := by decide +kernel
theorem dX4_moveUp_35 : decode cX4_moveUp 35 = .ok (.putfield 22, 3) := by decide +kernel
theorem dX4_moveUp_38 : decode cX4_moveUp 38 = .ok (.aload_n 0, 1) := by decide +kernel
theorem dX4_moveUp_39 : decode cX4_moveUp 39 = .ok (.dup, 1) := by decide +kernel
theorem dX4_moveUp_40 : decode cX4_moveUp 40 = .ok (.getfield 25, 3) := by decide +kernel
theorem dX4_moveUp_43 : decode cX4_moveUp 43 = .ok (.iload_n 1, 1) := by decide +kernel
theorem dX4_moveUp_44 : decode cX4_moveUp 44 = .ok (.iadd, 1) := by decide +kernel
theorem dX4_moveUp_45 : decode cX4_moveUp 45 = .ok (.putfield 25, 3) := by decide +kernel
theorem dX4_moveUp_48 : decode cX4_moveUp 48 = .ok (.aload_n 0, 1) := by decide +kernel
theorem dX4_moveUp_49 : decode cX4_moveUp 49 = .ok (.getfield 22, 3) := by decide +kernel
theorem dX4_moveUp_52 : decode cX4_moveUp 52 = .ok (.ireturn, 1) := by decide +kernel
theorem dX4_hasToken_0 : decode cX4_hasToken 0 = .ok (.iload_n 1, 1) := by decide +kernel
theorem dX4_hasToken_1 : decode cX4_hasToken 1 = .ok (.ifCond .ne 10, 3) := by decide +kernel
theorem dX4_hasToken_4 : decode cX4_hasToken 4 = .ok (.aload_n 0, 1) := by decide +kernel
theorem dX4_hasToken_5 : decode cX4_hasToken 5 = .ok (.getfield 22, 3) := by decide +kernel
theorem dX4_hasToken_8 : decode cX4_hasToken 8 = .ok (.goto 7, 3) := by decide +kernel
theorem dX4_hasToken_11 : decode cX4_hasToken 11 = .ok (.aload_n 0, 1) := by decide +kernel
theorem dX4_hasToken_12 : decode cX4_hasToken 12 = .ok (.getfield 25, 3) := by decide +kernel
theorem dX4_hasToken_15 : decode cX4_hasToken 15 = .ok (.ifCond .le 7, 3) := by decide +kernel
theorem dX4_hasToken_18 : decode cX4_hasToken 18 = .ok (.iconst 1, 1) := by decide +kernel
theorem dX4_hasToken_19 : decode cX4_hasToken 19 = .ok (.goto 4, 3) := by decide +kernel
theorem dX4_hasToken_22 : decode cX4_hasToken 22 = .ok (.iconst 0, 1) := by decide +kernel
theorem dX4_hasToken_23 : decode cX4_hasToken 23 = .ok (.ireturn, 1) := by decide +kernel
theorem dX4_takeToken_0 : decode cX4_takeToken 0 = .ok (.aload_n 0, 1) := by decide +kernel
theorem dX4_takeToken_1 : decode cX4_takeToken 1 = .ok (.getfield 15, 3) := by decide +kernel
theorem dX4_takeToken_4 : decode cX4_takeToken 4 = .ok (.ifCond .eq 14, 3) := by decide +kernel
theorem dX4_takeToken_7 : decode cX4_takeToken 7 = .ok (.aload_n 0, 1) := by decide +kernel
theorem dX4_takeToken_8 : decode cX4_takeToken 8 = .ok (.iload_n 1, 1) := by decide +kernel
theorem dX4_takeToken_9 : decode cX4_takeToken 9 = .ok (.iconst (-1), 1) := by decide +kernel
theorem dX4_takeToken_10 : decode cX4_takeToken 10 = .ok (.invokevirtual 31, 3) := by decide +kernel
theorem dX4_takeToken_13 : decode cX4_takeToken 13 = .ok (.aload_n 0, 1) := by decide +kernel
theorem dX4_takeToken_14 : decode cX4_takeToken 14 = .ok (.iconst 1, 1) := by decide +kernel
theorem dX4_takeToken_15 : decode cX4_takeToken 15 = .ok (.putfield 28, 3) := by decide +kernel
theorem dX4_takeToken_18 : decode cX4_takeToken 18 = .ok (.return_, 1) := by decide +kernel
theorem dX4_putToken_0 : decode cX4_putToken 0 = .ok (.aload_n 0, 1) := by decide +kernel
theorem dX4_putToken_1 : decode cX4_putToken 1 = .ok (.getfield 15, 3) := by decide +kernel
theorem dX4_putToken_4 : decode cX4_putToken 4 = .ok (.ifCond .eq 14, 3) := by decide +kernel
theorem dX4_putToken_7 : decode cX4_putToken 7 = .ok (.aload_n 0, 1) := by decide +kernel
theorem dX4_putToken_8 : decode cX4_putToken 8 = .ok (.iload_n 1, 1) := by decide +kernel
theorem dX4_putToken_9 : decode cX4_putToken 9 = .ok (.iconst 1, 1) := by decide +kernel
theorem dX4_putToken_10 : decode cX4_putToken 10 = .ok (.invokevirtual 31, 3) := by decide +kernel
theorem dX4_putToken_13 : decode cX4_putToken 13 = .ok (.aload_n 0, 1) := by decide +kernel
theorem dX4_putToken_14 : decode cX4_putToken 14 = .ok (.iconst 0, 1) := by decide +kernel
theorem dX4_putToken_15 : decode cX4_putToken 15 = .ok (.putfield 28, 3) := by decide +kernel
theorem dX4_putToken_18 : decode cX4_putToken 18 = .ok (.return_, 1) := by decide +kernel
theorem dX4_addTokens_0 : decode cX4_addTokens 0 = .ok (.iload_n 1, 1) := by decide +kernel
theorem dX4_addTokens_1 : decode cX4_addTokens 1 = .ok (.ifCond .ne 16, 3) := by decide +kernel
theorem dX4_addTokens_4 : decode cX4_addTokens 4 = .ok (.aload_n 0, 1) := by decide +kernel
theorem dX4_addTokens_5 : decode cX4_addTokens 5 = .ok (.dup, 1) := by decide +kernel
theorem dX4_addTokens_6 : decode cX4_addTokens 6 = .ok (.getfield 22, 3) := by decide +kernel
theorem dX4_addTokens_9 : decode cX4_addTokens 9 = .ok (.iload_n 2, 1) := by decide +kernel
theorem dX4_addTokens_10 : decode cX4_addTokens 10 = .ok (.iadd, 1) := by decide +kernel
theorem dX4_addTokens_11 : decode cX4_addTokens 11 = .ok (.putfield 22, 3) := by decide +kernel
theorem dX4_addTokens_14 : decode cX4_addTokens 14 = .ok (.goto 13, 3) := by decide +kernel
theorem dX4_addTokens_17 : decode cX4_addTokens 17 = .ok (.aload_n 0, 1) := by decide +kernel
theorem dX4_addTokens_18 : decode cX4_addTokens 18 = .ok (.dup, 1) := by decide +kernel
theorem dX4_addTokens_19 : decode cX4_addTokens 19 = .ok (.getfield 25, 3) := by decide +kernel
theorem dX4_addTokens_22 : decode cX4_addTokens 22 = .ok (.iload_n 2, 1) := by decide +kernel
theorem dX4_addTokens_23 : decode cX4_addTokens 23 = .ok (.iadd, 1) := by decide +kernel
theorem dX4_addTokens_24 : decode cX4_addTokens 24 = .ok (.putfield 25, 3) := by decide +kernel
theorem dX4_addTokens_27 : decode cX4_addTokens 27 = .ok (.return_, 1) := by decide +kernel
theorem dX5_init_0 : decode cX5_init 0 = .ok (.aload_n 0, 1) := by decide +kernel
theorem dX5_init_1 : decode cX5_init 1 = .ok (.invokespecial 3, 3) := by decide +kernel
theorem dX5_init_4 : decode cX5_init 4 = .ok (.aload_n 0, 1) := by decide +kernel
theorem dX5_init_5 : decode cX5_init 5 = .ok (.iload_n 1, 1) := by decide +kernel
theorem dX5_init_6 : decode cX5_init 6 = .ok (.putfield 9, 3) := by decide +kernel
theorem dX5_init_9 : decode cX5_init 9 = .ok (.return_, 1) := by decide +kernel
theorem dX5_start_0 : decode cX5_start 0 = .ok (.aload_n 0, 1) := by decide +kernel
theorem dX5_start_1 : decode cX5_start 1 = .ok (.iload_n 1, 1) := by decide +kernel
theorem dX5_start_2 : decode cX5_start 2 = .ok (.putfield 15, 3) := by decide +kernel
theorem dX5_start_5 : decode cX5_start 5 = .ok (.aload_n 0, 1) := by decide +kernel
theorem dX5_start_6 : decode cX5_start 6 = .ok (.iload_n 2, 1) := by decide +kernel
theorem dX5_start_7 : decode cX5_start 7 = .ok (.putfield 18, 3) := by decide +kernel
theorem dX5_start_10 : decode cX5_start 10 = .ok (.aload_n 0, 1) := by decide +kernel
theorem dX5_start_11 : decode cX5_start 11 = .ok (.iconst 0, 1) := by decide +kernel
theorem dX5_start_12 : decode cX5_start 12 = .ok (.iload_n 3, 1) := by decide +kernel
theorem dX5_start_13 : decode cX5_start 13 = .ok (.invokevirtual 21, 3) := by decide +kernel
theorem dX5_start_16 : decode cX5_start 16 = .ok (.aload_n 0, 1) := by decide +kernel
theorem dX5_start_17 : decode cX5_start 17 = .ok (.iconst 0, 1) := by decide +kernel
theorem dX5_start_18 : decode cX5_start 18 = .ok (.putfield 25, 3) := by decide +kernel
theorem dX5_start_21 : decode cX5_start 21 = .ok (.aload_n 0, 1) := by decide +kernel
theorem dX5_start_22 : decode cX5_start 22 = .ok (.iconst 1, 1) := by decide +kernel
theorem dX5_start_23 : decode cX5_start 23 = .ok (.putfield 28, 3) := by decide +kernel
theorem dX5_start_26 : decode cX5_start 26 = .ok (.aload_n 0, 1) := by decide +kernel
theorem dX5_start_27 : decode cX5_start 27 = .ok (.iload 4, 2) := by decide +kernel
theorem dX5_start_29 : decode cX5_start 29 = .ok (.putfield 32, 3) := by decide +kernel
theorem dX5_start_32 : decode cX5_start 32 = .ok (.aload_n 0, 1) := by decide +kernel
theorem dX5_start_33 : decode cX5_start 33 = .ok (.bipush (-6), 2) := by decide +kernel
theorem dX5_start_35 : decode cX5_start 35 = .ok (.putfield 35, 3) := by decide +kernel
theorem dX5_start_38 : decode cX5_start 38 = .ok (.return_, 1) := by decide +kernel
theorem dX5_copyFrom_0 : decode cX5_copyFrom 0 = .ok (.aload_n 0, 1) := by decide +kernel
theorem dX5_copyFrom_1 : decode cX5_copyFrom 1 = .ok (.aload_n 1, 1) := by decide +kernel
theorem dX5_copyFrom_2 : decode cX5_copyFrom 2 = .ok (.getfield 15, 3) := by decide +kernel
theorem dX5_copyFrom_5 : decode cX5_copyFrom 5 = .ok (.putfield 15, 3) := by decide +kernel
theorem dX5_copyFrom_8 : decode cX5_copyFrom 8 = .ok (.aload_n 0, 1) := by decide +kernel
theorem dX5_copyFrom_9 : decode cX5_copyFrom 9 = .ok (.aload_n 1, 1) := by decide +kernel
theorem dX5_copyFrom_10 : decode cX5_copyFrom 10 = .ok (.getfield 18, 3) := by decide +kernel
theorem dX5_copyFrom_13 : decode cX5_copyFrom 13 = .ok (.putfield 18, 3) := by decide +kernel
theorem dX5_copyFrom_16 : decode cX5_copyFrom 16 = .ok (.aload_n 0, 1) := by decide +kernel
theorem dX5_copyFrom_17 : decode cX5_copyFrom 17 = .ok (.aload_n 1, 1) := by decide +kernel
theorem dX5_copyFrom_18 : decode cX5_copyFrom 18 = .ok (.getfield 38, 3) := by decide +kernel
theorem dX5_copyFrom_21 : decode cX5_copyFrom 21 = .ok (.putfield 38, 3) := by decide +kernel
theorem dX5_copyFrom_24 : decode cX5_copyFrom 24 = .ok (.aload_n 0, 1) := by decide +kernel
theorem dX5_copyFrom_25 : decode cX5_copyFrom 25 = .ok (.aload_n 1, 1) := by decide +kernel
theorem dX5_copyFrom_26 : decode cX5_copyFrom 26 = .ok (.getfield 41, 3) := by decide +kernel
theorem dX5_copyFrom_29 : decode cX5_copyFrom 29 = .ok (.putfield 41, 3) := by decide +kernel
theorem dX5_copyFrom_32 : decode cX5_copyFrom 32 = .ok (.aload_n 0, 1) := by decide +kernel
theorem dX5_copyFrom_33 : decode cX5_copyFrom 33 = .ok (.aload_n 1, 1) := by decide +kernel
theorem dX5_copyFrom_34 : decode cX5_copyFrom 34 = .ok (.getfield 25, 3) := by decide +kernel
theorem dX5_copyFrom_37 : decode cX5_copyFrom 37 = .ok (.putfield 25, 3) := by decide +kernel
theorem dX5_copyFrom_40 : decode cX5_copyFrom 40 = .ok (.aload_n 0, 1) := by decide +kernel
theorem dX5_copyFrom_41 : decode cX5_copyFrom 41 = .ok (.aload_n 1, 1) := by decide +kernel
theorem dX5_copyFrom_42 : decode cX5_copyFrom 42 = .ok (.getfield 28, 3) := by decide +kernel
theorem dX5_copyFrom_45 : decode cX5_copyFrom 45 = .ok (.putfield 28, 3) := by decide +kernel
theorem dX5_copyFrom_48 : decode cX5_copyFrom 48 = .ok (.aload_n 0, 1) := by decide +kernel
theorem dX5_copyFrom_49 : decode cX5_copyFrom 49 = .ok (.aload_n 1, 1) := by decide +kernel
theorem dX5_copyFrom_50 : decode cX5_copyFrom 50 = .ok (.getfield 32, 3) := by decide +kernel
theorem dX5_copyFrom_53 : decode cX5_copyFrom 53 = .ok (.putfield 32, 3) := by decide +kernel
theorem dX5_copyFrom_56 : decode cX5_copyFrom 56 = .ok (.aload_n 0, 1) := by decide +kernel
theorem dX5_copyFrom_57 : decode cX5_copyFrom 57 = .ok (.aload_n 1, 1) := by decide +kernel
theorem dX5_copyFrom_58 : decode cX5_copyFrom 58 = .ok (.getfield 35, 3) := by decide +kernel
theorem dX5_copyFrom_61 : decode cX5_copyFrom 61 = .ok (.putfield 35, 3) := by decide +kernel
theorem dX5_copyFrom_64 : decode cX5_copyFrom 64 = .ok (.return_, 1) := by decide +kernel
theorem dX5_property_0 : decode cX5_property 0 = .ok (.iload_n 1, 1) := by decide +kernel
theorem dX5_property_1 : decode cX5_property 1 = .ok (.tableswitch 95 0 7 #[47, 52, 57, 62, 67, 72, 85, 90], 47) := by decide +kernel
theorem dX5_property_48 : decode cX5_property 48 = .ok (.aload_n 0, 1) := by decide +kernel
theorem dX5_property_49 : decode cX5_property 49 = .ok (.getfield 15, 3) := by decide +kernel
theorem dX5_property_52 : decode cX5_property 52 = .ok (.ireturn, 1) := by decide +kernel
theorem dX5_property_53 : decode cX5_property 53 = .ok (.aload_n 0, 1) := by decide +kernel
theorem dX5_property_54 : decode cX5_property 54 = .ok (.getfield 18, 3) := by decide +kernel
theorem dX5_property_57 : decode cX5_property 57 = .ok (.ireturn, 1) := by decide +kernel
theorem dX5_property_58 : decode cX5_property 58 = .ok (.aload_n 0, 1) := by decide +kernel
theorem dX5_property_59 : decode cX5_property 59 = .ok (.getfield 38, 3) := by decide +kernel
theorem dX5_property_62 : decode cX5_property 62 = .ok (.ireturn, 1) := by decide +kernel
theorem dX5_property_63 : decode cX5_property 63 = .ok (.aload_n 0, 1) := by decide +kernel
theorem dX5_property_64 : decode cX5_property 64 = .ok (.getfield 41, 3) := by decide +kernel
theorem dX5_property_67 : decode cX5_property 67 = .ok (.ireturn, 1) := by decide +kernel
theorem dX5_property_68 : decode cX5_property 68 = .ok (.aload_n 0, 1) := by decide +kernel
theorem dX5_property_69 : decode cX5_property 69 = .ok (.getfield 25, 3) := by decide +kernel
theorem dX5_property_72 : decode cX5_property 72 = .ok (.ireturn, 1) := by decide +kernel
theorem dX5_property_73 : decode cX5_property 73 = .ok (.aload_n 0, 1) := by decide +kernel
theorem dX5_property_74 : decode cX5_property 74 = .ok (.getfield 28, 3) := by decide +kernel
theorem dX5_property_77 : decode cX5_property 77 = .ok (.ifCond .eq 7, 3) := by decide +kernel
theorem dX5_property_80 : decode cX5_property 80 = .ok (.iconst 1, 1) := by decide +kernel
theorem dX5_property_81 : decode cX5_property 81 = .ok (.goto 4, 3) := by decide +kernel
theorem dX5_property_84 : decode cX5_property 84 = .ok (.iconst 0, 1) := by decide +kernel
theorem dX5_property_85 : decode cX5_property 85 = .ok (.ireturn, 1) := by decide +kernel
theorem dX5_property_86 : decode cX5_property 86 = .ok (.aload_n 0, 1) := by decide +kernel
theorem dX5_property_87 : decode cX5_property 87 = .ok (.getfield 32, 3) := by decide +kernel
theorem dX5_property_90 : decode cX5_property 90 = .ok (.ireturn, 1) := by decide +kernel
theorem dX5_property_91 : decode cX5_property 91 = .ok (.aload_n 0, 1) := by decide +kernel
theorem dX5_property_92 : decode cX5_property 92 = .ok (.getfield 35, 3) := by decide +kernel
theorem dX5_property_95 : decode cX5_property 95 = .ok (.ireturn, 1) := by decide +kernel
theorem dX5_property_96 : decode cX5_property 96 = .ok (.bipush (-2), 2) := by decide +kernel
theorem dX5_property_98 : decode cX5_property 98 = .ok (.ireturn, 1) := by decide +kernel
theorem dX5_stands_0 : decode cX5_stands 0 = .ok (.aload_n 0, 1) := by decide +kernel
theorem dX5_stands_1 : decode cX5_stands 1 = .ok (.getfield 38, 3) := by decide +kernel
theorem dX5_stands_4 : decode cX5_stands 4 = .ok (.iload_n 1, 1) := by decide +kernel
theorem dX5_stands_5 : decode cX5_stands 5 = .ok (.if_icmp .ne 23, 3) := by decide +kernel
theorem dX5_stands_8 : decode cX5_stands 8 = .ok (.aload_n 0, 1) := by decide +kernel
theorem dX5_stands_9 : decode cX5_stands 9 = .ok (.getfield 41, 3) := by decide +kernel
theorem dX5_stands_12 : decode cX5_stands 12 = .ok (.iload_n 2, 1) := by decide +kernel
theorem dX5_stands_13 : decode cX5_stands 13 = .ok (.if_icmp .ne 15, 3) := by decide +kernel
theorem dX5_stands_16 : decode cX5_stands 16 = .ok (.aload_n 0, 1) := by decide +kernel
theorem dX5_stands_17 : decode cX5_stands 17 = .ok (.getfield 18, 3) := by decide +kernel
theorem dX5_stands_20 : decode cX5_stands 20 = .ok (.iload_n 3, 1) := by decide +kernel
theorem dX5_stands_21 : decode cX5_stands 21 = .ok (.if_icmp .ne 7, 3) := by decide +kernel
theorem dX5_stands_24 : decode cX5_stands 24 = .ok (.iconst 1, 1) := by decide +kernel
theorem dX5_stands_25 : decode cX5_stands 25 = .ok (.goto 4, 3) := by decide +kernel
theorem dX5_stands_28 : decode cX5_stands 28 = .ok (.iconst 0, 1) := by decide +kernel
theorem dX5_stands_29 : decode cX5_stands 29 = .ok (.ireturn, 1) := by decide +kernel
theorem dX5_standAt_0 : decode cX5_standAt 0 = .ok (.aload_n 0, 1) := by decide +kernel
theorem dX5_standAt_1 : decode cX5_standAt 1 = .ok (.iload_n 1, 1) := by decide +kernel
theorem dX5_standAt_2 : decode cX5_standAt 2 = .ok (.putfield 38, 3) := by decide +kernel
theorem dX5_standAt_5 : decode cX5_standAt 5 = .ok (.aload_n 0, 1) := by decide +kernel
theorem dX5_standAt_6 : decode cX5_standAt 6 = .ok (.iload_n 2, 1) := by decide +kernel
theorem dX5_standAt_7 : decode cX5_standAt 7 = .ok (.putfield 41, 3) := by decide +kernel
theorem dX5_standAt_10 : decode cX5_standAt 10 = .ok (.return_, 1) := by decide +kernel
theorem dX5_enter_0 : decode cX5_enter 0 = .ok (.aload_n 0, 1) := by decide +kernel
theorem dX5_enter_1 : decode cX5_enter 1 = .ok (.iconst 2, 1) := by decide +kernel
theorem dX5_enter_2 : decode cX5_enter 2 = .ok (.putfield 38, 3) := by decide +kernel
theorem dX5_enter_5 : decode cX5_enter 5 = .ok (.aload_n 0, 1) := by decide +kernel
theorem dX5_enter_6 : decode cX5_enter 6 = .ok (.aload_n 1, 1) := by decide +kernel
theorem dX5_enter_7 : decode cX5_enter 7 = .ok (.getfield 44, 3) := by decide +kernel
theorem dX5_enter_10 : decode cX5_enter 10 = .ok (.putfield 41, 3) := by decide +kernel
theorem dX5_enter_13 : decode cX5_enter 13 = .ok (.aload_n 0, 1) := by decide +kernel
theorem dX5_enter_14 : decode cX5_enter 14 = .ok (.aload_n 1, 1) := by decide +kernel
theorem dX5_enter_15 : decode cX5_enter 15 = .ok (.getfield 47, 3) := by decide +kernel
theorem dX5_enter_18 : decode cX5_enter 18 = .ok (.aload_n 0, 1) := by decide +kernel
theorem dX5_enter_19 : decode cX5_enter 19 = .ok (.getfield 15, 3) := by decide +kernel
theorem dX5_enter_22 : decode cX5_enter 22 = .ok (.iadd, 1) := by decide +kernel
theorem dX5_enter_23 : decode cX5_enter 23 = .ok (.iconst 1, 1) := by decide +kernel
theorem dX5_enter_24 : decode cX5_enter 24 = .ok (.isub, 1) := by decide +kernel
theorem dX5_enter_25 : decode cX5_enter 25 = .ok (.putfield 25, 3) := by decide +kernel
theorem dX5_enter_28 : decode cX5_enter 28 = .ok (.return_, 1) := by decide +kernel
theorem dX5_go_0 : decode cX5_go 0 = .ok (.aload_n 0, 1) := by decide +kernel
theorem dX5_go_1 : decode cX5_go 1 = .ok (.iconst 3, 1) := by decide +kernel
theorem dX5_go_2 : decode cX5_go 2 = .ok (.putfield 38, 3) := by decide +kernel
theorem dX5_go_5 : decode cX5_go 5 = .ok (.aload_n 0, 1) := by decide +kernel
theorem dX5_go_6 : decode cX5_go 6 = .ok (.bipush (-6), 2) := by decide +kernel
theorem dX5_go_8 : decode cX5_go 8 = .ok (.putfield 41, 3) := by decide +kernel
theorem dX5_go_11 : decode cX5_go 11 = .ok (.aload_n 0, 1) := by decide +kernel
theorem dX5_go_12 : decode cX5_go 12 = .ok (.iload_n 1, 1) := by decide +kernel
theorem dX5_go_13 : decode cX5_go 13 = .ok (.putfield 35, 3) := by decide +kernel
theorem dX5_go_16 : decode cX5_go 16 = .ok (.return_, 1) := by decide +kernel
theorem dX5_letPass_0 : decode cX5_letPass 0 = .ok (.aload_n 0, 1) := by decide +kernel
theorem dX5_letPass_1 : decode cX5_letPass 1 = .ok (.getfield 38, 3) := by decide +kernel
theorem dX5_letPass_4 : decode cX5_letPass 4 = .ok (.iconst 2, 1) := by decide +kernel
theorem dX5_letPass_5 : decode cX5_letPass 5 = .ok (.if_icmp .ne 17, 3) := by decide +kernel
theorem dX5_letPass_8 : decode cX5_letPass 8 = .ok (.aload_n 0, 1) := by decide +kernel
theorem dX5_letPass_9 : decode cX5_letPass 9 = .ok (.iconst 0, 1) := by decide +kernel
theorem dX5_letPass_10 : decode cX5_letPass 10 = .ok (.aload_n 0, 1) := by decide +kernel
theorem dX5_letPass_11 : decode cX5_letPass 11 = .ok (.getfield 25, 3) := by decide +kernel
theorem dX5_letPass_14 : decode cX5_letPass 14 = .ok (.iload_n 1, 1) := by decide +kernel
theorem dX5_letPass_15 : decode cX5_letPass 15 = .ok (.isub, 1) := by decide +kernel
theorem dX5_letPass_16 : decode cX5_letPass 16 = .ok (.invokestatic 50, 3) := by decide +kernel
theorem dX5_letPass_19 : decode cX5_letPass 19 = .ok (.putfield 25, 3) := by decide +kernel
theorem dX5_letPass_22 : decode cX5_letPass 22 = .ok (.return_, 1) := by decide +kernel
theorem dX6_init_0 : decode cX6_init 0 = .ok (.aload_n 0, 1) := by decide +kernel
theorem dX6_init_1 : decode cX6_init 1 = .ok (.invokespecial 3, 3) := by decide +kernel
theorem dX6_init_4 : decode cX6_init 4 = .ok (.aload_n 0, 1) := by decide +kernel
theorem dX6_init_5 : decode cX6_init 5 = .ok (.new 9, 3) := by decide +kernel
theorem dX6_init_8 : decode cX6_init 8 = .ok (.dup, 1) := by decide +kernel
theorem dX6_init_9 : decode cX6_init 9 = .ok (.invokespecial 11, 3) := by decide +kernel
theorem dX6_init_12 : decode cX6_init 12 = .ok (.putfield 12, 3) := by decide +kernel
theorem dX6_init_15 : decode cX6_init 15 = .ok (.aload_n 0, 1) := by decide +kernel
theorem dX6_init_16 : decode cX6_init 16 = .ok (.new 9, 3) := by decide +kernel
theorem dX6_init_19 : decode cX6_init 19 = .ok (.dup, 1) := by decide +kernel
theorem dX6_init_20 : decode cX6_init 20 = .ok (.invokespecial 11, 3) := by decide +kernel
theorem dX6_init_23 : decode cX6_init 23 = .ok (.putfield 16, 3) := by decide +kernel
theorem dX6_init_26 : decode cX6_init 26 = .ok (.aload_n 0, 1) := by decide +kernel
theorem dX6_init_27 : decode cX6_init 27 = .ok (.iconst 2, 1) := by decide +kernel
theorem dX6_init_28 : decode cX6_init 28 = .ok (.anewarray 9, 3) := by decide +kernel
theorem dX6_init_31 : decode cX6_init 31 = .ok (.putfield 19, 3) := by decide +kernel
theorem dX6_init_34 : decode cX6_init 34 = .ok (.iconst 0, 1) := by decide +kernel
theorem dX6_init_35 : decode cX6_init 35 = .ok (.istore_n 1, 1) := by decide +kernel
theorem dX6_init_36 : decode cX6_init 36 = .ok (.iload_n 1, 1) := by decide +kernel
theorem dX6_init_37 : decode cX6_init 37 = .ok (.iconst 2, 1) := by decide +kernel
theorem dX6_init_38 : decode cX6_init 38 = .ok (.if_icmp .ge 22, 3) := by decide +kernel
theorem dX6_init_41 : decode cX6_init 41 = .ok (.aload_n 0, 1) := by decide +kernel
theorem dX6_init_42 : decode cX6_init 42 = .ok (.getfield 19, 3) := by decide +kernel
theorem dX6_init_45 : decode cX6_init 45 = .ok (.iload_n 1, 1) := by decide +kernel
theorem dX6_init_46 : decode cX6_init 46 = .ok (.new 9, 3) := by decide +kernel
theorem dX6_init_49 : decode cX6_init 49 = .ok (.dup, 1) := by decide +kernel
theorem dX6_init_50 : decode cX6_init 50 = .ok (.invokespecial 11, 3) := by decide +kernel
theorem dX6_init_53 : decode cX6_init 53 = .ok (.aastore, 1) := by decide +kernel
theorem dX6_init_54 : decode cX6_init 54 = .ok (.iinc 1 1, 3) := by decide +kernel
theorem dX6_init_57 : decode cX6_init 57 = .ok (.goto (-21), 3) := by decide +kernel
theorem dX6_init_60 : decode cX6_init 60 = .ok (.aload_n 0, 1) := by decide +kernel
theorem dX6_init_61 : decode cX6_init 61 = .ok (.iconst 2, 1) := by decide +kernel
theorem dX6_init_62 : decode cX6_init 62 = .ok (.newarray .boolean, 2) := by decide +kernel
theorem dX6_init_64 : decode cX6_init 64 = .ok (.putfield 23, 3) := by decide +kernel
theorem dX6_init_67 : decode cX6_init 67 = .ok (.aload_n 0, 1) := by decide +kernel
theorem dX6_init_68 : decode cX6_init 68 = .ok (.new 27, 3) := by decide +kernel
theorem dX6_init_71 : decode cX6_init 71 = .ok (.dup, 1) := by decide +kernel
theorem dX6_init_72 : decode cX6_init 72 = .ok (.invokespecial 29, 3) := by decide +kernel
theorem dX6_init_75 : decode cX6_init 75 = .ok (.putfield 30, 3) := by decide +kernel
theorem dX6_init_78 : decode cX6_init 78 = .ok (.return_, 1) := by decide +kernel
theorem dX6_setUp_0 : decode cX6_setUp 0 = .ok (.iload_n 1, 1) := by decide +kernel
theorem dX6_setUp_1 : decode cX6_setUp 1 = .ok (.iconst 2, 1) := by decide +kernel
theorem dX6_setUp_2 : decode cX6_setUp 2 = .ok (.if_icmp .lt 22, 3) := by decide +kernel
theorem dX6_setUp_5 : decode cX6_setUp 5 = .ok (.iload_n 1, 1) := by decide +kernel
theorem dX6_setUp_6 : decode cX6_setUp 6 = .ok (.bipush 6, 2) := by decide +kernel
theorem dX6_setUp_8 : decode cX6_setUp 8 = .ok (.if_icmp .gt 16, 3) := by decide +kernel
theorem dX6_setUp_11 : decode cX6_setUp 11 = .ok (.iload_n 2, 1) := by decide +kernel
theorem dX6_setUp_12 : decode cX6_setUp 12 = .ok (.ifCond .lt 12, 3) := by decide +kernel
theorem dX6_setUp_15 : decode cX6_setUp 15 = .ok (.iload_n 2, 1) := by decide +kernel
theorem dX6_setUp_16 : decode cX6_setUp 16 = .ok (.iconst 1, 1) := by decide +kernel
theorem dX6_setUp_17 : decode cX6_setUp 17 = .ok (.iload_n 1, 1) := by decide +kernel
theorem dX6_setUp_18 : decode cX6_setUp 18 = .ok (.iconst 1, 1) := by decide +kernel
theorem dX6_setUp_19 : decode cX6_setUp 19 = .ok (.isub, 1) := by decide +kernel
theorem dX6_setUp_20 : decode cX6_setUp 20 = .ok (.ishl, 1) := by decide +kernel
theorem dX6_setUp_21 : decode cX6_setUp 21 = .ok (.if_icmp .lt 6, 3) := by decide +kernel
theorem dX6_setUp_24 : decode cX6_setUp 24 = .ok (.bipush (-2), 2) := by decide +kernel
theorem dX6_setUp_26 : decode cX6_setUp 26 = .ok (.ireturn, 1) := by decide +kernel
theorem dX6_setUp_27 : decode cX6_setUp 27 = .ok (.aload_n 0, 1) := by decide +kernel
theorem dX6_setUp_28 : decode cX6_setUp 28 = .ok (.getfield 12, 3) := by decide +kernel
theorem dX6_setUp_31 : decode cX6_setUp 31 = .ok (.getfield 34, 3) := by decide +kernel
theorem dX6_setUp_34 : decode cX6_setUp 34 = .ok (.istore_n 3, 1) := by decide +kernel
theorem dX6_setUp_35 : decode cX6_setUp 35 = .ok (.aload_n 0, 1) := by decide +kernel
theorem dX6_setUp_36 : decode cX6_setUp 36 = .ok (.getfield 12, 3) := by decide +kernel
theorem dX6_setUp_39 : decode cX6_setUp 39 = .ok (.iload_n 1, 1) := by decide +kernel
theorem dX6_setUp_40 : decode cX6_setUp 40 = .ok (.iload_n 2, 1) := by decide +kernel
theorem dX6_setUp_41 : decode cX6_setUp 41 = .ok (.invokevirtual 38, 3) := by decide +kernel
theorem dX6_setUp_44 : decode cX6_setUp 44 = .ok (.iload_n 3, 1) := by decide +kernel
theorem dX6_setUp_45 : decode cX6_setUp 45 = .ok (.ireturn, 1) := by decide +kernel
theorem dX6_setTime_0 : decode cX6_setTime 0 = .ok (.aload_n 0, 1) := by decide +kernel
theorem dX6_setTime_1 : decode cX6_setTime 1 = .ok (.getfield 12, 3) := by decide +kernel
theorem dX6_setTime_4 : decode cX6_setTime 4 = .ok (.iload_n 1, 1) := by decide +kernel
theorem dX6_setTime_5 : decode cX6_setTime 5 = .ok (.invokevirtual 42, 3) := by decide +kernel
theorem dX6_setTime_8 : decode cX6_setTime 8 = .ok (.astore_n 3, 1) := by decide +kernel
theorem dX6_setTime_9 : decode cX6_setTime 9 = .ok (.aload_n 3, 1) := by decide +kernel
theorem dX6_setTime_10 : decode cX6_setTime 10 = .ok (.ifnonnull 5, 3) := by decide +kernel
theorem dX6_setTime_13 : decode cX6_setTime 13 = .ok (.iconst (-1), 1) := by decide +kernel
theorem dX6_setTime_14 : decode cX6_setTime 14 = .ok (.ireturn, 1) := by decide +kernel
theorem dX6_setTime_15 : decode cX6_setTime 15 = .ok (.iload_n 2, 1) := by decide +kernel
theorem dX6_setTime_16 : decode cX6_setTime 16 = .ok (.iconst 1, 1) := by decide +kernel
theorem dX6_setTime_17 : decode cX6_setTime 17 = .ok (.if_icmp .lt 9, 3) := by decide +kernel
theorem dX6_setTime_20 : decode cX6_setTime 20 = .ok (.iload_n 2, 1) := by decide +kernel
theorem dX6_setTime_21 : decode cX6_setTime 21 = .ok (.bipush 30, 2) := by decide +kernel
theorem dX6_setTime_23 : decode cX6_setTime 23 = .ok (.if_icmp .le 6, 3) := by decide +kernel
theorem dX6_setTime_26 : decode cX6_setTime 26 = .ok (.bipush (-2), 2) := by decide +kernel
theorem dX6_setTime_28 : decode cX6_setTime 28 = .ok (.ireturn, 1) := by decide +kernel
theorem dX6_setTime_29 : decode cX6_setTime 29 = .ok (.aload_n 3, 1) := by decide +kernel
theorem dX6_setTime_30 : decode cX6_setTime 30 = .ok (.getfield 46, 3) := by decide +kernel
theorem dX6_setTime_33 : decode cX6_setTime 33 = .ok (.istore 4, 2) := by decide +kernel
theorem dX6_setTime_35 : decode cX6_setTime 35 = .ok (.aload_n 3, 1) := by decide +kernel
theorem dX6_setTime_36 : decode cX6_setTime 36 = .ok (.iload_n 2, 1) := by decide +kernel
theorem dX6_setTime_37 : decode cX6_setTime 37 = .ok (.putfield 46, 3) := by decide +kernel
theorem dX6_setTime_40 : decode cX6_setTime 40 = .ok (.iload 4, 2) := by decide +kernel
theorem dX6_setTime_42 : decode cX6_setTime 42 = .ok (.ireturn, 1) := by decide +kernel
theorem dX6_setLoops_0 : decode cX6_setLoops 0 = .ok (.aload_n 0, 1) := by decide +kernel
theorem dX6_setLoops_1 : decode cX6_setLoops 1 = .ok (.getfield 12, 3) := by decide +kernel
theorem dX6_setLoops_4 : decode cX6_setLoops 4 = .ok (.iload_n 1, 1) := by decide +kernel
theorem dX6_setLoops_5 : decode cX6_setLoops 5 = .ok (.invokevirtual 51, 3) := by decide +kernel
theorem dX6_setLoops_8 : decode cX6_setLoops 8 = .ok (.ifCond .eq 10, 3) := by decide +kernel
theorem dX6_setLoops_11 : decode cX6_setLoops 11 = .ok (.iload_n 2, 1) := by decide +kernel
theorem dX6_setLoops_12 : decode cX6_setLoops 12 = .ok (.invokestatic 55, 3) := by decide +kernel
theorem dX6_setLoops_15 : decode cX6_setLoops 15 = .ok (.ifCond .ne 5, 3) := by decide +kernel
theorem dX6_setLoops_18 : decode cX6_setLoops 18 = .ok (.iconst (-1), 1) := by decide +kernel
theorem dX6_setLoops_19 : decode cX6_setLoops 19 = .ok (.ireturn, 1) := by decide +kernel
theorem dX6_setLoops_20 : decode cX6_setLoops 20 = .ok (.iload_n 3, 1) := by decide +kernel
theorem dX6_setLoops_21 : decode cX6_setLoops 21 = .ok (.ifCond .lt 8, 3) := by decide +kernel
theorem dX6_setLoops_24 : decode cX6_setLoops 24 = .ok (.iload_n 3, 1) := by decide +kernel
theorem dX6_setLoops_25 : decode cX6_setLoops 25 = .ok (.iconst 3, 1) := by decide +kernel
theorem dX6_setLoops_26 : decode cX6_setLoops 26 = .ok (.if_icmp .le 6, 3) := by decide +kernel
theorem dX6_setLoops_29 : decode cX6_setLoops 29 = .ok (.bipush (-2), 2) := by decide +kernel
theorem dX6_setLoops_31 : decode cX6_setLoops 31 = .ok (.ireturn, 1) := by decide +kernel
theorem dX6_setLoops_32 : decode cX6_setLoops 32 = .ok (.aload_n 0, 1) := by decide +kernel
theorem dX6_setLoops_33 : decode cX6_setLoops 33 = .ok (.getfield 12, 3) := by decide +kernel
theorem dX6_setLoops_36 : decode cX6_setLoops 36 = .ok (.iload_n 1, 1) := by decide +kernel
theorem dX6_setLoops_37 : decode cX6_setLoops 37 = .ok (.iload_n 2, 1) := by decide +kernel
theorem dX6_setLoops_38 : decode cX6_setLoops 38 = .ok (.iload_n 3, 1) := by decide +kernel
theorem dX6_setLoops_39 : decode cX6_setLoops 39 = .ok (.invokevirtual 58, 3) := by decide +kernel
theorem dX6_setLoops_42 : decode cX6_setLoops 42 = .ok (.ireturn, 1) := by decide +kernel
theorem dX6_moveTokens_0 : decode cX6_moveTokens 0 = .ok (.aload_n 0, 1) := by decide +kernel
theorem dX6_moveTokens_1 : decode cX6_moveTokens 1 = .ok (.getfield 12, 3) := by decide +kernel
theorem dX6_moveTokens_4 : decode cX6_moveTokens 4 = .ok (.iload_n 1, 1) := by decide +kernel
theorem dX6_moveTokens_5 : decode cX6_moveTokens 5 = .ok (.invokevirtual 42, 3) := by decide +kernel
theorem dX6_moveTokens_8 : decode cX6_moveTokens 8 = .ok (.astore_n 3, 1) := by decide +kernel
theorem dX6_moveTokens_9 : decode cX6_moveTokens 9 = .ok (.aload_n 3, 1) := by decide +kernel
theorem dX6_moveTokens_10 : decode cX6_moveTokens 10 = .ok (.ifnonnull 5, 3) := by decide +kernel
theorem dX6_moveTokens_13 : decode cX6_moveTokens 13 = .ok (.iconst (-1), 1) := by decide +kernel
theorem dX6_moveTokens_14 : decode cX6_moveTokens 14 = .ok (.ireturn, 1) := by decide +kernel
theorem dX6_moveTokens_15 : decode cX6_moveTokens 15 = .ok (.iload_n 2, 1) := by decide +kernel
theorem dX6_moveTokens_16 : decode cX6_moveTokens 16 = .ok (.bipush (-10), 2) := by decide +kernel
theorem dX6_moveTokens_18 : decode cX6_moveTokens 18 = .ok (.if_icmp .lt 9, 3) := by decide +kernel
theorem dX6_moveTokens_21 : decode cX6_moveTokens 21 = .ok (.iload_n 2, 1) := by decide +kernel
theorem dX6_moveTokens_22 : decode cX6_moveTokens 22 = .ok (.bipush 10, 2) := by decide +kernel
theorem dX6_moveTokens_24 : decode cX6_moveTokens 24 = .ok (.if_icmp .le 6, 3) := by decide +kernel
theorem dX6_moveTokens_27 : decode cX6_moveTokens 27 = .ok (.bipush (-2), 2) := by decide +kernel
theorem dX6_moveTokens_29 : decode cX6_moveTokens 29 = .ok (.ireturn, 1) := by decide +kernel
theorem dX6_moveTokens_30 : decode cX6_moveTokens 30 = .ok (.aload_n 3, 1) := by decide +kernel
theorem dX6_moveTokens_31 : decode cX6_moveTokens 31 = .ok (.iload_n 2, 1) := by decide +kernel
theorem dX6_moveTokens_32 : decode cX6_moveTokens 32 = .ok (.invokevirtual 62, 3) := by decide +kernel
theorem dX6_moveTokens_35 : decode cX6_moveTokens 35 = .ok (.ireturn, 1) := by decide +kernel
theorem dX6_section_0 : decode cX6_section 0 = .ok (.aload_n 0, 1) := by decide +kernel
theorem dX6_section_1 : decode cX6_section 1 = .ok (.getfield 12, 3) := by decide +kernel
theorem dX6_section_4 : decode cX6_section 4 = .ok (.iload_n 1, 1) := by decide +kernel
theorem dX6_section_5 : decode cX6_section 5 = .ok (.invokevirtual 42, 3) := by decide +kernel
theorem dX6_section_8 : decode cX6_section 8 = .ok (.astore_n 3, 1) := by decide +kernel
theorem dX6_section_9 : decode cX6_section 9 = .ok (.aload_n 3, 1) := by decide +kernel
theorem dX6_section_10 : decode cX6_section 10 = .ok (.ifnonnull 7, 3) := by decide +kernel
theorem dX6_section_13 : decode cX6_section 13 = .ok (.iconst (-1), 1) := by decide +kernel
theorem dX6_section_14 : decode cX6_section 14 = .ok (.goto 8, 3) := by decide +kernel
theorem dX6_section_17 : decode cX6_section 17 = .ok (.aload_n 3, 1) := by decide +kernel
theorem dX6_section_18 : decode cX6_section 18 = .ok (.iload_n 2, 1) := by decide +kernel
theorem dX6_section_19 : decode cX6_section 19 = .ok (.invokevirtual 66, 3) := by decide +kernel
theorem dX6_section_22 : decode cX6_section 22 = .ok (.ireturn, 1) := by decide +kernel
theorem dX6_block_0 : decode cX6_block 0 = .ok (.aload_n 0, 1) := by decide +kernel
theorem dX6_block_1 : decode cX6_block 1 = .ok (.getfield 12, 3) := by decide +kernel
theorem dX6_block_4 : decode cX6_block 4 = .ok (.iload_n 1, 1) := by decide +kernel
theorem dX6_block_5 : decode cX6_block 5 = .ok (.iload_n 2, 1) := by decide +kernel
theorem dX6_block_6 : decode cX6_block 6 = .ok (.invokevirtual 69, 3) := by decide +kernel
theorem dX6_block_9 : decode cX6_block 9 = .ok (.astore 4, 2) := by decide +kernel
theorem dX6_block_11 : decode cX6_block 11 = .ok (.aload 4, 2) := by decide +kernel
theorem dX6_block_13 : decode cX6_block 13 = .ok (.ifnonnull 7, 3) := by decide +kernel
theorem dX6_block_16 : decode cX6_block 16 = .ok (.iconst (-1), 1) := by decide +kernel
theorem dX6_block_17 : decode cX6_block 17 = .ok (.goto 9, 3) := by decide +kernel
theorem dX6_block_20 : decode cX6_block 20 = .ok (.aload 4, 2) := by decide +kernel
theorem dX6_block_22 : decode cX6_block 22 = .ok (.iload_n 3, 1) := by decide +kernel
theorem dX6_block_23 : decode cX6_block 23 = .ok (.invokevirtual 73, 3) := by decide +kernel
theorem dX6_block_26 : decode cX6_block 26 = .ok (.ireturn, 1) := by decide +kernel
theorem dX6_appear_0 : decode cX6_appear 0 = .ok (.iload_n 1, 1) := by decide +kernel
theorem dX6_appear_1 : decode cX6_appear 1 = .ok (.invokestatic 76, 3) := by decide +kernel
theorem dX6_appear_4 : decode cX6_appear 4 = .ok (.ifCond .eq 10, 3) := by decide +kernel
theorem dX6_appear_7 : decode cX6_appear 7 = .ok (.iload_n 2, 1) := by decide +kernel
theorem dX6_appear_8 : decode cX6_appear 8 = .ok (.invokestatic 55, 3) := by decide +kernel
theorem dX6_appear_11 : decode cX6_appear 11 = .ok (.ifCond .ne 6, 3) := by decide +kernel
theorem dX6_appear_14 : decode cX6_appear 14 = .ok (.bipush (-2), 2) := by decide +kernel
theorem dX6_appear_16 : decode cX6_appear 16 = .ok (.ireturn, 1) := by decide +kernel
theorem dX6_appear_17 : decode cX6_appear 17 = .ok (.aload_n 0, 1) := by decide +kernel
theorem dX6_appear_18 : decode cX6_appear 18 = .ok (.getfield 12, 3) := by decide +kernel
theorem dX6_appear_21 : decode cX6_appear 21 = .ok (.getfield 34, 3) := by decide +kernel
theorem dX6_appear_24 : decode cX6_appear 24 = .ok (.bipush 12, 2) := by decide +kernel
theorem dX6_appear_26 : decode cX6_appear 26 = .ok (.if_icmp .lt 6, 3) := by decide +kernel
theorem dX6_appear_29 : decode cX6_appear 29 = .ok (.bipush (-4), 2) := by decide +kernel
theorem dX6_appear_31 : decode cX6_appear 31 = .ok (.ireturn, 1) := by decide +kernel
theorem dX6_appear_32 : decode cX6_appear 32 = .ok (.aload_n 0, 1) := by decide +kernel
theorem dX6_appear_33 : decode cX6_appear 33 = .ok (.getfield 12, 3) := by decide +kernel
theorem dX6_appear_36 : decode cX6_appear 36 = .ok (.iload_n 1, 1) := by decide +kernel
theorem dX6_appear_37 : decode cX6_appear 37 = .ok (.iload_n 2, 1) := by decide +kernel
theorem dX6_appear_38 : decode cX6_appear 38 = .ok (.invokevirtual 79, 3) := by decide +kernel
theorem dX6_appear_41 : decode cX6_appear 41 = .ok (.ireturn, 1) := by decide +kernel
theorem dX6_train_0 : decode cX6_train 0 = .ok (.aload_n 0, 1) := by decide +kernel
theorem dX6_train_1 : decode cX6_train 1 = .ok (.getfield 12, 3) := by decide +kernel
theorem dX6_train_4 : decode cX6_train 4 = .ok (.iload_n 1, 1) := by decide +kernel
theorem dX6_train_5 : decode cX6_train 5 = .ok (.invokevirtual 83, 3) := by decide +kernel
theorem dX6_train_8 : decode cX6_train 8 = .ok (.astore_n 3, 1) := by decide +kernel
theorem dX6_train_9 : decode cX6_train 9 = .ok (.aload_n 3, 1) := by decide +kernel
theorem dX6_train_10 : decode cX6_train 10 = .ok (.ifnonnull 7, 3) := by decide +kernel
theorem dX6_train_13 : decode cX6_train 13 = .ok (.iconst (-1), 1) := by decide +kernel
theorem dX6_train_14 : decode cX6_train 14 = .ok (.goto 8, 3) := by decide +kernel
theorem dX6_train_17 : decode cX6_train 17 = .ok (.aload_n 3, 1) := by decide +kernel
theorem dX6_train_18 : decode cX6_train 18 = .ok (.iload_n 2, 1) := by decide +kernel
theorem dX6_train_19 : decode cX6_train 19 = .ok (.invokevirtual 87, 3) := by decide +kernel
theorem dX6_train_22 : decode cX6_train 22 = .ok (.ireturn, 1) := by decide +kernel
theorem dX6_shunt_0 : decode cX6_shunt 0 = .ok (.aload_n 0, 1) := by decide +kernel
theorem dX6_shunt_1 : decode cX6_shunt 1 = .ok (.getfield 12, 3) := by decide +kernel
theorem dX6_shunt_4 : decode cX6_shunt 4 = .ok (.iload_n 1, 1) := by decide +kernel
theorem dX6_shunt_5 : decode cX6_shunt 5 = .ok (.invokevirtual 83, 3) := by decide +kernel
theorem dX6_shunt_8 : decode cX6_shunt 8 = .ok (.astore_n 2, 1) := by decide +kernel
theorem dX6_shunt_9 : decode cX6_shunt 9 = .ok (.aload_n 2, 1) := by decide +kernel
theorem dX6_shunt_10 : decode cX6_shunt 10 = .ok (.ifnonnull 7, 3) := by decide +kernel
theorem dX6_shunt_13 : decode cX6_shunt 13 = .ok (.iconst (-1), 1) := by decide +kernel
theorem dX6_shunt_14 : decode cX6_shunt 14 = .ok (.goto 11, 3) := by decide +kernel
theorem dX6_shunt_17 : decode cX6_shunt 17 = .ok (.aload_n 0, 1) := by decide +kernel
theorem dX6_shunt_18 : decode cX6_shunt 18 = .ok (.getfield 12, 3) := by decide +kernel
theorem dX6_shunt_21 : decode cX6_shunt 21 = .ok (.aload_n 2, 1) := by decide +kernel
theorem dX6_shunt_22 : decode cX6_shunt 22 = .ok (.invokevirtual 90, 3) := by decide +kernel
theorem dX6_shunt_25 : decode cX6_shunt 25 = .ok (.ireturn, 1) := by decide +kernel
theorem dX6_leave_0 : decode cX6_leave 0 = .ok (.aload_n 0, 1) := by decide +kernel
theorem dX6_leave_1 : decode cX6_leave 1 = .ok (.getfield 12, 3) := by decide +kernel
theorem dX6_leave_4 : decode cX6_leave 4 = .ok (.iload_n 1, 1) := by decide +kernel
theorem dX6_leave_5 : decode cX6_leave 5 = .ok (.invokevirtual 83, 3) := by decide +kernel
theorem dX6_leave_8 : decode cX6_leave 8 = .ok (.astore_n 2, 1) := by decide +kernel
theorem dX6_leave_9 : decode cX6_leave 9 = .ok (.aload_n 2, 1) := by decide +kernel
theorem dX6_leave_10 : decode cX6_leave 10 = .ok (.ifnonnull 7, 3) := by decide +kernel
theorem dX6_leave_13 : decode cX6_leave 13 = .ok (.iconst (-1), 1) := by decide +kernel
theorem dX6_leave_14 : decode cX6_leave 14 = .ok (.goto 11, 3) := by decide +kernel
theorem dX6_leave_17 : decode cX6_leave 17 = .ok (.aload_n 0, 1) := by decide +kernel
theorem dX6_leave_18 : decode cX6_leave 18 = .ok (.getfield 12, 3) := by decide +kernel
theorem dX6_leave_21 : decode cX6_leave 21 = .ok (.aload_n 2, 1) := by decide +kernel
theorem dX6_leave_22 : decode cX6_leave 22 = .ok (.invokevirtual 94, 3) := by decide +kernel
theorem dX6_leave_25 : decode cX6_leave 25 = .ok (.ireturn, 1) := by decide +kernel
theorem dX6_divide_0 : decode cX6_divide 0 = .ok (.aload_n 0, 1) := by decide +kernel
theorem dX6_divide_1 : decode cX6_divide 1 = .ok (.getfield 12, 3) := by decide +kernel
theorem dX6_divide_4 : decode cX6_divide 4 = .ok (.iload_n 1, 1) := by decide +kernel
theorem dX6_divide_5 : decode cX6_divide 5 = .ok (.invokevirtual 83, 3) := by decide +kernel
theorem dX6_divide_8 : decode cX6_divide 8 = .ok (.astore_n 2, 1) := by decide +kernel
theorem dX6_divide_9 : decode cX6_divide 9 = .ok (.aload_n 2, 1) := by decide +kernel
theorem dX6_divide_10 : decode cX6_divide 10 = .ok (.ifnonnull 7, 3) := by decide +kernel
theorem dX6_divide_13 : decode cX6_divide 13 = .ok (.iconst (-1), 1) := by decide +kernel
theorem dX6_divide_14 : decode cX6_divide 14 = .ok (.goto 11, 3) := by decide +kernel
theorem dX6_divide_17 : decode cX6_divide 17 = .ok (.aload_n 0, 1) := by decide +kernel
theorem dX6_divide_18 : decode cX6_divide 18 = .ok (.getfield 12, 3) := by decide +kernel
theorem dX6_divide_21 : decode cX6_divide 21 = .ok (.aload_n 2, 1) := by decide +kernel
theorem dX6_divide_22 : decode cX6_divide 22 = .ok (.invokevirtual 97, 3) := by decide +kernel
theorem dX6_divide_25 : decode cX6_divide 25 = .ok (.ireturn, 1) := by decide +kernel
theorem dX6_offer_0 : decode cX6_offer 0 = .ok (.aload_n 0, 1) := by decide +kernel
theorem dX6_offer_1 : decode cX6_offer 1 = .ok (.getfield 12, 3) := by decide +kernel
theorem dX6_offer_4 : decode cX6_offer 4 = .ok (.iload_n 1, 1) := by decide +kernel
theorem dX6_offer_5 : decode cX6_offer 5 = .ok (.invokevirtual 83, 3) := by decide +kernel
theorem dX6_offer_8 : decode cX6_offer 8 = .ok (.astore_n 2, 1) := by decide +kernel
theorem dX6_offer_9 : decode cX6_offer 9 = .ok (.aload_n 2, 1) := by decide +kernel
theorem dX6_offer_10 : decode cX6_offer 10 = .ok (.ifnonnull 7, 3) := by decide +kernel
theorem dX6_offer_13 : decode cX6_offer 13 = .ok (.iconst (-1), 1) := by decide +kernel
theorem dX6_offer_14 : decode cX6_offer 14 = .ok (.goto 11, 3) := by decide +kernel
theorem dX6_offer_17 : decode cX6_offer 17 = .ok (.aload_n 0, 1) := by decide +kernel
theorem dX6_offer_18 : decode cX6_offer 18 = .ok (.getfield 12, 3) := by decide +kernel
theorem dX6_offer_21 : decode cX6_offer 21 = .ok (.aload_n 2, 1) := by decide +kernel
theorem dX6_offer_22 : decode cX6_offer 22 = .ok (.invokevirtual 100, 3) := by decide +kernel
theorem dX6_offer_25 : decode cX6_offer 25 = .ok (.ireturn, 1) := by decide +kernel
theorem dX6_answer_0 : decode cX6_answer 0 = .ok (.aload_n 0, 1) := by decide +kernel
theorem dX6_answer_1 : decode cX6_answer 1 = .ok (.getfield 12, 3) := by decide +kernel
theorem dX6_answer_4 : decode cX6_answer 4 = .ok (.iload_n 1, 1) := by decide +kernel
theorem dX6_answer_5 : decode cX6_answer 5 = .ok (.iload_n 2, 1) := by decide +kernel
theorem dX6_answer_6 : decode cX6_answer 6 = .ok (.invokevirtual 69, 3) := by decide +kernel
theorem dX6_answer_9 : decode cX6_answer 9 = .ok (.astore 4, 2) := by decide +kernel
theorem dX6_answer_11 : decode cX6_answer 11 = .ok (.aload 4, 2) := by decide +kernel
theorem dX6_answer_13 : decode cX6_answer 13 = .ok (.ifnonnull 5, 3) := by decide +kernel
theorem dX6_answer_16 : decode cX6_answer 16 = .ok (.iconst (-1), 1) := by decide +kernel
theorem dX6_answer_17 : decode cX6_answer 17 = .ok (.ireturn, 1) := by decide +kernel
theorem dX6_answer_18 : decode cX6_answer 18 = .ok (.iload_n 3, 1) := by decide +kernel
theorem dX6_answer_19 : decode cX6_answer 19 = .ok (.ifCond .eq 15, 3) := by decide +kernel
theorem dX6_answer_22 : decode cX6_answer 22 = .ok (.aload_n 0, 1) := by decide +kernel
theorem dX6_answer_23 : decode cX6_answer 23 = .ok (.getfield 12, 3) := by decide +kernel
theorem dX6_answer_26 : decode cX6_answer 26 = .ok (.aload 4, 2) := by decide +kernel
theorem dX6_answer_28 : decode cX6_answer 28 = .ok (.invokevirtual 103, 3) := by decide +kernel
theorem dX6_answer_31 : decode cX6_answer 31 = .ok (.goto 12, 3) := by decide +kernel
theorem dX6_answer_34 : decode cX6_answer 34 = .ok (.aload_n 0, 1) := by decide +kernel
theorem dX6_answer_35 : decode cX6_answer 35 = .ok (.getfield 12, 3) := by decide +kernel
theorem dX6_answer_38 : decode cX6_answer 38 = .ok (.aload 4, 2) := by decide +kernel
theorem dX6_answer_40 : decode cX6_answer 40 = .ok (.invokevirtual 107, 3) := by decide +kernel
theorem dX6_answer_43 : decode cX6_answer 43 = .ok (.ireturn, 1) := by decide +kernel
theorem dX6_cancel_0 : decode cX6_cancel 0 = .ok (.aload_n 0, 1) := by decide +kernel
theorem dX6_cancel_1 : decode cX6_cancel 1 = .ok (.getfield 12, 3) := by decide +kernel
theorem dX6_cancel_4 : decode cX6_cancel 4 = .ok (.iload_n 1, 1) := by decide +kernel
theorem dX6_cancel_5 : decode cX6_cancel 5 = .ok (.iload_n 2, 1) := by decide +kernel
theorem dX6_cancel_6 : decode cX6_cancel 6 = .ok (.invokevirtual 69, 3) := by decide +kernel
theorem dX6_cancel_9 : decode cX6_cancel 9 = .ok (.astore_n 3, 1) := by decide +kernel
theorem dX6_cancel_10 : decode cX6_cancel 10 = .ok (.aload_n 3, 1) := by decide +kernel
theorem dX6_cancel_11 : decode cX6_cancel 11 = .ok (.ifnonnull 7, 3) := by decide +kernel
theorem dX6_cancel_14 : decode cX6_cancel 14 = .ok (.iconst (-1), 1) := by decide +kernel
theorem dX6_cancel_15 : decode cX6_cancel 15 = .ok (.goto 11, 3) := by decide +kernel
theorem dX6_cancel_18 : decode cX6_cancel 18 = .ok (.aload_n 0, 1) := by decide +kernel
theorem dX6_cancel_19 : decode cX6_cancel 19 = .ok (.getfield 12, 3) := by decide +kernel
theorem dX6_cancel_22 : decode cX6_cancel 22 = .ok (.aload_n 3, 1) := by decide +kernel
theorem dX6_cancel_23 : decode cX6_cancel 23 = .ok (.invokevirtual 110, 3) := by decide +kernel
theorem dX6_cancel_26 : decode cX6_cancel 26 = .ok (.ireturn, 1) := by decide +kernel
theorem dX6_depart_0 : decode cX6_depart 0 = .ok (.aload_n 0, 1) := by decide +kernel
theorem dX6_depart_1 : decode cX6_depart 1 = .ok (.getfield 12, 3) := by decide +kernel
theorem dX6_depart_4 : decode cX6_depart 4 = .ok (.iload_n 1, 1) := by decide +kernel
theorem dX6_depart_5 : decode cX6_depart 5 = .ok (.invokevirtual 83, 3) := by decide +kernel
theorem dX6_depart_8 : decode cX6_depart 8 = .ok (.astore_n 2, 1) := by decide +kernel
theorem dX6_depart_9 : decode cX6_depart 9 = .ok (.aload_n 2, 1) := by decide +kernel
theorem dX6_depart_10 : decode cX6_depart 10 = .ok (.ifnonnull 7, 3) := by decide +kernel
theorem dX6_depart_13 : decode cX6_depart 13 = .ok (.iconst (-1), 1) := by decide +kernel
theorem dX6_depart_14 : decode cX6_depart 14 = .ok (.goto 11, 3) := by decide +kernel
theorem dX6_depart_17 : decode cX6_depart 17 = .ok (.aload_n 0, 1) := by decide +kernel
theorem dX6_depart_18 : decode cX6_depart 18 = .ok (.getfield 12, 3) := by decide +kernel
theorem dX6_depart_21 : decode cX6_depart 21 = .ok (.aload_n 2, 1) := by decide +kernel
theorem dX6_depart_22 : decode cX6_depart 22 = .ok (.invokevirtual 113, 3) := by decide +kernel
theorem dX6_depart_25 : decode cX6_depart 25 = .ok (.ireturn, 1) := by decide +kernel
theorem dX6_admit_0 : decode cX6_admit 0 = .ok (.aload_n 0, 1) := by decide +kernel
theorem dX6_admit_1 : decode cX6_admit 1 = .ok (.getfield 12, 3) := by decide +kernel
theorem dX6_admit_4 : decode cX6_admit 4 = .ok (.iload_n 1, 1) := by decide +kernel
theorem dX6_admit_5 : decode cX6_admit 5 = .ok (.iload_n 2, 1) := by decide +kernel
theorem dX6_admit_6 : decode cX6_admit 6 = .ok (.invokevirtual 69, 3) := by decide +kernel
theorem dX6_admit_9 : decode cX6_admit 9 = .ok (.astore_n 3, 1) := by decide +kernel
theorem dX6_admit_10 : decode cX6_admit 10 = .ok (.aload_n 3, 1) := by decide +kernel
theorem dX6_admit_11 : decode cX6_admit 11 = .ok (.ifnonnull 7, 3) := by decide +kernel
theorem dX6_admit_14 : decode cX6_admit 14 = .ok (.iconst (-1), 1) := by decide +kernel
theorem dX6_admit_15 : decode cX6_admit 15 = .ok (.goto 11, 3) := by decide +kernel
theorem dX6_admit_18 : decode cX6_admit 18 = .ok (.aload_n 0, 1) := by decide +kernel
theorem dX6_admit_19 : decode cX6_admit 19 = .ok (.getfield 12, 3) := by decide +kernel
theorem dX6_admit_22 : decode cX6_admit 22 = .ok (.aload_n 3, 1) := by decide +kernel
theorem dX6_admit_23 : decode cX6_admit 23 = .ok (.invokevirtual 116, 3) := by decide +kernel
theorem dX6_admit_26 : decode cX6_admit 26 = .ok (.ireturn, 1) := by decide +kernel
theorem dX6_out_0 : decode cX6_out 0 = .ok (.aload_n 0, 1) := by decide +kernel
theorem dX6_out_1 : decode cX6_out 1 = .ok (.getfield 12, 3) := by decide +kernel
theorem dX6_out_4 : decode cX6_out 4 = .ok (.iload_n 1, 1) := by decide +kernel
theorem dX6_out_5 : decode cX6_out 5 = .ok (.iload_n 2, 1) := by decide +kernel
theorem dX6_out_6 : decode cX6_out 6 = .ok (.invokevirtual 69, 3) := by decide +kernel
theorem dX6_out_9 : decode cX6_out 9 = .ok (.astore_n 3, 1) := by decide +kernel
theorem dX6_out_10 : decode cX6_out 10 = .ok (.aload_n 3, 1) := by decide +kernel
theorem dX6_out_11 : decode cX6_out 11 = .ok (.ifnonnull 7, 3) := by decide +kernel
theorem dX6_out_14 : decode cX6_out 14 = .ok (.iconst (-1), 1) := by decide +kernel
theorem dX6_out_15 : decode cX6_out 15 = .ok (.goto 11, 3) := by decide +kernel
theorem dX6_out_18 : decode cX6_out 18 = .ok (.aload_n 0, 1) := by decide +kernel
theorem dX6_out_19 : decode cX6_out 19 = .ok (.getfield 12, 3) := by decide +kernel
theorem dX6_out_22 : decode cX6_out 22 = .ok (.aload_n 3, 1) := by decide +kernel
theorem dX6_out_23 : decode cX6_out 23 = .ok (.invokevirtual 119, 3) := by decide +kernel
theorem dX6_out_26 : decode cX6_out 26 = .ok (.ireturn, 1) := by decide +kernel
theorem dX6_assist_0 : decode cX6_assist 0 = .ok (.aload_n 0, 1) := by decide +kernel
theorem dX6_assist_1 : decode cX6_assist 1 = .ok (.getfield 12, 3) := by decide +kernel
theorem dX6_assist_4 : decode cX6_assist 4 = .ok (.iload_n 1, 1) := by decide +kernel
theorem dX6_assist_5 : decode cX6_assist 5 = .ok (.iload_n 2, 1) := by decide +kernel
theorem dX6_assist_6 : decode cX6_assist 6 = .ok (.invokevirtual 69, 3) := by decide +kernel
theorem dX6_assist_9 : decode cX6_assist 9 = .ok (.astore_n 3, 1) := by decide +kernel
theorem dX6_assist_10 : decode cX6_assist 10 = .ok (.aload_n 3, 1) := by decide +kernel
theorem dX6_assist_11 : decode cX6_assist 11 = .ok (.ifnonnull 7, 3) := by decide +kernel
theorem dX6_assist_14 : decode cX6_assist 14 = .ok (.iconst (-1), 1) := by decide +kernel
theorem dX6_assist_15 : decode cX6_assist 15 = .ok (.goto 11, 3) := by decide +kernel
theorem dX6_assist_18 : decode cX6_assist 18 = .ok (.aload_n 0, 1) := by decide +kernel
theorem dX6_assist_19 : decode cX6_assist 19 = .ok (.getfield 12, 3) := by decide +kernel
theorem dX6_assist_22 : decode cX6_assist 22 = .ok (.aload_n 3, 1) := by decide +kernel
theorem dX6_assist_23 : decode cX6_assist 23 = .ok (.invokevirtual 122, 3) := by decide +kernel
theorem dX6_assist_26 : decode cX6_assist 26 = .ok (.ireturn, 1) := by decide +kernel
theorem dX6_obstruct_0 : decode cX6_obstruct 0 = .ok (.aload_n 0, 1) := by decide +kernel
theorem dX6_obstruct_1 : decode cX6_obstruct 1 = .ok (.getfield 12, 3) := by decide +kernel
theorem dX6_obstruct_4 : decode cX6_obstruct 4 = .ok (.iload_n 1, 1) := by decide +kernel
theorem dX6_obstruct_5 : decode cX6_obstruct 5 = .ok (.iload_n 2, 1) := by decide +kernel
theorem dX6_obstruct_6 : decode cX6_obstruct 6 = .ok (.invokevirtual 69, 3) := by decide +kernel
theorem dX6_obstruct_9 : decode cX6_obstruct 9 = .ok (.astore_n 3, 1) := by decide +kernel
theorem dX6_obstruct_10 : decode cX6_obstruct 10 = .ok (.aload_n 3, 1) := by decide +kernel
theorem dX6_obstruct_11 : decode cX6_obstruct 11 = .ok (.ifnonnull 7, 3) := by decide +kernel
theorem dX6_obstruct_14 : decode cX6_obstruct 14 = .ok (.iconst (-1), 1) := by decide +kernel
theorem dX6_obstruct_15 : decode cX6_obstruct 15 = .ok (.goto 11, 3) := by decide +kernel
theorem dX6_obstruct_18 : decode cX6_obstruct 18 = .ok (.aload_n 0, 1) := by decide +kernel
theorem dX6_obstruct_19 : decode cX6_obstruct 19 = .ok (.getfield 12, 3) := by decide +kernel
theorem dX6_obstruct_22 : decode cX6_obstruct 22 = .ok (.aload_n 3, 1) := by decide +kernel
theorem dX6_obstruct_23 : decode cX6_obstruct 23 = .ok (.invokevirtual 125, 3) := by decide +kernel
theorem dX6_obstruct_26 : decode cX6_obstruct 26 = .ok (.ireturn, 1) := by decide +kernel
theorem dX6_lift_0 : decode cX6_lift 0 = .ok (.aload_n 0, 1) := by decide +kernel
theorem dX6_lift_1 : decode cX6_lift 1 = .ok (.getfield 12, 3) := by decide +kernel
theorem dX6_lift_4 : decode cX6_lift 4 = .ok (.iload_n 1, 1) := by decide +kernel
theorem dX6_lift_5 : decode cX6_lift 5 = .ok (.iload_n 2, 1) := by decide +kernel
theorem dX6_lift_6 : decode cX6_lift 6 = .ok (.invokevirtual 69, 3) := by decide +kernel
theorem dX6_lift_9 : decode cX6_lift 9 = .ok (.astore_n 3, 1) := by decide +kernel
theorem dX6_lift_10 : decode cX6_lift 10 = .ok (.aload_n 3, 1) := by decide +kernel
theorem dX6_lift_11 : decode cX6_lift 11 = .ok (.ifnonnull 7, 3) := by decide +kernel
theorem dX6_lift_14 : decode cX6_lift 14 = .ok (.iconst (-1), 1) := by decide +kernel
theorem dX6_lift_15 : decode cX6_lift 15 = .ok (.goto 11, 3) := by decide +kernel
theorem dX6_lift_18 : decode cX6_lift 18 = .ok (.aload_n 0, 1) := by decide +kernel
theorem dX6_lift_19 : decode cX6_lift 19 = .ok (.getfield 12, 3) := by decide +kernel
theorem dX6_lift_22 : decode cX6_lift 22 = .ok (.aload_n 3, 1) := by decide +kernel
theorem dX6_lift_23 : decode cX6_lift 23 = .ok (.invokevirtual 128, 3) := by decide +kernel
theorem dX6_lift_26 : decode cX6_lift 26 = .ok (.ireturn, 1) := by decide +kernel
theorem dX6_pass_0 : decode cX6_pass 0 = .ok (.iload_n 1, 1) := by decide +kernel
theorem dX6_pass_1 : decode cX6_pass 1 = .ok (.iconst 1, 1) := by decide +kernel
theorem dX6_pass_2 : decode cX6_pass 2 = .ok (.if_icmp .lt 10, 3) := by decide +kernel
theorem dX6_pass_5 : decode cX6_pass 5 = .ok (.iload_n 1, 1) := by decide +kernel
theorem dX6_pass_6 : decode cX6_pass 6 = .ok (.sipush 1000, 3) := by decide +kernel
theorem dX6_pass_9 : decode cX6_pass 9 = .ok (.if_icmp .le 6, 3) := by decide +kernel
theorem dX6_pass_12 : decode cX6_pass 12 = .ok (.bipush (-2), 2) := by decide +kernel
theorem dX6_pass_14 : decode cX6_pass 14 = .ok (.ireturn, 1) := by decide +kernel
theorem dX6_pass_15 : decode cX6_pass 15 = .ok (.aload_n 0, 1) := by decide +kernel
theorem dX6_pass_16 : decode cX6_pass 16 = .ok (.getfield 12, 3) := by decide +kernel
theorem dX6_pass_19 : decode cX6_pass 19 = .ok (.getfield 131, 3) := by decide +kernel
theorem dX6_pass_22 : decode cX6_pass 22 = .ok (.iload_n 1, 1) := by decide +kernel
theorem dX6_pass_23 : decode cX6_pass 23 = .ok (.iadd, 1) := by decide +kernel
theorem dX6_pass_24 : decode cX6_pass 24 = .ok (.ldc 134, 2) := by decide +kernel
theorem dX6_pass_26 : decode cX6_pass 26 = .ok (.if_icmp .le 6, 3) := by decide +kernel
theorem dX6_pass_29 : decode cX6_pass 29 = .ok (.bipush (-5), 2) := by decide +kernel
theorem dX6_pass_31 : decode cX6_pass 31 = .ok (.ireturn, 1) := by decide +kernel
theorem dX6_pass_32 : decode cX6_pass 32 = .ok (.aload_n 0, 1) := by decide +kernel
theorem dX6_pass_33 : decode cX6_pass 33 = .ok (.getfield 12, 3) := by decide +kernel
theorem dX6_pass_36 : decode cX6_pass 36 = .ok (.iload_n 1, 1) := by decide +kernel
theorem dX6_pass_37 : decode cX6_pass 37 = .ok (.invokevirtual 135, 3) := by decide +kernel
theorem dX6_pass_40 : decode cX6_pass 40 = .ok (.aload_n 0, 1) := by decide +kernel
theorem dX6_pass_41 : decode cX6_pass 41 = .ok (.getfield 12, 3) := by decide +kernel
theorem dX6_pass_44 : decode cX6_pass 44 = .ok (.getfield 131, 3) := by decide +kernel
theorem dX6_pass_47 : decode cX6_pass 47 = .ok (.ireturn, 1) := by decide +kernel
theorem dX6_signal_0 : decode cX6_signal 0 = .ok (.iload_n 2, 1) := by decide +kernel
theorem dX6_signal_1 : decode cX6_signal 1 = .ok (.ifCond .lt 8, 3) := by decide +kernel
theorem dX6_signal_4 : decode cX6_signal 4 = .ok (.iload_n 2, 1) := by decide +kernel
theorem dX6_signal_5 : decode cX6_signal 5 = .ok (.iconst 5, 1) := by decide +kernel
theorem dX6_signal_6 : decode cX6_signal 6 = .ok (.if_icmp .lt 6, 3) := by decide +kernel
theorem dX6_signal_9 : decode cX6_signal 9 = .ok (.bipush (-2), 2) := by decide +kernel
theorem dX6_signal_11 : decode cX6_signal 11 = .ok (.ireturn, 1) := by decide +kernel
theorem dX6_signal_12 : decode cX6_signal 12 = .ok (.aload_n 0, 1) := by decide +kernel
theorem dX6_signal_13 : decode cX6_signal 13 = .ok (.getfield 12, 3) := by decide +kernel
theorem dX6_signal_16 : decode cX6_signal 16 = .ok (.getfield 139, 3) := by decide +kernel
theorem dX6_signal_19 : decode cX6_signal 19 = .ok (.iload_n 1, 1) := by decide +kernel
theorem dX6_signal_20 : decode cX6_signal 20 = .ok (.iload_n 2, 1) := by decide +kernel
theorem dX6_signal_21 : decode cX6_signal 21 = .ok (.invokevirtual 143, 3) := by decide +kernel
theorem dX6_signal_24 : decode cX6_signal 24 = .ok (.ireturn, 1) := by decide +kernel
theorem dX6_rung_0 : decode cX6_rung 0 = .ok (.iload_n 2, 1) := by decide +kernel
theorem dX6_rung_1 : decode cX6_rung 1 = .ok (.iconst (-1), 1) := by decide +kernel
theorem dX6_rung_2 : decode cX6_rung 2 = .ok (.if_icmp .eq 16, 3) := by decide +kernel
theorem dX6_rung_5 : decode cX6_rung 5 = .ok (.aload_n 0, 1) := by decide +kernel
theorem dX6_rung_6 : decode cX6_rung 6 = .ok (.getfield 12, 3) := by decide +kernel
theorem dX6_rung_9 : decode cX6_rung 9 = .ok (.iload_n 2, 1) := by decide +kernel
theorem dX6_rung_10 : decode cX6_rung 10 = .ok (.invokevirtual 42, 3) := by decide +kernel
theorem dX6_rung_13 : decode cX6_rung 13 = .ok (.ifnonnull 5, 3) := by decide +kernel
theorem dX6_rung_16 : decode cX6_rung 16 = .ok (.iconst (-1), 1) := by decide +kernel
theorem dX6_rung_17 : decode cX6_rung 17 = .ok (.ireturn, 1) := by decide +kernel
theorem dX6_rung_18 : decode cX6_rung 18 = .ok (.aload_n 0, 1) := by decide +kernel
theorem dX6_rung_19 : decode cX6_rung 19 = .ok (.getfield 12, 3) := by decide +kernel
theorem dX6_rung_22 : decode cX6_rung 22 = .ok (.getfield 139, 3) := by decide +kernel
theorem dX6_rung_25 : decode cX6_rung 25 = .ok (.iload_n 1, 1) := by decide +kernel
theorem dX6_rung_26 : decode cX6_rung 26 = .ok (.iload_n 2, 1) := by decide +kernel
theorem dX6_rung_27 : decode cX6_rung 27 = .ok (.invokevirtual 147, 3) := by decide +kernel
theorem dX6_rung_30 : decode cX6_rung 30 = .ok (.ireturn, 1) := by decide +kernel
theorem dX6_work_0 : decode cX6_work 0 = .ok (.iload_n 1, 1) := by decide +kernel
theorem dX6_work_1 : decode cX6_work 1 = .ok (.iconst 1, 1) := by decide +kernel
theorem dX6_work_2 : decode cX6_work 2 = .ok (.if_icmp .lt 10, 3) := by decide +kernel
theorem dX6_work_5 : decode cX6_work 5 = .ok (.iload_n 1, 1) := by decide +kernel
theorem dX6_work_6 : decode cX6_work 6 = .ok (.sipush 300, 3) := by decide +kernel
theorem dX6_work_9 : decode cX6_work 9 = .ok (.if_icmp .le 6, 3) := by decide +kernel
theorem dX6_work_12 : decode cX6_work 12 = .ok (.bipush (-2), 2) := by decide +kernel
theorem dX6_work_14 : decode cX6_work 14 = .ok (.ireturn, 1) := by decide +kernel
theorem dX6_work_15 : decode cX6_work 15 = .ok (.aload_n 0, 1) := by decide +kernel
theorem dX6_work_16 : decode cX6_work 16 = .ok (.getfield 12, 3) := by decide +kernel
theorem dX6_work_19 : decode cX6_work 19 = .ok (.getfield 131, 3) := by decide +kernel
theorem dX6_work_22 : decode cX6_work 22 = .ok (.iload_n 1, 1) := by decide +kernel
theorem dX6_work_23 : decode cX6_work 23 = .ok (.iadd, 1) := by decide +kernel
theorem dX6_work_24 : decode cX6_work 24 = .ok (.ldc 134, 2) := by decide +kernel
theorem dX6_work_26 : decode cX6_work 26 = .ok (.if_icmp .le 6, 3) := by decide +kernel
theorem dX6_work_29 : decode cX6_work 29 = .ok (.bipush (-5), 2) := by decide +kernel
theorem dX6_work_31 : decode cX6_work 31 = .ok (.ireturn, 1) := by decide +kernel
theorem dX6_work_32 : decode cX6_work 32 = .ok (.iconst 0, 1) := by decide +kernel
theorem dX6_work_33 : decode cX6_work 33 = .ok (.istore_n 2, 1) := by decide +kernel
theorem dX6_work_34 : decode cX6_work 34 = .ok (.iconst 0, 1) := by decide +kernel
theorem dX6_work_35 : decode cX6_work 35 = .ok (.istore_n 3, 1) := by decide +kernel
theorem dX6_work_36 : decode cX6_work 36 = .ok (.iload_n 3, 1) := by decide +kernel
theorem dX6_work_37 : decode cX6_work 37 = .ok (.iload_n 1, 1) := by decide +kernel
theorem dX6_work_38 : decode cX6_work 38 = .ok (.if_icmp .ge 19, 3) := by decide +kernel
theorem dX6_work_41 : decode cX6_work 41 = .ok (.iload_n 2, 1) := by decide +kernel
theorem dX6_work_42 : decode cX6_work 42 = .ok (.aload_n 0, 1) := by decide +kernel
theorem dX6_work_43 : decode cX6_work 43 = .ok (.getfield 12, 3) := by decide +kernel
theorem dX6_work_46 : decode cX6_work 46 = .ok (.invokevirtual 150, 3) := by decide +kernel
theorem dX6_work_49 : decode cX6_work 49 = .ok (.iadd, 1) := by decide +kernel
theorem dX6_work_50 : decode cX6_work 50 = .ok (.istore_n 2, 1) := by decide +kernel
theorem dX6_work_51 : decode cX6_work 51 = .ok (.iinc 3 1, 3) := by decide +kernel
theorem dX6_work_54 : decode cX6_work 54 = .ok (.goto (-18), 3) := by decide +kernel
theorem dX6_work_57 : decode cX6_work 57 = .ok (.iload_n 2, 1) := by decide +kernel
theorem dX6_work_58 : decode cX6_work 58 = .ok (.ireturn, 1) := by decide +kernel
theorem dX6_forecast_0 : decode cX6_forecast 0 = .ok (.aload_n 0, 1) := by decide +kernel
theorem dX6_forecast_1 : decode cX6_forecast 1 = .ok (.getfield 12, 3) := by decide +kernel
theorem dX6_forecast_4 : decode cX6_forecast 4 = .ok (.iload_n 1, 1) := by decide +kernel
theorem dX6_forecast_5 : decode cX6_forecast 5 = .ok (.invokevirtual 83, 3) := by decide +kernel
theorem dX6_forecast_8 : decode cX6_forecast 8 = .ok (.ifnonnull 5, 3) := by decide +kernel
theorem dX6_forecast_11 : decode cX6_forecast 11 = .ok (.iconst (-1), 1) := by decide +kernel
theorem dX6_forecast_12 : decode cX6_forecast 12 = .ok (.ireturn, 1) := by decide +kernel
theorem dX6_forecast_13 : decode cX6_forecast 13 = .ok (.iload_n 2, 1) := by decide +kernel
theorem dX6_forecast_14 : decode cX6_forecast 14 = .ok (.iconst 1, 1) := by decide +kernel
theorem dX6_forecast_15 : decode cX6_forecast 15 = .ok (.if_icmp .lt 10, 3) := by decide +kernel
theorem dX6_forecast_18 : decode cX6_forecast 18 = .ok (.iload_n 2, 1) := by decide +kernel
theorem dX6_forecast_19 : decode cX6_forecast 19 = .ok (.sipush 500, 3) := by decide +kernel
theorem dX6_forecast_22 : decode cX6_forecast 22 = .ok (.if_icmp .le 6, 3) := by decide +kernel
theorem dX6_forecast_25 : decode cX6_forecast 25 = .ok (.bipush (-2), 2) := by decide +kernel
theorem dX6_forecast_27 : decode cX6_forecast 27 = .ok (.ireturn, 1) := by decide +kernel
theorem dX6_forecast_28 : decode cX6_forecast 28 = .ok (.aload_n 0, 1) := by decide +kernel
theorem dX6_forecast_29 : decode cX6_forecast 29 = .ok (.getfield 16, 3) := by decide +kernel
theorem dX6_forecast_32 : decode cX6_forecast 32 = .ok (.aload_n 0, 1) := by decide +kernel
theorem dX6_forecast_33 : decode cX6_forecast 33 = .ok (.getfield 12, 3) := by decide +kernel
theorem dX6_forecast_36 : decode cX6_forecast 36 = .ok (.invokevirtual 154, 3) := by decide +kernel
theorem dX6_forecast_39 : decode cX6_forecast 39 = .ok (.iconst 0, 1) := by decide +kernel
theorem dX6_forecast_40 : decode cX6_forecast 40 = .ok (.istore_n 3, 1) := by decide +kernel
theorem dX6_forecast_41 : decode cX6_forecast 41 = .ok (.iload_n 3, 1) := by decide +kernel
theorem dX6_forecast_42 : decode cX6_forecast 42 = .ok (.iload_n 2, 1) := by decide +kernel
theorem dX6_forecast_43 : decode cX6_forecast 43 = .ok (.if_icmp .ge 30, 3) := by decide +kernel
theorem dX6_forecast_46 : decode cX6_forecast 46 = .ok (.aload_n 0, 1) := by decide +kernel
theorem dX6_forecast_47 : decode cX6_forecast 47 = .ok (.getfield 16, 3) := by decide +kernel
theorem dX6_forecast_50 : decode cX6_forecast 50 = .ok (.iload_n 1, 1) := by decide +kernel
theorem dX6_forecast_51 : decode cX6_forecast 51 = .ok (.invokevirtual 158, 3) := by decide +kernel
theorem dX6_forecast_54 : decode cX6_forecast 54 = .ok (.ifCond .eq 5, 3) := by decide +kernel
theorem dX6_forecast_57 : decode cX6_forecast 57 = .ok (.iload_n 3, 1) := by decide +kernel
theorem dX6_forecast_58 : decode cX6_forecast 58 = .ok (.ireturn, 1) := by decide +kernel
theorem dX6_forecast_59 : decode cX6_forecast 59 = .ok (.aload_n 0, 1) := by decide +kernel
theorem dX6_forecast_60 : decode cX6_forecast 60 = .ok (.getfield 16, 3) := by decide +kernel
theorem dX6_forecast_63 : decode cX6_forecast 63 = .ok (.invokevirtual 150, 3) := by decide +kernel
theorem dX6_forecast_66 : decode cX6_forecast 66 = .ok (.pop, 1) := by decide +kernel
theorem dX6_forecast_67 : decode cX6_forecast 67 = .ok (.iinc 3 1, 3) := by decide +kernel
theorem dX6_forecast_70 : decode cX6_forecast 70 = .ok (.goto (-29), 3) := by decide +kernel
theorem dX6_forecast_73 : decode cX6_forecast 73 = .ok (.aload_n 0, 1) := by decide +kernel
theorem dX6_forecast_74 : decode cX6_forecast 74 = .ok (.getfield 16, 3) := by decide +kernel
theorem dX6_forecast_77 : decode cX6_forecast 77 = .ok (.iload_n 1, 1) := by decide +kernel
theorem dX6_forecast_78 : decode cX6_forecast 78 = .ok (.invokevirtual 158, 3) := by decide +kernel
theorem dX6_forecast_81 : decode cX6_forecast 81 = .ok (.ifCond .eq 7, 3) := by decide +kernel
theorem dX6_forecast_84 : decode cX6_forecast 84 = .ok (.iload_n 2, 1) := by decide +kernel
theorem dX6_forecast_85 : decode cX6_forecast 85 = .ok (.goto 5, 3) := by decide +kernel
theorem dX6_forecast_88 : decode cX6_forecast 88 = .ok (.bipush (-6), 2) := by decide +kernel
theorem dX6_forecast_90 : decode cX6_forecast 90 = .ok (.ireturn, 1) := by decide +kernel
theorem dX6_capacity_0 : decode cX6_capacity 0 = .ok (.iload_n 1, 1) := by decide +kernel
theorem dX6_capacity_1 : decode cX6_capacity 1 = .ok (.invokestatic 76, 3) := by decide +kernel
theorem dX6_capacity_4 : decode cX6_capacity 4 = .ok (.ifCond .eq 22, 3) := by decide +kernel
theorem dX6_capacity_7 : decode cX6_capacity 7 = .ok (.iload_n 2, 1) := by decide +kernel
theorem dX6_capacity_8 : decode cX6_capacity 8 = .ok (.invokestatic 55, 3) := by decide +kernel
theorem dX6_capacity_11 : decode cX6_capacity 11 = .ok (.ifCond .eq 15, 3) := by decide +kernel
theorem dX6_capacity_14 : decode cX6_capacity 14 = .ok (.iload_n 3, 1) := by decide +kernel
theorem dX6_capacity_15 : decode cX6_capacity 15 = .ok (.iconst 1, 1) := by decide +kernel
theorem dX6_capacity_16 : decode cX6_capacity 16 = .ok (.if_icmp .lt 10, 3) := by decide +kernel
theorem dX6_capacity_19 : decode cX6_capacity 19 = .ok (.iload_n 3, 1) := by decide +kernel
theorem dX6_capacity_20 : decode cX6_capacity 20 = .ok (.sipush 300, 3) := by decide +kernel
theorem dX6_capacity_23 : decode cX6_capacity 23 = .ok (.if_icmp .le 6, 3) := by decide +kernel
theorem dX6_capacity_26 : decode cX6_capacity 26 = .ok (.bipush (-2), 2) := by decide +kernel
theorem dX6_capacity_28 : decode cX6_capacity 28 = .ok (.ireturn, 1) := by decide +kernel
theorem dX6_capacity_29 : decode cX6_capacity 29 = .ok (.aload_n 0, 1) := by decide +kernel
theorem dX6_capacity_30 : decode cX6_capacity 30 = .ok (.getfield 16, 3) := by decide +kernel
theorem dX6_capacity_33 : decode cX6_capacity 33 = .ok (.aload_n 0, 1) := by decide +kernel
theorem dX6_capacity_34 : decode cX6_capacity 34 = .ok (.getfield 12, 3) := by decide +kernel
theorem dX6_capacity_37 : decode cX6_capacity 37 = .ok (.invokevirtual 154, 3) := by decide +kernel
theorem dX6_capacity_40 : decode cX6_capacity 40 = .ok (.aload_n 0, 1) := by decide +kernel
theorem dX6_capacity_41 : decode cX6_capacity 41 = .ok (.getfield 16, 3) := by decide +kernel
theorem dX6_capacity_44 : decode cX6_capacity 44 = .ok (.invokevirtual 161, 3) := by decide +kernel
theorem dX6_capacity_47 : decode cX6_capacity 47 = .ok (.iconst 0, 1) := by decide +kernel
theorem dX6_capacity_48 : decode cX6_capacity 48 = .ok (.istore 4, 2) := by decide +kernel
theorem dX6_capacity_50 : decode cX6_capacity 50 = .ok (.iconst 0, 1) := by decide +kernel
theorem dX6_capacity_51 : decode cX6_capacity 51 = .ok (.istore 5, 2) := by decide +kernel
theorem dX6_capacity_53 : decode cX6_capacity 53 = .ok (.iload 5, 2) := by decide +kernel
theorem dX6_capacity_55 : decode cX6_capacity 55 = .ok (.iload_n 3, 1) := by decide +kernel
theorem dX6_capacity_56 : decode cX6_capacity 56 = .ok (.if_icmp .ge 30, 3) := by decide +kernel
theorem dX6_capacity_59 : decode cX6_capacity 59 = .ok (.aload_n 0, 1) := by decide +kernel
theorem dX6_capacity_60 : decode cX6_capacity 60 = .ok (.getfield 16, 3) := by decide +kernel
theorem dX6_capacity_63 : decode cX6_capacity 63 = .ok (.iload_n 1, 1) := by decide +kernel
theorem dX6_capacity_64 : decode cX6_capacity 64 = .ok (.iload_n 2, 1) := by decide +kernel
theorem dX6_capacity_65 : decode cX6_capacity 65 = .ok (.invokevirtual 164, 3) := by decide +kernel
theorem dX6_capacity_68 : decode cX6_capacity 68 = .ok (.iload 4, 2) := by decide +kernel
theorem dX6_capacity_70 : decode cX6_capacity 70 = .ok (.aload_n 0, 1) := by decide +kernel
theorem dX6_capacity_71 : decode cX6_capacity 71 = .ok (.getfield 16, 3) := by decide +kernel
theorem dX6_capacity_74 : decode cX6_capacity 74 = .ok (.invokevirtual 150, 3) := by decide +kernel
theorem dX6_capacity_77 : decode cX6_capacity 77 = .ok (.iadd, 1) := by decide +kernel
theorem dX6_capacity_78 : decode cX6_capacity 78 = .ok (.istore 4, 2) := by decide +kernel
theorem dX6_capacity_80 : decode cX6_capacity 80 = .ok (.iinc 5 1, 3) := by decide +kernel
theorem dX6_capacity_83 : decode cX6_capacity 83 = .ok (.goto (-30), 3) := by decide +kernel
theorem dX6_capacity_86 : decode cX6_capacity 86 = .ok (.iload 4, 2) := by decide +kernel
theorem dX6_capacity_88 : decode cX6_capacity 88 = .ok (.ireturn, 1) := by decide +kernel
theorem dX6_say_0 : decode cX6_say 0 = .ok (.iload_n 1, 1) := by decide +kernel
theorem dX6_say_1 : decode cX6_say 1 = .ok (.bipush 33, 2) := by decide +kernel
theorem dX6_say_3 : decode cX6_say 3 = .ok (.if_icmp .lt 9, 3) := by decide +kernel
theorem dX6_say_6 : decode cX6_say 6 = .ok (.iload_n 1, 1) := by decide +kernel
theorem dX6_say_7 : decode cX6_say 7 = .ok (.bipush 126, 2) := by decide +kernel
theorem dX6_say_9 : decode cX6_say 9 = .ok (.if_icmp .le 6, 3) := by decide +kernel
theorem dX6_say_12 : decode cX6_say 12 = .ok (.bipush (-2), 2) := by decide +kernel
theorem dX6_say_14 : decode cX6_say 14 = .ok (.ireturn, 1) := by decide +kernel
theorem dX6_say_15 : decode cX6_say 15 = .ok (.aload_n 0, 1) := by decide +kernel
theorem dX6_say_16 : decode cX6_say 16 = .ok (.getfield 30, 3) := by decide +kernel
theorem dX6_say_19 : decode cX6_say 19 = .ok (.iload_n 1, 1) := by decide +kernel
theorem dX6_say_20 : decode cX6_say 20 = .ok (.invokevirtual 167, 3) := by decide +kernel
theorem dX6_say_23 : decode cX6_say 23 = .ok (.ireturn, 1) := by decide +kernel
theorem dX6_wipe_0 : decode cX6_wipe 0 = .ok (.aload_n 0, 1) := by decide +kernel
theorem dX6_wipe_1 : decode cX6_wipe 1 = .ok (.getfield 30, 3) := by decide +kernel
theorem dX6_wipe_4 : decode cX6_wipe 4 = .ok (.invokevirtual 170, 3) := by decide +kernel
theorem dX6_wipe_7 : decode cX6_wipe 7 = .ok (.ireturn, 1) := by decide +kernel
theorem dX6_fault_0 : decode cX6_fault 0 = .ok (.aload_n 0, 1) := by decide +kernel
theorem dX6_fault_1 : decode cX6_fault 1 = .ok (.getfield 30, 3) := by decide +kernel
theorem dX6_fault_4 : decode cX6_fault 4 = .ok (.invokevirtual 173, 3) := by decide +kernel
theorem dX6_fault_7 : decode cX6_fault 7 = .ok (.ireturn, 1) := by decide +kernel
theorem dX6_carryOut_0 : decode cX6_carryOut 0 = .ok (.aload_n 0, 1) := by decide +kernel
theorem dX6_carryOut_1 : decode cX6_carryOut 1 = .ok (.getfield 30, 3) := by decide +kernel
theorem dX6_carryOut_4 : decode cX6_carryOut 4 = .ok (.invokevirtual 173, 3) := by decide +kernel
theorem dX6_carryOut_7 : decode cX6_carryOut 7 = .ok (.bipush (-6), 2) := by decide +kernel
theorem dX6_carryOut_9 : decode cX6_carryOut 9 = .ok (.if_icmp .eq 6, 3) := by decide +kernel
theorem dX6_carryOut_12 : decode cX6_carryOut 12 = .ok (.bipush (-3), 2) := by decide +kernel
theorem dX6_carryOut_14 : decode cX6_carryOut 14 = .ok (.ireturn, 1) := by decide +kernel
theorem dX6_carryOut_15 : decode cX6_carryOut 15 = .ok (.iconst 0, 1) := by decide +kernel
theorem dX6_carryOut_16 : decode cX6_carryOut 16 = .ok (.istore_n 1, 1) := by decide +kernel
theorem dX6_carryOut_17 : decode cX6_carryOut 17 = .ok (.aload_n 0, 1) := by decide +kernel
theorem dX6_carryOut_18 : decode cX6_carryOut 18 = .ok (.getfield 30, 3) := by decide +kernel
theorem dX6_carryOut_21 : decode cX6_carryOut 21 = .ok (.invokevirtual 176, 3) := by decide +kernel
theorem dX6_carryOut_24 : decode cX6_carryOut 24 = .ok (.iconst 0, 1) := by decide +kernel
theorem dX6_carryOut_25 : decode cX6_carryOut 25 = .ok (.istore_n 2, 1) := by decide +kernel
theorem dX6_carryOut_26 : decode cX6_carryOut 26 = .ok (.iload_n 2, 1) := by decide +kernel
theorem dX6_carryOut_27 : decode cX6_carryOut 27 = .ok (.bipush 60, 2) := by decide +kernel
theorem dX6_carryOut_29 : decode cX6_carryOut 29 = .ok (.if_icmp .ge 53, 3) := by decide +kernel
theorem dX6_carryOut_32 : decode cX6_carryOut 32 = .ok (.aload_n 0, 1) := by decide +kernel
theorem dX6_carryOut_33 : decode cX6_carryOut 33 = .ok (.getfield 30, 3) := by decide +kernel
theorem dX6_carryOut_36 : decode cX6_carryOut 36 = .ok (.invokevirtual 179, 3) := by decide +kernel
theorem dX6_carryOut_39 : decode cX6_carryOut 39 = .ok (.ifCond .eq 43, 3) := by decide +kernel
theorem dX6_carryOut_42 : decode cX6_carryOut 42 = .ok (.aload_n 0, 1) := by decide +kernel
theorem dX6_carryOut_43 : decode cX6_carryOut 43 = .ok (.aload_n 0, 1) := by decide +kernel
theorem dX6_carryOut_44 : decode cX6_carryOut 44 = .ok (.getfield 30, 3) := by decide +kernel
theorem dX6_carryOut_47 : decode cX6_carryOut 47 = .ok (.getfield 183, 3) := by decide +kernel
theorem dX6_carryOut_50 : decode cX6_carryOut 50 = .ok (.aload_n 0, 1) := by decide +kernel
theorem dX6_carryOut_51 : decode cX6_carryOut 51 = .ok (.getfield 30, 3) := by decide +kernel
theorem dX6_carryOut_54 : decode cX6_carryOut 54 = .ok (.getfield 186, 3) := by decide +kernel
theorem dX6_carryOut_57 : decode cX6_carryOut 57 = .ok (.aload_n 0, 1) := by decide +kernel
theorem dX6_carryOut_58 : decode cX6_carryOut 58 = .ok (.getfield 30, 3) := by decide +kernel
theorem dX6_carryOut_61 : decode cX6_carryOut 61 = .ok (.getfield 189, 3) := by decide +kernel
theorem dX6_carryOut_64 : decode cX6_carryOut 64 = .ok (.invokevirtual 192, 3) := by decide +kernel
theorem dX6_carryOut_67 : decode cX6_carryOut 67 = .ok (.ifCond .ge 6, 3) := by decide +kernel
theorem dX6_carryOut_70 : decode cX6_carryOut 70 = .ok (.goto 12, 3) := by decide +kernel
theorem dX6_carryOut_73 : decode cX6_carryOut 73 = .ok (.iinc 1 1, 3) := by decide +kernel
theorem dX6_carryOut_76 : decode cX6_carryOut 76 = .ok (.iinc 2 1, 3) := by decide +kernel
theorem dX6_carryOut_79 : decode cX6_carryOut 79 = .ok (.goto (-53), 3) := by decide +kernel
theorem dX6_carryOut_82 : decode cX6_carryOut 82 = .ok (.aload_n 0, 1) := by decide +kernel
theorem dX6_carryOut_83 : decode cX6_carryOut 83 = .ok (.getfield 30, 3) := by decide +kernel
theorem dX6_carryOut_86 : decode cX6_carryOut 86 = .ok (.invokevirtual 170, 3) := by decide +kernel
theorem dX6_carryOut_89 : decode cX6_carryOut 89 = .ok (.pop, 1) := by decide +kernel
theorem dX6_carryOut_90 : decode cX6_carryOut 90 = .ok (.iload_n 1, 1) := by decide +kernel
theorem dX6_carryOut_91 : decode cX6_carryOut 91 = .ok (.ireturn, 1) := by decide +kernel
theorem dX6_obey_0 : decode cX6_obey 0 = .ok (.iload_n 1, 1) := by decide +kernel
theorem dX6_obey_1 : decode cX6_obey 1 = .ok (.tableswitch 189 97 121 #[162, 189, 155, 121, 176, 189, 189, 189, 189, 189, 189, 133, 189, 147, 115, 189, 189, 189, 127, 183, 169, 189, 189, 189, 139], 115) := by decide +kernel
theorem dX6_obey_116 : decode cX6_obey 116 = .ok (.aload_n 0, 1) := by decide +kernel
theorem dX6_obey_117 : decode cX6_obey 117 = .ok (.iload_n 2, 1) := by decide +kernel
theorem dX6_obey_118 : decode cX6_obey 118 = .ok (.invokevirtual 195, 3) := by decide +kernel
theorem dX6_obey_121 : decode cX6_obey 121 = .ok (.ireturn, 1) := by decide +kernel
theorem dX6_obey_122 : decode cX6_obey 122 = .ok (.aload_n 0, 1) := by decide +kernel
theorem dX6_obey_123 : decode cX6_obey 123 = .ok (.iload_n 2, 1) := by decide +kernel
theorem dX6_obey_124 : decode cX6_obey 124 = .ok (.invokevirtual 198, 3) := by decide +kernel
theorem dX6_obey_127 : decode cX6_obey 127 = .ok (.ireturn, 1) := by decide +kernel
theorem dX6_obey_128 : decode cX6_obey 128 = .ok (.aload_n 0, 1) := by decide +kernel
theorem dX6_obey_129 : decode cX6_obey 129 = .ok (.iload_n 2, 1) := by decide +kernel
theorem dX6_obey_130 : decode cX6_obey 130 = .ok (.invokevirtual 201, 3) := by decide +kernel
theorem dX6_obey_133 : decode cX6_obey 133 = .ok (.ireturn, 1) := by decide +kernel
theorem dX6_obey_134 : decode cX6_obey 134 = .ok (.aload_n 0, 1) := by decide +kernel
theorem dX6_obey_135 : decode cX6_obey 135 = .ok (.iload_n 2, 1) := by decide +kernel
theorem dX6_obey_136 : decode cX6_obey 136 = .ok (.invokevirtual 204, 3) := by decide +kernel
theorem dX6_obey_139 : decode cX6_obey 139 = .ok (.ireturn, 1) := by decide +kernel
theorem dX6_obey_140 : decode cX6_obey 140 = .ok (.aload_n 0, 1) := by decide +kernel
theorem dX6_obey_141 : decode cX6_obey 141 = .ok (.iload_n 2, 1) := by decide +kernel
theorem dX6_obey_142 : decode cX6_obey 142 = .ok (.iload_n 3, 1) := by decide +kernel
theorem dX6_obey_143 : decode cX6_obey 143 = .ok (.iconst 1, 1) := by decide +kernel
theorem dX6_obey_144 : decode cX6_obey 144 = .ok (.invokevirtual 207, 3) := by decide +kernel
theorem dX6_obey_147 : decode cX6_obey 147 = .ok (.ireturn, 1) := by decide +kernel
theorem dX6_obey_148 : decode cX6_obey 148 = .ok (.aload_n 0, 1) := by decide +kernel
theorem dX6_obey_149 : decode cX6_obey 149 = .ok (.iload_n 2, 1) := by decide +kernel
theorem dX6_obey_150 : decode cX6_obey 150 = .ok (.iload_n 3, 1) := by decide +kernel
theorem dX6_obey_151 : decode cX6_obey 151 = .ok (.iconst 0, 1) := by decide +kernel
theorem dX6_obey_152 : decode cX6_obey 152 = .ok (.invokevirtual 207, 3) := by decide +kernel
theorem dX6_obey_155 : decode cX6_obey 155 = .ok (.ireturn, 1) := by decide +kernel
theorem dX6_obey_156 : decode cX6_obey 156 = .ok (.aload_n 0, 1) := by decide +kernel
theorem dX6_obey_157 : decode cX6_obey 157 = .ok (.iload_n 2, 1) := by decide +kernel
theorem dX6_obey_158 : decode cX6_obey 158 = .ok (.iload_n 3, 1) := by decide +kernel
theorem dX6_obey_159 : decode cX6_obey 159 = .ok (.invokevirtual 211, 3) := by decide +kernel
theorem dX6_obey_162 : decode cX6_obey 162 = .ok (.ireturn, 1) := by decide +kernel
theorem dX6_obey_163 : decode cX6_obey 163 = .ok (.aload_n 0, 1) := by decide +kernel
theorem dX6_obey_164 : decode cX6_obey 164 = .ok (.iload_n 2, 1) := by decide +kernel
theorem dX6_obey_165 : decode cX6_obey 165 = .ok (.iload_n 3, 1) := by decide +kernel
theorem dX6_obey_166 : decode cX6_obey 166 = .ok (.invokevirtual 214, 3) := by decide +kernel
theorem dX6_obey_169 : decode cX6_obey 169 = .ok (.ireturn, 1) := by decide +kernel
theorem dX6_obey_170 : decode cX6_obey 170 = .ok (.aload_n 0, 1) := by decide +kernel
theorem dX6_obey_171 : decode cX6_obey 171 = .ok (.iload_n 2, 1) := by decide +kernel
theorem dX6_obey_172 : decode cX6_obey 172 = .ok (.iload_n 3, 1) := by decide +kernel
theorem dX6_obey_173 : decode cX6_obey 173 = .ok (.invokevirtual 217, 3) := by decide +kernel
theorem dX6_obey_176 : decode cX6_obey 176 = .ok (.ireturn, 1) := by decide +kernel
theorem dX6_obey_177 : decode cX6_obey 177 = .ok (.aload_n 0, 1) := by decide +kernel
theorem dX6_obey_178 : decode cX6_obey 178 = .ok (.iload_n 2, 1) := by decide +kernel
theorem dX6_obey_179 : decode cX6_obey 179 = .ok (.iload_n 3, 1) := by decide +kernel
theorem dX6_obey_180 : decode cX6_obey 180 = .ok (.invokevirtual 220, 3) := by decide +kernel
theorem dX6_obey_183 : decode cX6_obey 183 = .ok (.ireturn, 1) := by decide +kernel
theorem dX6_obey_184 : decode cX6_obey 184 = .ok (.aload_n 0, 1) := by decide +kernel
theorem dX6_obey_185 : decode cX6_obey 185 = .ok (.iload_n 2, 1) := by decide +kernel
theorem dX6_obey_186 : decode cX6_obey 186 = .ok (.invokevirtual 223, 3) := by decide +kernel
theorem dX6_obey_189 : decode cX6_obey 189 = .ok (.ireturn, 1) := by decide +kernel
theorem dX6_obey_190 : decode cX6_obey 190 = .ok (.bipush (-3), 2) := by decide +kernel
theorem dX6_obey_192 : decode cX6_obey 192 = .ok (.ireturn, 1) := by decide +kernel
theorem dX6_count_0 : decode cX6_count 0 = .ok (.iload_n 1, 1) := by decide +kernel
theorem dX6_count_1 : decode cX6_count 1 = .ok (.tableswitch 147 0 9 #[55, 63, 71, 80, 89, 100, 110, 118, 126, 136], 55) := by decide +kernel
theorem dX6_count_56 : decode cX6_count 56 = .ok (.aload_n 0, 1) := by decide +kernel
theorem dX6_count_57 : decode cX6_count 57 = .ok (.getfield 12, 3) := by decide +kernel
theorem dX6_count_60 : decode cX6_count 60 = .ok (.getfield 131, 3) := by decide +kernel
theorem dX6_count_63 : decode cX6_count 63 = .ok (.ireturn, 1) := by decide +kernel
theorem dX6_count_64 : decode cX6_count 64 = .ok (.aload_n 0, 1) := by decide +kernel
theorem dX6_count_65 : decode cX6_count 65 = .ok (.getfield 12, 3) := by decide +kernel
theorem dX6_count_68 : decode cX6_count 68 = .ok (.getfield 34, 3) := by decide +kernel
theorem dX6_count_71 : decode cX6_count 71 = .ok (.ireturn, 1) := by decide +kernel
theorem dX6_count_72 : decode cX6_count 72 = .ok (.aload_n 0, 1) := by decide +kernel
theorem dX6_count_73 : decode cX6_count 73 = .ok (.getfield 12, 3) := by decide +kernel
theorem dX6_count_76 : decode cX6_count 76 = .ok (.iconst 3, 1) := by decide +kernel
theorem dX6_count_77 : decode cX6_count 77 = .ok (.invokevirtual 226, 3) := by decide +kernel
theorem dX6_count_80 : decode cX6_count 80 = .ok (.ireturn, 1) := by decide +kernel
theorem dX6_count_81 : decode cX6_count 81 = .ok (.aload_n 0, 1) := by decide +kernel
theorem dX6_count_82 : decode cX6_count 82 = .ok (.getfield 12, 3) := by decide +kernel
theorem dX6_count_85 : decode cX6_count 85 = .ok (.iconst 2, 1) := by decide +kernel
theorem dX6_count_86 : decode cX6_count 86 = .ok (.invokevirtual 226, 3) := by decide +kernel
theorem dX6_count_89 : decode cX6_count 89 = .ok (.ireturn, 1) := by decide +kernel
theorem dX6_count_90 : decode cX6_count 90 = .ok (.aload_n 0, 1) := by decide +kernel
theorem dX6_count_91 : decode cX6_count 91 = .ok (.getfield 12, 3) := by decide +kernel
theorem dX6_count_94 : decode cX6_count 94 = .ok (.getfield 139, 3) := by decide +kernel
theorem dX6_count_97 : decode cX6_count 97 = .ok (.getfield 229, 3) := by decide +kernel
theorem dX6_count_100 : decode cX6_count 100 = .ok (.ireturn, 1) := by decide +kernel
theorem dX6_count_101 : decode cX6_count 101 = .ok (.aload_n 0, 1) := by decide +kernel
theorem dX6_count_102 : decode cX6_count 102 = .ok (.getfield 12, 3) := by decide +kernel
theorem dX6_count_105 : decode cX6_count 105 = .ok (.iconst 0, 1) := by decide +kernel
theorem dX6_count_106 : decode cX6_count 106 = .ok (.iconst 0, 1) := by decide +kernel
theorem dX6_count_107 : decode cX6_count 107 = .ok (.invokevirtual 232, 3) := by decide +kernel
theorem dX6_count_110 : decode cX6_count 110 = .ok (.ireturn, 1) := by decide +kernel
theorem dX6_count_111 : decode cX6_count 111 = .ok (.aload_n 0, 1) := by decide +kernel
theorem dX6_count_112 : decode cX6_count 112 = .ok (.getfield 12, 3) := by decide +kernel
theorem dX6_count_115 : decode cX6_count 115 = .ok (.getfield 235, 3) := by decide +kernel
theorem dX6_count_118 : decode cX6_count 118 = .ok (.ireturn, 1) := by decide +kernel
theorem dX6_count_119 : decode cX6_count 119 = .ok (.aload_n 0, 1) := by decide +kernel
theorem dX6_count_120 : decode cX6_count 120 = .ok (.getfield 30, 3) := by decide +kernel
theorem dX6_count_123 : decode cX6_count 123 = .ok (.getfield 238, 3) := by decide +kernel
theorem dX6_count_126 : decode cX6_count 126 = .ok (.ireturn, 1) := by decide +kernel
theorem dX6_count_127 : decode cX6_count 127 = .ok (.aload_n 0, 1) := by decide +kernel
theorem dX6_count_128 : decode cX6_count 128 = .ok (.getfield 12, 3) := by decide +kernel
theorem dX6_count_131 : decode cX6_count 131 = .ok (.iconst 3, 1) := by decide +kernel
theorem dX6_count_132 : decode cX6_count 132 = .ok (.iconst 0, 1) := by decide +kernel
theorem dX6_count_133 : decode cX6_count 133 = .ok (.invokevirtual 232, 3) := by decide +kernel
theorem dX6_count_136 : decode cX6_count 136 = .ok (.ireturn, 1) := by decide +kernel
theorem dX6_count_137 : decode cX6_count 137 = .ok (.aload_n 0, 1) := by decide +kernel
theorem dX6_count_138 : decode cX6_count 138 = .ok (.getfield 12, 3) := by decide +kernel
theorem dX6_count_141 : decode cX6_count 141 = .ok (.iconst 1, 1) := by decide +kernel
theorem dX6_count_142 : decode cX6_count 142 = .ok (.bipush (-6), 2) := by decide +kernel
theorem dX6_count_144 : decode cX6_count 144 = .ok (.invokevirtual 232, 3) := by decide +kernel
theorem dX6_count_147 : decode cX6_count 147 = .ok (.ireturn, 1) := by decide +kernel
theorem dX6_count_148 : decode cX6_count 148 = .ok (.bipush (-2), 2) := by decide +kernel
theorem dX6_count_150 : decode cX6_count 150 = .ok (.ireturn, 1) := by decide +kernel
theorem dX6_save_0 : decode cX6_save 0 = .ok (.iload_n 1, 1) := by decide +kernel
theorem dX6_save_1 : decode cX6_save 1 = .ok (.ifCond .lt 8, 3) := by decide +kernel
theorem dX6_save_4 : decode cX6_save 4 = .ok (.iload_n 1, 1) := by decide +kernel
theorem dX6_save_5 : decode cX6_save 5 = .ok (.iconst 2, 1) := by decide +kernel
theorem dX6_save_6 : decode cX6_save 6 = .ok (.if_icmp .lt 6, 3) := by decide +kernel
theorem dX6_save_9 : decode cX6_save 9 = .ok (.bipush (-2), 2) := by decide +kernel
theorem dX6_save_11 : decode cX6_save 11 = .ok (.ireturn, 1) := by decide +kernel
theorem dX6_save_12 : decode cX6_save 12 = .ok (.aload_n 0, 1) := by decide +kernel
theorem dX6_save_13 : decode cX6_save 13 = .ok (.getfield 19, 3) := by decide +kernel
theorem dX6_save_16 : decode cX6_save 16 = .ok (.iload_n 1, 1) := by decide +kernel
theorem dX6_save_17 : decode cX6_save 17 = .ok (.aaload, 1) := by decide +kernel
theorem dX6_save_18 : decode cX6_save 18 = .ok (.aload_n 0, 1) := by decide +kernel
theorem dX6_save_19 : decode cX6_save 19 = .ok (.getfield 12, 3) := by decide +kernel
theorem dX6_save_22 : decode cX6_save 22 = .ok (.invokevirtual 154, 3) := by decide +kernel
theorem dX6_save_25 : decode cX6_save 25 = .ok (.aload_n 0, 1) := by decide +kernel
theorem dX6_save_26 : decode cX6_save 26 = .ok (.getfield 23, 3) := by decide +kernel
theorem dX6_save_29 : decode cX6_save 29 = .ok (.iload_n 1, 1) := by decide +kernel
theorem dX6_save_30 : decode cX6_save 30 = .ok (.iconst 1, 1) := by decide +kernel
theorem dX6_save_31 : decode cX6_save 31 = .ok (.bastore, 1) := by decide +kernel
theorem dX6_save_32 : decode cX6_save 32 = .ok (.aload_n 0, 1) := by decide +kernel
theorem dX6_save_33 : decode cX6_save 33 = .ok (.getfield 12, 3) := by decide +kernel
theorem dX6_save_36 : decode cX6_save 36 = .ok (.getfield 131, 3) := by decide +kernel
theorem dX6_save_39 : decode cX6_save 39 = .ok (.ireturn, 1) := by decide +kernel
theorem dX6_restore_0 : decode cX6_restore 0 = .ok (.iload_n 1, 1) := by decide +kernel
theorem dX6_restore_1 : decode cX6_restore 1 = .ok (.ifCond .lt 8, 3) := by decide +kernel
theorem dX6_restore_4 : decode cX6_restore 4 = .ok (.iload_n 1, 1) := by decide +kernel
theorem dX6_restore_5 : decode cX6_restore 5 = .ok (.iconst 2, 1) := by decide +kernel
theorem dX6_restore_6 : decode cX6_restore 6 = .ok (.if_icmp .lt 6, 3) := by decide +kernel
theorem dX6_restore_9 : decode cX6_restore 9 = .ok (.bipush (-2), 2) := by decide +kernel
theorem dX6_restore_11 : decode cX6_restore 11 = .ok (.ireturn, 1) := by decide +kernel
theorem dX6_restore_12 : decode cX6_restore 12 = .ok (.aload_n 0, 1) := by decide +kernel
theorem dX6_restore_13 : decode cX6_restore 13 = .ok (.getfield 23, 3) := by decide +kernel
theorem dX6_restore_16 : decode cX6_restore 16 = .ok (.iload_n 1, 1) := by decide +kernel
theorem dX6_restore_17 : decode cX6_restore 17 = .ok (.baload, 1) := by decide +kernel
theorem dX6_restore_18 : decode cX6_restore 18 = .ok (.ifCond .ne 6, 3) := by decide +kernel
theorem dX6_restore_21 : decode cX6_restore 21 = .ok (.bipush (-5), 2) := by decide +kernel
theorem dX6_restore_23 : decode cX6_restore 23 = .ok (.ireturn, 1) := by decide +kernel
theorem dX6_restore_24 : decode cX6_restore 24 = .ok (.aload_n 0, 1) := by decide +kernel
theorem dX6_restore_25 : decode cX6_restore 25 = .ok (.getfield 12, 3) := by decide +kernel
theorem dX6_restore_28 : decode cX6_restore 28 = .ok (.aload_n 0, 1) := by decide +kernel
theorem dX6_restore_29 : decode cX6_restore 29 = .ok (.getfield 19, 3) := by decide +kernel
theorem dX6_restore_32 : decode cX6_restore 32 = .ok (.iload_n 1, 1) := by decide +kernel
theorem dX6_restore_33 : decode cX6_restore 33 = .ok (.aaload, 1) := by decide +kernel
theorem dX6_restore_34 : decode cX6_restore 34 = .ok (.invokevirtual 154, 3) := by decide +kernel
theorem dX6_restore_37 : decode cX6_restore 37 = .ok (.aload_n 0, 1) := by decide +kernel
theorem dX6_restore_38 : decode cX6_restore 38 = .ok (.getfield 12, 3) := by decide +kernel
theorem dX6_restore_41 : decode cX6_restore 41 = .ok (.getfield 131, 3) := by decide +kernel
theorem dX6_restore_44 : decode cX6_restore 44 = .ok (.ireturn, 1) := by decide +kernel
theorem dX6_isDirection_0 : decode cX6_isDirection 0 = .ok (.iload_n 0, 1) := by decide +kernel
theorem dX6_isDirection_1 : decode cX6_isDirection 1 = .ok (.ifCond .eq 8, 3) := by decide +kernel
theorem dX6_isDirection_4 : decode cX6_isDirection 4 = .ok (.iload_n 0, 1) := by decide +kernel
theorem dX6_isDirection_5 : decode cX6_isDirection 5 = .ok (.iconst 1, 1) := by decide +kernel
theorem dX6_isDirection_6 : decode cX6_isDirection 6 = .ok (.if_icmp .ne 7, 3) := by decide +kernel
theorem dX6_isDirection_9 : decode cX6_isDirection 9 = .ok (.iconst 1, 1) := by decide +kernel
theorem dX6_isDirection_10 : decode cX6_isDirection 10 = .ok (.goto 4, 3) := by decide +kernel
theorem dX6_isDirection_13 : decode cX6_isDirection 13 = .ok (.iconst 0, 1) := by decide +kernel
theorem dX6_isDirection_14 : decode cX6_isDirection 14 = .ok (.ireturn, 1) := by decide +kernel
theorem dX6_isKind_0 : decode cX6_isKind 0 = .ok (.iload_n 0, 1) := by decide +kernel
theorem dX6_isKind_1 : decode cX6_isKind 1 = .ok (.iconst 1, 1) := by decide +kernel
theorem dX6_isKind_2 : decode cX6_isKind 2 = .ok (.if_icmp .lt 12, 3) := by decide +kernel
theorem dX6_isKind_5 : decode cX6_isKind 5 = .ok (.iload_n 0, 1) := by decide +kernel
theorem dX6_isKind_6 : decode cX6_isKind 6 = .ok (.iconst 5, 1) := by decide +kernel
theorem dX6_isKind_7 : decode cX6_isKind 7 = .ok (.if_icmp .gt 7, 3) := by decide +kernel
theorem dX6_isKind_10 : decode cX6_isKind 10 = .ok (.iconst 1, 1) := by decide +kernel
theorem dX6_isKind_11 : decode cX6_isKind 11 = .ok (.goto 4, 3) := by decide +kernel
theorem dX6_isKind_14 : decode cX6_isKind 14 = .ok (.iconst 0, 1) := by decide +kernel
theorem dX6_isKind_15 : decode cX6_isKind 15 = .ok (.ireturn, 1) := by decide +kernel
theorem dX6_offerCode_0 : decode cX6_offerCode 0 = .ok (.iload_n 0, 1) := by decide +kernel
theorem dX6_offerCode_1 : decode cX6_offerCode 1 = .ok (.tableswitch 41 1 4 #[31, 33, 36, 38], 31) := by decide +kernel
theorem dX6_offerCode_32 : decode cX6_offerCode 32 = .ok (.iconst 4, 1) := by decide +kernel
theorem dX6_offerCode_33 : decode cX6_offerCode 33 = .ok (.ireturn, 1) := by decide +kernel
theorem dX6_offerCode_34 : decode cX6_offerCode 34 = .ok (.bipush 31, 2) := by decide +kernel
theorem dX6_offerCode_36 : decode cX6_offerCode 36 = .ok (.ireturn, 1) := by decide +kernel
theorem dX6_offerCode_37 : decode cX6_offerCode 37 = .ok (.iconst 5, 1) := by decide +kernel
theorem dX6_offerCode_38 : decode cX6_offerCode 38 = .ok (.ireturn, 1) := by decide +kernel
theorem dX6_offerCode_39 : decode cX6_offerCode 39 = .ok (.bipush 32, 2) := by decide +kernel
theorem dX6_offerCode_41 : decode cX6_offerCode 41 = .ok (.ireturn, 1) := by decide +kernel
theorem dX6_offerCode_42 : decode cX6_offerCode 42 = .ok (.bipush 41, 2) := by decide +kernel
theorem dX6_offerCode_44 : decode cX6_offerCode 44 = .ok (.ireturn, 1) := by decide +kernel
theorem dX7_init_0 : decode cX7_init 0 = .ok (.aload_n 0, 1) := by decide +kernel
theorem dX7_init_1 : decode cX7_init 1 = .ok (.invokespecial 1, 3) := by decide +kernel
theorem dX7_init_4 : decode cX7_init 4 = .ok (.aload_n 0, 1) := by decide +kernel
theorem dX7_init_5 : decode cX7_init 5 = .ok (.sipush 2862, 3) := by decide +kernel
theorem dX7_init_8 : decode cX7_init 8 = .ok (.newarray .int, 2) := by decide +kernel
theorem dX7_init_10 : decode cX7_init 10 = .ok (.putfield 7, 3) := by decide +kernel
theorem dX7_init_13 : decode cX7_init 13 = .ok (.aload_n 0, 1) := by decide +kernel
theorem dX7_init_14 : decode cX7_init 14 = .ok (.sipush 2862, 3) := by decide +kernel
theorem dX7_init_17 : decode cX7_init 17 = .ok (.newarray .int, 2) := by decide +kernel
theorem dX7_init_19 : decode cX7_init 19 = .ok (.putfield 13, 3) := by decide +kernel
theorem dX7_init_22 : decode cX7_init 22 = .ok (.aload_n 0, 1) := by decide +kernel
theorem dX7_init_23 : decode cX7_init 23 = .ok (.sipush 5724, 3) := by decide +kernel
theorem dX7_init_26 : decode cX7_init 26 = .ok (.newarray .int, 2) := by decide +kernel
theorem dX7_init_28 : decode cX7_init 28 = .ok (.putfield 16, 3) := by decide +kernel
theorem dX7_init_31 : decode cX7_init 31 = .ok (.aload_n 0, 1) := by decide +kernel
theorem dX7_init_32 : decode cX7_init 32 = .ok (.iconst 2, 1) := by decide +kernel
theorem dX7_init_33 : decode cX7_init 33 = .ok (.newarray .boolean, 2) := by decide +kernel
theorem dX7_init_35 : decode cX7_init 35 = .ok (.putfield 19, 3) := by decide +kernel
theorem dX7_init_38 : decode cX7_init 38 = .ok (.aload_n 0, 1) := by decide +kernel
theorem dX7_init_39 : decode cX7_init 39 = .ok (.bipush 60, 2) := by decide +kernel
theorem dX7_init_41 : decode cX7_init 41 = .ok (.newarray .int, 2) := by decide +kernel
theorem dX7_init_43 : decode cX7_init 43 = .ok (.putfield 23, 3) := by decide +kernel
theorem dX7_init_46 : decode cX7_init 46 = .ok (.aload_n 0, 1) := by decide +kernel
theorem dX7_init_47 : decode cX7_init 47 = .ok (.sipush 180, 3) := by decide +kernel
theorem dX7_init_50 : decode cX7_init 50 = .ok (.newarray .int, 2) := by decide +kernel
theorem dX7_init_52 : decode cX7_init 52 = .ok (.putfield 26, 3) := by decide +kernel
theorem dX7_init_55 : decode cX7_init 55 = .ok (.aload_n 0, 1) := by decide +kernel
theorem dX7_init_56 : decode cX7_init 56 = .ok (.iconst 4, 1) := by decide +kernel
theorem dX7_init_57 : decode cX7_init 57 = .ok (.iconst 0, 1) := by decide +kernel
theorem dX7_init_58 : decode cX7_init 58 = .ok (.invokevirtual 29, 3) := by decide +kernel
theorem dX7_init_61 : decode cX7_init 61 = .ok (.return_, 1) := by decide +kernel
theorem dX7_in_0 : decode cX7_in 0 = .ok (.iload_n 0, 1) := by decide +kernel
theorem dX7_in_1 : decode cX7_in 1 = .ok (.iload_n 1, 1) := by decide +kernel
theorem dX7_in_2 : decode cX7_in 2 = .ok (.if_icmp .lt 12, 3) := by decide +kernel
theorem dX7_in_5 : decode cX7_in 5 = .ok (.iload_n 0, 1) := by decide +kernel
theorem dX7_in_6 : decode cX7_in 6 = .ok (.iload_n 2, 1) := by decide +kernel
theorem dX7_in_7 : decode cX7_in 7 = .ok (.if_icmp .gt 7, 3) := by decide +kernel
theorem dX7_in_10 : decode cX7_in 10 = .ok (.iconst 1, 1) := by decide +kernel
theorem dX7_in_11 : decode cX7_in 11 = .ok (.goto 4, 3) := by decide +kernel
theorem dX7_in_14 : decode cX7_in 14 = .ok (.iconst 0, 1) := by decide +kernel
theorem dX7_in_15 : decode cX7_in 15 = .ok (.ireturn, 1) := by decide +kernel
theorem dX7_putAside_0 : decode cX7_putAside 0 = .ok (.iconst 0, 1) := by decide +kernel
theorem dX7_putAside_1 : decode cX7_putAside 1 = .ok (.istore_n 1, 1) := by decide +kernel
theorem dX7_putAside_2 : decode cX7_putAside 2 = .ok (.iload_n 1, 1) := by decide +kernel
theorem dX7_putAside_3 : decode cX7_putAside 3 = .ok (.sipush 2862, 3) := by decide +kernel
theorem dX7_putAside_6 : decode cX7_putAside 6 = .ok (.if_icmp .ge 21, 3) := by decide +kernel
theorem dX7_putAside_9 : decode cX7_putAside 9 = .ok (.aload_n 0, 1) := by decide +kernel
theorem dX7_putAside_10 : decode cX7_putAside 10 = .ok (.getfield 13, 3) := by decide +kernel
theorem dX7_putAside_13 : decode cX7_putAside 13 = .ok (.iload_n 1, 1) := by decide +kernel
theorem dX7_putAside_14 : decode cX7_putAside 14 = .ok (.aload_n 0, 1) := by decide +kernel
theorem dX7_putAside_15 : decode cX7_putAside 15 = .ok (.getfield 7, 3) := by decide +kernel
theorem dX7_putAside_18 : decode cX7_putAside 18 = .ok (.iload_n 1, 1) := by decide +kernel
theorem dX7_putAside_19 : decode cX7_putAside 19 = .ok (.iaload, 1) := by decide +kernel
theorem dX7_putAside_20 : decode cX7_putAside 20 = .ok (.iastore, 1) := by decide +kernel
theorem dX7_putAside_21 : decode cX7_putAside 21 = .ok (.iinc 1 1, 3) := by decide +kernel
theorem dX7_putAside_24 : decode cX7_putAside 24 = .ok (.goto (-22), 3) := by decide +kernel
theorem dX7_putAside_27 : decode cX7_putAside 27 = .ok (.return_, 1) := by decide +kernel
theorem dX7_putBack_0 : decode cX7_putBack 0 = .ok (.iconst 0, 1) := by decide +kernel
theorem dX7_putBack_1 : decode cX7_putBack 1 = .ok (.istore_n 1, 1) := by decide +kernel
theorem dX7_putBack_2 : decode cX7_putBack 2 = .ok (.iload_n 1, 1) := by decide +kernel
theorem dX7_putBack_3 : decode cX7_putBack 3 = .ok (.sipush 2862, 3) := by decide +kernel
theorem dX7_putBack_6 : decode cX7_putBack 6 = .ok (.if_icmp .ge 21, 3) := by decide +kernel
theorem dX7_putBack_9 : decode cX7_putBack 9 = .ok (.aload_n 0, 1) := by decide +kernel
theorem dX7_putBack_10 : decode cX7_putBack 10 = .ok (.getfield 7, 3) := by decide +kernel
theorem dX7_putBack_13 : decode cX7_putBack 13 = .ok (.iload_n 1, 1) := by decide +kernel
theorem dX7_putBack_14 : decode cX7_putBack 14 = .ok (.aload_n 0, 1) := by decide +kernel
theorem dX7_putBack_15 : decode cX7_putBack 15 = .ok (.getfield 13, 3) := by decide +kernel
theorem dX7_putBack_18 : decode cX7_putBack 18 = .ok (.iload_n 1, 1) := by decide +kernel
theorem dX7_putBack_19 : decode cX7_putBack 19 = .ok (.iaload, 1) := by decide +kernel
theorem dX7_putBack_20 : decode cX7_putBack 20 = .ok (.iastore, 1) := by decide +kernel
theorem dX7_putBack_21 : decode cX7_putBack 21 = .ok (.iinc 1 1, 3) := by decide +kernel
theorem dX7_putBack_24 : decode cX7_putBack 24 = .ok (.goto (-22), 3) := by decide +kernel
theorem dX7_putBack_27 : decode cX7_putBack 27 = .ok (.return_, 1) := by decide +kernel
theorem dX7_lay_0 : decode cX7_lay 0 = .ok (.iconst 0, 1) := by decide +kernel
theorem dX7_lay_1 : decode cX7_lay 1 = .ok (.istore_n 3, 1) := by decide +kernel
theorem dX7_lay_2 : decode cX7_lay 2 = .ok (.iload_n 3, 1) := by decide +kernel
theorem dX7_lay_3 : decode cX7_lay 3 = .ok (.sipush 2862, 3) := by decide +kernel
theorem dX7_lay_6 : decode cX7_lay 6 = .ok (.if_icmp .ge 16, 3) := by decide +kernel
theorem dX7_lay_9 : decode cX7_lay 9 = .ok (.aload_n 0, 1) := by decide +kernel
theorem dX7_lay_10 : decode cX7_lay 10 = .ok (.getfield 7, 3) := by decide +kernel
theorem dX7_lay_13 : decode cX7_lay 13 = .ok (.iload_n 3, 1) := by decide +kernel
theorem dX7_lay_14 : decode cX7_lay 14 = .ok (.iconst 0, 1) := by decide +kernel
theorem dX7_lay_15 : decode cX7_lay 15 = .ok (.iastore, 1) := by decide +kernel
theorem dX7_lay_16 : decode cX7_lay 16 = .ok (.iinc 3 1, 3) := by decide +kernel
theorem dX7_lay_19 : decode cX7_lay 19 = .ok (.goto (-17), 3) := by decide +kernel
theorem dX7_lay_22 : decode cX7_lay 22 = .ok (.aload_n 0, 1) := by decide +kernel
theorem dX7_lay_23 : decode cX7_lay 23 = .ok (.getfield 7, 3) := by decide +kernel
theorem dX7_lay_26 : decode cX7_lay 26 = .ok (.iconst 1, 1) := by decide +kernel
theorem dX7_lay_27 : decode cX7_lay 27 = .ok (.iload_n 1, 1) := by decide +kernel
theorem dX7_lay_28 : decode cX7_lay 28 = .ok (.iastore, 1) := by decide +kernel
theorem dX7_lay_29 : decode cX7_lay 29 = .ok (.aload_n 0, 1) := by decide +kernel
theorem dX7_lay_30 : decode cX7_lay 30 = .ok (.getfield 7, 3) := by decide +kernel
theorem dX7_lay_33 : decode cX7_lay 33 = .ok (.iconst 2, 1) := by decide +kernel
theorem dX7_lay_34 : decode cX7_lay 34 = .ok (.iload_n 2, 1) := by decide +kernel
theorem dX7_lay_35 : decode cX7_lay 35 = .ok (.iastore, 1) := by decide +kernel
theorem dX7_lay_36 : decode cX7_lay 36 = .ok (.iconst 0, 1) := by decide +kernel
theorem dX7_lay_37 : decode cX7_lay 37 = .ok (.istore_n 3, 1) := by decide +kernel
theorem dX7_lay_38 : decode cX7_lay 38 = .ok (.iload_n 3, 1) := by decide +kernel
theorem dX7_lay_39 : decode cX7_lay 39 = .ok (.iconst 5, 1) := by decide +kernel
theorem dX7_lay_40 : decode cX7_lay 40 = .ok (.if_icmp .ge 44, 3) := by decide +kernel
theorem dX7_lay_43 : decode cX7_lay 43 = .ok (.aload_n 0, 1) := by decide +kernel
theorem dX7_lay_44 : decode cX7_lay 44 = .ok (.getfield 7, 3) := by decide +kernel
theorem dX7_lay_47 : decode cX7_lay 47 = .ok (.iconst 3, 1) := by decide +kernel
theorem dX7_lay_48 : decode cX7_lay 48 = .ok (.iload_n 3, 1) := by decide +kernel
theorem dX7_lay_49 : decode cX7_lay 49 = .ok (.iadd, 1) := by decide +kernel
theorem dX7_lay_50 : decode cX7_lay 50 = .ok (.iconst 5, 1) := by decide +kernel
theorem dX7_lay_51 : decode cX7_lay 51 = .ok (.iastore, 1) := by decide +kernel
theorem dX7_lay_52 : decode cX7_lay 52 = .ok (.aload_n 0, 1) := by decide +kernel
theorem dX7_lay_53 : decode cX7_lay 53 = .ok (.getfield 7, 3) := by decide +kernel
theorem dX7_lay_56 : decode cX7_lay 56 = .ok (.bipush 8, 2) := by decide +kernel
theorem dX7_lay_58 : decode cX7_lay 58 = .ok (.iconst 2, 1) := by decide +kernel
theorem dX7_lay_59 : decode cX7_lay 59 = .ok (.iload_n 3, 1) := by decide +kernel
theorem dX7_lay_60 : decode cX7_lay 60 = .ok (.imul, 1) := by decide +kernel
theorem dX7_lay_61 : decode cX7_lay 61 = .ok (.iadd, 1) := by decide +kernel
theorem dX7_lay_62 : decode cX7_lay 62 = .ok (.iconst 5, 1) := by decide +kernel
theorem dX7_lay_63 : decode cX7_lay 63 = .ok (.iastore, 1) := by decide +kernel
theorem dX7_lay_64 : decode cX7_lay 64 = .ok (.aload_n 0, 1) := by decide +kernel
theorem dX7_lay_65 : decode cX7_lay 65 = .ok (.getfield 7, 3) := by decide +kernel
theorem dX7_lay_68 : decode cX7_lay 68 = .ok (.bipush 8, 2) := by decide +kernel
theorem dX7_lay_70 : decode cX7_lay 70 = .ok (.iconst 2, 1) := by decide +kernel
theorem dX7_lay_71 : decode cX7_lay 71 = .ok (.iload_n 3, 1) := by decide +kernel
theorem dX7_lay_72 : decode cX7_lay 72 = .ok (.imul, 1) := by decide +kernel
theorem dX7_lay_73 : decode cX7_lay 73 = .ok (.iadd, 1) := by decide +kernel
theorem dX7_lay_74 : decode cX7_lay 74 = .ok (.iconst 1, 1) := by decide +kernel
theorem dX7_lay_75 : decode cX7_lay 75 = .ok (.iadd, 1) := by decide +kernel
theorem dX7_lay_76 : decode cX7_lay 76 = .ok (.iconst 5, 1) := by decide +kernel
theorem dX7_lay_77 : decode cX7_lay 77 = .ok (.iastore, 1) := by decide +kernel
theorem dX7_lay_78 : decode cX7_lay 78 = .ok (.iinc 3 1, 3) := by decide +kernel
theorem dX7_lay_81 : decode cX7_lay 81 = .ok (.goto (-43), 3) := by decide +kernel
theorem dX7_lay_84 : decode cX7_lay 84 = .ok (.iconst 0, 1) := by decide +kernel
theorem dX7_lay_85 : decode cX7_lay 85 = .ok (.istore_n 3, 1) := by decide +kernel
theorem dX7_lay_86 : decode cX7_lay 86 = .ok (.iload_n 3, 1) := by decide +kernel
theorem dX7_lay_87 : decode cX7_lay 87 = .ok (.bipush 12, 2) := by decide +kernel
theorem dX7_lay_89 : decode cX7_lay 89 = .ok (.if_icmp .ge 19, 3) := by decide +kernel
theorem dX7_lay_92 : decode cX7_lay 92 = .ok (.aload_n 0, 1) := by decide +kernel
theorem dX7_lay_93 : decode cX7_lay 93 = .ok (.getfield 7, 3) := by decide +kernel
theorem dX7_lay_96 : decode cX7_lay 96 = .ok (.bipush 18, 2) := by decide +kernel
theorem dX7_lay_98 : decode cX7_lay 98 = .ok (.iload_n 3, 1) := by decide +kernel
theorem dX7_lay_99 : decode cX7_lay 99 = .ok (.iadd, 1) := by decide +kernel
theorem dX7_lay_100 : decode cX7_lay 100 = .ok (.iconst 1, 1) := by decide +kernel
theorem dX7_lay_101 : decode cX7_lay 101 = .ok (.iastore, 1) := by decide +kernel
theorem dX7_lay_102 : decode cX7_lay 102 = .ok (.iinc 3 1, 3) := by decide +kernel
theorem dX7_lay_105 : decode cX7_lay 105 = .ok (.goto (-19), 3) := by decide +kernel
theorem dX7_lay_108 : decode cX7_lay 108 = .ok (.aload_n 0, 1) := by decide +kernel
theorem dX7_lay_109 : decode cX7_lay 109 = .ok (.invokevirtual 33, 3) := by decide +kernel
theorem dX7_lay_112 : decode cX7_lay 112 = .ok (.return_, 1) := by decide +kernel
