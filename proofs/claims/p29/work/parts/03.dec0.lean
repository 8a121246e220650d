theorem dX1_init_0 : decode cX1_init 0 = .ok (.aload_n 0, 1) := by decide +kernel
theorem dX1_init_1 : decode cX1_init 1 = .ok (.invokespecial 1, 3) := by decide +kernel
theorem dX1_init_4 : decode cX1_init 4 = .ok (.aload_n 0, 1) := by decide +kernel
theorem dX1_init_5 : decode cX1_init 5 = .ok (.iload_n 1, 1) := by decide +kernel
theorem dX1_init_6 : decode cX1_init 6 = .ok (.putfield 7, 3) := by decide +kernel
theorem dX1_init_9 : decode cX1_init 9 = .ok (.aload_n 0, 1) := by decide +kernel
theorem dX1_init_10 : decode cX1_init 10 = .ok (.iload_n 2, 1) := by decide +kernel
theorem dX1_init_11 : decode cX1_init 11 = .ok (.putfield 13, 3) := by decide +kernel
theorem dX1_init_14 : decode cX1_init 14 = .ok (.aload_n 0, 1) := by decide +kernel
theorem dX1_init_15 : decode cX1_init 15 = .ok (.iload_n 3, 1) := by decide +kernel
theorem dX1_init_16 : decode cX1_init 16 = .ok (.putfield 16, 3) := by decide +kernel
theorem dX1_init_19 : decode cX1_init 19 = .ok (.aload_n 0, 1) := by decide +kernel
theorem dX1_init_20 : decode cX1_init 20 = .ok (.new 19, 3) := by decide +kernel
theorem dX1_init_23 : decode cX1_init 23 = .ok (.dup, 1) := by decide +kernel
theorem dX1_init_24 : decode cX1_init 24 = .ok (.invokespecial 21, 3) := by decide +kernel
theorem dX1_init_27 : decode cX1_init 27 = .ok (.putfield 22, 3) := by decide +kernel
theorem dX1_init_30 : decode cX1_init 30 = .ok (.return_, 1) := by decide +kernel
theorem dX2_init_0 : decode cX2_init 0 = .ok (.aload_n 0, 1) := by decide +kernel
theorem dX2_init_1 : decode cX2_init 1 = .ok (.invokespecial 3, 3) := by decide +kernel
theorem dX2_init_4 : decode cX2_init 4 = .ok (.aload_n 0, 1) := by decide +kernel
theorem dX2_init_5 : decode cX2_init 5 = .ok (.aload_n 1, 1) := by decide +kernel
theorem dX2_init_6 : decode cX2_init 6 = .ok (.putfield 9, 3) := by decide +kernel
theorem dX2_init_9 : decode cX2_init 9 = .ok (.aload_n 0, 1) := by decide +kernel
theorem dX2_init_10 : decode cX2_init 10 = .ok (.iload_n 2, 1) := by decide +kernel
theorem dX2_init_11 : decode cX2_init 11 = .ok (.putfield 15, 3) := by decide +kernel
theorem dX2_init_14 : decode cX2_init 14 = .ok (.aload_n 0, 1) := by decide +kernel
theorem dX2_init_15 : decode cX2_init 15 = .ok (.iconst (-1), 1) := by decide +kernel
theorem dX2_init_16 : decode cX2_init 16 = .ok (.putfield 19, 3) := by decide +kernel
theorem dX2_init_19 : decode cX2_init 19 = .ok (.return_, 1) := by decide +kernel
theorem dX3_init_0 : decode cX3_init 0 = .ok (.aload_n 0, 1) := by decide +kernel
theorem dX3_init_1 : decode cX3_init 1 = .ok (.invokespecial 3, 3) := by decide +kernel
theorem dX3_init_4 : decode cX3_init 4 = .ok (.aload_n 0, 1) := by decide +kernel
theorem dX3_init_5 : decode cX3_init 5 = .ok (.aload_n 1, 1) := by decide +kernel
theorem dX3_init_6 : decode cX3_init 6 = .ok (.putfield 9, 3) := by decide +kernel
theorem dX3_init_9 : decode cX3_init 9 = .ok (.aload_n 0, 1) := by decide +kernel
theorem dX3_init_10 : decode cX3_init 10 = .ok (.new 15, 3) := by decide +kernel
theorem dX3_init_13 : decode cX3_init 13 = .ok (.dup, 1) := by decide +kernel
theorem dX3_init_14 : decode cX3_init 14 = .ok (.invokespecial 17, 3) := by decide +kernel
theorem dX3_init_17 : decode cX3_init 17 = .ok (.putfield 18, 3) := by decide +kernel
theorem dX3_init_20 : decode cX3_init 20 = .ok (.aload_n 0, 1) := by decide +kernel
theorem dX3_init_21 : decode cX3_init 21 = .ok (.iconst (-1), 1) := by decide +kernel
theorem dX3_init_22 : decode cX3_init 22 = .ok (.putfield 22, 3) := by decide +kernel
theorem dX3_init_25 : decode cX3_init 25 = .ok (.return_, 1) := by decide +kernel
theorem dX4_init_0 : decode cX4_init 0 = .ok (.aload_n 0, 1) := by decide +kernel
theorem dX4_init_1 : decode cX4_init 1 = .ok (.invokespecial 3, 3) := by decide +kernel
theorem dX4_init_4 : decode cX4_init 4 = .ok (.aload_n 0, 1) := by decide +kernel
theorem dX4_init_5 : decode cX4_init 5 = .ok (.bipush 46, 2) := by decide +kernel
theorem dX4_init_7 : decode cX4_init 7 = .ok (.newarray .int, 2) := by decide +kernel
theorem dX4_init_9 : decode cX4_init 9 = .ok (.putfield 9, 3) := by decide +kernel
theorem dX4_init_12 : decode cX4_init 12 = .ok (.aload_n 0, 1) := by decide +kernel
theorem dX4_init_13 : decode cX4_init 13 = .ok (.bipush 46, 2) := by decide +kernel
theorem dX4_init_15 : decode cX4_init 15 = .ok (.newarray .int, 2) := by decide +kernel
theorem dX4_init_17 : decode cX4_init 17 = .ok (.putfield 15, 3) := by decide +kernel
theorem dX4_init_20 : decode cX4_init 20 = .ok (.aload_n 0, 1) := by decide +kernel
theorem dX4_init_21 : decode cX4_init 21 = .ok (.bipush 24, 2) := by decide +kernel
theorem dX4_init_23 : decode cX4_init 23 = .ok (.bipush 26, 2) := by decide +kernel
theorem dX4_init_25 : decode cX4_init 25 = .ok (.multianewarray 18 2, 4) := by decide +kernel
theorem dX4_init_29 : decode cX4_init 29 = .ok (.putfield 20, 3) := by decide +kernel
theorem dX4_init_32 : decode cX4_init 32 = .ok (.aload_n 0, 1) := by decide +kernel
theorem dX4_init_33 : decode cX4_init 33 = .ok (.bipush 24, 2) := by decide +kernel
theorem dX4_init_35 : decode cX4_init 35 = .ok (.newarray .long, 2) := by decide +kernel
theorem dX4_init_37 : decode cX4_init 37 = .ok (.putfield 23, 3) := by decide +kernel
theorem dX4_init_40 : decode cX4_init 40 = .ok (.aload_n 0, 1) := by decide +kernel
theorem dX4_init_41 : decode cX4_init 41 = .ok (.bipush 24, 2) := by decide +kernel
theorem dX4_init_43 : decode cX4_init 43 = .ok (.anewarray 27, 3) := by decide +kernel
theorem dX4_init_46 : decode cX4_init 46 = .ok (.putfield 29, 3) := by decide +kernel
theorem dX4_init_49 : decode cX4_init 49 = .ok (.aload_n 0, 1) := by decide +kernel
theorem dX4_init_50 : decode cX4_init 50 = .ok (.bipush 46, 2) := by decide +kernel
theorem dX4_init_52 : decode cX4_init 52 = .ok (.newarray .int, 2) := by decide +kernel
theorem dX4_init_54 : decode cX4_init 54 = .ok (.putfield 33, 3) := by decide +kernel
theorem dX4_init_57 : decode cX4_init 57 = .ok (.aload_n 0, 1) := by decide +kernel
theorem dX4_init_58 : decode cX4_init 58 = .ok (.iconst 2, 1) := by decide +kernel
theorem dX4_init_59 : decode cX4_init 59 = .ok (.newarray .int, 2) := by decide +kernel
theorem dX4_init_61 : decode cX4_init 61 = .ok (.putfield 36, 3) := by decide +kernel
theorem dX4_init_64 : decode cX4_init 64 = .ok (.aload_n 0, 1) := by decide +kernel
theorem dX4_init_65 : decode cX4_init 65 = .ok (.iconst 2, 1) := by decide +kernel
theorem dX4_init_66 : decode cX4_init 66 = .ok (.newarray .int, 2) := by decide +kernel
theorem dX4_init_68 : decode cX4_init 68 = .ok (.putfield 39, 3) := by decide +kernel
theorem dX4_init_71 : decode cX4_init 71 = .ok (.aload_n 0, 1) := by decide +kernel
theorem dX4_init_72 : decode cX4_init 72 = .ok (.iconst 2, 1) := by decide +kernel
theorem dX4_init_73 : decode cX4_init 73 = .ok (.newarray .int, 2) := by decide +kernel
theorem dX4_init_75 : decode cX4_init 75 = .ok (.putfield 42, 3) := by decide +kernel
theorem dX4_init_78 : decode cX4_init 78 = .ok (.aload_n 0, 1) := by decide +kernel
theorem dX4_init_79 : decode cX4_init 79 = .ok (.iconst 2, 1) := by decide +kernel
theorem dX4_init_80 : decode cX4_init 80 = .ok (.newarray .int, 2) := by decide +kernel
theorem dX4_init_82 : decode cX4_init 82 = .ok (.putfield 45, 3) := by decide +kernel
theorem dX4_init_85 : decode cX4_init 85 = .ok (.iconst 0, 1) := by decide +kernel
theorem dX4_init_86 : decode cX4_init 86 = .ok (.istore_n 1, 1) := by decide +kernel
theorem dX4_init_87 : decode cX4_init 87 = .ok (.iload_n 1, 1) := by decide +kernel
theorem dX4_init_88 : decode cX4_init 88 = .ok (.bipush 26, 2) := by decide +kernel
theorem dX4_init_90 : decode cX4_init 90 = .ok (.if_icmp .ge 18, 3) := by decide +kernel
theorem dX4_init_93 : decode cX4_init 93 = .ok (.aload_n 0, 1) := by decide +kernel
theorem dX4_init_94 : decode cX4_init 94 = .ok (.getfield 20, 3) := by decide +kernel
theorem dX4_init_97 : decode cX4_init 97 = .ok (.iconst 0, 1) := by decide +kernel
theorem dX4_init_98 : decode cX4_init 98 = .ok (.aaload, 1) := by decide +kernel
theorem dX4_init_99 : decode cX4_init 99 = .ok (.iload_n 1, 1) := by decide +kernel
theorem dX4_init_100 : decode cX4_init 100 = .ok (.iconst (-1), 1) := by decide +kernel
theorem dX4_init_101 : decode cX4_init 101 = .ok (.iastore, 1) := by decide +kernel
theorem dX4_init_102 : decode cX4_init 102 = .ok (.iinc 1 1, 3) := by decide +kernel
theorem dX4_init_105 : decode cX4_init 105 = .ok (.goto (-18), 3) := by decide +kernel
theorem dX4_init_108 : decode cX4_init 108 = .ok (.return_, 1) := by decide +kernel
theorem dX4_isVersion_0 : decode cX4_isVersion 0 = .ok (.iload_n 1, 1) := by decide +kernel
theorem dX4_isVersion_1 : decode cX4_isVersion 1 = .ok (.ifCond .lt 21, 3) := by decide +kernel
theorem dX4_isVersion_4 : decode cX4_isVersion 4 = .ok (.iload_n 1, 1) := by decide +kernel
theorem dX4_isVersion_5 : decode cX4_isVersion 5 = .ok (.aload_n 0, 1) := by decide +kernel
theorem dX4_isVersion_6 : decode cX4_isVersion 6 = .ok (.getfield 48, 3) := by decide +kernel
theorem dX4_isVersion_9 : decode cX4_isVersion 9 = .ok (.if_icmp .gt 13, 3) := by decide +kernel
theorem dX4_isVersion_12 : decode cX4_isVersion 12 = .ok (.iload_n 1, 1) := by decide +kernel
theorem dX4_isVersion_13 : decode cX4_isVersion 13 = .ok (.bipush 24, 2) := by decide +kernel
theorem dX4_isVersion_15 : decode cX4_isVersion 15 = .ok (.if_icmp .ge 7, 3) := by decide +kernel
theorem dX4_isVersion_18 : decode cX4_isVersion 18 = .ok (.iconst 1, 1) := by decide +kernel
theorem dX4_isVersion_19 : decode cX4_isVersion 19 = .ok (.goto 4, 3) := by decide +kernel
theorem dX4_isVersion_22 : decode cX4_isVersion 22 = .ok (.iconst 0, 1) := by decide +kernel
theorem dX4_isVersion_23 : decode cX4_isVersion 23 = .ok (.ireturn, 1) := by decide +kernel
theorem dX4_isFull_0 : decode cX4_isFull 0 = .ok (.aload_n 0, 1) := by decide +kernel
theorem dX4_isFull_1 : decode cX4_isFull 1 = .ok (.getfield 48, 3) := by decide +kernel
theorem dX4_isFull_4 : decode cX4_isFull 4 = .ok (.bipush 23, 2) := by decide +kernel
theorem dX4_isFull_6 : decode cX4_isFull 6 = .ok (.if_icmp .lt 7, 3) := by decide +kernel
theorem dX4_isFull_9 : decode cX4_isFull 9 = .ok (.iconst 1, 1) := by decide +kernel
theorem dX4_isFull_10 : decode cX4_isFull 10 = .ok (.goto 4, 3) := by decide +kernel
theorem dX4_isFull_13 : decode cX4_isFull 13 = .ok (.iconst 0, 1) := by decide +kernel
theorem dX4_isFull_14 : decode cX4_isFull 14 = .ok (.ireturn, 1) := by decide +kernel
theorem dX4_isField_0 : decode cX4_isField 0 = .ok (.iload_n 1, 1) := by decide +kernel
theorem dX4_isField_1 : decode cX4_isField 1 = .ok (.ifCond .lt 21, 3) := by decide +kernel
theorem dX4_isField_4 : decode cX4_isField 4 = .ok (.iload_n 1, 1) := by decide +kernel
theorem dX4_isField_5 : decode cX4_isField 5 = .ok (.aload_n 0, 1) := by decide +kernel
theorem dX4_isField_6 : decode cX4_isField 6 = .ok (.getfield 52, 3) := by decide +kernel
theorem dX4_isField_9 : decode cX4_isField 9 = .ok (.if_icmp .ge 13, 3) := by decide +kernel
theorem dX4_isField_12 : decode cX4_isField 12 = .ok (.iload_n 1, 1) := by decide +kernel
theorem dX4_isField_13 : decode cX4_isField 13 = .ok (.bipush 46, 2) := by decide +kernel
theorem dX4_isField_15 : decode cX4_isField 15 = .ok (.if_icmp .ge 7, 3) := by decide +kernel
theorem dX4_isField_18 : decode cX4_isField 18 = .ok (.iconst 1, 1) := by decide +kernel
theorem dX4_isField_19 : decode cX4_isField 19 = .ok (.goto 4, 3) := by decide +kernel
theorem dX4_isField_22 : decode cX4_isField 22 = .ok (.iconst 0, 1) := by decide +kernel
theorem dX4_isField_23 : decode cX4_isField 23 = .ok (.ireturn, 1) := by decide +kernel
theorem dX4_fieldNamed_0 : decode cX4_fieldNamed 0 = .ok (.aload_n 0, 1) := by decide +kernel
theorem dX4_fieldNamed_1 : decode cX4_fieldNamed 1 = .ok (.iload_n 1, 1) := by decide +kernel
theorem dX4_fieldNamed_2 : decode cX4_fieldNamed 2 = .ok (.invokevirtual 55, 3) := by decide +kernel
theorem dX4_fieldNamed_5 : decode cX4_fieldNamed 5 = .ok (.ifCond .eq 21, 3) := by decide +kernel
theorem dX4_fieldNamed_8 : decode cX4_fieldNamed 8 = .ok (.iload_n 2, 1) := by decide +kernel
theorem dX4_fieldNamed_9 : decode cX4_fieldNamed 9 = .ok (.invokestatic 59, 3) := by decide +kernel
theorem dX4_fieldNamed_12 : decode cX4_fieldNamed 12 = .ok (.ifCond .eq 14, 3) := by decide +kernel
theorem dX4_fieldNamed_15 : decode cX4_fieldNamed 15 = .ok (.aload_n 0, 1) := by decide +kernel
theorem dX4_fieldNamed_16 : decode cX4_fieldNamed 16 = .ok (.getfield 20, 3) := by decide +kernel
theorem dX4_fieldNamed_19 : decode cX4_fieldNamed 19 = .ok (.iload_n 1, 1) := by decide +kernel
theorem dX4_fieldNamed_20 : decode cX4_fieldNamed 20 = .ok (.aaload, 1) := by decide +kernel
theorem dX4_fieldNamed_21 : decode cX4_fieldNamed 21 = .ok (.iload_n 2, 1) := by decide +kernel
theorem dX4_fieldNamed_22 : decode cX4_fieldNamed 22 = .ok (.iaload, 1) := by decide +kernel
theorem dX4_fieldNamed_23 : decode cX4_fieldNamed 23 = .ok (.goto 4, 3) := by decide +kernel
theorem dX4_fieldNamed_26 : decode cX4_fieldNamed 26 = .ok (.iconst (-1), 1) := by decide +kernel
theorem dX4_fieldNamed_27 : decode cX4_fieldNamed 27 = .ok (.ireturn, 1) := by decide +kernel
theorem dX4_nameOf_0 : decode cX4_nameOf 0 = .ok (.iconst 0, 1) := by decide +kernel
theorem dX4_nameOf_1 : decode cX4_nameOf 1 = .ok (.istore_n 3, 1) := by decide +kernel
theorem dX4_nameOf_2 : decode cX4_nameOf 2 = .ok (.iload_n 3, 1) := by decide +kernel
theorem dX4_nameOf_3 : decode cX4_nameOf 3 = .ok (.bipush 26, 2) := by decide +kernel
theorem dX4_nameOf_5 : decode cX4_nameOf 5 = .ok (.if_icmp .ge 21, 3) := by decide +kernel
theorem dX4_nameOf_8 : decode cX4_nameOf 8 = .ok (.aload_n 0, 1) := by decide +kernel
theorem dX4_nameOf_9 : decode cX4_nameOf 9 = .ok (.iload_n 1, 1) := by decide +kernel
theorem dX4_nameOf_10 : decode cX4_nameOf 10 = .ok (.iload_n 3, 1) := by decide +kernel
theorem dX4_nameOf_11 : decode cX4_nameOf 11 = .ok (.invokevirtual 62, 3) := by decide +kernel
theorem dX4_nameOf_14 : decode cX4_nameOf 14 = .ok (.iload_n 2, 1) := by decide +kernel
theorem dX4_nameOf_15 : decode cX4_nameOf 15 = .ok (.if_icmp .ne 5, 3) := by decide +kernel
theorem dX4_nameOf_18 : decode cX4_nameOf 18 = .ok (.iload_n 3, 1) := by decide +kernel
theorem dX4_nameOf_19 : decode cX4_nameOf 19 = .ok (.ireturn, 1) := by decide +kernel
theorem dX4_nameOf_20 : decode cX4_nameOf 20 = .ok (.iinc 3 1, 3) := by decide +kernel
theorem dX4_nameOf_23 : decode cX4_nameOf 23 = .ok (.goto (-21), 3) := by decide +kernel
theorem dX4_nameOf_26 : decode cX4_nameOf 26 = .ok (.iconst (-1), 1) := by decide +kernel
theorem dX4_nameOf_27 : decode cX4_nameOf 27 = .ok (.ireturn, 1) := by decide +kernel
theorem dX4_kindOf_0 : decode cX4_kindOf 0 = .ok (.aload_n 0, 1) := by decide +kernel
theorem dX4_kindOf_1 : decode cX4_kindOf 1 = .ok (.iload_n 1, 1) := by decide +kernel
theorem dX4_kindOf_2 : decode cX4_kindOf 2 = .ok (.invokevirtual 66, 3) := by decide +kernel
theorem dX4_kindOf_5 : decode cX4_kindOf 5 = .ok (.ifCond .eq 12, 3) := by decide +kernel
theorem dX4_kindOf_8 : decode cX4_kindOf 8 = .ok (.aload_n 0, 1) := by decide +kernel
theorem dX4_kindOf_9 : decode cX4_kindOf 9 = .ok (.getfield 9, 3) := by decide +kernel
theorem dX4_kindOf_12 : decode cX4_kindOf 12 = .ok (.iload_n 1, 1) := by decide +kernel
theorem dX4_kindOf_13 : decode cX4_kindOf 13 = .ok (.iaload, 1) := by decide +kernel
theorem dX4_kindOf_14 : decode cX4_kindOf 14 = .ok (.goto 4, 3) := by decide +kernel
theorem dX4_kindOf_17 : decode cX4_kindOf 17 = .ok (.iconst 0, 1) := by decide +kernel
theorem dX4_kindOf_18 : decode cX4_kindOf 18 = .ok (.ireturn, 1) := by decide +kernel
theorem dX4_defaultOf_0 : decode cX4_defaultOf 0 = .ok (.aload_n 0, 1) := by decide +kernel
theorem dX4_defaultOf_1 : decode cX4_defaultOf 1 = .ok (.iload_n 1, 1) := by decide +kernel
theorem dX4_defaultOf_2 : decode cX4_defaultOf 2 = .ok (.invokevirtual 66, 3) := by decide +kernel
theorem dX4_defaultOf_5 : decode cX4_defaultOf 5 = .ok (.ifCond .eq 12, 3) := by decide +kernel
theorem dX4_defaultOf_8 : decode cX4_defaultOf 8 = .ok (.aload_n 0, 1) := by decide +kernel
theorem dX4_defaultOf_9 : decode cX4_defaultOf 9 = .ok (.getfield 15, 3) := by decide +kernel
theorem dX4_defaultOf_12 : decode cX4_defaultOf 12 = .ok (.iload_n 1, 1) := by decide +kernel
theorem dX4_defaultOf_13 : decode cX4_defaultOf 13 = .ok (.iaload, 1) := by decide +kernel
theorem dX4_defaultOf_14 : decode cX4_defaultOf 14 = .ok (.goto 4, 3) := by decide +kernel
theorem dX4_defaultOf_17 : decode cX4_defaultOf 17 = .ok (.iconst (-1), 1) := by decide +kernel
theorem dX4_defaultOf_18 : decode cX4_defaultOf 18 = .ok (.ireturn, 1) := by decide +kernel
theorem dX4_isNeeded_0 : decode cX4_isNeeded 0 = .ok (.aload_n 0, 1) := by decide +kernel
theorem dX4_isNeeded_1 : decode cX4_isNeeded 1 = .ok (.iload_n 1, 1) := by decide +kernel
theorem dX4_isNeeded_2 : decode cX4_isNeeded 2 = .ok (.invokevirtual 55, 3) := by decide +kernel
theorem dX4_isNeeded_5 : decode cX4_isNeeded 5 = .ok (.ifCond .eq 28, 3) := by decide +kernel
theorem dX4_isNeeded_8 : decode cX4_isNeeded 8 = .ok (.aload_n 0, 1) := by decide +kernel
theorem dX4_isNeeded_9 : decode cX4_isNeeded 9 = .ok (.iload_n 2, 1) := by decide +kernel
theorem dX4_isNeeded_10 : decode cX4_isNeeded 10 = .ok (.invokevirtual 66, 3) := by decide +kernel
theorem dX4_isNeeded_13 : decode cX4_isNeeded 13 = .ok (.ifCond .eq 20, 3) := by decide +kernel
theorem dX4_isNeeded_16 : decode cX4_isNeeded 16 = .ok (.aload_n 0, 1) := by decide +kernel
theorem dX4_isNeeded_17 : decode cX4_isNeeded 17 = .ok (.getfield 23, 3) := by decide +kernel
theorem dX4_isNeeded_20 : decode cX4_isNeeded 20 = .ok (.iload_n 1, 1) := by decide +kernel
theorem dX4_isNeeded_21 : decode cX4_isNeeded 21 = .ok (.laload, 1) := by decide +kernel
theorem dX4_isNeeded_22 : decode cX4_isNeeded 22 = .ok (.iload_n 2, 1) := by decide +kernel
theorem dX4_isNeeded_23 : decode cX4_isNeeded 23 = .ok (.invokestatic 69, 3) := by decide +kernel
theorem dX4_isNeeded_26 : decode cX4_isNeeded 26 = .ok (.ifCond .eq 7, 3) := by decide +kernel
theorem dX4_isNeeded_29 : decode cX4_isNeeded 29 = .ok (.iconst 1, 1) := by decide +kernel
theorem dX4_isNeeded_30 : decode cX4_isNeeded 30 = .ok (.goto 4, 3) := by decide +kernel
theorem dX4_isNeeded_33 : decode cX4_isNeeded 33 = .ok (.iconst 0, 1) := by decide +kernel
theorem dX4_isNeeded_34 : decode cX4_isNeeded 34 = .ok (.ireturn, 1) := by decide +kernel
theorem dX4_stepTo_0 : decode cX4_stepTo 0 = .ok (.aload_n 0, 1) := by decide +kernel
theorem dX4_stepTo_1 : decode cX4_stepTo 1 = .ok (.iload_n 1, 1) := by decide +kernel
theorem dX4_stepTo_2 : decode cX4_stepTo 2 = .ok (.invokevirtual 55, 3) := by decide +kernel
theorem dX4_stepTo_5 : decode cX4_stepTo 5 = .ok (.ifCond .eq 12, 3) := by decide +kernel
theorem dX4_stepTo_8 : decode cX4_stepTo 8 = .ok (.aload_n 0, 1) := by decide +kernel
theorem dX4_stepTo_9 : decode cX4_stepTo 9 = .ok (.getfield 29, 3) := by decide +kernel
theorem dX4_stepTo_12 : decode cX4_stepTo 12 = .ok (.iload_n 1, 1) := by decide +kernel
theorem dX4_stepTo_13 : decode cX4_stepTo 13 = .ok (.aaload, 1) := by decide +kernel
theorem dX4_stepTo_14 : decode cX4_stepTo 14 = .ok (.goto 4, 3) := by decide +kernel
theorem dX4_stepTo_17 : decode cX4_stepTo 17 = .ok (.aconst_null, 1) := by decide +kernel
theorem dX4_stepTo_18 : decode cX4_stepTo 18 = .ok (.areturn, 1) := by decide +kernel
theorem dX4_isTakenByOther_0 : decode cX4_isTakenByOther 0 = .ok (.aload_n 0, 1) := by decide +kernel
theorem dX4_isTakenByOther_1 : decode cX4_isTakenByOther 1 = .ok (.aload_n 0, 1) := by decide +kernel
theorem dX4_isTakenByOther_2 : decode cX4_isTakenByOther 2 = .ok (.getfield 48, 3) := by decide +kernel
theorem dX4_isTakenByOther_5 : decode cX4_isTakenByOther 5 = .ok (.iload_n 1, 1) := by decide +kernel
theorem dX4_isTakenByOther_6 : decode cX4_isTakenByOther 6 = .ok (.invokevirtual 62, 3) := by decide +kernel
theorem dX4_isTakenByOther_9 : decode cX4_isTakenByOther 9 = .ok (.istore 4, 2) := by decide +kernel
theorem dX4_isTakenByOther_11 : decode cX4_isTakenByOther 11 = .ok (.iload 4, 2) := by decide +kernel
theorem dX4_isTakenByOther_13 : decode cX4_isTakenByOther 13 = .ok (.iconst (-1), 1) := by decide +kernel
theorem dX4_isTakenByOther_14 : decode cX4_isTakenByOther 14 = .ok (.if_icmp .eq 19, 3) := by decide +kernel
theorem dX4_isTakenByOther_17 : decode cX4_isTakenByOther 17 = .ok (.iload 4, 2) := by decide +kernel
theorem dX4_isTakenByOther_19 : decode cX4_isTakenByOther 19 = .ok (.iload_n 2, 1) := by decide +kernel
theorem dX4_isTakenByOther_20 : decode cX4_isTakenByOther 20 = .ok (.if_icmp .eq 13, 3) := by decide +kernel
theorem dX4_isTakenByOther_23 : decode cX4_isTakenByOther 23 = .ok (.iload 4, 2) := by decide +kernel
theorem dX4_isTakenByOther_25 : decode cX4_isTakenByOther 25 = .ok (.iload_n 3, 1) := by decide +kernel
theorem dX4_isTakenByOther_26 : decode cX4_isTakenByOther 26 = .ok (.if_icmp .eq 7, 3) := by decide +kernel
theorem dX4_isTakenByOther_29 : decode cX4_isTakenByOther 29 = .ok (.iconst 1, 1) := by decide +kernel
theorem dX4_isTakenByOther_30 : decode cX4_isTakenByOther 30 = .ok (.goto 4, 3) := by decide +kernel
theorem dX4_isTakenByOther_33 : decode cX4_isTakenByOther 33 = .ok (.iconst 0, 1) := by decide +kernel
theorem dX4_isTakenByOther_34 : decode cX4_isTakenByOther 34 = .ok (.ireturn, 1) := by decide +kernel
theorem dX4_isFreeNumber_0 : decode cX4_isFreeNumber 0 = .ok (.aload_n 0, 1) := by decide +kernel
theorem dX4_isFreeNumber_1 : decode cX4_isFreeNumber 1 = .ok (.iload_n 1, 1) := by decide +kernel
theorem dX4_isFreeNumber_2 : decode cX4_isFreeNumber 2 = .ok (.invokevirtual 73, 3) := by decide +kernel
theorem dX4_isFreeNumber_5 : decode cX4_isFreeNumber 5 = .ok (.ifCond .ne 15, 3) := by decide +kernel
theorem dX4_isFreeNumber_8 : decode cX4_isFreeNumber 8 = .ok (.aload_n 0, 1) := by decide +kernel
theorem dX4_isFreeNumber_9 : decode cX4_isFreeNumber 9 = .ok (.iload_n 1, 1) := by decide +kernel
theorem dX4_isFreeNumber_10 : decode cX4_isFreeNumber 10 = .ok (.invokevirtual 77, 3) := by decide +kernel
theorem dX4_isFreeNumber_13 : decode cX4_isFreeNumber 13 = .ok (.ifCond .ne 7, 3) := by decide +kernel
theorem dX4_isFreeNumber_16 : decode cX4_isFreeNumber 16 = .ok (.iconst 1, 1) := by decide +kernel
theorem dX4_isFreeNumber_17 : decode cX4_isFreeNumber 17 = .ok (.goto 4, 3) := by decide +kernel
theorem dX4_isFreeNumber_20 : decode cX4_isFreeNumber 20 = .ok (.iconst 0, 1) := by decide +kernel
theorem dX4_isFreeNumber_21 : decode cX4_isFreeNumber 21 = .ok (.ireturn, 1) := by decide +kernel
theorem dX4_makeField_0 : decode cX4_makeField 0 = .ok (.aload_n 0, 1) := by decide +kernel
theorem dX4_makeField_1 : decode cX4_makeField 1 = .ok (.getfield 52, 3) := by decide +kernel
theorem dX4_makeField_4 : decode cX4_makeField 4 = .ok (.istore_n 3, 1) := by decide +kernel
theorem dX4_makeField_5 : decode cX4_makeField 5 = .ok (.iload_n 3, 1) := by decide +kernel
theorem dX4_makeField_6 : decode cX4_makeField 6 = .ok (.bipush 46, 2) := by decide +kernel
theorem dX4_makeField_8 : decode cX4_makeField 8 = .ok (.if_icmp .lt 5, 3) := by decide +kernel
theorem dX4_makeField_11 : decode cX4_makeField 11 = .ok (.iconst (-1), 1) := by decide +kernel
theorem dX4_makeField_12 : decode cX4_makeField 12 = .ok (.ireturn, 1) := by decide +kernel
theorem dX4_makeField_13 : decode cX4_makeField 13 = .ok (.aload_n 0, 1) := by decide +kernel
theorem dX4_makeField_14 : decode cX4_makeField 14 = .ok (.getfield 9, 3) := by decide +kernel
theorem dX4_makeField_17 : decode cX4_makeField 17 = .ok (.iload_n 3, 1) := by decide +kernel
theorem dX4_makeField_18 : decode cX4_makeField 18 = .ok (.iload_n 1, 1) := by decide +kernel
theorem dX4_makeField_19 : decode cX4_makeField 19 = .ok (.iastore, 1) := by decide +kernel
theorem dX4_makeField_20 : decode cX4_makeField 20 = .ok (.aload_n 0, 1) := by decide +kernel
theorem dX4_makeField_21 : decode cX4_makeField 21 = .ok (.getfield 15, 3) := by decide +kernel
theorem dX4_makeField_24 : decode cX4_makeField 24 = .ok (.iload_n 3, 1) := by decide +kernel
theorem dX4_makeField_25 : decode cX4_makeField 25 = .ok (.iload_n 2, 1) := by decide +kernel
theorem dX4_makeField_26 : decode cX4_makeField 26 = .ok (.iastore, 1) := by decide +kernel
theorem dX4_makeField_27 : decode cX4_makeField 27 = .ok (.aload_n 0, 1) := by decide +kernel
theorem dX4_makeField_28 : decode cX4_makeField 28 = .ok (.dup, 1) := by decide +kernel
theorem dX4_makeField_29 : decode cX4_makeField 29 = .ok (.getfield 52, 3) := by decide +kernel
theorem dX4_makeField_32 : decode cX4_makeField 32 = .ok (.iconst 1, 1) := by decide +kernel
theorem dX4_makeField_33 : decode cX4_makeField 33 = .ok (.iadd, 1) := by decide +kernel
theorem dX4_makeField_34 : decode cX4_makeField 34 = .ok (.putfield 52, 3) := by decide +kernel
theorem dX4_makeField_37 : decode cX4_makeField 37 = .ok (.iload_n 3, 1) := by decide +kernel
theorem dX4_makeField_38 : decode cX4_makeField 38 = .ok (.ireturn, 1) := by decide +kernel
theorem dX4_extend_0 : decode cX4_extend 0 = .ok (.aload_n 0, 1) := by decide +kernel
theorem dX4_extend_1 : decode cX4_extend 1 = .ok (.invokevirtual 80, 3) := by decide +kernel
theorem dX4_extend_4 : decode cX4_extend 4 = .ok (.ifCond .ne 10, 3) := by decide +kernel
theorem dX4_extend_7 : decode cX4_extend 7 = .ok (.aload_n 0, 1) := by decide +kernel
theorem dX4_extend_8 : decode cX4_extend 8 = .ok (.getfield 48, 3) := by decide +kernel
theorem dX4_extend_11 : decode cX4_extend 11 = .ok (.ifCond .ge 4, 3) := by decide +kernel
theorem dX4_extend_14 : decode cX4_extend 14 = .ok (.return_, 1) := by decide +kernel
theorem dX4_extend_15 : decode cX4_extend 15 = .ok (.aload_n 0, 1) := by decide +kernel
theorem dX4_extend_16 : decode cX4_extend 16 = .ok (.getfield 48, 3) := by decide +kernel
theorem dX4_extend_19 : decode cX4_extend 19 = .ok (.iconst 1, 1) := by decide +kernel
theorem dX4_extend_20 : decode cX4_extend 20 = .ok (.iadd, 1) := by decide +kernel
theorem dX4_extend_21 : decode cX4_extend 21 = .ok (.istore_n 2, 1) := by decide +kernel
theorem dX4_extend_22 : decode cX4_extend 22 = .ok (.iconst 0, 1) := by decide +kernel
theorem dX4_extend_23 : decode cX4_extend 23 = .ok (.istore_n 3, 1) := by decide +kernel
theorem dX4_extend_24 : decode cX4_extend 24 = .ok (.iload_n 3, 1) := by decide +kernel
theorem dX4_extend_25 : decode cX4_extend 25 = .ok (.bipush 26, 2) := by decide +kernel
theorem dX4_extend_27 : decode cX4_extend 27 = .ok (.if_icmp .ge 45, 3) := by decide +kernel
theorem dX4_extend_30 : decode cX4_extend 30 = .ok (.aload_n 0, 1) := by decide +kernel
theorem dX4_extend_31 : decode cX4_extend 31 = .ok (.getfield 20, 3) := by decide +kernel
theorem dX4_extend_34 : decode cX4_extend 34 = .ok (.aload_n 0, 1) := by decide +kernel
theorem dX4_extend_35 : decode cX4_extend 35 = .ok (.getfield 48, 3) := by decide +kernel
theorem dX4_extend_38 : decode cX4_extend 38 = .ok (.aaload, 1) := by decide +kernel
theorem dX4_extend_39 : decode cX4_extend 39 = .ok (.iload_n 3, 1) := by decide +kernel
theorem dX4_extend_40 : decode cX4_extend 40 = .ok (.iaload, 1) := by decide +kernel
theorem dX4_extend_41 : decode cX4_extend 41 = .ok (.istore 4, 2) := by decide +kernel
theorem dX4_extend_43 : decode cX4_extend 43 = .ok (.aload_n 0, 1) := by decide +kernel
theorem dX4_extend_44 : decode cX4_extend 44 = .ok (.getfield 20, 3) := by decide +kernel
theorem dX4_extend_47 : decode cX4_extend 47 = .ok (.iload_n 2, 1) := by decide +kernel
theorem dX4_extend_48 : decode cX4_extend 48 = .ok (.aaload, 1) := by decide +kernel
theorem dX4_extend_49 : decode cX4_extend 49 = .ok (.iload_n 3, 1) := by decide +kernel
theorem dX4_extend_50 : decode cX4_extend 50 = .ok (.aload_n 1, 1) := by decide +kernel
theorem dX4_extend_51 : decode cX4_extend 51 = .ok (.iload 4, 2) := by decide +kernel
theorem dX4_extend_53 : decode cX4_extend 53 = .ok (.invokevirtual 84, 3) := by decide +kernel
theorem dX4_extend_56 : decode cX4_extend 56 = .ok (.ifCond .eq 7, 3) := by decide +kernel
theorem dX4_extend_59 : decode cX4_extend 59 = .ok (.iconst (-1), 1) := by decide +kernel
theorem dX4_extend_60 : decode cX4_extend 60 = .ok (.goto 5, 3) := by decide +kernel
theorem dX4_extend_63 : decode cX4_extend 63 = .ok (.iload 4, 2) := by decide +kernel
theorem dX4_extend_65 : decode cX4_extend 65 = .ok (.iastore, 1) := by decide +kernel
theorem dX4_extend_66 : decode cX4_extend 66 = .ok (.iinc 3 1, 3) := by decide +kernel
theorem dX4_extend_69 : decode cX4_extend 69 = .ok (.goto (-45), 3) := by decide +kernel
theorem dX4_extend_72 : decode cX4_extend 72 = .ok (.aload_n 0, 1) := by decide +kernel
theorem dX4_extend_73 : decode cX4_extend 73 = .ok (.getfield 23, 3) := by decide +kernel
theorem dX4_extend_76 : decode cX4_extend 76 = .ok (.iload_n 2, 1) := by decide +kernel
theorem dX4_extend_77 : decode cX4_extend 77 = .ok (.aload_n 0, 1) := by decide +kernel
theorem dX4_extend_78 : decode cX4_extend 78 = .ok (.getfield 23, 3) := by decide +kernel
theorem dX4_extend_81 : decode cX4_extend 81 = .ok (.aload_n 0, 1) := by decide +kernel
theorem dX4_extend_82 : decode cX4_extend 82 = .ok (.getfield 48, 3) := by decide +kernel
theorem dX4_extend_85 : decode cX4_extend 85 = .ok (.laload, 1) := by decide +kernel
theorem dX4_extend_86 : decode cX4_extend 86 = .ok (.aload_n 1, 1) := by decide +kernel
theorem dX4_extend_87 : decode cX4_extend 87 = .ok (.invokevirtual 87, 3) := by decide +kernel
theorem dX4_extend_90 : decode cX4_extend 90 = .ok (.ldc2_w 91, 3) := by decide +kernel
theorem dX4_extend_93 : decode cX4_extend 93 = .ok (.lxor, 1) := by decide +kernel
theorem dX4_extend_94 : decode cX4_extend 94 = .ok (.land, 1) := by decide +kernel
theorem dX4_extend_95 : decode cX4_extend 95 = .ok (.lastore, 1) := by decide +kernel
theorem dX4_extend_96 : decode cX4_extend 96 = .ok (.aload_n 0, 1) := by decide +kernel
theorem dX4_extend_97 : decode cX4_extend 97 = .ok (.getfield 29, 3) := by decide +kernel
theorem dX4_extend_100 : decode cX4_extend 100 = .ok (.iload_n 2, 1) := by decide +kernel
theorem dX4_extend_101 : decode cX4_extend 101 = .ok (.aload_n 1, 1) := by decide +kernel
theorem dX4_extend_102 : decode cX4_extend 102 = .ok (.aastore, 1) := by decide +kernel
theorem dX4_extend_103 : decode cX4_extend 103 = .ok (.aload_n 0, 1) := by decide +kernel
theorem dX4_extend_104 : decode cX4_extend 104 = .ok (.iload_n 2, 1) := by decide +kernel
theorem dX4_extend_105 : decode cX4_extend 105 = .ok (.putfield 48, 3) := by decide +kernel
theorem dX4_extend_108 : decode cX4_extend 108 = .ok (.return_, 1) := by decide +kernel
theorem dX4_place_0 : decode cX4_place 0 = .ok (.aload_n 0, 1) := by decide +kernel
theorem dX4_place_1 : decode cX4_place 1 = .ok (.aload_n 0, 1) := by decide +kernel
theorem dX4_place_2 : decode cX4_place 2 = .ok (.getfield 48, 3) := by decide +kernel
theorem dX4_place_5 : decode cX4_place 5 = .ok (.invokevirtual 55, 3) := by decide +kernel
theorem dX4_place_8 : decode cX4_place 8 = .ok (.ifCond .eq 54, 3) := by decide +kernel
theorem dX4_place_11 : decode cX4_place 11 = .ok (.iload_n 2, 1) := by decide +kernel
theorem dX4_place_12 : decode cX4_place 12 = .ok (.invokestatic 59, 3) := by decide +kernel
theorem dX4_place_15 : decode cX4_place 15 = .ok (.ifCond .eq 47, 3) := by decide +kernel
theorem dX4_place_18 : decode cX4_place 18 = .ok (.aload_n 0, 1) := by decide +kernel
theorem dX4_place_19 : decode cX4_place 19 = .ok (.iload_n 1, 1) := by decide +kernel
theorem dX4_place_20 : decode cX4_place 20 = .ok (.invokevirtual 66, 3) := by decide +kernel
theorem dX4_place_23 : decode cX4_place 23 = .ok (.ifCond .eq 39, 3) := by decide +kernel
theorem dX4_place_26 : decode cX4_place 26 = .ok (.aload_n 0, 1) := by decide +kernel
theorem dX4_place_27 : decode cX4_place 27 = .ok (.getfield 20, 3) := by decide +kernel
theorem dX4_place_30 : decode cX4_place 30 = .ok (.aload_n 0, 1) := by decide +kernel
theorem dX4_place_31 : decode cX4_place 31 = .ok (.getfield 48, 3) := by decide +kernel
theorem dX4_place_34 : decode cX4_place 34 = .ok (.aaload, 1) := by decide +kernel
theorem dX4_place_35 : decode cX4_place 35 = .ok (.iload_n 2, 1) := by decide +kernel
theorem dX4_place_36 : decode cX4_place 36 = .ok (.iload_n 1, 1) := by decide +kernel
theorem dX4_place_37 : decode cX4_place 37 = .ok (.iastore, 1) := by decide +kernel
theorem dX4_place_38 : decode cX4_place 38 = .ok (.aload_n 0, 1) := by decide +kernel
theorem dX4_place_39 : decode cX4_place 39 = .ok (.getfield 23, 3) := by decide +kernel
theorem dX4_place_42 : decode cX4_place 42 = .ok (.aload_n 0, 1) := by decide +kernel
theorem dX4_place_43 : decode cX4_place 43 = .ok (.getfield 48, 3) := by decide +kernel
theorem dX4_place_46 : decode cX4_place 46 = .ok (.dup2, 1) := by decide +kernel
theorem dX4_place_47 : decode cX4_place 47 = .ok (.laload, 1) := by decide +kernel
theorem dX4_place_48 : decode cX4_place 48 = .ok (.iload_n 3, 1) := by decide +kernel
theorem dX4_place_49 : decode cX4_place 49 = .ok (.ifCond .eq 10, 3) := by decide +kernel
theorem dX4_place_52 : decode cX4_place 52 = .ok (.iload_n 1, 1) := by decide +kernel
theorem dX4_place_53 : decode cX4_place 53 = .ok (.invokestatic 93, 3) := by decide +kernel
theorem dX4_place_56 : decode cX4_place 56 = .ok (.goto 4, 3) := by decide +kernel
theorem dX4_place_59 : decode cX4_place 59 = .ok (.lconst 0, 1) := by decide +kernel
theorem dX4_place_60 : decode cX4_place 60 = .ok (.lor, 1) := by decide +kernel
theorem dX4_place_61 : decode cX4_place 61 = .ok (.lastore, 1) := by decide +kernel
theorem dX4_place_62 : decode cX4_place 62 = .ok (.return_, 1) := by decide +kernel
theorem dX4_isWaiting_0 : decode cX4_isWaiting 0 = .ok (.aload_n 0, 1) := by decide +kernel
theorem dX4_isWaiting_1 : decode cX4_isWaiting 1 = .ok (.invokevirtual 97, 3) := by decide +kernel
theorem dX4_isWaiting_4 : decode cX4_isWaiting 4 = .ok (.iload_n 1, 1) := by decide +kernel
theorem dX4_isWaiting_5 : decode cX4_isWaiting 5 = .ok (.invokestatic 69, 3) := by decide +kernel
theorem dX4_isWaiting_8 : decode cX4_isWaiting 8 = .ok (.ireturn, 1) := by decide +kernel
theorem dX4_allWaiting_0 : decode cX4_allWaiting 0 = .ok (.lconst 0, 1) := by decide +kernel
theorem dX4_allWaiting_1 : decode cX4_allWaiting 1 = .ok (.lstore_n 1, 1) := by decide +kernel
theorem dX4_allWaiting_2 : decode cX4_allWaiting 2 = .ok (.iconst 0, 1) := by decide +kernel
theorem dX4_allWaiting_3 : decode cX4_allWaiting 3 = .ok (.istore_n 3, 1) := by decide +kernel
theorem dX4_allWaiting_4 : decode cX4_allWaiting 4 = .ok (.iload_n 3, 1) := by decide +kernel
theorem dX4_allWaiting_5 : decode cX4_allWaiting 5 = .ok (.aload_n 0, 1) := by decide +kernel
theorem dX4_allWaiting_6 : decode cX4_allWaiting 6 = .ok (.getfield 100, 3) := by decide +kernel
theorem dX4_allWaiting_9 : decode cX4_allWaiting 9 = .ok (.if_icmp .ge 27, 3) := by decide +kernel
theorem dX4_allWaiting_12 : decode cX4_allWaiting 12 = .ok (.iload_n 3, 1) := by decide +kernel
theorem dX4_allWaiting_13 : decode cX4_allWaiting 13 = .ok (.bipush 46, 2) := by decide +kernel
theorem dX4_allWaiting_15 : decode cX4_allWaiting 15 = .ok (.if_icmp .ge 21, 3) := by decide +kernel
theorem dX4_allWaiting_18 : decode cX4_allWaiting 18 = .ok (.lload_n 1, 1) := by decide +kernel
theorem dX4_allWaiting_19 : decode cX4_allWaiting 19 = .ok (.aload_n 0, 1) := by decide +kernel
theorem dX4_allWaiting_20 : decode cX4_allWaiting 20 = .ok (.getfield 33, 3) := by decide +kernel
theorem dX4_allWaiting_23 : decode cX4_allWaiting 23 = .ok (.iload_n 3, 1) := by decide +kernel
theorem dX4_allWaiting_24 : decode cX4_allWaiting 24 = .ok (.iaload, 1) := by decide +kernel
theorem dX4_allWaiting_25 : decode cX4_allWaiting 25 = .ok (.invokestatic 93, 3) := by decide +kernel
theorem dX4_allWaiting_28 : decode cX4_allWaiting 28 = .ok (.lor, 1) := by decide +kernel
theorem dX4_allWaiting_29 : decode cX4_allWaiting 29 = .ok (.lstore_n 1, 1) := by decide +kernel
theorem dX4_allWaiting_30 : decode cX4_allWaiting 30 = .ok (.iinc 3 1, 3) := by decide +kernel
theorem dX4_allWaiting_33 : decode cX4_allWaiting 33 = .ok (.goto (-29), 3) := by decide +kernel
theorem dX4_allWaiting_36 : decode cX4_allWaiting 36 = .ok (.lload_n 1, 1) := by decide +kernel
theorem dX4_allWaiting_37 : decode cX4_allWaiting 37 = .ok (.lreturn, 1) := by decide +kernel
theorem dX4_letWait_0 : decode cX4_letWait 0 = .ok (.aload_n 0, 1) := by decide +kernel
theorem dX4_letWait_1 : decode cX4_letWait 1 = .ok (.getfield 100, 3) := by decide +kernel
theorem dX4_letWait_4 : decode cX4_letWait 4 = .ok (.bipush 46, 2) := by decide +kernel
theorem dX4_letWait_6 : decode cX4_letWait 6 = .ok (.if_icmp .ge 23, 3) := by decide +kernel
theorem dX4_letWait_9 : decode cX4_letWait 9 = .ok (.aload_n 0, 1) := by decide +kernel
theorem dX4_letWait_10 : decode cX4_letWait 10 = .ok (.getfield 33, 3) := by decide +kernel
theorem dX4_letWait_13 : decode cX4_letWait 13 = .ok (.aload_n 0, 1) := by decide +kernel
theorem dX4_letWait_14 : decode cX4_letWait 14 = .ok (.getfield 100, 3) := by decide +kernel
theorem dX4_letWait_17 : decode cX4_letWait 17 = .ok (.iload_n 1, 1) := by decide +kernel
theorem dX4_letWait_18 : decode cX4_letWait 18 = .ok (.iastore, 1) := by decide +kernel
theorem dX4_letWait_19 : decode cX4_letWait 19 = .ok (.aload_n 0, 1) := by decide +kernel
theorem dX4_letWait_20 : decode cX4_letWait 20 = .ok (.dup, 1) := by decide +kernel
theorem dX4_letWait_21 : decode cX4_letWait 21 = .ok (.getfield 100, 3) := by decide +kernel
theorem dX4_letWait_24 : decode cX4_letWait 24 = .ok (.iconst 1, 1) := by decide +kernel
theorem dX4_letWait_25 : decode cX4_letWait 25 = .ok (.iadd, 1) := by decide +kernel
theorem dX4_letWait_26 : decode cX4_letWait 26 = .ok (.putfield 100, 3) := by decide +kernel
theorem dX4_letWait_29 : decode cX4_letWait 29 = .ok (.return_, 1) := by decide +kernel
theorem dX4_takeOff_0 : decode cX4_takeOff 0 = .ok (.aload_n 0, 1) := by decide +kernel
theorem dX4_takeOff_1 : decode cX4_takeOff 1 = .ok (.new 27, 3) := by decide +kernel
theorem dX4_takeOff_4 : decode cX4_takeOff 4 = .ok (.dup, 1) := by decide +kernel
theorem dX4_takeOff_5 : decode cX4_takeOff 5 = .ok (.iconst 5, 1) := by decide +kernel
theorem dX4_takeOff_6 : decode cX4_takeOff 6 = .ok (.iload_n 1, 1) := by decide +kernel
theorem dX4_takeOff_7 : decode cX4_takeOff 7 = .ok (.iconst (-1), 1) := by decide +kernel
theorem dX4_takeOff_8 : decode cX4_takeOff 8 = .ok (.iconst (-1), 1) := by decide +kernel
theorem dX4_takeOff_9 : decode cX4_takeOff 9 = .ok (.iconst (-1), 1) := by decide +kernel
theorem dX4_takeOff_10 : decode cX4_takeOff 10 = .ok (.iconst 0, 1) := by decide +kernel
theorem dX4_takeOff_11 : decode cX4_takeOff 11 = .ok (.invokespecial 103, 3) := by decide +kernel
theorem dX4_takeOff_14 : decode cX4_takeOff 14 = .ok (.invokevirtual 106, 3) := by decide +kernel
theorem dX4_takeOff_17 : decode cX4_takeOff 17 = .ok (.return_, 1) := by decide +kernel
theorem dX4_tracesOf_0 : decode cX4_tracesOf 0 = .ok (.lload_n 1, 1) := by decide +kernel
theorem dX4_tracesOf_1 : decode cX4_tracesOf 1 = .ok (.lstore 4, 2) := by decide +kernel
theorem dX4_tracesOf_3 : decode cX4_tracesOf 3 = .ok (.iload_n 3, 1) := by decide +kernel
theorem dX4_tracesOf_4 : decode cX4_tracesOf 4 = .ok (.iconst 1, 1) := by decide +kernel
theorem dX4_tracesOf_5 : decode cX4_tracesOf 5 = .ok (.iadd, 1) := by decide +kernel
theorem dX4_tracesOf_6 : decode cX4_tracesOf 6 = .ok (.istore 6, 2) := by decide +kernel
theorem dX4_tracesOf_8 : decode cX4_tracesOf 8 = .ok (.iload 6, 2) := by decide +kernel
theorem dX4_tracesOf_10 : decode cX4_tracesOf 10 = .ok (.aload_n 0, 1) := by decide +kernel
theorem dX4_tracesOf_11 : decode cX4_tracesOf 11 = .ok (.getfield 48, 3) := by decide +kernel
theorem dX4_tracesOf_14 : decode cX4_tracesOf 14 = .ok (.if_icmp .gt 55, 3) := by decide +kernel
theorem dX4_tracesOf_17 : decode cX4_tracesOf 17 = .ok (.aload_n 0, 1) := by decide +kernel
theorem dX4_tracesOf_18 : decode cX4_tracesOf 18 = .ok (.iload 6, 2) := by decide +kernel
theorem dX4_tracesOf_20 : decode cX4_tracesOf 20 = .ok (.invokevirtual 117, 3) := by decide +kernel
theorem dX4_tracesOf_23 : decode cX4_tracesOf 23 = .ok (.astore 7, 2) := by decide +kernel
theorem dX4_tracesOf_25 : decode cX4_tracesOf 25 = .ok (.aload 7, 2) := by decide +kernel
theorem dX4_tracesOf_27 : decode cX4_tracesOf 27 = .ok (.ifnull 36, 3) := by decide +kernel
theorem dX4_tracesOf_30 : decode cX4_tracesOf 30 = .ok (.lload 4, 2) := by decide +kernel
theorem dX4_tracesOf_32 : decode cX4_tracesOf 32 = .ok (.aload 7, 2) := by decide +kernel
theorem dX4_tracesOf_34 : decode cX4_tracesOf 34 = .ok (.invokevirtual 87, 3) := by decide +kernel
theorem dX4_tracesOf_37 : decode cX4_tracesOf 37 = .ok (.land, 1) := by decide +kernel
theorem dX4_tracesOf_38 : decode cX4_tracesOf 38 = .ok (.lconst 0, 1) := by decide +kernel
theorem dX4_tracesOf_39 : decode cX4_tracesOf 39 = .ok (.lcmp, 1) := by decide +kernel
theorem dX4_tracesOf_40 : decode cX4_tracesOf 40 = .ok (.ifCond .eq 23, 3) := by decide +kernel
theorem dX4_tracesOf_43 : decode cX4_tracesOf 43 = .ok (.lload 4, 2) := by decide +kernel
theorem dX4_tracesOf_45 : decode cX4_tracesOf 45 = .ok (.aload 7, 2) := by decide +kernel
theorem dX4_tracesOf_47 : decode cX4_tracesOf 47 = .ok (.invokevirtual 87, 3) := by decide +kernel
theorem dX4_tracesOf_50 : decode cX4_tracesOf 50 = .ok (.ldc2_w 91, 3) := by decide +kernel
theorem dX4_tracesOf_53 : decode cX4_tracesOf 53 = .ok (.lxor, 1) := by decide +kernel
theorem dX4_tracesOf_54 : decode cX4_tracesOf 54 = .ok (.land, 1) := by decide +kernel
theorem dX4_tracesOf_55 : decode cX4_tracesOf 55 = .ok (.aload 7, 2) := by decide +kernel
theorem dX4_tracesOf_57 : decode cX4_tracesOf 57 = .ok (.invokevirtual 121, 3) := by decide +kernel
theorem dX4_tracesOf_60 : decode cX4_tracesOf 60 = .ok (.lor, 1) := by decide +kernel
theorem dX4_tracesOf_61 : decode cX4_tracesOf 61 = .ok (.lstore 4, 2) := by decide +kernel
theorem dX4_tracesOf_63 : decode cX4_tracesOf 63 = .ok (.iinc 6 1, 3) := by decide +kernel
theorem dX4_tracesOf_66 : decode cX4_tracesOf 66 = .ok (.goto (-58), 3) := by decide +kernel
theorem dX4_tracesOf_69 : decode cX4_tracesOf 69 = .ok (.lload 4, 2) := by decide +kernel
theorem dX4_tracesOf_71 : decode cX4_tracesOf 71 = .ok (.lreturn, 1) := by decide +kernel
theorem dX4_bring_0 : decode cX4_bring 0 = .ok (.iconst 0, 1) := by decide +kernel
theorem dX4_bring_1 : decode cX4_bring 1 = .ok (.istore_n 3, 1) := by decide +kernel
theorem dX4_bring_2 : decode cX4_bring 2 = .ok (.iload_n 3, 1) := by decide +kernel
theorem dX4_bring_3 : decode cX4_bring 3 = .ok (.bipush 24, 2) := by decide +kernel
theorem dX4_bring_5 : decode cX4_bring 5 = .ok (.if_icmp .ge 23, 3) := by decide +kernel
theorem dX4_bring_8 : decode cX4_bring 8 = .ok (.aload_n 1, 1) := by decide +kernel
theorem dX4_bring_9 : decode cX4_bring 9 = .ok (.getfield 124, 3) := by decide +kernel
theorem dX4_bring_12 : decode cX4_bring 12 = .ok (.iload_n 2, 1) := by decide +kernel
theorem dX4_bring_13 : decode cX4_bring 13 = .ok (.if_icmp .ge 15, 3) := by decide +kernel
theorem dX4_bring_16 : decode cX4_bring 16 = .ok (.aload_n 0, 1) := by decide +kernel
theorem dX4_bring_17 : decode cX4_bring 17 = .ok (.aload_n 1, 1) := by decide +kernel
theorem dX4_bring_18 : decode cX4_bring 18 = .ok (.iconst 1, 1) := by decide +kernel
theorem dX4_bring_19 : decode cX4_bring 19 = .ok (.invokevirtual 129, 3) := by decide +kernel
theorem dX4_bring_22 : decode cX4_bring 22 = .ok (.iinc 3 1, 3) := by decide +kernel
theorem dX4_bring_25 : decode cX4_bring 25 = .ok (.goto (-23), 3) := by decide +kernel
theorem dX4_bring_28 : decode cX4_bring 28 = .ok (.iconst 0, 1) := by decide +kernel
theorem dX4_bring_29 : decode cX4_bring 29 = .ok (.istore_n 3, 1) := by decide +kernel
theorem dX4_bring_30 : decode cX4_bring 30 = .ok (.iload_n 3, 1) := by decide +kernel
theorem dX4_bring_31 : decode cX4_bring 31 = .ok (.bipush 24, 2) := by decide +kernel
theorem dX4_bring_33 : decode cX4_bring 33 = .ok (.if_icmp .ge 23, 3) := by decide +kernel
theorem dX4_bring_36 : decode cX4_bring 36 = .ok (.aload_n 1, 1) := by decide +kernel
theorem dX4_bring_37 : decode cX4_bring 37 = .ok (.getfield 124, 3) := by decide +kernel
theorem dX4_bring_40 : decode cX4_bring 40 = .ok (.iload_n 2, 1) := by decide +kernel
theorem dX4_bring_41 : decode cX4_bring 41 = .ok (.if_icmp .le 15, 3) := by decide +kernel
theorem dX4_bring_44 : decode cX4_bring 44 = .ok (.aload_n 0, 1) := by decide +kernel
theorem dX4_bring_45 : decode cX4_bring 45 = .ok (.aload_n 1, 1) := by decide +kernel
theorem dX4_bring_46 : decode cX4_bring 46 = .ok (.iconst 0, 1) := by decide +kernel
theorem dX4_bring_47 : decode cX4_bring 47 = .ok (.invokevirtual 129, 3) := by decide +kernel
theorem dX4_bring_50 : decode cX4_bring 50 = .ok (.iinc 3 1, 3) := by decide +kernel
theorem dX4_bring_53 : decode cX4_bring 53 = .ok (.goto (-23), 3) := by decide +kernel
theorem dX4_bring_56 : decode cX4_bring 56 = .ok (.return_, 1) := by decide +kernel
theorem dX4_carry_0 : decode cX4_carry 0 = .ok (.iload_n 2, 1) := by decide +kernel
theorem dX4_carry_1 : decode cX4_carry 1 = .ok (.ifCond .eq 12, 3) := by decide +kernel
theorem dX4_carry_4 : decode cX4_carry 4 = .ok (.aload_n 1, 1) := by decide +kernel
theorem dX4_carry_5 : decode cX4_carry 5 = .ok (.getfield 124, 3) := by decide +kernel
theorem dX4_carry_8 : decode cX4_carry 8 = .ok (.iconst 1, 1) := by decide +kernel
theorem dX4_carry_9 : decode cX4_carry 9 = .ok (.iadd, 1) := by decide +kernel
theorem dX4_carry_10 : decode cX4_carry 10 = .ok (.goto 7, 3) := by decide +kernel
theorem dX4_carry_13 : decode cX4_carry 13 = .ok (.aload_n 1, 1) := by decide +kernel
theorem dX4_carry_14 : decode cX4_carry 14 = .ok (.getfield 124, 3) := by decide +kernel
theorem dX4_carry_17 : decode cX4_carry 17 = .ok (.istore_n 3, 1) := by decide +kernel
theorem dX4_carry_18 : decode cX4_carry 18 = .ok (.aload_n 0, 1) := by decide +kernel
theorem dX4_carry_19 : decode cX4_carry 19 = .ok (.iload_n 3, 1) := by decide +kernel
theorem dX4_carry_20 : decode cX4_carry 20 = .ok (.invokevirtual 117, 3) := by decide +kernel
theorem dX4_carry_23 : decode cX4_carry 23 = .ok (.astore 4, 2) := by decide +kernel
theorem dX4_carry_25 : decode cX4_carry 25 = .ok (.aload 4, 2) := by decide +kernel
theorem dX4_carry_27 : decode cX4_carry 27 = .ok (.ifnonnull 4, 3) := by decide +kernel
theorem dX4_carry_30 : decode cX4_carry 30 = .ok (.return_, 1) := by decide +kernel
theorem dX4_carry_31 : decode cX4_carry 31 = .ok (.aload_n 1, 1) := by decide +kernel
theorem dX4_carry_32 : decode cX4_carry 32 = .ok (.iload_n 2, 1) := by decide +kernel
theorem dX4_carry_33 : decode cX4_carry 33 = .ok (.ifCond .eq 7, 3) := by decide +kernel
theorem dX4_carry_36 : decode cX4_carry 36 = .ok (.iload_n 3, 1) := by decide +kernel
theorem dX4_carry_37 : decode cX4_carry 37 = .ok (.goto 6, 3) := by decide +kernel
theorem dX4_carry_40 : decode cX4_carry 40 = .ok (.iload_n 3, 1) := by decide +kernel
theorem dX4_carry_41 : decode cX4_carry 41 = .ok (.iconst 1, 1) := by decide +kernel
theorem dX4_carry_42 : decode cX4_carry 42 = .ok (.isub, 1) := by decide +kernel
theorem dX4_carry_43 : decode cX4_carry 43 = .ok (.putfield 124, 3) := by decide +kernel
theorem dX4_carry_46 : decode cX4_carry 46 = .ok (.aload 4, 2) := by decide +kernel
theorem dX4_carry_48 : decode cX4_carry 48 = .ok (.getfield 133, 3) := by decide +kernel
theorem dX4_carry_51 : decode cX4_carry 51 = .ok (.iconst 1, 1) := by decide +kernel
theorem dX4_carry_52 : decode cX4_carry 52 = .ok (.if_icmp .ne 4, 3) := by decide +kernel
theorem dX4_carry_55 : decode cX4_carry 55 = .ok (.return_, 1) := by decide +kernel
theorem dX4_carry_56 : decode cX4_carry 56 = .ok (.iload_n 2, 1) := by decide +kernel
theorem dX4_carry_57 : decode cX4_carry 57 = .ok (.ifCond .eq 11, 3) := by decide +kernel
theorem dX4_carry_60 : decode cX4_carry 60 = .ok (.aload 4, 2) := by decide +kernel
theorem dX4_carry_62 : decode cX4_carry 62 = .ok (.getfield 136, 3) := by decide +kernel
theorem dX4_carry_65 : decode cX4_carry 65 = .ok (.goto 8, 3) := by decide +kernel
theorem dX4_carry_68 : decode cX4_carry 68 = .ok (.aload 4, 2) := by decide +kernel
theorem dX4_carry_70 : decode cX4_carry 70 = .ok (.getfield 139, 3) := by decide +kernel
theorem dX4_carry_73 : decode cX4_carry 73 = .ok (.astore 5, 2) := by decide +kernel
theorem dX4_carry_75 : decode cX4_carry 75 = .ok (.iload_n 2, 1) := by decide +kernel
theorem dX4_carry_76 : decode cX4_carry 76 = .ok (.ifCond .eq 11, 3) := by decide +kernel
theorem dX4_carry_79 : decode cX4_carry 79 = .ok (.aload 4, 2) := by decide +kernel
theorem dX4_carry_81 : decode cX4_carry 81 = .ok (.getfield 139, 3) := by decide +kernel
theorem dX4_carry_84 : decode cX4_carry 84 = .ok (.goto 8, 3) := by decide +kernel
theorem dX4_carry_87 : decode cX4_carry 87 = .ok (.aload 4, 2) := by decide +kernel
theorem dX4_carry_89 : decode cX4_carry 89 = .ok (.getfield 136, 3) := by decide +kernel
theorem dX4_carry_92 : decode cX4_carry 92 = .ok (.astore 6, 2) := by decide +kernel
theorem dX4_carry_94 : decode cX4_carry 94 = .ok (.iconst 0, 1) := by decide +kernel
theorem dX4_carry_95 : decode cX4_carry 95 = .ok (.istore 7, 2) := by decide +kernel
theorem dX4_carry_97 : decode cX4_carry 97 = .ok (.iload 7, 2) := by decide +kernel
theorem dX4_carry_99 : decode cX4_carry 99 = .ok (.iconst 2, 1) := by decide +kernel
theorem dX4_carry_100 : decode cX4_carry 100 = .ok (.if_icmp .ge 25, 3) := by decide +kernel
theorem dX4_carry_103 : decode cX4_carry 103 = .ok (.aload_n 0, 1) := by decide +kernel
theorem dX4_carry_104 : decode cX4_carry 104 = .ok (.getfield 36, 3) := by decide +kernel
theorem dX4_carry_107 : decode cX4_carry 107 = .ok (.iload 7, 2) := by decide +kernel
theorem dX4_carry_109 : decode cX4_carry 109 = .ok (.aload_n 1, 1) := by decide +kernel
theorem dX4_carry_110 : decode cX4_carry 110 = .ok (.aload 5, 2) := by decide +kernel
theorem dX4_carry_112 : decode cX4_carry 112 = .ok (.iload 7, 2) := by decide +kernel
theorem dX4_carry_114 : decode cX4_carry 114 = .ok (.iaload, 1) := by decide +kernel
theorem dX4_carry_115 : decode cX4_carry 115 = .ok (.invokevirtual 142, 3) := by decide +kernel
theorem dX4_carry_118 : decode cX4_carry 118 = .ok (.iastore, 1) := by decide +kernel
theorem dX4_carry_119 : decode cX4_carry 119 = .ok (.iinc 7 1, 3) := by decide +kernel
theorem dX4_carry_122 : decode cX4_carry 122 = .ok (.goto (-25), 3) := by decide +kernel
theorem dX4_carry_125 : decode cX4_carry 125 = .ok (.aload_n 0, 1) := by decide +kernel
theorem dX4_carry_126 : decode cX4_carry 126 = .ok (.iload_n 3, 1) := by decide +kernel
theorem dX4_carry_127 : decode cX4_carry 127 = .ok (.iload_n 2, 1) := by decide +kernel
theorem dX4_carry_128 : decode cX4_carry 128 = .ok (.aload_n 0, 1) := by decide +kernel
theorem dX4_carry_129 : decode cX4_carry 129 = .ok (.getfield 36, 3) := by decide +kernel
theorem dX4_carry_132 : decode cX4_carry 132 = .ok (.aload_n 0, 1) := by decide +kernel
theorem dX4_carry_133 : decode cX4_carry 133 = .ok (.getfield 39, 3) := by decide +kernel
theorem dX4_carry_136 : decode cX4_carry 136 = .ok (.invokevirtual 145, 3) := by decide +kernel
theorem dX4_carry_139 : decode cX4_carry 139 = .ok (.aload_n 1, 1) := by decide +kernel
theorem dX4_carry_140 : decode cX4_carry 140 = .ok (.iload_n 3, 1) := by decide +kernel
theorem dX4_carry_141 : decode cX4_carry 141 = .ok (.iload_n 2, 1) := by decide +kernel
theorem dX4_carry_142 : decode cX4_carry 142 = .ok (.ifCond .eq 7, 3) := by decide +kernel
theorem dX4_carry_145 : decode cX4_carry 145 = .ok (.iconst 1, 1) := by decide +kernel
theorem dX4_carry_146 : decode cX4_carry 146 = .ok (.goto 4, 3) := by decide +kernel
theorem dX4_carry_149 : decode cX4_carry 149 = .ok (.iconst 0, 1) := by decide +kernel
theorem dX4_carry_150 : decode cX4_carry 150 = .ok (.aload_n 0, 1) := by decide +kernel
theorem dX4_carry_151 : decode cX4_carry 151 = .ok (.getfield 42, 3) := by decide +kernel
theorem dX4_carry_154 : decode cX4_carry 154 = .ok (.invokevirtual 149, 3) := by decide +kernel
theorem dX4_carry_157 : decode cX4_carry 157 = .ok (.ifCond .eq 76, 3) := by decide +kernel
theorem dX4_carry_160 : decode cX4_carry 160 = .ok (.aload_n 0, 1) := by decide +kernel
theorem dX4_carry_161 : decode cX4_carry 161 = .ok (.iload_n 3, 1) := by decide +kernel
theorem dX4_carry_162 : decode cX4_carry 162 = .ok (.iload_n 2, 1) := by decide +kernel
theorem dX4_carry_163 : decode cX4_carry 163 = .ok (.ifCond .ne 7, 3) := by decide +kernel
theorem dX4_carry_166 : decode cX4_carry 166 = .ok (.iconst 1, 1) := by decide +kernel
theorem dX4_carry_167 : decode cX4_carry 167 = .ok (.goto 4, 3) := by decide +kernel
theorem dX4_carry_170 : decode cX4_carry 170 = .ok (.iconst 0, 1) := by decide +kernel
theorem dX4_carry_171 : decode cX4_carry 171 = .ok (.aload_n 0, 1) := by decide +kernel
theorem dX4_carry_172 : decode cX4_carry 172 = .ok (.getfield 42, 3) := by decide +kernel
theorem dX4_carry_175 : decode cX4_carry 175 = .ok (.aload_n 0, 1) := by decide +kernel
theorem dX4_carry_176 : decode cX4_carry 176 = .ok (.getfield 45, 3) := by decide +kernel
theorem dX4_carry_179 : decode cX4_carry 179 = .ok (.invokevirtual 145, 3) := by decide +kernel
theorem dX4_carry_182 : decode cX4_carry 182 = .ok (.aload_n 0, 1) := by decide +kernel
theorem dX4_carry_183 : decode cX4_carry 183 = .ok (.getfield 45, 3) := by decide +kernel
theorem dX4_carry_186 : decode cX4_carry 186 = .ok (.aload_n 0, 1) := by decide +kernel
theorem dX4_carry_187 : decode cX4_carry 187 = .ok (.getfield 36, 3) := by decide +kernel
theorem dX4_carry_190 : decode cX4_carry 190 = .ok (.invokestatic 153, 3) := by decide +kernel
theorem dX4_carry_193 : decode cX4_carry 193 = .ok (.ifCond .eq 30, 3) := by decide +kernel
theorem dX4_carry_196 : decode cX4_carry 196 = .ok (.aload_n 0, 1) := by decide +kernel
theorem dX4_carry_197 : decode cX4_carry 197 = .ok (.getfield 39, 3) := by decide +kernel
theorem dX4_carry_200 : decode cX4_carry 200 = .ok (.iconst 0, 1) := by decide +kernel
theorem dX4_carry_201 : decode cX4_carry 201 = .ok (.aload_n 0, 1) := by decide +kernel
theorem dX4_carry_202 : decode cX4_carry 202 = .ok (.getfield 42, 3) := by decide +kernel
theorem dX4_carry_205 : decode cX4_carry 205 = .ok (.iconst 0, 1) := by decide +kernel
theorem dX4_carry_206 : decode cX4_carry 206 = .ok (.iaload, 1) := by decide +kernel
theorem dX4_carry_207 : decode cX4_carry 207 = .ok (.iastore, 1) := by decide +kernel
theorem dX4_carry_208 : decode cX4_carry 208 = .ok (.aload_n 0, 1) := by decide +kernel
theorem dX4_carry_209 : decode cX4_carry 209 = .ok (.getfield 39, 3) := by decide +kernel
theorem dX4_carry_212 : decode cX4_carry 212 = .ok (.iconst 1, 1) := by decide +kernel
theorem dX4_carry_213 : decode cX4_carry 213 = .ok (.aload_n 0, 1) := by decide +kernel
theorem dX4_carry_214 : decode cX4_carry 214 = .ok (.getfield 42, 3) := by decide +kernel
theorem dX4_carry_217 : decode cX4_carry 217 = .ok (.iconst 1, 1) := by decide +kernel
theorem dX4_carry_218 : decode cX4_carry 218 = .ok (.iaload, 1) := by decide +kernel
theorem dX4_carry_219 : decode cX4_carry 219 = .ok (.iastore, 1) := by decide +kernel
theorem dX4_carry_220 : decode cX4_carry 220 = .ok (.goto 13, 3) := by decide +kernel
theorem dX4_carry_223 : decode cX4_carry 223 = .ok (.aload_n 1, 1) := by decide +kernel
theorem dX4_carry_224 : decode cX4_carry 224 = .ok (.dup, 1) := by decide +kernel
theorem dX4_carry_225 : decode cX4_carry 225 = .ok (.getfield 157, 3) := by decide +kernel
theorem dX4_carry_228 : decode cX4_carry 228 = .ok (.iconst 1, 1) := by decide +kernel
theorem dX4_carry_229 : decode cX4_carry 229 = .ok (.iadd, 1) := by decide +kernel
theorem dX4_carry_230 : decode cX4_carry 230 = .ok (.putfield 157, 3) := by decide +kernel
theorem dX4_carry_233 : decode cX4_carry 233 = .ok (.aload_n 0, 1) := by decide +kernel
theorem dX4_carry_234 : decode cX4_carry 234 = .ok (.iload_n 3, 1) := by decide +kernel
theorem dX4_carry_235 : decode cX4_carry 235 = .ok (.iload_n 2, 1) := by decide +kernel
theorem dX4_carry_236 : decode cX4_carry 236 = .ok (.ifCond .ne 7, 3) := by decide +kernel
theorem dX4_carry_239 : decode cX4_carry 239 = .ok (.iconst 1, 1) := by decide +kernel
theorem dX4_carry_240 : decode cX4_carry 240 = .ok (.goto 4, 3) := by decide +kernel
theorem dX4_carry_243 : decode cX4_carry 243 = .ok (.iconst 0, 1) := by decide +kernel
theorem dX4_carry_244 : decode cX4_carry 244 = .ok (.aload_n 0, 1) := by decide +kernel
theorem dX4_carry_245 : decode cX4_carry 245 = .ok (.getfield 39, 3) := by decide +kernel
theorem dX4_carry_248 : decode cX4_carry 248 = .ok (.aload_n 0, 1) := by decide +kernel
theorem dX4_carry_249 : decode cX4_carry 249 = .ok (.getfield 45, 3) := by decide +kernel
theorem dX4_carry_252 : decode cX4_carry 252 = .ok (.invokevirtual 145, 3) := by decide +kernel
theorem dX4_carry_255 : decode cX4_carry 255 = .ok (.aload_n 0, 1) := by decide +kernel
theorem dX4_carry_256 : decode cX4_carry 256 = .ok (.getfield 45, 3) := by decide +kernel
theorem dX4_carry_259 : decode cX4_carry 259 = .ok (.aload_n 0, 1) := by decide +kernel
theorem dX4_carry_260 : decode cX4_carry 260 = .ok (.getfield 36, 3) := by decide +kernel
theorem dX4_carry_263 : decode cX4_carry 263 = .ok (.invokestatic 153, 3) := by decide +kernel
theorem dX4_carry_266 : decode cX4_carry 266 = .ok (.ifCond .ne 21, 3) := by decide +kernel
theorem dX4_carry_269 : decode cX4_carry 269 = .ok (.aload_n 1, 1) := by decide +kernel
theorem dX4_carry_270 : decode cX4_carry 270 = .ok (.iload_n 3, 1) := by decide +kernel
theorem dX4_carry_271 : decode cX4_carry 271 = .ok (.iload_n 2, 1) := by decide +kernel
theorem dX4_carry_272 : decode cX4_carry 272 = .ok (.ifCond .eq 7, 3) := by decide +kernel
theorem dX4_carry_275 : decode cX4_carry 275 = .ok (.iconst 0, 1) := by decide +kernel
theorem dX4_carry_276 : decode cX4_carry 276 = .ok (.goto 4, 3) := by decide +kernel
theorem dX4_carry_279 : decode cX4_carry 279 = .ok (.iconst 1, 1) := by decide +kernel
theorem dX4_carry_280 : decode cX4_carry 280 = .ok (.aload_n 0, 1) := by decide +kernel
theorem dX4_carry_281 : decode cX4_carry 281 = .ok (.getfield 36, 3) := by decide +kernel
theorem dX4_carry_284 : decode cX4_carry 284 = .ok (.invokevirtual 160, 3) := by decide +kernel
theorem dX4_carry_287 : decode cX4_carry 287 = .ok (.iconst 0, 1) := by decide +kernel
theorem dX4_carry_288 : decode cX4_carry 288 = .ok (.istore 7, 2) := by decide +kernel
theorem dX4_carry_290 : decode cX4_carry 290 = .ok (.iload 7, 2) := by decide +kernel
theorem dX4_carry_292 : decode cX4_carry 292 = .ok (.iconst 2, 1) := by decide +kernel
theorem dX4_carry_293 : decode cX4_carry 293 = .ok (.if_icmp .ge 25, 3) := by decide +kernel
theorem dX4_carry_296 : decode cX4_carry 296 = .ok (.aload_n 1, 1) := by decide +kernel
theorem dX4_carry_297 : decode cX4_carry 297 = .ok (.aload 6, 2) := by decide +kernel
theorem dX4_carry_299 : decode cX4_carry 299 = .ok (.iload 7, 2) := by decide +kernel
theorem dX4_carry_301 : decode cX4_carry 301 = .ok (.iaload, 1) := by decide +kernel
theorem dX4_carry_302 : decode cX4_carry 302 = .ok (.aload_n 0, 1) := by decide +kernel
theorem dX4_carry_303 : decode cX4_carry 303 = .ok (.getfield 39, 3) := by decide +kernel
theorem dX4_carry_306 : decode cX4_carry 306 = .ok (.iload 7, 2) := by decide +kernel
theorem dX4_carry_308 : decode cX4_carry 308 = .ok (.iaload, 1) := by decide +kernel
theorem dX4_carry_309 : decode cX4_carry 309 = .ok (.invokevirtual 164, 3) := by decide +kernel
theorem dX4_carry_312 : decode cX4_carry 312 = .ok (.iinc 7 1, 3) := by decide +kernel
theorem dX4_carry_315 : decode cX4_carry 315 = .ok (.goto (-25), 3) := by decide +kernel
theorem dX4_carry_318 : decode cX4_carry 318 = .ok (.return_, 1) := by decide +kernel
theorem dX4_isSame_0 : decode cX4_isSame 0 = .ok (.aload_n 0, 1) := by decide +kernel
theorem dX4_isSame_1 : decode cX4_isSame 1 = .ok (.iconst 0, 1) := by decide +kernel
theorem dX4_isSame_2 : decode cX4_isSame 2 = .ok (.iaload, 1) := by decide +kernel
theorem dX4_isSame_3 : decode cX4_isSame 3 = .ok (.aload_n 1, 1) := by decide +kernel
theorem dX4_isSame_4 : decode cX4_isSame 4 = .ok (.iconst 0, 1) := by decide +kernel
theorem dX4_isSame_5 : decode cX4_isSame 5 = .ok (.iaload, 1) := by decide +kernel
theorem dX4_isSame_6 : decode cX4_isSame 6 = .ok (.if_icmp .ne 16, 3) := by decide +kernel
theorem dX4_isSame_9 : decode cX4_isSame 9 = .ok (.aload_n 0, 1) := by decide +kernel
theorem dX4_isSame_10 : decode cX4_isSame 10 = .ok (.iconst 1, 1) := by decide +kernel
theorem dX4_isSame_11 : decode cX4_isSame 11 = .ok (.iaload, 1) := by decide +kernel
theorem dX4_isSame_12 : decode cX4_isSame 12 = .ok (.aload_n 1, 1) := by decide +kernel
theorem dX4_isSame_13 : decode cX4_isSame 13 = .ok (.iconst 1, 1) := by decide +kernel
theorem dX4_isSame_14 : decode cX4_isSame 14 = .ok (.iaload, 1) := by decide +kernel
theorem dX4_isSame_15 : decode cX4_isSame 15 = .ok (.if_icmp .ne 7, 3) := by decide +kernel
theorem dX4_isSame_18 : decode cX4_isSame 18 = .ok (.iconst 1, 1) := by decide +kernel
theorem dX4_isSame_19 : decode cX4_isSame 19 = .ok (.goto 4, 3) := by decide +kernel
theorem dX4_isSame_22 : decode cX4_isSame 22 = .ok (.iconst 0, 1) := by decide +kernel
theorem dX4_isSame_23 : decode cX4_isSame 23 = .ok (.ireturn, 1) := by decide +kernel
theorem dX4_tell_0 : decode cX4_tell 0 = .ok (.aload_n 0, 1) := by decide +kernel
theorem dX4_tell_1 : decode cX4_tell 1 = .ok (.iload_n 1, 1) := by decide +kernel
theorem dX4_tell_2 : decode cX4_tell 2 = .ok (.invokevirtual 117, 3) := by decide +kernel
theorem dX4_tell_5 : decode cX4_tell 5 = .ok (.astore 5, 2) := by decide +kernel
theorem dX4_tell_7 : decode cX4_tell 7 = .ok (.aload 5, 2) := by decide +kernel
theorem dX4_tell_9 : decode cX4_tell 9 = .ok (.ifnonnull 4, 3) := by decide +kernel
theorem dX4_tell_12 : decode cX4_tell 12 = .ok (.return_, 1) := by decide +kernel
theorem dX4_tell_13 : decode cX4_tell 13 = .ok (.aload_n 0, 1) := by decide +kernel
theorem dX4_tell_14 : decode cX4_tell 14 = .ok (.aload 5, 2) := by decide +kernel
theorem dX4_tell_16 : decode cX4_tell 16 = .ok (.iload_n 2, 1) := by decide +kernel
theorem dX4_tell_17 : decode cX4_tell 17 = .ok (.aload_n 3, 1) := by decide +kernel
theorem dX4_tell_18 : decode cX4_tell 18 = .ok (.aload 4, 2) := by decide +kernel
theorem dX4_tell_20 : decode cX4_tell 20 = .ok (.invokevirtual 168, 3) := by decide +kernel
theorem dX4_tell_23 : decode cX4_tell 23 = .ok (.iload_n 2, 1) := by decide +kernel
theorem dX4_tell_24 : decode cX4_tell 24 = .ok (.ifCond .eq 11, 3) := by decide +kernel
theorem dX4_tell_27 : decode cX4_tell 27 = .ok (.aload 5, 2) := by decide +kernel
theorem dX4_tell_29 : decode cX4_tell 29 = .ok (.getfield 139, 3) := by decide +kernel
theorem dX4_tell_32 : decode cX4_tell 32 = .ok (.goto 8, 3) := by decide +kernel
theorem dX4_tell_35 : decode cX4_tell 35 = .ok (.aload 5, 2) := by decide +kernel
theorem dX4_tell_37 : decode cX4_tell 37 = .ok (.getfield 136, 3) := by decide +kernel
theorem dX4_tell_40 : decode cX4_tell 40 = .ok (.astore 6, 2) := by decide +kernel
theorem dX4_tell_42 : decode cX4_tell 42 = .ok (.iload_n 2, 1) := by decide +kernel
theorem dX4_tell_43 : decode cX4_tell 43 = .ok (.ifCond .eq 7, 3) := by decide +kernel
theorem dX4_tell_46 : decode cX4_tell 46 = .ok (.iload_n 1, 1) := by decide +kernel
theorem dX4_tell_47 : decode cX4_tell 47 = .ok (.goto 6, 3) := by decide +kernel
theorem dX4_tell_50 : decode cX4_tell 50 = .ok (.iload_n 1, 1) := by decide +kernel
theorem dX4_tell_51 : decode cX4_tell 51 = .ok (.iconst 1, 1) := by decide +kernel
theorem dX4_tell_52 : decode cX4_tell 52 = .ok (.isub, 1) := by decide +kernel
theorem dX4_tell_53 : decode cX4_tell 53 = .ok (.istore 7, 2) := by decide +kernel
theorem dX4_tell_55 : decode cX4_tell 55 = .ok (.iconst 0, 1) := by decide +kernel
theorem dX4_tell_56 : decode cX4_tell 56 = .ok (.istore 8, 2) := by decide +kernel
theorem dX4_tell_58 : decode cX4_tell 58 = .ok (.iload 8, 2) := by decide +kernel
theorem dX4_tell_60 : decode cX4_tell 60 = .ok (.iconst 2, 1) := by decide +kernel
theorem dX4_tell_61 : decode cX4_tell 61 = .ok (.if_icmp .ge 46, 3) := by decide +kernel
theorem dX4_tell_64 : decode cX4_tell 64 = .ok (.aload 4, 2) := by decide +kernel
theorem dX4_tell_66 : decode cX4_tell 66 = .ok (.iload 8, 2) := by decide +kernel
theorem dX4_tell_68 : decode cX4_tell 68 = .ok (.iaload, 1) := by decide +kernel
theorem dX4_tell_69 : decode cX4_tell 69 = .ok (.iconst (-1), 1) := by decide +kernel
theorem dX4_tell_70 : decode cX4_tell 70 = .ok (.if_icmp .ne 31, 3) := by decide +kernel
theorem dX4_tell_73 : decode cX4_tell 73 = .ok (.aload_n 0, 1) := by decide +kernel
theorem dX4_tell_74 : decode cX4_tell 74 = .ok (.iload 7, 2) := by decide +kernel
theorem dX4_tell_76 : decode cX4_tell 76 = .ok (.aload 6, 2) := by decide +kernel
theorem dX4_tell_78 : decode cX4_tell 78 = .ok (.iload 8, 2) := by decide +kernel
theorem dX4_tell_80 : decode cX4_tell 80 = .ok (.iaload, 1) := by decide +kernel
theorem dX4_tell_81 : decode cX4_tell 81 = .ok (.invokevirtual 172, 3) := by decide +kernel
theorem dX4_tell_84 : decode cX4_tell 84 = .ok (.ifCond .eq 17, 3) := by decide +kernel
theorem dX4_tell_87 : decode cX4_tell 87 = .ok (.aload 4, 2) := by decide +kernel
theorem dX4_tell_89 : decode cX4_tell 89 = .ok (.iload 8, 2) := by decide +kernel
theorem dX4_tell_91 : decode cX4_tell 91 = .ok (.aload_n 0, 1) := by decide +kernel
theorem dX4_tell_92 : decode cX4_tell 92 = .ok (.aload 6, 2) := by decide +kernel
theorem dX4_tell_94 : decode cX4_tell 94 = .ok (.iload 8, 2) := by decide +kernel
theorem dX4_tell_96 : decode cX4_tell 96 = .ok (.iaload, 1) := by decide +kernel
theorem dX4_tell_97 : decode cX4_tell 97 = .ok (.invokevirtual 176, 3) := by decide +kernel
theorem dX4_tell_100 : decode cX4_tell 100 = .ok (.iastore, 1) := by decide +kernel
theorem dX4_tell_101 : decode cX4_tell 101 = .ok (.iinc 8 1, 3) := by decide +kernel
theorem dX4_tell_104 : decode cX4_tell 104 = .ok (.goto (-46), 3) := by decide +kernel
theorem dX4_tell_107 : decode cX4_tell 107 = .ok (.return_, 1) := by decide +kernel
theorem dX4_tellAlone_0 : decode cX4_tellAlone 0 = .ok (.iload_n 2, 1) := by decide +kernel
theorem dX4_tellAlone_1 : decode cX4_tellAlone 1 = .ok (.ifCond .eq 12, 3) := by decide +kernel
theorem dX4_tellAlone_4 : decode cX4_tellAlone 4 = .ok (.aload_n 1, 1) := by decide +kernel
theorem dX4_tellAlone_5 : decode cX4_tellAlone 5 = .ok (.getfield 136, 3) := by decide +kernel
theorem dX4_tellAlone_8 : decode cX4_tellAlone 8 = .ok (.iconst 0, 1) := by decide +kernel
theorem dX4_tellAlone_9 : decode cX4_tellAlone 9 = .ok (.iaload, 1) := by decide +kernel
theorem dX4_tellAlone_10 : decode cX4_tellAlone 10 = .ok (.goto 9, 3) := by decide +kernel
theorem dX4_tellAlone_13 : decode cX4_tellAlone 13 = .ok (.aload_n 1, 1) := by decide +kernel
theorem dX4_tellAlone_14 : decode cX4_tellAlone 14 = .ok (.getfield 139, 3) := by decide +kernel
theorem dX4_tellAlone_17 : decode cX4_tellAlone 17 = .ok (.iconst 0, 1) := by decide +kernel
theorem dX4_tellAlone_18 : decode cX4_tellAlone 18 = .ok (.iaload, 1) := by decide +kernel
theorem dX4_tellAlone_19 : decode cX4_tellAlone 19 = .ok (.istore 5, 2) := by decide +kernel
theorem dX4_tellAlone_21 : decode cX4_tellAlone 21 = .ok (.iload_n 2, 1) := by decide +kernel
theorem dX4_tellAlone_22 : decode cX4_tellAlone 22 = .ok (.ifCond .eq 12, 3) := by decide +kernel
theorem dX4_tellAlone_25 : decode cX4_tellAlone 25 = .ok (.aload_n 1, 1) := by decide +kernel
theorem dX4_tellAlone_26 : decode cX4_tellAlone 26 = .ok (.getfield 139, 3) := by decide +kernel
theorem dX4_tellAlone_29 : decode cX4_tellAlone 29 = .ok (.iconst 0, 1) := by decide +kernel
theorem dX4_tellAlone_30 : decode cX4_tellAlone 30 = .ok (.iaload, 1) := by decide +kernel
theorem dX4_tellAlone_31 : decode cX4_tellAlone 31 = .ok (.goto 9, 3) := by decide +kernel
theorem dX4_tellAlone_34 : decode cX4_tellAlone 34 = .ok (.aload_n 1, 1) := by decide +kernel
theorem dX4_tellAlone_35 : decode cX4_tellAlone 35 = .ok (.getfield 136, 3) := by decide +kernel
theorem dX4_tellAlone_38 : decode cX4_tellAlone 38 = .ok (.iconst 0, 1) := by decide +kernel
theorem dX4_tellAlone_39 : decode cX4_tellAlone 39 = .ok (.iaload, 1) := by decide +kernel
theorem dX4_tellAlone_40 : decode cX4_tellAlone 40 = .ok (.istore 6, 2) := by decide +kernel
theorem dX4_tellAlone_42 : decode cX4_tellAlone 42 = .ok (.aload 4, 2) := by decide +kernel
theorem dX4_tellAlone_44 : decode cX4_tellAlone 44 = .ok (.iconst 0, 1) := by decide +kernel
theorem dX4_tellAlone_45 : decode cX4_tellAlone 45 = .ok (.iconst (-1), 1) := by decide +kernel
theorem dX4_tellAlone_46 : decode cX4_tellAlone 46 = .ok (.iastore, 1) := by decide +kernel
theorem dX4_tellAlone_47 : decode cX4_tellAlone 47 = .ok (.aload 4, 2) := by decide +kernel
theorem dX4_tellAlone_49 : decode cX4_tellAlone 49 = .ok (.iconst 1, 1) := by decide +kernel
theorem dX4_tellAlone_50 : decode cX4_tellAlone 50 = .ok (.iconst (-1), 1) := by decide +kernel
theorem dX4_tellAlone_51 : decode cX4_tellAlone 51 = .ok (.iastore, 1) := by decide +kernel
theorem dX4_tellAlone_52 : decode cX4_tellAlone 52 = .ok (.aload_n 1, 1) := by decide +kernel
theorem dX4_tellAlone_53 : decode cX4_tellAlone 53 = .ok (.getfield 133, 3) := by decide +kernel
theorem dX4_tellAlone_56 : decode cX4_tellAlone 56 = .ok (.tableswitch 168 0 6 #[44, 168, 65, 90, 90, 168, 158], 44) := by decide +kernel
theorem dX4_tellAlone_100 : decode cX4_tellAlone 100 = .ok (.aload 4, 2) := by decide +kernel
theorem dX4_tellAlone_102 : decode cX4_tellAlone 102 = .ok (.iconst 0, 1) := by decide +kernel
theorem dX4_tellAlone_103 : decode cX4_tellAlone 103 = .ok (.iload_n 2, 1) := by decide +kernel
theorem dX4_tellAlone_104 : decode cX4_tellAlone 104 = .ok (.ifCond .eq 12, 3) := by decide +kernel
theorem dX4_tellAlone_107 : decode cX4_tellAlone 107 = .ok (.aload_n 0, 1) := by decide +kernel
theorem dX4_tellAlone_108 : decode cX4_tellAlone 108 = .ok (.iload 6, 2) := by decide +kernel
theorem dX4_tellAlone_110 : decode cX4_tellAlone 110 = .ok (.invokevirtual 176, 3) := by decide +kernel
theorem dX4_tellAlone_113 : decode cX4_tellAlone 113 = .ok (.goto 4, 3) := by decide +kernel
theorem dX4_tellAlone_116 : decode cX4_tellAlone 116 = .ok (.iconst (-1), 1) := by decide +kernel
theorem dX4_tellAlone_117 : decode cX4_tellAlone 117 = .ok (.iastore, 1) := by decide +kernel
theorem dX4_tellAlone_118 : decode cX4_tellAlone 118 = .ok (.goto 106, 3) := by decide +kernel
theorem dX4_tellAlone_121 : decode cX4_tellAlone 121 = .ok (.aload 4, 2) := by decide +kernel
theorem dX4_tellAlone_123 : decode cX4_tellAlone 123 = .ok (.iconst 0, 1) := by decide +kernel
theorem dX4_tellAlone_124 : decode cX4_tellAlone 124 = .ok (.aload_n 3, 1) := by decide +kernel
theorem dX4_tellAlone_125 : decode cX4_tellAlone 125 = .ok (.iconst 0, 1) := by decide +kernel
theorem dX4_tellAlone_126 : decode cX4_tellAlone 126 = .ok (.iaload, 1) := by decide +kernel
theorem dX4_tellAlone_127 : decode cX4_tellAlone 127 = .ok (.aload_n 0, 1) := by decide +kernel
theorem dX4_tellAlone_128 : decode cX4_tellAlone 128 = .ok (.iload 5, 2) := by decide +kernel
theorem dX4_tellAlone_130 : decode cX4_tellAlone 130 = .ok (.invokevirtual 73, 3) := by decide +kernel
theorem dX4_tellAlone_133 : decode cX4_tellAlone 133 = .ok (.aload_n 0, 1) := by decide +kernel
theorem dX4_tellAlone_134 : decode cX4_tellAlone 134 = .ok (.iload 6, 2) := by decide +kernel
theorem dX4_tellAlone_136 : decode cX4_tellAlone 136 = .ok (.invokevirtual 73, 3) := by decide +kernel
theorem dX4_tellAlone_139 : decode cX4_tellAlone 139 = .ok (.invokestatic 179, 3) := by decide +kernel
theorem dX4_tellAlone_142 : decode cX4_tellAlone 142 = .ok (.iastore, 1) := by decide +kernel
theorem dX4_tellAlone_143 : decode cX4_tellAlone 143 = .ok (.goto 81, 3) := by decide +kernel
theorem dX4_tellAlone_146 : decode cX4_tellAlone 146 = .ok (.iload_n 2, 1) := by decide +kernel
theorem dX4_tellAlone_147 : decode cX4_tellAlone 147 = .ok (.aload_n 1, 1) := by decide +kernel
theorem dX4_tellAlone_148 : decode cX4_tellAlone 148 = .ok (.getfield 133, 3) := by decide +kernel
theorem dX4_tellAlone_151 : decode cX4_tellAlone 151 = .ok (.iconst 3, 1) := by decide +kernel
theorem dX4_tellAlone_152 : decode cX4_tellAlone 152 = .ok (.if_icmp .ne 7, 3) := by decide +kernel
theorem dX4_tellAlone_155 : decode cX4_tellAlone 155 = .ok (.iconst 1, 1) := by decide +kernel
theorem dX4_tellAlone_156 : decode cX4_tellAlone 156 = .ok (.goto 4, 3) := by decide +kernel
theorem dX4_tellAlone_159 : decode cX4_tellAlone 159 = .ok (.iconst 0, 1) := by decide +kernel
theorem dX4_tellAlone_160 : decode cX4_tellAlone 160 = .ok (.if_icmp .ne 34, 3) := by decide +kernel
theorem dX4_tellAlone_163 : decode cX4_tellAlone 163 = .ok (.aload 4, 2) := by decide +kernel
theorem dX4_tellAlone_165 : decode cX4_tellAlone 165 = .ok (.iconst 0, 1) := by decide +kernel
theorem dX4_tellAlone_166 : decode cX4_tellAlone 166 = .ok (.aload_n 3, 1) := by decide +kernel
theorem dX4_tellAlone_167 : decode cX4_tellAlone 167 = .ok (.iconst 0, 1) := by decide +kernel
theorem dX4_tellAlone_168 : decode cX4_tellAlone 168 = .ok (.iaload, 1) := by decide +kernel
theorem dX4_tellAlone_169 : decode cX4_tellAlone 169 = .ok (.aload_n 1, 1) := by decide +kernel
theorem dX4_tellAlone_170 : decode cX4_tellAlone 170 = .ok (.getfield 183, 3) := by decide +kernel
theorem dX4_tellAlone_173 : decode cX4_tellAlone 173 = .ok (.invokestatic 186, 3) := by decide +kernel
theorem dX4_tellAlone_176 : decode cX4_tellAlone 176 = .ok (.iastore, 1) := by decide +kernel
theorem dX4_tellAlone_177 : decode cX4_tellAlone 177 = .ok (.aload 4, 2) := by decide +kernel
theorem dX4_tellAlone_179 : decode cX4_tellAlone 179 = .ok (.iconst 1, 1) := by decide +kernel
theorem dX4_tellAlone_180 : decode cX4_tellAlone 180 = .ok (.aload_n 3, 1) := by decide +kernel
theorem dX4_tellAlone_181 : decode cX4_tellAlone 181 = .ok (.iconst 0, 1) := by decide +kernel
theorem dX4_tellAlone_182 : decode cX4_tellAlone 182 = .ok (.iaload, 1) := by decide +kernel
theorem dX4_tellAlone_183 : decode cX4_tellAlone 183 = .ok (.aload_n 1, 1) := by decide +kernel
theorem dX4_tellAlone_184 : decode cX4_tellAlone 184 = .ok (.getfield 183, 3) := by decide +kernel
theorem dX4_tellAlone_187 : decode cX4_tellAlone 187 = .ok (.invokestatic 189, 3) := by decide +kernel
theorem dX4_tellAlone_190 : decode cX4_tellAlone 190 = .ok (.iastore, 1) := by decide +kernel
theorem dX4_tellAlone_191 : decode cX4_tellAlone 191 = .ok (.goto 33, 3) := by decide +kernel
theorem dX4_tellAlone_194 : decode cX4_tellAlone 194 = .ok (.aload 4, 2) := by decide +kernel
theorem dX4_tellAlone_196 : decode cX4_tellAlone 196 = .ok (.iconst 0, 1) := by decide +kernel
theorem dX4_tellAlone_197 : decode cX4_tellAlone 197 = .ok (.aload_n 3, 1) := by decide +kernel
theorem dX4_tellAlone_198 : decode cX4_tellAlone 198 = .ok (.iconst 0, 1) := by decide +kernel
theorem dX4_tellAlone_199 : decode cX4_tellAlone 199 = .ok (.iaload, 1) := by decide +kernel
theorem dX4_tellAlone_200 : decode cX4_tellAlone 200 = .ok (.aload_n 3, 1) := by decide +kernel
theorem dX4_tellAlone_201 : decode cX4_tellAlone 201 = .ok (.iconst 1, 1) := by decide +kernel
theorem dX4_tellAlone_202 : decode cX4_tellAlone 202 = .ok (.iaload, 1) := by decide +kernel
theorem dX4_tellAlone_203 : decode cX4_tellAlone 203 = .ok (.aload_n 1, 1) := by decide +kernel
theorem dX4_tellAlone_204 : decode cX4_tellAlone 204 = .ok (.getfield 183, 3) := by decide +kernel
theorem dX4_tellAlone_207 : decode cX4_tellAlone 207 = .ok (.invokestatic 192, 3) := by decide +kernel
theorem dX4_tellAlone_210 : decode cX4_tellAlone 210 = .ok (.iastore, 1) := by decide +kernel
theorem dX4_tellAlone_211 : decode cX4_tellAlone 211 = .ok (.goto 13, 3) := by decide +kernel
theorem dX4_tellAlone_214 : decode cX4_tellAlone 214 = .ok (.aload 4, 2) := by decide +kernel
theorem dX4_tellAlone_216 : decode cX4_tellAlone 216 = .ok (.iconst 0, 1) := by decide +kernel
theorem dX4_tellAlone_217 : decode cX4_tellAlone 217 = .ok (.aload_n 3, 1) := by decide +kernel
theorem dX4_tellAlone_218 : decode cX4_tellAlone 218 = .ok (.iconst 0, 1) := by decide +kernel
theorem dX4_tellAlone_219 : decode cX4_tellAlone 219 = .ok (.iaload, 1) := by decide +kernel
theorem dX4_tellAlone_220 : decode cX4_tellAlone 220 = .ok (.iastore, 1) := by decide +kernel
theorem dX4_tellAlone_221 : decode cX4_tellAlone 221 = .ok (.goto 3, 3) := by decide +kernel
theorem dX4_tellAlone_224 : decode cX4_tellAlone 224 = .ok (.return_, 1) := by decide +kernel
theorem dX5_init_0 : decode cX5_init 0 = .ok (.aload_n 0, 1) := by decide +kernel
theorem dX5_init_1 : decode cX5_init 1 = .ok (.invokespecial 3, 3) := by decide +kernel
theorem dX5_init_4 : decode cX5_init 4 = .ok (.aload_n 0, 1) := by decide +kernel
theorem dX5_init_5 : decode cX5_init 5 = .ok (.bipush 46, 2) := by decide +kernel
theorem dX5_init_7 : decode cX5_init 7 = .ok (.newarray .int, 2) := by decide +kernel
theorem dX5_init_9 : decode cX5_init 9 = .ok (.putfield 9, 3) := by decide +kernel
theorem dX5_init_12 : decode cX5_init 12 = .ok (.aload_n 0, 1) := by decide +kernel
theorem dX5_init_13 : decode cX5_init 13 = .ok (.bipush 48, 2) := by decide +kernel
theorem dX5_init_15 : decode cX5_init 15 = .ok (.newarray .boolean, 2) := by decide +kernel
theorem dX5_init_17 : decode cX5_init 17 = .ok (.putfield 15, 3) := by decide +kernel
theorem dX5_init_20 : decode cX5_init 20 = .ok (.aload_n 0, 1) := by decide +kernel
theorem dX5_init_21 : decode cX5_init 21 = .ok (.bipush 96, 2) := by decide +kernel
theorem dX5_init_23 : decode cX5_init 23 = .ok (.newarray .int, 2) := by decide +kernel
theorem dX5_init_25 : decode cX5_init 25 = .ok (.putfield 19, 3) := by decide +kernel
theorem dX5_init_28 : decode cX5_init 28 = .ok (.iconst 0, 1) := by decide +kernel
theorem dX5_init_29 : decode cX5_init 29 = .ok (.istore_n 1, 1) := by decide +kernel
theorem dX5_init_30 : decode cX5_init 30 = .ok (.iload_n 1, 1) := by decide +kernel
theorem dX5_init_31 : decode cX5_init 31 = .ok (.bipush 46, 2) := by decide +kernel
theorem dX5_init_33 : decode cX5_init 33 = .ok (.if_icmp .ge 16, 3) := by decide +kernel
theorem dX5_init_36 : decode cX5_init 36 = .ok (.aload_n 0, 1) := by decide +kernel
theorem dX5_init_37 : decode cX5_init 37 = .ok (.getfield 9, 3) := by decide +kernel
theorem dX5_init_40 : decode cX5_init 40 = .ok (.iload_n 1, 1) := by decide +kernel
theorem dX5_init_41 : decode cX5_init 41 = .ok (.iconst (-1), 1) := by decide +kernel
theorem dX5_init_42 : decode cX5_init 42 = .ok (.iastore, 1) := by decide +kernel
theorem dX5_init_43 : decode cX5_init 43 = .ok (.iinc 1 1, 3) := by decide +kernel
theorem dX5_init_46 : decode cX5_init 46 = .ok (.goto (-16), 3) := by decide +kernel
theorem dX5_init_49 : decode cX5_init 49 = .ok (.return_, 1) := by decide +kernel
theorem dX5_copyFrom_0 : decode cX5_copyFrom 0 = .ok (.aload_n 0, 1) := by decide +kernel
theorem dX5_copyFrom_1 : decode cX5_copyFrom 1 = .ok (.aload_n 1, 1) := by decide +kernel
theorem dX5_copyFrom_2 : decode cX5_copyFrom 2 = .ok (.getfield 22, 3) := by decide +kernel
theorem dX5_copyFrom_5 : decode cX5_copyFrom 5 = .ok (.putfield 22, 3) := by decide +kernel
theorem dX5_copyFrom_8 : decode cX5_copyFrom 8 = .ok (.aload_n 0, 1) := by decide +kernel
theorem dX5_copyFrom_9 : decode cX5_copyFrom 9 = .ok (.aload_n 1, 1) := by decide +kernel
theorem dX5_copyFrom_10 : decode cX5_copyFrom 10 = .ok (.getfield 26, 3) := by decide +kernel
theorem dX5_copyFrom_13 : decode cX5_copyFrom 13 = .ok (.putfield 26, 3) := by decide +kernel
theorem dX5_copyFrom_16 : decode cX5_copyFrom 16 = .ok (.aload_n 1, 1) := by decide +kernel
theorem dX5_copyFrom_17 : decode cX5_copyFrom 17 = .ok (.getfield 9, 3) := by decide +kernel
theorem dX5_copyFrom_20 : decode cX5_copyFrom 20 = .ok (.iconst 0, 1) := by decide +kernel
theorem dX5_copyFrom_21 : decode cX5_copyFrom 21 = .ok (.aload_n 0, 1) := by decide +kernel
theorem dX5_copyFrom_22 : decode cX5_copyFrom 22 = .ok (.getfield 9, 3) := by decide +kernel
theorem dX5_copyFrom_25 : decode cX5_copyFrom 25 = .ok (.iconst 0, 1) := by decide +kernel
theorem dX5_copyFrom_26 : decode cX5_copyFrom 26 = .ok (.aload_n 0, 1) := by decide +kernel
theorem dX5_copyFrom_27 : decode cX5_copyFrom 27 = .ok (.getfield 9, 3) := by decide +kernel
theorem dX5_copyFrom_30 : decode cX5_copyFrom 30 = .ok (.arraylength, 1) := by decide +kernel
theorem dX5_copyFrom_31 : decode cX5_copyFrom 31 = .ok (.invokestatic 29, 3) := by decide +kernel
theorem dX5_copyFrom_34 : decode cX5_copyFrom 34 = .ok (.aload_n 1, 1) := by decide +kernel
theorem dX5_copyFrom_35 : decode cX5_copyFrom 35 = .ok (.getfield 15, 3) := by decide +kernel
theorem dX5_copyFrom_38 : decode cX5_copyFrom 38 = .ok (.iconst 0, 1) := by decide +kernel
theorem dX5_copyFrom_39 : decode cX5_copyFrom 39 = .ok (.aload_n 0, 1) := by decide +kernel
theorem dX5_copyFrom_40 : decode cX5_copyFrom 40 = .ok (.getfield 15, 3) := by decide +kernel
theorem dX5_copyFrom_43 : decode cX5_copyFrom 43 = .ok (.iconst 0, 1) := by decide +kernel
theorem dX5_copyFrom_44 : decode cX5_copyFrom 44 = .ok (.aload_n 0, 1) := by decide +kernel
theorem dX5_copyFrom_45 : decode cX5_copyFrom 45 = .ok (.getfield 15, 3) := by decide +kernel
theorem dX5_copyFrom_48 : decode cX5_copyFrom 48 = .ok (.arraylength, 1) := by decide +kernel
theorem dX5_copyFrom_49 : decode cX5_copyFrom 49 = .ok (.invokestatic 29, 3) := by decide +kernel
theorem dX5_copyFrom_52 : decode cX5_copyFrom 52 = .ok (.aload_n 1, 1) := by decide +kernel
theorem dX5_copyFrom_53 : decode cX5_copyFrom 53 = .ok (.getfield 19, 3) := by decide +kernel
theorem dX5_copyFrom_56 : decode cX5_copyFrom 56 = .ok (.iconst 0, 1) := by decide +kernel
theorem dX5_copyFrom_57 : decode cX5_copyFrom 57 = .ok (.aload_n 0, 1) := by decide +kernel
theorem dX5_copyFrom_58 : decode cX5_copyFrom 58 = .ok (.getfield 19, 3) := by decide +kernel
theorem dX5_copyFrom_61 : decode cX5_copyFrom 61 = .ok (.iconst 0, 1) := by decide +kernel
theorem dX5_copyFrom_62 : decode cX5_copyFrom 62 = .ok (.aload_n 0, 1) := by decide +kernel
theorem dX5_copyFrom_63 : decode cX5_copyFrom 63 = .ok (.getfield 19, 3) := by decide +kernel
theorem dX5_copyFrom_66 : decode cX5_copyFrom 66 = .ok (.arraylength, 1) := by decide +kernel
theorem dX5_copyFrom_67 : decode cX5_copyFrom 67 = .ok (.invokestatic 29, 3) := by decide +kernel
theorem dX5_copyFrom_70 : decode cX5_copyFrom 70 = .ok (.return_, 1) := by decide +kernel
theorem dX5_valueOf_0 : decode cX5_valueOf 0 = .ok (.iload_n 1, 1) := by decide +kernel
theorem dX5_valueOf_1 : decode cX5_valueOf 1 = .ok (.ifCond .lt 18, 3) := by decide +kernel
theorem dX5_valueOf_4 : decode cX5_valueOf 4 = .ok (.iload_n 1, 1) := by decide +kernel
theorem dX5_valueOf_5 : decode cX5_valueOf 5 = .ok (.bipush 46, 2) := by decide +kernel
theorem dX5_valueOf_7 : decode cX5_valueOf 7 = .ok (.if_icmp .ge 12, 3) := by decide +kernel
theorem dX5_valueOf_10 : decode cX5_valueOf 10 = .ok (.aload_n 0, 1) := by decide +kernel
theorem dX5_valueOf_11 : decode cX5_valueOf 11 = .ok (.getfield 9, 3) := by decide +kernel
theorem dX5_valueOf_14 : decode cX5_valueOf 14 = .ok (.iload_n 1, 1) := by decide +kernel
theorem dX5_valueOf_15 : decode cX5_valueOf 15 = .ok (.iaload, 1) := by decide +kernel
theorem dX5_valueOf_16 : decode cX5_valueOf 16 = .ok (.goto 4, 3) := by decide +kernel
theorem dX5_valueOf_19 : decode cX5_valueOf 19 = .ok (.iconst (-1), 1) := by decide +kernel
theorem dX5_valueOf_20 : decode cX5_valueOf 20 = .ok (.ireturn, 1) := by decide +kernel
theorem dX5_put_0 : decode cX5_put 0 = .ok (.iload_n 1, 1) := by decide +kernel
theorem dX5_put_1 : decode cX5_put 1 = .ok (.ifCond .lt 16, 3) := by decide +kernel
theorem dX5_put_4 : decode cX5_put 4 = .ok (.iload_n 1, 1) := by decide +kernel
theorem dX5_put_5 : decode cX5_put 5 = .ok (.bipush 46, 2) := by decide +kernel
theorem dX5_put_7 : decode cX5_put 7 = .ok (.if_icmp .ge 10, 3) := by decide +kernel
theorem dX5_put_10 : decode cX5_put 10 = .ok (.aload_n 0, 1) := by decide +kernel
theorem dX5_put_11 : decode cX5_put 11 = .ok (.getfield 9, 3) := by decide +kernel
theorem dX5_put_14 : decode cX5_put 14 = .ok (.iload_n 1, 1) := by decide +kernel
theorem dX5_put_15 : decode cX5_put 15 = .ok (.iload_n 2, 1) := by decide +kernel
theorem dX5_put_16 : decode cX5_put 16 = .ok (.iastore, 1) := by decide +kernel
theorem dX5_put_17 : decode cX5_put 17 = .ok (.return_, 1) := by decide +kernel
theorem dX5_boxEntries_0 : decode cX5_boxEntries 0 = .ok (.iconst 0, 1) := by decide +kernel
theorem dX5_boxEntries_1 : decode cX5_boxEntries 1 = .ok (.istore_n 1, 1) := by decide +kernel
theorem dX5_boxEntries_2 : decode cX5_boxEntries 2 = .ok (.iconst 0, 1) := by decide +kernel
theorem dX5_boxEntries_3 : decode cX5_boxEntries 3 = .ok (.istore_n 2, 1) := by decide +kernel
theorem dX5_boxEntries_4 : decode cX5_boxEntries 4 = .ok (.iload_n 2, 1) := by decide +kernel
theorem dX5_boxEntries_5 : decode cX5_boxEntries 5 = .ok (.aload_n 0, 1) := by decide +kernel
theorem dX5_boxEntries_6 : decode cX5_boxEntries 6 = .ok (.getfield 15, 3) := by decide +kernel
theorem dX5_boxEntries_9 : decode cX5_boxEntries 9 = .ok (.arraylength, 1) := by decide +kernel
theorem dX5_boxEntries_10 : decode cX5_boxEntries 10 = .ok (.if_icmp .ge 26, 3) := by decide +kernel
theorem dX5_boxEntries_13 : decode cX5_boxEntries 13 = .ok (.iload_n 1, 1) := by decide +kernel
theorem dX5_boxEntries_14 : decode cX5_boxEntries 14 = .ok (.aload_n 0, 1) := by decide +kernel
theorem dX5_boxEntries_15 : decode cX5_boxEntries 15 = .ok (.getfield 15, 3) := by decide +kernel
theorem dX5_boxEntries_18 : decode cX5_boxEntries 18 = .ok (.iload_n 2, 1) := by decide +kernel
theorem dX5_boxEntries_19 : decode cX5_boxEntries 19 = .ok (.baload, 1) := by decide +kernel
theorem dX5_boxEntries_20 : decode cX5_boxEntries 20 = .ok (.ifCond .eq 7, 3) := by decide +kernel
theorem dX5_boxEntries_23 : decode cX5_boxEntries 23 = .ok (.iconst 1, 1) := by decide +kernel
theorem dX5_boxEntries_24 : decode cX5_boxEntries 24 = .ok (.goto 4, 3) := by decide +kernel
theorem dX5_boxEntries_27 : decode cX5_boxEntries 27 = .ok (.iconst 0, 1) := by decide +kernel
theorem dX5_boxEntries_28 : decode cX5_boxEntries 28 = .ok (.iadd, 1) := by decide +kernel
theorem dX5_boxEntries_29 : decode cX5_boxEntries 29 = .ok (.istore_n 1, 1) := by decide +kernel
theorem dX5_boxEntries_30 : decode cX5_boxEntries 30 = .ok (.iinc 2 1, 3) := by decide +kernel
theorem dX5_boxEntries_33 : decode cX5_boxEntries 33 = .ok (.goto (-29), 3) := by decide +kernel
theorem dX5_boxEntries_36 : decode cX5_boxEntries 36 = .ok (.iload_n 1, 1) := by decide +kernel
theorem dX5_boxEntries_37 : decode cX5_boxEntries 37 = .ok (.ireturn, 1) := by decide +kernel
theorem dX5_takeOut_0 : decode cX5_takeOut 0 = .ok (.iconst 2, 1) := by decide +kernel
theorem dX5_takeOut_1 : decode cX5_takeOut 1 = .ok (.iload_n 1, 1) := by decide +kernel
theorem dX5_takeOut_2 : decode cX5_takeOut 2 = .ok (.imul, 1) := by decide +kernel
theorem dX5_takeOut_3 : decode cX5_takeOut 3 = .ok (.iload_n 2, 1) := by decide +kernel
theorem dX5_takeOut_4 : decode cX5_takeOut 4 = .ok (.iadd, 1) := by decide +kernel
theorem dX5_takeOut_5 : decode cX5_takeOut 5 = .ok (.istore 4, 2) := by decide +kernel
theorem dX5_takeOut_7 : decode cX5_takeOut 7 = .ok (.iload 4, 2) := by decide +kernel
theorem dX5_takeOut_9 : decode cX5_takeOut 9 = .ok (.ifCond .lt 23, 3) := by decide +kernel
theorem dX5_takeOut_12 : decode cX5_takeOut 12 = .ok (.iload 4, 2) := by decide +kernel
theorem dX5_takeOut_14 : decode cX5_takeOut 14 = .ok (.aload_n 0, 1) := by decide +kernel
theorem dX5_takeOut_15 : decode cX5_takeOut 15 = .ok (.getfield 15, 3) := by decide +kernel
theorem dX5_takeOut_18 : decode cX5_takeOut 18 = .ok (.arraylength, 1) := by decide +kernel
theorem dX5_takeOut_19 : decode cX5_takeOut 19 = .ok (.if_icmp .ge 13, 3) := by decide +kernel
theorem dX5_takeOut_22 : decode cX5_takeOut 22 = .ok (.aload_n 0, 1) := by decide +kernel
theorem dX5_takeOut_23 : decode cX5_takeOut 23 = .ok (.getfield 15, 3) := by decide +kernel
theorem dX5_takeOut_26 : decode cX5_takeOut 26 = .ok (.iload 4, 2) := by decide +kernel
theorem dX5_takeOut_28 : decode cX5_takeOut 28 = .ok (.baload, 1) := by decide +kernel
theorem dX5_takeOut_29 : decode cX5_takeOut 29 = .ok (.ifCond .ne 5, 3) := by decide +kernel
theorem dX5_takeOut_32 : decode cX5_takeOut 32 = .ok (.iconst 0, 1) := by decide +kernel
theorem dX5_takeOut_33 : decode cX5_takeOut 33 = .ok (.ireturn, 1) := by decide +kernel
theorem dX5_takeOut_34 : decode cX5_takeOut 34 = .ok (.aload_n 0, 1) := by decide +kernel
theorem dX5_takeOut_35 : decode cX5_takeOut 35 = .ok (.getfield 15, 3) := by decide +kernel
theorem dX5_takeOut_38 : decode cX5_takeOut 38 = .ok (.iload 4, 2) := by decide +kernel
theorem dX5_takeOut_40 : decode cX5_takeOut 40 = .ok (.iconst 0, 1) := by decide +kernel
theorem dX5_takeOut_41 : decode cX5_takeOut 41 = .ok (.bastore, 1) := by decide +kernel
theorem dX5_takeOut_42 : decode cX5_takeOut 42 = .ok (.aload_n 3, 1) := by decide +kernel
theorem dX5_takeOut_43 : decode cX5_takeOut 43 = .ok (.iconst 0, 1) := by decide +kernel
theorem dX5_takeOut_44 : decode cX5_takeOut 44 = .ok (.aload_n 0, 1) := by decide +kernel
theorem dX5_takeOut_45 : decode cX5_takeOut 45 = .ok (.getfield 19, 3) := by decide +kernel
theorem dX5_takeOut_48 : decode cX5_takeOut 48 = .ok (.iconst 2, 1) := by decide +kernel
theorem dX5_takeOut_49 : decode cX5_takeOut 49 = .ok (.iload 4, 2) := by decide +kernel
theorem dX5_takeOut_51 : decode cX5_takeOut 51 = .ok (.imul, 1) := by decide +kernel
theorem dX5_takeOut_52 : decode cX5_takeOut 52 = .ok (.iaload, 1) := by decide +kernel
theorem dX5_takeOut_53 : decode cX5_takeOut 53 = .ok (.iastore, 1) := by decide +kernel
theorem dX5_takeOut_54 : decode cX5_takeOut 54 = .ok (.aload_n 3, 1) := by decide +kernel
theorem dX5_takeOut_55 : decode cX5_takeOut 55 = .ok (.iconst 1, 1) := by decide +kernel
theorem dX5_takeOut_56 : decode cX5_takeOut 56 = .ok (.aload_n 0, 1) := by decide +kernel
theorem dX5_takeOut_57 : decode cX5_takeOut 57 = .ok (.getfield 19, 3) := by decide +kernel
theorem dX5_takeOut_60 : decode cX5_takeOut 60 = .ok (.iconst 2, 1) := by decide +kernel
theorem dX5_takeOut_61 : decode cX5_takeOut 61 = .ok (.iload 4, 2) := by decide +kernel
theorem dX5_takeOut_63 : decode cX5_takeOut 63 = .ok (.imul, 1) := by decide +kernel
theorem dX5_takeOut_64 : decode cX5_takeOut 64 = .ok (.iconst 1, 1) := by decide +kernel
theorem dX5_takeOut_65 : decode cX5_takeOut 65 = .ok (.iadd, 1) := by decide +kernel
theorem dX5_takeOut_66 : decode cX5_takeOut 66 = .ok (.iaload, 1) := by decide +kernel
theorem dX5_takeOut_67 : decode cX5_takeOut 67 = .ok (.iastore, 1) := by decide +kernel
theorem dX5_takeOut_68 : decode cX5_takeOut 68 = .ok (.iconst 1, 1) := by decide +kernel
theorem dX5_takeOut_69 : decode cX5_takeOut 69 = .ok (.ireturn, 1) := by decide +kernel
theorem dX5_putAway_0 : decode cX5_putAway 0 = .ok (.iconst 2, 1) := by decide +kernel
theorem dX5_putAway_1 : decode cX5_putAway 1 = .ok (.iload_n 1, 1) := by decide +kernel
theorem dX5_putAway_2 : decode cX5_putAway 2 = .ok (.imul, 1) := by decide +kernel
theorem dX5_putAway_3 : decode cX5_putAway 3 = .ok (.iload_n 2, 1) := by decide +kernel
theorem dX5_putAway_4 : decode cX5_putAway 4 = .ok (.iadd, 1) := by decide +kernel
theorem dX5_putAway_5 : decode cX5_putAway 5 = .ok (.istore 4, 2) := by decide +kernel
theorem dX5_putAway_7 : decode cX5_putAway 7 = .ok (.iload 4, 2) := by decide +kernel
theorem dX5_putAway_9 : decode cX5_putAway 9 = .ok (.ifCond .lt 47, 3) := by decide +kernel
theorem dX5_putAway_12 : decode cX5_putAway 12 = .ok (.iload 4, 2) := by decide +kernel
theorem dX5_putAway_14 : decode cX5_putAway 14 = .ok (.aload_n 0, 1) := by decide +kernel
theorem dX5_putAway_15 : decode cX5_putAway 15 = .ok (.getfield 15, 3) := by decide +kernel
theorem dX5_putAway_18 : decode cX5_putAway 18 = .ok (.arraylength, 1) := by decide +kernel
theorem dX5_putAway_19 : decode cX5_putAway 19 = .ok (.if_icmp .ge 37, 3) := by decide +kernel
theorem dX5_putAway_22 : decode cX5_putAway 22 = .ok (.aload_n 0, 1) := by decide +kernel
theorem dX5_putAway_23 : decode cX5_putAway 23 = .ok (.getfield 15, 3) := by decide +kernel
theorem dX5_putAway_26 : decode cX5_putAway 26 = .ok (.iload 4, 2) := by decide +kernel
theorem dX5_putAway_28 : decode cX5_putAway 28 = .ok (.iconst 1, 1) := by decide +kernel
theorem dX5_putAway_29 : decode cX5_putAway 29 = .ok (.bastore, 1) := by decide +kernel
theorem dX5_putAway_30 : decode cX5_putAway 30 = .ok (.aload_n 0, 1) := by decide +kernel
theorem dX5_putAway_31 : decode cX5_putAway 31 = .ok (.getfield 19, 3) := by decide +kernel
theorem dX5_putAway_34 : decode cX5_putAway 34 = .ok (.iconst 2, 1) := by decide +kernel
theorem dX5_putAway_35 : decode cX5_putAway 35 = .ok (.iload 4, 2) := by decide +kernel
theorem dX5_putAway_37 : decode cX5_putAway 37 = .ok (.imul, 1) := by decide +kernel
theorem dX5_putAway_38 : decode cX5_putAway 38 = .ok (.aload_n 3, 1) := by decide +kernel
theorem dX5_putAway_39 : decode cX5_putAway 39 = .ok (.iconst 0, 1) := by decide +kernel
theorem dX5_putAway_40 : decode cX5_putAway 40 = .ok (.iaload, 1) := by decide +kernel
theorem dX5_putAway_41 : decode cX5_putAway 41 = .ok (.iastore, 1) := by decide +kernel
theorem dX5_putAway_42 : decode cX5_putAway 42 = .ok (.aload_n 0, 1) := by decide +kernel
theorem dX5_putAway_43 : decode cX5_putAway 43 = .ok (.getfield 19, 3) := by decide +kernel
theorem dX5_putAway_46 : decode cX5_putAway 46 = .ok (.iconst 2, 1) := by decide +kernel
theorem dX5_putAway_47 : decode cX5_putAway 47 = .ok (.iload 4, 2) := by decide +kernel
theorem dX5_putAway_49 : decode cX5_putAway 49 = .ok (.imul, 1) := by decide +kernel
theorem dX5_putAway_50 : decode cX5_putAway 50 = .ok (.iconst 1, 1) := by decide +kernel
theorem dX5_putAway_51 : decode cX5_putAway 51 = .ok (.iadd, 1) := by decide +kernel
theorem dX5_putAway_52 : decode cX5_putAway 52 = .ok (.aload_n 3, 1) := by decide +kernel
theorem dX5_putAway_53 : decode cX5_putAway 53 = .ok (.iconst 1, 1) := by decide +kernel
theorem dX5_putAway_54 : decode cX5_putAway 54 = .ok (.iaload, 1) := by decide +kernel
theorem dX5_putAway_55 : decode cX5_putAway 55 = .ok (.iastore, 1) := by decide +kernel
theorem dX5_putAway_56 : decode cX5_putAway 56 = .ok (.return_, 1) := by decide +kernel
theorem dX6_init_0 : decode cX6_init 0 = .ok (.aload_n 0, 1) := by decide +kernel
theorem dX6_init_1 : decode cX6_init 1 = .ok (.invokespecial 3, 3) := by decide +kernel
theorem dX6_init_4 : decode cX6_init 4 = .ok (.aload_n 0, 1) := by decide +kernel
theorem dX6_init_5 : decode cX6_init 5 = .ok (.iload_n 1, 1) := by decide +kernel
theorem dX6_init_6 : decode cX6_init 6 = .ok (.putfield 9, 3) := by decide +kernel
theorem dX6_init_9 : decode cX6_init 9 = .ok (.aload_n 0, 1) := by decide +kernel
theorem dX6_init_10 : decode cX6_init 10 = .ok (.iconst 2, 1) := by decide +kernel
theorem dX6_init_11 : decode cX6_init 11 = .ok (.newarray .int, 2) := by decide +kernel
theorem dX6_init_13 : decode cX6_init 13 = .ok (.dup, 1) := by decide +kernel
theorem dX6_init_14 : decode cX6_init 14 = .ok (.iconst 0, 1) := by decide +kernel
theorem dX6_init_15 : decode cX6_init 15 = .ok (.iload_n 2, 1) := by decide +kernel
theorem dX6_init_16 : decode cX6_init 16 = .ok (.iastore, 1) := by decide +kernel
theorem dX6_init_17 : decode cX6_init 17 = .ok (.dup, 1) := by decide +kernel
theorem dX6_init_18 : decode cX6_init 18 = .ok (.iconst 1, 1) := by decide +kernel
theorem dX6_init_19 : decode cX6_init 19 = .ok (.iload_n 3, 1) := by decide +kernel
theorem dX6_init_20 : decode cX6_init 20 = .ok (.iastore, 1) := by decide +kernel
theorem dX6_init_21 : decode cX6_init 21 = .ok (.putfield 15, 3) := by decide +kernel
theorem dX6_init_24 : decode cX6_init 24 = .ok (.aload_n 0, 1) := by decide +kernel
theorem dX6_init_25 : decode cX6_init 25 = .ok (.iconst 2, 1) := by decide +kernel
theorem dX6_init_26 : decode cX6_init 26 = .ok (.newarray .int, 2) := by decide +kernel
theorem dX6_init_28 : decode cX6_init 28 = .ok (.dup, 1) := by decide +kernel
theorem dX6_init_29 : decode cX6_init 29 = .ok (.iconst 0, 1) := by decide +kernel
theorem dX6_init_30 : decode cX6_init 30 = .ok (.iload 4, 2) := by decide +kernel
theorem dX6_init_32 : decode cX6_init 32 = .ok (.iastore, 1) := by decide +kernel
theorem dX6_init_33 : decode cX6_init 33 = .ok (.dup, 1) := by decide +kernel
theorem dX6_init_34 : decode cX6_init 34 = .ok (.iconst 1, 1) := by decide +kernel
theorem dX6_init_35 : decode cX6_init 35 = .ok (.iload 5, 2) := by decide +kernel
theorem dX6_init_37 : decode cX6_init 37 = .ok (.iastore, 1) := by decide +kernel
theorem dX6_init_38 : decode cX6_init 38 = .ok (.putfield 19, 3) := by decide +kernel
theorem dX6_init_41 : decode cX6_init 41 = .ok (.aload_n 0, 1) := by decide +kernel
theorem dX6_init_42 : decode cX6_init 42 = .ok (.iload 6, 2) := by decide +kernel
theorem dX6_init_44 : decode cX6_init 44 = .ok (.putfield 22, 3) := by decide +kernel
theorem dX6_init_47 : decode cX6_init 47 = .ok (.return_, 1) := by decide +kernel
theorem dX6_isInFront_0 : decode cX6_isInFront 0 = .ok (.iload_n 1, 1) := by decide +kernel
theorem dX6_isInFront_1 : decode cX6_isInFront 1 = .ok (.aload_n 0, 1) := by decide +kernel
theorem dX6_isInFront_2 : decode cX6_isInFront 2 = .ok (.getfield 15, 3) := by decide +kernel
theorem dX6_isInFront_5 : decode cX6_isInFront 5 = .ok (.iconst 0, 1) := by decide +kernel
theorem dX6_isInFront_6 : decode cX6_isInFront 6 = .ok (.iaload, 1) := by decide +kernel
theorem dX6_isInFront_7 : decode cX6_isInFront 7 = .ok (.if_icmp .eq 13, 3) := by decide +kernel
theorem dX6_isInFront_10 : decode cX6_isInFront 10 = .ok (.iload_n 1, 1) := by decide +kernel
theorem dX6_isInFront_11 : decode cX6_isInFront 11 = .ok (.aload_n 0, 1) := by decide +kernel
theorem dX6_isInFront_12 : decode cX6_isInFront 12 = .ok (.getfield 15, 3) := by decide +kernel
theorem dX6_isInFront_15 : decode cX6_isInFront 15 = .ok (.iconst 1, 1) := by decide +kernel
theorem dX6_isInFront_16 : decode cX6_isInFront 16 = .ok (.iaload, 1) := by decide +kernel
theorem dX6_isInFront_17 : decode cX6_isInFront 17 = .ok (.if_icmp .ne 7, 3) := by decide +kernel
theorem dX6_isInFront_20 : decode cX6_isInFront 20 = .ok (.iconst 1, 1) := by decide +kernel
theorem dX6_isInFront_21 : decode cX6_isInFront 21 = .ok (.goto 4, 3) := by decide +kernel
theorem dX6_isInFront_24 : decode cX6_isInFront 24 = .ok (.iconst 0, 1) := by decide +kernel
theorem dX6_isInFront_25 : decode cX6_isInFront 25 = .ok (.ireturn, 1) := by decide +kernel
theorem dX6_frontFields_0 : decode cX6_frontFields 0 = .ok (.aload_n 0, 1) := by decide +kernel
theorem dX6_frontFields_1 : decode cX6_frontFields 1 = .ok (.getfield 15, 3) := by decide +kernel
theorem dX6_frontFields_4 : decode cX6_frontFields 4 = .ok (.invokestatic 25, 3) := by decide +kernel
theorem dX6_frontFields_7 : decode cX6_frontFields 7 = .ok (.lreturn, 1) := by decide +kernel
theorem dX6_behindFields_0 : decode cX6_behindFields 0 = .ok (.aload_n 0, 1) := by decide +kernel
theorem dX6_behindFields_1 : decode cX6_behindFields 1 = .ok (.getfield 19, 3) := by decide +kernel
theorem dX6_behindFields_4 : decode cX6_behindFields 4 = .ok (.invokestatic 25, 3) := by decide +kernel
theorem dX6_behindFields_7 : decode cX6_behindFields 7 = .ok (.lreturn, 1) := by decide +kernel
theorem dX6_together_0 : decode cX6_together 0 = .ok (.lconst 0, 1) := by decide +kernel
theorem dX6_together_1 : decode cX6_together 1 = .ok (.lstore_n 1, 1) := by decide +kernel
theorem dX6_together_2 : decode cX6_together 2 = .ok (.iconst 0, 1) := by decide +kernel
theorem dX6_together_3 : decode cX6_together 3 = .ok (.istore_n 3, 1) := by decide +kernel
theorem dX6_together_4 : decode cX6_together 4 = .ok (.iload_n 3, 1) := by decide +kernel
theorem dX6_together_5 : decode cX6_together 5 = .ok (.aload_n 0, 1) := by decide +kernel
theorem dX6_together_6 : decode cX6_together 6 = .ok (.arraylength, 1) := by decide +kernel
theorem dX6_together_7 : decode cX6_together 7 = .ok (.if_icmp .ge 25, 3) := by decide +kernel
theorem dX6_together_10 : decode cX6_together 10 = .ok (.aload_n 0, 1) := by decide +kernel
theorem dX6_together_11 : decode cX6_together 11 = .ok (.iload_n 3, 1) := by decide +kernel
theorem dX6_together_12 : decode cX6_together 12 = .ok (.iaload, 1) := by decide +kernel
theorem dX6_together_13 : decode cX6_together 13 = .ok (.iconst (-1), 1) := by decide +kernel
theorem dX6_together_14 : decode cX6_together 14 = .ok (.if_icmp .eq 12, 3) := by decide +kernel
theorem dX6_together_17 : decode cX6_together 17 = .ok (.lload_n 1, 1) := by decide +kernel
theorem dX6_together_18 : decode cX6_together 18 = .ok (.aload_n 0, 1) := by decide +kernel
theorem dX6_together_19 : decode cX6_together 19 = .ok (.iload_n 3, 1) := by decide +kernel
theorem dX6_together_20 : decode cX6_together 20 = .ok (.iaload, 1) := by decide +kernel
theorem dX6_together_21 : decode cX6_together 21 = .ok (.invokestatic 29, 3) := by decide +kernel
theorem dX6_together_24 : decode cX6_together 24 = .ok (.lor, 1) := by decide +kernel
theorem dX6_together_25 : decode cX6_together 25 = .ok (.lstore_n 1, 1) := by decide +kernel
theorem dX6_together_26 : decode cX6_together 26 = .ok (.iinc 3 1, 3) := by decide +kernel
theorem dX6_together_29 : decode cX6_together 29 = .ok (.goto (-25), 3) := by decide +kernel
theorem dX6_together_32 : decode cX6_together 32 = .ok (.lload_n 1, 1) := by decide +kernel
theorem dX6_together_33 : decode cX6_together 33 = .ok (.lreturn, 1) := by decide +kernel
theorem dX7_init_0 : decode cX7_init 0 = .ok (.aload_n 0, 1) := by decide +kernel
theorem dX7_init_1 : decode cX7_init 1 = .ok (.invokespecial 3, 3) := by decide +kernel
theorem dX7_init_4 : decode cX7_init 4 = .ok (.aload_n 0, 1) := by decide +kernel
theorem dX7_init_5 : decode cX7_init 5 = .ok (.iconst 4, 1) := by decide +kernel
theorem dX7_init_6 : decode cX7_init 6 = .ok (.anewarray 9, 3) := by decide +kernel
theorem dX7_init_9 : decode cX7_init 9 = .ok (.putfield 11, 3) := by decide +kernel
theorem dX7_init_12 : decode cX7_init 12 = .ok (.aload_n 0, 1) := by decide +kernel
theorem dX7_init_13 : decode cX7_init 13 = .ok (.bipush 8, 2) := by decide +kernel
theorem dX7_init_15 : decode cX7_init 15 = .ok (.anewarray 15, 3) := by decide +kernel
theorem dX7_init_18 : decode cX7_init 18 = .ok (.putfield 17, 3) := by decide +kernel
theorem dX7_init_21 : decode cX7_init 21 = .ok (.aload_n 0, 1) := by decide +kernel
theorem dX7_init_22 : decode cX7_init 22 = .ok (.bipush 20, 2) := by decide +kernel
theorem dX7_init_24 : decode cX7_init 24 = .ok (.anewarray 21, 3) := by decide +kernel
theorem dX7_init_27 : decode cX7_init 27 = .ok (.putfield 23, 3) := by decide +kernel
theorem dX7_init_30 : decode cX7_init 30 = .ok (.aload_n 0, 1) := by decide +kernel
theorem dX7_init_31 : decode cX7_init 31 = .ok (.bipush 8, 2) := by decide +kernel
theorem dX7_init_33 : decode cX7_init 33 = .ok (.anewarray 27, 3) := by decide +kernel
theorem dX7_init_36 : decode cX7_init 36 = .ok (.putfield 29, 3) := by decide +kernel
theorem dX7_init_39 : decode cX7_init 39 = .ok (.aload_n 0, 1) := by decide +kernel
theorem dX7_init_40 : decode cX7_init 40 = .ok (.sipush 512, 3) := by decide +kernel
theorem dX7_init_43 : decode cX7_init 43 = .ok (.anewarray 33, 3) := by decide +kernel
theorem dX7_init_46 : decode cX7_init 46 = .ok (.putfield 35, 3) := by decide +kernel
theorem dX7_init_49 : decode cX7_init 49 = .ok (.aload_n 0, 1) := by decide +kernel
theorem dX7_init_50 : decode cX7_init 50 = .ok (.new 39, 3) := by decide +kernel
theorem dX7_init_53 : decode cX7_init 53 = .ok (.dup, 1) := by decide +kernel
theorem dX7_init_54 : decode cX7_init 54 = .ok (.invokespecial 41, 3) := by decide +kernel
theorem dX7_init_57 : decode cX7_init 57 = .ok (.putfield 42, 3) := by decide +kernel
theorem dX7_init_60 : decode cX7_init 60 = .ok (.return_, 1) := by decide +kernel
theorem dX7_schema_0 : decode cX7_schema 0 = .ok (.aload_n 0, 1) := by decide +kernel
theorem dX7_schema_1 : decode cX7_schema 1 = .ok (.getfield 46, 3) := by decide +kernel
theorem dX7_schema_4 : decode cX7_schema 4 = .ok (.iconst 4, 1) := by decide +kernel
theorem dX7_schema_5 : decode cX7_schema 5 = .ok (.if_icmp .lt 13, 3) := by decide +kernel
theorem dX7_schema_8 : decode cX7_schema 8 = .ok (.new 50, 3) := by decide +kernel
theorem dX7_schema_11 : decode cX7_schema 11 = .ok (.dup, 1) := by decide +kernel
theorem dX7_schema_12 : decode cX7_schema 12 = .ok (.ldc 52, 2) := by decide +kernel
theorem dX7_schema_14 : decode cX7_schema 14 = .ok (.invokespecial 54, 3) := by decide +kernel
theorem dX7_schema_17 : decode cX7_schema 17 = .ok (.athrow, 1) := by decide +kernel
theorem dX7_schema_18 : decode cX7_schema 18 = .ok (.aload_n 0, 1) := by decide +kernel
theorem dX7_schema_19 : decode cX7_schema 19 = .ok (.getfield 46, 3) := by decide +kernel
theorem dX7_schema_22 : decode cX7_schema 22 = .ok (.istore_n 1, 1) := by decide +kernel
theorem dX7_schema_23 : decode cX7_schema 23 = .ok (.aload_n 0, 1) := by decide +kernel
theorem dX7_schema_24 : decode cX7_schema 24 = .ok (.getfield 11, 3) := by decide +kernel
theorem dX7_schema_27 : decode cX7_schema 27 = .ok (.iload_n 1, 1) := by decide +kernel
theorem dX7_schema_28 : decode cX7_schema 28 = .ok (.new 9, 3) := by decide +kernel
theorem dX7_schema_31 : decode cX7_schema 31 = .ok (.dup, 1) := by decide +kernel
theorem dX7_schema_32 : decode cX7_schema 32 = .ok (.invokespecial 57, 3) := by decide +kernel
theorem dX7_schema_35 : decode cX7_schema 35 = .ok (.aastore, 1) := by decide +kernel
theorem dX7_schema_36 : decode cX7_schema 36 = .ok (.aload_n 0, 1) := by decide +kernel
theorem dX7_schema_37 : decode cX7_schema 37 = .ok (.dup, 1) := by decide +kernel
theorem dX7_schema_38 : decode cX7_schema 38 = .ok (.getfield 46, 3) := by decide +kernel
theorem dX7_schema_41 : decode cX7_schema 41 = .ok (.iconst 1, 1) := by decide +kernel
theorem dX7_schema_42 : decode cX7_schema 42 = .ok (.iadd, 1) := by decide +kernel
theorem dX7_schema_43 : decode cX7_schema 43 = .ok (.putfield 46, 3) := by decide +kernel
theorem dX7_schema_46 : decode cX7_schema 46 = .ok (.iload_n 1, 1) := by decide +kernel
theorem dX7_schema_47 : decode cX7_schema 47 = .ok (.ireturn, 1) := by decide +kernel
theorem dX7_add_0 : decode cX7_add 0 = .ok (.aload_n 0, 1) := by decide +kernel
theorem dX7_add_1 : decode cX7_add 1 = .ok (.iload_n 1, 1) := by decide +kernel
theorem dX7_add_2 : decode cX7_add 2 = .ok (.invokevirtual 58, 3) := by decide +kernel
theorem dX7_add_5 : decode cX7_add 5 = .ok (.astore 6, 2) := by decide +kernel
theorem dX7_add_7 : decode cX7_add 7 = .ok (.iload_n 2, 1) := by decide +kernel
theorem dX7_add_8 : decode cX7_add 8 = .ok (.invokestatic 62, 3) := by decide +kernel
theorem dX7_add_11 : decode cX7_add 11 = .ok (.ifCond .eq 12, 3) := by decide +kernel
theorem dX7_add_14 : decode cX7_add 14 = .ok (.iload_n 3, 1) := by decide +kernel
theorem dX7_add_15 : decode cX7_add 15 = .ok (.iload 4, 2) := by decide +kernel
theorem dX7_add_17 : decode cX7_add 17 = .ok (.invokestatic 66, 3) := by decide +kernel
theorem dX7_add_20 : decode cX7_add 20 = .ok (.ifCond .ne 13, 3) := by decide +kernel
theorem dX7_add_23 : decode cX7_add 23 = .ok (.new 70, 3) := by decide +kernel
theorem dX7_add_26 : decode cX7_add 26 = .ok (.dup, 1) := by decide +kernel
theorem dX7_add_27 : decode cX7_add 27 = .ok (.ldc 72, 2) := by decide +kernel
theorem dX7_add_29 : decode cX7_add 29 = .ok (.invokespecial 74, 3) := by decide +kernel
theorem dX7_add_32 : decode cX7_add 32 = .ok (.athrow, 1) := by decide +kernel
theorem dX7_add_33 : decode cX7_add 33 = .ok (.aload 6, 2) := by decide +kernel
theorem dX7_add_35 : decode cX7_add 35 = .ok (.aload 6, 2) := by decide +kernel
theorem dX7_add_37 : decode cX7_add 37 = .ok (.getfield 75, 3) := by decide +kernel
theorem dX7_add_40 : decode cX7_add 40 = .ok (.iload_n 2, 1) := by decide +kernel
theorem dX7_add_41 : decode cX7_add 41 = .ok (.invokevirtual 78, 3) := by decide +kernel
theorem dX7_add_44 : decode cX7_add 44 = .ok (.iconst (-1), 1) := by decide +kernel
theorem dX7_add_45 : decode cX7_add 45 = .ok (.if_icmp .ne 11, 3) := by decide +kernel
theorem dX7_add_48 : decode cX7_add 48 = .ok (.aload 6, 2) := by decide +kernel
theorem dX7_add_50 : decode cX7_add 50 = .ok (.invokevirtual 82, 3) := by decide +kernel
theorem dX7_add_53 : decode cX7_add 53 = .ok (.ifCond .eq 13, 3) := by decide +kernel
theorem dX7_add_56 : decode cX7_add 56 = .ok (.new 50, 3) := by decide +kernel
theorem dX7_add_59 : decode cX7_add 59 = .ok (.dup, 1) := by decide +kernel
theorem dX7_add_60 : decode cX7_add 60 = .ok (.ldc 86, 2) := by decide +kernel
theorem dX7_add_62 : decode cX7_add 62 = .ok (.invokespecial 54, 3) := by decide +kernel
theorem dX7_add_65 : decode cX7_add 65 = .ok (.athrow, 1) := by decide +kernel
theorem dX7_add_66 : decode cX7_add 66 = .ok (.aload 6, 2) := by decide +kernel
theorem dX7_add_68 : decode cX7_add 68 = .ok (.iload_n 3, 1) := by decide +kernel
theorem dX7_add_69 : decode cX7_add 69 = .ok (.iload 4, 2) := by decide +kernel
theorem dX7_add_71 : decode cX7_add 71 = .ok (.invokevirtual 88, 3) := by decide +kernel
theorem dX7_add_74 : decode cX7_add 74 = .ok (.istore 7, 2) := by decide +kernel
theorem dX7_add_76 : decode cX7_add 76 = .ok (.aload 6, 2) := by decide +kernel
theorem dX7_add_78 : decode cX7_add 78 = .ok (.new 91, 3) := by decide +kernel
theorem dX7_add_81 : decode cX7_add 81 = .ok (.dup, 1) := by decide +kernel
theorem dX7_add_82 : decode cX7_add 82 = .ok (.iconst 0, 1) := by decide +kernel
theorem dX7_add_83 : decode cX7_add 83 = .ok (.iconst (-1), 1) := by decide +kernel
theorem dX7_add_84 : decode cX7_add 84 = .ok (.iconst (-1), 1) := by decide +kernel
theorem dX7_add_85 : decode cX7_add 85 = .ok (.iload 7, 2) := by decide +kernel
theorem dX7_add_87 : decode cX7_add 87 = .ok (.iconst (-1), 1) := by decide +kernel
theorem dX7_add_88 : decode cX7_add 88 = .ok (.iconst 0, 1) := by decide +kernel
theorem dX7_add_89 : decode cX7_add 89 = .ok (.invokespecial 93, 3) := by decide +kernel
theorem dX7_add_92 : decode cX7_add 92 = .ok (.invokevirtual 96, 3) := by decide +kernel
theorem dX7_add_95 : decode cX7_add 95 = .ok (.aload 6, 2) := by decide +kernel
theorem dX7_add_97 : decode cX7_add 97 = .ok (.iload 7, 2) := by decide +kernel
theorem dX7_add_99 : decode cX7_add 99 = .ok (.iload_n 2, 1) := by decide +kernel
theorem dX7_add_100 : decode cX7_add 100 = .ok (.iload 5, 2) := by decide +kernel
theorem dX7_add_102 : decode cX7_add 102 = .ok (.invokevirtual 100, 3) := by decide +kernel
theorem dX7_add_105 : decode cX7_add 105 = .ok (.iload 7, 2) := by decide +kernel
theorem dX7_add_107 : decode cX7_add 107 = .ok (.ireturn, 1) := by decide +kernel
theorem dX7_rename_0 : decode cX7_rename 0 = .ok (.aload_n 0, 1) := by decide +kernel
theorem dX7_rename_1 : decode cX7_rename 1 = .ok (.iload_n 1, 1) := by decide +kernel
theorem dX7_rename_2 : decode cX7_rename 2 = .ok (.invokevirtual 58, 3) := by decide +kernel
theorem dX7_rename_5 : decode cX7_rename 5 = .ok (.astore 4, 2) := by decide +kernel
theorem dX7_rename_7 : decode cX7_rename 7 = .ok (.aload 4, 2) := by decide +kernel
theorem dX7_rename_9 : decode cX7_rename 9 = .ok (.iload_n 2, 1) := by decide +kernel
theorem dX7_rename_10 : decode cX7_rename 10 = .ok (.invokestatic 104, 3) := by decide +kernel
theorem dX7_rename_13 : decode cX7_rename 13 = .ok (.istore 5, 2) := by decide +kernel
theorem dX7_rename_15 : decode cX7_rename 15 = .ok (.iload_n 3, 1) := by decide +kernel
theorem dX7_rename_16 : decode cX7_rename 16 = .ok (.invokestatic 62, 3) := by decide +kernel
theorem dX7_rename_19 : decode cX7_rename 19 = .ok (.ifCond .ne 13, 3) := by decide +kernel
theorem dX7_rename_22 : decode cX7_rename 22 = .ok (.new 70, 3) := by decide +kernel
theorem dX7_rename_25 : decode cX7_rename 25 = .ok (.dup, 1) := by decide +kernel
theorem dX7_rename_26 : decode cX7_rename 26 = .ok (.ldc 108, 2) := by decide +kernel
theorem dX7_rename_28 : decode cX7_rename 28 = .ok (.invokespecial 74, 3) := by decide +kernel
theorem dX7_rename_31 : decode cX7_rename 31 = .ok (.athrow, 1) := by decide +kernel
theorem dX7_rename_32 : decode cX7_rename 32 = .ok (.aload 4, 2) := by decide +kernel
theorem dX7_rename_34 : decode cX7_rename 34 = .ok (.aload 4, 2) := by decide +kernel
theorem dX7_rename_36 : decode cX7_rename 36 = .ok (.getfield 75, 3) := by decide +kernel
theorem dX7_rename_39 : decode cX7_rename 39 = .ok (.iload_n 3, 1) := by decide +kernel
theorem dX7_rename_40 : decode cX7_rename 40 = .ok (.invokevirtual 78, 3) := by decide +kernel
theorem dX7_rename_43 : decode cX7_rename 43 = .ok (.iconst (-1), 1) := by decide +kernel
theorem dX7_rename_44 : decode cX7_rename 44 = .ok (.if_icmp .ne 11, 3) := by decide +kernel
theorem dX7_rename_47 : decode cX7_rename 47 = .ok (.aload 4, 2) := by decide +kernel
theorem dX7_rename_49 : decode cX7_rename 49 = .ok (.invokevirtual 82, 3) := by decide +kernel
theorem dX7_rename_52 : decode cX7_rename 52 = .ok (.ifCond .eq 13, 3) := by decide +kernel
theorem dX7_rename_55 : decode cX7_rename 55 = .ok (.new 50, 3) := by decide +kernel
theorem dX7_rename_58 : decode cX7_rename 58 = .ok (.dup, 1) := by decide +kernel
theorem dX7_rename_59 : decode cX7_rename 59 = .ok (.ldc 110, 2) := by decide +kernel
theorem dX7_rename_61 : decode cX7_rename 61 = .ok (.invokespecial 54, 3) := by decide +kernel
theorem dX7_rename_64 : decode cX7_rename 64 = .ok (.athrow, 1) := by decide +kernel
theorem dX7_rename_65 : decode cX7_rename 65 = .ok (.aload 4, 2) := by decide +kernel
theorem dX7_rename_67 : decode cX7_rename 67 = .ok (.aload 4, 2) := by decide +kernel
theorem dX7_rename_69 : decode cX7_rename 69 = .ok (.getfield 75, 3) := by decide +kernel
theorem dX7_rename_72 : decode cX7_rename 72 = .ok (.iload 5, 2) := by decide +kernel
theorem dX7_rename_74 : decode cX7_rename 74 = .ok (.invokevirtual 112, 3) := by decide +kernel
theorem dX7_rename_77 : decode cX7_rename 77 = .ok (.istore 6, 2) := by decide +kernel
theorem dX7_rename_79 : decode cX7_rename 79 = .ok (.aload 4, 2) := by decide +kernel
theorem dX7_rename_81 : decode cX7_rename 81 = .ok (.new 91, 3) := by decide +kernel
theorem dX7_rename_84 : decode cX7_rename 84 = .ok (.dup, 1) := by decide +kernel
theorem dX7_rename_85 : decode cX7_rename 85 = .ok (.iconst 1, 1) := by decide +kernel
theorem dX7_rename_86 : decode cX7_rename 86 = .ok (.iload 5, 2) := by decide +kernel
theorem dX7_rename_88 : decode cX7_rename 88 = .ok (.iconst (-1), 1) := by decide +kernel
theorem dX7_rename_89 : decode cX7_rename 89 = .ok (.iload 5, 2) := by decide +kernel
theorem dX7_rename_91 : decode cX7_rename 91 = .ok (.iconst (-1), 1) := by decide +kernel
theorem dX7_rename_92 : decode cX7_rename 92 = .ok (.iconst 0, 1) := by decide +kernel
theorem dX7_rename_93 : decode cX7_rename 93 = .ok (.invokespecial 93, 3) := by decide +kernel
theorem dX7_rename_96 : decode cX7_rename 96 = .ok (.invokevirtual 96, 3) := by decide +kernel
theorem dX7_rename_99 : decode cX7_rename 99 = .ok (.aload 4, 2) := by decide +kernel
theorem dX7_rename_101 : decode cX7_rename 101 = .ok (.iload 5, 2) := by decide +kernel
theorem dX7_rename_103 : decode cX7_rename 103 = .ok (.iload_n 3, 1) := by decide +kernel
theorem dX7_rename_104 : decode cX7_rename 104 = .ok (.iload 6, 2) := by decide +kernel
theorem dX7_rename_106 : decode cX7_rename 106 = .ok (.invokevirtual 100, 3) := by decide +kernel
theorem dX7_rename_109 : decode cX7_rename 109 = .ok (.aload 4, 2) := by decide +kernel
theorem dX7_rename_111 : decode cX7_rename 111 = .ok (.getfield 75, 3) := by decide +kernel
theorem dX7_rename_114 : decode cX7_rename 114 = .ok (.ireturn, 1) := by decide +kernel
theorem dX7_turn_0 : decode cX7_turn 0 = .ok (.aload_n 0, 1) := by decide +kernel
theorem dX7_turn_1 : decode cX7_turn 1 = .ok (.iload_n 1, 1) := by decide +kernel
theorem dX7_turn_2 : decode cX7_turn 2 = .ok (.invokevirtual 58, 3) := by decide +kernel
theorem dX7_turn_5 : decode cX7_turn 5 = .ok (.astore 4, 2) := by decide +kernel
theorem dX7_turn_7 : decode cX7_turn 7 = .ok (.aload 4, 2) := by decide +kernel
theorem dX7_turn_9 : decode cX7_turn 9 = .ok (.iload_n 2, 1) := by decide +kernel
theorem dX7_turn_10 : decode cX7_turn 10 = .ok (.invokestatic 104, 3) := by decide +kernel
theorem dX7_turn_13 : decode cX7_turn 13 = .ok (.istore 5, 2) := by decide +kernel
theorem dX7_turn_15 : decode cX7_turn 15 = .ok (.iload_n 3, 1) := by decide +kernel
theorem dX7_turn_16 : decode cX7_turn 16 = .ok (.invokestatic 115, 3) := by decide +kernel
theorem dX7_turn_19 : decode cX7_turn 19 = .ok (.ifCond .ne 13, 3) := by decide +kernel
theorem dX7_turn_22 : decode cX7_turn 22 = .ok (.new 70, 3) := by decide +kernel
theorem dX7_turn_25 : decode cX7_turn 25 = .ok (.dup, 1) := by decide +kernel
theorem dX7_turn_26 : decode cX7_turn 26 = .ok (.ldc 118, 2) := by decide +kernel
theorem dX7_turn_28 : decode cX7_turn 28 = .ok (.invokespecial 74, 3) := by decide +kernel
theorem dX7_turn_31 : decode cX7_turn 31 = .ok (.athrow, 1) := by decide +kernel
theorem dX7_turn_32 : decode cX7_turn 32 = .ok (.aload 4, 2) := by decide +kernel
theorem dX7_turn_34 : decode cX7_turn 34 = .ok (.iload 5, 2) := by decide +kernel
theorem dX7_turn_36 : decode cX7_turn 36 = .ok (.invokevirtual 120, 3) := by decide +kernel
theorem dX7_turn_39 : decode cX7_turn 39 = .ok (.istore 6, 2) := by decide +kernel
theorem dX7_turn_41 : decode cX7_turn 41 = .ok (.iload 6, 2) := by decide +kernel
theorem dX7_turn_43 : decode cX7_turn 43 = .ok (.iload_n 3, 1) := by decide +kernel
theorem dX7_turn_44 : decode cX7_turn 44 = .ok (.if_icmp .eq 21, 3) := by decide +kernel
theorem dX7_turn_47 : decode cX7_turn 47 = .ok (.aload 4, 2) := by decide +kernel
theorem dX7_turn_49 : decode cX7_turn 49 = .ok (.iload 5, 2) := by decide +kernel
theorem dX7_turn_51 : decode cX7_turn 51 = .ok (.invokevirtual 124, 3) := by decide +kernel
theorem dX7_turn_54 : decode cX7_turn 54 = .ok (.ifCond .ne 11, 3) := by decide +kernel
theorem dX7_turn_57 : decode cX7_turn 57 = .ok (.aload 4, 2) := by decide +kernel
theorem dX7_turn_59 : decode cX7_turn 59 = .ok (.invokevirtual 82, 3) := by decide +kernel
theorem dX7_turn_62 : decode cX7_turn 62 = .ok (.ifCond .eq 13, 3) := by decide +kernel
theorem dX7_turn_65 : decode cX7_turn 65 = .ok (.new 50, 3) := by decide +kernel
theorem dX7_turn_68 : decode cX7_turn 68 = .ok (.dup, 1) := by decide +kernel
theorem dX7_turn_69 : decode cX7_turn 69 = .ok (.ldc 127, 2) := by decide +kernel
theorem dX7_turn_71 : decode cX7_turn 71 = .ok (.invokespecial 54, 3) := by decide +kernel
theorem dX7_turn_74 : decode cX7_turn 74 = .ok (.athrow, 1) := by decide +kernel
theorem dX7_turn_75 : decode cX7_turn 75 = .ok (.aload 4, 2) := by decide +kernel
theorem dX7_turn_77 : decode cX7_turn 77 = .ok (.aload 4, 2) := by decide +kernel
theorem dX7_turn_79 : decode cX7_turn 79 = .ok (.getfield 75, 3) := by decide +kernel
theorem dX7_turn_82 : decode cX7_turn 82 = .ok (.iload 5, 2) := by decide +kernel
theorem dX7_turn_84 : decode cX7_turn 84 = .ok (.invokevirtual 112, 3) := by decide +kernel
theorem dX7_turn_87 : decode cX7_turn 87 = .ok (.istore 7, 2) := by decide +kernel
theorem dX7_turn_89 : decode cX7_turn 89 = .ok (.aload 4, 2) := by decide +kernel
theorem dX7_turn_91 : decode cX7_turn 91 = .ok (.iload_n 3, 1) := by decide +kernel
theorem dX7_turn_92 : decode cX7_turn 92 = .ok (.aload 4, 2) := by decide +kernel
theorem dX7_turn_94 : decode cX7_turn 94 = .ok (.iload 5, 2) := by decide +kernel
theorem dX7_turn_96 : decode cX7_turn 96 = .ok (.invokevirtual 129, 3) := by decide +kernel
theorem dX7_turn_99 : decode cX7_turn 99 = .ok (.iload 6, 2) := by decide +kernel
theorem dX7_turn_101 : decode cX7_turn 101 = .ok (.iload_n 3, 1) := by decide +kernel
theorem dX7_turn_102 : decode cX7_turn 102 = .ok (.invokestatic 132, 3) := by decide +kernel
theorem dX7_turn_105 : decode cX7_turn 105 = .ok (.invokevirtual 88, 3) := by decide +kernel
theorem dX7_turn_108 : decode cX7_turn 108 = .ok (.istore 8, 2) := by decide +kernel
theorem dX7_turn_110 : decode cX7_turn 110 = .ok (.aload 4, 2) := by decide +kernel
theorem dX7_turn_112 : decode cX7_turn 112 = .ok (.new 91, 3) := by decide +kernel
theorem dX7_turn_115 : decode cX7_turn 115 = .ok (.dup, 1) := by decide +kernel
theorem dX7_turn_116 : decode cX7_turn 116 = .ok (.iconst 2, 1) := by decide +kernel
theorem dX7_turn_117 : decode cX7_turn 117 = .ok (.iload 5, 2) := by decide +kernel
theorem dX7_turn_119 : decode cX7_turn 119 = .ok (.iconst (-1), 1) := by decide +kernel
theorem dX7_turn_120 : decode cX7_turn 120 = .ok (.iload 8, 2) := by decide +kernel
theorem dX7_turn_122 : decode cX7_turn 122 = .ok (.iconst (-1), 1) := by decide +kernel
theorem dX7_turn_123 : decode cX7_turn 123 = .ok (.iconst 0, 1) := by decide +kernel
theorem dX7_turn_124 : decode cX7_turn 124 = .ok (.invokespecial 93, 3) := by decide +kernel
theorem dX7_turn_127 : decode cX7_turn 127 = .ok (.invokevirtual 96, 3) := by decide +kernel
theorem dX7_turn_130 : decode cX7_turn 130 = .ok (.aload 4, 2) := by decide +kernel
theorem dX7_turn_132 : decode cX7_turn 132 = .ok (.iload 8, 2) := by decide +kernel
theorem dX7_turn_134 : decode cX7_turn 134 = .ok (.iload_n 2, 1) := by decide +kernel
theorem dX7_turn_135 : decode cX7_turn 135 = .ok (.iload 7, 2) := by decide +kernel
theorem dX7_turn_137 : decode cX7_turn 137 = .ok (.invokevirtual 100, 3) := by decide +kernel
theorem dX7_turn_140 : decode cX7_turn 140 = .ok (.iload 8, 2) := by decide +kernel
theorem dX7_turn_142 : decode cX7_turn 142 = .ok (.ireturn, 1) := by decide +kernel
theorem dX7_split_0 : decode cX7_split 0 = .ok (.aload_n 0, 1) := by decide +kernel
theorem dX7_split_1 : decode cX7_split 1 = .ok (.iload_n 1, 1) := by decide +kernel
theorem dX7_split_2 : decode cX7_split 2 = .ok (.invokevirtual 58, 3) := by decide +kernel
theorem dX7_split_5 : decode cX7_split 5 = .ok (.astore 6, 2) := by decide +kernel
theorem dX7_split_7 : decode cX7_split 7 = .ok (.aload 6, 2) := by decide +kernel
theorem dX7_split_9 : decode cX7_split 9 = .ok (.iload_n 2, 1) := by decide +kernel
theorem dX7_split_10 : decode cX7_split 10 = .ok (.invokestatic 104, 3) := by decide +kernel
theorem dX7_split_13 : decode cX7_split 13 = .ok (.istore 7, 2) := by decide +kernel
theorem dX7_split_15 : decode cX7_split 15 = .ok (.iload_n 3, 1) := by decide +kernel
theorem dX7_split_16 : decode cX7_split 16 = .ok (.invokestatic 62, 3) := by decide +kernel
theorem dX7_split_19 : decode cX7_split 19 = .ok (.ifCond .eq 25, 3) := by decide +kernel
theorem dX7_split_22 : decode cX7_split 22 = .ok (.iload 4, 2) := by decide +kernel
theorem dX7_split_24 : decode cX7_split 24 = .ok (.invokestatic 62, 3) := by decide +kernel
theorem dX7_split_27 : decode cX7_split 27 = .ok (.ifCond .eq 17, 3) := by decide +kernel
theorem dX7_split_30 : decode cX7_split 30 = .ok (.iload 5, 2) := by decide +kernel
theorem dX7_split_32 : decode cX7_split 32 = .ok (.invokestatic 136, 3) := by decide +kernel
theorem dX7_split_35 : decode cX7_split 35 = .ok (.ifCond .eq 9, 3) := by decide +kernel
theorem dX7_split_38 : decode cX7_split 38 = .ok (.iload_n 3, 1) := by decide +kernel
theorem dX7_split_39 : decode cX7_split 39 = .ok (.iload 4, 2) := by decide +kernel
theorem dX7_split_41 : decode cX7_split 41 = .ok (.if_icmp .ne 13, 3) := by decide +kernel
theorem dX7_split_44 : decode cX7_split 44 = .ok (.new 70, 3) := by decide +kernel
theorem dX7_split_47 : decode cX7_split 47 = .ok (.dup, 1) := by decide +kernel
theorem dX7_split_48 : decode cX7_split 48 = .ok (.ldc 139, 2) := by decide +kernel
theorem dX7_split_50 : decode cX7_split 50 = .ok (.invokespecial 74, 3) := by decide +kernel
theorem dX7_split_53 : decode cX7_split 53 = .ok (.athrow, 1) := by decide +kernel
theorem dX7_split_54 : decode cX7_split 54 = .ok (.aload 6, 2) := by decide +kernel
theorem dX7_split_56 : decode cX7_split 56 = .ok (.iload_n 3, 1) := by decide +kernel
theorem dX7_split_57 : decode cX7_split 57 = .ok (.iload 7, 2) := by decide +kernel
theorem dX7_split_59 : decode cX7_split 59 = .ok (.iload 7, 2) := by decide +kernel
theorem dX7_split_61 : decode cX7_split 61 = .ok (.invokevirtual 141, 3) := by decide +kernel
theorem dX7_split_64 : decode cX7_split 64 = .ok (.ifCond .ne 17, 3) := by decide +kernel
theorem dX7_split_67 : decode cX7_split 67 = .ok (.aload 6, 2) := by decide +kernel
theorem dX7_split_69 : decode cX7_split 69 = .ok (.iload 4, 2) := by decide +kernel
theorem dX7_split_71 : decode cX7_split 71 = .ok (.iload 7, 2) := by decide +kernel
theorem dX7_split_73 : decode cX7_split 73 = .ok (.iload 7, 2) := by decide +kernel
theorem dX7_split_75 : decode cX7_split 75 = .ok (.invokevirtual 141, 3) := by decide +kernel
theorem dX7_split_78 : decode cX7_split 78 = .ok (.ifCond .eq 7, 3) := by decide +kernel
theorem dX7_split_81 : decode cX7_split 81 = .ok (.iconst 1, 1) := by decide +kernel
theorem dX7_split_82 : decode cX7_split 82 = .ok (.goto 4, 3) := by decide +kernel
theorem dX7_split_85 : decode cX7_split 85 = .ok (.iconst 0, 1) := by decide +kernel
theorem dX7_split_86 : decode cX7_split 86 = .ok (.istore 8, 2) := by decide +kernel
theorem dX7_split_88 : decode cX7_split 88 = .ok (.aload 6, 2) := by decide +kernel
theorem dX7_split_90 : decode cX7_split 90 = .ok (.iload 7, 2) := by decide +kernel
theorem dX7_split_92 : decode cX7_split 92 = .ok (.invokevirtual 145, 3) := by decide +kernel
theorem dX7_split_95 : decode cX7_split 95 = .ok (.ifCond .eq 16, 3) := by decide +kernel
theorem dX7_split_98 : decode cX7_split 98 = .ok (.iload 8, 2) := by decide +kernel
theorem dX7_split_100 : decode cX7_split 100 = .ok (.ifCond .ne 11, 3) := by decide +kernel
theorem dX7_split_103 : decode cX7_split 103 = .ok (.aload 6, 2) := by decide +kernel
theorem dX7_split_105 : decode cX7_split 105 = .ok (.invokevirtual 82, 3) := by decide +kernel
theorem dX7_split_108 : decode cX7_split 108 = .ok (.ifCond .eq 13, 3) := by decide +kernel
theorem dX7_split_111 : decode cX7_split 111 = .ok (.new 50, 3) := by decide +kernel
theorem dX7_split_114 : decode cX7_split 114 = .ok (.dup, 1) := by decide +kernel
theorem dX7_split_115 : decode cX7_split 115 = .ok (.ldc 148, 2) := by decide +kernel
theorem dX7_split_117 : decode cX7_split 117 = .ok (.invokespecial 54, 3) := by decide +kernel
theorem dX7_split_120 : decode cX7_split 120 = .ok (.athrow, 1) := by decide +kernel
theorem dX7_split_121 : decode cX7_split 121 = .ok (.aload 6, 2) := by decide +kernel
theorem dX7_split_123 : decode cX7_split 123 = .ok (.aload 6, 2) := by decide +kernel
theorem dX7_split_125 : decode cX7_split 125 = .ok (.getfield 75, 3) := by decide +kernel
theorem dX7_split_128 : decode cX7_split 128 = .ok (.iload 7, 2) := by decide +kernel
theorem dX7_split_130 : decode cX7_split 130 = .ok (.invokevirtual 112, 3) := by decide +kernel
theorem dX7_split_133 : decode cX7_split 133 = .ok (.istore 9, 2) := by decide +kernel
theorem dX7_split_135 : decode cX7_split 135 = .ok (.aload 6, 2) := by decide +kernel
theorem dX7_split_137 : decode cX7_split 137 = .ok (.iload 7, 2) := by decide +kernel
theorem dX7_split_139 : decode cX7_split 139 = .ok (.invokevirtual 129, 3) := by decide +kernel
theorem dX7_split_142 : decode cX7_split 142 = .ok (.istore 10, 2) := by decide +kernel
theorem dX7_split_144 : decode cX7_split 144 = .ok (.aload 6, 2) := by decide +kernel
theorem dX7_split_146 : decode cX7_split 146 = .ok (.iconst 0, 1) := by decide +kernel
theorem dX7_split_147 : decode cX7_split 147 = .ok (.iload 10, 2) := by decide +kernel
theorem dX7_split_149 : decode cX7_split 149 = .ok (.iload 5, 2) := by decide +kernel
theorem dX7_split_151 : decode cX7_split 151 = .ok (.invokestatic 150, 3) := by decide +kernel
theorem dX7_split_154 : decode cX7_split 154 = .ok (.invokevirtual 88, 3) := by decide +kernel
theorem dX7_split_157 : decode cX7_split 157 = .ok (.istore 11, 2) := by decide +kernel
theorem dX7_split_159 : decode cX7_split 159 = .ok (.aload 6, 2) := by decide +kernel
theorem dX7_split_161 : decode cX7_split 161 = .ok (.iconst 0, 1) := by decide +kernel
theorem dX7_split_162 : decode cX7_split 162 = .ok (.iload 10, 2) := by decide +kernel
theorem dX7_split_164 : decode cX7_split 164 = .ok (.iload 5, 2) := by decide +kernel
theorem dX7_split_166 : decode cX7_split 166 = .ok (.invokestatic 153, 3) := by decide +kernel
theorem dX7_split_169 : decode cX7_split 169 = .ok (.invokevirtual 88, 3) := by decide +kernel
theorem dX7_split_172 : decode cX7_split 172 = .ok (.istore 12, 2) := by decide +kernel
theorem dX7_split_174 : decode cX7_split 174 = .ok (.aload 6, 2) := by decide +kernel
theorem dX7_split_176 : decode cX7_split 176 = .ok (.new 91, 3) := by decide +kernel
theorem dX7_split_179 : decode cX7_split 179 = .ok (.dup, 1) := by decide +kernel
theorem dX7_split_180 : decode cX7_split 180 = .ok (.iconst 3, 1) := by decide +kernel
theorem dX7_split_181 : decode cX7_split 181 = .ok (.iload 7, 2) := by decide +kernel
theorem dX7_split_183 : decode cX7_split 183 = .ok (.iconst (-1), 1) := by decide +kernel
theorem dX7_split_184 : decode cX7_split 184 = .ok (.iload 11, 2) := by decide +kernel
theorem dX7_split_186 : decode cX7_split 186 = .ok (.iload 12, 2) := by decide +kernel
theorem dX7_split_188 : decode cX7_split 188 = .ok (.iload 5, 2) := by decide +kernel
theorem dX7_split_190 : decode cX7_split 190 = .ok (.invokespecial 93, 3) := by decide +kernel
theorem dX7_split_193 : decode cX7_split 193 = .ok (.invokevirtual 96, 3) := by decide +kernel
theorem dX7_split_196 : decode cX7_split 196 = .ok (.aload 6, 2) := by decide +kernel
theorem dX7_split_198 : decode cX7_split 198 = .ok (.iload 11, 2) := by decide +kernel
theorem dX7_split_200 : decode cX7_split 200 = .ok (.iload_n 3, 1) := by decide +kernel
theorem dX7_split_201 : decode cX7_split 201 = .ok (.iload 9, 2) := by decide +kernel
theorem dX7_split_203 : decode cX7_split 203 = .ok (.invokevirtual 100, 3) := by decide +kernel
theorem dX7_split_206 : decode cX7_split 206 = .ok (.aload 6, 2) := by decide +kernel
theorem dX7_split_208 : decode cX7_split 208 = .ok (.iload 12, 2) := by decide +kernel
theorem dX7_split_210 : decode cX7_split 210 = .ok (.iload 4, 2) := by decide +kernel
theorem dX7_split_212 : decode cX7_split 212 = .ok (.iload 9, 2) := by decide +kernel
theorem dX7_split_214 : decode cX7_split 214 = .ok (.invokevirtual 100, 3) := by decide +kernel
theorem dX7_split_217 : decode cX7_split 217 = .ok (.iload 11, 2) := by decide +kernel
theorem dX7_split_219 : decode cX7_split 219 = .ok (.ireturn, 1) := by decide +kernel
theorem dX7_join_0 : decode cX7_join 0 = .ok (.aload_n 0, 1) := by decide +kernel
theorem dX7_join_1 : decode cX7_join 1 = .ok (.iload_n 1, 1) := by decide +kernel
theorem dX7_join_2 : decode cX7_join 2 = .ok (.invokevirtual 58, 3) := by decide +kernel
theorem dX7_join_5 : decode cX7_join 5 = .ok (.astore 6, 2) := by decide +kernel
theorem dX7_join_7 : decode cX7_join 7 = .ok (.aload 6, 2) := by decide +kernel
theorem dX7_join_9 : decode cX7_join 9 = .ok (.iload_n 2, 1) := by decide +kernel
theorem dX7_join_10 : decode cX7_join 10 = .ok (.invokestatic 104, 3) := by decide +kernel
theorem dX7_join_13 : decode cX7_join 13 = .ok (.istore 7, 2) := by decide +kernel
theorem dX7_join_15 : decode cX7_join 15 = .ok (.aload 6, 2) := by decide +kernel
theorem dX7_join_17 : decode cX7_join 17 = .ok (.iload_n 3, 1) := by decide +kernel
theorem dX7_join_18 : decode cX7_join 18 = .ok (.invokestatic 104, 3) := by decide +kernel
theorem dX7_join_21 : decode cX7_join 21 = .ok (.istore 8, 2) := by decide +kernel
theorem dX7_join_23 : decode cX7_join 23 = .ok (.iload 4, 2) := by decide +kernel
theorem dX7_join_25 : decode cX7_join 25 = .ok (.invokestatic 62, 3) := by decide +kernel
theorem dX7_join_28 : decode cX7_join 28 = .ok (.ifCond .eq 16, 3) := by decide +kernel
theorem dX7_join_31 : decode cX7_join 31 = .ok (.iload 5, 2) := by decide +kernel
theorem dX7_join_33 : decode cX7_join 33 = .ok (.invokestatic 136, 3) := by decide +kernel
theorem dX7_join_36 : decode cX7_join 36 = .ok (.ifCond .eq 8, 3) := by decide +kernel
theorem dX7_join_39 : decode cX7_join 39 = .ok (.iload_n 2, 1) := by decide +kernel
theorem dX7_join_40 : decode cX7_join 40 = .ok (.iload_n 3, 1) := by decide +kernel
theorem dX7_join_41 : decode cX7_join 41 = .ok (.if_icmp .ne 13, 3) := by decide +kernel
theorem dX7_join_44 : decode cX7_join 44 = .ok (.new 70, 3) := by decide +kernel
theorem dX7_join_47 : decode cX7_join 47 = .ok (.dup, 1) := by decide +kernel
theorem dX7_join_48 : decode cX7_join 48 = .ok (.ldc 156, 2) := by decide +kernel
theorem dX7_join_50 : decode cX7_join 50 = .ok (.invokespecial 74, 3) := by decide +kernel
theorem dX7_join_53 : decode cX7_join 53 = .ok (.athrow, 1) := by decide +kernel
theorem dX7_join_54 : decode cX7_join 54 = .ok (.aload 6, 2) := by decide +kernel
theorem dX7_join_56 : decode cX7_join 56 = .ok (.iload 7, 2) := by decide +kernel
theorem dX7_join_58 : decode cX7_join 58 = .ok (.invokevirtual 145, 3) := by decide +kernel
theorem dX7_join_61 : decode cX7_join 61 = .ok (.ifCond .eq 17, 3) := by decide +kernel
theorem dX7_join_64 : decode cX7_join 64 = .ok (.aload 6, 2) := by decide +kernel
theorem dX7_join_66 : decode cX7_join 66 = .ok (.iload 8, 2) := by decide +kernel
theorem dX7_join_68 : decode cX7_join 68 = .ok (.invokevirtual 145, 3) := by decide +kernel
theorem dX7_join_71 : decode cX7_join 71 = .ok (.ifCond .eq 7, 3) := by decide +kernel
theorem dX7_join_74 : decode cX7_join 74 = .ok (.iconst 1, 1) := by decide +kernel
theorem dX7_join_75 : decode cX7_join 75 = .ok (.goto 4, 3) := by decide +kernel
theorem dX7_join_78 : decode cX7_join 78 = .ok (.iconst 0, 1) := by decide +kernel
theorem dX7_join_79 : decode cX7_join 79 = .ok (.istore 9, 2) := by decide +kernel
theorem dX7_join_81 : decode cX7_join 81 = .ok (.iload 9, 2) := by decide +kernel
theorem dX7_join_83 : decode cX7_join 83 = .ok (.ifCond .eq 25, 3) := by decide +kernel
theorem dX7_join_86 : decode cX7_join 86 = .ok (.aload 6, 2) := by decide +kernel
theorem dX7_join_88 : decode cX7_join 88 = .ok (.iload 4, 2) := by decide +kernel
theorem dX7_join_90 : decode cX7_join 90 = .ok (.iload 7, 2) := by decide +kernel
theorem dX7_join_92 : decode cX7_join 92 = .ok (.iload 8, 2) := by decide +kernel
theorem dX7_join_94 : decode cX7_join 94 = .ok (.invokevirtual 141, 3) := by decide +kernel
theorem dX7_join_97 : decode cX7_join 97 = .ok (.ifCond .ne 11, 3) := by decide +kernel
theorem dX7_join_100 : decode cX7_join 100 = .ok (.aload 6, 2) := by decide +kernel
theorem dX7_join_102 : decode cX7_join 102 = .ok (.invokevirtual 82, 3) := by decide +kernel
theorem dX7_join_105 : decode cX7_join 105 = .ok (.ifCond .eq 13, 3) := by decide +kernel
theorem dX7_join_108 : decode cX7_join 108 = .ok (.new 50, 3) := by decide +kernel
theorem dX7_join_111 : decode cX7_join 111 = .ok (.dup, 1) := by decide +kernel
theorem dX7_join_112 : decode cX7_join 112 = .ok (.ldc 148, 2) := by decide +kernel
theorem dX7_join_114 : decode cX7_join 114 = .ok (.invokespecial 54, 3) := by decide +kernel
theorem dX7_join_117 : decode cX7_join 117 = .ok (.athrow, 1) := by decide +kernel
theorem dX7_join_118 : decode cX7_join 118 = .ok (.aload 6, 2) := by decide +kernel
theorem dX7_join_120 : decode cX7_join 120 = .ok (.aload 6, 2) := by decide +kernel
theorem dX7_join_122 : decode cX7_join 122 = .ok (.getfield 75, 3) := by decide +kernel
theorem dX7_join_125 : decode cX7_join 125 = .ok (.iload 7, 2) := by decide +kernel
theorem dX7_join_127 : decode cX7_join 127 = .ok (.invokevirtual 112, 3) := by decide +kernel
theorem dX7_join_130 : decode cX7_join 130 = .ok (.ifCond .ne 18, 3) := by decide +kernel
theorem dX7_join_133 : decode cX7_join 133 = .ok (.aload 6, 2) := by decide +kernel
theorem dX7_join_135 : decode cX7_join 135 = .ok (.aload 6, 2) := by decide +kernel
theorem dX7_join_137 : decode cX7_join 137 = .ok (.getfield 75, 3) := by decide +kernel
theorem dX7_join_140 : decode cX7_join 140 = .ok (.iload 8, 2) := by decide +kernel
theorem dX7_join_142 : decode cX7_join 142 = .ok (.invokevirtual 112, 3) := by decide +kernel
theorem dX7_join_145 : decode cX7_join 145 = .ok (.ifCond .eq 7, 3) := by decide +kernel
theorem dX7_join_148 : decode cX7_join 148 = .ok (.iconst 1, 1) := by decide +kernel
theorem dX7_join_149 : decode cX7_join 149 = .ok (.goto 4, 3) := by decide +kernel
theorem dX7_join_152 : decode cX7_join 152 = .ok (.iconst 0, 1) := by decide +kernel
theorem dX7_join_153 : decode cX7_join 153 = .ok (.istore 10, 2) := by decide +kernel
theorem dX7_join_155 : decode cX7_join 155 = .ok (.aload 6, 2) := by decide +kernel
theorem dX7_join_157 : decode cX7_join 157 = .ok (.iload 7, 2) := by decide +kernel
theorem dX7_join_159 : decode cX7_join 159 = .ok (.invokevirtual 129, 3) := by decide +kernel
theorem dX7_join_162 : decode cX7_join 162 = .ok (.aload 6, 2) := by decide +kernel
theorem dX7_join_164 : decode cX7_join 164 = .ok (.iload 8, 2) := by decide +kernel
theorem dX7_join_166 : decode cX7_join 166 = .ok (.invokevirtual 129, 3) := by decide +kernel
theorem dX7_join_169 : decode cX7_join 169 = .ok (.iload 5, 2) := by decide +kernel
theorem dX7_join_171 : decode cX7_join 171 = .ok (.invokestatic 158, 3) := by decide +kernel
theorem dX7_join_174 : decode cX7_join 174 = .ok (.istore 11, 2) := by decide +kernel
theorem dX7_join_176 : decode cX7_join 176 = .ok (.aload 6, 2) := by decide +kernel
theorem dX7_join_178 : decode cX7_join 178 = .ok (.iconst 0, 1) := by decide +kernel
theorem dX7_join_179 : decode cX7_join 179 = .ok (.iload 11, 2) := by decide +kernel
theorem dX7_join_181 : decode cX7_join 181 = .ok (.invokevirtual 88, 3) := by decide +kernel
theorem dX7_join_184 : decode cX7_join 184 = .ok (.istore 12, 2) := by decide +kernel
theorem dX7_join_186 : decode cX7_join 186 = .ok (.aload 6, 2) := by decide +kernel
theorem dX7_join_188 : decode cX7_join 188 = .ok (.new 91, 3) := by decide +kernel
theorem dX7_join_191 : decode cX7_join 191 = .ok (.dup, 1) := by decide +kernel
theorem dX7_join_192 : decode cX7_join 192 = .ok (.iconst 4, 1) := by decide +kernel
theorem dX7_join_193 : decode cX7_join 193 = .ok (.iload 7, 2) := by decide +kernel
theorem dX7_join_195 : decode cX7_join 195 = .ok (.iload 8, 2) := by decide +kernel
theorem dX7_join_197 : decode cX7_join 197 = .ok (.iload 12, 2) := by decide +kernel
theorem dX7_join_199 : decode cX7_join 199 = .ok (.iconst (-1), 1) := by decide +kernel
theorem dX7_join_200 : decode cX7_join 200 = .ok (.iload 5, 2) := by decide +kernel
theorem dX7_join_202 : decode cX7_join 202 = .ok (.invokespecial 93, 3) := by decide +kernel
theorem dX7_join_205 : decode cX7_join 205 = .ok (.invokevirtual 96, 3) := by decide +kernel
theorem dX7_join_208 : decode cX7_join 208 = .ok (.aload 6, 2) := by decide +kernel
theorem dX7_join_210 : decode cX7_join 210 = .ok (.iload 12, 2) := by decide +kernel
theorem dX7_join_212 : decode cX7_join 212 = .ok (.iload 4, 2) := by decide +kernel
theorem dX7_join_214 : decode cX7_join 214 = .ok (.iload 10, 2) := by decide +kernel
theorem dX7_join_216 : decode cX7_join 216 = .ok (.invokevirtual 100, 3) := by decide +kernel
theorem dX7_join_219 : decode cX7_join 219 = .ok (.iload 12, 2) := by decide +kernel
theorem dX7_join_221 : decode cX7_join 221 = .ok (.ireturn, 1) := by decide +kernel
theorem dX7_toggleNeed_0 : decode cX7_toggleNeed 0 = .ok (.aload_n 0, 1) := by decide +kernel
theorem dX7_toggleNeed_1 : decode cX7_toggleNeed 1 = .ok (.iload_n 1, 1) := by decide +kernel
theorem dX7_toggleNeed_2 : decode cX7_toggleNeed 2 = .ok (.invokevirtual 58, 3) := by decide +kernel
theorem dX7_toggleNeed_5 : decode cX7_toggleNeed 5 = .ok (.astore_n 3, 1) := by decide +kernel
theorem dX7_toggleNeed_6 : decode cX7_toggleNeed 6 = .ok (.aload_n 3, 1) := by decide +kernel
theorem dX7_toggleNeed_7 : decode cX7_toggleNeed 7 = .ok (.iload_n 2, 1) := by decide +kernel
theorem dX7_toggleNeed_8 : decode cX7_toggleNeed 8 = .ok (.invokestatic 104, 3) := by decide +kernel
theorem dX7_toggleNeed_11 : decode cX7_toggleNeed 11 = .ok (.istore 4, 2) := by decide +kernel
theorem dX7_toggleNeed_13 : decode cX7_toggleNeed 13 = .ok (.aload_n 3, 1) := by decide +kernel
theorem dX7_toggleNeed_14 : decode cX7_toggleNeed 14 = .ok (.invokevirtual 82, 3) := by decide +kernel
theorem dX7_toggleNeed_17 : decode cX7_toggleNeed 17 = .ok (.ifCond .eq 13, 3) := by decide +kernel
theorem dX7_toggleNeed_20 : decode cX7_toggleNeed 20 = .ok (.new 50, 3) := by decide +kernel
theorem dX7_toggleNeed_23 : decode cX7_toggleNeed 23 = .ok (.dup, 1) := by decide +kernel
theorem dX7_toggleNeed_24 : decode cX7_toggleNeed 24 = .ok (.ldc 161, 2) := by decide +kernel
theorem dX7_toggleNeed_26 : decode cX7_toggleNeed 26 = .ok (.invokespecial 54, 3) := by decide +kernel
theorem dX7_toggleNeed_29 : decode cX7_toggleNeed 29 = .ok (.athrow, 1) := by decide +kernel
theorem dX7_toggleNeed_30 : decode cX7_toggleNeed 30 = .ok (.aload_n 3, 1) := by decide +kernel
theorem dX7_toggleNeed_31 : decode cX7_toggleNeed 31 = .ok (.aload_n 3, 1) := by decide +kernel
theorem dX7_toggleNeed_32 : decode cX7_toggleNeed 32 = .ok (.getfield 75, 3) := by decide +kernel
theorem dX7_toggleNeed_35 : decode cX7_toggleNeed 35 = .ok (.iload 4, 2) := by decide +kernel
theorem dX7_toggleNeed_37 : decode cX7_toggleNeed 37 = .ok (.invokevirtual 112, 3) := by decide +kernel
theorem dX7_toggleNeed_40 : decode cX7_toggleNeed 40 = .ok (.ifCond .ne 7, 3) := by decide +kernel
theorem dX7_toggleNeed_43 : decode cX7_toggleNeed 43 = .ok (.iconst 1, 1) := by decide +kernel
theorem dX7_toggleNeed_44 : decode cX7_toggleNeed 44 = .ok (.goto 4, 3) := by decide +kernel
theorem dX7_toggleNeed_47 : decode cX7_toggleNeed 47 = .ok (.iconst 0, 1) := by decide +kernel
theorem dX7_toggleNeed_48 : decode cX7_toggleNeed 48 = .ok (.istore 5, 2) := by decide +kernel
theorem dX7_toggleNeed_50 : decode cX7_toggleNeed 50 = .ok (.aload_n 3, 1) := by decide +kernel
theorem dX7_toggleNeed_51 : decode cX7_toggleNeed 51 = .ok (.new 91, 3) := by decide +kernel
theorem dX7_toggleNeed_54 : decode cX7_toggleNeed 54 = .ok (.dup, 1) := by decide +kernel
theorem dX7_toggleNeed_55 : decode cX7_toggleNeed 55 = .ok (.bipush 6, 2) := by decide +kernel
theorem dX7_toggleNeed_57 : decode cX7_toggleNeed 57 = .ok (.iload 4, 2) := by decide +kernel
theorem dX7_toggleNeed_59 : decode cX7_toggleNeed 59 = .ok (.iconst (-1), 1) := by decide +kernel
theorem dX7_toggleNeed_60 : decode cX7_toggleNeed 60 = .ok (.iload 4, 2) := by decide +kernel
theorem dX7_toggleNeed_62 : decode cX7_toggleNeed 62 = .ok (.iconst (-1), 1) := by decide +kernel
theorem dX7_toggleNeed_63 : decode cX7_toggleNeed 63 = .ok (.iconst 0, 1) := by decide +kernel
theorem dX7_toggleNeed_64 : decode cX7_toggleNeed 64 = .ok (.invokespecial 93, 3) := by decide +kernel
theorem dX7_toggleNeed_67 : decode cX7_toggleNeed 67 = .ok (.invokevirtual 96, 3) := by decide +kernel
theorem dX7_toggleNeed_70 : decode cX7_toggleNeed 70 = .ok (.aload_n 3, 1) := by decide +kernel
theorem dX7_toggleNeed_71 : decode cX7_toggleNeed 71 = .ok (.iload 4, 2) := by decide +kernel
theorem dX7_toggleNeed_73 : decode cX7_toggleNeed 73 = .ok (.iload_n 2, 1) := by decide +kernel
theorem dX7_toggleNeed_74 : decode cX7_toggleNeed 74 = .ok (.iload 5, 2) := by decide +kernel
theorem dX7_toggleNeed_76 : decode cX7_toggleNeed 76 = .ok (.invokevirtual 100, 3) := by decide +kernel
theorem dX7_toggleNeed_79 : decode cX7_toggleNeed 79 = .ok (.iload 5, 2) := by decide +kernel
theorem dX7_toggleNeed_81 : decode cX7_toggleNeed 81 = .ok (.ireturn, 1) := by decide +kernel
theorem dX7_drop_0 : decode cX7_drop 0 = .ok (.aload_n 0, 1) := by decide +kernel
theorem dX7_drop_1 : decode cX7_drop 1 = .ok (.iload_n 1, 1) := by decide +kernel
theorem dX7_drop_2 : decode cX7_drop 2 = .ok (.invokevirtual 58, 3) := by decide +kernel
theorem dX7_drop_5 : decode cX7_drop 5 = .ok (.astore_n 3, 1) := by decide +kernel
theorem dX7_drop_6 : decode cX7_drop 6 = .ok (.aload_n 3, 1) := by decide +kernel
theorem dX7_drop_7 : decode cX7_drop 7 = .ok (.iload_n 2, 1) := by decide +kernel
theorem dX7_drop_8 : decode cX7_drop 8 = .ok (.invokestatic 104, 3) := by decide +kernel
theorem dX7_drop_11 : decode cX7_drop 11 = .ok (.istore 4, 2) := by decide +kernel
theorem dX7_drop_13 : decode cX7_drop 13 = .ok (.aload_n 3, 1) := by decide +kernel
theorem dX7_drop_14 : decode cX7_drop 14 = .ok (.iload 4, 2) := by decide +kernel
theorem dX7_drop_16 : decode cX7_drop 16 = .ok (.invokevirtual 124, 3) := by decide +kernel
theorem dX7_drop_19 : decode cX7_drop 19 = .ok (.ifCond .ne 10, 3) := by decide +kernel
theorem dX7_drop_22 : decode cX7_drop 22 = .ok (.aload_n 3, 1) := by decide +kernel
theorem dX7_drop_23 : decode cX7_drop 23 = .ok (.invokevirtual 82, 3) := by decide +kernel
theorem dX7_drop_26 : decode cX7_drop 26 = .ok (.ifCond .eq 13, 3) := by decide +kernel
theorem dX7_drop_29 : decode cX7_drop 29 = .ok (.new 50, 3) := by decide +kernel
theorem dX7_drop_32 : decode cX7_drop 32 = .ok (.dup, 1) := by decide +kernel
theorem dX7_drop_33 : decode cX7_drop 33 = .ok (.ldc 163, 2) := by decide +kernel
theorem dX7_drop_35 : decode cX7_drop 35 = .ok (.invokespecial 54, 3) := by decide +kernel
theorem dX7_drop_38 : decode cX7_drop 38 = .ok (.athrow, 1) := by decide +kernel
theorem dX7_drop_39 : decode cX7_drop 39 = .ok (.aload_n 0, 1) := by decide +kernel
theorem dX7_drop_40 : decode cX7_drop 40 = .ok (.aload_n 3, 1) := by decide +kernel
theorem dX7_drop_41 : decode cX7_drop 41 = .ok (.invokevirtual 165, 3) := by decide +kernel
theorem dX7_drop_44 : decode cX7_drop 44 = .ok (.iload 4, 2) := by decide +kernel
theorem dX7_drop_46 : decode cX7_drop 46 = .ok (.invokestatic 169, 3) := by decide +kernel
theorem dX7_drop_49 : decode cX7_drop 49 = .ok (.ifCond .eq 11, 3) := by decide +kernel
theorem dX7_drop_52 : decode cX7_drop 52 = .ok (.aload_n 3, 1) := by decide +kernel
theorem dX7_drop_53 : decode cX7_drop 53 = .ok (.iload 4, 2) := by decide +kernel
theorem dX7_drop_55 : decode cX7_drop 55 = .ok (.invokevirtual 173, 3) := by decide +kernel
theorem dX7_drop_58 : decode cX7_drop 58 = .ok (.iconst 0, 1) := by decide +kernel
theorem dX7_drop_59 : decode cX7_drop 59 = .ok (.ireturn, 1) := by decide +kernel
theorem dX7_drop_60 : decode cX7_drop 60 = .ok (.aload_n 3, 1) := by decide +kernel
theorem dX7_drop_61 : decode cX7_drop 61 = .ok (.iload 4, 2) := by decide +kernel
theorem dX7_drop_63 : decode cX7_drop 63 = .ok (.invokevirtual 177, 3) := by decide +kernel
theorem dX7_drop_66 : decode cX7_drop 66 = .ok (.iconst 1, 1) := by decide +kernel
theorem dX7_drop_67 : decode cX7_drop 67 = .ok (.ireturn, 1) := by decide +kernel
theorem dX7_head_0 : decode cX7_head 0 = .ok (.aload_n 0, 1) := by decide +kernel
theorem dX7_head_1 : decode cX7_head 1 = .ok (.iload_n 1, 1) := by decide +kernel
theorem dX7_head_2 : decode cX7_head 2 = .ok (.invokevirtual 58, 3) := by decide +kernel
theorem dX7_head_5 : decode cX7_head 5 = .ok (.astore_n 2, 1) := by decide +kernel
theorem dX7_head_6 : decode cX7_head 6 = .ok (.bipush 100, 2) := by decide +kernel
theorem dX7_head_8 : decode cX7_head 8 = .ok (.aload_n 2, 1) := by decide +kernel
theorem dX7_head_9 : decode cX7_head 9 = .ok (.getfield 75, 3) := by decide +kernel
theorem dX7_head_12 : decode cX7_head 12 = .ok (.imul, 1) := by decide +kernel
theorem dX7_head_13 : decode cX7_head 13 = .ok (.aload_n 2, 1) := by decide +kernel
theorem dX7_head_14 : decode cX7_head 14 = .ok (.getfield 180, 3) := by decide +kernel
theorem dX7_head_17 : decode cX7_head 17 = .ok (.iadd, 1) := by decide +kernel
theorem dX7_head_18 : decode cX7_head 18 = .ok (.ireturn, 1) := by decide +kernel
theorem dX7_field_0 : decode cX7_field 0 = .ok (.aload_n 0, 1) := by decide +kernel
theorem dX7_field_1 : decode cX7_field 1 = .ok (.iload_n 1, 1) := by decide +kernel
theorem dX7_field_2 : decode cX7_field 2 = .ok (.invokevirtual 58, 3) := by decide +kernel
theorem dX7_field_5 : decode cX7_field 5 = .ok (.astore 4, 2) := by decide +kernel
theorem dX7_field_7 : decode cX7_field 7 = .ok (.aload 4, 2) := by decide +kernel
theorem dX7_field_9 : decode cX7_field 9 = .ok (.iload_n 2, 1) := by decide +kernel
theorem dX7_field_10 : decode cX7_field 10 = .ok (.invokevirtual 183, 3) := by decide +kernel
theorem dX7_field_13 : decode cX7_field 13 = .ok (.ifCond .ne 13, 3) := by decide +kernel
theorem dX7_field_16 : decode cX7_field 16 = .ok (.new 186, 3) := by decide +kernel
theorem dX7_field_19 : decode cX7_field 19 = .ok (.dup, 1) := by decide +kernel
theorem dX7_field_20 : decode cX7_field 20 = .ok (.ldc 188, 2) := by decide +kernel
theorem dX7_field_22 : decode cX7_field 22 = .ok (.invokespecial 190, 3) := by decide +kernel
theorem dX7_field_25 : decode cX7_field 25 = .ok (.athrow, 1) := by decide +kernel
theorem dX7_field_26 : decode cX7_field 26 = .ok (.iload_n 3, 1) := by decide +kernel
theorem dX7_field_27 : decode cX7_field 27 = .ok (.invokestatic 62, 3) := by decide +kernel
theorem dX7_field_30 : decode cX7_field 30 = .ok (.ifCond .ne 13, 3) := by decide +kernel
theorem dX7_field_33 : decode cX7_field 33 = .ok (.new 70, 3) := by decide +kernel
theorem dX7_field_36 : decode cX7_field 36 = .ok (.dup, 1) := by decide +kernel
theorem dX7_field_37 : decode cX7_field 37 = .ok (.ldc 191, 2) := by decide +kernel
theorem dX7_field_39 : decode cX7_field 39 = .ok (.invokespecial 74, 3) := by decide +kernel
theorem dX7_field_42 : decode cX7_field 42 = .ok (.athrow, 1) := by decide +kernel
theorem dX7_field_43 : decode cX7_field 43 = .ok (.aload 4, 2) := by decide +kernel
theorem dX7_field_45 : decode cX7_field 45 = .ok (.iload_n 2, 1) := by decide +kernel
theorem dX7_field_46 : decode cX7_field 46 = .ok (.iload_n 3, 1) := by decide +kernel
theorem dX7_field_47 : decode cX7_field 47 = .ok (.invokevirtual 78, 3) := by decide +kernel
theorem dX7_field_50 : decode cX7_field 50 = .ok (.istore 5, 2) := by decide +kernel
theorem dX7_field_52 : decode cX7_field 52 = .ok (.iload 5, 2) := by decide +kernel
theorem dX7_field_54 : decode cX7_field 54 = .ok (.iconst (-1), 1) := by decide +kernel
theorem dX7_field_55 : decode cX7_field 55 = .ok (.if_icmp .ne 5, 3) := by decide +kernel
theorem dX7_field_58 : decode cX7_field 58 = .ok (.iconst (-1), 1) := by decide +kernel
theorem dX7_field_59 : decode cX7_field 59 = .ok (.ireturn, 1) := by decide +kernel
theorem dX7_field_60 : decode cX7_field 60 = .ok (.bipush 10, 2) := by decide +kernel
theorem dX7_field_62 : decode cX7_field 62 = .ok (.iload 5, 2) := by decide +kernel
theorem dX7_field_64 : decode cX7_field 64 = .ok (.imul, 1) := by decide +kernel
theorem dX7_field_65 : decode cX7_field 65 = .ok (.aload 4, 2) := by decide +kernel
theorem dX7_field_67 : decode cX7_field 67 = .ok (.iload_n 2, 1) := by decide +kernel
theorem dX7_field_68 : decode cX7_field 68 = .ok (.iload 5, 2) := by decide +kernel
theorem dX7_field_70 : decode cX7_field 70 = .ok (.invokevirtual 112, 3) := by decide +kernel
theorem dX7_field_73 : decode cX7_field 73 = .ok (.ifCond .eq 7, 3) := by decide +kernel
theorem dX7_field_76 : decode cX7_field 76 = .ok (.iconst 3, 1) := by decide +kernel
theorem dX7_field_77 : decode cX7_field 77 = .ok (.goto 4, 3) := by decide +kernel
theorem dX7_field_80 : decode cX7_field 80 = .ok (.iconst 0, 1) := by decide +kernel
theorem dX7_field_81 : decode cX7_field 81 = .ok (.iadd, 1) := by decide +kernel
theorem dX7_field_82 : decode cX7_field 82 = .ok (.aload 4, 2) := by decide +kernel
theorem dX7_field_84 : decode cX7_field 84 = .ok (.iload 5, 2) := by decide +kernel
theorem dX7_field_86 : decode cX7_field 86 = .ok (.invokevirtual 120, 3) := by decide +kernel
theorem dX7_field_89 : decode cX7_field 89 = .ok (.iadd, 1) := by decide +kernel
theorem dX7_field_90 : decode cX7_field 90 = .ok (.ireturn, 1) := by decide +kernel
theorem dX7_text_0 : decode cX7_text 0 = .ok (.aload_n 0, 1) := by decide +kernel
theorem dX7_text_1 : decode cX7_text 1 = .ok (.iload_n 1, 1) := by decide +kernel
theorem dX7_text_2 : decode cX7_text 2 = .ok (.invokevirtual 58, 3) := by decide +kernel
theorem dX7_text_5 : decode cX7_text 5 = .ok (.astore 4, 2) := by decide +kernel
theorem dX7_text_7 : decode cX7_text 7 = .ok (.aload 4, 2) := by decide +kernel
theorem dX7_text_9 : decode cX7_text 9 = .ok (.iload_n 2, 1) := by decide +kernel
theorem dX7_text_10 : decode cX7_text 10 = .ok (.invokevirtual 193, 3) := by decide +kernel
theorem dX7_text_13 : decode cX7_text 13 = .ok (.astore 5, 2) := by decide +kernel
theorem dX7_text_15 : decode cX7_text 15 = .ok (.aload 5, 2) := by decide +kernel
theorem dX7_text_17 : decode cX7_text 17 = .ok (.ifnonnull 13, 3) := by decide +kernel
theorem dX7_text_20 : decode cX7_text 20 = .ok (.new 186, 3) := by decide +kernel
theorem dX7_text_23 : decode cX7_text 23 = .ok (.dup, 1) := by decide +kernel
theorem dX7_text_24 : decode cX7_text 24 = .ok (.ldc 188, 2) := by decide +kernel
theorem dX7_text_26 : decode cX7_text 26 = .ok (.invokespecial 190, 3) := by decide +kernel
theorem dX7_text_29 : decode cX7_text 29 = .ok (.athrow, 1) := by decide +kernel
theorem dX7_text_30 : decode cX7_text 30 = .ok (.new 197, 3) := by decide +kernel
theorem dX7_text_33 : decode cX7_text 33 = .ok (.dup, 1) := by decide +kernel
theorem dX7_text_34 : decode cX7_text 34 = .ok (.invokespecial 199, 3) := by decide +kernel
theorem dX7_text_37 : decode cX7_text 37 = .ok (.astore 6, 2) := by decide +kernel
theorem dX7_text_39 : decode cX7_text 39 = .ok (.aload 6, 2) := by decide +kernel
theorem dX7_text_41 : decode cX7_text 41 = .ok (.aload 5, 2) := by decide +kernel
theorem dX7_text_43 : decode cX7_text 43 = .ok (.getfield 200, 3) := by decide +kernel
theorem dX7_text_46 : decode cX7_text 46 = .ok (.invokestatic 203, 3) := by decide +kernel
theorem dX7_text_49 : decode cX7_text 49 = .ok (.invokevirtual 207, 3) := by decide +kernel
theorem dX7_text_52 : decode cX7_text 52 = .ok (.pop, 1) := by decide +kernel
theorem dX7_text_53 : decode cX7_text 53 = .ok (.aload 6, 2) := by decide +kernel
theorem dX7_text_55 : decode cX7_text 55 = .ok (.aload 4, 2) := by decide +kernel
theorem dX7_text_57 : decode cX7_text 57 = .ok (.iload_n 2, 1) := by decide +kernel
theorem dX7_text_58 : decode cX7_text 58 = .ok (.iconst 1, 1) := by decide +kernel
theorem dX7_text_59 : decode cX7_text 59 = .ok (.isub, 1) := by decide +kernel
theorem dX7_text_60 : decode cX7_text 60 = .ok (.aload 5, 2) := by decide +kernel
theorem dX7_text_62 : decode cX7_text 62 = .ok (.getfield 211, 3) := by decide +kernel
theorem dX7_text_65 : decode cX7_text 65 = .ok (.invokestatic 215, 3) := by decide +kernel
theorem dX7_text_68 : decode cX7_text 68 = .ok (.aload 6, 2) := by decide +kernel
theorem dX7_text_70 : decode cX7_text 70 = .ok (.bipush 62, 2) := by decide +kernel
theorem dX7_text_72 : decode cX7_text 72 = .ok (.invokevirtual 219, 3) := by decide +kernel
theorem dX7_text_75 : decode cX7_text 75 = .ok (.pop, 1) := by decide +kernel
theorem dX7_text_76 : decode cX7_text 76 = .ok (.aload 6, 2) := by decide +kernel
theorem dX7_text_78 : decode cX7_text 78 = .ok (.aload 4, 2) := by decide +kernel
theorem dX7_text_80 : decode cX7_text 80 = .ok (.iload_n 2, 1) := by decide +kernel
theorem dX7_text_81 : decode cX7_text 81 = .ok (.aload 5, 2) := by decide +kernel
theorem dX7_text_83 : decode cX7_text 83 = .ok (.getfield 222, 3) := by decide +kernel
theorem dX7_text_86 : decode cX7_text 86 = .ok (.invokestatic 215, 3) := by decide +kernel
theorem dX7_text_89 : decode cX7_text 89 = .ok (.iload_n 3, 1) := by decide +kernel
theorem dX7_text_90 : decode cX7_text 90 = .ok (.ifCond .lt 12, 3) := by decide +kernel
theorem dX7_text_93 : decode cX7_text 93 = .ok (.iload_n 3, 1) := by decide +kernel
theorem dX7_text_94 : decode cX7_text 94 = .ok (.aload 6, 2) := by decide +kernel
theorem dX7_text_96 : decode cX7_text 96 = .ok (.invokevirtual 225, 3) := by decide +kernel
theorem dX7_text_99 : decode cX7_text 99 = .ok (.if_icmp .lt 13, 3) := by decide +kernel
theorem dX7_text_102 : decode cX7_text 102 = .ok (.new 186, 3) := by decide +kernel
theorem dX7_text_105 : decode cX7_text 105 = .ok (.dup, 1) := by decide +kernel
theorem dX7_text_106 : decode cX7_text 106 = .ok (.ldc 229, 2) := by decide +kernel
theorem dX7_text_108 : decode cX7_text 108 = .ok (.invokespecial 190, 3) := by decide +kernel
theorem dX7_text_111 : decode cX7_text 111 = .ok (.athrow, 1) := by decide +kernel
theorem dX7_text_112 : decode cX7_text 112 = .ok (.aload 6, 2) := by decide +kernel
theorem dX7_text_114 : decode cX7_text 114 = .ok (.iload_n 3, 1) := by decide +kernel
theorem dX7_text_115 : decode cX7_text 115 = .ok (.invokevirtual 231, 3) := by decide +kernel
theorem dX7_text_118 : decode cX7_text 118 = .ok (.ireturn, 1) := by decide +kernel
theorem dX7_row_0 : decode cX7_row 0 = .ok (.aload_n 0, 1) := by decide +kernel
theorem dX7_row_1 : decode cX7_row 1 = .ok (.iload_n 1, 1) := by decide +kernel
theorem dX7_row_2 : decode cX7_row 2 = .ok (.invokevirtual 58, 3) := by decide +kernel
theorem dX7_row_5 : decode cX7_row 5 = .ok (.astore_n 3, 1) := by decide +kernel
theorem dX7_row_6 : decode cX7_row 6 = .ok (.aload_n 3, 1) := by decide +kernel
theorem dX7_row_7 : decode cX7_row 7 = .ok (.iload_n 2, 1) := by decide +kernel
theorem dX7_row_8 : decode cX7_row 8 = .ok (.invokevirtual 183, 3) := by decide +kernel
theorem dX7_row_11 : decode cX7_row 11 = .ok (.ifCond .ne 13, 3) := by decide +kernel
theorem dX7_row_14 : decode cX7_row 14 = .ok (.new 186, 3) := by decide +kernel
theorem dX7_row_17 : decode cX7_row 17 = .ok (.dup, 1) := by decide +kernel
theorem dX7_row_18 : decode cX7_row 18 = .ok (.ldc 188, 2) := by decide +kernel
theorem dX7_row_20 : decode cX7_row 20 = .ok (.invokespecial 190, 3) := by decide +kernel
theorem dX7_row_23 : decode cX7_row 23 = .ok (.athrow, 1) := by decide +kernel
theorem dX7_row_24 : decode cX7_row 24 = .ok (.aload_n 0, 1) := by decide +kernel
theorem dX7_row_25 : decode cX7_row 25 = .ok (.getfield 335, 3) := by decide +kernel
theorem dX7_row_28 : decode cX7_row 28 = .ok (.bipush 20, 2) := by decide +kernel
theorem dX7_row_30 : decode cX7_row 30 = .ok (.if_icmp .lt 14, 3) := by decide +kernel
theorem dX7_row_33 : decode cX7_row 33 = .ok (.new 50, 3) := by decide +kernel
theorem dX7_row_36 : decode cX7_row 36 = .ok (.dup, 1) := by decide +kernel
theorem dX7_row_37 : decode cX7_row 37 = .ok (.ldc_w 338, 3) := by decide +kernel
theorem dX7_row_40 : decode cX7_row 40 = .ok (.invokespecial 54, 3) := by decide +kernel
theorem dX7_row_43 : decode cX7_row 43 = .ok (.athrow, 1) := by decide +kernel
theorem dX7_row_44 : decode cX7_row 44 = .ok (.aload_n 0, 1) := by decide +kernel
theorem dX7_row_45 : decode cX7_row 45 = .ok (.getfield 335, 3) := by decide +kernel
theorem dX7_row_48 : decode cX7_row 48 = .ok (.istore 4, 2) := by decide +kernel
theorem dX7_row_50 : decode cX7_row 50 = .ok (.new 21, 3) := by decide +kernel
theorem dX7_row_53 : decode cX7_row 53 = .ok (.dup, 1) := by decide +kernel
theorem dX7_row_54 : decode cX7_row 54 = .ok (.aload_n 3, 1) := by decide +kernel
theorem dX7_row_55 : decode cX7_row 55 = .ok (.invokespecial 340, 3) := by decide +kernel
theorem dX7_row_58 : decode cX7_row 58 = .ok (.astore 5, 2) := by decide +kernel
theorem dX7_row_60 : decode cX7_row 60 = .ok (.aload 5, 2) := by decide +kernel
theorem dX7_row_62 : decode cX7_row 62 = .ok (.getfield 320, 3) := by decide +kernel
theorem dX7_row_65 : decode cX7_row 65 = .ok (.iload_n 2, 1) := by decide +kernel
theorem dX7_row_66 : decode cX7_row 66 = .ok (.putfield 323, 3) := by decide +kernel
theorem dX7_row_69 : decode cX7_row 69 = .ok (.iconst 0, 1) := by decide +kernel
theorem dX7_row_70 : decode cX7_row 70 = .ok (.istore 6, 2) := by decide +kernel
theorem dX7_row_72 : decode cX7_row 72 = .ok (.iload 6, 2) := by decide +kernel
theorem dX7_row_74 : decode cX7_row 74 = .ok (.bipush 26, 2) := by decide +kernel
theorem dX7_row_76 : decode cX7_row 76 = .ok (.if_icmp .ge 50, 3) := by decide +kernel
theorem dX7_row_79 : decode cX7_row 79 = .ok (.aload_n 3, 1) := by decide +kernel
theorem dX7_row_80 : decode cX7_row 80 = .ok (.iload_n 2, 1) := by decide +kernel
theorem dX7_row_81 : decode cX7_row 81 = .ok (.iload 6, 2) := by decide +kernel
theorem dX7_row_83 : decode cX7_row 83 = .ok (.invokevirtual 78, 3) := by decide +kernel
theorem dX7_row_86 : decode cX7_row 86 = .ok (.istore 7, 2) := by decide +kernel
theorem dX7_row_88 : decode cX7_row 88 = .ok (.iload 7, 2) := by decide +kernel
theorem dX7_row_90 : decode cX7_row 90 = .ok (.iconst (-1), 1) := by decide +kernel
theorem dX7_row_91 : decode cX7_row 91 = .ok (.if_icmp .eq 29, 3) := by decide +kernel
theorem dX7_row_94 : decode cX7_row 94 = .ok (.aload_n 3, 1) := by decide +kernel
theorem dX7_row_95 : decode cX7_row 95 = .ok (.iload_n 2, 1) := by decide +kernel
theorem dX7_row_96 : decode cX7_row 96 = .ok (.iload 7, 2) := by decide +kernel
theorem dX7_row_98 : decode cX7_row 98 = .ok (.invokevirtual 112, 3) := by decide +kernel
theorem dX7_row_101 : decode cX7_row 101 = .ok (.ifCond .eq 19, 3) := by decide +kernel
theorem dX7_row_104 : decode cX7_row 104 = .ok (.aload 5, 2) := by decide +kernel
theorem dX7_row_106 : decode cX7_row 106 = .ok (.getfield 320, 3) := by decide +kernel
theorem dX7_row_109 : decode cX7_row 109 = .ok (.iload 7, 2) := by decide +kernel
theorem dX7_row_111 : decode cX7_row 111 = .ok (.aload_n 3, 1) := by decide +kernel
theorem dX7_row_112 : decode cX7_row 112 = .ok (.iload 7, 2) := by decide +kernel
theorem dX7_row_114 : decode cX7_row 114 = .ok (.invokevirtual 129, 3) := by decide +kernel
theorem dX7_row_117 : decode cX7_row 117 = .ok (.invokevirtual 316, 3) := by decide +kernel
theorem dX7_row_120 : decode cX7_row 120 = .ok (.iinc 6 1, 3) := by decide +kernel
theorem dX7_row_123 : decode cX7_row 123 = .ok (.goto (-51), 3) := by decide +kernel
theorem dX7_row_126 : decode cX7_row 126 = .ok (.aload_n 0, 1) := by decide +kernel
theorem dX7_row_127 : decode cX7_row 127 = .ok (.getfield 23, 3) := by decide +kernel
theorem dX7_row_130 : decode cX7_row 130 = .ok (.iload 4, 2) := by decide +kernel
theorem dX7_row_132 : decode cX7_row 132 = .ok (.aload 5, 2) := by decide +kernel
theorem dX7_row_134 : decode cX7_row 134 = .ok (.aastore, 1) := by decide +kernel
theorem dX7_row_135 : decode cX7_row 135 = .ok (.aload_n 0, 1) := by decide +kernel
theorem dX7_row_136 : decode cX7_row 136 = .ok (.dup, 1) := by decide +kernel
theorem dX7_row_137 : decode cX7_row 137 = .ok (.getfield 335, 3) := by decide +kernel
theorem dX7_row_140 : decode cX7_row 140 = .ok (.iconst 1, 1) := by decide +kernel
theorem dX7_row_141 : decode cX7_row 141 = .ok (.iadd, 1) := by decide +kernel
theorem dX7_row_142 : decode cX7_row 142 = .ok (.putfield 335, 3) := by decide +kernel
theorem dX7_row_145 : decode cX7_row 145 = .ok (.iload 4, 2) := by decide +kernel
theorem dX7_row_147 : decode cX7_row 147 = .ok (.ireturn, 1) := by decide +kernel
theorem dX7_set_0 : decode cX7_set 0 = .ok (.aload_n 0, 1) := by decide +kernel
theorem dX7_set_1 : decode cX7_set 1 = .ok (.iload_n 1, 1) := by decide +kernel
theorem dX7_set_2 : decode cX7_set 2 = .ok (.invokevirtual 298, 3) := by decide +kernel
theorem dX7_set_5 : decode cX7_set 5 = .ok (.astore 4, 2) := by decide +kernel
theorem dX7_set_7 : decode cX7_set 7 = .ok (.aload 4, 2) := by decide +kernel
theorem dX7_set_9 : decode cX7_set 9 = .ok (.getfield 302, 3) := by decide +kernel
theorem dX7_set_12 : decode cX7_set 12 = .ok (.aload 4, 2) := by decide +kernel
theorem dX7_set_14 : decode cX7_set 14 = .ok (.getfield 320, 3) := by decide +kernel
theorem dX7_set_17 : decode cX7_set 17 = .ok (.getfield 323, 3) := by decide +kernel
theorem dX7_set_20 : decode cX7_set 20 = .ok (.iload_n 2, 1) := by decide +kernel
theorem dX7_set_21 : decode cX7_set 21 = .ok (.invokestatic 341, 3) := by decide +kernel
theorem dX7_set_24 : decode cX7_set 24 = .ok (.istore 5, 2) := by decide +kernel
theorem dX7_set_26 : decode cX7_set 26 = .ok (.iload_n 3, 1) := by decide +kernel
theorem dX7_set_27 : decode cX7_set 27 = .ok (.iconst (-1), 1) := by decide +kernel
theorem dX7_set_28 : decode cX7_set 28 = .ok (.if_icmp .ne 28, 3) := by decide +kernel
theorem dX7_set_31 : decode cX7_set 31 = .ok (.aload 4, 2) := by decide +kernel
theorem dX7_set_33 : decode cX7_set 33 = .ok (.getfield 302, 3) := by decide +kernel
theorem dX7_set_36 : decode cX7_set 36 = .ok (.aload 4, 2) := by decide +kernel
theorem dX7_set_38 : decode cX7_set 38 = .ok (.getfield 320, 3) := by decide +kernel
theorem dX7_set_41 : decode cX7_set 41 = .ok (.getfield 323, 3) := by decide +kernel
theorem dX7_set_44 : decode cX7_set 44 = .ok (.iload 5, 2) := by decide +kernel
theorem dX7_set_46 : decode cX7_set 46 = .ok (.invokevirtual 112, 3) := by decide +kernel
theorem dX7_set_49 : decode cX7_set 49 = .ok (.ifCond .ne 7, 3) := by decide +kernel
theorem dX7_set_52 : decode cX7_set 52 = .ok (.iconst 1, 1) := by decide +kernel
theorem dX7_set_53 : decode cX7_set 53 = .ok (.goto 4, 3) := by decide +kernel
theorem dX7_set_56 : decode cX7_set 56 = .ok (.iconst 0, 1) := by decide +kernel
theorem dX7_set_57 : decode cX7_set 57 = .ok (.istore 6, 2) := by decide +kernel
theorem dX7_set_59 : decode cX7_set 59 = .ok (.iload 6, 2) := by decide +kernel
theorem dX7_set_61 : decode cX7_set 61 = .ok (.ifCond .ne 31, 3) := by decide +kernel
theorem dX7_set_64 : decode cX7_set 64 = .ok (.aload 4, 2) := by decide +kernel
theorem dX7_set_66 : decode cX7_set 66 = .ok (.getfield 302, 3) := by decide +kernel
theorem dX7_set_69 : decode cX7_set 69 = .ok (.iload 5, 2) := by decide +kernel
theorem dX7_set_71 : decode cX7_set 71 = .ok (.invokevirtual 120, 3) := by decide +kernel
theorem dX7_set_74 : decode cX7_set 74 = .ok (.iload_n 3, 1) := by decide +kernel
theorem dX7_set_75 : decode cX7_set 75 = .ok (.invokestatic 66, 3) := by decide +kernel
theorem dX7_set_78 : decode cX7_set 78 = .ok (.ifCond .ne 14, 3) := by decide +kernel
theorem dX7_set_81 : decode cX7_set 81 = .ok (.new 70, 3) := by decide +kernel
theorem dX7_set_84 : decode cX7_set 84 = .ok (.dup, 1) := by decide +kernel
theorem dX7_set_85 : decode cX7_set 85 = .ok (.ldc_w 345, 3) := by decide +kernel
theorem dX7_set_88 : decode cX7_set 88 = .ok (.invokespecial 74, 3) := by decide +kernel
theorem dX7_set_91 : decode cX7_set 91 = .ok (.athrow, 1) := by decide +kernel
theorem dX7_set_92 : decode cX7_set 92 = .ok (.aload 4, 2) := by decide +kernel
theorem dX7_set_94 : decode cX7_set 94 = .ok (.getfield 320, 3) := by decide +kernel
theorem dX7_set_97 : decode cX7_set 97 = .ok (.iload 5, 2) := by decide +kernel
theorem dX7_set_99 : decode cX7_set 99 = .ok (.invokevirtual 309, 3) := by decide +kernel
theorem dX7_set_102 : decode cX7_set 102 = .ok (.istore 7, 2) := by decide +kernel
theorem dX7_set_104 : decode cX7_set 104 = .ok (.aload 4, 2) := by decide +kernel
theorem dX7_set_106 : decode cX7_set 106 = .ok (.getfield 320, 3) := by decide +kernel
theorem dX7_set_109 : decode cX7_set 109 = .ok (.iload 5, 2) := by decide +kernel
theorem dX7_set_111 : decode cX7_set 111 = .ok (.iload_n 3, 1) := by decide +kernel
theorem dX7_set_112 : decode cX7_set 112 = .ok (.invokevirtual 316, 3) := by decide +kernel
theorem dX7_set_115 : decode cX7_set 115 = .ok (.aload 4, 2) := by decide +kernel
theorem dX7_set_117 : decode cX7_set 117 = .ok (.iconst (-1), 1) := by decide +kernel
theorem dX7_set_118 : decode cX7_set 118 = .ok (.putfield 332, 3) := by decide +kernel
theorem dX7_set_121 : decode cX7_set 121 = .ok (.iload 7, 2) := by decide +kernel
theorem dX7_set_123 : decode cX7_set 123 = .ok (.ireturn, 1) := by decide +kernel
theorem dX7_value_0 : decode cX7_value 0 = .ok (.aload_n 0, 1) := by decide +kernel
theorem dX7_value_1 : decode cX7_value 1 = .ok (.iload_n 1, 1) := by decide +kernel
theorem dX7_value_2 : decode cX7_value 2 = .ok (.invokevirtual 298, 3) := by decide +kernel
theorem dX7_value_5 : decode cX7_value 5 = .ok (.astore 4, 2) := by decide +kernel
theorem dX7_value_7 : decode cX7_value 7 = .ok (.aload 4, 2) := by decide +kernel
theorem dX7_value_9 : decode cX7_value 9 = .ok (.getfield 302, 3) := by decide +kernel
theorem dX7_value_12 : decode cX7_value 12 = .ok (.iload_n 2, 1) := by decide +kernel
theorem dX7_value_13 : decode cX7_value 13 = .ok (.iload_n 3, 1) := by decide +kernel
theorem dX7_value_14 : decode cX7_value 14 = .ok (.invokestatic 341, 3) := by decide +kernel
theorem dX7_value_17 : decode cX7_value 17 = .ok (.istore 5, 2) := by decide +kernel
theorem dX7_value_19 : decode cX7_value 19 = .ok (.aload_n 0, 1) := by decide +kernel
theorem dX7_value_20 : decode cX7_value 20 = .ok (.aload 4, 2) := by decide +kernel
theorem dX7_value_22 : decode cX7_value 22 = .ok (.iload_n 2, 1) := by decide +kernel
theorem dX7_value_23 : decode cX7_value 23 = .ok (.invokevirtual 305, 3) := by decide +kernel
theorem dX7_value_26 : decode cX7_value 26 = .ok (.aload_n 0, 1) := by decide +kernel
theorem dX7_value_27 : decode cX7_value 27 = .ok (.getfield 42, 3) := by decide +kernel
theorem dX7_value_30 : decode cX7_value 30 = .ok (.iload 5, 2) := by decide +kernel
theorem dX7_value_32 : decode cX7_value 32 = .ok (.invokevirtual 309, 3) := by decide +kernel
theorem dX7_value_35 : decode cX7_value 35 = .ok (.ireturn, 1) := by decide +kernel
theorem dX7_replayed_0 : decode cX7_replayed 0 = .ok (.aload_n 0, 1) := by decide +kernel
theorem dX7_replayed_1 : decode cX7_replayed 1 = .ok (.iload_n 1, 1) := by decide +kernel
theorem dX7_replayed_2 : decode cX7_replayed 2 = .ok (.invokevirtual 298, 3) := by decide +kernel
theorem dX7_replayed_5 : decode cX7_replayed 5 = .ok (.astore_n 3, 1) := by decide +kernel
theorem dX7_replayed_6 : decode cX7_replayed 6 = .ok (.aload_n 3, 1) := by decide +kernel
theorem dX7_replayed_7 : decode cX7_replayed 7 = .ok (.getfield 302, 3) := by decide +kernel
theorem dX7_replayed_10 : decode cX7_replayed 10 = .ok (.aload_n 3, 1) := by decide +kernel
theorem dX7_replayed_11 : decode cX7_replayed 11 = .ok (.getfield 320, 3) := by decide +kernel
theorem dX7_replayed_14 : decode cX7_replayed 14 = .ok (.getfield 323, 3) := by decide +kernel
theorem dX7_replayed_17 : decode cX7_replayed 17 = .ok (.iload_n 2, 1) := by decide +kernel
theorem dX7_replayed_18 : decode cX7_replayed 18 = .ok (.invokestatic 341, 3) := by decide +kernel
theorem dX7_replayed_21 : decode cX7_replayed 21 = .ok (.istore 4, 2) := by decide +kernel
theorem dX7_replayed_23 : decode cX7_replayed 23 = .ok (.aload_n 3, 1) := by decide +kernel
theorem dX7_replayed_24 : decode cX7_replayed 24 = .ok (.getfield 320, 3) := by decide +kernel
theorem dX7_replayed_27 : decode cX7_replayed 27 = .ok (.iload 4, 2) := by decide +kernel
theorem dX7_replayed_29 : decode cX7_replayed 29 = .ok (.invokevirtual 309, 3) := by decide +kernel
theorem dX7_replayed_32 : decode cX7_replayed 32 = .ok (.ireturn, 1) := by decide +kernel
theorem dX7_standing_0 : decode cX7_standing 0 = .ok (.aload_n 0, 1) := by decide +kernel
theorem dX7_standing_1 : decode cX7_standing 1 = .ok (.iload_n 1, 1) := by decide +kernel
theorem dX7_standing_2 : decode cX7_standing 2 = .ok (.invokevirtual 298, 3) := by decide +kernel
theorem dX7_standing_5 : decode cX7_standing 5 = .ok (.astore_n 2, 1) := by decide +kernel
theorem dX7_standing_6 : decode cX7_standing 6 = .ok (.sipush 10000, 3) := by decide +kernel
theorem dX7_standing_9 : decode cX7_standing 9 = .ok (.aload_n 2, 1) := by decide +kernel
theorem dX7_standing_10 : decode cX7_standing 10 = .ok (.getfield 320, 3) := by decide +kernel
theorem dX7_standing_13 : decode cX7_standing 13 = .ok (.getfield 323, 3) := by decide +kernel
theorem dX7_standing_16 : decode cX7_standing 16 = .ok (.imul, 1) := by decide +kernel
theorem dX7_standing_17 : decode cX7_standing 17 = .ok (.bipush 100, 2) := by decide +kernel
theorem dX7_standing_19 : decode cX7_standing 19 = .ok (.aload_n 2, 1) := by decide +kernel
theorem dX7_standing_20 : decode cX7_standing 20 = .ok (.getfield 320, 3) := by decide +kernel
theorem dX7_standing_23 : decode cX7_standing 23 = .ok (.invokevirtual 347, 3) := by decide +kernel
theorem dX7_standing_26 : decode cX7_standing 26 = .ok (.imul, 1) := by decide +kernel
theorem dX7_standing_27 : decode cX7_standing 27 = .ok (.iadd, 1) := by decide +kernel
theorem dX7_standing_28 : decode cX7_standing 28 = .ok (.aload_n 2, 1) := by decide +kernel
theorem dX7_standing_29 : decode cX7_standing 29 = .ok (.getfield 320, 3) := by decide +kernel
theorem dX7_standing_32 : decode cX7_standing 32 = .ok (.getfield 350, 3) := by decide +kernel
theorem dX7_standing_35 : decode cX7_standing 35 = .ok (.iadd, 1) := by decide +kernel
theorem dX7_standing_36 : decode cX7_standing 36 = .ok (.ireturn, 1) := by decide +kernel
theorem dX7_mover_0 : decode cX7_mover 0 = .ok (.aload_n 0, 1) := by decide +kernel
theorem dX7_mover_1 : decode cX7_mover 1 = .ok (.iload_n 1, 1) := by decide +kernel
theorem dX7_mover_2 : decode cX7_mover 2 = .ok (.invokevirtual 58, 3) := by decide +kernel
theorem dX7_mover_5 : decode cX7_mover 5 = .ok (.astore_n 3, 1) := by decide +kernel
theorem dX7_mover_6 : decode cX7_mover 6 = .ok (.aload_n 3, 1) := by decide +kernel
theorem dX7_mover_7 : decode cX7_mover 7 = .ok (.iload_n 2, 1) := by decide +kernel
theorem dX7_mover_8 : decode cX7_mover 8 = .ok (.invokevirtual 183, 3) := by decide +kernel
theorem dX7_mover_11 : decode cX7_mover 11 = .ok (.ifCond .ne 13, 3) := by decide +kernel
theorem dX7_mover_14 : decode cX7_mover 14 = .ok (.new 186, 3) := by decide +kernel
theorem dX7_mover_17 : decode cX7_mover 17 = .ok (.dup, 1) := by decide +kernel
theorem dX7_mover_18 : decode cX7_mover 18 = .ok (.ldc 188, 2) := by decide +kernel
theorem dX7_mover_20 : decode cX7_mover 20 = .ok (.invokespecial 190, 3) := by decide +kernel
theorem dX7_mover_23 : decode cX7_mover 23 = .ok (.athrow, 1) := by decide +kernel
theorem dX7_mover_24 : decode cX7_mover 24 = .ok (.aload_n 0, 1) := by decide +kernel
theorem dX7_mover_25 : decode cX7_mover 25 = .ok (.getfield 353, 3) := by decide +kernel
theorem dX7_mover_28 : decode cX7_mover 28 = .ok (.bipush 8, 2) := by decide +kernel
theorem dX7_mover_30 : decode cX7_mover 30 = .ok (.if_icmp .lt 14, 3) := by decide +kernel
theorem dX7_mover_33 : decode cX7_mover 33 = .ok (.new 50, 3) := by decide +kernel
theorem dX7_mover_36 : decode cX7_mover 36 = .ok (.dup, 1) := by decide +kernel
theorem dX7_mover_37 : decode cX7_mover 37 = .ok (.ldc_w 356, 3) := by decide +kernel
theorem dX7_mover_40 : decode cX7_mover 40 = .ok (.invokespecial 54, 3) := by decide +kernel
theorem dX7_mover_43 : decode cX7_mover 43 = .ok (.athrow, 1) := by decide +kernel
theorem dX7_mover_44 : decode cX7_mover 44 = .ok (.aload_n 0, 1) := by decide +kernel
theorem dX7_mover_45 : decode cX7_mover 45 = .ok (.getfield 353, 3) := by decide +kernel
theorem dX7_mover_48 : decode cX7_mover 48 = .ok (.istore 4, 2) := by decide +kernel
theorem dX7_mover_50 : decode cX7_mover 50 = .ok (.aload_n 0, 1) := by decide +kernel
theorem dX7_mover_51 : decode cX7_mover 51 = .ok (.getfield 29, 3) := by decide +kernel
theorem dX7_mover_54 : decode cX7_mover 54 = .ok (.iload 4, 2) := by decide +kernel
theorem dX7_mover_56 : decode cX7_mover 56 = .ok (.new 27, 3) := by decide +kernel
theorem dX7_mover_59 : decode cX7_mover 59 = .ok (.dup, 1) := by decide +kernel
theorem dX7_mover_60 : decode cX7_mover 60 = .ok (.aload_n 3, 1) := by decide +kernel
theorem dX7_mover_61 : decode cX7_mover 61 = .ok (.iload_n 2, 1) := by decide +kernel
theorem dX7_mover_62 : decode cX7_mover 62 = .ok (.invokespecial 358, 3) := by decide +kernel
theorem dX7_mover_65 : decode cX7_mover 65 = .ok (.aastore, 1) := by decide +kernel
theorem dX7_mover_66 : decode cX7_mover 66 = .ok (.aload_n 0, 1) := by decide +kernel
theorem dX7_mover_67 : decode cX7_mover 67 = .ok (.dup, 1) := by decide +kernel
theorem dX7_mover_68 : decode cX7_mover 68 = .ok (.getfield 353, 3) := by decide +kernel
theorem dX7_mover_71 : decode cX7_mover 71 = .ok (.iconst 1, 1) := by decide +kernel
theorem dX7_mover_72 : decode cX7_mover 72 = .ok (.iadd, 1) := by decide +kernel
theorem dX7_mover_73 : decode cX7_mover 73 = .ok (.putfield 353, 3) := by decide +kernel
theorem dX7_mover_76 : decode cX7_mover 76 = .ok (.iload 4, 2) := by decide +kernel
theorem dX7_mover_78 : decode cX7_mover 78 = .ok (.ireturn, 1) := by decide +kernel
theorem dX7_step_0 : decode cX7_step 0 = .ok (.aload_n 0, 1) := by decide +kernel
theorem dX7_step_1 : decode cX7_step 1 = .ok (.iload_n 1, 1) := by decide +kernel
theorem dX7_step_2 : decode cX7_step 2 = .ok (.invokevirtual 361, 3) := by decide +kernel
theorem dX7_step_5 : decode cX7_step 5 = .ok (.astore_n 2, 1) := by decide +kernel
theorem dX7_step_6 : decode cX7_step 6 = .ok (.aload_n 0, 1) := by decide +kernel
theorem dX7_step_7 : decode cX7_step 7 = .ok (.aload_n 2, 1) := by decide +kernel
theorem dX7_step_8 : decode cX7_step 8 = .ok (.invokevirtual 365, 3) := by decide +kernel
theorem dX7_step_11 : decode cX7_step 11 = .ok (.istore_n 3, 1) := by decide +kernel
theorem dX7_step_12 : decode cX7_step 12 = .ok (.iload_n 3, 1) := by decide +kernel
theorem dX7_step_13 : decode cX7_step 13 = .ok (.ifCond .lt 21, 3) := by decide +kernel
theorem dX7_step_16 : decode cX7_step 16 = .ok (.iload_n 3, 1) := by decide +kernel
theorem dX7_step_17 : decode cX7_step 17 = .ok (.aload_n 0, 1) := by decide +kernel
theorem dX7_step_18 : decode cX7_step 18 = .ok (.getfield 23, 3) := by decide +kernel
theorem dX7_step_21 : decode cX7_step 21 = .ok (.arraylength, 1) := by decide +kernel
theorem dX7_step_22 : decode cX7_step 22 = .ok (.if_icmp .ge 12, 3) := by decide +kernel
theorem dX7_step_25 : decode cX7_step 25 = .ok (.aload_n 0, 1) := by decide +kernel
theorem dX7_step_26 : decode cX7_step 26 = .ok (.getfield 23, 3) := by decide +kernel
theorem dX7_step_29 : decode cX7_step 29 = .ok (.iload_n 3, 1) := by decide +kernel
theorem dX7_step_30 : decode cX7_step 30 = .ok (.aaload, 1) := by decide +kernel
theorem dX7_step_31 : decode cX7_step 31 = .ok (.goto 4, 3) := by decide +kernel
theorem dX7_step_34 : decode cX7_step 34 = .ok (.aconst_null, 1) := by decide +kernel
theorem dX7_step_35 : decode cX7_step 35 = .ok (.astore 4, 2) := by decide +kernel
theorem dX7_step_37 : decode cX7_step 37 = .ok (.aload 4, 2) := by decide +kernel
theorem dX7_step_39 : decode cX7_step 39 = .ok (.ifnull 13, 3) := by decide +kernel
theorem dX7_step_42 : decode cX7_step 42 = .ok (.aload_n 0, 1) := by decide +kernel
theorem dX7_step_43 : decode cX7_step 43 = .ok (.getfield 369, 3) := by decide +kernel
theorem dX7_step_46 : decode cX7_step 46 = .ok (.sipush 512, 3) := by decide +kernel
theorem dX7_step_49 : decode cX7_step 49 = .ok (.if_icmp .lt 14, 3) := by decide +kernel
theorem dX7_step_52 : decode cX7_step 52 = .ok (.new 50, 3) := by decide +kernel
theorem dX7_step_55 : decode cX7_step 55 = .ok (.dup, 1) := by decide +kernel
theorem dX7_step_56 : decode cX7_step 56 = .ok (.ldc_w 372, 3) := by decide +kernel
theorem dX7_step_59 : decode cX7_step 59 = .ok (.invokespecial 54, 3) := by decide +kernel
theorem dX7_step_62 : decode cX7_step 62 = .ok (.athrow, 1) := by decide +kernel
theorem dX7_step_63 : decode cX7_step 63 = .ok (.new 33, 3) := by decide +kernel
theorem dX7_step_66 : decode cX7_step 66 = .ok (.dup, 1) := by decide +kernel
theorem dX7_step_67 : decode cX7_step 67 = .ok (.iload_n 3, 1) := by decide +kernel
theorem dX7_step_68 : decode cX7_step 68 = .ok (.aload_n 2, 1) := by decide +kernel
theorem dX7_step_69 : decode cX7_step 69 = .ok (.getfield 374, 3) := by decide +kernel
theorem dX7_step_72 : decode cX7_step 72 = .ok (.aload 4, 2) := by decide +kernel
theorem dX7_step_74 : decode cX7_step 74 = .ok (.getfield 332, 3) := by decide +kernel
theorem dX7_step_77 : decode cX7_step 77 = .ok (.invokespecial 375, 3) := by decide +kernel
theorem dX7_step_80 : decode cX7_step 80 = .ok (.astore 5, 2) := by decide +kernel
theorem dX7_step_82 : decode cX7_step 82 = .ok (.aload 5, 2) := by decide +kernel
theorem dX7_step_84 : decode cX7_step 84 = .ok (.getfield 378, 3) := by decide +kernel
theorem dX7_step_87 : decode cX7_step 87 = .ok (.aload 4, 2) := by decide +kernel
theorem dX7_step_89 : decode cX7_step 89 = .ok (.getfield 320, 3) := by decide +kernel
theorem dX7_step_92 : decode cX7_step 92 = .ok (.invokevirtual 328, 3) := by decide +kernel
theorem dX7_step_95 : decode cX7_step 95 = .ok (.aload_n 0, 1) := by decide +kernel
theorem dX7_step_96 : decode cX7_step 96 = .ok (.getfield 35, 3) := by decide +kernel
theorem dX7_step_99 : decode cX7_step 99 = .ok (.aload_n 0, 1) := by decide +kernel
theorem dX7_step_100 : decode cX7_step 100 = .ok (.getfield 369, 3) := by decide +kernel
theorem dX7_step_103 : decode cX7_step 103 = .ok (.aload 5, 2) := by decide +kernel
theorem dX7_step_105 : decode cX7_step 105 = .ok (.aastore, 1) := by decide +kernel
theorem dX7_step_106 : decode cX7_step 106 = .ok (.aload 4, 2) := by decide +kernel
theorem dX7_step_108 : decode cX7_step 108 = .ok (.getfield 302, 3) := by decide +kernel
theorem dX7_step_111 : decode cX7_step 111 = .ok (.aload 4, 2) := by decide +kernel
theorem dX7_step_113 : decode cX7_step 113 = .ok (.getfield 320, 3) := by decide +kernel
theorem dX7_step_116 : decode cX7_step 116 = .ok (.aload 4, 2) := by decide +kernel
theorem dX7_step_118 : decode cX7_step 118 = .ok (.getfield 320, 3) := by decide +kernel
theorem dX7_step_121 : decode cX7_step 121 = .ok (.getfield 323, 3) := by decide +kernel
theorem dX7_step_124 : decode cX7_step 124 = .ok (.aload_n 2, 1) := by decide +kernel
theorem dX7_step_125 : decode cX7_step 125 = .ok (.getfield 381, 3) := by decide +kernel
theorem dX7_step_128 : decode cX7_step 128 = .ok (.if_icmp .ge 7, 3) := by decide +kernel
theorem dX7_step_131 : decode cX7_step 131 = .ok (.iconst 1, 1) := by decide +kernel
theorem dX7_step_132 : decode cX7_step 132 = .ok (.goto 4, 3) := by decide +kernel
theorem dX7_step_135 : decode cX7_step 135 = .ok (.iconst 0, 1) := by decide +kernel
theorem dX7_step_136 : decode cX7_step 136 = .ok (.invokevirtual 384, 3) := by decide +kernel
theorem dX7_step_139 : decode cX7_step 139 = .ok (.aload_n 2, 1) := by decide +kernel
theorem dX7_step_140 : decode cX7_step 140 = .ok (.aload_n 0, 1) := by decide +kernel
theorem dX7_step_141 : decode cX7_step 141 = .ok (.getfield 369, 3) := by decide +kernel
theorem dX7_step_144 : decode cX7_step 144 = .ok (.putfield 374, 3) := by decide +kernel
theorem dX7_step_147 : decode cX7_step 147 = .ok (.aload 4, 2) := by decide +kernel
theorem dX7_step_149 : decode cX7_step 149 = .ok (.aload_n 0, 1) := by decide +kernel
theorem dX7_step_150 : decode cX7_step 150 = .ok (.getfield 369, 3) := by decide +kernel
theorem dX7_step_153 : decode cX7_step 153 = .ok (.putfield 332, 3) := by decide +kernel
theorem dX7_step_156 : decode cX7_step 156 = .ok (.aload_n 0, 1) := by decide +kernel
theorem dX7_step_157 : decode cX7_step 157 = .ok (.dup, 1) := by decide +kernel
theorem dX7_step_158 : decode cX7_step 158 = .ok (.getfield 369, 3) := by decide +kernel
theorem dX7_step_161 : decode cX7_step 161 = .ok (.iconst 1, 1) := by decide +kernel
theorem dX7_step_162 : decode cX7_step 162 = .ok (.iadd, 1) := by decide +kernel
theorem dX7_step_163 : decode cX7_step 163 = .ok (.putfield 369, 3) := by decide +kernel
theorem dX7_step_166 : decode cX7_step 166 = .ok (.iload_n 3, 1) := by decide +kernel
theorem dX7_step_167 : decode cX7_step 167 = .ok (.ireturn, 1) := by decide +kernel
theorem dX7_undo_0 : decode cX7_undo 0 = .ok (.aload_n 0, 1) := by decide +kernel
theorem dX7_undo_1 : decode cX7_undo 1 = .ok (.iload_n 1, 1) := by decide +kernel
theorem dX7_undo_2 : decode cX7_undo 2 = .ok (.invokevirtual 361, 3) := by decide +kernel
theorem dX7_undo_5 : decode cX7_undo 5 = .ok (.astore_n 2, 1) := by decide +kernel
theorem dX7_undo_6 : decode cX7_undo 6 = .ok (.aload_n 0, 1) := by decide +kernel
theorem dX7_undo_7 : decode cX7_undo 7 = .ok (.aload_n 2, 1) := by decide +kernel
theorem dX7_undo_8 : decode cX7_undo 8 = .ok (.getfield 374, 3) := by decide +kernel
theorem dX7_undo_11 : decode cX7_undo 11 = .ok (.invokevirtual 388, 3) := by decide +kernel
theorem dX7_undo_14 : decode cX7_undo 14 = .ok (.astore_n 3, 1) := by decide +kernel
theorem dX7_undo_15 : decode cX7_undo 15 = .ok (.aload_n 3, 1) := by decide +kernel
theorem dX7_undo_16 : decode cX7_undo 16 = .ok (.ifnonnull 14, 3) := by decide +kernel
theorem dX7_undo_19 : decode cX7_undo 19 = .ok (.new 50, 3) := by decide +kernel
theorem dX7_undo_22 : decode cX7_undo 22 = .ok (.dup, 1) := by decide +kernel
theorem dX7_undo_23 : decode cX7_undo 23 = .ok (.ldc_w 392, 3) := by decide +kernel
theorem dX7_undo_26 : decode cX7_undo 26 = .ok (.invokespecial 54, 3) := by decide +kernel
theorem dX7_undo_29 : decode cX7_undo 29 = .ok (.athrow, 1) := by decide +kernel
theorem dX7_undo_30 : decode cX7_undo 30 = .ok (.aload_n 0, 1) := by decide +kernel
theorem dX7_undo_31 : decode cX7_undo 31 = .ok (.aload_n 3, 1) := by decide +kernel
theorem dX7_undo_32 : decode cX7_undo 32 = .ok (.getfield 394, 3) := by decide +kernel
theorem dX7_undo_35 : decode cX7_undo 35 = .ok (.invokevirtual 298, 3) := by decide +kernel
theorem dX7_undo_38 : decode cX7_undo 38 = .ok (.astore 4, 2) := by decide +kernel
theorem dX7_undo_40 : decode cX7_undo 40 = .ok (.aload 4, 2) := by decide +kernel
theorem dX7_undo_42 : decode cX7_undo 42 = .ok (.getfield 332, 3) := by decide +kernel
theorem dX7_undo_45 : decode cX7_undo 45 = .ok (.aload_n 2, 1) := by decide +kernel
theorem dX7_undo_46 : decode cX7_undo 46 = .ok (.getfield 374, 3) := by decide +kernel
theorem dX7_undo_49 : decode cX7_undo 49 = .ok (.if_icmp .eq 14, 3) := by decide +kernel
theorem dX7_undo_52 : decode cX7_undo 52 = .ok (.new 50, 3) := by decide +kernel
theorem dX7_undo_55 : decode cX7_undo 55 = .ok (.dup, 1) := by decide +kernel
theorem dX7_undo_56 : decode cX7_undo 56 = .ok (.ldc_w 397, 3) := by decide +kernel
theorem dX7_undo_59 : decode cX7_undo 59 = .ok (.invokespecial 54, 3) := by decide +kernel
theorem dX7_undo_62 : decode cX7_undo 62 = .ok (.athrow, 1) := by decide +kernel
theorem dX7_undo_63 : decode cX7_undo 63 = .ok (.aload 4, 2) := by decide +kernel
theorem dX7_undo_65 : decode cX7_undo 65 = .ok (.getfield 320, 3) := by decide +kernel
theorem dX7_undo_68 : decode cX7_undo 68 = .ok (.aload_n 3, 1) := by decide +kernel
theorem dX7_undo_69 : decode cX7_undo 69 = .ok (.getfield 378, 3) := by decide +kernel
theorem dX7_undo_72 : decode cX7_undo 72 = .ok (.invokevirtual 328, 3) := by decide +kernel
theorem dX7_undo_75 : decode cX7_undo 75 = .ok (.aload 4, 2) := by decide +kernel
theorem dX7_undo_77 : decode cX7_undo 77 = .ok (.aload_n 3, 1) := by decide +kernel
theorem dX7_undo_78 : decode cX7_undo 78 = .ok (.getfield 399, 3) := by decide +kernel
theorem dX7_undo_81 : decode cX7_undo 81 = .ok (.putfield 332, 3) := by decide +kernel
theorem dX7_undo_84 : decode cX7_undo 84 = .ok (.aload_n 2, 1) := by decide +kernel
theorem dX7_undo_85 : decode cX7_undo 85 = .ok (.aload_n 3, 1) := by decide +kernel
theorem dX7_undo_86 : decode cX7_undo 86 = .ok (.getfield 402, 3) := by decide +kernel
theorem dX7_undo_89 : decode cX7_undo 89 = .ok (.putfield 374, 3) := by decide +kernel
theorem dX7_undo_92 : decode cX7_undo 92 = .ok (.aload_n 3, 1) := by decide +kernel
theorem dX7_undo_93 : decode cX7_undo 93 = .ok (.getfield 394, 3) := by decide +kernel
theorem dX7_undo_96 : decode cX7_undo 96 = .ok (.ireturn, 1) := by decide +kernel
theorem dX7_schemaAt_0 : decode cX7_schemaAt 0 = .ok (.iload_n 1, 1) := by decide +kernel
theorem dX7_schemaAt_1 : decode cX7_schemaAt 1 = .ok (.ifCond .lt 21, 3) := by decide +kernel
theorem dX7_schemaAt_4 : decode cX7_schemaAt 4 = .ok (.iload_n 1, 1) := by decide +kernel
theorem dX7_schemaAt_5 : decode cX7_schemaAt 5 = .ok (.aload_n 0, 1) := by decide +kernel
theorem dX7_schemaAt_6 : decode cX7_schemaAt 6 = .ok (.getfield 11, 3) := by decide +kernel
theorem dX7_schemaAt_9 : decode cX7_schemaAt 9 = .ok (.arraylength, 1) := by decide +kernel
theorem dX7_schemaAt_10 : decode cX7_schemaAt 10 = .ok (.if_icmp .ge 12, 3) := by decide +kernel
theorem dX7_schemaAt_13 : decode cX7_schemaAt 13 = .ok (.aload_n 0, 1) := by decide +kernel
theorem dX7_schemaAt_14 : decode cX7_schemaAt 14 = .ok (.getfield 11, 3) := by decide +kernel
theorem dX7_schemaAt_17 : decode cX7_schemaAt 17 = .ok (.iload_n 1, 1) := by decide +kernel
theorem dX7_schemaAt_18 : decode cX7_schemaAt 18 = .ok (.aaload, 1) := by decide +kernel
theorem dX7_schemaAt_19 : decode cX7_schemaAt 19 = .ok (.goto 4, 3) := by decide +kernel
theorem dX7_schemaAt_22 : decode cX7_schemaAt 22 = .ok (.aconst_null, 1) := by decide +kernel
theorem dX7_schemaAt_23 : decode cX7_schemaAt 23 = .ok (.astore_n 2, 1) := by decide +kernel
theorem dX7_schemaAt_24 : decode cX7_schemaAt 24 = .ok (.aload_n 2, 1) := by decide +kernel
theorem dX7_schemaAt_25 : decode cX7_schemaAt 25 = .ok (.ifnonnull 14, 3) := by decide +kernel
theorem dX7_schemaAt_28 : decode cX7_schemaAt 28 = .ok (.new 186, 3) := by decide +kernel
theorem dX7_schemaAt_31 : decode cX7_schemaAt 31 = .ok (.dup, 1) := by decide +kernel
theorem dX7_schemaAt_32 : decode cX7_schemaAt 32 = .ok (.ldc_w 405, 3) := by decide +kernel
theorem dX7_schemaAt_35 : decode cX7_schemaAt 35 = .ok (.invokespecial 190, 3) := by decide +kernel
theorem dX7_schemaAt_38 : decode cX7_schemaAt 38 = .ok (.athrow, 1) := by decide +kernel
theorem dX7_schemaAt_39 : decode cX7_schemaAt 39 = .ok (.aload_n 2, 1) := by decide +kernel
theorem dX7_schemaAt_40 : decode cX7_schemaAt 40 = .ok (.areturn, 1) := by decide +kernel
theorem dX7_rowAt_0 : decode cX7_rowAt 0 = .ok (.iload_n 1, 1) := by decide +kernel
theorem dX7_rowAt_1 : decode cX7_rowAt 1 = .ok (.ifCond .lt 21, 3) := by decide +kernel
theorem dX7_rowAt_4 : decode cX7_rowAt 4 = .ok (.iload_n 1, 1) := by decide +kernel
theorem dX7_rowAt_5 : decode cX7_rowAt 5 = .ok (.aload_n 0, 1) := by decide +kernel
theorem dX7_rowAt_6 : decode cX7_rowAt 6 = .ok (.getfield 23, 3) := by decide +kernel
theorem dX7_rowAt_9 : decode cX7_rowAt 9 = .ok (.arraylength, 1) := by decide +kernel
theorem dX7_rowAt_10 : decode cX7_rowAt 10 = .ok (.if_icmp .ge 12, 3) := by decide +kernel
theorem dX7_rowAt_13 : decode cX7_rowAt 13 = .ok (.aload_n 0, 1) := by decide +kernel
theorem dX7_rowAt_14 : decode cX7_rowAt 14 = .ok (.getfield 23, 3) := by decide +kernel
theorem dX7_rowAt_17 : decode cX7_rowAt 17 = .ok (.iload_n 1, 1) := by decide +kernel
theorem dX7_rowAt_18 : decode cX7_rowAt 18 = .ok (.aaload, 1) := by decide +kernel
theorem dX7_rowAt_19 : decode cX7_rowAt 19 = .ok (.goto 4, 3) := by decide +kernel
theorem dX7_rowAt_22 : decode cX7_rowAt 22 = .ok (.aconst_null, 1) := by decide +kernel
theorem dX7_rowAt_23 : decode cX7_rowAt 23 = .ok (.astore_n 2, 1) := by decide +kernel
theorem dX7_rowAt_24 : decode cX7_rowAt 24 = .ok (.aload_n 2, 1) := by decide +kernel
theorem dX7_rowAt_25 : decode cX7_rowAt 25 = .ok (.ifnonnull 14, 3) := by decide +kernel
theorem dX7_rowAt_28 : decode cX7_rowAt 28 = .ok (.new 186, 3) := by decide +kernel
theorem dX7_rowAt_31 : decode cX7_rowAt 31 = .ok (.dup, 1) := by decide +kernel
theorem dX7_rowAt_32 : decode cX7_rowAt 32 = .ok (.ldc_w 409, 3) := by decide +kernel
theorem dX7_rowAt_35 : decode cX7_rowAt 35 = .ok (.invokespecial 190, 3) := by decide +kernel
theorem dX7_rowAt_38 : decode cX7_rowAt 38 = .ok (.athrow, 1) := by decide +kernel
theorem dX7_rowAt_39 : decode cX7_rowAt 39 = .ok (.aload_n 2, 1) := by decide +kernel
theorem dX7_rowAt_40 : decode cX7_rowAt 40 = .ok (.areturn, 1) := by decide +kernel
theorem dX7_moverAt_0 : decode cX7_moverAt 0 = .ok (.iload_n 1, 1) := by decide +kernel
theorem dX7_moverAt_1 : decode cX7_moverAt 1 = .ok (.ifCond .lt 21, 3) := by decide +kernel
theorem dX7_moverAt_4 : decode cX7_moverAt 4 = .ok (.iload_n 1, 1) := by decide +kernel
theorem dX7_moverAt_5 : decode cX7_moverAt 5 = .ok (.aload_n 0, 1) := by decide +kernel
theorem dX7_moverAt_6 : decode cX7_moverAt 6 = .ok (.getfield 29, 3) := by decide +kernel
theorem dX7_moverAt_9 : decode cX7_moverAt 9 = .ok (.arraylength, 1) := by decide +kernel
theorem dX7_moverAt_10 : decode cX7_moverAt 10 = .ok (.if_icmp .ge 12, 3) := by decide +kernel
theorem dX7_moverAt_13 : decode cX7_moverAt 13 = .ok (.aload_n 0, 1) := by decide +kernel
theorem dX7_moverAt_14 : decode cX7_moverAt 14 = .ok (.getfield 29, 3) := by decide +kernel
theorem dX7_moverAt_17 : decode cX7_moverAt 17 = .ok (.iload_n 1, 1) := by decide +kernel
theorem dX7_moverAt_18 : decode cX7_moverAt 18 = .ok (.aaload, 1) := by decide +kernel
theorem dX7_moverAt_19 : decode cX7_moverAt 19 = .ok (.goto 4, 3) := by decide +kernel
theorem dX7_moverAt_22 : decode cX7_moverAt 22 = .ok (.aconst_null, 1) := by decide +kernel
theorem dX7_moverAt_23 : decode cX7_moverAt 23 = .ok (.astore_n 2, 1) := by decide +kernel
theorem dX7_moverAt_24 : decode cX7_moverAt 24 = .ok (.aload_n 2, 1) := by decide +kernel
theorem dX7_moverAt_25 : decode cX7_moverAt 25 = .ok (.ifnonnull 14, 3) := by decide +kernel
theorem dX7_moverAt_28 : decode cX7_moverAt 28 = .ok (.new 186, 3) := by decide +kernel
theorem dX7_moverAt_31 : decode cX7_moverAt 31 = .ok (.dup, 1) := by decide +kernel
theorem dX7_moverAt_32 : decode cX7_moverAt 32 = .ok (.ldc_w 411, 3) := by decide +kernel
theorem dX7_moverAt_35 : decode cX7_moverAt 35 = .ok (.invokespecial 190, 3) := by decide +kernel
theorem dX7_moverAt_38 : decode cX7_moverAt 38 = .ok (.athrow, 1) := by decide +kernel
theorem dX7_moverAt_39 : decode cX7_moverAt 39 = .ok (.aload_n 2, 1) := by decide +kernel
theorem dX7_moverAt_40 : decode cX7_moverAt 40 = .ok (.areturn, 1) := by decide +kernel
theorem dX7_moveAt_0 : decode cX7_moveAt 0 = .ok (.iload_n 1, 1) := by decide +kernel
theorem dX7_moveAt_1 : decode cX7_moveAt 1 = .ok (.ifCond .lt 21, 3) := by decide +kernel
theorem dX7_moveAt_4 : decode cX7_moveAt 4 = .ok (.iload_n 1, 1) := by decide +kernel
theorem dX7_moveAt_5 : decode cX7_moveAt 5 = .ok (.aload_n 0, 1) := by decide +kernel
theorem dX7_moveAt_6 : decode cX7_moveAt 6 = .ok (.getfield 35, 3) := by decide +kernel
theorem dX7_moveAt_9 : decode cX7_moveAt 9 = .ok (.arraylength, 1) := by decide +kernel
theorem dX7_moveAt_10 : decode cX7_moveAt 10 = .ok (.if_icmp .ge 12, 3) := by decide +kernel
theorem dX7_moveAt_13 : decode cX7_moveAt 13 = .ok (.aload_n 0, 1) := by decide +kernel
theorem dX7_moveAt_14 : decode cX7_moveAt 14 = .ok (.getfield 35, 3) := by decide +kernel
theorem dX7_moveAt_17 : decode cX7_moveAt 17 = .ok (.iload_n 1, 1) := by decide +kernel
theorem dX7_moveAt_18 : decode cX7_moveAt 18 = .ok (.aaload, 1) := by decide +kernel
theorem dX7_moveAt_19 : decode cX7_moveAt 19 = .ok (.goto 4, 3) := by decide +kernel
theorem dX7_moveAt_22 : decode cX7_moveAt 22 = .ok (.aconst_null, 1) := by decide +kernel
theorem dX7_moveAt_23 : decode cX7_moveAt 23 = .ok (.areturn, 1) := by decide +kernel
theorem dX7_fieldAt_0 : decode cX7_fieldAt 0 = .ok (.aload_n 0, 1) := by decide +kernel
theorem dX7_fieldAt_1 : decode cX7_fieldAt 1 = .ok (.iload_n 1, 1) := by decide +kernel
theorem dX7_fieldAt_2 : decode cX7_fieldAt 2 = .ok (.iload_n 2, 1) := by decide +kernel
theorem dX7_fieldAt_3 : decode cX7_fieldAt 3 = .ok (.invokevirtual 78, 3) := by decide +kernel
theorem dX7_fieldAt_6 : decode cX7_fieldAt 6 = .ok (.istore_n 3, 1) := by decide +kernel
theorem dX7_fieldAt_7 : decode cX7_fieldAt 7 = .ok (.iload_n 3, 1) := by decide +kernel
theorem dX7_fieldAt_8 : decode cX7_fieldAt 8 = .ok (.iconst (-1), 1) := by decide +kernel
theorem dX7_fieldAt_9 : decode cX7_fieldAt 9 = .ok (.if_icmp .ne 14, 3) := by decide +kernel
theorem dX7_fieldAt_12 : decode cX7_fieldAt 12 = .ok (.new 186, 3) := by decide +kernel
theorem dX7_fieldAt_15 : decode cX7_fieldAt 15 = .ok (.dup, 1) := by decide +kernel
theorem dX7_fieldAt_16 : decode cX7_fieldAt 16 = .ok (.ldc_w 413, 3) := by decide +kernel
theorem dX7_fieldAt_19 : decode cX7_fieldAt 19 = .ok (.invokespecial 190, 3) := by decide +kernel
theorem dX7_fieldAt_22 : decode cX7_fieldAt 22 = .ok (.athrow, 1) := by decide +kernel
theorem dX7_fieldAt_23 : decode cX7_fieldAt 23 = .ok (.iload_n 3, 1) := by decide +kernel
theorem dX7_fieldAt_24 : decode cX7_fieldAt 24 = .ok (.ireturn, 1) := by decide +kernel
theorem dX7_fieldOfHead_0 : decode cX7_fieldOfHead 0 = .ok (.aload_n 0, 1) := by decide +kernel
theorem dX7_fieldOfHead_1 : decode cX7_fieldOfHead 1 = .ok (.aload_n 0, 1) := by decide +kernel
theorem dX7_fieldOfHead_2 : decode cX7_fieldOfHead 2 = .ok (.getfield 75, 3) := by decide +kernel
theorem dX7_fieldOfHead_5 : decode cX7_fieldOfHead 5 = .ok (.iload_n 1, 1) := by decide +kernel
theorem dX7_fieldOfHead_6 : decode cX7_fieldOfHead 6 = .ok (.invokestatic 341, 3) := by decide +kernel
theorem dX7_fieldOfHead_9 : decode cX7_fieldOfHead 9 = .ok (.ireturn, 1) := by decide +kernel
theorem dX7_heldUpOf_0 : decode cX7_heldUpOf 0 = .ok (.lconst 0, 1) := by decide +kernel
theorem dX7_heldUpOf_1 : decode cX7_heldUpOf 1 = .ok (.lstore_n 2, 1) := by decide +kernel
theorem dX7_heldUpOf_2 : decode cX7_heldUpOf 2 = .ok (.iconst 0, 1) := by decide +kernel
theorem dX7_heldUpOf_3 : decode cX7_heldUpOf 3 = .ok (.istore 4, 2) := by decide +kernel
theorem dX7_heldUpOf_5 : decode cX7_heldUpOf 5 = .ok (.iload 4, 2) := by decide +kernel
theorem dX7_heldUpOf_7 : decode cX7_heldUpOf 7 = .ok (.aload_n 0, 1) := by decide +kernel
theorem dX7_heldUpOf_8 : decode cX7_heldUpOf 8 = .ok (.getfield 17, 3) := by decide +kernel
theorem dX7_heldUpOf_11 : decode cX7_heldUpOf 11 = .ok (.arraylength, 1) := by decide +kernel
theorem dX7_heldUpOf_12 : decode cX7_heldUpOf 12 = .ok (.if_icmp .ge 57, 3) := by decide +kernel
theorem dX7_heldUpOf_15 : decode cX7_heldUpOf 15 = .ok (.aload_n 0, 1) := by decide +kernel
theorem dX7_heldUpOf_16 : decode cX7_heldUpOf 16 = .ok (.getfield 17, 3) := by decide +kernel
theorem dX7_heldUpOf_19 : decode cX7_heldUpOf 19 = .ok (.iload 4, 2) := by decide +kernel
theorem dX7_heldUpOf_21 : decode cX7_heldUpOf 21 = .ok (.aaload, 1) := by decide +kernel
theorem dX7_heldUpOf_22 : decode cX7_heldUpOf 22 = .ok (.astore 5, 2) := by decide +kernel
theorem dX7_heldUpOf_24 : decode cX7_heldUpOf 24 = .ok (.aload 5, 2) := by decide +kernel
theorem dX7_heldUpOf_26 : decode cX7_heldUpOf 26 = .ok (.ifnull 37, 3) := by decide +kernel
theorem dX7_heldUpOf_29 : decode cX7_heldUpOf 29 = .ok (.aload 5, 2) := by decide +kernel
theorem dX7_heldUpOf_31 : decode cX7_heldUpOf 31 = .ok (.getfield 264, 3) := by decide +kernel
theorem dX7_heldUpOf_34 : decode cX7_heldUpOf 34 = .ok (.ifCond .eq 29, 3) := by decide +kernel
theorem dX7_heldUpOf_37 : decode cX7_heldUpOf 37 = .ok (.aload 5, 2) := by decide +kernel
theorem dX7_heldUpOf_39 : decode cX7_heldUpOf 39 = .ok (.getfield 247, 3) := by decide +kernel
theorem dX7_heldUpOf_42 : decode cX7_heldUpOf 42 = .ok (.aload_n 1, 1) := by decide +kernel
theorem dX7_heldUpOf_43 : decode cX7_heldUpOf 43 = .ok (.if_acmp .ne 20, 3) := by decide +kernel
theorem dX7_heldUpOf_46 : decode cX7_heldUpOf 46 = .ok (.lload_n 2, 1) := by decide +kernel
theorem dX7_heldUpOf_47 : decode cX7_heldUpOf 47 = .ok (.aload_n 1, 1) := by decide +kernel
theorem dX7_heldUpOf_48 : decode cX7_heldUpOf 48 = .ok (.aload 5, 2) := by decide +kernel
theorem dX7_heldUpOf_50 : decode cX7_heldUpOf 50 = .ok (.getfield 274, 3) := by decide +kernel
theorem dX7_heldUpOf_53 : decode cX7_heldUpOf 53 = .ok (.aload 5, 2) := by decide +kernel
theorem dX7_heldUpOf_55 : decode cX7_heldUpOf 55 = .ok (.getfield 251, 3) := by decide +kernel
theorem dX7_heldUpOf_58 : decode cX7_heldUpOf 58 = .ok (.invokevirtual 260, 3) := by decide +kernel
theorem dX7_heldUpOf_61 : decode cX7_heldUpOf 61 = .ok (.lor, 1) := by decide +kernel
theorem dX7_heldUpOf_62 : decode cX7_heldUpOf 62 = .ok (.lstore_n 2, 1) := by decide +kernel
theorem dX7_heldUpOf_63 : decode cX7_heldUpOf 63 = .ok (.iinc 4 1, 3) := by decide +kernel
theorem dX7_heldUpOf_66 : decode cX7_heldUpOf 66 = .ok (.goto (-61), 3) := by decide +kernel
theorem dX7_heldUpOf_69 : decode cX7_heldUpOf 69 = .ok (.lload_n 2, 1) := by decide +kernel
theorem dX7_heldUpOf_70 : decode cX7_heldUpOf 70 = .ok (.lreturn, 1) := by decide +kernel
theorem dX7_see_0 : decode cX7_see 0 = .ok (.aload_n 0, 1) := by decide +kernel
theorem dX7_see_1 : decode cX7_see 1 = .ok (.getfield 42, 3) := by decide +kernel
theorem dX7_see_4 : decode cX7_see 4 = .ok (.aload_n 1, 1) := by decide +kernel
theorem dX7_see_5 : decode cX7_see 5 = .ok (.getfield 320, 3) := by decide +kernel
theorem dX7_see_8 : decode cX7_see 8 = .ok (.invokevirtual 328, 3) := by decide +kernel
theorem dX7_see_11 : decode cX7_see 11 = .ok (.aload_n 1, 1) := by decide +kernel
theorem dX7_see_12 : decode cX7_see 12 = .ok (.getfield 302, 3) := by decide +kernel
theorem dX7_see_15 : decode cX7_see 15 = .ok (.aload_n 0, 1) := by decide +kernel
theorem dX7_see_16 : decode cX7_see 16 = .ok (.getfield 42, 3) := by decide +kernel
theorem dX7_see_19 : decode cX7_see 19 = .ok (.iload_n 2, 1) := by decide +kernel
theorem dX7_see_20 : decode cX7_see 20 = .ok (.invokevirtual 324, 3) := by decide +kernel
theorem dX7_see_23 : decode cX7_see 23 = .ok (.return_, 1) := by decide +kernel
theorem dX7_farthestRow_0 : decode cX7_farthestRow 0 = .ok (.iconst (-1), 1) := by decide +kernel
theorem dX7_farthestRow_1 : decode cX7_farthestRow 1 = .ok (.istore_n 2, 1) := by decide +kernel
theorem dX7_farthestRow_2 : decode cX7_farthestRow 2 = .ok (.iconst 0, 1) := by decide +kernel
theorem dX7_farthestRow_3 : decode cX7_farthestRow 3 = .ok (.istore_n 3, 1) := by decide +kernel
theorem dX7_farthestRow_4 : decode cX7_farthestRow 4 = .ok (.iconst 0, 1) := by decide +kernel
theorem dX7_farthestRow_5 : decode cX7_farthestRow 5 = .ok (.istore 4, 2) := by decide +kernel
theorem dX7_farthestRow_7 : decode cX7_farthestRow 7 = .ok (.iload 4, 2) := by decide +kernel
theorem dX7_farthestRow_9 : decode cX7_farthestRow 9 = .ok (.aload_n 0, 1) := by decide +kernel
theorem dX7_farthestRow_10 : decode cX7_farthestRow 10 = .ok (.getfield 23, 3) := by decide +kernel
theorem dX7_farthestRow_13 : decode cX7_farthestRow 13 = .ok (.arraylength, 1) := by decide +kernel
theorem dX7_farthestRow_14 : decode cX7_farthestRow 14 = .ok (.if_icmp .ge 65, 3) := by decide +kernel
theorem dX7_farthestRow_17 : decode cX7_farthestRow 17 = .ok (.aload_n 0, 1) := by decide +kernel
theorem dX7_farthestRow_18 : decode cX7_farthestRow 18 = .ok (.getfield 23, 3) := by decide +kernel
theorem dX7_farthestRow_21 : decode cX7_farthestRow 21 = .ok (.iload 4, 2) := by decide +kernel
theorem dX7_farthestRow_23 : decode cX7_farthestRow 23 = .ok (.aaload, 1) := by decide +kernel
theorem dX7_farthestRow_24 : decode cX7_farthestRow 24 = .ok (.astore 5, 2) := by decide +kernel
theorem dX7_farthestRow_26 : decode cX7_farthestRow 26 = .ok (.aload 5, 2) := by decide +kernel
theorem dX7_farthestRow_28 : decode cX7_farthestRow 28 = .ok (.ifnull 45, 3) := by decide +kernel
theorem dX7_farthestRow_31 : decode cX7_farthestRow 31 = .ok (.aload 5, 2) := by decide +kernel
theorem dX7_farthestRow_33 : decode cX7_farthestRow 33 = .ok (.getfield 302, 3) := by decide +kernel
theorem dX7_farthestRow_36 : decode cX7_farthestRow 36 = .ok (.aload_n 1, 1) := by decide +kernel
theorem dX7_farthestRow_37 : decode cX7_farthestRow 37 = .ok (.getfield 417, 3) := by decide +kernel
theorem dX7_farthestRow_40 : decode cX7_farthestRow 40 = .ok (.if_acmp .ne 33, 3) := by decide +kernel
theorem dX7_farthestRow_43 : decode cX7_farthestRow 43 = .ok (.aload 5, 2) := by decide +kernel
theorem dX7_farthestRow_45 : decode cX7_farthestRow 45 = .ok (.getfield 320, 3) := by decide +kernel
theorem dX7_farthestRow_48 : decode cX7_farthestRow 48 = .ok (.getfield 323, 3) := by decide +kernel
theorem dX7_farthestRow_51 : decode cX7_farthestRow 51 = .ok (.aload_n 1, 1) := by decide +kernel
theorem dX7_farthestRow_52 : decode cX7_farthestRow 52 = .ok (.getfield 381, 3) := by decide +kernel
theorem dX7_farthestRow_55 : decode cX7_farthestRow 55 = .ok (.isub, 1) := by decide +kernel
theorem dX7_farthestRow_56 : decode cX7_farthestRow 56 = .ok (.invokestatic 418, 3) := by decide +kernel
theorem dX7_farthestRow_59 : decode cX7_farthestRow 59 = .ok (.istore 6, 2) := by decide +kernel
theorem dX7_farthestRow_61 : decode cX7_farthestRow 61 = .ok (.iload 6, 2) := by decide +kernel
theorem dX7_farthestRow_63 : decode cX7_farthestRow 63 = .ok (.iload_n 3, 1) := by decide +kernel
theorem dX7_farthestRow_64 : decode cX7_farthestRow 64 = .ok (.if_icmp .le 9, 3) := by decide +kernel
theorem dX7_farthestRow_67 : decode cX7_farthestRow 67 = .ok (.iload 6, 2) := by decide +kernel
theorem dX7_farthestRow_69 : decode cX7_farthestRow 69 = .ok (.istore_n 3, 1) := by decide +kernel
theorem dX7_farthestRow_70 : decode cX7_farthestRow 70 = .ok (.iload 4, 2) := by decide +kernel
theorem dX7_farthestRow_72 : decode cX7_farthestRow 72 = .ok (.istore_n 2, 1) := by decide +kernel
theorem dX7_farthestRow_73 : decode cX7_farthestRow 73 = .ok (.iinc 4 1, 3) := by decide +kernel
theorem dX7_farthestRow_76 : decode cX7_farthestRow 76 = .ok (.goto (-69), 3) := by decide +kernel
theorem dX7_farthestRow_79 : decode cX7_farthestRow 79 = .ok (.iload_n 2, 1) := by decide +kernel
theorem dX7_farthestRow_80 : decode cX7_farthestRow 80 = .ok (.ireturn, 1) := by decide +kernel
theorem dX7_tellNames_0 : decode cX7_tellNames 0 = .ok (.iconst 0, 1) := by decide +kernel
theorem dX7_tellNames_1 : decode cX7_tellNames 1 = .ok (.istore 4, 2) := by decide +kernel
theorem dX7_tellNames_3 : decode cX7_tellNames 3 = .ok (.iload 4, 2) := by decide +kernel
theorem dX7_tellNames_5 : decode cX7_tellNames 5 = .ok (.aload_n 3, 1) := by decide +kernel
theorem dX7_tellNames_6 : decode cX7_tellNames 6 = .ok (.arraylength, 1) := by decide +kernel
theorem dX7_tellNames_7 : decode cX7_tellNames 7 = .ok (.if_icmp .ge 42, 3) := by decide +kernel
theorem dX7_tellNames_10 : decode cX7_tellNames 10 = .ok (.aload_n 3, 1) := by decide +kernel
theorem dX7_tellNames_11 : decode cX7_tellNames 11 = .ok (.iload 4, 2) := by decide +kernel
theorem dX7_tellNames_13 : decode cX7_tellNames 13 = .ok (.iaload, 1) := by decide +kernel
theorem dX7_tellNames_14 : decode cX7_tellNames 14 = .ok (.iconst (-1), 1) := by decide +kernel
theorem dX7_tellNames_15 : decode cX7_tellNames 15 = .ok (.if_icmp .eq 28, 3) := by decide +kernel
theorem dX7_tellNames_18 : decode cX7_tellNames 18 = .ok (.aload_n 0, 1) := by decide +kernel
theorem dX7_tellNames_19 : decode cX7_tellNames 19 = .ok (.bipush 32, 2) := by decide +kernel
theorem dX7_tellNames_21 : decode cX7_tellNames 21 = .ok (.invokevirtual 219, 3) := by decide +kernel
theorem dX7_tellNames_24 : decode cX7_tellNames 24 = .ok (.pop, 1) := by decide +kernel
theorem dX7_tellNames_25 : decode cX7_tellNames 25 = .ok (.aload_n 0, 1) := by decide +kernel
theorem dX7_tellNames_26 : decode cX7_tellNames 26 = .ok (.bipush 97, 2) := by decide +kernel
theorem dX7_tellNames_28 : decode cX7_tellNames 28 = .ok (.aload_n 1, 1) := by decide +kernel
theorem dX7_tellNames_29 : decode cX7_tellNames 29 = .ok (.iload_n 2, 1) := by decide +kernel
theorem dX7_tellNames_30 : decode cX7_tellNames 30 = .ok (.aload_n 3, 1) := by decide +kernel
theorem dX7_tellNames_31 : decode cX7_tellNames 31 = .ok (.iload 4, 2) := by decide +kernel
theorem dX7_tellNames_33 : decode cX7_tellNames 33 = .ok (.iaload, 1) := by decide +kernel
theorem dX7_tellNames_34 : decode cX7_tellNames 34 = .ok (.invokevirtual 423, 3) := by decide +kernel
theorem dX7_tellNames_37 : decode cX7_tellNames 37 = .ok (.iadd, 1) := by decide +kernel
theorem dX7_tellNames_38 : decode cX7_tellNames 38 = .ok (.i2c, 1) := by decide +kernel
theorem dX7_tellNames_39 : decode cX7_tellNames 39 = .ok (.invokevirtual 219, 3) := by decide +kernel
theorem dX7_tellNames_42 : decode cX7_tellNames 42 = .ok (.pop, 1) := by decide +kernel
theorem dX7_tellNames_43 : decode cX7_tellNames 43 = .ok (.iinc 4 1, 3) := by decide +kernel
theorem dX7_tellNames_46 : decode cX7_tellNames 46 = .ok (.goto (-43), 3) := by decide +kernel
theorem dX7_tellNames_49 : decode cX7_tellNames 49 = .ok (.return_, 1) := by decide +kernel
theorem dX7_wordOf_0 : decode cX7_wordOf 0 = .ok (.iload_n 0, 1) := by decide +kernel
theorem dX7_wordOf_1 : decode cX7_wordOf 1 = .ok (.tableswitch 63 0 5 #[39, 43, 47, 51, 55, 59], 39) := by decide +kernel
theorem dX7_wordOf_40 : decode cX7_wordOf 40 = .ok (.ldc_w 426, 3) := by decide +kernel
theorem dX7_wordOf_43 : decode cX7_wordOf 43 = .ok (.areturn, 1) := by decide +kernel
theorem dX7_wordOf_44 : decode cX7_wordOf 44 = .ok (.ldc_w 428, 3) := by decide +kernel
theorem dX7_wordOf_47 : decode cX7_wordOf 47 = .ok (.areturn, 1) := by decide +kernel
theorem dX7_wordOf_48 : decode cX7_wordOf 48 = .ok (.ldc_w 430, 3) := by decide +kernel
theorem dX7_wordOf_51 : decode cX7_wordOf 51 = .ok (.areturn, 1) := by decide +kernel
theorem dX7_wordOf_52 : decode cX7_wordOf 52 = .ok (.ldc_w 432, 3) := by decide +kernel
theorem dX7_wordOf_55 : decode cX7_wordOf 55 = .ok (.areturn, 1) := by decide +kernel
theorem dX7_wordOf_56 : decode cX7_wordOf 56 = .ok (.ldc_w 434, 3) := by decide +kernel
theorem dX7_wordOf_59 : decode cX7_wordOf 59 = .ok (.areturn, 1) := by decide +kernel
theorem dX7_wordOf_60 : decode cX7_wordOf 60 = .ok (.ldc_w 436, 3) := by decide +kernel
theorem dX7_wordOf_63 : decode cX7_wordOf 63 = .ok (.areturn, 1) := by decide +kernel
theorem dX7_wordOf_64 : decode cX7_wordOf 64 = .ok (.ldc_w 438, 3) := by decide +kernel
theorem dX7_wordOf_67 : decode cX7_wordOf 67 = .ok (.areturn, 1) := by decide +kernel
theorem dX7_isName_0 : decode cX7_isName 0 = .ok (.iload_n 0, 1) := by decide +kernel
theorem dX7_isName_1 : decode cX7_isName 1 = .ok (.ifCond .lt 13, 3) := by decide +kernel
theorem dX7_isName_4 : decode cX7_isName 4 = .ok (.iload_n 0, 1) := by decide +kernel
theorem dX7_isName_5 : decode cX7_isName 5 = .ok (.bipush 26, 2) := by decide +kernel
theorem dX7_isName_7 : decode cX7_isName 7 = .ok (.if_icmp .ge 7, 3) := by decide +kernel
theorem dX7_isName_10 : decode cX7_isName 10 = .ok (.iconst 1, 1) := by decide +kernel
theorem dX7_isName_11 : decode cX7_isName 11 = .ok (.goto 4, 3) := by decide +kernel
theorem dX7_isName_14 : decode cX7_isName 14 = .ok (.iconst 0, 1) := by decide +kernel
theorem dX7_isName_15 : decode cX7_isName 15 = .ok (.ireturn, 1) := by decide +kernel
theorem dX7_isKind_0 : decode cX7_isKind 0 = .ok (.iload_n 0, 1) := by decide +kernel
theorem dX7_isKind_1 : decode cX7_isKind 1 = .ok (.ifCond .lt 12, 3) := by decide +kernel
theorem dX7_isKind_4 : decode cX7_isKind 4 = .ok (.iload_n 0, 1) := by decide +kernel
theorem dX7_isKind_5 : decode cX7_isKind 5 = .ok (.iconst 2, 1) := by decide +kernel
theorem dX7_isKind_6 : decode cX7_isKind 6 = .ok (.if_icmp .gt 7, 3) := by decide +kernel
theorem dX7_isKind_9 : decode cX7_isKind 9 = .ok (.iconst 1, 1) := by decide +kernel
theorem dX7_isKind_10 : decode cX7_isKind 10 = .ok (.goto 4, 3) := by decide +kernel
theorem dX7_isKind_13 : decode cX7_isKind 13 = .ok (.iconst 0, 1) := by decide +kernel
theorem dX7_isKind_14 : decode cX7_isKind 14 = .ok (.ireturn, 1) := by decide +kernel
theorem dX7_isFactor_0 : decode cX7_isFactor 0 = .ok (.iload_n 0, 1) := by decide +kernel
theorem dX7_isFactor_1 : decode cX7_isFactor 1 = .ok (.iconst 2, 1) := by decide +kernel
theorem dX7_isFactor_2 : decode cX7_isFactor 2 = .ok (.if_icmp .lt 13, 3) := by decide +kernel
theorem dX7_isFactor_5 : decode cX7_isFactor 5 = .ok (.iload_n 0, 1) := by decide +kernel
theorem dX7_isFactor_6 : decode cX7_isFactor 6 = .ok (.bipush 100, 2) := by decide +kernel
theorem dX7_isFactor_8 : decode cX7_isFactor 8 = .ok (.if_icmp .gt 7, 3) := by decide +kernel
theorem dX7_isFactor_11 : decode cX7_isFactor 11 = .ok (.iconst 1, 1) := by decide +kernel
theorem dX7_isFactor_12 : decode cX7_isFactor 12 = .ok (.goto 4, 3) := by decide +kernel
theorem dX7_isFactor_15 : decode cX7_isFactor 15 = .ok (.iconst 0, 1) := by decide +kernel
theorem dX7_isFactor_16 : decode cX7_isFactor 16 = .ok (.ireturn, 1) := by decide +kernel
theorem dX7_isValue_0 : decode cX7_isValue 0 = .ok (.iload_n 0, 1) := by decide +kernel
theorem dX7_isValue_1 : decode cX7_isValue 1 = .ok (.invokestatic 115, 3) := by decide +kernel
theorem dX7_isValue_4 : decode cX7_isValue 4 = .ok (.ifCond .eq 19, 3) := by decide +kernel
theorem dX7_isValue_7 : decode cX7_isValue 7 = .ok (.iload_n 1, 1) := by decide +kernel
theorem dX7_isValue_8 : decode cX7_isValue 8 = .ok (.ifCond .lt 15, 3) := by decide +kernel
theorem dX7_isValue_11 : decode cX7_isValue 11 = .ok (.iload_n 1, 1) := by decide +kernel
theorem dX7_isValue_12 : decode cX7_isValue 12 = .ok (.iload_n 0, 1) := by decide +kernel
theorem dX7_isValue_13 : decode cX7_isValue 13 = .ok (.invokestatic 440, 3) := by decide +kernel
theorem dX7_isValue_16 : decode cX7_isValue 16 = .ok (.if_icmp .gt 7, 3) := by decide +kernel
theorem dX7_isValue_19 : decode cX7_isValue 19 = .ok (.iconst 1, 1) := by decide +kernel
theorem dX7_isValue_20 : decode cX7_isValue 20 = .ok (.goto 4, 3) := by decide +kernel
theorem dX7_isValue_23 : decode cX7_isValue 23 = .ok (.iconst 0, 1) := by decide +kernel
theorem dX7_isValue_24 : decode cX7_isValue 24 = .ok (.ireturn, 1) := by decide +kernel
theorem dX7_greatestOf_0 : decode cX7_greatestOf 0 = .ok (.iload_n 0, 1) := by decide +kernel
theorem dX7_greatestOf_1 : decode cX7_greatestOf 1 = .ok (.iconst 1, 1) := by decide +kernel
theorem dX7_greatestOf_2 : decode cX7_greatestOf 2 = .ok (.if_icmp .ne 5, 3) := by decide +kernel
theorem dX7_greatestOf_5 : decode cX7_greatestOf 5 = .ok (.iconst 1, 1) := by decide +kernel
theorem dX7_greatestOf_6 : decode cX7_greatestOf 6 = .ok (.ireturn, 1) := by decide +kernel
theorem dX7_greatestOf_7 : decode cX7_greatestOf 7 = .ok (.iload_n 0, 1) := by decide +kernel
theorem dX7_greatestOf_8 : decode cX7_greatestOf 8 = .ok (.iconst 2, 1) := by decide +kernel
theorem dX7_greatestOf_9 : decode cX7_greatestOf 9 = .ok (.if_icmp .ne 9, 3) := by decide +kernel
theorem dX7_greatestOf_12 : decode cX7_greatestOf 12 = .ok (.sipush 999, 3) := by decide +kernel
theorem dX7_greatestOf_15 : decode cX7_greatestOf 15 = .ok (.goto 6, 3) := by decide +kernel
theorem dX7_greatestOf_18 : decode cX7_greatestOf 18 = .ok (.sipush 9999, 3) := by decide +kernel
theorem dX7_greatestOf_21 : decode cX7_greatestOf 21 = .ok (.ireturn, 1) := by decide +kernel
theorem dX7_bit_0 : decode cX7_bit 0 = .ok (.lconst 1, 1) := by decide +kernel
theorem dX7_bit_1 : decode cX7_bit 1 = .ok (.iload_n 0, 1) := by decide +kernel
theorem dX7_bit_2 : decode cX7_bit 2 = .ok (.lshl, 1) := by decide +kernel
theorem dX7_bit_3 : decode cX7_bit 3 = .ok (.lreturn, 1) := by decide +kernel
theorem dX7_contains_0 : decode cX7_contains 0 = .ok (.lload_n 0, 1) := by decide +kernel
theorem dX7_contains_1 : decode cX7_contains 1 = .ok (.iload_n 2, 1) := by decide +kernel
theorem dX7_contains_2 : decode cX7_contains 2 = .ok (.invokestatic 256, 3) := by decide +kernel
theorem dX7_contains_5 : decode cX7_contains 5 = .ok (.land, 1) := by decide +kernel
theorem dX7_contains_6 : decode cX7_contains 6 = .ok (.lconst 0, 1) := by decide +kernel
theorem dX7_contains_7 : decode cX7_contains 7 = .ok (.lcmp, 1) := by decide +kernel
theorem dX7_contains_8 : decode cX7_contains 8 = .ok (.ifCond .eq 7, 3) := by decide +kernel
theorem dX7_contains_11 : decode cX7_contains 11 = .ok (.iconst 1, 1) := by decide +kernel
theorem dX7_contains_12 : decode cX7_contains 12 = .ok (.goto 4, 3) := by decide +kernel
theorem dX7_contains_15 : decode cX7_contains 15 = .ok (.iconst 0, 1) := by decide +kernel
theorem dX7_contains_16 : decode cX7_contains 16 = .ok (.ireturn, 1) := by decide +kernel
theorem dX7_turned_0 : decode cX7_turned 0 = .ok (.iload_n 0, 1) := by decide +kernel
theorem dX7_turned_1 : decode cX7_turned 1 = .ok (.iconst (-1), 1) := by decide +kernel
theorem dX7_turned_2 : decode cX7_turned 2 = .ok (.if_icmp .ne 5, 3) := by decide +kernel
theorem dX7_turned_5 : decode cX7_turned 5 = .ok (.iconst (-1), 1) := by decide +kernel
theorem dX7_turned_6 : decode cX7_turned 6 = .ok (.ireturn, 1) := by decide +kernel
theorem dX7_turned_7 : decode cX7_turned 7 = .ok (.iload_n 2, 1) := by decide +kernel
theorem dX7_turned_8 : decode cX7_turned 8 = .ok (.iconst 1, 1) := by decide +kernel
theorem dX7_turned_9 : decode cX7_turned 9 = .ok (.if_icmp .ne 13, 3) := by decide +kernel
theorem dX7_turned_12 : decode cX7_turned 12 = .ok (.iload_n 0, 1) := by decide +kernel
theorem dX7_turned_13 : decode cX7_turned 13 = .ok (.ifCond .le 7, 3) := by decide +kernel
theorem dX7_turned_16 : decode cX7_turned 16 = .ok (.iconst 1, 1) := by decide +kernel
theorem dX7_turned_17 : decode cX7_turned 17 = .ok (.goto 4, 3) := by decide +kernel
theorem dX7_turned_20 : decode cX7_turned 20 = .ok (.iconst 0, 1) := by decide +kernel
theorem dX7_turned_21 : decode cX7_turned 21 = .ok (.ireturn, 1) := by decide +kernel
theorem dX7_turned_22 : decode cX7_turned 22 = .ok (.iload_n 1, 1) := by decide +kernel
theorem dX7_turned_23 : decode cX7_turned 23 = .ok (.ifCond .ne 13, 3) := by decide +kernel
theorem dX7_turned_26 : decode cX7_turned 26 = .ok (.iload_n 2, 1) := by decide +kernel
theorem dX7_turned_27 : decode cX7_turned 27 = .ok (.iconst 2, 1) := by decide +kernel
theorem dX7_turned_28 : decode cX7_turned 28 = .ok (.if_icmp .ne 8, 3) := by decide +kernel
theorem dX7_turned_31 : decode cX7_turned 31 = .ok (.iload_n 0, 1) := by decide +kernel
theorem dX7_turned_32 : decode cX7_turned 32 = .ok (.bipush 10, 2) := by decide +kernel
theorem dX7_turned_34 : decode cX7_turned 34 = .ok (.idiv, 1) := by decide +kernel
theorem dX7_turned_35 : decode cX7_turned 35 = .ok (.ireturn, 1) := by decide +kernel
theorem dX7_turned_36 : decode cX7_turned 36 = .ok (.iload_n 1, 1) := by decide +kernel
theorem dX7_turned_37 : decode cX7_turned 37 = .ok (.iconst 2, 1) := by decide +kernel
theorem dX7_turned_38 : decode cX7_turned 38 = .ok (.if_icmp .ne 14, 3) := by decide +kernel
theorem dX7_turned_41 : decode cX7_turned 41 = .ok (.iload_n 2, 1) := by decide +kernel
theorem dX7_turned_42 : decode cX7_turned 42 = .ok (.ifCond .ne 10, 3) := by decide +kernel
theorem dX7_turned_45 : decode cX7_turned 45 = .ok (.bipush 10, 2) := by decide +kernel
theorem dX7_turned_47 : decode cX7_turned 47 = .ok (.iload_n 0, 1) := by decide +kernel
theorem dX7_turned_48 : decode cX7_turned 48 = .ok (.imul, 1) := by decide +kernel
theorem dX7_turned_49 : decode cX7_turned 49 = .ok (.goto 4, 3) := by decide +kernel
theorem dX7_turned_52 : decode cX7_turned 52 = .ok (.iload_n 0, 1) := by decide +kernel
theorem dX7_turned_53 : decode cX7_turned 53 = .ok (.ireturn, 1) := by decide +kernel
theorem dX7_quotient_0 : decode cX7_quotient 0 = .ok (.iload_n 0, 1) := by decide +kernel
theorem dX7_quotient_1 : decode cX7_quotient 1 = .ok (.iconst (-1), 1) := by decide +kernel
theorem dX7_quotient_2 : decode cX7_quotient 2 = .ok (.if_icmp .eq 7, 3) := by decide +kernel
theorem dX7_quotient_5 : decode cX7_quotient 5 = .ok (.iload_n 1, 1) := by decide +kernel
theorem dX7_quotient_6 : decode cX7_quotient 6 = .ok (.ifCond .gt 7, 3) := by decide +kernel
theorem dX7_quotient_9 : decode cX7_quotient 9 = .ok (.iconst (-1), 1) := by decide +kernel
theorem dX7_quotient_10 : decode cX7_quotient 10 = .ok (.goto 6, 3) := by decide +kernel
theorem dX7_quotient_13 : decode cX7_quotient 13 = .ok (.iload_n 0, 1) := by decide +kernel
theorem dX7_quotient_14 : decode cX7_quotient 14 = .ok (.iload_n 1, 1) := by decide +kernel
theorem dX7_quotient_15 : decode cX7_quotient 15 = .ok (.idiv, 1) := by decide +kernel
theorem dX7_quotient_16 : decode cX7_quotient 16 = .ok (.ireturn, 1) := by decide +kernel
theorem dX7_remainder_0 : decode cX7_remainder 0 = .ok (.iload_n 0, 1) := by decide +kernel
theorem dX7_remainder_1 : decode cX7_remainder 1 = .ok (.iconst (-1), 1) := by decide +kernel
theorem dX7_remainder_2 : decode cX7_remainder 2 = .ok (.if_icmp .eq 7, 3) := by decide +kernel
theorem dX7_remainder_5 : decode cX7_remainder 5 = .ok (.iload_n 1, 1) := by decide +kernel
theorem dX7_remainder_6 : decode cX7_remainder 6 = .ok (.ifCond .gt 7, 3) := by decide +kernel
theorem dX7_remainder_9 : decode cX7_remainder 9 = .ok (.iconst (-1), 1) := by decide +kernel
theorem dX7_remainder_10 : decode cX7_remainder 10 = .ok (.goto 6, 3) := by decide +kernel
theorem dX7_remainder_13 : decode cX7_remainder 13 = .ok (.iload_n 0, 1) := by decide +kernel
theorem dX7_remainder_14 : decode cX7_remainder 14 = .ok (.iload_n 1, 1) := by decide +kernel
theorem dX7_remainder_15 : decode cX7_remainder 15 = .ok (.irem, 1) := by decide +kernel
theorem dX7_remainder_16 : decode cX7_remainder 16 = .ok (.ireturn, 1) := by decide +kernel
theorem dX7_combined_0 : decode cX7_combined 0 = .ok (.iload_n 0, 1) := by decide +kernel
theorem dX7_combined_1 : decode cX7_combined 1 = .ok (.iconst (-1), 1) := by decide +kernel
theorem dX7_combined_2 : decode cX7_combined 2 = .ok (.if_icmp .eq 8, 3) := by decide +kernel
theorem dX7_combined_5 : decode cX7_combined 5 = .ok (.iload_n 1, 1) := by decide +kernel
theorem dX7_combined_6 : decode cX7_combined 6 = .ok (.iconst (-1), 1) := by decide +kernel
theorem dX7_combined_7 : decode cX7_combined 7 = .ok (.if_icmp .ne 7, 3) := by decide +kernel
theorem dX7_combined_10 : decode cX7_combined 10 = .ok (.iconst (-1), 1) := by decide +kernel
theorem dX7_combined_11 : decode cX7_combined 11 = .ok (.goto 14, 3) := by decide +kernel
theorem dX7_combined_14 : decode cX7_combined 14 = .ok (.sipush 9999, 3) := by decide +kernel
theorem dX7_combined_17 : decode cX7_combined 17 = .ok (.iload_n 2, 1) := by decide +kernel
theorem dX7_combined_18 : decode cX7_combined 18 = .ok (.iload_n 0, 1) := by decide +kernel
theorem dX7_combined_19 : decode cX7_combined 19 = .ok (.imul, 1) := by decide +kernel
theorem dX7_combined_20 : decode cX7_combined 20 = .ok (.iload_n 1, 1) := by decide +kernel
theorem dX7_combined_21 : decode cX7_combined 21 = .ok (.iadd, 1) := by decide +kernel
theorem dX7_combined_22 : decode cX7_combined 22 = .ok (.invokestatic 443, 3) := by decide +kernel
theorem dX7_combined_25 : decode cX7_combined 25 = .ok (.ireturn, 1) := by decide +kernel
theorem dL_part_0 : decode cL_part 0 = .ok (.iload_n 1, 1) := by decide +kernel
theorem dL_part_1 : decode cL_part 1 = .ok (.aload_n 0, 1) := by decide +kernel
theorem dL_part_2 : decode cL_part 2 = .ok (.arraylength, 1) := by decide +kernel
theorem dL_part_3 : decode cL_part 3 = .ok (.if_icmp .ge 9, 3) := by decide +kernel
theorem dL_part_6 : decode cL_part 6 = .ok (.aload_n 0, 1) := by decide +kernel
theorem dL_part_7 : decode cL_part 7 = .ok (.iload_n 1, 1) := by decide +kernel
theorem dL_part_8 : decode cL_part 8 = .ok (.iaload, 1) := by decide +kernel
theorem dL_part_9 : decode cL_part 9 = .ok (.goto 16, 3) := by decide +kernel
theorem dL_part_12 : decode cL_part 12 = .ok (.sipush 571, 3) := by decide +kernel
theorem dL_part_15 : decode cL_part 15 = .ok (.iload_n 1, 1) := by decide +kernel
theorem dL_part_16 : decode cL_part 16 = .ok (.imul, 1) := by decide +kernel
theorem dL_part_17 : decode cL_part 17 = .ok (.sipush 431, 3) := by decide +kernel
theorem dL_part_20 : decode cL_part 20 = .ok (.iload_n 1, 1) := by decide +kernel
theorem dL_part_21 : decode cL_part 21 = .ok (.imul, 1) := by decide +kernel
theorem dL_part_22 : decode cL_part 22 = .ok (.iload_n 1, 1) := by decide +kernel
theorem dL_part_23 : decode cL_part 23 = .ok (.imul, 1) := by decide +kernel
theorem dL_part_24 : decode cL_part 24 = .ok (.iadd, 1) := by decide +kernel
theorem dL_part_25 : decode cL_part 25 = .ok (.istore_n 3, 1) := by decide +kernel
theorem dL_part_26 : decode cL_part 26 = .ok (.iload_n 3, 1) := by decide +kernel
theorem dL_part_27 : decode cL_part 27 = .ok (.ldc 7, 2) := by decide +kernel
theorem dL_part_29 : decode cL_part 29 = .ok (.iand, 1) := by decide +kernel
theorem dL_part_30 : decode cL_part 30 = .ok (.iload_n 2, 1) := by decide +kernel
theorem dL_part_31 : decode cL_part 31 = .ok (.irem, 1) := by decide +kernel
theorem dL_part_32 : decode cL_part 32 = .ok (.ireturn, 1) := by decide +kernel
theorem dL_does_0 : decode cL_does 0 = .ok (.iload_n 1, 1) := by decide +kernel
theorem dL_does_1 : decode cL_does 1 = .ok (.ifCond .ne 27, 3) := by decide +kernel
theorem dL_does_4 : decode cL_does 4 = .ok (.aload_n 0, 1) := by decide +kernel
theorem dL_does_5 : decode cL_does 5 = .ok (.iload_n 2, 1) := by decide +kernel
theorem dL_does_6 : decode cL_does 6 = .ok (.iload_n 3, 1) := by decide +kernel
theorem dL_does_7 : decode cL_does 7 = .ok (.iload 4, 2) := by decide +kernel
theorem dL_does_9 : decode cL_does 9 = .ok (.iload 5, 2) := by decide +kernel
theorem dL_does_11 : decode cL_does 11 = .ok (.iload 6, 2) := by decide +kernel
theorem dL_does_13 : decode cL_does 13 = .ok (.iconst 1, 1) := by decide +kernel
theorem dL_does_14 : decode cL_does 14 = .ok (.if_icmp .ne 7, 3) := by decide +kernel
theorem dL_does_17 : decode cL_does 17 = .ok (.iconst 1, 1) := by decide +kernel
theorem dL_does_18 : decode cL_does 18 = .ok (.goto 4, 3) := by decide +kernel
theorem dL_does_21 : decode cL_does 21 = .ok (.iconst 0, 1) := by decide +kernel
theorem dL_does_22 : decode cL_does 22 = .ok (.invokevirtual 8, 3) := by decide +kernel
theorem dL_does_25 : decode cL_does 25 = .ok (.goto 186, 3) := by decide +kernel
theorem dL_does_28 : decode cL_does 28 = .ok (.iload_n 1, 1) := by decide +kernel
theorem dL_does_29 : decode cL_does 29 = .ok (.iconst 1, 1) := by decide +kernel
theorem dL_does_30 : decode cL_does 30 = .ok (.if_icmp .ne 14, 3) := by decide +kernel
theorem dL_does_33 : decode cL_does 33 = .ok (.aload_n 0, 1) := by decide +kernel
theorem dL_does_34 : decode cL_does 34 = .ok (.iload_n 2, 1) := by decide +kernel
theorem dL_does_35 : decode cL_does 35 = .ok (.iload_n 3, 1) := by decide +kernel
theorem dL_does_36 : decode cL_does 36 = .ok (.iload 4, 2) := by decide +kernel
theorem dL_does_38 : decode cL_does 38 = .ok (.invokevirtual 14, 3) := by decide +kernel
theorem dL_does_41 : decode cL_does 41 = .ok (.goto 170, 3) := by decide +kernel
theorem dL_does_44 : decode cL_does 44 = .ok (.iload_n 1, 1) := by decide +kernel
theorem dL_does_45 : decode cL_does 45 = .ok (.iconst 2, 1) := by decide +kernel
theorem dL_does_46 : decode cL_does 46 = .ok (.if_icmp .ne 14, 3) := by decide +kernel
theorem dL_does_49 : decode cL_does 49 = .ok (.aload_n 0, 1) := by decide +kernel
theorem dL_does_50 : decode cL_does 50 = .ok (.iload_n 2, 1) := by decide +kernel
theorem dL_does_51 : decode cL_does 51 = .ok (.iload_n 3, 1) := by decide +kernel
theorem dL_does_52 : decode cL_does 52 = .ok (.iload 4, 2) := by decide +kernel
theorem dL_does_54 : decode cL_does 54 = .ok (.invokevirtual 18, 3) := by decide +kernel
theorem dL_does_57 : decode cL_does 57 = .ok (.goto 154, 3) := by decide +kernel
theorem dL_does_60 : decode cL_does 60 = .ok (.iload_n 1, 1) := by decide +kernel
theorem dL_does_61 : decode cL_does 61 = .ok (.iconst 3, 1) := by decide +kernel
theorem dL_does_62 : decode cL_does 62 = .ok (.if_icmp .ne 18, 3) := by decide +kernel
theorem dL_does_65 : decode cL_does 65 = .ok (.aload_n 0, 1) := by decide +kernel
theorem dL_does_66 : decode cL_does 66 = .ok (.iload_n 2, 1) := by decide +kernel
theorem dL_does_67 : decode cL_does 67 = .ok (.iload_n 3, 1) := by decide +kernel
theorem dL_does_68 : decode cL_does 68 = .ok (.iload 4, 2) := by decide +kernel
theorem dL_does_70 : decode cL_does 70 = .ok (.iload 5, 2) := by decide +kernel
theorem dL_does_72 : decode cL_does 72 = .ok (.iload 6, 2) := by decide +kernel
theorem dL_does_74 : decode cL_does 74 = .ok (.invokevirtual 21, 3) := by decide +kernel
theorem dL_does_77 : decode cL_does 77 = .ok (.goto 134, 3) := by decide +kernel
theorem dL_does_80 : decode cL_does 80 = .ok (.iload_n 1, 1) := by decide +kernel
theorem dL_does_81 : decode cL_does 81 = .ok (.iconst 4, 1) := by decide +kernel
theorem dL_does_82 : decode cL_does 82 = .ok (.if_icmp .ne 18, 3) := by decide +kernel
theorem dL_does_85 : decode cL_does 85 = .ok (.aload_n 0, 1) := by decide +kernel
theorem dL_does_86 : decode cL_does 86 = .ok (.iload_n 2, 1) := by decide +kernel
theorem dL_does_87 : decode cL_does 87 = .ok (.iload_n 3, 1) := by decide +kernel
theorem dL_does_88 : decode cL_does 88 = .ok (.iload 4, 2) := by decide +kernel
theorem dL_does_90 : decode cL_does 90 = .ok (.iload 5, 2) := by decide +kernel
theorem dL_does_92 : decode cL_does 92 = .ok (.iload 6, 2) := by decide +kernel
theorem dL_does_94 : decode cL_does 94 = .ok (.invokevirtual 25, 3) := by decide +kernel
theorem dL_does_97 : decode cL_does 97 = .ok (.goto 114, 3) := by decide +kernel
theorem dL_does_100 : decode cL_does 100 = .ok (.iload_n 1, 1) := by decide +kernel
theorem dL_does_101 : decode cL_does 101 = .ok (.iconst 5, 1) := by decide +kernel
theorem dL_does_102 : decode cL_does 102 = .ok (.if_icmp .ne 20, 3) := by decide +kernel
theorem dL_does_105 : decode cL_does 105 = .ok (.aload_n 0, 1) := by decide +kernel
theorem dL_does_106 : decode cL_does 106 = .ok (.iload_n 2, 1) := by decide +kernel
theorem dL_does_107 : decode cL_does 107 = .ok (.iload_n 3, 1) := by decide +kernel
theorem dL_does_108 : decode cL_does 108 = .ok (.invokevirtual 28, 3) := by decide +kernel
theorem dL_does_111 : decode cL_does 111 = .ok (.ifCond .eq 7, 3) := by decide +kernel
theorem dL_does_114 : decode cL_does 114 = .ok (.iconst 1, 1) := by decide +kernel
theorem dL_does_115 : decode cL_does 115 = .ok (.goto 96, 3) := by decide +kernel
theorem dL_does_118 : decode cL_does 118 = .ok (.iconst 0, 1) := by decide +kernel
theorem dL_does_119 : decode cL_does 119 = .ok (.goto 92, 3) := by decide +kernel
theorem dL_does_122 : decode cL_does 122 = .ok (.iload_n 1, 1) := by decide +kernel
theorem dL_does_123 : decode cL_does 123 = .ok (.bipush 6, 2) := by decide +kernel
theorem dL_does_125 : decode cL_does 125 = .ok (.if_icmp .ne 20, 3) := by decide +kernel
theorem dL_does_128 : decode cL_does 128 = .ok (.aload_n 0, 1) := by decide +kernel
theorem dL_does_129 : decode cL_does 129 = .ok (.iload_n 2, 1) := by decide +kernel
theorem dL_does_130 : decode cL_does 130 = .ok (.iload_n 3, 1) := by decide +kernel
theorem dL_does_131 : decode cL_does 131 = .ok (.invokevirtual 32, 3) := by decide +kernel
theorem dL_does_134 : decode cL_does 134 = .ok (.ifCond .eq 7, 3) := by decide +kernel
theorem dL_does_137 : decode cL_does 137 = .ok (.iconst 1, 1) := by decide +kernel
theorem dL_does_138 : decode cL_does 138 = .ok (.goto 73, 3) := by decide +kernel
theorem dL_does_141 : decode cL_does 141 = .ok (.iconst 0, 1) := by decide +kernel
theorem dL_does_142 : decode cL_does 142 = .ok (.goto 69, 3) := by decide +kernel
theorem dL_does_145 : decode cL_does 145 = .ok (.iload_n 1, 1) := by decide +kernel
theorem dL_does_146 : decode cL_does 146 = .ok (.bipush 7, 2) := by decide +kernel
theorem dL_does_148 : decode cL_does 148 = .ok (.if_icmp .ne 12, 3) := by decide +kernel
theorem dL_does_151 : decode cL_does 151 = .ok (.aload_n 0, 1) := by decide +kernel
theorem dL_does_152 : decode cL_does 152 = .ok (.iload_n 2, 1) := by decide +kernel
theorem dL_does_153 : decode cL_does 153 = .ok (.iload_n 3, 1) := by decide +kernel
theorem dL_does_154 : decode cL_does 154 = .ok (.invokevirtual 35, 3) := by decide +kernel
theorem dL_does_157 : decode cL_does 157 = .ok (.goto 54, 3) := by decide +kernel
theorem dL_does_160 : decode cL_does 160 = .ok (.iload_n 1, 1) := by decide +kernel
theorem dL_does_161 : decode cL_does 161 = .ok (.bipush 8, 2) := by decide +kernel
theorem dL_does_163 : decode cL_does 163 = .ok (.if_icmp .ne 14, 3) := by decide +kernel
theorem dL_does_166 : decode cL_does 166 = .ok (.aload_n 0, 1) := by decide +kernel
theorem dL_does_167 : decode cL_does 167 = .ok (.iload_n 2, 1) := by decide +kernel
theorem dL_does_168 : decode cL_does 168 = .ok (.iload_n 3, 1) := by decide +kernel
theorem dL_does_169 : decode cL_does 169 = .ok (.iload 4, 2) := by decide +kernel
theorem dL_does_171 : decode cL_does 171 = .ok (.invokevirtual 39, 3) := by decide +kernel
theorem dL_does_174 : decode cL_does 174 = .ok (.goto 37, 3) := by decide +kernel
theorem dL_does_177 : decode cL_does 177 = .ok (.iload_n 1, 1) := by decide +kernel
theorem dL_does_178 : decode cL_does 178 = .ok (.bipush 9, 2) := by decide +kernel
theorem dL_does_180 : decode cL_does 180 = .ok (.if_icmp .ne 12, 3) := by decide +kernel
theorem dL_does_183 : decode cL_does 183 = .ok (.aload_n 0, 1) := by decide +kernel
theorem dL_does_184 : decode cL_does 184 = .ok (.iload_n 2, 1) := by decide +kernel
theorem dL_does_185 : decode cL_does 185 = .ok (.iload_n 3, 1) := by decide +kernel
theorem dL_does_186 : decode cL_does 186 = .ok (.invokevirtual 42, 3) := by decide +kernel
theorem dL_does_189 : decode cL_does 189 = .ok (.goto 22, 3) := by decide +kernel
theorem dL_does_192 : decode cL_does 192 = .ok (.iload_n 1, 1) := by decide +kernel
theorem dL_does_193 : decode cL_does 193 = .ok (.bipush 10, 2) := by decide +kernel
theorem dL_does_195 : decode cL_does 195 = .ok (.if_icmp .ne 11, 3) := by decide +kernel
theorem dL_does_198 : decode cL_does 198 = .ok (.aload_n 0, 1) := by decide +kernel
theorem dL_does_199 : decode cL_does 199 = .ok (.iload_n 2, 1) := by decide +kernel
theorem dL_does_200 : decode cL_does 200 = .ok (.invokevirtual 45, 3) := by decide +kernel
theorem dL_does_203 : decode cL_does 203 = .ok (.goto 8, 3) := by decide +kernel
theorem dL_does_206 : decode cL_does 206 = .ok (.aload_n 0, 1) := by decide +kernel
theorem dL_does_207 : decode cL_does 207 = .ok (.iload_n 2, 1) := by decide +kernel
theorem dL_does_208 : decode cL_does 208 = .ok (.invokevirtual 49, 3) := by decide +kernel
theorem dL_does_211 : decode cL_does 211 = .ok (.ireturn, 1) := by decide +kernel
theorem dL_does_212 : decode cL_does 212 = .ok (.astore 7, 2) := by decide +kernel
theorem dL_does_214 : decode cL_does 214 = .ok (.sipush (-300), 3) := by decide +kernel
theorem dL_does_217 : decode cL_does 217 = .ok (.ireturn, 1) := by decide +kernel
theorem dL_does_218 : decode cL_does 218 = .ok (.astore 7, 2) := by decide +kernel
theorem dL_does_220 : decode cL_does 220 = .ok (.sipush (-200), 3) := by decide +kernel
theorem dL_does_223 : decode cL_does 223 = .ok (.ireturn, 1) := by decide +kernel
theorem dL_does_224 : decode cL_does 224 = .ok (.astore 7, 2) := by decide +kernel
theorem dL_does_226 : decode cL_does 226 = .ok (.bipush (-100), 2) := by decide +kernel
theorem dL_does_228 : decode cL_does 228 = .ok (.ireturn, 1) := by decide +kernel
theorem dL_asks_0 : decode cL_asks 0 = .ok (.iload_n 1, 1) := by decide +kernel
theorem dL_asks_1 : decode cL_asks 1 = .ok (.ifCond .ne 14, 3) := by decide +kernel
theorem dL_asks_4 : decode cL_asks 4 = .ok (.aload_n 0, 1) := by decide +kernel
theorem dL_asks_5 : decode cL_asks 5 = .ok (.iload_n 2, 1) := by decide +kernel
theorem dL_asks_6 : decode cL_asks 6 = .ok (.iload_n 3, 1) := by decide +kernel
theorem dL_asks_7 : decode cL_asks 7 = .ok (.iload 4, 2) := by decide +kernel
theorem dL_asks_9 : decode cL_asks 9 = .ok (.invokevirtual 58, 3) := by decide +kernel
theorem dL_asks_12 : decode cL_asks 12 = .ok (.goto 67, 3) := by decide +kernel
theorem dL_asks_15 : decode cL_asks 15 = .ok (.iload_n 1, 1) := by decide +kernel
theorem dL_asks_16 : decode cL_asks 16 = .ok (.iconst 1, 1) := by decide +kernel
theorem dL_asks_17 : decode cL_asks 17 = .ok (.if_icmp .ne 14, 3) := by decide +kernel
theorem dL_asks_20 : decode cL_asks 20 = .ok (.aload_n 0, 1) := by decide +kernel
theorem dL_asks_21 : decode cL_asks 21 = .ok (.iload_n 2, 1) := by decide +kernel
theorem dL_asks_22 : decode cL_asks 22 = .ok (.iload_n 3, 1) := by decide +kernel
theorem dL_asks_23 : decode cL_asks 23 = .ok (.iload 4, 2) := by decide +kernel
theorem dL_asks_25 : decode cL_asks 25 = .ok (.invokevirtual 61, 3) := by decide +kernel
theorem dL_asks_28 : decode cL_asks 28 = .ok (.goto 51, 3) := by decide +kernel
theorem dL_asks_31 : decode cL_asks 31 = .ok (.iload_n 1, 1) := by decide +kernel
theorem dL_asks_32 : decode cL_asks 32 = .ok (.iconst 2, 1) := by decide +kernel
theorem dL_asks_33 : decode cL_asks 33 = .ok (.if_icmp .ne 14, 3) := by decide +kernel
theorem dL_asks_36 : decode cL_asks 36 = .ok (.aload_n 0, 1) := by decide +kernel
theorem dL_asks_37 : decode cL_asks 37 = .ok (.iload_n 2, 1) := by decide +kernel
theorem dL_asks_38 : decode cL_asks 38 = .ok (.iload_n 3, 1) := by decide +kernel
theorem dL_asks_39 : decode cL_asks 39 = .ok (.iload 4, 2) := by decide +kernel
theorem dL_asks_41 : decode cL_asks 41 = .ok (.invokevirtual 65, 3) := by decide +kernel
theorem dL_asks_44 : decode cL_asks 44 = .ok (.goto 35, 3) := by decide +kernel
theorem dL_asks_47 : decode cL_asks 47 = .ok (.iload_n 1, 1) := by decide +kernel
theorem dL_asks_48 : decode cL_asks 48 = .ok (.iconst 3, 1) := by decide +kernel
theorem dL_asks_49 : decode cL_asks 49 = .ok (.if_icmp .ne 12, 3) := by decide +kernel
theorem dL_asks_52 : decode cL_asks 52 = .ok (.aload_n 0, 1) := by decide +kernel
theorem dL_asks_53 : decode cL_asks 53 = .ok (.iload_n 2, 1) := by decide +kernel
theorem dL_asks_54 : decode cL_asks 54 = .ok (.iload_n 3, 1) := by decide +kernel
theorem dL_asks_55 : decode cL_asks 55 = .ok (.invokevirtual 68, 3) := by decide +kernel
theorem dL_asks_58 : decode cL_asks 58 = .ok (.goto 21, 3) := by decide +kernel
theorem dL_asks_61 : decode cL_asks 61 = .ok (.iload_n 1, 1) := by decide +kernel
theorem dL_asks_62 : decode cL_asks 62 = .ok (.iconst 4, 1) := by decide +kernel
theorem dL_asks_63 : decode cL_asks 63 = .ok (.if_icmp .ne 11, 3) := by decide +kernel
theorem dL_asks_66 : decode cL_asks 66 = .ok (.aload_n 0, 1) := by decide +kernel
theorem dL_asks_67 : decode cL_asks 67 = .ok (.iload_n 2, 1) := by decide +kernel
theorem dL_asks_68 : decode cL_asks 68 = .ok (.invokevirtual 71, 3) := by decide +kernel
theorem dL_asks_71 : decode cL_asks 71 = .ok (.goto 8, 3) := by decide +kernel
theorem dL_asks_74 : decode cL_asks 74 = .ok (.aload_n 0, 1) := by decide +kernel
theorem dL_asks_75 : decode cL_asks 75 = .ok (.iload_n 2, 1) := by decide +kernel
theorem dL_asks_76 : decode cL_asks 76 = .ok (.invokevirtual 74, 3) := by decide +kernel
theorem dL_asks_79 : decode cL_asks 79 = .ok (.ireturn, 1) := by decide +kernel
theorem dL_asks_80 : decode cL_asks 80 = .ok (.astore 5, 2) := by decide +kernel
theorem dL_asks_82 : decode cL_asks 82 = .ok (.sipush (-300), 3) := by decide +kernel
theorem dL_asks_85 : decode cL_asks 85 = .ok (.ireturn, 1) := by decide +kernel
theorem dL_asks_86 : decode cL_asks 86 = .ok (.astore 5, 2) := by decide +kernel
theorem dL_asks_88 : decode cL_asks 88 = .ok (.sipush (-200), 3) := by decide +kernel
theorem dL_asks_91 : decode cL_asks 91 = .ok (.ireturn, 1) := by decide +kernel
theorem dL_state_0 : decode cL_state 0 = .ok (.aload_n 0, 1) := by decide +kernel
theorem dL_state_1 : decode cL_state 1 = .ok (.iload_n 1, 1) := by decide +kernel
theorem dL_state_2 : decode cL_state 2 = .ok (.laload, 1) := by decide +kernel
theorem dL_state_3 : decode cL_state 3 = .ok (.bipush 6, 2) := by decide +kernel
theorem dL_state_5 : decode cL_state 5 = .ok (.iload_n 2, 1) := by decide +kernel
theorem dL_state_6 : decode cL_state 6 = .ok (.imul, 1) := by decide +kernel
theorem dL_state_7 : decode cL_state 7 = .ok (.lshr, 1) := by decide +kernel
theorem dL_state_8 : decode cL_state 8 = .ok (.ldc2_w 77, 3) := by decide +kernel
theorem dL_state_11 : decode cL_state 11 = .ok (.land, 1) := by decide +kernel
theorem dL_state_12 : decode cL_state 12 = .ok (.l2i, 1) := by decide +kernel
theorem dL_state_13 : decode cL_state 13 = .ok (.ireturn, 1) := by decide +kernel
theorem dL_find_0 : decode cL_find 0 = .ok (.iconst (-1), 1) := by decide +kernel
theorem dL_find_1 : decode cL_find 1 = .ok (.istore 4, 2) := by decide +kernel
theorem dL_find_3 : decode cL_find 3 = .ok (.iconst 0, 1) := by decide +kernel
theorem dL_find_4 : decode cL_find 4 = .ok (.istore 5, 2) := by decide +kernel
theorem dL_find_6 : decode cL_find 6 = .ok (.iload 5, 2) := by decide +kernel
theorem dL_find_8 : decode cL_find 8 = .ok (.aload_n 1, 1) := by decide +kernel
theorem dL_find_9 : decode cL_find 9 = .ok (.iconst 1, 1) := by decide +kernel
theorem dL_find_10 : decode cL_find 10 = .ok (.iaload, 1) := by decide +kernel
theorem dL_find_11 : decode cL_find 11 = .ok (.if_icmp .ge 44, 3) := by decide +kernel
theorem dL_find_14 : decode cL_find 14 = .ok (.aload_n 0, 1) := by decide +kernel
theorem dL_find_15 : decode cL_find 15 = .ok (.iload_n 2, 1) := by decide +kernel
theorem dL_find_16 : decode cL_find 16 = .ok (.iload 5, 2) := by decide +kernel
theorem dL_find_18 : decode cL_find 18 = .ok (.invokestatic 79, 3) := by decide +kernel
theorem dL_find_21 : decode cL_find 21 = .ok (.bipush 32, 2) := by decide +kernel
theorem dL_find_23 : decode cL_find 23 = .ok (.irem, 1) := by decide +kernel
theorem dL_find_24 : decode cL_find 24 = .ok (.iload_n 3, 1) := by decide +kernel
theorem dL_find_25 : decode cL_find 25 = .ok (.iconst 1, 1) := by decide +kernel
theorem dL_find_26 : decode cL_find 26 = .ok (.iadd, 1) := by decide +kernel
theorem dL_find_27 : decode cL_find 27 = .ok (.if_icmp .ne 18, 3) := by decide +kernel
theorem dL_find_30 : decode cL_find 30 = .ok (.iload_n 3, 1) := by decide +kernel
theorem dL_find_31 : decode cL_find 31 = .ok (.ifCond .lt 14, 3) := by decide +kernel
theorem dL_find_34 : decode cL_find 34 = .ok (.iload_n 3, 1) := by decide +kernel
theorem dL_find_35 : decode cL_find 35 = .ok (.bipush 26, 2) := by decide +kernel
theorem dL_find_37 : decode cL_find 37 = .ok (.if_icmp .ge 8, 3) := by decide +kernel
theorem dL_find_40 : decode cL_find 40 = .ok (.iload 5, 2) := by decide +kernel
theorem dL_find_42 : decode cL_find 42 = .ok (.goto 5, 3) := by decide +kernel
theorem dL_find_45 : decode cL_find 45 = .ok (.iload 4, 2) := by decide +kernel
theorem dL_find_47 : decode cL_find 47 = .ok (.istore 4, 2) := by decide +kernel
theorem dL_find_49 : decode cL_find 49 = .ok (.iinc 5 1, 3) := by decide +kernel
theorem dL_find_52 : decode cL_find 52 = .ok (.goto (-46), 3) := by decide +kernel
theorem dL_find_55 : decode cL_find 55 = .ok (.iload 4, 2) := by decide +kernel
theorem dL_find_57 : decode cL_find 57 = .ok (.ireturn, 1) := by decide +kernel
theorem dL_isNeeded_0 : decode cL_isNeeded 0 = .ok (.aload_n 0, 1) := by decide +kernel
theorem dL_isNeeded_1 : decode cL_isNeeded 1 = .ok (.iload_n 1, 1) := by decide +kernel
theorem dL_isNeeded_2 : decode cL_isNeeded 2 = .ok (.iload_n 2, 1) := by decide +kernel
theorem dL_isNeeded_3 : decode cL_isNeeded 3 = .ok (.invokestatic 79, 3) := by decide +kernel
theorem dL_isNeeded_6 : decode cL_isNeeded 6 = .ok (.bipush 31, 2) := by decide +kernel
theorem dL_isNeeded_8 : decode cL_isNeeded 8 = .ok (.if_icmp .le 7, 3) := by decide +kernel
theorem dL_isNeeded_11 : decode cL_isNeeded 11 = .ok (.iconst 1, 1) := by decide +kernel
theorem dL_isNeeded_12 : decode cL_isNeeded 12 = .ok (.goto 4, 3) := by decide +kernel
theorem dL_isNeeded_15 : decode cL_isNeeded 15 = .ok (.iconst 0, 1) := by decide +kernel
theorem dL_isNeeded_16 : decode cL_isNeeded 16 = .ok (.ireturn, 1) := by decide +kernel
theorem dL_side_0 : decode cL_side 0 = .ok (.aload_n 0, 1) := by decide +kernel
theorem dL_side_1 : decode cL_side 1 = .ok (.iload_n 1, 1) := by decide +kernel
theorem dL_side_2 : decode cL_side 2 = .ok (.iaload, 1) := by decide +kernel
theorem dL_side_3 : decode cL_side 3 = .ok (.bipush 8, 2) := by decide +kernel
theorem dL_side_5 : decode cL_side 5 = .ok (.idiv, 1) := by decide +kernel
theorem dL_side_6 : decode cL_side 6 = .ok (.istore 4, 2) := by decide +kernel
theorem dL_side_8 : decode cL_side 8 = .ok (.iconst 0, 1) := by decide +kernel
theorem dL_side_9 : decode cL_side 9 = .ok (.istore 5, 2) := by decide +kernel
theorem dL_side_11 : decode cL_side 11 = .ok (.iload 5, 2) := by decide +kernel
theorem dL_side_13 : decode cL_side 13 = .ok (.iload_n 2, 1) := by decide +kernel
theorem dL_side_14 : decode cL_side 14 = .ok (.ifCond .eq 7, 3) := by decide +kernel
theorem dL_side_17 : decode cL_side 17 = .ok (.iconst 0, 1) := by decide +kernel
theorem dL_side_18 : decode cL_side 18 = .ok (.goto 4, 3) := by decide +kernel
theorem dL_side_21 : decode cL_side 21 = .ok (.iconst 2, 1) := by decide +kernel
theorem dL_side_22 : decode cL_side 22 = .ok (.iload_n 3, 1) := by decide +kernel
theorem dL_side_23 : decode cL_side 23 = .ok (.iadd, 1) := by decide +kernel
theorem dL_side_24 : decode cL_side 24 = .ok (.if_icmp .ge 16, 3) := by decide +kernel
theorem dL_side_27 : decode cL_side 27 = .ok (.iload 4, 2) := by decide +kernel
theorem dL_side_29 : decode cL_side 29 = .ok (.bipush 16, 2) := by decide +kernel
theorem dL_side_31 : decode cL_side 31 = .ok (.idiv, 1) := by decide +kernel
theorem dL_side_32 : decode cL_side 32 = .ok (.istore 4, 2) := by decide +kernel
theorem dL_side_34 : decode cL_side 34 = .ok (.iinc 5 1, 3) := by decide +kernel
theorem dL_side_37 : decode cL_side 37 = .ok (.goto (-26), 3) := by decide +kernel
theorem dL_side_40 : decode cL_side 40 = .ok (.iload 4, 2) := by decide +kernel
theorem dL_side_42 : decode cL_side 42 = .ok (.bipush 16, 2) := by decide +kernel
theorem dL_side_44 : decode cL_side 44 = .ok (.irem, 1) := by decide +kernel
theorem dL_side_45 : decode cL_side 45 = .ok (.iconst 1, 1) := by decide +kernel
theorem dL_side_46 : decode cL_side 46 = .ok (.isub, 1) := by decide +kernel
theorem dL_side_47 : decode cL_side 47 = .ok (.ireturn, 1) := by decide +kernel
theorem dL_by_0 : decode cL_by 0 = .ok (.aload_n 0, 1) := by decide +kernel
theorem dL_by_1 : decode cL_by 1 = .ok (.iload_n 1, 1) := by decide +kernel
theorem dL_by_2 : decode cL_by 2 = .ok (.iaload, 1) := by decide +kernel
theorem dL_by_3 : decode cL_by 3 = .ok (.ldc 85, 2) := by decide +kernel
theorem dL_by_5 : decode cL_by 5 = .ok (.idiv, 1) := by decide +kernel
theorem dL_by_6 : decode cL_by 6 = .ok (.ireturn, 1) := by decide +kernel
theorem dL_kind_0 : decode cL_kind 0 = .ok (.iload_n 1, 1) := by decide +kernel
theorem dL_kind_1 : decode cL_kind 1 = .ok (.ifCond .ge 7, 3) := by decide +kernel
theorem dL_kind_4 : decode cL_kind 4 = .ok (.iconst 0, 1) := by decide +kernel
theorem dL_kind_5 : decode cL_kind 5 = .ok (.goto 8, 3) := by decide +kernel
theorem dL_kind_8 : decode cL_kind 8 = .ok (.aload_n 0, 1) := by decide +kernel
theorem dL_kind_9 : decode cL_kind 9 = .ok (.iload_n 1, 1) := by decide +kernel
theorem dL_kind_10 : decode cL_kind 10 = .ok (.iaload, 1) := by decide +kernel
theorem dL_kind_11 : decode cL_kind 11 = .ok (.iconst 3, 1) := by decide +kernel
theorem dL_kind_12 : decode cL_kind 12 = .ok (.irem, 1) := by decide +kernel
theorem dL_kind_13 : decode cL_kind 13 = .ok (.ireturn, 1) := by decide +kernel
theorem dL_turned_0 : decode cL_turned 0 = .ok (.iload_n 0, 1) := by decide +kernel
theorem dL_turned_1 : decode cL_turned 1 = .ok (.iconst 1, 1) := by decide +kernel
theorem dL_turned_2 : decode cL_turned 2 = .ok (.if_icmp .lt 13, 3) := by decide +kernel
theorem dL_turned_5 : decode cL_turned 5 = .ok (.iload_n 1, 1) := by decide +kernel
theorem dL_turned_6 : decode cL_turned 6 = .ok (.iload_n 2, 1) := by decide +kernel
theorem dL_turned_7 : decode cL_turned 7 = .ok (.if_icmp .eq 8, 3) := by decide +kernel
theorem dL_turned_10 : decode cL_turned 10 = .ok (.iload_n 1, 1) := by decide +kernel
theorem dL_turned_11 : decode cL_turned 11 = .ok (.iconst 1, 1) := by decide +kernel
theorem dL_turned_12 : decode cL_turned 12 = .ok (.if_icmp .ne 5, 3) := by decide +kernel
theorem dL_turned_15 : decode cL_turned 15 = .ok (.iload_n 0, 1) := by decide +kernel
theorem dL_turned_16 : decode cL_turned 16 = .ok (.ireturn, 1) := by decide +kernel
theorem dL_turned_17 : decode cL_turned 17 = .ok (.iload_n 2, 1) := by decide +kernel
theorem dL_turned_18 : decode cL_turned 18 = .ok (.iconst 1, 1) := by decide +kernel
theorem dL_turned_19 : decode cL_turned 19 = .ok (.if_icmp .ne 7, 3) := by decide +kernel
theorem dL_turned_22 : decode cL_turned 22 = .ok (.iconst 1, 1) := by decide +kernel
theorem dL_turned_23 : decode cL_turned 23 = .ok (.goto 18, 3) := by decide +kernel
theorem dL_turned_26 : decode cL_turned 26 = .ok (.iload_n 1, 1) := by decide +kernel
theorem dL_turned_27 : decode cL_turned 27 = .ok (.ifCond .ne 10, 3) := by decide +kernel
theorem dL_turned_30 : decode cL_turned 30 = .ok (.iload_n 0, 1) := by decide +kernel
theorem dL_turned_31 : decode cL_turned 31 = .ok (.bipush 10, 2) := by decide +kernel
theorem dL_turned_33 : decode cL_turned 33 = .ok (.idiv, 1) := by decide +kernel
theorem dL_turned_34 : decode cL_turned 34 = .ok (.goto 7, 3) := by decide +kernel
theorem dL_turned_37 : decode cL_turned 37 = .ok (.bipush 10, 2) := by decide +kernel
theorem dL_turned_39 : decode cL_turned 39 = .ok (.iload_n 0, 1) := by decide +kernel
theorem dL_turned_40 : decode cL_turned 40 = .ok (.imul, 1) := by decide +kernel
theorem dL_turned_41 : decode cL_turned 41 = .ok (.ireturn, 1) := by decide +kernel
theorem dL_joined_0 : decode cL_joined 0 = .ok (.iload_n 0, 1) := by decide +kernel
theorem dL_joined_1 : decode cL_joined 1 = .ok (.ifCond .lt 7, 3) := by decide +kernel
theorem dL_joined_4 : decode cL_joined 4 = .ok (.iload_n 1, 1) := by decide +kernel
theorem dL_joined_5 : decode cL_joined 5 = .ok (.ifCond .ge 7, 3) := by decide +kernel
theorem dL_joined_8 : decode cL_joined 8 = .ok (.iconst (-1), 1) := by decide +kernel
theorem dL_joined_9 : decode cL_joined 9 = .ok (.goto 25, 3) := by decide +kernel
theorem dL_joined_12 : decode cL_joined 12 = .ok (.iload_n 0, 1) := by decide +kernel
theorem dL_joined_13 : decode cL_joined 13 = .ok (.iload_n 2, 1) := by decide +kernel
theorem dL_joined_14 : decode cL_joined 14 = .ok (.imul, 1) := by decide +kernel
theorem dL_joined_15 : decode cL_joined 15 = .ok (.iload_n 1, 1) := by decide +kernel
theorem dL_joined_16 : decode cL_joined 16 = .ok (.iadd, 1) := by decide +kernel
theorem dL_joined_17 : decode cL_joined 17 = .ok (.sipush 9999, 3) := by decide +kernel
theorem dL_joined_20 : decode cL_joined 20 = .ok (.if_icmp .ge 11, 3) := by decide +kernel
theorem dL_joined_23 : decode cL_joined 23 = .ok (.iload_n 0, 1) := by decide +kernel
theorem dL_joined_24 : decode cL_joined 24 = .ok (.iload_n 2, 1) := by decide +kernel
theorem dL_joined_25 : decode cL_joined 25 = .ok (.imul, 1) := by decide +kernel
theorem dL_joined_26 : decode cL_joined 26 = .ok (.iload_n 1, 1) := by decide +kernel
theorem dL_joined_27 : decode cL_joined 27 = .ok (.iadd, 1) := by decide +kernel
theorem dL_joined_28 : decode cL_joined 28 = .ok (.goto 6, 3) := by decide +kernel
theorem dL_joined_31 : decode cL_joined 31 = .ok (.sipush 9999, 3) := by decide +kernel
theorem dL_joined_34 : decode cL_joined 34 = .ok (.ireturn, 1) := by decide +kernel
theorem dL_tells_0 : decode cL_tells 0 = .ok (.aload_n 1, 1) := by decide +kernel
theorem dL_tells_1 : decode cL_tells 1 = .ok (.iload_n 3, 1) := by decide +kernel
theorem dL_tells_2 : decode cL_tells 2 = .ok (.iaload, 1) := by decide +kernel
theorem dL_tells_3 : decode cL_tells 3 = .ok (.bipush 8, 2) := by decide +kernel
theorem dL_tells_5 : decode cL_tells 5 = .ok (.irem, 1) := by decide +kernel
theorem dL_tells_6 : decode cL_tells 6 = .ok (.istore 8, 2) := by decide +kernel
theorem dL_tells_8 : decode cL_tells 8 = .ok (.aload_n 1, 1) := by decide +kernel
theorem dL_tells_9 : decode cL_tells 9 = .ok (.iload_n 3, 1) := by decide +kernel
theorem dL_tells_10 : decode cL_tells 10 = .ok (.iload 4, 2) := by decide +kernel
theorem dL_tells_12 : decode cL_tells 12 = .ok (.ifCond .ne 7, 3) := by decide +kernel
theorem dL_tells_15 : decode cL_tells 15 = .ok (.iconst 1, 1) := by decide +kernel
theorem dL_tells_16 : decode cL_tells 16 = .ok (.goto 4, 3) := by decide +kernel
theorem dL_tells_19 : decode cL_tells 19 = .ok (.iconst 0, 1) := by decide +kernel
theorem dL_tells_20 : decode cL_tells 20 = .ok (.iconst 0, 1) := by decide +kernel
theorem dL_tells_21 : decode cL_tells 21 = .ok (.invokestatic 86, 3) := by decide +kernel
theorem dL_tells_24 : decode cL_tells 24 = .ok (.istore 9, 2) := by decide +kernel
theorem dL_tells_26 : decode cL_tells 26 = .ok (.aload_n 1, 1) := by decide +kernel
theorem dL_tells_27 : decode cL_tells 27 = .ok (.iload_n 3, 1) := by decide +kernel
theorem dL_tells_28 : decode cL_tells 28 = .ok (.iload 4, 2) := by decide +kernel
theorem dL_tells_30 : decode cL_tells 30 = .ok (.ifCond .ne 7, 3) := by decide +kernel
theorem dL_tells_33 : decode cL_tells 33 = .ok (.iconst 1, 1) := by decide +kernel
theorem dL_tells_34 : decode cL_tells 34 = .ok (.goto 4, 3) := by decide +kernel
theorem dL_tells_37 : decode cL_tells 37 = .ok (.iconst 0, 1) := by decide +kernel
theorem dL_tells_38 : decode cL_tells 38 = .ok (.iconst 1, 1) := by decide +kernel
theorem dL_tells_39 : decode cL_tells 39 = .ok (.invokestatic 86, 3) := by decide +kernel
theorem dL_tells_42 : decode cL_tells 42 = .ok (.istore 10, 2) := by decide +kernel
theorem dL_tells_44 : decode cL_tells 44 = .ok (.aload_n 1, 1) := by decide +kernel
theorem dL_tells_45 : decode cL_tells 45 = .ok (.iload_n 3, 1) := by decide +kernel
theorem dL_tells_46 : decode cL_tells 46 = .ok (.iload 4, 2) := by decide +kernel
theorem dL_tells_48 : decode cL_tells 48 = .ok (.iconst 0, 1) := by decide +kernel
theorem dL_tells_49 : decode cL_tells 49 = .ok (.invokestatic 86, 3) := by decide +kernel
theorem dL_tells_52 : decode cL_tells 52 = .ok (.istore 11, 2) := by decide +kernel
theorem dL_tells_54 : decode cL_tells 54 = .ok (.iload 8, 2) := by decide +kernel
theorem dL_tells_56 : decode cL_tells 56 = .ok (.iload 4, 2) := by decide +kernel
theorem dL_tells_58 : decode cL_tells 58 = .ok (.ifCond .eq 7, 3) := by decide +kernel
theorem dL_tells_61 : decode cL_tells 61 = .ok (.iconst 3, 1) := by decide +kernel
theorem dL_tells_62 : decode cL_tells 62 = .ok (.goto 4, 3) := by decide +kernel
theorem dL_tells_65 : decode cL_tells 65 = .ok (.iconst 4, 1) := by decide +kernel
theorem dL_tells_66 : decode cL_tells 66 = .ok (.if_icmp .ne 7, 3) := by decide +kernel
theorem dL_tells_69 : decode cL_tells 69 = .ok (.iconst 1, 1) := by decide +kernel
theorem dL_tells_70 : decode cL_tells 70 = .ok (.goto 4, 3) := by decide +kernel
theorem dL_tells_73 : decode cL_tells 73 = .ok (.iconst 0, 1) := by decide +kernel
theorem dL_tells_74 : decode cL_tells 74 = .ok (.istore 12, 2) := by decide +kernel
theorem dL_tells_76 : decode cL_tells 76 = .ok (.iload 8, 2) := by decide +kernel
theorem dL_tells_78 : decode cL_tells 78 = .ok (.iload 4, 2) := by decide +kernel
theorem dL_tells_80 : decode cL_tells 80 = .ok (.ifCond .eq 7, 3) := by decide +kernel
theorem dL_tells_83 : decode cL_tells 83 = .ok (.iconst 4, 1) := by decide +kernel
theorem dL_tells_84 : decode cL_tells 84 = .ok (.goto 4, 3) := by decide +kernel
theorem dL_tells_87 : decode cL_tells 87 = .ok (.iconst 3, 1) := by decide +kernel
theorem dL_tells_88 : decode cL_tells 88 = .ok (.if_icmp .ne 7, 3) := by decide +kernel
theorem dL_tells_91 : decode cL_tells 91 = .ok (.iconst 1, 1) := by decide +kernel
theorem dL_tells_92 : decode cL_tells 92 = .ok (.goto 4, 3) := by decide +kernel
theorem dL_tells_95 : decode cL_tells 95 = .ok (.iconst 0, 1) := by decide +kernel
theorem dL_tells_96 : decode cL_tells 96 = .ok (.istore 13, 2) := by decide +kernel
theorem dL_tells_98 : decode cL_tells 98 = .ok (.aload 7, 2) := by decide +kernel
theorem dL_tells_100 : decode cL_tells 100 = .ok (.iconst 0, 1) := by decide +kernel
theorem dL_tells_101 : decode cL_tells 101 = .ok (.iload 8, 2) := by decide +kernel
theorem dL_tells_103 : decode cL_tells 103 = .ok (.ifCond .ne 17, 3) := by decide +kernel
theorem dL_tells_106 : decode cL_tells 106 = .ok (.iload 4, 2) := by decide +kernel
theorem dL_tells_108 : decode cL_tells 108 = .ok (.ifCond .eq 12, 3) := by decide +kernel
theorem dL_tells_111 : decode cL_tells 111 = .ok (.aload_n 2, 1) := by decide +kernel
theorem dL_tells_112 : decode cL_tells 112 = .ok (.iload 9, 2) := by decide +kernel
theorem dL_tells_114 : decode cL_tells 114 = .ok (.iaload, 1) := by decide +kernel
theorem dL_tells_115 : decode cL_tells 115 = .ok (.iconst 3, 1) := by decide +kernel
theorem dL_tells_116 : decode cL_tells 116 = .ok (.idiv, 1) := by decide +kernel
theorem dL_tells_117 : decode cL_tells 117 = .ok (.goto 87, 3) := by decide +kernel
theorem dL_tells_120 : decode cL_tells 120 = .ok (.iload 8, 2) := by decide +kernel
theorem dL_tells_122 : decode cL_tells 122 = .ok (.iconst 2, 1) := by decide +kernel
theorem dL_tells_123 : decode cL_tells 123 = .ok (.if_icmp .ne 23, 3) := by decide +kernel
theorem dL_tells_126 : decode cL_tells 126 = .ok (.iload 5, 2) := by decide +kernel
theorem dL_tells_128 : decode cL_tells 128 = .ok (.aload_n 2, 1) := by decide +kernel
theorem dL_tells_129 : decode cL_tells 129 = .ok (.iload 11, 2) := by decide +kernel
theorem dL_tells_131 : decode cL_tells 131 = .ok (.invokestatic 90, 3) := by decide +kernel
theorem dL_tells_134 : decode cL_tells 134 = .ok (.aload_n 2, 1) := by decide +kernel
theorem dL_tells_135 : decode cL_tells 135 = .ok (.iload 9, 2) := by decide +kernel
theorem dL_tells_137 : decode cL_tells 137 = .ok (.invokestatic 90, 3) := by decide +kernel
theorem dL_tells_140 : decode cL_tells 140 = .ok (.invokestatic 94, 3) := by decide +kernel
theorem dL_tells_143 : decode cL_tells 143 = .ok (.goto 61, 3) := by decide +kernel
theorem dL_tells_146 : decode cL_tells 146 = .ok (.iload 12, 2) := by decide +kernel
theorem dL_tells_148 : decode cL_tells 148 = .ok (.ifCond .eq 23, 3) := by decide +kernel
theorem dL_tells_151 : decode cL_tells 151 = .ok (.iload 5, 2) := by decide +kernel
theorem dL_tells_153 : decode cL_tells 153 = .ok (.ifCond .ge 7, 3) := by decide +kernel
theorem dL_tells_156 : decode cL_tells 156 = .ok (.iconst (-1), 1) := by decide +kernel
theorem dL_tells_157 : decode cL_tells 157 = .ok (.goto 47, 3) := by decide +kernel
theorem dL_tells_160 : decode cL_tells 160 = .ok (.iload 5, 2) := by decide +kernel
theorem dL_tells_162 : decode cL_tells 162 = .ok (.aload_n 1, 1) := by decide +kernel
theorem dL_tells_163 : decode cL_tells 163 = .ok (.iload_n 3, 1) := by decide +kernel
theorem dL_tells_164 : decode cL_tells 164 = .ok (.invokestatic 97, 3) := by decide +kernel
theorem dL_tells_167 : decode cL_tells 167 = .ok (.idiv, 1) := by decide +kernel
theorem dL_tells_168 : decode cL_tells 168 = .ok (.goto 36, 3) := by decide +kernel
theorem dL_tells_171 : decode cL_tells 171 = .ok (.iload 13, 2) := by decide +kernel
theorem dL_tells_173 : decode cL_tells 173 = .ok (.ifCond .eq 18, 3) := by decide +kernel
theorem dL_tells_176 : decode cL_tells 176 = .ok (.iload 5, 2) := by decide +kernel
theorem dL_tells_178 : decode cL_tells 178 = .ok (.iload 6, 2) := by decide +kernel
theorem dL_tells_180 : decode cL_tells 180 = .ok (.aload_n 1, 1) := by decide +kernel
theorem dL_tells_181 : decode cL_tells 181 = .ok (.iload_n 3, 1) := by decide +kernel
theorem dL_tells_182 : decode cL_tells 182 = .ok (.invokestatic 97, 3) := by decide +kernel
theorem dL_tells_185 : decode cL_tells 185 = .ok (.invokestatic 100, 3) := by decide +kernel
theorem dL_tells_188 : decode cL_tells 188 = .ok (.goto 16, 3) := by decide +kernel
theorem dL_tells_191 : decode cL_tells 191 = .ok (.iload 8, 2) := by decide +kernel
theorem dL_tells_193 : decode cL_tells 193 = .ok (.bipush 6, 2) := by decide +kernel
theorem dL_tells_195 : decode cL_tells 195 = .ok (.if_icmp .ne 8, 3) := by decide +kernel
theorem dL_tells_198 : decode cL_tells 198 = .ok (.iload 5, 2) := by decide +kernel
theorem dL_tells_200 : decode cL_tells 200 = .ok (.goto 4, 3) := by decide +kernel
theorem dL_tells_203 : decode cL_tells 203 = .ok (.iconst (-1), 1) := by decide +kernel
theorem dL_tells_204 : decode cL_tells 204 = .ok (.iastore, 1) := by decide +kernel
theorem dL_tells_205 : decode cL_tells 205 = .ok (.aload 7, 2) := by decide +kernel
theorem dL_tells_207 : decode cL_tells 207 = .ok (.iconst 1, 1) := by decide +kernel
theorem dL_tells_208 : decode cL_tells 208 = .ok (.iload 12, 2) := by decide +kernel
theorem dL_tells_210 : decode cL_tells 210 = .ok (.ifCond .eq 19, 3) := by decide +kernel
theorem dL_tells_213 : decode cL_tells 213 = .ok (.iload 5, 2) := by decide +kernel
theorem dL_tells_215 : decode cL_tells 215 = .ok (.ifCond .lt 14, 3) := by decide +kernel
theorem dL_tells_218 : decode cL_tells 218 = .ok (.iload 5, 2) := by decide +kernel
theorem dL_tells_220 : decode cL_tells 220 = .ok (.aload_n 1, 1) := by decide +kernel
theorem dL_tells_221 : decode cL_tells 221 = .ok (.iload_n 3, 1) := by decide +kernel
theorem dL_tells_222 : decode cL_tells 222 = .ok (.invokestatic 97, 3) := by decide +kernel
theorem dL_tells_225 : decode cL_tells 225 = .ok (.irem, 1) := by decide +kernel
theorem dL_tells_226 : decode cL_tells 226 = .ok (.goto 4, 3) := by decide +kernel
theorem dL_tells_229 : decode cL_tells 229 = .ok (.iconst (-1), 1) := by decide +kernel
theorem dL_tells_230 : decode cL_tells 230 = .ok (.iastore, 1) := by decide +kernel
theorem dL_tells_231 : decode cL_tells 231 = .ok (.iload 4, 2) := by decide +kernel
theorem dL_tells_233 : decode cL_tells 233 = .ok (.ifCond .eq 7, 3) := by decide +kernel
theorem dL_tells_236 : decode cL_tells 236 = .ok (.iload_n 3, 1) := by decide +kernel
theorem dL_tells_237 : decode cL_tells 237 = .ok (.goto 6, 3) := by decide +kernel
theorem dL_tells_240 : decode cL_tells 240 = .ok (.iload_n 3, 1) := by decide +kernel
theorem dL_tells_241 : decode cL_tells 241 = .ok (.iconst 1, 1) := by decide +kernel
theorem dL_tells_242 : decode cL_tells 242 = .ok (.isub, 1) := by decide +kernel
theorem dL_tells_243 : decode cL_tells 243 = .ok (.istore 14, 2) := by decide +kernel
theorem dL_tells_245 : decode cL_tells 245 = .ok (.aload 7, 2) := by decide +kernel
theorem dL_tells_247 : decode cL_tells 247 = .ok (.iconst 0, 1) := by decide +kernel
theorem dL_tells_248 : decode cL_tells 248 = .ok (.iload 8, 2) := by decide +kernel
theorem dL_tells_250 : decode cL_tells 250 = .ok (.iconst 1, 1) := by decide +kernel
theorem dL_tells_251 : decode cL_tells 251 = .ok (.if_icmp .eq 35, 3) := by decide +kernel
theorem dL_tells_254 : decode cL_tells 254 = .ok (.aload 7, 2) := by decide +kernel
theorem dL_tells_256 : decode cL_tells 256 = .ok (.iconst 0, 1) := by decide +kernel
theorem dL_tells_257 : decode cL_tells 257 = .ok (.iaload, 1) := by decide +kernel
theorem dL_tells_258 : decode cL_tells 258 = .ok (.ifCond .ge 28, 3) := by decide +kernel
theorem dL_tells_261 : decode cL_tells 261 = .ok (.iload 9, 2) := by decide +kernel
theorem dL_tells_263 : decode cL_tells 263 = .ok (.ifCond .lt 23, 3) := by decide +kernel
theorem dL_tells_266 : decode cL_tells 266 = .ok (.aload_n 0, 1) := by decide +kernel
theorem dL_tells_267 : decode cL_tells 267 = .ok (.iload 14, 2) := by decide +kernel
theorem dL_tells_269 : decode cL_tells 269 = .ok (.iload 9, 2) := by decide +kernel
theorem dL_tells_271 : decode cL_tells 271 = .ok (.invokestatic 103, 3) := by decide +kernel
theorem dL_tells_274 : decode cL_tells 274 = .ok (.ifCond .eq 12, 3) := by decide +kernel
theorem dL_tells_277 : decode cL_tells 277 = .ok (.aload_n 2, 1) := by decide +kernel
theorem dL_tells_278 : decode cL_tells 278 = .ok (.iload 9, 2) := by decide +kernel
theorem dL_tells_280 : decode cL_tells 280 = .ok (.iaload, 1) := by decide +kernel
theorem dL_tells_281 : decode cL_tells 281 = .ok (.iconst 3, 1) := by decide +kernel
theorem dL_tells_282 : decode cL_tells 282 = .ok (.idiv, 1) := by decide +kernel
theorem dL_tells_283 : decode cL_tells 283 = .ok (.goto 7, 3) := by decide +kernel
theorem dL_tells_286 : decode cL_tells 286 = .ok (.aload 7, 2) := by decide +kernel
theorem dL_tells_288 : decode cL_tells 288 = .ok (.iconst 0, 1) := by decide +kernel
theorem dL_tells_289 : decode cL_tells 289 = .ok (.iaload, 1) := by decide +kernel
theorem dL_tells_290 : decode cL_tells 290 = .ok (.iastore, 1) := by decide +kernel
theorem dL_tells_291 : decode cL_tells 291 = .ok (.aload 7, 2) := by decide +kernel
theorem dL_tells_293 : decode cL_tells 293 = .ok (.iconst 1, 1) := by decide +kernel
theorem dL_tells_294 : decode cL_tells 294 = .ok (.aload 7, 2) := by decide +kernel
theorem dL_tells_296 : decode cL_tells 296 = .ok (.iconst 1, 1) := by decide +kernel
theorem dL_tells_297 : decode cL_tells 297 = .ok (.iaload, 1) := by decide +kernel
theorem dL_tells_298 : decode cL_tells 298 = .ok (.ifCond .ge 28, 3) := by decide +kernel
theorem dL_tells_301 : decode cL_tells 301 = .ok (.iload 10, 2) := by decide +kernel
theorem dL_tells_303 : decode cL_tells 303 = .ok (.ifCond .lt 23, 3) := by decide +kernel
theorem dL_tells_306 : decode cL_tells 306 = .ok (.aload_n 0, 1) := by decide +kernel
theorem dL_tells_307 : decode cL_tells 307 = .ok (.iload 14, 2) := by decide +kernel
theorem dL_tells_309 : decode cL_tells 309 = .ok (.iload 10, 2) := by decide +kernel
theorem dL_tells_311 : decode cL_tells 311 = .ok (.invokestatic 103, 3) := by decide +kernel
theorem dL_tells_314 : decode cL_tells 314 = .ok (.ifCond .eq 12, 3) := by decide +kernel
theorem dL_tells_317 : decode cL_tells 317 = .ok (.aload_n 2, 1) := by decide +kernel
theorem dL_tells_318 : decode cL_tells 318 = .ok (.iload 10, 2) := by decide +kernel
theorem dL_tells_320 : decode cL_tells 320 = .ok (.iaload, 1) := by decide +kernel
theorem dL_tells_321 : decode cL_tells 321 = .ok (.iconst 3, 1) := by decide +kernel
theorem dL_tells_322 : decode cL_tells 322 = .ok (.idiv, 1) := by decide +kernel
theorem dL_tells_323 : decode cL_tells 323 = .ok (.goto 7, 3) := by decide +kernel
theorem dL_tells_326 : decode cL_tells 326 = .ok (.aload 7, 2) := by decide +kernel
theorem dL_tells_328 : decode cL_tells 328 = .ok (.iconst 1, 1) := by decide +kernel
theorem dL_tells_329 : decode cL_tells 329 = .ok (.iaload, 1) := by decide +kernel
theorem dL_tells_330 : decode cL_tells 330 = .ok (.iastore, 1) := by decide +kernel
theorem dL_tells_331 : decode cL_tells 331 = .ok (.aload 7, 2) := by decide +kernel
theorem dL_tells_333 : decode cL_tells 333 = .ok (.iconst 0, 1) := by decide +kernel
theorem dL_tells_334 : decode cL_tells 334 = .ok (.iload 8, 2) := by decide +kernel
theorem dL_tells_336 : decode cL_tells 336 = .ok (.iconst 1, 1) := by decide +kernel
theorem dL_tells_337 : decode cL_tells 337 = .ok (.if_icmp .ne 7, 3) := by decide +kernel
theorem dL_tells_340 : decode cL_tells 340 = .ok (.iconst (-1), 1) := by decide +kernel
theorem dL_tells_341 : decode cL_tells 341 = .ok (.goto 7, 3) := by decide +kernel
theorem dL_tells_344 : decode cL_tells 344 = .ok (.aload 7, 2) := by decide +kernel
theorem dL_tells_346 : decode cL_tells 346 = .ok (.iconst 0, 1) := by decide +kernel
theorem dL_tells_347 : decode cL_tells 347 = .ok (.iaload, 1) := by decide +kernel
theorem dL_tells_348 : decode cL_tells 348 = .ok (.iastore, 1) := by decide +kernel
theorem dL_tells_349 : decode cL_tells 349 = .ok (.return_, 1) := by decide +kernel
theorem dL_moves_0 : decode cL_moves 0 = .ok (.iload 7, 2) := by decide +kernel
theorem dL_moves_2 : decode cL_moves 2 = .ok (.ifCond .eq 15, 3) := by decide +kernel
theorem dL_moves_5 : decode cL_moves 5 = .ok (.aload 4, 2) := by decide +kernel
theorem dL_moves_7 : decode cL_moves 7 = .ok (.iconst 2, 1) := by decide +kernel
theorem dL_moves_8 : decode cL_moves 8 = .ok (.iload 6, 2) := by decide +kernel
theorem dL_moves_10 : decode cL_moves 10 = .ok (.imul, 1) := by decide +kernel
theorem dL_moves_11 : decode cL_moves 11 = .ok (.iaload, 1) := by decide +kernel
theorem dL_moves_12 : decode cL_moves 12 = .ok (.iconst 1, 1) := by decide +kernel
theorem dL_moves_13 : decode cL_moves 13 = .ok (.iadd, 1) := by decide +kernel
theorem dL_moves_14 : decode cL_moves 14 = .ok (.goto 10, 3) := by decide +kernel
theorem dL_moves_17 : decode cL_moves 17 = .ok (.aload 4, 2) := by decide +kernel
theorem dL_moves_19 : decode cL_moves 19 = .ok (.iconst 2, 1) := by decide +kernel
theorem dL_moves_20 : decode cL_moves 20 = .ok (.iload 6, 2) := by decide +kernel
theorem dL_moves_22 : decode cL_moves 22 = .ok (.imul, 1) := by decide +kernel
theorem dL_moves_23 : decode cL_moves 23 = .ok (.iaload, 1) := by decide +kernel
theorem dL_moves_24 : decode cL_moves 24 = .ok (.istore 9, 2) := by decide +kernel
theorem dL_moves_26 : decode cL_moves 26 = .ok (.aload_n 1, 1) := by decide +kernel
theorem dL_moves_27 : decode cL_moves 27 = .ok (.iload 9, 2) := by decide +kernel
theorem dL_moves_29 : decode cL_moves 29 = .ok (.iaload, 1) := by decide +kernel
theorem dL_moves_30 : decode cL_moves 30 = .ok (.bipush 8, 2) := by decide +kernel
theorem dL_moves_32 : decode cL_moves 32 = .ok (.irem, 1) := by decide +kernel
theorem dL_moves_33 : decode cL_moves 33 = .ok (.iconst 1, 1) := by decide +kernel
theorem dL_moves_34 : decode cL_moves 34 = .ok (.if_icmp .ne 7, 3) := by decide +kernel
theorem dL_moves_37 : decode cL_moves 37 = .ok (.iconst 1, 1) := by decide +kernel
theorem dL_moves_38 : decode cL_moves 38 = .ok (.goto 4, 3) := by decide +kernel
theorem dL_moves_41 : decode cL_moves 41 = .ok (.iconst 0, 1) := by decide +kernel
theorem dL_moves_42 : decode cL_moves 42 = .ok (.istore 10, 2) := by decide +kernel
theorem dL_moves_44 : decode cL_moves 44 = .ok (.iload 10, 2) := by decide +kernel
theorem dL_moves_46 : decode cL_moves 46 = .ok (.ifCond .eq 7, 3) := by decide +kernel
theorem dL_moves_49 : decode cL_moves 49 = .ok (.iconst (-1), 1) := by decide +kernel
theorem dL_moves_50 : decode cL_moves 50 = .ok (.goto 12, 3) := by decide +kernel
theorem dL_moves_53 : decode cL_moves 53 = .ok (.aload_n 1, 1) := by decide +kernel
theorem dL_moves_54 : decode cL_moves 54 = .ok (.iload 9, 2) := by decide +kernel
theorem dL_moves_56 : decode cL_moves 56 = .ok (.iload 7, 2) := by decide +kernel
theorem dL_moves_58 : decode cL_moves 58 = .ok (.iconst 0, 1) := by decide +kernel
theorem dL_moves_59 : decode cL_moves 59 = .ok (.invokestatic 86, 3) := by decide +kernel
theorem dL_moves_62 : decode cL_moves 62 = .ok (.istore 11, 2) := by decide +kernel
theorem dL_moves_64 : decode cL_moves 64 = .ok (.iload 10, 2) := by decide +kernel
theorem dL_moves_66 : decode cL_moves 66 = .ok (.ifCond .eq 7, 3) := by decide +kernel
theorem dL_moves_69 : decode cL_moves 69 = .ok (.iconst (-1), 1) := by decide +kernel
theorem dL_moves_70 : decode cL_moves 70 = .ok (.goto 12, 3) := by decide +kernel
theorem dL_moves_73 : decode cL_moves 73 = .ok (.aload_n 1, 1) := by decide +kernel
theorem dL_moves_74 : decode cL_moves 74 = .ok (.iload 9, 2) := by decide +kernel
theorem dL_moves_76 : decode cL_moves 76 = .ok (.iload 7, 2) := by decide +kernel
theorem dL_moves_78 : decode cL_moves 78 = .ok (.iconst 1, 1) := by decide +kernel
theorem dL_moves_79 : decode cL_moves 79 = .ok (.invokestatic 86, 3) := by decide +kernel
theorem dL_moves_82 : decode cL_moves 82 = .ok (.istore 12, 2) := by decide +kernel
theorem dL_moves_84 : decode cL_moves 84 = .ok (.iload 11, 2) := by decide +kernel
theorem dL_moves_86 : decode cL_moves 86 = .ok (.ifCond .ge 7, 3) := by decide +kernel
theorem dL_moves_89 : decode cL_moves 89 = .ok (.iconst (-1), 1) := by decide +kernel
theorem dL_moves_90 : decode cL_moves 90 = .ok (.goto 13, 3) := by decide +kernel
theorem dL_moves_93 : decode cL_moves 93 = .ok (.aload_n 3, 1) := by decide +kernel
theorem dL_moves_94 : decode cL_moves 94 = .ok (.bipush 10, 2) := by decide +kernel
theorem dL_moves_96 : decode cL_moves 96 = .ok (.iload 6, 2) := by decide +kernel
theorem dL_moves_98 : decode cL_moves 98 = .ok (.imul, 1) := by decide +kernel
theorem dL_moves_99 : decode cL_moves 99 = .ok (.iload 11, 2) := by decide +kernel
theorem dL_moves_101 : decode cL_moves 101 = .ok (.iadd, 1) := by decide +kernel
theorem dL_moves_102 : decode cL_moves 102 = .ok (.iaload, 1) := by decide +kernel
theorem dL_moves_103 : decode cL_moves 103 = .ok (.istore 13, 2) := by decide +kernel
theorem dL_moves_105 : decode cL_moves 105 = .ok (.iload 12, 2) := by decide +kernel
theorem dL_moves_107 : decode cL_moves 107 = .ok (.ifCond .ge 7, 3) := by decide +kernel
theorem dL_moves_110 : decode cL_moves 110 = .ok (.iconst (-1), 1) := by decide +kernel
theorem dL_moves_111 : decode cL_moves 111 = .ok (.goto 13, 3) := by decide +kernel
theorem dL_moves_114 : decode cL_moves 114 = .ok (.aload_n 3, 1) := by decide +kernel
theorem dL_moves_115 : decode cL_moves 115 = .ok (.bipush 10, 2) := by decide +kernel
theorem dL_moves_117 : decode cL_moves 117 = .ok (.iload 6, 2) := by decide +kernel
theorem dL_moves_119 : decode cL_moves 119 = .ok (.imul, 1) := by decide +kernel
theorem dL_moves_120 : decode cL_moves 120 = .ok (.iload 12, 2) := by decide +kernel
theorem dL_moves_122 : decode cL_moves 122 = .ok (.iadd, 1) := by decide +kernel
theorem dL_moves_123 : decode cL_moves 123 = .ok (.iaload, 1) := by decide +kernel
theorem dL_moves_124 : decode cL_moves 124 = .ok (.istore 14, 2) := by decide +kernel
theorem dL_moves_126 : decode cL_moves 126 = .ok (.aload_n 0, 1) := by decide +kernel
theorem dL_moves_127 : decode cL_moves 127 = .ok (.aload_n 1, 1) := by decide +kernel
theorem dL_moves_128 : decode cL_moves 128 = .ok (.aload_n 2, 1) := by decide +kernel
theorem dL_moves_129 : decode cL_moves 129 = .ok (.iload 9, 2) := by decide +kernel
theorem dL_moves_131 : decode cL_moves 131 = .ok (.iload 7, 2) := by decide +kernel
theorem dL_moves_133 : decode cL_moves 133 = .ok (.iload 13, 2) := by decide +kernel
theorem dL_moves_135 : decode cL_moves 135 = .ok (.iload 14, 2) := by decide +kernel
theorem dL_moves_137 : decode cL_moves 137 = .ok (.aload 8, 2) := by decide +kernel
theorem dL_moves_139 : decode cL_moves 139 = .ok (.invokestatic 107, 3) := by decide +kernel
theorem dL_moves_142 : decode cL_moves 142 = .ok (.aload 8, 2) := by decide +kernel
theorem dL_moves_144 : decode cL_moves 144 = .ok (.iconst 0, 1) := by decide +kernel
theorem dL_moves_145 : decode cL_moves 145 = .ok (.iaload, 1) := by decide +kernel
theorem dL_moves_146 : decode cL_moves 146 = .ok (.istore 15, 2) := by decide +kernel
theorem dL_moves_148 : decode cL_moves 148 = .ok (.aload 8, 2) := by decide +kernel
theorem dL_moves_150 : decode cL_moves 150 = .ok (.iconst 1, 1) := by decide +kernel
theorem dL_moves_151 : decode cL_moves 151 = .ok (.iaload, 1) := by decide +kernel
theorem dL_moves_152 : decode cL_moves 152 = .ok (.istore 16, 2) := by decide +kernel
theorem dL_moves_154 : decode cL_moves 154 = .ok (.aload 5, 2) := by decide +kernel
theorem dL_moves_156 : decode cL_moves 156 = .ok (.bipush 13, 2) := by decide +kernel
theorem dL_moves_158 : decode cL_moves 158 = .ok (.iload 6, 2) := by decide +kernel
theorem dL_moves_160 : decode cL_moves 160 = .ok (.imul, 1) := by decide +kernel
theorem dL_moves_161 : decode cL_moves 161 = .ok (.iload 9, 2) := by decide +kernel
theorem dL_moves_163 : decode cL_moves 163 = .ok (.iadd, 1) := by decide +kernel
theorem dL_moves_164 : decode cL_moves 164 = .ok (.laload, 1) := by decide +kernel
theorem dL_moves_165 : decode cL_moves 165 = .ok (.lstore 17, 2) := by decide +kernel
theorem dL_moves_167 : decode cL_moves 167 = .ok (.lload 17, 2) := by decide +kernel
theorem dL_moves_169 : decode cL_moves 169 = .ok (.lconst 0, 1) := by decide +kernel
theorem dL_moves_170 : decode cL_moves 170 = .ok (.lcmp, 1) := by decide +kernel
theorem dL_moves_171 : decode cL_moves 171 = .ok (.ifCond .le 162, 3) := by decide +kernel
theorem dL_moves_174 : decode cL_moves 174 = .ok (.lload 17, 2) := by decide +kernel
theorem dL_moves_176 : decode cL_moves 176 = .ok (.ldc2_w 111, 3) := by decide +kernel
theorem dL_moves_179 : decode cL_moves 179 = .ok (.lrem, 1) := by decide +kernel
theorem dL_moves_180 : decode cL_moves 180 = .ok (.iload 7, 2) := by decide +kernel
theorem dL_moves_182 : decode cL_moves 182 = .ok (.ifCond .eq 9, 3) := by decide +kernel
theorem dL_moves_185 : decode cL_moves 185 = .ok (.ldc2_w 113, 3) := by decide +kernel
theorem dL_moves_188 : decode cL_moves 188 = .ok (.goto 4, 3) := by decide +kernel
theorem dL_moves_191 : decode cL_moves 191 = .ok (.lconst 1, 1) := by decide +kernel
theorem dL_moves_192 : decode cL_moves 192 = .ok (.lcmp, 1) := by decide +kernel
theorem dL_moves_193 : decode cL_moves 193 = .ok (.ifCond .ne 140, 3) := by decide +kernel
theorem dL_moves_196 : decode cL_moves 196 = .ok (.lload 17, 2) := by decide +kernel
theorem dL_moves_198 : decode cL_moves 198 = .ok (.ldc2_w 111, 3) := by decide +kernel
theorem dL_moves_201 : decode cL_moves 201 = .ok (.ldiv, 1) := by decide +kernel
theorem dL_moves_202 : decode cL_moves 202 = .ok (.ldc2_w 115, 3) := by decide +kernel
theorem dL_moves_205 : decode cL_moves 205 = .ok (.lrem, 1) := by decide +kernel
theorem dL_moves_206 : decode cL_moves 206 = .ok (.l2i, 1) := by decide +kernel
theorem dL_moves_207 : decode cL_moves 207 = .ok (.iconst 1, 1) := by decide +kernel
theorem dL_moves_208 : decode cL_moves 208 = .ok (.isub, 1) := by decide +kernel
theorem dL_moves_209 : decode cL_moves 209 = .ok (.istore 19, 2) := by decide +kernel
theorem dL_moves_211 : decode cL_moves 211 = .ok (.lload 17, 2) := by decide +kernel
theorem dL_moves_213 : decode cL_moves 213 = .ok (.ldc2_w 117, 3) := by decide +kernel
theorem dL_moves_216 : decode cL_moves 216 = .ok (.ldiv, 1) := by decide +kernel
theorem dL_moves_217 : decode cL_moves 217 = .ok (.l2i, 1) := by decide +kernel
theorem dL_moves_218 : decode cL_moves 218 = .ok (.iconst 1, 1) := by decide +kernel
theorem dL_moves_219 : decode cL_moves 219 = .ok (.isub, 1) := by decide +kernel
theorem dL_moves_220 : decode cL_moves 220 = .ok (.istore 20, 2) := by decide +kernel
theorem dL_moves_222 : decode cL_moves 222 = .ok (.aload 5, 2) := by decide +kernel
theorem dL_moves_224 : decode cL_moves 224 = .ok (.bipush 13, 2) := by decide +kernel
theorem dL_moves_226 : decode cL_moves 226 = .ok (.iload 6, 2) := by decide +kernel
theorem dL_moves_228 : decode cL_moves 228 = .ok (.imul, 1) := by decide +kernel
theorem dL_moves_229 : decode cL_moves 229 = .ok (.iload 9, 2) := by decide +kernel
theorem dL_moves_231 : decode cL_moves 231 = .ok (.iadd, 1) := by decide +kernel
theorem dL_moves_232 : decode cL_moves 232 = .ok (.lconst 0, 1) := by decide +kernel
theorem dL_moves_233 : decode cL_moves 233 = .ok (.lastore, 1) := by decide +kernel
theorem dL_moves_234 : decode cL_moves 234 = .ok (.aload_n 0, 1) := by decide +kernel
theorem dL_moves_235 : decode cL_moves 235 = .ok (.aload_n 1, 1) := by decide +kernel
theorem dL_moves_236 : decode cL_moves 236 = .ok (.aload_n 2, 1) := by decide +kernel
theorem dL_moves_237 : decode cL_moves 237 = .ok (.iload 9, 2) := by decide +kernel
theorem dL_moves_239 : decode cL_moves 239 = .ok (.iload 7, 2) := by decide +kernel
theorem dL_moves_241 : decode cL_moves 241 = .ok (.ifCond .ne 7, 3) := by decide +kernel
theorem dL_moves_244 : decode cL_moves 244 = .ok (.iconst 1, 1) := by decide +kernel
theorem dL_moves_245 : decode cL_moves 245 = .ok (.goto 4, 3) := by decide +kernel
theorem dL_moves_248 : decode cL_moves 248 = .ok (.iconst 0, 1) := by decide +kernel
theorem dL_moves_249 : decode cL_moves 249 = .ok (.iload 19, 2) := by decide +kernel
theorem dL_moves_251 : decode cL_moves 251 = .ok (.iload 20, 2) := by decide +kernel
theorem dL_moves_253 : decode cL_moves 253 = .ok (.aload 8, 2) := by decide +kernel
theorem dL_moves_255 : decode cL_moves 255 = .ok (.invokestatic 107, 3) := by decide +kernel
theorem dL_moves_258 : decode cL_moves 258 = .ok (.aload 8, 2) := by decide +kernel
theorem dL_moves_260 : decode cL_moves 260 = .ok (.iconst 0, 1) := by decide +kernel
theorem dL_moves_261 : decode cL_moves 261 = .ok (.iaload, 1) := by decide +kernel
theorem dL_moves_262 : decode cL_moves 262 = .ok (.iload 13, 2) := by decide +kernel
theorem dL_moves_264 : decode cL_moves 264 = .ok (.if_icmp .ne 16, 3) := by decide +kernel
theorem dL_moves_267 : decode cL_moves 267 = .ok (.aload 8, 2) := by decide +kernel
theorem dL_moves_269 : decode cL_moves 269 = .ok (.iconst 1, 1) := by decide +kernel
theorem dL_moves_270 : decode cL_moves 270 = .ok (.iaload, 1) := by decide +kernel
theorem dL_moves_271 : decode cL_moves 271 = .ok (.iload 14, 2) := by decide +kernel
theorem dL_moves_273 : decode cL_moves 273 = .ok (.if_icmp .ne 7, 3) := by decide +kernel
theorem dL_moves_276 : decode cL_moves 276 = .ok (.iconst 1, 1) := by decide +kernel
theorem dL_moves_277 : decode cL_moves 277 = .ok (.goto 4, 3) := by decide +kernel
theorem dL_moves_280 : decode cL_moves 280 = .ok (.iconst 0, 1) := by decide +kernel
theorem dL_moves_281 : decode cL_moves 281 = .ok (.istore 21, 2) := by decide +kernel
