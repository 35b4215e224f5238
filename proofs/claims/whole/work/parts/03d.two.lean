theorem dX2_init_0 : decode cX2_init 0 = .ok (.aload_n 0, 1) := by decide +kernel
theorem dX2_init_1 : decode cX2_init 1 = .ok (.invokespecial 1, 3) := by decide +kernel
theorem dX2_init_4 : decode cX2_init 4 = .ok (.aload_n 0, 1) := by decide +kernel
theorem dX2_init_5 : decode cX2_init 5 = .ok (.bipush 16, 2) := by decide +kernel
theorem dX2_init_7 : decode cX2_init 7 = .ok (.newarray .int, 2) := by decide +kernel
theorem dX2_init_9 : decode cX2_init 9 = .ok (.putfield 9, 3) := by decide +kernel
theorem dX2_init_12 : decode cX2_init 12 = .ok (.return_, 1) := by decide +kernel
theorem dX2_layByPages_0 : decode cX2_layByPages 0 = .ok (.aload_n 2, 1) := by decide +kernel
theorem dX2_layByPages_1 : decode cX2_layByPages 1 = .ok (.getfield 15, 3) := by decide +kernel
theorem dX2_layByPages_4 : decode cX2_layByPages 4 = .ok (.invokestatic 21, 3) := by decide +kernel
theorem dX2_layByPages_7 : decode cX2_layByPages 7 = .ok (.ifCond .ne 5, 3) := by decide +kernel
theorem dX2_layByPages_10 : decode cX2_layByPages 10 = .ok (.iconst 0, 1) := by decide +kernel
theorem dX2_layByPages_11 : decode cX2_layByPages 11 = .ok (.ireturn, 1) := by decide +kernel
theorem dX2_layByPages_12 : decode cX2_layByPages 12 = .ok (.aload_n 0, 1) := by decide +kernel
theorem dX2_layByPages_13 : decode cX2_layByPages 13 = .ok (.aload_n 2, 1) := by decide +kernel
theorem dX2_layByPages_14 : decode cX2_layByPages 14 = .ok (.getfield 15, 3) := by decide +kernel
theorem dX2_layByPages_17 : decode cX2_layByPages 17 = .ok (.l2i, 1) := by decide +kernel
theorem dX2_layByPages_18 : decode cX2_layByPages 18 = .ok (.putfield 25, 3) := by decide +kernel
theorem dX2_layByPages_21 : decode cX2_layByPages 21 = .ok (.aload_n 2, 1) := by decide +kernel
theorem dX2_layByPages_22 : decode cX2_layByPages 22 = .ok (.getfield 29, 3) := by decide +kernel
theorem dX2_layByPages_25 : decode cX2_layByPages 25 = .ok (.bipush 8, 2) := by decide +kernel
theorem dX2_layByPages_27 : decode cX2_layByPages 27 = .ok (.imul, 1) := by decide +kernel
theorem dX2_layByPages_28 : decode cX2_layByPages 28 = .ok (.istore_n 3, 1) := by decide +kernel
theorem dX2_layByPages_29 : decode cX2_layByPages 29 = .ok (.aload_n 0, 1) := by decide +kernel
theorem dX2_layByPages_30 : decode cX2_layByPages 30 = .ok (.iload_n 3, 1) := by decide +kernel
theorem dX2_layByPages_31 : decode cX2_layByPages 31 = .ok (.bipush 16, 2) := by decide +kernel
theorem dX2_layByPages_33 : decode cX2_layByPages 33 = .ok (.aload_n 0, 1) := by decide +kernel
theorem dX2_layByPages_34 : decode cX2_layByPages 34 = .ok (.getfield 25, 3) := by decide +kernel
theorem dX2_layByPages_37 : decode cX2_layByPages 37 = .ok (.invokestatic 34, 3) := by decide +kernel
theorem dX2_layByPages_40 : decode cX2_layByPages 40 = .ok (.isub, 1) := by decide +kernel
theorem dX2_layByPages_41 : decode cX2_layByPages 41 = .ok (.invokestatic 38, 3) := by decide +kernel
theorem dX2_layByPages_44 : decode cX2_layByPages 44 = .ok (.putfield 44, 3) := by decide +kernel
theorem dX2_layByPages_47 : decode cX2_layByPages 47 = .ok (.iload_n 3, 1) := by decide +kernel
theorem dX2_layByPages_48 : decode cX2_layByPages 48 = .ok (.aload_n 0, 1) := by decide +kernel
theorem dX2_layByPages_49 : decode cX2_layByPages 49 = .ok (.getfield 44, 3) := by decide +kernel
theorem dX2_layByPages_52 : decode cX2_layByPages 52 = .ok (.isub, 1) := by decide +kernel
theorem dX2_layByPages_53 : decode cX2_layByPages 53 = .ok (.istore 4, 2) := by decide +kernel
theorem dX2_layByPages_55 : decode cX2_layByPages 55 = .ok (.iload 4, 2) := by decide +kernel
theorem dX2_layByPages_57 : decode cX2_layByPages 57 = .ok (.ifCond .ne 5, 3) := by decide +kernel
theorem dX2_layByPages_60 : decode cX2_layByPages 60 = .ok (.iconst 1, 1) := by decide +kernel
theorem dX2_layByPages_61 : decode cX2_layByPages 61 = .ok (.ireturn, 1) := by decide +kernel
theorem dX2_layByPages_62 : decode cX2_layByPages 62 = .ok (.iload 4, 2) := by decide +kernel
theorem dX2_layByPages_64 : decode cX2_layByPages 64 = .ok (.bipush 16, 2) := by decide +kernel
theorem dX2_layByPages_66 : decode cX2_layByPages 66 = .ok (.if_icmp .gt 15, 3) := by decide +kernel
theorem dX2_layByPages_69 : decode cX2_layByPages 69 = .ok (.aload_n 0, 1) := by decide +kernel
theorem dX2_layByPages_70 : decode cX2_layByPages 70 = .ok (.iconst 0, 1) := by decide +kernel
theorem dX2_layByPages_71 : decode cX2_layByPages 71 = .ok (.aload_n 2, 1) := by decide +kernel
theorem dX2_layByPages_72 : decode cX2_layByPages 72 = .ok (.getfield 47, 3) := by decide +kernel
theorem dX2_layByPages_75 : decode cX2_layByPages 75 = .ok (.invokevirtual 50, 3) := by decide +kernel
theorem dX2_layByPages_78 : decode cX2_layByPages 78 = .ok (.goto 22, 3) := by decide +kernel
theorem dX2_layByPages_81 : decode cX2_layByPages 81 = .ok (.aload_n 0, 1) := by decide +kernel
theorem dX2_layByPages_82 : decode cX2_layByPages 82 = .ok (.aload_n 1, 1) := by decide +kernel
theorem dX2_layByPages_83 : decode cX2_layByPages 83 = .ok (.aload_n 2, 1) := by decide +kernel
theorem dX2_layByPages_84 : decode cX2_layByPages 84 = .ok (.getfield 47, 3) := by decide +kernel
theorem dX2_layByPages_87 : decode cX2_layByPages 87 = .ok (.iload 4, 2) := by decide +kernel
theorem dX2_layByPages_89 : decode cX2_layByPages 89 = .ok (.bipush 16, 2) := by decide +kernel
theorem dX2_layByPages_91 : decode cX2_layByPages 91 = .ok (.iadd, 1) := by decide +kernel
theorem dX2_layByPages_92 : decode cX2_layByPages 92 = .ok (.iconst 1, 1) := by decide +kernel
theorem dX2_layByPages_93 : decode cX2_layByPages 93 = .ok (.isub, 1) := by decide +kernel
theorem dX2_layByPages_94 : decode cX2_layByPages 94 = .ok (.bipush 16, 2) := by decide +kernel
theorem dX2_layByPages_96 : decode cX2_layByPages 96 = .ok (.idiv, 1) := by decide +kernel
theorem dX2_layByPages_97 : decode cX2_layByPages 97 = .ok (.invokevirtual 54, 3) := by decide +kernel
theorem dX2_layByPages_100 : decode cX2_layByPages 100 = .ok (.ireturn, 1) := by decide +kernel
theorem dX2_addList_0 : decode cX2_addList 0 = .ok (.lload_n 2, 1) := by decide +kernel
theorem dX2_addList_1 : decode cX2_addList 1 = .ok (.invokestatic 21, 3) := by decide +kernel
theorem dX2_addList_4 : decode cX2_addList 4 = .ok (.ifCond .eq 16, 3) := by decide +kernel
theorem dX2_addList_7 : decode cX2_addList 7 = .ok (.lload_n 2, 1) := by decide +kernel
theorem dX2_addList_8 : decode cX2_addList 8 = .ok (.l2i, 1) := by decide +kernel
theorem dX2_addList_9 : decode cX2_addList 9 = .ok (.invokestatic 34, 3) := by decide +kernel
theorem dX2_addList_12 : decode cX2_addList 12 = .ok (.iload 4, 2) := by decide +kernel
theorem dX2_addList_14 : decode cX2_addList 14 = .ok (.iadd, 1) := by decide +kernel
theorem dX2_addList_15 : decode cX2_addList 15 = .ok (.bipush 16, 2) := by decide +kernel
theorem dX2_addList_17 : decode cX2_addList 17 = .ok (.if_icmp .le 5, 3) := by decide +kernel
theorem dX2_addList_20 : decode cX2_addList 20 = .ok (.iconst 0, 1) := by decide +kernel
theorem dX2_addList_21 : decode cX2_addList 21 = .ok (.ireturn, 1) := by decide +kernel
theorem dX2_addList_22 : decode cX2_addList 22 = .ok (.iconst 0, 1) := by decide +kernel
theorem dX2_addList_23 : decode cX2_addList 23 = .ok (.istore 5, 2) := by decide +kernel
theorem dX2_addList_25 : decode cX2_addList 25 = .ok (.iload 5, 2) := by decide +kernel
theorem dX2_addList_27 : decode cX2_addList 27 = .ok (.iload 4, 2) := by decide +kernel
theorem dX2_addList_29 : decode cX2_addList 29 = .ok (.if_icmp .ge 29, 3) := by decide +kernel
theorem dX2_addList_32 : decode cX2_addList 32 = .ok (.aload_n 0, 1) := by decide +kernel
theorem dX2_addList_33 : decode cX2_addList 33 = .ok (.iload 5, 2) := by decide +kernel
theorem dX2_addList_35 : decode cX2_addList 35 = .ok (.aload_n 1, 1) := by decide +kernel
theorem dX2_addList_36 : decode cX2_addList 36 = .ok (.lload_n 2, 1) := by decide +kernel
theorem dX2_addList_37 : decode cX2_addList 37 = .ok (.l2i, 1) := by decide +kernel
theorem dX2_addList_38 : decode cX2_addList 38 = .ok (.iload 5, 2) := by decide +kernel
theorem dX2_addList_40 : decode cX2_addList 40 = .ok (.iadd, 1) := by decide +kernel
theorem dX2_addList_41 : decode cX2_addList 41 = .ok (.invokevirtual 58, 3) := by decide +kernel
theorem dX2_addList_44 : decode cX2_addList 44 = .ok (.invokevirtual 50, 3) := by decide +kernel
theorem dX2_addList_47 : decode cX2_addList 47 = .ok (.ifCond .ne 5, 3) := by decide +kernel
theorem dX2_addList_50 : decode cX2_addList 50 = .ok (.iconst 0, 1) := by decide +kernel
theorem dX2_addList_51 : decode cX2_addList 51 = .ok (.ireturn, 1) := by decide +kernel
theorem dX2_addList_52 : decode cX2_addList 52 = .ok (.iinc 5 1, 3) := by decide +kernel
theorem dX2_addList_55 : decode cX2_addList 55 = .ok (.goto (-30), 3) := by decide +kernel
theorem dX2_addList_58 : decode cX2_addList 58 = .ok (.iconst 1, 1) := by decide +kernel
theorem dX2_addList_59 : decode cX2_addList 59 = .ok (.ireturn, 1) := by decide +kernel
theorem dX2_addPage_0 : decode cX2_addPage 0 = .ok (.iload_n 1, 1) := by decide +kernel
theorem dX2_addPage_1 : decode cX2_addPage 1 = .ok (.bipush 16, 2) := by decide +kernel
theorem dX2_addPage_3 : decode cX2_addPage 3 = .ok (.if_icmp .ge 10, 3) := by decide +kernel
theorem dX2_addPage_6 : decode cX2_addPage 6 = .ok (.lload_n 2, 1) := by decide +kernel
theorem dX2_addPage_7 : decode cX2_addPage 7 = .ok (.invokestatic 62, 3) := by decide +kernel
theorem dX2_addPage_10 : decode cX2_addPage 10 = .ok (.ifCond .ne 5, 3) := by decide +kernel
theorem dX2_addPage_13 : decode cX2_addPage 13 = .ok (.iconst 0, 1) := by decide +kernel
theorem dX2_addPage_14 : decode cX2_addPage 14 = .ok (.ireturn, 1) := by decide +kernel
theorem dX2_addPage_15 : decode cX2_addPage 15 = .ok (.aload_n 0, 1) := by decide +kernel
theorem dX2_addPage_16 : decode cX2_addPage 16 = .ok (.getfield 9, 3) := by decide +kernel
theorem dX2_addPage_19 : decode cX2_addPage 19 = .ok (.iload_n 1, 1) := by decide +kernel
theorem dX2_addPage_20 : decode cX2_addPage 20 = .ok (.lload_n 2, 1) := by decide +kernel
theorem dX2_addPage_21 : decode cX2_addPage 21 = .ok (.l2i, 1) := by decide +kernel
theorem dX2_addPage_22 : decode cX2_addPage 22 = .ok (.iastore, 1) := by decide +kernel
theorem dX2_addPage_23 : decode cX2_addPage 23 = .ok (.iconst 1, 1) := by decide +kernel
theorem dX2_addPage_24 : decode cX2_addPage 24 = .ok (.ireturn, 1) := by decide +kernel
theorem dX2_fitsStraight_0 : decode cX2_fitsStraight 0 = .ok (.lload_n 0, 1) := by decide +kernel
theorem dX2_fitsStraight_1 : decode cX2_fitsStraight 1 = .ok (.invokestatic 62, 3) := by decide +kernel
theorem dX2_fitsStraight_4 : decode cX2_fitsStraight 4 = .ok (.ifCond .eq 21, 3) := by decide +kernel
theorem dX2_fitsStraight_7 : decode cX2_fitsStraight 7 = .ok (.lload_n 0, 1) := by decide +kernel
theorem dX2_fitsStraight_8 : decode cX2_fitsStraight 8 = .ok (.iload_n 2, 1) := by decide +kernel
theorem dX2_fitsStraight_9 : decode cX2_fitsStraight 9 = .ok (.bipush 8, 2) := by decide +kernel
theorem dX2_fitsStraight_11 : decode cX2_fitsStraight 11 = .ok (.imul, 1) := by decide +kernel
theorem dX2_fitsStraight_12 : decode cX2_fitsStraight 12 = .ok (.i2l, 1) := by decide +kernel
theorem dX2_fitsStraight_13 : decode cX2_fitsStraight 13 = .ok (.ladd, 1) := by decide +kernel
theorem dX2_fitsStraight_14 : decode cX2_fitsStraight 14 = .ok (.ldc2_w 65, 3) := by decide +kernel
theorem dX2_fitsStraight_17 : decode cX2_fitsStraight 17 = .ok (.lcmp, 1) := by decide +kernel
theorem dX2_fitsStraight_18 : decode cX2_fitsStraight 18 = .ok (.ifCond .gt 7, 3) := by decide +kernel
theorem dX2_fitsStraight_21 : decode cX2_fitsStraight 21 = .ok (.iconst 1, 1) := by decide +kernel
theorem dX2_fitsStraight_22 : decode cX2_fitsStraight 22 = .ok (.goto 4, 3) := by decide +kernel
theorem dX2_fitsStraight_25 : decode cX2_fitsStraight 25 = .ok (.iconst 0, 1) := by decide +kernel
theorem dX2_fitsStraight_26 : decode cX2_fitsStraight 26 = .ok (.ireturn, 1) := by decide +kernel
theorem dX2_layStraight_0 : decode cX2_layStraight 0 = .ok (.aload_n 0, 1) := by decide +kernel
theorem dX2_layStraight_1 : decode cX2_layStraight 1 = .ok (.iload_n 1, 1) := by decide +kernel
theorem dX2_layStraight_2 : decode cX2_layStraight 2 = .ok (.putfield 25, 3) := by decide +kernel
theorem dX2_layStraight_5 : decode cX2_layStraight 5 = .ok (.aload_n 0, 1) := by decide +kernel
theorem dX2_layStraight_6 : decode cX2_layStraight 6 = .ok (.iload_n 2, 1) := by decide +kernel
theorem dX2_layStraight_7 : decode cX2_layStraight 7 = .ok (.bipush 8, 2) := by decide +kernel
theorem dX2_layStraight_9 : decode cX2_layStraight 9 = .ok (.imul, 1) := by decide +kernel
theorem dX2_layStraight_10 : decode cX2_layStraight 10 = .ok (.putfield 44, 3) := by decide +kernel
theorem dX2_layStraight_13 : decode cX2_layStraight 13 = .ok (.return_, 1) := by decide +kernel
theorem dX2_address_0 : decode cX2_address 0 = .ok (.iload_n 1, 1) := by decide +kernel
theorem dX2_address_1 : decode cX2_address 1 = .ok (.aload_n 0, 1) := by decide +kernel
theorem dX2_address_2 : decode cX2_address 2 = .ok (.getfield 44, 3) := by decide +kernel
theorem dX2_address_5 : decode cX2_address 5 = .ok (.if_icmp .ge 10, 3) := by decide +kernel
theorem dX2_address_8 : decode cX2_address 8 = .ok (.aload_n 0, 1) := by decide +kernel
theorem dX2_address_9 : decode cX2_address 9 = .ok (.getfield 25, 3) := by decide +kernel
theorem dX2_address_12 : decode cX2_address 12 = .ok (.iload_n 1, 1) := by decide +kernel
theorem dX2_address_13 : decode cX2_address 13 = .ok (.iadd, 1) := by decide +kernel
theorem dX2_address_14 : decode cX2_address 14 = .ok (.ireturn, 1) := by decide +kernel
theorem dX2_address_15 : decode cX2_address 15 = .ok (.iload_n 1, 1) := by decide +kernel
theorem dX2_address_16 : decode cX2_address 16 = .ok (.aload_n 0, 1) := by decide +kernel
theorem dX2_address_17 : decode cX2_address 17 = .ok (.getfield 44, 3) := by decide +kernel
theorem dX2_address_20 : decode cX2_address 20 = .ok (.isub, 1) := by decide +kernel
theorem dX2_address_21 : decode cX2_address 21 = .ok (.istore_n 2, 1) := by decide +kernel
theorem dX2_address_22 : decode cX2_address 22 = .ok (.iload_n 2, 1) := by decide +kernel
theorem dX2_address_23 : decode cX2_address 23 = .ok (.bipush 16, 2) := by decide +kernel
theorem dX2_address_25 : decode cX2_address 25 = .ok (.idiv, 1) := by decide +kernel
theorem dX2_address_26 : decode cX2_address 26 = .ok (.bipush 15, 2) := by decide +kernel
theorem dX2_address_28 : decode cX2_address 28 = .ok (.invokestatic 38, 3) := by decide +kernel
theorem dX2_address_31 : decode cX2_address 31 = .ok (.istore_n 3, 1) := by decide +kernel
theorem dX2_address_32 : decode cX2_address 32 = .ok (.aload_n 0, 1) := by decide +kernel
theorem dX2_address_33 : decode cX2_address 33 = .ok (.getfield 9, 3) := by decide +kernel
theorem dX2_address_36 : decode cX2_address 36 = .ok (.iload_n 3, 1) := by decide +kernel
theorem dX2_address_37 : decode cX2_address 37 = .ok (.iaload, 1) := by decide +kernel
theorem dX2_address_38 : decode cX2_address 38 = .ok (.iload_n 2, 1) := by decide +kernel
theorem dX2_address_39 : decode cX2_address 39 = .ok (.invokestatic 34, 3) := by decide +kernel
theorem dX2_address_42 : decode cX2_address 42 = .ok (.iadd, 1) := by decide +kernel
theorem dX2_address_43 : decode cX2_address 43 = .ok (.ireturn, 1) := by decide +kernel
theorem dX3_init_0 : decode cX3_init 0 = .ok (.aload_n 0, 1) := by decide +kernel
theorem dX3_init_1 : decode cX3_init 1 = .ok (.invokespecial 1, 3) := by decide +kernel
theorem dX3_init_4 : decode cX3_init 4 = .ok (.aload_n 0, 1) := by decide +kernel
theorem dX3_init_5 : decode cX3_init 5 = .ok (.sipush 512, 3) := by decide +kernel
theorem dX3_init_8 : decode cX3_init 8 = .ok (.newarray .long, 2) := by decide +kernel
theorem dX3_init_10 : decode cX3_init 10 = .ok (.putfield 9, 3) := by decide +kernel
theorem dX3_init_13 : decode cX3_init 13 = .ok (.aload_n 0, 1) := by decide +kernel
theorem dX3_init_14 : decode cX3_init 14 = .ok (.bipush 6, 2) := by decide +kernel
theorem dX3_init_16 : decode cX3_init 16 = .ok (.newarray .int, 2) := by decide +kernel
theorem dX3_init_18 : decode cX3_init 18 = .ok (.putfield 13, 3) := by decide +kernel
theorem dX3_init_21 : decode cX3_init 21 = .ok (.aload_n 0, 1) := by decide +kernel
theorem dX3_init_22 : decode cX3_init 22 = .ok (.bipush 48, 2) := by decide +kernel
theorem dX3_init_24 : decode cX3_init 24 = .ok (.newarray .long, 2) := by decide +kernel
theorem dX3_init_26 : decode cX3_init 26 = .ok (.putfield 17, 3) := by decide +kernel
theorem dX3_init_29 : decode cX3_init 29 = .ok (.aload_n 0, 1) := by decide +kernel
theorem dX3_init_30 : decode cX3_init 30 = .ok (.iconst 1, 1) := by decide +kernel
theorem dX3_init_31 : decode cX3_init 31 = .ok (.putfield 20, 3) := by decide +kernel
theorem dX3_init_34 : decode cX3_init 34 = .ok (.return_, 1) := by decide +kernel
theorem dX3_isBlock_0 : decode cX3_isBlock 0 = .ok (.lload_n 0, 1) := by decide +kernel
theorem dX3_isBlock_1 : decode cX3_isBlock 1 = .ok (.lconst 0, 1) := by decide +kernel
theorem dX3_isBlock_2 : decode cX3_isBlock 2 = .ok (.lcmp, 1) := by decide +kernel
theorem dX3_isBlock_3 : decode cX3_isBlock 3 = .ok (.ifCond .lt 15, 3) := by decide +kernel
theorem dX3_isBlock_6 : decode cX3_isBlock 6 = .ok (.lload_n 0, 1) := by decide +kernel
theorem dX3_isBlock_7 : decode cX3_isBlock 7 = .ok (.ldc2_w 24, 3) := by decide +kernel
theorem dX3_isBlock_10 : decode cX3_isBlock 10 = .ok (.lcmp, 1) := by decide +kernel
theorem dX3_isBlock_11 : decode cX3_isBlock 11 = .ok (.ifCond .ge 7, 3) := by decide +kernel
theorem dX3_isBlock_14 : decode cX3_isBlock 14 = .ok (.iconst 1, 1) := by decide +kernel
theorem dX3_isBlock_15 : decode cX3_isBlock 15 = .ok (.goto 4, 3) := by decide +kernel
theorem dX3_isBlock_18 : decode cX3_isBlock 18 = .ok (.iconst 0, 1) := by decide +kernel
theorem dX3_isBlock_19 : decode cX3_isBlock 19 = .ok (.ireturn, 1) := by decide +kernel
theorem dX3_isLong_0 : decode cX3_isLong 0 = .ok (.iload_n 0, 1) := by decide +kernel
theorem dX3_isLong_1 : decode cX3_isLong 1 = .ok (.i2l, 1) := by decide +kernel
theorem dX3_isLong_2 : decode cX3_isLong 2 = .ok (.invokestatic 26, 3) := by decide +kernel
theorem dX3_isLong_5 : decode cX3_isLong 5 = .ok (.ifCond .eq 17, 3) := by decide +kernel
theorem dX3_isLong_8 : decode cX3_isLong 8 = .ok (.iload_n 1, 1) := by decide +kernel
theorem dX3_isLong_9 : decode cX3_isLong 9 = .ok (.ifCond .lt 13, 3) := by decide +kernel
theorem dX3_isLong_12 : decode cX3_isLong 12 = .ok (.iload_n 1, 1) := by decide +kernel
theorem dX3_isLong_13 : decode cX3_isLong 13 = .ok (.bipush 8, 2) := by decide +kernel
theorem dX3_isLong_15 : decode cX3_isLong 15 = .ok (.if_icmp .ge 7, 3) := by decide +kernel
theorem dX3_isLong_18 : decode cX3_isLong 18 = .ok (.iconst 1, 1) := by decide +kernel
theorem dX3_isLong_19 : decode cX3_isLong 19 = .ok (.goto 4, 3) := by decide +kernel
theorem dX3_isLong_22 : decode cX3_isLong 22 = .ok (.iconst 0, 1) := by decide +kernel
theorem dX3_isLong_23 : decode cX3_isLong 23 = .ok (.ireturn, 1) := by decide +kernel
theorem dX3_cachedCount_0 : decode cX3_cachedCount 0 = .ok (.aload_n 0, 1) := by decide +kernel
theorem dX3_cachedCount_1 : decode cX3_cachedCount 1 = .ok (.getfield 30, 3) := by decide +kernel
theorem dX3_cachedCount_4 : decode cX3_cachedCount 4 = .ok (.ireturn, 1) := by decide +kernel
theorem dX3_isCaching_0 : decode cX3_isCaching 0 = .ok (.aload_n 0, 1) := by decide +kernel
theorem dX3_isCaching_1 : decode cX3_isCaching 1 = .ok (.getfield 20, 3) := by decide +kernel
theorem dX3_isCaching_4 : decode cX3_isCaching 4 = .ok (.ireturn, 1) := by decide +kernel
theorem dX3_setCaching_0 : decode cX3_setCaching 0 = .ok (.iload_n 1, 1) := by decide +kernel
theorem dX3_setCaching_1 : decode cX3_setCaching 1 = .ok (.ifCond .ne 7, 3) := by decide +kernel
theorem dX3_setCaching_4 : decode cX3_setCaching 4 = .ok (.aload_n 0, 1) := by decide +kernel
theorem dX3_setCaching_5 : decode cX3_setCaching 5 = .ok (.invokevirtual 34, 3) := by decide +kernel
theorem dX3_setCaching_8 : decode cX3_setCaching 8 = .ok (.aload_n 0, 1) := by decide +kernel
theorem dX3_setCaching_9 : decode cX3_setCaching 9 = .ok (.iload_n 1, 1) := by decide +kernel
theorem dX3_setCaching_10 : decode cX3_setCaching 10 = .ok (.putfield 20, 3) := by decide +kernel
theorem dX3_setCaching_13 : decode cX3_setCaching 13 = .ok (.return_, 1) := by decide +kernel
theorem dX3_onMedium_0 : decode cX3_onMedium 0 = .ok (.iload_n 1, 1) := by decide +kernel
theorem dX3_onMedium_1 : decode cX3_onMedium 1 = .ok (.iload_n 2, 1) := by decide +kernel
theorem dX3_onMedium_2 : decode cX3_onMedium 2 = .ok (.invokestatic 37, 3) := by decide +kernel
theorem dX3_onMedium_5 : decode cX3_onMedium 5 = .ok (.ifCond .eq 17, 3) := by decide +kernel
theorem dX3_onMedium_8 : decode cX3_onMedium 8 = .ok (.aload_n 0, 1) := by decide +kernel
theorem dX3_onMedium_9 : decode cX3_onMedium 9 = .ok (.getfield 9, 3) := by decide +kernel
theorem dX3_onMedium_12 : decode cX3_onMedium 12 = .ok (.iload_n 1, 1) := by decide +kernel
theorem dX3_onMedium_13 : decode cX3_onMedium 13 = .ok (.bipush 8, 2) := by decide +kernel
theorem dX3_onMedium_15 : decode cX3_onMedium 15 = .ok (.imul, 1) := by decide +kernel
theorem dX3_onMedium_16 : decode cX3_onMedium 16 = .ok (.iload_n 2, 1) := by decide +kernel
theorem dX3_onMedium_17 : decode cX3_onMedium 17 = .ok (.iadd, 1) := by decide +kernel
theorem dX3_onMedium_18 : decode cX3_onMedium 18 = .ok (.laload, 1) := by decide +kernel
theorem dX3_onMedium_19 : decode cX3_onMedium 19 = .ok (.goto 4, 3) := by decide +kernel
theorem dX3_onMedium_22 : decode cX3_onMedium 22 = .ok (.lconst 0, 1) := by decide +kernel
theorem dX3_onMedium_23 : decode cX3_onMedium 23 = .ok (.lreturn, 1) := by decide +kernel
theorem dX3_asRead_0 : decode cX3_asRead 0 = .ok (.aload_n 0, 1) := by decide +kernel
theorem dX3_asRead_1 : decode cX3_asRead 1 = .ok (.iload_n 1, 1) := by decide +kernel
theorem dX3_asRead_2 : decode cX3_asRead 2 = .ok (.invokevirtual 41, 3) := by decide +kernel
theorem dX3_asRead_5 : decode cX3_asRead 5 = .ok (.istore_n 3, 1) := by decide +kernel
theorem dX3_asRead_6 : decode cX3_asRead 6 = .ok (.iload_n 3, 1) := by decide +kernel
theorem dX3_asRead_7 : decode cX3_asRead 7 = .ok (.iconst (-1), 1) := by decide +kernel
theorem dX3_asRead_8 : decode cX3_asRead 8 = .ok (.if_icmp .eq 25, 3) := by decide +kernel
theorem dX3_asRead_11 : decode cX3_asRead 11 = .ok (.iload_n 1, 1) := by decide +kernel
theorem dX3_asRead_12 : decode cX3_asRead 12 = .ok (.iload_n 2, 1) := by decide +kernel
theorem dX3_asRead_13 : decode cX3_asRead 13 = .ok (.invokestatic 37, 3) := by decide +kernel
theorem dX3_asRead_16 : decode cX3_asRead 16 = .ok (.ifCond .eq 17, 3) := by decide +kernel
theorem dX3_asRead_19 : decode cX3_asRead 19 = .ok (.aload_n 0, 1) := by decide +kernel
theorem dX3_asRead_20 : decode cX3_asRead 20 = .ok (.getfield 17, 3) := by decide +kernel
theorem dX3_asRead_23 : decode cX3_asRead 23 = .ok (.iload_n 3, 1) := by decide +kernel
theorem dX3_asRead_24 : decode cX3_asRead 24 = .ok (.bipush 8, 2) := by decide +kernel
theorem dX3_asRead_26 : decode cX3_asRead 26 = .ok (.imul, 1) := by decide +kernel
theorem dX3_asRead_27 : decode cX3_asRead 27 = .ok (.iload_n 2, 1) := by decide +kernel
theorem dX3_asRead_28 : decode cX3_asRead 28 = .ok (.iadd, 1) := by decide +kernel
theorem dX3_asRead_29 : decode cX3_asRead 29 = .ok (.laload, 1) := by decide +kernel
theorem dX3_asRead_30 : decode cX3_asRead 30 = .ok (.goto 9, 3) := by decide +kernel
theorem dX3_asRead_33 : decode cX3_asRead 33 = .ok (.aload_n 0, 1) := by decide +kernel
theorem dX3_asRead_34 : decode cX3_asRead 34 = .ok (.iload_n 1, 1) := by decide +kernel
theorem dX3_asRead_35 : decode cX3_asRead 35 = .ok (.iload_n 2, 1) := by decide +kernel
theorem dX3_asRead_36 : decode cX3_asRead 36 = .ok (.invokevirtual 45, 3) := by decide +kernel
theorem dX3_asRead_39 : decode cX3_asRead 39 = .ok (.lreturn, 1) := by decide +kernel
theorem dX3_load_0 : decode cX3_load 0 = .ok (.aload_n 0, 1) := by decide +kernel
theorem dX3_load_1 : decode cX3_load 1 = .ok (.iload_n 1, 1) := by decide +kernel
theorem dX3_load_2 : decode cX3_load 2 = .ok (.invokevirtual 41, 3) := by decide +kernel
theorem dX3_load_5 : decode cX3_load 5 = .ok (.istore_n 3, 1) := by decide +kernel
theorem dX3_load_6 : decode cX3_load 6 = .ok (.iload_n 3, 1) := by decide +kernel
theorem dX3_load_7 : decode cX3_load 7 = .ok (.iconst (-1), 1) := by decide +kernel
theorem dX3_load_8 : decode cX3_load 8 = .ok (.if_icmp .eq 21, 3) := by decide +kernel
theorem dX3_load_11 : decode cX3_load 11 = .ok (.aload_n 0, 1) := by decide +kernel
theorem dX3_load_12 : decode cX3_load 12 = .ok (.getfield 17, 3) := by decide +kernel
theorem dX3_load_15 : decode cX3_load 15 = .ok (.iload_n 3, 1) := by decide +kernel
theorem dX3_load_16 : decode cX3_load 16 = .ok (.bipush 8, 2) := by decide +kernel
theorem dX3_load_18 : decode cX3_load 18 = .ok (.imul, 1) := by decide +kernel
theorem dX3_load_19 : decode cX3_load 19 = .ok (.aload_n 2, 1) := by decide +kernel
theorem dX3_load_20 : decode cX3_load 20 = .ok (.iconst 0, 1) := by decide +kernel
theorem dX3_load_21 : decode cX3_load 21 = .ok (.bipush 8, 2) := by decide +kernel
theorem dX3_load_23 : decode cX3_load 23 = .ok (.invokestatic 49, 3) := by decide +kernel
theorem dX3_load_26 : decode cX3_load 26 = .ok (.goto 26, 3) := by decide +kernel
theorem dX3_load_29 : decode cX3_load 29 = .ok (.iload_n 1, 1) := by decide +kernel
theorem dX3_load_30 : decode cX3_load 30 = .ok (.i2l, 1) := by decide +kernel
theorem dX3_load_31 : decode cX3_load 31 = .ok (.invokestatic 26, 3) := by decide +kernel
theorem dX3_load_34 : decode cX3_load 34 = .ok (.ifCond .eq 18, 3) := by decide +kernel
theorem dX3_load_37 : decode cX3_load 37 = .ok (.aload_n 0, 1) := by decide +kernel
theorem dX3_load_38 : decode cX3_load 38 = .ok (.getfield 9, 3) := by decide +kernel
theorem dX3_load_41 : decode cX3_load 41 = .ok (.iload_n 1, 1) := by decide +kernel
theorem dX3_load_42 : decode cX3_load 42 = .ok (.bipush 8, 2) := by decide +kernel
theorem dX3_load_44 : decode cX3_load 44 = .ok (.imul, 1) := by decide +kernel
theorem dX3_load_45 : decode cX3_load 45 = .ok (.aload_n 2, 1) := by decide +kernel
theorem dX3_load_46 : decode cX3_load 46 = .ok (.iconst 0, 1) := by decide +kernel
theorem dX3_load_47 : decode cX3_load 47 = .ok (.bipush 8, 2) := by decide +kernel
theorem dX3_load_49 : decode cX3_load 49 = .ok (.invokestatic 49, 3) := by decide +kernel
theorem dX3_load_52 : decode cX3_load 52 = .ok (.return_, 1) := by decide +kernel
theorem dX3_store_0 : decode cX3_store 0 = .ok (.iload_n 1, 1) := by decide +kernel
theorem dX3_store_1 : decode cX3_store 1 = .ok (.i2l, 1) := by decide +kernel
theorem dX3_store_2 : decode cX3_store 2 = .ok (.invokestatic 26, 3) := by decide +kernel
theorem dX3_store_5 : decode cX3_store 5 = .ok (.ifCond .ne 4, 3) := by decide +kernel
theorem dX3_store_8 : decode cX3_store 8 = .ok (.return_, 1) := by decide +kernel
theorem dX3_store_9 : decode cX3_store 9 = .ok (.aload_n 0, 1) := by decide +kernel
theorem dX3_store_10 : decode cX3_store 10 = .ok (.getfield 20, 3) := by decide +kernel
theorem dX3_store_13 : decode cX3_store 13 = .ok (.ifCond .ne 19, 3) := by decide +kernel
theorem dX3_store_16 : decode cX3_store 16 = .ok (.aload_n 2, 1) := by decide +kernel
theorem dX3_store_17 : decode cX3_store 17 = .ok (.iconst 0, 1) := by decide +kernel
theorem dX3_store_18 : decode cX3_store 18 = .ok (.aload_n 0, 1) := by decide +kernel
theorem dX3_store_19 : decode cX3_store 19 = .ok (.getfield 9, 3) := by decide +kernel
theorem dX3_store_22 : decode cX3_store 22 = .ok (.iload_n 1, 1) := by decide +kernel
theorem dX3_store_23 : decode cX3_store 23 = .ok (.bipush 8, 2) := by decide +kernel
theorem dX3_store_25 : decode cX3_store 25 = .ok (.imul, 1) := by decide +kernel
theorem dX3_store_26 : decode cX3_store 26 = .ok (.bipush 8, 2) := by decide +kernel
theorem dX3_store_28 : decode cX3_store 28 = .ok (.invokestatic 49, 3) := by decide +kernel
theorem dX3_store_31 : decode cX3_store 31 = .ok (.return_, 1) := by decide +kernel
theorem dX3_store_32 : decode cX3_store 32 = .ok (.aload_n 0, 1) := by decide +kernel
theorem dX3_store_33 : decode cX3_store 33 = .ok (.iload_n 1, 1) := by decide +kernel
theorem dX3_store_34 : decode cX3_store 34 = .ok (.invokevirtual 41, 3) := by decide +kernel
theorem dX3_store_37 : decode cX3_store 37 = .ok (.istore_n 3, 1) := by decide +kernel
theorem dX3_store_38 : decode cX3_store 38 = .ok (.iload_n 3, 1) := by decide +kernel
theorem dX3_store_39 : decode cX3_store 39 = .ok (.iconst (-1), 1) := by decide +kernel
theorem dX3_store_40 : decode cX3_store 40 = .ok (.if_icmp .ne 9, 3) := by decide +kernel
theorem dX3_store_43 : decode cX3_store 43 = .ok (.aload_n 0, 1) := by decide +kernel
theorem dX3_store_44 : decode cX3_store 44 = .ok (.iload_n 1, 1) := by decide +kernel
theorem dX3_store_45 : decode cX3_store 45 = .ok (.invokevirtual 55, 3) := by decide +kernel
theorem dX3_store_48 : decode cX3_store 48 = .ok (.istore_n 3, 1) := by decide +kernel
theorem dX3_store_49 : decode cX3_store 49 = .ok (.aload_n 2, 1) := by decide +kernel
theorem dX3_store_50 : decode cX3_store 50 = .ok (.iconst 0, 1) := by decide +kernel
theorem dX3_store_51 : decode cX3_store 51 = .ok (.aload_n 0, 1) := by decide +kernel
theorem dX3_store_52 : decode cX3_store 52 = .ok (.getfield 17, 3) := by decide +kernel
theorem dX3_store_55 : decode cX3_store 55 = .ok (.iload_n 3, 1) := by decide +kernel
theorem dX3_store_56 : decode cX3_store 56 = .ok (.bipush 8, 2) := by decide +kernel
theorem dX3_store_58 : decode cX3_store 58 = .ok (.imul, 1) := by decide +kernel
theorem dX3_store_59 : decode cX3_store 59 = .ok (.bipush 8, 2) := by decide +kernel
theorem dX3_store_61 : decode cX3_store 61 = .ok (.invokestatic 49, 3) := by decide +kernel
theorem dX3_store_64 : decode cX3_store 64 = .ok (.return_, 1) := by decide +kernel
theorem dX3_flush_0 : decode cX3_flush 0 = .ok (.iconst 0, 1) := by decide +kernel
theorem dX3_flush_1 : decode cX3_flush 1 = .ok (.istore_n 1, 1) := by decide +kernel
theorem dX3_flush_2 : decode cX3_flush 2 = .ok (.iload_n 1, 1) := by decide +kernel
theorem dX3_flush_3 : decode cX3_flush 3 = .ok (.aload_n 0, 1) := by decide +kernel
theorem dX3_flush_4 : decode cX3_flush 4 = .ok (.getfield 30, 3) := by decide +kernel
theorem dX3_flush_7 : decode cX3_flush 7 = .ok (.if_icmp .ge 35, 3) := by decide +kernel
theorem dX3_flush_10 : decode cX3_flush 10 = .ok (.aload_n 0, 1) := by decide +kernel
theorem dX3_flush_11 : decode cX3_flush 11 = .ok (.getfield 17, 3) := by decide +kernel
theorem dX3_flush_14 : decode cX3_flush 14 = .ok (.iload_n 1, 1) := by decide +kernel
theorem dX3_flush_15 : decode cX3_flush 15 = .ok (.bipush 8, 2) := by decide +kernel
theorem dX3_flush_17 : decode cX3_flush 17 = .ok (.imul, 1) := by decide +kernel
theorem dX3_flush_18 : decode cX3_flush 18 = .ok (.aload_n 0, 1) := by decide +kernel
theorem dX3_flush_19 : decode cX3_flush 19 = .ok (.getfield 9, 3) := by decide +kernel
theorem dX3_flush_22 : decode cX3_flush 22 = .ok (.aload_n 0, 1) := by decide +kernel
theorem dX3_flush_23 : decode cX3_flush 23 = .ok (.getfield 13, 3) := by decide +kernel
theorem dX3_flush_26 : decode cX3_flush 26 = .ok (.iload_n 1, 1) := by decide +kernel
theorem dX3_flush_27 : decode cX3_flush 27 = .ok (.iaload, 1) := by decide +kernel
theorem dX3_flush_28 : decode cX3_flush 28 = .ok (.bipush 8, 2) := by decide +kernel
theorem dX3_flush_30 : decode cX3_flush 30 = .ok (.imul, 1) := by decide +kernel
theorem dX3_flush_31 : decode cX3_flush 31 = .ok (.bipush 8, 2) := by decide +kernel
theorem dX3_flush_33 : decode cX3_flush 33 = .ok (.invokestatic 49, 3) := by decide +kernel
theorem dX3_flush_36 : decode cX3_flush 36 = .ok (.iinc 1 1, 3) := by decide +kernel
theorem dX3_flush_39 : decode cX3_flush 39 = .ok (.goto (-37), 3) := by decide +kernel
theorem dX3_flush_42 : decode cX3_flush 42 = .ok (.aload_n 0, 1) := by decide +kernel
theorem dX3_flush_43 : decode cX3_flush 43 = .ok (.iconst 0, 1) := by decide +kernel
theorem dX3_flush_44 : decode cX3_flush 44 = .ok (.putfield 30, 3) := by decide +kernel
theorem dX3_flush_47 : decode cX3_flush 47 = .ok (.return_, 1) := by decide +kernel
theorem dX3_lose_0 : decode cX3_lose 0 = .ok (.aload_n 0, 1) := by decide +kernel
theorem dX3_lose_1 : decode cX3_lose 1 = .ok (.iconst 0, 1) := by decide +kernel
theorem dX3_lose_2 : decode cX3_lose 2 = .ok (.putfield 30, 3) := by decide +kernel
theorem dX3_lose_5 : decode cX3_lose 5 = .ok (.return_, 1) := by decide +kernel
theorem dX3_placeOf_0 : decode cX3_placeOf 0 = .ok (.iconst 0, 1) := by decide +kernel
theorem dX3_placeOf_1 : decode cX3_placeOf 1 = .ok (.istore_n 2, 1) := by decide +kernel
theorem dX3_placeOf_2 : decode cX3_placeOf 2 = .ok (.iload_n 2, 1) := by decide +kernel
theorem dX3_placeOf_3 : decode cX3_placeOf 3 = .ok (.aload_n 0, 1) := by decide +kernel
theorem dX3_placeOf_4 : decode cX3_placeOf 4 = .ok (.getfield 30, 3) := by decide +kernel
theorem dX3_placeOf_7 : decode cX3_placeOf 7 = .ok (.if_icmp .ge 21, 3) := by decide +kernel
theorem dX3_placeOf_10 : decode cX3_placeOf 10 = .ok (.aload_n 0, 1) := by decide +kernel
theorem dX3_placeOf_11 : decode cX3_placeOf 11 = .ok (.getfield 13, 3) := by decide +kernel
theorem dX3_placeOf_14 : decode cX3_placeOf 14 = .ok (.iload_n 2, 1) := by decide +kernel
theorem dX3_placeOf_15 : decode cX3_placeOf 15 = .ok (.iaload, 1) := by decide +kernel
theorem dX3_placeOf_16 : decode cX3_placeOf 16 = .ok (.iload_n 1, 1) := by decide +kernel
theorem dX3_placeOf_17 : decode cX3_placeOf 17 = .ok (.if_icmp .ne 5, 3) := by decide +kernel
theorem dX3_placeOf_20 : decode cX3_placeOf 20 = .ok (.iload_n 2, 1) := by decide +kernel
theorem dX3_placeOf_21 : decode cX3_placeOf 21 = .ok (.ireturn, 1) := by decide +kernel
theorem dX3_placeOf_22 : decode cX3_placeOf 22 = .ok (.iinc 2 1, 3) := by decide +kernel
theorem dX3_placeOf_25 : decode cX3_placeOf 25 = .ok (.goto (-23), 3) := by decide +kernel
theorem dX3_placeOf_28 : decode cX3_placeOf 28 = .ok (.iconst (-1), 1) := by decide +kernel
theorem dX3_placeOf_29 : decode cX3_placeOf 29 = .ok (.ireturn, 1) := by decide +kernel
theorem dX3_placeForNew_0 : decode cX3_placeForNew 0 = .ok (.aload_n 0, 1) := by decide +kernel
theorem dX3_placeForNew_1 : decode cX3_placeForNew 1 = .ok (.getfield 30, 3) := by decide +kernel
theorem dX3_placeForNew_4 : decode cX3_placeForNew 4 = .ok (.bipush 6, 2) := by decide +kernel
theorem dX3_placeForNew_6 : decode cX3_placeForNew 6 = .ok (.if_icmp .ne 74, 3) := by decide +kernel
theorem dX3_placeForNew_9 : decode cX3_placeForNew 9 = .ok (.aload_n 0, 1) := by decide +kernel
theorem dX3_placeForNew_10 : decode cX3_placeForNew 10 = .ok (.getfield 17, 3) := by decide +kernel
theorem dX3_placeForNew_13 : decode cX3_placeForNew 13 = .ok (.iconst 0, 1) := by decide +kernel
theorem dX3_placeForNew_14 : decode cX3_placeForNew 14 = .ok (.aload_n 0, 1) := by decide +kernel
theorem dX3_placeForNew_15 : decode cX3_placeForNew 15 = .ok (.getfield 9, 3) := by decide +kernel
theorem dX3_placeForNew_18 : decode cX3_placeForNew 18 = .ok (.aload_n 0, 1) := by decide +kernel
theorem dX3_placeForNew_19 : decode cX3_placeForNew 19 = .ok (.getfield 13, 3) := by decide +kernel
theorem dX3_placeForNew_22 : decode cX3_placeForNew 22 = .ok (.iconst 0, 1) := by decide +kernel
theorem dX3_placeForNew_23 : decode cX3_placeForNew 23 = .ok (.iaload, 1) := by decide +kernel
theorem dX3_placeForNew_24 : decode cX3_placeForNew 24 = .ok (.bipush 8, 2) := by decide +kernel
theorem dX3_placeForNew_26 : decode cX3_placeForNew 26 = .ok (.imul, 1) := by decide +kernel
theorem dX3_placeForNew_27 : decode cX3_placeForNew 27 = .ok (.bipush 8, 2) := by decide +kernel
theorem dX3_placeForNew_29 : decode cX3_placeForNew 29 = .ok (.invokestatic 49, 3) := by decide +kernel
theorem dX3_placeForNew_32 : decode cX3_placeForNew 32 = .ok (.aload_n 0, 1) := by decide +kernel
theorem dX3_placeForNew_33 : decode cX3_placeForNew 33 = .ok (.dup, 1) := by decide +kernel
theorem dX3_placeForNew_34 : decode cX3_placeForNew 34 = .ok (.getfield 30, 3) := by decide +kernel
theorem dX3_placeForNew_37 : decode cX3_placeForNew 37 = .ok (.iconst 1, 1) := by decide +kernel
theorem dX3_placeForNew_38 : decode cX3_placeForNew 38 = .ok (.isub, 1) := by decide +kernel
theorem dX3_placeForNew_39 : decode cX3_placeForNew 39 = .ok (.putfield 30, 3) := by decide +kernel
theorem dX3_placeForNew_42 : decode cX3_placeForNew 42 = .ok (.aload_n 0, 1) := by decide +kernel
theorem dX3_placeForNew_43 : decode cX3_placeForNew 43 = .ok (.getfield 13, 3) := by decide +kernel
theorem dX3_placeForNew_46 : decode cX3_placeForNew 46 = .ok (.iconst 1, 1) := by decide +kernel
theorem dX3_placeForNew_47 : decode cX3_placeForNew 47 = .ok (.aload_n 0, 1) := by decide +kernel
theorem dX3_placeForNew_48 : decode cX3_placeForNew 48 = .ok (.getfield 13, 3) := by decide +kernel
theorem dX3_placeForNew_51 : decode cX3_placeForNew 51 = .ok (.iconst 0, 1) := by decide +kernel
theorem dX3_placeForNew_52 : decode cX3_placeForNew 52 = .ok (.aload_n 0, 1) := by decide +kernel
theorem dX3_placeForNew_53 : decode cX3_placeForNew 53 = .ok (.getfield 30, 3) := by decide +kernel
theorem dX3_placeForNew_56 : decode cX3_placeForNew 56 = .ok (.invokestatic 49, 3) := by decide +kernel
theorem dX3_placeForNew_59 : decode cX3_placeForNew 59 = .ok (.aload_n 0, 1) := by decide +kernel
theorem dX3_placeForNew_60 : decode cX3_placeForNew 60 = .ok (.getfield 17, 3) := by decide +kernel
theorem dX3_placeForNew_63 : decode cX3_placeForNew 63 = .ok (.bipush 8, 2) := by decide +kernel
theorem dX3_placeForNew_65 : decode cX3_placeForNew 65 = .ok (.aload_n 0, 1) := by decide +kernel
theorem dX3_placeForNew_66 : decode cX3_placeForNew 66 = .ok (.getfield 17, 3) := by decide +kernel
theorem dX3_placeForNew_69 : decode cX3_placeForNew 69 = .ok (.iconst 0, 1) := by decide +kernel
theorem dX3_placeForNew_70 : decode cX3_placeForNew 70 = .ok (.aload_n 0, 1) := by decide +kernel
theorem dX3_placeForNew_71 : decode cX3_placeForNew 71 = .ok (.getfield 30, 3) := by decide +kernel
theorem dX3_placeForNew_74 : decode cX3_placeForNew 74 = .ok (.bipush 8, 2) := by decide +kernel
theorem dX3_placeForNew_76 : decode cX3_placeForNew 76 = .ok (.imul, 1) := by decide +kernel
theorem dX3_placeForNew_77 : decode cX3_placeForNew 77 = .ok (.invokestatic 49, 3) := by decide +kernel
theorem dX3_placeForNew_80 : decode cX3_placeForNew 80 = .ok (.aload_n 0, 1) := by decide +kernel
theorem dX3_placeForNew_81 : decode cX3_placeForNew 81 = .ok (.getfield 30, 3) := by decide +kernel
theorem dX3_placeForNew_84 : decode cX3_placeForNew 84 = .ok (.istore_n 2, 1) := by decide +kernel
theorem dX3_placeForNew_85 : decode cX3_placeForNew 85 = .ok (.aload_n 0, 1) := by decide +kernel
theorem dX3_placeForNew_86 : decode cX3_placeForNew 86 = .ok (.getfield 13, 3) := by decide +kernel
theorem dX3_placeForNew_89 : decode cX3_placeForNew 89 = .ok (.iload_n 2, 1) := by decide +kernel
theorem dX3_placeForNew_90 : decode cX3_placeForNew 90 = .ok (.iload_n 1, 1) := by decide +kernel
theorem dX3_placeForNew_91 : decode cX3_placeForNew 91 = .ok (.iastore, 1) := by decide +kernel
theorem dX3_placeForNew_92 : decode cX3_placeForNew 92 = .ok (.aload_n 0, 1) := by decide +kernel
theorem dX3_placeForNew_93 : decode cX3_placeForNew 93 = .ok (.dup, 1) := by decide +kernel
theorem dX3_placeForNew_94 : decode cX3_placeForNew 94 = .ok (.getfield 30, 3) := by decide +kernel
theorem dX3_placeForNew_97 : decode cX3_placeForNew 97 = .ok (.iconst 1, 1) := by decide +kernel
theorem dX3_placeForNew_98 : decode cX3_placeForNew 98 = .ok (.iadd, 1) := by decide +kernel
theorem dX3_placeForNew_99 : decode cX3_placeForNew 99 = .ok (.putfield 30, 3) := by decide +kernel
theorem dX3_placeForNew_102 : decode cX3_placeForNew 102 = .ok (.iload_n 2, 1) := by decide +kernel
theorem dX3_placeForNew_103 : decode cX3_placeForNew 103 = .ok (.ireturn, 1) := by decide +kernel
theorem dJ7_fill_J_0 : decode cJ7_fill_J 0 = .ok (.iconst 0, 1) := by decide +kernel
theorem dJ7_fill_J_1 : decode cJ7_fill_J 1 = .ok (.istore_n 3, 1) := by decide +kernel
theorem dJ7_fill_J_2 : decode cJ7_fill_J 2 = .ok (.aload_n 0, 1) := by decide +kernel
theorem dJ7_fill_J_3 : decode cJ7_fill_J 3 = .ok (.arraylength, 1) := by decide +kernel
theorem dJ7_fill_J_4 : decode cJ7_fill_J 4 = .ok (.istore 4, 2) := by decide +kernel
theorem dJ7_fill_J_6 : decode cJ7_fill_J 6 = .ok (.iload_n 3, 1) := by decide +kernel
theorem dJ7_fill_J_7 : decode cJ7_fill_J 7 = .ok (.iload 4, 2) := by decide +kernel
theorem dJ7_fill_J_9 : decode cJ7_fill_J 9 = .ok (.if_icmp .ge 13, 3) := by decide +kernel
theorem dJ7_fill_J_12 : decode cJ7_fill_J 12 = .ok (.aload_n 0, 1) := by decide +kernel
theorem dJ7_fill_J_13 : decode cJ7_fill_J 13 = .ok (.iload_n 3, 1) := by decide +kernel
theorem dJ7_fill_J_14 : decode cJ7_fill_J 14 = .ok (.lload_n 1, 1) := by decide +kernel
theorem dJ7_fill_J_15 : decode cJ7_fill_J 15 = .ok (.lastore, 1) := by decide +kernel
theorem dJ7_fill_J_16 : decode cJ7_fill_J 16 = .ok (.iinc 3 1, 3) := by decide +kernel
theorem dJ7_fill_J_19 : decode cJ7_fill_J 19 = .ok (.goto (-13), 3) := by decide +kernel
theorem dJ7_fill_J_22 : decode cJ7_fill_J 22 = .ok (.return_, 1) := by decide +kernel
theorem dJ7_fill_Z_0 : decode cJ7_fill_Z 0 = .ok (.iconst 0, 1) := by decide +kernel
theorem dJ7_fill_Z_1 : decode cJ7_fill_Z 1 = .ok (.istore_n 2, 1) := by decide +kernel
theorem dJ7_fill_Z_2 : decode cJ7_fill_Z 2 = .ok (.aload_n 0, 1) := by decide +kernel
theorem dJ7_fill_Z_3 : decode cJ7_fill_Z 3 = .ok (.arraylength, 1) := by decide +kernel
theorem dJ7_fill_Z_4 : decode cJ7_fill_Z 4 = .ok (.istore_n 3, 1) := by decide +kernel
theorem dJ7_fill_Z_5 : decode cJ7_fill_Z 5 = .ok (.iload_n 2, 1) := by decide +kernel
theorem dJ7_fill_Z_6 : decode cJ7_fill_Z 6 = .ok (.iload_n 3, 1) := by decide +kernel
theorem dJ7_fill_Z_7 : decode cJ7_fill_Z 7 = .ok (.if_icmp .ge 13, 3) := by decide +kernel
theorem dJ7_fill_Z_10 : decode cJ7_fill_Z 10 = .ok (.aload_n 0, 1) := by decide +kernel
theorem dJ7_fill_Z_11 : decode cJ7_fill_Z 11 = .ok (.iload_n 2, 1) := by decide +kernel
theorem dJ7_fill_Z_12 : decode cJ7_fill_Z 12 = .ok (.iload_n 1, 1) := by decide +kernel
theorem dJ7_fill_Z_13 : decode cJ7_fill_Z 13 = .ok (.bastore, 1) := by decide +kernel
theorem dJ7_fill_Z_14 : decode cJ7_fill_Z 14 = .ok (.iinc 2 1, 3) := by decide +kernel
theorem dJ7_fill_Z_17 : decode cJ7_fill_Z 17 = .ok (.goto (-12), 3) := by decide +kernel
theorem dJ7_fill_Z_20 : decode cJ7_fill_Z 20 = .ok (.return_, 1) := by decide +kernel
