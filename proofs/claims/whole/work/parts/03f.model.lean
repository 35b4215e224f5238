theorem dX8_in_0 : decode cX8_in 0 = .ok (.lload_n 0, 1) := by decide +kernel
theorem dX8_in_1 : decode cX8_in 1 = .ok (.lload_n 2, 1) := by decide +kernel
theorem dX8_in_2 : decode cX8_in 2 = .ok (.lcmp, 1) := by decide +kernel
theorem dX8_in_3 : decode cX8_in 3 = .ok (.ifCond .lt 14, 3) := by decide +kernel
theorem dX8_in_6 : decode cX8_in 6 = .ok (.lload_n 0, 1) := by decide +kernel
theorem dX8_in_7 : decode cX8_in 7 = .ok (.lload 4, 2) := by decide +kernel
theorem dX8_in_9 : decode cX8_in 9 = .ok (.lcmp, 1) := by decide +kernel
theorem dX8_in_10 : decode cX8_in 10 = .ok (.ifCond .gt 7, 3) := by decide +kernel
theorem dX8_in_13 : decode cX8_in 13 = .ok (.iconst 1, 1) := by decide +kernel
theorem dX8_in_14 : decode cX8_in 14 = .ok (.goto 4, 3) := by decide +kernel
theorem dX8_in_17 : decode cX8_in 17 = .ok (.iconst 0, 1) := by decide +kernel
theorem dX8_in_18 : decode cX8_in 18 = .ok (.ireturn, 1) := by decide +kernel
theorem dX8_init_0 : decode cX8_init 0 = .ok (.aload_n 0, 1) := by decide +kernel
theorem dX8_init_1 : decode cX8_init 1 = .ok (.invokespecial 1, 3) := by decide +kernel
theorem dX8_init_4 : decode cX8_init 4 = .ok (.aload_n 0, 1) := by decide +kernel
theorem dX8_init_5 : decode cX8_init 5 = .ok (.sipush 1024, 3) := by decide +kernel
theorem dX8_init_8 : decode cX8_init 8 = .ok (.newarray .long, 2) := by decide +kernel
theorem dX8_init_10 : decode cX8_init 10 = .ok (.putfield 9, 3) := by decide +kernel
theorem dX8_init_13 : decode cX8_init 13 = .ok (.aload_n 0, 1) := by decide +kernel
theorem dX8_init_14 : decode cX8_init 14 = .ok (.bipush 64, 2) := by decide +kernel
theorem dX8_init_16 : decode cX8_init 16 = .ok (.bipush 8, 2) := by decide +kernel
theorem dX8_init_18 : decode cX8_init 18 = .ok (.multianewarray 13 2, 4) := by decide +kernel
theorem dX8_init_22 : decode cX8_init 22 = .ok (.putfield 15, 3) := by decide +kernel
theorem dX8_init_25 : decode cX8_init 25 = .ok (.aload_n 0, 1) := by decide +kernel
theorem dX8_init_26 : decode cX8_init 26 = .ok (.bipush 7, 2) := by decide +kernel
theorem dX8_init_28 : decode cX8_init 28 = .ok (.bipush 8, 2) := by decide +kernel
theorem dX8_init_30 : decode cX8_init 30 = .ok (.multianewarray 13 2, 4) := by decide +kernel
theorem dX8_init_34 : decode cX8_init 34 = .ok (.putfield 18, 3) := by decide +kernel
theorem dX8_init_37 : decode cX8_init 37 = .ok (.aload_n 0, 1) := by decide +kernel
theorem dX8_init_38 : decode cX8_init 38 = .ok (.bipush 7, 2) := by decide +kernel
theorem dX8_init_40 : decode cX8_init 40 = .ok (.newarray .int, 2) := by decide +kernel
theorem dX8_init_42 : decode cX8_init 42 = .ok (.putfield 21, 3) := by decide +kernel
theorem dX8_init_45 : decode cX8_init 45 = .ok (.aload_n 0, 1) := by decide +kernel
theorem dX8_init_46 : decode cX8_init 46 = .ok (.iconst 1, 1) := by decide +kernel
theorem dX8_init_47 : decode cX8_init 47 = .ok (.putfield 25, 3) := by decide +kernel
theorem dX8_init_50 : decode cX8_init 50 = .ok (.aload_n 0, 1) := by decide +kernel
theorem dX8_init_51 : decode cX8_init 51 = .ok (.bipush 8, 2) := by decide +kernel
theorem dX8_init_53 : decode cX8_init 53 = .ok (.newarray .boolean, 2) := by decide +kernel
theorem dX8_init_55 : decode cX8_init 55 = .ok (.putfield 29, 3) := by decide +kernel
theorem dX8_init_58 : decode cX8_init 58 = .ok (.aload_n 0, 1) := by decide +kernel
theorem dX8_init_59 : decode cX8_init 59 = .ok (.iconst 4, 1) := by decide +kernel
theorem dX8_init_60 : decode cX8_init 60 = .ok (.newarray .boolean, 2) := by decide +kernel
theorem dX8_init_62 : decode cX8_init 62 = .ok (.putfield 33, 3) := by decide +kernel
theorem dX8_init_65 : decode cX8_init 65 = .ok (.aload_n 0, 1) := by decide +kernel
theorem dX8_init_66 : decode cX8_init 66 = .ok (.bipush 8, 2) := by decide +kernel
theorem dX8_init_68 : decode cX8_init 68 = .ok (.newarray .int, 2) := by decide +kernel
theorem dX8_init_70 : decode cX8_init 70 = .ok (.putfield 36, 3) := by decide +kernel
theorem dX8_init_73 : decode cX8_init 73 = .ok (.aload_n 0, 1) := by decide +kernel
theorem dX8_init_74 : decode cX8_init 74 = .ok (.bipush 8, 2) := by decide +kernel
theorem dX8_init_76 : decode cX8_init 76 = .ok (.newarray .int, 2) := by decide +kernel
theorem dX8_init_78 : decode cX8_init 78 = .ok (.putfield 39, 3) := by decide +kernel
theorem dX8_init_81 : decode cX8_init 81 = .ok (.aload_n 0, 1) := by decide +kernel
theorem dX8_init_82 : decode cX8_init 82 = .ok (.bipush 8, 2) := by decide +kernel
theorem dX8_init_84 : decode cX8_init 84 = .ok (.newarray .int, 2) := by decide +kernel
theorem dX8_init_86 : decode cX8_init 86 = .ok (.putfield 42, 3) := by decide +kernel
theorem dX8_init_89 : decode cX8_init 89 = .ok (.aload_n 0, 1) := by decide +kernel
theorem dX8_init_90 : decode cX8_init 90 = .ok (.bipush 8, 2) := by decide +kernel
theorem dX8_init_92 : decode cX8_init 92 = .ok (.newarray .int, 2) := by decide +kernel
theorem dX8_init_94 : decode cX8_init 94 = .ok (.putfield 45, 3) := by decide +kernel
theorem dX8_init_97 : decode cX8_init 97 = .ok (.aload_n 0, 1) := by decide +kernel
theorem dX8_init_98 : decode cX8_init 98 = .ok (.iconst 4, 1) := by decide +kernel
theorem dX8_init_99 : decode cX8_init 99 = .ok (.newarray .int, 2) := by decide +kernel
theorem dX8_init_101 : decode cX8_init 101 = .ok (.putfield 48, 3) := by decide +kernel
theorem dX8_init_104 : decode cX8_init 104 = .ok (.aload_n 0, 1) := by decide +kernel
theorem dX8_init_105 : decode cX8_init 105 = .ok (.iconst 4, 1) := by decide +kernel
theorem dX8_init_106 : decode cX8_init 106 = .ok (.newarray .int, 2) := by decide +kernel
theorem dX8_init_108 : decode cX8_init 108 = .ok (.putfield 51, 3) := by decide +kernel
theorem dX8_init_111 : decode cX8_init 111 = .ok (.aload_n 0, 1) := by decide +kernel
theorem dX8_init_112 : decode cX8_init 112 = .ok (.sipush 2048, 3) := by decide +kernel
theorem dX8_init_115 : decode cX8_init 115 = .ok (.newarray .int, 2) := by decide +kernel
theorem dX8_init_117 : decode cX8_init 117 = .ok (.putfield 54, 3) := by decide +kernel
theorem dX8_init_120 : decode cX8_init 120 = .ok (.aload_n 0, 1) := by decide +kernel
theorem dX8_init_121 : decode cX8_init 121 = .ok (.bipush 8, 2) := by decide +kernel
theorem dX8_init_123 : decode cX8_init 123 = .ok (.newarray .long, 2) := by decide +kernel
theorem dX8_init_125 : decode cX8_init 125 = .ok (.putfield 57, 3) := by decide +kernel
theorem dX8_init_128 : decode cX8_init 128 = .ok (.return_, 1) := by decide +kernel
theorem dX8_peek_0 : decode cX8_peek 0 = .ok (.iload_n 1, 1) := by decide +kernel
theorem dX8_peek_1 : decode cX8_peek 1 = .ok (.i2l, 1) := by decide +kernel
theorem dX8_peek_2 : decode cX8_peek 2 = .ok (.lconst 0, 1) := by decide +kernel
theorem dX8_peek_3 : decode cX8_peek 3 = .ok (.ldc2_w 60, 3) := by decide +kernel
theorem dX8_peek_6 : decode cX8_peek 6 = .ok (.invokestatic 62, 3) := by decide +kernel
theorem dX8_peek_9 : decode cX8_peek 9 = .ok (.ifCond .eq 12, 3) := by decide +kernel
theorem dX8_peek_12 : decode cX8_peek 12 = .ok (.aload_n 0, 1) := by decide +kernel
theorem dX8_peek_13 : decode cX8_peek 13 = .ok (.getfield 9, 3) := by decide +kernel
theorem dX8_peek_16 : decode cX8_peek 16 = .ok (.iload_n 1, 1) := by decide +kernel
theorem dX8_peek_17 : decode cX8_peek 17 = .ok (.laload, 1) := by decide +kernel
theorem dX8_peek_18 : decode cX8_peek 18 = .ok (.goto 4, 3) := by decide +kernel
theorem dX8_peek_21 : decode cX8_peek 21 = .ok (.lconst 0, 1) := by decide +kernel
theorem dX8_peek_22 : decode cX8_peek 22 = .ok (.lreturn, 1) := by decide +kernel
theorem dX8_poke_0 : decode cX8_poke 0 = .ok (.iload_n 1, 1) := by decide +kernel
theorem dX8_poke_1 : decode cX8_poke 1 = .ok (.i2l, 1) := by decide +kernel
theorem dX8_poke_2 : decode cX8_poke 2 = .ok (.lconst 0, 1) := by decide +kernel
theorem dX8_poke_3 : decode cX8_poke 3 = .ok (.ldc2_w 60, 3) := by decide +kernel
theorem dX8_poke_6 : decode cX8_poke 6 = .ok (.invokestatic 62, 3) := by decide +kernel
theorem dX8_poke_9 : decode cX8_poke 9 = .ok (.ifCond .ne 5, 3) := by decide +kernel
theorem dX8_poke_12 : decode cX8_poke 12 = .ok (.iconst (-1), 1) := by decide +kernel
theorem dX8_poke_13 : decode cX8_poke 13 = .ok (.ireturn, 1) := by decide +kernel
theorem dX8_poke_14 : decode cX8_poke 14 = .ok (.aload_n 0, 1) := by decide +kernel
theorem dX8_poke_15 : decode cX8_poke 15 = .ok (.getfield 9, 3) := by decide +kernel
theorem dX8_poke_18 : decode cX8_poke 18 = .ok (.iload_n 1, 1) := by decide +kernel
theorem dX8_poke_19 : decode cX8_poke 19 = .ok (.lload_n 2, 1) := by decide +kernel
theorem dX8_poke_20 : decode cX8_poke 20 = .ok (.lastore, 1) := by decide +kernel
theorem dX8_poke_21 : decode cX8_poke 21 = .ok (.iconst 0, 1) := by decide +kernel
theorem dX8_poke_22 : decode cX8_poke 22 = .ok (.ireturn, 1) := by decide +kernel
theorem dX8_find_0 : decode cX8_find 0 = .ok (.iconst 0, 1) := by decide +kernel
theorem dX8_find_1 : decode cX8_find 1 = .ok (.istore_n 2, 1) := by decide +kernel
theorem dX8_find_2 : decode cX8_find 2 = .ok (.iload_n 2, 1) := by decide +kernel
theorem dX8_find_3 : decode cX8_find 3 = .ok (.aload_n 0, 1) := by decide +kernel
theorem dX8_find_4 : decode cX8_find 4 = .ok (.getfield 66, 3) := by decide +kernel
theorem dX8_find_7 : decode cX8_find 7 = .ok (.if_icmp .ge 21, 3) := by decide +kernel
theorem dX8_find_10 : decode cX8_find 10 = .ok (.aload_n 0, 1) := by decide +kernel
theorem dX8_find_11 : decode cX8_find 11 = .ok (.getfield 21, 3) := by decide +kernel
theorem dX8_find_14 : decode cX8_find 14 = .ok (.iload_n 2, 1) := by decide +kernel
theorem dX8_find_15 : decode cX8_find 15 = .ok (.iaload, 1) := by decide +kernel
theorem dX8_find_16 : decode cX8_find 16 = .ok (.iload_n 1, 1) := by decide +kernel
theorem dX8_find_17 : decode cX8_find 17 = .ok (.if_icmp .ne 5, 3) := by decide +kernel
theorem dX8_find_20 : decode cX8_find 20 = .ok (.iload_n 2, 1) := by decide +kernel
theorem dX8_find_21 : decode cX8_find 21 = .ok (.ireturn, 1) := by decide +kernel
theorem dX8_find_22 : decode cX8_find 22 = .ok (.iinc 2 1, 3) := by decide +kernel
theorem dX8_find_25 : decode cX8_find 25 = .ok (.goto (-23), 3) := by decide +kernel
theorem dX8_find_28 : decode cX8_find 28 = .ok (.iconst (-1), 1) := by decide +kernel
theorem dX8_find_29 : decode cX8_find 29 = .ok (.ireturn, 1) := by decide +kernel
theorem dX8_blockOf_0 : decode cX8_blockOf 0 = .ok (.aload_n 0, 1) := by decide +kernel
theorem dX8_blockOf_1 : decode cX8_blockOf 1 = .ok (.iload_n 1, 1) := by decide +kernel
theorem dX8_blockOf_2 : decode cX8_blockOf 2 = .ok (.invokevirtual 70, 3) := by decide +kernel
theorem dX8_blockOf_5 : decode cX8_blockOf 5 = .ok (.istore_n 2, 1) := by decide +kernel
theorem dX8_blockOf_6 : decode cX8_blockOf 6 = .ok (.iload_n 2, 1) := by decide +kernel
theorem dX8_blockOf_7 : decode cX8_blockOf 7 = .ok (.ifCond .lt 12, 3) := by decide +kernel
theorem dX8_blockOf_10 : decode cX8_blockOf 10 = .ok (.aload_n 0, 1) := by decide +kernel
theorem dX8_blockOf_11 : decode cX8_blockOf 11 = .ok (.getfield 18, 3) := by decide +kernel
theorem dX8_blockOf_14 : decode cX8_blockOf 14 = .ok (.iload_n 2, 1) := by decide +kernel
theorem dX8_blockOf_15 : decode cX8_blockOf 15 = .ok (.aaload, 1) := by decide +kernel
theorem dX8_blockOf_16 : decode cX8_blockOf 16 = .ok (.goto 9, 3) := by decide +kernel
theorem dX8_blockOf_19 : decode cX8_blockOf 19 = .ok (.aload_n 0, 1) := by decide +kernel
theorem dX8_blockOf_20 : decode cX8_blockOf 20 = .ok (.getfield 15, 3) := by decide +kernel
theorem dX8_blockOf_23 : decode cX8_blockOf 23 = .ok (.iload_n 1, 1) := by decide +kernel
theorem dX8_blockOf_24 : decode cX8_blockOf 24 = .ok (.aaload, 1) := by decide +kernel
theorem dX8_blockOf_25 : decode cX8_blockOf 25 = .ok (.areturn, 1) := by decide +kernel
theorem dX8_giveUp_0 : decode cX8_giveUp 0 = .ok (.aload_n 0, 1) := by decide +kernel
theorem dX8_giveUp_1 : decode cX8_giveUp 1 = .ok (.getfield 18, 3) := by decide +kernel
theorem dX8_giveUp_4 : decode cX8_giveUp 4 = .ok (.iconst 0, 1) := by decide +kernel
theorem dX8_giveUp_5 : decode cX8_giveUp 5 = .ok (.aaload, 1) := by decide +kernel
theorem dX8_giveUp_6 : decode cX8_giveUp 6 = .ok (.iconst 0, 1) := by decide +kernel
theorem dX8_giveUp_7 : decode cX8_giveUp 7 = .ok (.aload_n 0, 1) := by decide +kernel
theorem dX8_giveUp_8 : decode cX8_giveUp 8 = .ok (.getfield 15, 3) := by decide +kernel
theorem dX8_giveUp_11 : decode cX8_giveUp 11 = .ok (.aload_n 0, 1) := by decide +kernel
theorem dX8_giveUp_12 : decode cX8_giveUp 12 = .ok (.getfield 21, 3) := by decide +kernel
theorem dX8_giveUp_15 : decode cX8_giveUp 15 = .ok (.iconst 0, 1) := by decide +kernel
theorem dX8_giveUp_16 : decode cX8_giveUp 16 = .ok (.iaload, 1) := by decide +kernel
theorem dX8_giveUp_17 : decode cX8_giveUp 17 = .ok (.aaload, 1) := by decide +kernel
theorem dX8_giveUp_18 : decode cX8_giveUp 18 = .ok (.iconst 0, 1) := by decide +kernel
theorem dX8_giveUp_19 : decode cX8_giveUp 19 = .ok (.bipush 8, 2) := by decide +kernel
theorem dX8_giveUp_21 : decode cX8_giveUp 21 = .ok (.invokestatic 74, 3) := by decide +kernel
theorem dX8_giveUp_24 : decode cX8_giveUp 24 = .ok (.aload_n 0, 1) := by decide +kernel
theorem dX8_giveUp_25 : decode cX8_giveUp 25 = .ok (.dup, 1) := by decide +kernel
theorem dX8_giveUp_26 : decode cX8_giveUp 26 = .ok (.getfield 66, 3) := by decide +kernel
theorem dX8_giveUp_29 : decode cX8_giveUp 29 = .ok (.iconst 1, 1) := by decide +kernel
theorem dX8_giveUp_30 : decode cX8_giveUp 30 = .ok (.isub, 1) := by decide +kernel
theorem dX8_giveUp_31 : decode cX8_giveUp 31 = .ok (.putfield 66, 3) := by decide +kernel
theorem dX8_giveUp_34 : decode cX8_giveUp 34 = .ok (.iconst 0, 1) := by decide +kernel
theorem dX8_giveUp_35 : decode cX8_giveUp 35 = .ok (.istore_n 1, 1) := by decide +kernel
theorem dX8_giveUp_36 : decode cX8_giveUp 36 = .ok (.iload_n 1, 1) := by decide +kernel
theorem dX8_giveUp_37 : decode cX8_giveUp 37 = .ok (.aload_n 0, 1) := by decide +kernel
theorem dX8_giveUp_38 : decode cX8_giveUp 38 = .ok (.getfield 66, 3) := by decide +kernel
theorem dX8_giveUp_41 : decode cX8_giveUp 41 = .ok (.if_icmp .ge 44, 3) := by decide +kernel
theorem dX8_giveUp_44 : decode cX8_giveUp 44 = .ok (.aload_n 0, 1) := by decide +kernel
theorem dX8_giveUp_45 : decode cX8_giveUp 45 = .ok (.getfield 21, 3) := by decide +kernel
theorem dX8_giveUp_48 : decode cX8_giveUp 48 = .ok (.iload_n 1, 1) := by decide +kernel
theorem dX8_giveUp_49 : decode cX8_giveUp 49 = .ok (.aload_n 0, 1) := by decide +kernel
theorem dX8_giveUp_50 : decode cX8_giveUp 50 = .ok (.getfield 21, 3) := by decide +kernel
theorem dX8_giveUp_53 : decode cX8_giveUp 53 = .ok (.iload_n 1, 1) := by decide +kernel
theorem dX8_giveUp_54 : decode cX8_giveUp 54 = .ok (.iconst 1, 1) := by decide +kernel
theorem dX8_giveUp_55 : decode cX8_giveUp 55 = .ok (.iadd, 1) := by decide +kernel
theorem dX8_giveUp_56 : decode cX8_giveUp 56 = .ok (.iaload, 1) := by decide +kernel
theorem dX8_giveUp_57 : decode cX8_giveUp 57 = .ok (.iastore, 1) := by decide +kernel
theorem dX8_giveUp_58 : decode cX8_giveUp 58 = .ok (.aload_n 0, 1) := by decide +kernel
theorem dX8_giveUp_59 : decode cX8_giveUp 59 = .ok (.getfield 18, 3) := by decide +kernel
theorem dX8_giveUp_62 : decode cX8_giveUp 62 = .ok (.iload_n 1, 1) := by decide +kernel
theorem dX8_giveUp_63 : decode cX8_giveUp 63 = .ok (.iconst 1, 1) := by decide +kernel
theorem dX8_giveUp_64 : decode cX8_giveUp 64 = .ok (.iadd, 1) := by decide +kernel
theorem dX8_giveUp_65 : decode cX8_giveUp 65 = .ok (.aaload, 1) := by decide +kernel
theorem dX8_giveUp_66 : decode cX8_giveUp 66 = .ok (.iconst 0, 1) := by decide +kernel
theorem dX8_giveUp_67 : decode cX8_giveUp 67 = .ok (.aload_n 0, 1) := by decide +kernel
theorem dX8_giveUp_68 : decode cX8_giveUp 68 = .ok (.getfield 18, 3) := by decide +kernel
theorem dX8_giveUp_71 : decode cX8_giveUp 71 = .ok (.iload_n 1, 1) := by decide +kernel
theorem dX8_giveUp_72 : decode cX8_giveUp 72 = .ok (.aaload, 1) := by decide +kernel
theorem dX8_giveUp_73 : decode cX8_giveUp 73 = .ok (.iconst 0, 1) := by decide +kernel
theorem dX8_giveUp_74 : decode cX8_giveUp 74 = .ok (.bipush 8, 2) := by decide +kernel
theorem dX8_giveUp_76 : decode cX8_giveUp 76 = .ok (.invokestatic 74, 3) := by decide +kernel
theorem dX8_giveUp_79 : decode cX8_giveUp 79 = .ok (.iinc 1 1, 3) := by decide +kernel
theorem dX8_giveUp_82 : decode cX8_giveUp 82 = .ok (.goto (-46), 3) := by decide +kernel
theorem dX8_giveUp_85 : decode cX8_giveUp 85 = .ok (.return_, 1) := by decide +kernel
theorem dX8_flush_0 : decode cX8_flush 0 = .ok (.aload_n 0, 1) := by decide +kernel
theorem dX8_flush_1 : decode cX8_flush 1 = .ok (.getfield 66, 3) := by decide +kernel
theorem dX8_flush_4 : decode cX8_flush 4 = .ok (.ifCond .le 10, 3) := by decide +kernel
theorem dX8_flush_7 : decode cX8_flush 7 = .ok (.aload_n 0, 1) := by decide +kernel
theorem dX8_flush_8 : decode cX8_flush 8 = .ok (.invokevirtual 80, 3) := by decide +kernel
theorem dX8_flush_11 : decode cX8_flush 11 = .ok (.goto (-11), 3) := by decide +kernel
theorem dX8_flush_14 : decode cX8_flush 14 = .ok (.return_, 1) := by decide +kernel
theorem dX8_store_0 : decode cX8_store 0 = .ok (.aload_n 0, 1) := by decide +kernel
theorem dX8_store_1 : decode cX8_store 1 = .ok (.dup, 1) := by decide +kernel
theorem dX8_store_2 : decode cX8_store 2 = .ok (.getfield 83, 3) := by decide +kernel
theorem dX8_store_5 : decode cX8_store 5 = .ok (.lconst 1, 1) := by decide +kernel
theorem dX8_store_6 : decode cX8_store 6 = .ok (.ladd, 1) := by decide +kernel
theorem dX8_store_7 : decode cX8_store 7 = .ok (.putfield 83, 3) := by decide +kernel
theorem dX8_store_10 : decode cX8_store 10 = .ok (.aload_n 0, 1) := by decide +kernel
theorem dX8_store_11 : decode cX8_store 11 = .ok (.getfield 25, 3) := by decide +kernel
theorem dX8_store_14 : decode cX8_store 14 = .ok (.ifCond .ne 18, 3) := by decide +kernel
theorem dX8_store_17 : decode cX8_store 17 = .ok (.aload_n 2, 1) := by decide +kernel
theorem dX8_store_18 : decode cX8_store 18 = .ok (.iconst 0, 1) := by decide +kernel
theorem dX8_store_19 : decode cX8_store 19 = .ok (.aload_n 0, 1) := by decide +kernel
theorem dX8_store_20 : decode cX8_store 20 = .ok (.getfield 15, 3) := by decide +kernel
theorem dX8_store_23 : decode cX8_store 23 = .ok (.iload_n 1, 1) := by decide +kernel
theorem dX8_store_24 : decode cX8_store 24 = .ok (.aaload, 1) := by decide +kernel
theorem dX8_store_25 : decode cX8_store 25 = .ok (.iconst 0, 1) := by decide +kernel
theorem dX8_store_26 : decode cX8_store 26 = .ok (.bipush 8, 2) := by decide +kernel
theorem dX8_store_28 : decode cX8_store 28 = .ok (.invokestatic 74, 3) := by decide +kernel
theorem dX8_store_31 : decode cX8_store 31 = .ok (.return_, 1) := by decide +kernel
theorem dX8_store_32 : decode cX8_store 32 = .ok (.aload_n 0, 1) := by decide +kernel
theorem dX8_store_33 : decode cX8_store 33 = .ok (.iload_n 1, 1) := by decide +kernel
theorem dX8_store_34 : decode cX8_store 34 = .ok (.invokevirtual 70, 3) := by decide +kernel
theorem dX8_store_37 : decode cX8_store 37 = .ok (.istore_n 3, 1) := by decide +kernel
theorem dX8_store_38 : decode cX8_store 38 = .ok (.iload_n 3, 1) := by decide +kernel
theorem dX8_store_39 : decode cX8_store 39 = .ok (.ifCond .ge 25, 3) := by decide +kernel
theorem dX8_store_42 : decode cX8_store 42 = .ok (.aload_n 0, 1) := by decide +kernel
theorem dX8_store_43 : decode cX8_store 43 = .ok (.getfield 66, 3) := by decide +kernel
theorem dX8_store_46 : decode cX8_store 46 = .ok (.istore_n 3, 1) := by decide +kernel
theorem dX8_store_47 : decode cX8_store 47 = .ok (.aload_n 0, 1) := by decide +kernel
theorem dX8_store_48 : decode cX8_store 48 = .ok (.getfield 21, 3) := by decide +kernel
theorem dX8_store_51 : decode cX8_store 51 = .ok (.iload_n 3, 1) := by decide +kernel
theorem dX8_store_52 : decode cX8_store 52 = .ok (.iload_n 1, 1) := by decide +kernel
theorem dX8_store_53 : decode cX8_store 53 = .ok (.iastore, 1) := by decide +kernel
theorem dX8_store_54 : decode cX8_store 54 = .ok (.aload_n 0, 1) := by decide +kernel
theorem dX8_store_55 : decode cX8_store 55 = .ok (.dup, 1) := by decide +kernel
theorem dX8_store_56 : decode cX8_store 56 = .ok (.getfield 66, 3) := by decide +kernel
theorem dX8_store_59 : decode cX8_store 59 = .ok (.iconst 1, 1) := by decide +kernel
theorem dX8_store_60 : decode cX8_store 60 = .ok (.iadd, 1) := by decide +kernel
theorem dX8_store_61 : decode cX8_store 61 = .ok (.putfield 66, 3) := by decide +kernel
theorem dX8_store_64 : decode cX8_store 64 = .ok (.aload_n 2, 1) := by decide +kernel
theorem dX8_store_65 : decode cX8_store 65 = .ok (.iconst 0, 1) := by decide +kernel
theorem dX8_store_66 : decode cX8_store 66 = .ok (.aload_n 0, 1) := by decide +kernel
theorem dX8_store_67 : decode cX8_store 67 = .ok (.getfield 18, 3) := by decide +kernel
theorem dX8_store_70 : decode cX8_store 70 = .ok (.iload_n 3, 1) := by decide +kernel
theorem dX8_store_71 : decode cX8_store 71 = .ok (.aaload, 1) := by decide +kernel
theorem dX8_store_72 : decode cX8_store 72 = .ok (.iconst 0, 1) := by decide +kernel
theorem dX8_store_73 : decode cX8_store 73 = .ok (.bipush 8, 2) := by decide +kernel
theorem dX8_store_75 : decode cX8_store 75 = .ok (.invokestatic 74, 3) := by decide +kernel
theorem dX8_store_78 : decode cX8_store 78 = .ok (.aload_n 0, 1) := by decide +kernel
theorem dX8_store_79 : decode cX8_store 79 = .ok (.getfield 66, 3) := by decide +kernel
theorem dX8_store_82 : decode cX8_store 82 = .ok (.bipush 6, 2) := by decide +kernel
theorem dX8_store_84 : decode cX8_store 84 = .ok (.if_icmp .le 7, 3) := by decide +kernel
theorem dX8_store_87 : decode cX8_store 87 = .ok (.aload_n 0, 1) := by decide +kernel
theorem dX8_store_88 : decode cX8_store 88 = .ok (.invokevirtual 80, 3) := by decide +kernel
theorem dX8_store_91 : decode cX8_store 91 = .ok (.return_, 1) := by decide +kernel
theorem dX8_fits_0 : decode cX8_fits 0 = .ok (.lload_n 2, 1) := by decide +kernel
theorem dX8_fits_1 : decode cX8_fits 1 = .ok (.ldc2_w 87, 3) := by decide +kernel
theorem dX8_fits_4 : decode cX8_fits 4 = .ok (.ldc2_w 89, 3) := by decide +kernel
theorem dX8_fits_7 : decode cX8_fits 7 = .ok (.invokestatic 62, 3) := by decide +kernel
theorem dX8_fits_10 : decode cX8_fits 10 = .ok (.ifCond .eq 42, 3) := by decide +kernel
theorem dX8_fits_13 : decode cX8_fits 13 = .ok (.lload_n 0, 1) := by decide +kernel
theorem dX8_fits_14 : decode cX8_fits 14 = .ok (.lconst 0, 1) := by decide +kernel
theorem dX8_fits_15 : decode cX8_fits 15 = .ok (.ldc2_w 60, 3) := by decide +kernel
theorem dX8_fits_18 : decode cX8_fits 18 = .ok (.invokestatic 62, 3) := by decide +kernel
theorem dX8_fits_21 : decode cX8_fits 21 = .ok (.ifCond .eq 31, 3) := by decide +kernel
theorem dX8_fits_24 : decode cX8_fits 24 = .ok (.lload_n 0, 1) := by decide +kernel
theorem dX8_fits_25 : decode cX8_fits 25 = .ok (.ldc2_w 91, 3) := by decide +kernel
theorem dX8_fits_28 : decode cX8_fits 28 = .ok (.lrem, 1) := by decide +kernel
theorem dX8_fits_29 : decode cX8_fits 29 = .ok (.lconst 0, 1) := by decide +kernel
theorem dX8_fits_30 : decode cX8_fits 30 = .ok (.lcmp, 1) := by decide +kernel
theorem dX8_fits_31 : decode cX8_fits 31 = .ok (.ifCond .ne 21, 3) := by decide +kernel
theorem dX8_fits_34 : decode cX8_fits 34 = .ok (.lload_n 0, 1) := by decide +kernel
theorem dX8_fits_35 : decode cX8_fits 35 = .ok (.lload_n 2, 1) := by decide +kernel
theorem dX8_fits_36 : decode cX8_fits 36 = .ok (.iload 4, 2) := by decide +kernel
theorem dX8_fits_38 : decode cX8_fits 38 = .ok (.i2l, 1) := by decide +kernel
theorem dX8_fits_39 : decode cX8_fits 39 = .ok (.lmul, 1) := by decide +kernel
theorem dX8_fits_40 : decode cX8_fits 40 = .ok (.ladd, 1) := by decide +kernel
theorem dX8_fits_41 : decode cX8_fits 41 = .ok (.ldc2_w 93, 3) := by decide +kernel
theorem dX8_fits_44 : decode cX8_fits 44 = .ok (.lcmp, 1) := by decide +kernel
theorem dX8_fits_45 : decode cX8_fits 45 = .ok (.ifCond .gt 7, 3) := by decide +kernel
theorem dX8_fits_48 : decode cX8_fits 48 = .ok (.iconst 1, 1) := by decide +kernel
theorem dX8_fits_49 : decode cX8_fits 49 = .ok (.goto 4, 3) := by decide +kernel
theorem dX8_fits_52 : decode cX8_fits 52 = .ok (.iconst 0, 1) := by decide +kernel
theorem dX8_fits_53 : decode cX8_fits 53 = .ok (.ireturn, 1) := by decide +kernel
theorem dX8_make_0 : decode cX8_make 0 = .ok (.aload_n 0, 1) := by decide +kernel
theorem dX8_make_1 : decode cX8_make 1 = .ok (.getfield 29, 3) := by decide +kernel
theorem dX8_make_4 : decode cX8_make 4 = .ok (.iload_n 1, 1) := by decide +kernel
theorem dX8_make_5 : decode cX8_make 5 = .ok (.iconst 1, 1) := by decide +kernel
theorem dX8_make_6 : decode cX8_make 6 = .ok (.bastore, 1) := by decide +kernel
theorem dX8_make_7 : decode cX8_make 7 = .ok (.aload_n 0, 1) := by decide +kernel
theorem dX8_make_8 : decode cX8_make 8 = .ok (.getfield 36, 3) := by decide +kernel
theorem dX8_make_11 : decode cX8_make 11 = .ok (.iload_n 1, 1) := by decide +kernel
theorem dX8_make_12 : decode cX8_make 12 = .ok (.lload_n 2, 1) := by decide +kernel
theorem dX8_make_13 : decode cX8_make 13 = .ok (.l2i, 1) := by decide +kernel
theorem dX8_make_14 : decode cX8_make 14 = .ok (.iastore, 1) := by decide +kernel
theorem dX8_make_15 : decode cX8_make 15 = .ok (.aload_n 0, 1) := by decide +kernel
theorem dX8_make_16 : decode cX8_make 16 = .ok (.getfield 39, 3) := by decide +kernel
theorem dX8_make_19 : decode cX8_make 19 = .ok (.iload_n 1, 1) := by decide +kernel
theorem dX8_make_20 : decode cX8_make 20 = .ok (.lload 4, 2) := by decide +kernel
theorem dX8_make_22 : decode cX8_make 22 = .ok (.l2i, 1) := by decide +kernel
theorem dX8_make_23 : decode cX8_make 23 = .ok (.iastore, 1) := by decide +kernel
theorem dX8_make_24 : decode cX8_make 24 = .ok (.aload_n 0, 1) := by decide +kernel
theorem dX8_make_25 : decode cX8_make 25 = .ok (.getfield 42, 3) := by decide +kernel
theorem dX8_make_28 : decode cX8_make 28 = .ok (.iload_n 1, 1) := by decide +kernel
theorem dX8_make_29 : decode cX8_make 29 = .ok (.iconst 0, 1) := by decide +kernel
theorem dX8_make_30 : decode cX8_make 30 = .ok (.iastore, 1) := by decide +kernel
theorem dX8_make_31 : decode cX8_make 31 = .ok (.aload_n 0, 1) := by decide +kernel
theorem dX8_make_32 : decode cX8_make 32 = .ok (.getfield 45, 3) := by decide +kernel
theorem dX8_make_35 : decode cX8_make 35 = .ok (.iload_n 1, 1) := by decide +kernel
theorem dX8_make_36 : decode cX8_make 36 = .ok (.iconst 0, 1) := by decide +kernel
theorem dX8_make_37 : decode cX8_make 37 = .ok (.iastore, 1) := by decide +kernel
theorem dX8_make_38 : decode cX8_make 38 = .ok (.iload_n 1, 1) := by decide +kernel
theorem dX8_make_39 : decode cX8_make 39 = .ok (.iconst 4, 1) := by decide +kernel
theorem dX8_make_40 : decode cX8_make 40 = .ok (.if_icmp .lt 12, 3) := by decide +kernel
theorem dX8_make_43 : decode cX8_make 43 = .ok (.aload_n 0, 1) := by decide +kernel
theorem dX8_make_44 : decode cX8_make 44 = .ok (.getfield 51, 3) := by decide +kernel
theorem dX8_make_47 : decode cX8_make 47 = .ok (.iload_n 1, 1) := by decide +kernel
theorem dX8_make_48 : decode cX8_make 48 = .ok (.iconst 4, 1) := by decide +kernel
theorem dX8_make_49 : decode cX8_make 49 = .ok (.isub, 1) := by decide +kernel
theorem dX8_make_50 : decode cX8_make 50 = .ok (.iconst 1, 1) := by decide +kernel
theorem dX8_make_51 : decode cX8_make 51 = .ok (.iastore, 1) := by decide +kernel
theorem dX8_make_52 : decode cX8_make 52 = .ok (.return_, 1) := by decide +kernel
theorem dX8_begin_0 : decode cX8_begin 0 = .ok (.iload_n 1, 1) := by decide +kernel
theorem dX8_begin_1 : decode cX8_begin 1 = .ok (.i2l, 1) := by decide +kernel
theorem dX8_begin_2 : decode cX8_begin 2 = .ok (.iload_n 2, 1) := by decide +kernel
theorem dX8_begin_3 : decode cX8_begin 3 = .ok (.i2l, 1) := by decide +kernel
theorem dX8_begin_4 : decode cX8_begin 4 = .ok (.iconst 4, 1) := by decide +kernel
theorem dX8_begin_5 : decode cX8_begin 5 = .ok (.invokestatic 95, 3) := by decide +kernel
theorem dX8_begin_8 : decode cX8_begin 8 = .ok (.ifCond .eq 15, 3) := by decide +kernel
theorem dX8_begin_11 : decode cX8_begin 11 = .ok (.iload_n 3, 1) := by decide +kernel
theorem dX8_begin_12 : decode cX8_begin 12 = .ok (.i2l, 1) := by decide +kernel
theorem dX8_begin_13 : decode cX8_begin 13 = .ok (.iload 4, 2) := by decide +kernel
theorem dX8_begin_15 : decode cX8_begin 15 = .ok (.i2l, 1) := by decide +kernel
theorem dX8_begin_16 : decode cX8_begin 16 = .ok (.iconst 1, 1) := by decide +kernel
theorem dX8_begin_17 : decode cX8_begin 17 = .ok (.invokestatic 95, 3) := by decide +kernel
theorem dX8_begin_20 : decode cX8_begin 20 = .ok (.ifCond .ne 5, 3) := by decide +kernel
theorem dX8_begin_23 : decode cX8_begin 23 = .ok (.iconst (-1), 1) := by decide +kernel
theorem dX8_begin_24 : decode cX8_begin 24 = .ok (.ireturn, 1) := by decide +kernel
theorem dX8_begin_25 : decode cX8_begin 25 = .ok (.aload_n 0, 1) := by decide +kernel
theorem dX8_begin_26 : decode cX8_begin 26 = .ok (.getfield 99, 3) := by decide +kernel
theorem dX8_begin_29 : decode cX8_begin 29 = .ok (.ifCond .eq 6, 3) := by decide +kernel
theorem dX8_begin_32 : decode cX8_begin 32 = .ok (.bipush (-2), 2) := by decide +kernel
theorem dX8_begin_34 : decode cX8_begin 34 = .ok (.ireturn, 1) := by decide +kernel
theorem dX8_begin_35 : decode cX8_begin 35 = .ok (.aload_n 0, 1) := by decide +kernel
theorem dX8_begin_36 : decode cX8_begin 36 = .ok (.iconst 1, 1) := by decide +kernel
theorem dX8_begin_37 : decode cX8_begin 37 = .ok (.putfield 99, 3) := by decide +kernel
theorem dX8_begin_40 : decode cX8_begin 40 = .ok (.aload_n 0, 1) := by decide +kernel
theorem dX8_begin_41 : decode cX8_begin 41 = .ok (.getfield 29, 3) := by decide +kernel
theorem dX8_begin_44 : decode cX8_begin 44 = .ok (.iconst 0, 1) := by decide +kernel
theorem dX8_begin_45 : decode cX8_begin 45 = .ok (.invokestatic 102, 3) := by decide +kernel
theorem dX8_begin_48 : decode cX8_begin 48 = .ok (.aload_n 0, 1) := by decide +kernel
theorem dX8_begin_49 : decode cX8_begin 49 = .ok (.iconst 0, 1) := by decide +kernel
theorem dX8_begin_50 : decode cX8_begin 50 = .ok (.iload_n 1, 1) := by decide +kernel
theorem dX8_begin_51 : decode cX8_begin 51 = .ok (.i2l, 1) := by decide +kernel
theorem dX8_begin_52 : decode cX8_begin 52 = .ok (.iload_n 2, 1) := by decide +kernel
theorem dX8_begin_53 : decode cX8_begin 53 = .ok (.i2l, 1) := by decide +kernel
theorem dX8_begin_54 : decode cX8_begin 54 = .ok (.invokevirtual 108, 3) := by decide +kernel
theorem dX8_begin_57 : decode cX8_begin 57 = .ok (.aload_n 0, 1) := by decide +kernel
theorem dX8_begin_58 : decode cX8_begin 58 = .ok (.iconst 4, 1) := by decide +kernel
theorem dX8_begin_59 : decode cX8_begin 59 = .ok (.iload_n 3, 1) := by decide +kernel
theorem dX8_begin_60 : decode cX8_begin 60 = .ok (.i2l, 1) := by decide +kernel
theorem dX8_begin_61 : decode cX8_begin 61 = .ok (.iload 4, 2) := by decide +kernel
theorem dX8_begin_63 : decode cX8_begin 63 = .ok (.i2l, 1) := by decide +kernel
theorem dX8_begin_64 : decode cX8_begin 64 = .ok (.invokevirtual 108, 3) := by decide +kernel
theorem dX8_begin_67 : decode cX8_begin 67 = .ok (.aload_n 0, 1) := by decide +kernel
theorem dX8_begin_68 : decode cX8_begin 68 = .ok (.getfield 48, 3) := by decide +kernel
theorem dX8_begin_71 : decode cX8_begin 71 = .ok (.iconst 0, 1) := by decide +kernel
theorem dX8_begin_72 : decode cX8_begin 72 = .ok (.iconst 0, 1) := by decide +kernel
theorem dX8_begin_73 : decode cX8_begin 73 = .ok (.iastore, 1) := by decide +kernel
theorem dX8_begin_74 : decode cX8_begin 74 = .ok (.aload_n 0, 1) := by decide +kernel
theorem dX8_begin_75 : decode cX8_begin 75 = .ok (.getfield 33, 3) := by decide +kernel
theorem dX8_begin_78 : decode cX8_begin 78 = .ok (.iconst 0, 1) := by decide +kernel
theorem dX8_begin_79 : decode cX8_begin 79 = .ok (.iconst 1, 1) := by decide +kernel
theorem dX8_begin_80 : decode cX8_begin 80 = .ok (.bastore, 1) := by decide +kernel
theorem dX8_begin_81 : decode cX8_begin 81 = .ok (.aload_n 0, 1) := by decide +kernel
theorem dX8_begin_82 : decode cX8_begin 82 = .ok (.iconst 0, 1) := by decide +kernel
theorem dX8_begin_83 : decode cX8_begin 83 = .ok (.putfield 112, 3) := by decide +kernel
theorem dX8_begin_86 : decode cX8_begin 86 = .ok (.aload_n 0, 1) := by decide +kernel
theorem dX8_begin_87 : decode cX8_begin 87 = .ok (.iconst 0, 1) := by decide +kernel
theorem dX8_begin_88 : decode cX8_begin 88 = .ok (.putfield 115, 3) := by decide +kernel
theorem dX8_begin_91 : decode cX8_begin 91 = .ok (.iconst 0, 1) := by decide +kernel
theorem dX8_begin_92 : decode cX8_begin 92 = .ok (.ireturn, 1) := by decide +kernel
theorem dX8_stop_0 : decode cX8_stop 0 = .ok (.aload_n 0, 1) := by decide +kernel
theorem dX8_stop_1 : decode cX8_stop 1 = .ok (.getfield 99, 3) := by decide +kernel
theorem dX8_stop_4 : decode cX8_stop 4 = .ok (.ifCond .ne 6, 3) := by decide +kernel
theorem dX8_stop_7 : decode cX8_stop 7 = .ok (.bipush (-3), 2) := by decide +kernel
theorem dX8_stop_9 : decode cX8_stop 9 = .ok (.ireturn, 1) := by decide +kernel
theorem dX8_stop_10 : decode cX8_stop 10 = .ok (.aload_n 0, 1) := by decide +kernel
theorem dX8_stop_11 : decode cX8_stop 11 = .ok (.getfield 66, 3) := by decide +kernel
theorem dX8_stop_14 : decode cX8_stop 14 = .ok (.istore_n 2, 1) := by decide +kernel
theorem dX8_stop_15 : decode cX8_stop 15 = .ok (.iload_n 1, 1) := by decide +kernel
theorem dX8_stop_16 : decode cX8_stop 16 = .ok (.ifCond .eq 11, 3) := by decide +kernel
theorem dX8_stop_19 : decode cX8_stop 19 = .ok (.aload_n 0, 1) := by decide +kernel
theorem dX8_stop_20 : decode cX8_stop 20 = .ok (.iconst 0, 1) := by decide +kernel
theorem dX8_stop_21 : decode cX8_stop 21 = .ok (.putfield 66, 3) := by decide +kernel
theorem dX8_stop_24 : decode cX8_stop 24 = .ok (.goto 7, 3) := by decide +kernel
theorem dX8_stop_27 : decode cX8_stop 27 = .ok (.aload_n 0, 1) := by decide +kernel
theorem dX8_stop_28 : decode cX8_stop 28 = .ok (.invokevirtual 118, 3) := by decide +kernel
theorem dX8_stop_31 : decode cX8_stop 31 = .ok (.aload_n 0, 1) := by decide +kernel
theorem dX8_stop_32 : decode cX8_stop 32 = .ok (.iconst 0, 1) := by decide +kernel
theorem dX8_stop_33 : decode cX8_stop 33 = .ok (.putfield 99, 3) := by decide +kernel
theorem dX8_stop_36 : decode cX8_stop 36 = .ok (.aload_n 0, 1) := by decide +kernel
theorem dX8_stop_37 : decode cX8_stop 37 = .ok (.getfield 29, 3) := by decide +kernel
theorem dX8_stop_40 : decode cX8_stop 40 = .ok (.iconst 0, 1) := by decide +kernel
theorem dX8_stop_41 : decode cX8_stop 41 = .ok (.invokestatic 102, 3) := by decide +kernel
theorem dX8_stop_44 : decode cX8_stop 44 = .ok (.iload_n 2, 1) := by decide +kernel
theorem dX8_stop_45 : decode cX8_stop 45 = .ok (.ireturn, 1) := by decide +kernel
theorem dX8_many_0 : decode cX8_many 0 = .ok (.aload_n 0, 1) := by decide +kernel
theorem dX8_many_1 : decode cX8_many 1 = .ok (.getfield 45, 3) := by decide +kernel
theorem dX8_many_4 : decode cX8_many 4 = .ok (.iload_n 1, 1) := by decide +kernel
theorem dX8_many_5 : decode cX8_many 5 = .ok (.iaload, 1) := by decide +kernel
theorem dX8_many_6 : decode cX8_many 6 = .ok (.aload_n 0, 1) := by decide +kernel
theorem dX8_many_7 : decode cX8_many 7 = .ok (.getfield 42, 3) := by decide +kernel
theorem dX8_many_10 : decode cX8_many 10 = .ok (.iload_n 1, 1) := by decide +kernel
theorem dX8_many_11 : decode cX8_many 11 = .ok (.iaload, 1) := by decide +kernel
theorem dX8_many_12 : decode cX8_many 12 = .ok (.isub, 1) := by decide +kernel
theorem dX8_many_13 : decode cX8_many 13 = .ok (.aload_n 0, 1) := by decide +kernel
theorem dX8_many_14 : decode cX8_many 14 = .ok (.getfield 39, 3) := by decide +kernel
theorem dX8_many_17 : decode cX8_many 17 = .ok (.iload_n 1, 1) := by decide +kernel
theorem dX8_many_18 : decode cX8_many 18 = .ok (.iaload, 1) := by decide +kernel
theorem dX8_many_19 : decode cX8_many 19 = .ok (.iadd, 1) := by decide +kernel
theorem dX8_many_20 : decode cX8_many 20 = .ok (.aload_n 0, 1) := by decide +kernel
theorem dX8_many_21 : decode cX8_many 21 = .ok (.getfield 39, 3) := by decide +kernel
theorem dX8_many_24 : decode cX8_many 24 = .ok (.iload_n 1, 1) := by decide +kernel
theorem dX8_many_25 : decode cX8_many 25 = .ok (.iaload, 1) := by decide +kernel
theorem dX8_many_26 : decode cX8_many 26 = .ok (.irem, 1) := by decide +kernel
theorem dX8_many_27 : decode cX8_many 27 = .ok (.ireturn, 1) := by decide +kernel
theorem dX8_ring_0 : decode cX8_ring 0 = .ok (.aload_n 0, 1) := by decide +kernel
theorem dX8_ring_1 : decode cX8_ring 1 = .ok (.getfield 99, 3) := by decide +kernel
theorem dX8_ring_4 : decode cX8_ring 4 = .ok (.ifCond .ne 6, 3) := by decide +kernel
theorem dX8_ring_7 : decode cX8_ring 7 = .ok (.bipush (-3), 2) := by decide +kernel
theorem dX8_ring_9 : decode cX8_ring 9 = .ok (.ireturn, 1) := by decide +kernel
theorem dX8_ring_10 : decode cX8_ring 10 = .ok (.iload_n 1, 1) := by decide +kernel
theorem dX8_ring_11 : decode cX8_ring 11 = .ok (.i2l, 1) := by decide +kernel
theorem dX8_ring_12 : decode cX8_ring 12 = .ok (.lconst 0, 1) := by decide +kernel
theorem dX8_ring_13 : decode cX8_ring 13 = .ok (.ldc2_w 121, 3) := by decide +kernel
theorem dX8_ring_16 : decode cX8_ring 16 = .ok (.invokestatic 62, 3) := by decide +kernel
theorem dX8_ring_19 : decode cX8_ring 19 = .ok (.ifCond .eq 30, 3) := by decide +kernel
theorem dX8_ring_22 : decode cX8_ring 22 = .ok (.aload_n 0, 1) := by decide +kernel
theorem dX8_ring_23 : decode cX8_ring 23 = .ok (.getfield 29, 3) := by decide +kernel
theorem dX8_ring_26 : decode cX8_ring 26 = .ok (.iload_n 1, 1) := by decide +kernel
theorem dX8_ring_27 : decode cX8_ring 27 = .ok (.baload, 1) := by decide +kernel
theorem dX8_ring_28 : decode cX8_ring 28 = .ok (.ifCond .eq 21, 3) := by decide +kernel
theorem dX8_ring_31 : decode cX8_ring 31 = .ok (.iload_n 2, 1) := by decide +kernel
theorem dX8_ring_32 : decode cX8_ring 32 = .ok (.i2l, 1) := by decide +kernel
theorem dX8_ring_33 : decode cX8_ring 33 = .ok (.lconst 0, 1) := by decide +kernel
theorem dX8_ring_34 : decode cX8_ring 34 = .ok (.aload_n 0, 1) := by decide +kernel
theorem dX8_ring_35 : decode cX8_ring 35 = .ok (.getfield 39, 3) := by decide +kernel
theorem dX8_ring_38 : decode cX8_ring 38 = .ok (.iload_n 1, 1) := by decide +kernel
theorem dX8_ring_39 : decode cX8_ring 39 = .ok (.iaload, 1) := by decide +kernel
theorem dX8_ring_40 : decode cX8_ring 40 = .ok (.iconst 1, 1) := by decide +kernel
theorem dX8_ring_41 : decode cX8_ring 41 = .ok (.isub, 1) := by decide +kernel
theorem dX8_ring_42 : decode cX8_ring 42 = .ok (.i2l, 1) := by decide +kernel
theorem dX8_ring_43 : decode cX8_ring 43 = .ok (.invokestatic 62, 3) := by decide +kernel
theorem dX8_ring_46 : decode cX8_ring 46 = .ok (.ifCond .ne 5, 3) := by decide +kernel
theorem dX8_ring_49 : decode cX8_ring 49 = .ok (.iconst (-1), 1) := by decide +kernel
theorem dX8_ring_50 : decode cX8_ring 50 = .ok (.ireturn, 1) := by decide +kernel
theorem dX8_ring_51 : decode cX8_ring 51 = .ok (.aload_n 0, 1) := by decide +kernel
theorem dX8_ring_52 : decode cX8_ring 52 = .ok (.getfield 45, 3) := by decide +kernel
theorem dX8_ring_55 : decode cX8_ring 55 = .ok (.iload_n 1, 1) := by decide +kernel
theorem dX8_ring_56 : decode cX8_ring 56 = .ok (.iload_n 2, 1) := by decide +kernel
theorem dX8_ring_57 : decode cX8_ring 57 = .ok (.iastore, 1) := by decide +kernel
theorem dX8_ring_58 : decode cX8_ring 58 = .ok (.aload_n 0, 1) := by decide +kernel
theorem dX8_ring_59 : decode cX8_ring 59 = .ok (.iload_n 1, 1) := by decide +kernel
theorem dX8_ring_60 : decode cX8_ring 60 = .ok (.invokevirtual 123, 3) := by decide +kernel
theorem dX8_ring_63 : decode cX8_ring 63 = .ok (.ireturn, 1) := by decide +kernel
theorem dX8_seen_0 : decode cX8_seen 0 = .ok (.aload_n 0, 1) := by decide +kernel
theorem dX8_seen_1 : decode cX8_seen 1 = .ok (.getfield 99, 3) := by decide +kernel
theorem dX8_seen_4 : decode cX8_seen 4 = .ok (.ifCond .ne 6, 3) := by decide +kernel
theorem dX8_seen_7 : decode cX8_seen 7 = .ok (.bipush (-3), 2) := by decide +kernel
theorem dX8_seen_9 : decode cX8_seen 9 = .ok (.ireturn, 1) := by decide +kernel
theorem dX8_seen_10 : decode cX8_seen 10 = .ok (.iconst 4, 1) := by decide +kernel
theorem dX8_seen_11 : decode cX8_seen 11 = .ok (.iload_n 1, 1) := by decide +kernel
theorem dX8_seen_12 : decode cX8_seen 12 = .ok (.iadd, 1) := by decide +kernel
theorem dX8_seen_13 : decode cX8_seen 13 = .ok (.istore_n 3, 1) := by decide +kernel
theorem dX8_seen_14 : decode cX8_seen 14 = .ok (.iload_n 1, 1) := by decide +kernel
theorem dX8_seen_15 : decode cX8_seen 15 = .ok (.i2l, 1) := by decide +kernel
theorem dX8_seen_16 : decode cX8_seen 16 = .ok (.lconst 0, 1) := by decide +kernel
theorem dX8_seen_17 : decode cX8_seen 17 = .ok (.ldc2_w 121, 3) := by decide +kernel
theorem dX8_seen_20 : decode cX8_seen 20 = .ok (.invokestatic 62, 3) := by decide +kernel
theorem dX8_seen_23 : decode cX8_seen 23 = .ok (.ifCond .eq 60, 3) := by decide +kernel
theorem dX8_seen_26 : decode cX8_seen 26 = .ok (.aload_n 0, 1) := by decide +kernel
theorem dX8_seen_27 : decode cX8_seen 27 = .ok (.getfield 29, 3) := by decide +kernel
theorem dX8_seen_30 : decode cX8_seen 30 = .ok (.iload_n 3, 1) := by decide +kernel
theorem dX8_seen_31 : decode cX8_seen 31 = .ok (.baload, 1) := by decide +kernel
theorem dX8_seen_32 : decode cX8_seen 32 = .ok (.ifCond .eq 51, 3) := by decide +kernel
theorem dX8_seen_35 : decode cX8_seen 35 = .ok (.iload_n 2, 1) := by decide +kernel
theorem dX8_seen_36 : decode cX8_seen 36 = .ok (.i2l, 1) := by decide +kernel
theorem dX8_seen_37 : decode cX8_seen 37 = .ok (.lconst 0, 1) := by decide +kernel
theorem dX8_seen_38 : decode cX8_seen 38 = .ok (.aload_n 0, 1) := by decide +kernel
theorem dX8_seen_39 : decode cX8_seen 39 = .ok (.getfield 39, 3) := by decide +kernel
theorem dX8_seen_42 : decode cX8_seen 42 = .ok (.iload_n 3, 1) := by decide +kernel
theorem dX8_seen_43 : decode cX8_seen 43 = .ok (.iaload, 1) := by decide +kernel
theorem dX8_seen_44 : decode cX8_seen 44 = .ok (.iconst 1, 1) := by decide +kernel
theorem dX8_seen_45 : decode cX8_seen 45 = .ok (.isub, 1) := by decide +kernel
theorem dX8_seen_46 : decode cX8_seen 46 = .ok (.i2l, 1) := by decide +kernel
theorem dX8_seen_47 : decode cX8_seen 47 = .ok (.invokestatic 62, 3) := by decide +kernel
theorem dX8_seen_50 : decode cX8_seen 50 = .ok (.ifCond .eq 33, 3) := by decide +kernel
theorem dX8_seen_53 : decode cX8_seen 53 = .ok (.iload_n 2, 1) := by decide +kernel
theorem dX8_seen_54 : decode cX8_seen 54 = .ok (.aload_n 0, 1) := by decide +kernel
theorem dX8_seen_55 : decode cX8_seen 55 = .ok (.getfield 42, 3) := by decide +kernel
theorem dX8_seen_58 : decode cX8_seen 58 = .ok (.iload_n 3, 1) := by decide +kernel
theorem dX8_seen_59 : decode cX8_seen 59 = .ok (.iaload, 1) := by decide +kernel
theorem dX8_seen_60 : decode cX8_seen 60 = .ok (.isub, 1) := by decide +kernel
theorem dX8_seen_61 : decode cX8_seen 61 = .ok (.aload_n 0, 1) := by decide +kernel
theorem dX8_seen_62 : decode cX8_seen 62 = .ok (.getfield 39, 3) := by decide +kernel
theorem dX8_seen_65 : decode cX8_seen 65 = .ok (.iload_n 3, 1) := by decide +kernel
theorem dX8_seen_66 : decode cX8_seen 66 = .ok (.iaload, 1) := by decide +kernel
theorem dX8_seen_67 : decode cX8_seen 67 = .ok (.iadd, 1) := by decide +kernel
theorem dX8_seen_68 : decode cX8_seen 68 = .ok (.aload_n 0, 1) := by decide +kernel
theorem dX8_seen_69 : decode cX8_seen 69 = .ok (.getfield 39, 3) := by decide +kernel
theorem dX8_seen_72 : decode cX8_seen 72 = .ok (.iload_n 3, 1) := by decide +kernel
theorem dX8_seen_73 : decode cX8_seen 73 = .ok (.iaload, 1) := by decide +kernel
theorem dX8_seen_74 : decode cX8_seen 74 = .ok (.irem, 1) := by decide +kernel
theorem dX8_seen_75 : decode cX8_seen 75 = .ok (.aload_n 0, 1) := by decide +kernel
theorem dX8_seen_76 : decode cX8_seen 76 = .ok (.iload_n 3, 1) := by decide +kernel
theorem dX8_seen_77 : decode cX8_seen 77 = .ok (.invokevirtual 123, 3) := by decide +kernel
theorem dX8_seen_80 : decode cX8_seen 80 = .ok (.if_icmp .le 5, 3) := by decide +kernel
theorem dX8_seen_83 : decode cX8_seen 83 = .ok (.iconst (-1), 1) := by decide +kernel
theorem dX8_seen_84 : decode cX8_seen 84 = .ok (.ireturn, 1) := by decide +kernel
theorem dX8_seen_85 : decode cX8_seen 85 = .ok (.aload_n 0, 1) := by decide +kernel
theorem dX8_seen_86 : decode cX8_seen 86 = .ok (.getfield 42, 3) := by decide +kernel
theorem dX8_seen_89 : decode cX8_seen 89 = .ok (.iload_n 3, 1) := by decide +kernel
theorem dX8_seen_90 : decode cX8_seen 90 = .ok (.iload_n 2, 1) := by decide +kernel
theorem dX8_seen_91 : decode cX8_seen 91 = .ok (.iastore, 1) := by decide +kernel
theorem dX8_seen_92 : decode cX8_seen 92 = .ok (.aload_n 0, 1) := by decide +kernel
theorem dX8_seen_93 : decode cX8_seen 93 = .ok (.iload_n 3, 1) := by decide +kernel
theorem dX8_seen_94 : decode cX8_seen 94 = .ok (.invokevirtual 123, 3) := by decide +kernel
theorem dX8_seen_97 : decode cX8_seen 97 = .ok (.ireturn, 1) := by decide +kernel
theorem dX8_isReady_0 : decode cX8_isReady 0 = .ok (.iconst 4, 1) := by decide +kernel
theorem dX8_isReady_1 : decode cX8_isReady 1 = .ok (.aload_n 0, 1) := by decide +kernel
theorem dX8_isReady_2 : decode cX8_isReady 2 = .ok (.getfield 48, 3) := by decide +kernel
theorem dX8_isReady_5 : decode cX8_isReady 5 = .ok (.iload_n 1, 1) := by decide +kernel
theorem dX8_isReady_6 : decode cX8_isReady 6 = .ok (.iaload, 1) := by decide +kernel
theorem dX8_isReady_7 : decode cX8_isReady 7 = .ok (.iadd, 1) := by decide +kernel
theorem dX8_isReady_8 : decode cX8_isReady 8 = .ok (.istore_n 2, 1) := by decide +kernel
theorem dX8_isReady_9 : decode cX8_isReady 9 = .ok (.aload_n 0, 1) := by decide +kernel
theorem dX8_isReady_10 : decode cX8_isReady 10 = .ok (.getfield 29, 3) := by decide +kernel
theorem dX8_isReady_13 : decode cX8_isReady 13 = .ok (.iload_n 1, 1) := by decide +kernel
theorem dX8_isReady_14 : decode cX8_isReady 14 = .ok (.baload, 1) := by decide +kernel
theorem dX8_isReady_15 : decode cX8_isReady 15 = .ok (.ifCond .eq 39, 3) := by decide +kernel
theorem dX8_isReady_18 : decode cX8_isReady 18 = .ok (.aload_n 0, 1) := by decide +kernel
theorem dX8_isReady_19 : decode cX8_isReady 19 = .ok (.iload_n 1, 1) := by decide +kernel
theorem dX8_isReady_20 : decode cX8_isReady 20 = .ok (.invokevirtual 123, 3) := by decide +kernel
theorem dX8_isReady_23 : decode cX8_isReady 23 = .ok (.ifCond .le 31, 3) := by decide +kernel
theorem dX8_isReady_26 : decode cX8_isReady 26 = .ok (.aload_n 0, 1) := by decide +kernel
theorem dX8_isReady_27 : decode cX8_isReady 27 = .ok (.getfield 45, 3) := by decide +kernel
theorem dX8_isReady_30 : decode cX8_isReady 30 = .ok (.iload_n 2, 1) := by decide +kernel
theorem dX8_isReady_31 : decode cX8_isReady 31 = .ok (.iaload, 1) := by decide +kernel
theorem dX8_isReady_32 : decode cX8_isReady 32 = .ok (.iconst 1, 1) := by decide +kernel
theorem dX8_isReady_33 : decode cX8_isReady 33 = .ok (.iadd, 1) := by decide +kernel
theorem dX8_isReady_34 : decode cX8_isReady 34 = .ok (.aload_n 0, 1) := by decide +kernel
theorem dX8_isReady_35 : decode cX8_isReady 35 = .ok (.getfield 39, 3) := by decide +kernel
theorem dX8_isReady_38 : decode cX8_isReady 38 = .ok (.iload_n 2, 1) := by decide +kernel
theorem dX8_isReady_39 : decode cX8_isReady 39 = .ok (.iaload, 1) := by decide +kernel
theorem dX8_isReady_40 : decode cX8_isReady 40 = .ok (.irem, 1) := by decide +kernel
theorem dX8_isReady_41 : decode cX8_isReady 41 = .ok (.aload_n 0, 1) := by decide +kernel
theorem dX8_isReady_42 : decode cX8_isReady 42 = .ok (.getfield 42, 3) := by decide +kernel
theorem dX8_isReady_45 : decode cX8_isReady 45 = .ok (.iload_n 2, 1) := by decide +kernel
theorem dX8_isReady_46 : decode cX8_isReady 46 = .ok (.iaload, 1) := by decide +kernel
theorem dX8_isReady_47 : decode cX8_isReady 47 = .ok (.if_icmp .eq 7, 3) := by decide +kernel
theorem dX8_isReady_50 : decode cX8_isReady 50 = .ok (.iconst 1, 1) := by decide +kernel
theorem dX8_isReady_51 : decode cX8_isReady 51 = .ok (.goto 4, 3) := by decide +kernel
theorem dX8_isReady_54 : decode cX8_isReady 54 = .ok (.iconst 0, 1) := by decide +kernel
theorem dX8_isReady_55 : decode cX8_isReady 55 = .ok (.ireturn, 1) := by decide +kernel
theorem dX8_run_0 : decode cX8_run 0 = .ok (.aload_n 0, 1) := by decide +kernel
theorem dX8_run_1 : decode cX8_run 1 = .ok (.getfield 99, 3) := by decide +kernel
theorem dX8_run_4 : decode cX8_run 4 = .ok (.ifCond .ne 6, 3) := by decide +kernel
theorem dX8_run_7 : decode cX8_run 7 = .ok (.bipush (-3), 2) := by decide +kernel
theorem dX8_run_9 : decode cX8_run 9 = .ok (.ireturn, 1) := by decide +kernel
theorem dX8_run_10 : decode cX8_run 10 = .ok (.iload_n 1, 1) := by decide +kernel
theorem dX8_run_11 : decode cX8_run 11 = .ok (.i2l, 1) := by decide +kernel
theorem dX8_run_12 : decode cX8_run 12 = .ok (.lconst 0, 1) := by decide +kernel
theorem dX8_run_13 : decode cX8_run 13 = .ok (.ldc2_w 126, 3) := by decide +kernel
theorem dX8_run_16 : decode cX8_run 16 = .ok (.invokestatic 62, 3) := by decide +kernel
theorem dX8_run_19 : decode cX8_run 19 = .ok (.ifCond .ne 5, 3) := by decide +kernel
theorem dX8_run_22 : decode cX8_run 22 = .ok (.iconst (-1), 1) := by decide +kernel
theorem dX8_run_23 : decode cX8_run 23 = .ok (.ireturn, 1) := by decide +kernel
theorem dX8_run_24 : decode cX8_run 24 = .ok (.iconst 0, 1) := by decide +kernel
theorem dX8_run_25 : decode cX8_run 25 = .ok (.istore_n 2, 1) := by decide +kernel
theorem dX8_run_26 : decode cX8_run 26 = .ok (.iload_n 2, 1) := by decide +kernel
theorem dX8_run_27 : decode cX8_run 27 = .ok (.iload_n 1, 1) := by decide +kernel
theorem dX8_run_28 : decode cX8_run 28 = .ok (.if_icmp .ge 70, 3) := by decide +kernel
theorem dX8_run_31 : decode cX8_run 31 = .ok (.iconst 0, 1) := by decide +kernel
theorem dX8_run_32 : decode cX8_run 32 = .ok (.istore_n 3, 1) := by decide +kernel
theorem dX8_run_33 : decode cX8_run 33 = .ok (.iload_n 3, 1) := by decide +kernel
theorem dX8_run_34 : decode cX8_run 34 = .ok (.iconst 4, 1) := by decide +kernel
theorem dX8_run_35 : decode cX8_run 35 = .ok (.if_icmp .ge 24, 3) := by decide +kernel
theorem dX8_run_38 : decode cX8_run 38 = .ok (.aload_n 0, 1) := by decide +kernel
theorem dX8_run_39 : decode cX8_run 39 = .ok (.aload_n 0, 1) := by decide +kernel
theorem dX8_run_40 : decode cX8_run 40 = .ok (.getfield 115, 3) := by decide +kernel
theorem dX8_run_43 : decode cX8_run 43 = .ok (.iload_n 3, 1) := by decide +kernel
theorem dX8_run_44 : decode cX8_run 44 = .ok (.iadd, 1) := by decide +kernel
theorem dX8_run_45 : decode cX8_run 45 = .ok (.iconst 4, 1) := by decide +kernel
theorem dX8_run_46 : decode cX8_run 46 = .ok (.irem, 1) := by decide +kernel
theorem dX8_run_47 : decode cX8_run 47 = .ok (.invokevirtual 128, 3) := by decide +kernel
theorem dX8_run_50 : decode cX8_run 50 = .ok (.ifCond .ne 9, 3) := by decide +kernel
theorem dX8_run_53 : decode cX8_run 53 = .ok (.iinc 3 1, 3) := by decide +kernel
theorem dX8_run_56 : decode cX8_run 56 = .ok (.goto (-23), 3) := by decide +kernel
theorem dX8_run_59 : decode cX8_run 59 = .ok (.iload_n 3, 1) := by decide +kernel
theorem dX8_run_60 : decode cX8_run 60 = .ok (.iconst 4, 1) := by decide +kernel
theorem dX8_run_61 : decode cX8_run 61 = .ok (.if_icmp .ne 5, 3) := by decide +kernel
theorem dX8_run_64 : decode cX8_run 64 = .ok (.iload_n 2, 1) := by decide +kernel
theorem dX8_run_65 : decode cX8_run 65 = .ok (.ireturn, 1) := by decide +kernel
theorem dX8_run_66 : decode cX8_run 66 = .ok (.aload_n 0, 1) := by decide +kernel
theorem dX8_run_67 : decode cX8_run 67 = .ok (.getfield 115, 3) := by decide +kernel
theorem dX8_run_70 : decode cX8_run 70 = .ok (.iload_n 3, 1) := by decide +kernel
theorem dX8_run_71 : decode cX8_run 71 = .ok (.iadd, 1) := by decide +kernel
theorem dX8_run_72 : decode cX8_run 72 = .ok (.iconst 4, 1) := by decide +kernel
theorem dX8_run_73 : decode cX8_run 73 = .ok (.irem, 1) := by decide +kernel
theorem dX8_run_74 : decode cX8_run 74 = .ok (.istore 4, 2) := by decide +kernel
theorem dX8_run_76 : decode cX8_run 76 = .ok (.aload_n 0, 1) := by decide +kernel
theorem dX8_run_77 : decode cX8_run 77 = .ok (.iload 4, 2) := by decide +kernel
theorem dX8_run_79 : decode cX8_run 79 = .ok (.iconst 1, 1) := by decide +kernel
theorem dX8_run_80 : decode cX8_run 80 = .ok (.iadd, 1) := by decide +kernel
theorem dX8_run_81 : decode cX8_run 81 = .ok (.iconst 4, 1) := by decide +kernel
theorem dX8_run_82 : decode cX8_run 82 = .ok (.irem, 1) := by decide +kernel
theorem dX8_run_83 : decode cX8_run 83 = .ok (.putfield 115, 3) := by decide +kernel
theorem dX8_run_86 : decode cX8_run 86 = .ok (.aload_n 0, 1) := by decide +kernel
theorem dX8_run_87 : decode cX8_run 87 = .ok (.iload 4, 2) := by decide +kernel
theorem dX8_run_89 : decode cX8_run 89 = .ok (.invokevirtual 132, 3) := by decide +kernel
theorem dX8_run_92 : decode cX8_run 92 = .ok (.iinc 2 1, 3) := by decide +kernel
theorem dX8_run_95 : decode cX8_run 95 = .ok (.goto (-69), 3) := by decide +kernel
theorem dX8_run_98 : decode cX8_run 98 = .ok (.iload_n 1, 1) := by decide +kernel
theorem dX8_run_99 : decode cX8_run 99 = .ok (.ireturn, 1) := by decide +kernel
theorem dX8_command_0 : decode cX8_command 0 = .ok (.aload_n 0, 1) := by decide +kernel
theorem dX8_command_1 : decode cX8_command 1 = .ok (.getfield 36, 3) := by decide +kernel
theorem dX8_command_4 : decode cX8_command 4 = .ok (.iload_n 1, 1) := by decide +kernel
theorem dX8_command_5 : decode cX8_command 5 = .ok (.iaload, 1) := by decide +kernel
theorem dX8_command_6 : decode cX8_command 6 = .ok (.iconst 4, 1) := by decide +kernel
theorem dX8_command_7 : decode cX8_command 7 = .ok (.aload_n 0, 1) := by decide +kernel
theorem dX8_command_8 : decode cX8_command 8 = .ok (.getfield 42, 3) := by decide +kernel
theorem dX8_command_11 : decode cX8_command 11 = .ok (.iload_n 1, 1) := by decide +kernel
theorem dX8_command_12 : decode cX8_command 12 = .ok (.iaload, 1) := by decide +kernel
theorem dX8_command_13 : decode cX8_command 13 = .ok (.imul, 1) := by decide +kernel
theorem dX8_command_14 : decode cX8_command 14 = .ok (.iadd, 1) := by decide +kernel
theorem dX8_command_15 : decode cX8_command 15 = .ok (.istore_n 2, 1) := by decide +kernel
theorem dX8_command_16 : decode cX8_command 16 = .ok (.aload_n 0, 1) := by decide +kernel
theorem dX8_command_17 : decode cX8_command 17 = .ok (.getfield 9, 3) := by decide +kernel
theorem dX8_command_20 : decode cX8_command 20 = .ok (.iload_n 2, 1) := by decide +kernel
theorem dX8_command_21 : decode cX8_command 21 = .ok (.laload, 1) := by decide +kernel
theorem dX8_command_22 : decode cX8_command 22 = .ok (.lstore_n 3, 1) := by decide +kernel
theorem dX8_command_23 : decode cX8_command 23 = .ok (.aload_n 0, 1) := by decide +kernel
theorem dX8_command_24 : decode cX8_command 24 = .ok (.aload_n 0, 1) := by decide +kernel
theorem dX8_command_25 : decode cX8_command 25 = .ok (.getfield 9, 3) := by decide +kernel
theorem dX8_command_28 : decode cX8_command 28 = .ok (.iload_n 2, 1) := by decide +kernel
theorem dX8_command_29 : decode cX8_command 29 = .ok (.iconst 1, 1) := by decide +kernel
theorem dX8_command_30 : decode cX8_command 30 = .ok (.iadd, 1) := by decide +kernel
theorem dX8_command_31 : decode cX8_command 31 = .ok (.laload, 1) := by decide +kernel
theorem dX8_command_32 : decode cX8_command 32 = .ok (.putfield 136, 3) := by decide +kernel
theorem dX8_command_35 : decode cX8_command 35 = .ok (.aload_n 0, 1) := by decide +kernel
theorem dX8_command_36 : decode cX8_command 36 = .ok (.aload_n 0, 1) := by decide +kernel
theorem dX8_command_37 : decode cX8_command 37 = .ok (.getfield 9, 3) := by decide +kernel
theorem dX8_command_40 : decode cX8_command 40 = .ok (.iload_n 2, 1) := by decide +kernel
theorem dX8_command_41 : decode cX8_command 41 = .ok (.iconst 2, 1) := by decide +kernel
theorem dX8_command_42 : decode cX8_command 42 = .ok (.iadd, 1) := by decide +kernel
theorem dX8_command_43 : decode cX8_command 43 = .ok (.laload, 1) := by decide +kernel
theorem dX8_command_44 : decode cX8_command 44 = .ok (.putfield 139, 3) := by decide +kernel
theorem dX8_command_47 : decode cX8_command 47 = .ok (.aload_n 0, 1) := by decide +kernel
theorem dX8_command_48 : decode cX8_command 48 = .ok (.aload_n 0, 1) := by decide +kernel
theorem dX8_command_49 : decode cX8_command 49 = .ok (.getfield 9, 3) := by decide +kernel
theorem dX8_command_52 : decode cX8_command 52 = .ok (.iload_n 2, 1) := by decide +kernel
theorem dX8_command_53 : decode cX8_command 53 = .ok (.iconst 3, 1) := by decide +kernel
theorem dX8_command_54 : decode cX8_command 54 = .ok (.iadd, 1) := by decide +kernel
theorem dX8_command_55 : decode cX8_command 55 = .ok (.laload, 1) := by decide +kernel
theorem dX8_command_56 : decode cX8_command 56 = .ok (.putfield 142, 3) := by decide +kernel
theorem dX8_command_59 : decode cX8_command 59 = .ok (.aload_n 0, 1) := by decide +kernel
theorem dX8_command_60 : decode cX8_command 60 = .ok (.lload_n 3, 1) := by decide +kernel
theorem dX8_command_61 : decode cX8_command 61 = .ok (.ldc2_w 145, 3) := by decide +kernel
theorem dX8_command_64 : decode cX8_command 64 = .ok (.land, 1) := by decide +kernel
theorem dX8_command_65 : decode cX8_command 65 = .ok (.l2i, 1) := by decide +kernel
theorem dX8_command_66 : decode cX8_command 66 = .ok (.putfield 147, 3) := by decide +kernel
theorem dX8_command_69 : decode cX8_command 69 = .ok (.aload_n 0, 1) := by decide +kernel
theorem dX8_command_70 : decode cX8_command 70 = .ok (.lload_n 3, 1) := by decide +kernel
theorem dX8_command_71 : decode cX8_command 71 = .ok (.bipush 24, 2) := by decide +kernel
theorem dX8_command_73 : decode cX8_command 73 = .ok (.lshr, 1) := by decide +kernel
theorem dX8_command_74 : decode cX8_command 74 = .ok (.lconst 1, 1) := by decide +kernel
theorem dX8_command_75 : decode cX8_command 75 = .ok (.land, 1) := by decide +kernel
theorem dX8_command_76 : decode cX8_command 76 = .ok (.lconst 1, 1) := by decide +kernel
theorem dX8_command_77 : decode cX8_command 77 = .ok (.lcmp, 1) := by decide +kernel
theorem dX8_command_78 : decode cX8_command 78 = .ok (.ifCond .ne 7, 3) := by decide +kernel
theorem dX8_command_81 : decode cX8_command 81 = .ok (.iconst 1, 1) := by decide +kernel
theorem dX8_command_82 : decode cX8_command 82 = .ok (.goto 4, 3) := by decide +kernel
theorem dX8_command_85 : decode cX8_command 85 = .ok (.iconst 0, 1) := by decide +kernel
theorem dX8_command_86 : decode cX8_command 86 = .ok (.putfield 150, 3) := by decide +kernel
theorem dX8_command_89 : decode cX8_command 89 = .ok (.aload_n 0, 1) := by decide +kernel
theorem dX8_command_90 : decode cX8_command 90 = .ok (.lload_n 3, 1) := by decide +kernel
theorem dX8_command_91 : decode cX8_command 91 = .ok (.bipush 32, 2) := by decide +kernel
theorem dX8_command_93 : decode cX8_command 93 = .ok (.lshr, 1) := by decide +kernel
theorem dX8_command_94 : decode cX8_command 94 = .ok (.ldc2_w 145, 3) := by decide +kernel
theorem dX8_command_97 : decode cX8_command 97 = .ok (.land, 1) := by decide +kernel
theorem dX8_command_98 : decode cX8_command 98 = .ok (.l2i, 1) := by decide +kernel
theorem dX8_command_99 : decode cX8_command 99 = .ok (.iconst 1, 1) := by decide +kernel
theorem dX8_command_100 : decode cX8_command 100 = .ok (.iadd, 1) := by decide +kernel
theorem dX8_command_101 : decode cX8_command 101 = .ok (.putfield 153, 3) := by decide +kernel
theorem dX8_command_104 : decode cX8_command 104 = .ok (.aload_n 0, 1) := by decide +kernel
theorem dX8_command_105 : decode cX8_command 105 = .ok (.lconst 0, 1) := by decide +kernel
theorem dX8_command_106 : decode cX8_command 106 = .ok (.putfield 156, 3) := by decide +kernel
theorem dX8_command_109 : decode cX8_command 109 = .ok (.aload_n 0, 1) := by decide +kernel
theorem dX8_command_110 : decode cX8_command 110 = .ok (.getfield 42, 3) := by decide +kernel
theorem dX8_command_113 : decode cX8_command 113 = .ok (.iload_n 1, 1) := by decide +kernel
theorem dX8_command_114 : decode cX8_command 114 = .ok (.aload_n 0, 1) := by decide +kernel
theorem dX8_command_115 : decode cX8_command 115 = .ok (.getfield 42, 3) := by decide +kernel
theorem dX8_command_118 : decode cX8_command 118 = .ok (.iload_n 1, 1) := by decide +kernel
theorem dX8_command_119 : decode cX8_command 119 = .ok (.iaload, 1) := by decide +kernel
theorem dX8_command_120 : decode cX8_command 120 = .ok (.iconst 1, 1) := by decide +kernel
theorem dX8_command_121 : decode cX8_command 121 = .ok (.iadd, 1) := by decide +kernel
theorem dX8_command_122 : decode cX8_command 122 = .ok (.aload_n 0, 1) := by decide +kernel
theorem dX8_command_123 : decode cX8_command 123 = .ok (.getfield 39, 3) := by decide +kernel
theorem dX8_command_126 : decode cX8_command 126 = .ok (.iload_n 1, 1) := by decide +kernel
theorem dX8_command_127 : decode cX8_command 127 = .ok (.iaload, 1) := by decide +kernel
theorem dX8_command_128 : decode cX8_command 128 = .ok (.irem, 1) := by decide +kernel
theorem dX8_command_129 : decode cX8_command 129 = .ok (.iastore, 1) := by decide +kernel
theorem dX8_command_130 : decode cX8_command 130 = .ok (.iload_n 1, 1) := by decide +kernel
theorem dX8_command_131 : decode cX8_command 131 = .ok (.ifCond .ne 10, 3) := by decide +kernel
theorem dX8_command_134 : decode cX8_command 134 = .ok (.aload_n 0, 1) := by decide +kernel
theorem dX8_command_135 : decode cX8_command 135 = .ok (.invokevirtual 159, 3) := by decide +kernel
theorem dX8_command_138 : decode cX8_command 138 = .ok (.goto 7, 3) := by decide +kernel
theorem dX8_command_141 : decode cX8_command 141 = .ok (.aload_n 0, 1) := by decide +kernel
theorem dX8_command_142 : decode cX8_command 142 = .ok (.invokevirtual 163, 3) := by decide +kernel
theorem dX8_command_145 : decode cX8_command 145 = .ok (.istore 5, 2) := by decide +kernel
theorem dX8_command_147 : decode cX8_command 147 = .ok (.aload_n 0, 1) := by decide +kernel
theorem dX8_command_148 : decode cX8_command 148 = .ok (.getfield 48, 3) := by decide +kernel
theorem dX8_command_151 : decode cX8_command 151 = .ok (.iload_n 1, 1) := by decide +kernel
theorem dX8_command_152 : decode cX8_command 152 = .ok (.iaload, 1) := by decide +kernel
theorem dX8_command_153 : decode cX8_command 153 = .ok (.istore 6, 2) := by decide +kernel
theorem dX8_command_155 : decode cX8_command 155 = .ok (.iconst 4, 1) := by decide +kernel
theorem dX8_command_156 : decode cX8_command 156 = .ok (.iload 6, 2) := by decide +kernel
theorem dX8_command_158 : decode cX8_command 158 = .ok (.iadd, 1) := by decide +kernel
theorem dX8_command_159 : decode cX8_command 159 = .ok (.istore 7, 2) := by decide +kernel
theorem dX8_command_161 : decode cX8_command 161 = .ok (.iload 5, 2) := by decide +kernel
theorem dX8_command_163 : decode cX8_command 163 = .ok (.ifCond .ne 16, 3) := by decide +kernel
theorem dX8_command_166 : decode cX8_command 166 = .ok (.aload_n 0, 1) := by decide +kernel
theorem dX8_command_167 : decode cX8_command 167 = .ok (.dup, 1) := by decide +kernel
theorem dX8_command_168 : decode cX8_command 168 = .ok (.getfield 166, 3) := by decide +kernel
theorem dX8_command_171 : decode cX8_command 171 = .ok (.lconst 1, 1) := by decide +kernel
theorem dX8_command_172 : decode cX8_command 172 = .ok (.ladd, 1) := by decide +kernel
theorem dX8_command_173 : decode cX8_command 173 = .ok (.putfield 166, 3) := by decide +kernel
theorem dX8_command_176 : decode cX8_command 176 = .ok (.goto 13, 3) := by decide +kernel
theorem dX8_command_179 : decode cX8_command 179 = .ok (.aload_n 0, 1) := by decide +kernel
theorem dX8_command_180 : decode cX8_command 180 = .ok (.dup, 1) := by decide +kernel
theorem dX8_command_181 : decode cX8_command 181 = .ok (.getfield 169, 3) := by decide +kernel
theorem dX8_command_184 : decode cX8_command 184 = .ok (.lconst 1, 1) := by decide +kernel
theorem dX8_command_185 : decode cX8_command 185 = .ok (.ladd, 1) := by decide +kernel
theorem dX8_command_186 : decode cX8_command 186 = .ok (.putfield 169, 3) := by decide +kernel
theorem dX8_command_189 : decode cX8_command 189 = .ok (.aload_n 0, 1) := by decide +kernel
theorem dX8_command_190 : decode cX8_command 190 = .ok (.getfield 9, 3) := by decide +kernel
theorem dX8_command_193 : decode cX8_command 193 = .ok (.aload_n 0, 1) := by decide +kernel
theorem dX8_command_194 : decode cX8_command 194 = .ok (.getfield 36, 3) := by decide +kernel
theorem dX8_command_197 : decode cX8_command 197 = .ok (.iload 7, 2) := by decide +kernel
theorem dX8_command_199 : decode cX8_command 199 = .ok (.iaload, 1) := by decide +kernel
theorem dX8_command_200 : decode cX8_command 200 = .ok (.aload_n 0, 1) := by decide +kernel
theorem dX8_command_201 : decode cX8_command 201 = .ok (.getfield 45, 3) := by decide +kernel
theorem dX8_command_204 : decode cX8_command 204 = .ok (.iload 7, 2) := by decide +kernel
theorem dX8_command_206 : decode cX8_command 206 = .ok (.iaload, 1) := by decide +kernel
theorem dX8_command_207 : decode cX8_command 207 = .ok (.iadd, 1) := by decide +kernel
theorem dX8_command_208 : decode cX8_command 208 = .ok (.lload_n 3, 1) := by decide +kernel
theorem dX8_command_209 : decode cX8_command 209 = .ok (.bipush 8, 2) := by decide +kernel
theorem dX8_command_211 : decode cX8_command 211 = .ok (.lshr, 1) := by decide +kernel
theorem dX8_command_212 : decode cX8_command 212 = .ok (.ldc2_w 172, 3) := by decide +kernel
theorem dX8_command_215 : decode cX8_command 215 = .ok (.land, 1) := by decide +kernel
theorem dX8_command_216 : decode cX8_command 216 = .ok (.iload_n 1, 1) := by decide +kernel
theorem dX8_command_217 : decode cX8_command 217 = .ok (.i2l, 1) := by decide +kernel
theorem dX8_command_218 : decode cX8_command 218 = .ok (.bipush 16, 2) := by decide +kernel
theorem dX8_command_220 : decode cX8_command 220 = .ok (.lshl, 1) := by decide +kernel
theorem dX8_command_221 : decode cX8_command 221 = .ok (.lor, 1) := by decide +kernel
theorem dX8_command_222 : decode cX8_command 222 = .ok (.aload_n 0, 1) := by decide +kernel
theorem dX8_command_223 : decode cX8_command 223 = .ok (.getfield 42, 3) := by decide +kernel
theorem dX8_command_226 : decode cX8_command 226 = .ok (.iload_n 1, 1) := by decide +kernel
theorem dX8_command_227 : decode cX8_command 227 = .ok (.iaload, 1) := by decide +kernel
theorem dX8_command_228 : decode cX8_command 228 = .ok (.i2l, 1) := by decide +kernel
theorem dX8_command_229 : decode cX8_command 229 = .ok (.bipush 20, 2) := by decide +kernel
theorem dX8_command_231 : decode cX8_command 231 = .ok (.lshl, 1) := by decide +kernel
theorem dX8_command_232 : decode cX8_command 232 = .ok (.lor, 1) := by decide +kernel
theorem dX8_command_233 : decode cX8_command 233 = .ok (.iload 5, 2) := by decide +kernel
theorem dX8_command_235 : decode cX8_command 235 = .ok (.i2l, 1) := by decide +kernel
theorem dX8_command_236 : decode cX8_command 236 = .ok (.bipush 28, 2) := by decide +kernel
theorem dX8_command_238 : decode cX8_command 238 = .ok (.lshl, 1) := by decide +kernel
theorem dX8_command_239 : decode cX8_command 239 = .ok (.lor, 1) := by decide +kernel
theorem dX8_command_240 : decode cX8_command 240 = .ok (.aload_n 0, 1) := by decide +kernel
theorem dX8_command_241 : decode cX8_command 241 = .ok (.getfield 51, 3) := by decide +kernel
theorem dX8_command_244 : decode cX8_command 244 = .ok (.iload 6, 2) := by decide +kernel
theorem dX8_command_246 : decode cX8_command 246 = .ok (.iaload, 1) := by decide +kernel
theorem dX8_command_247 : decode cX8_command 247 = .ok (.i2l, 1) := by decide +kernel
theorem dX8_command_248 : decode cX8_command 248 = .ok (.bipush 36, 2) := by decide +kernel
theorem dX8_command_250 : decode cX8_command 250 = .ok (.lshl, 1) := by decide +kernel
theorem dX8_command_251 : decode cX8_command 251 = .ok (.lor, 1) := by decide +kernel
theorem dX8_command_252 : decode cX8_command 252 = .ok (.aload_n 0, 1) := by decide +kernel
theorem dX8_command_253 : decode cX8_command 253 = .ok (.getfield 156, 3) := by decide +kernel
theorem dX8_command_256 : decode cX8_command 256 = .ok (.bipush 40, 2) := by decide +kernel
theorem dX8_command_258 : decode cX8_command 258 = .ok (.lshl, 1) := by decide +kernel
theorem dX8_command_259 : decode cX8_command 259 = .ok (.lor, 1) := by decide +kernel
theorem dX8_command_260 : decode cX8_command 260 = .ok (.lastore, 1) := by decide +kernel
theorem dX8_command_261 : decode cX8_command 261 = .ok (.aload_n 0, 1) := by decide +kernel
theorem dX8_command_262 : decode cX8_command 262 = .ok (.getfield 45, 3) := by decide +kernel
theorem dX8_command_265 : decode cX8_command 265 = .ok (.iload 7, 2) := by decide +kernel
theorem dX8_command_267 : decode cX8_command 267 = .ok (.dup2, 1) := by decide +kernel
theorem dX8_command_268 : decode cX8_command 268 = .ok (.iaload, 1) := by decide +kernel
theorem dX8_command_269 : decode cX8_command 269 = .ok (.iconst 1, 1) := by decide +kernel
theorem dX8_command_270 : decode cX8_command 270 = .ok (.iadd, 1) := by decide +kernel
theorem dX8_command_271 : decode cX8_command 271 = .ok (.iastore, 1) := by decide +kernel
theorem dX8_command_272 : decode cX8_command 272 = .ok (.aload_n 0, 1) := by decide +kernel
theorem dX8_command_273 : decode cX8_command 273 = .ok (.getfield 45, 3) := by decide +kernel
theorem dX8_command_276 : decode cX8_command 276 = .ok (.iload 7, 2) := by decide +kernel
theorem dX8_command_278 : decode cX8_command 278 = .ok (.iaload, 1) := by decide +kernel
theorem dX8_command_279 : decode cX8_command 279 = .ok (.aload_n 0, 1) := by decide +kernel
theorem dX8_command_280 : decode cX8_command 280 = .ok (.getfield 39, 3) := by decide +kernel
theorem dX8_command_283 : decode cX8_command 283 = .ok (.iload 7, 2) := by decide +kernel
theorem dX8_command_285 : decode cX8_command 285 = .ok (.iaload, 1) := by decide +kernel
theorem dX8_command_286 : decode cX8_command 286 = .ok (.if_icmp .ne 22, 3) := by decide +kernel
theorem dX8_command_289 : decode cX8_command 289 = .ok (.aload_n 0, 1) := by decide +kernel
theorem dX8_command_290 : decode cX8_command 290 = .ok (.getfield 45, 3) := by decide +kernel
theorem dX8_command_293 : decode cX8_command 293 = .ok (.iload 7, 2) := by decide +kernel
theorem dX8_command_295 : decode cX8_command 295 = .ok (.iconst 0, 1) := by decide +kernel
theorem dX8_command_296 : decode cX8_command 296 = .ok (.iastore, 1) := by decide +kernel
theorem dX8_command_297 : decode cX8_command 297 = .ok (.aload_n 0, 1) := by decide +kernel
theorem dX8_command_298 : decode cX8_command 298 = .ok (.getfield 51, 3) := by decide +kernel
theorem dX8_command_301 : decode cX8_command 301 = .ok (.iload 6, 2) := by decide +kernel
theorem dX8_command_303 : decode cX8_command 303 = .ok (.dup2, 1) := by decide +kernel
theorem dX8_command_304 : decode cX8_command 304 = .ok (.iaload, 1) := by decide +kernel
theorem dX8_command_305 : decode cX8_command 305 = .ok (.iconst 1, 1) := by decide +kernel
theorem dX8_command_306 : decode cX8_command 306 = .ok (.ixor, 1) := by decide +kernel
theorem dX8_command_307 : decode cX8_command 307 = .ok (.iastore, 1) := by decide +kernel
theorem dX8_command_308 : decode cX8_command 308 = .ok (.aload_n 0, 1) := by decide +kernel
theorem dX8_command_309 : decode cX8_command 309 = .ok (.getfield 33, 3) := by decide +kernel
theorem dX8_command_312 : decode cX8_command 312 = .ok (.iload 6, 2) := by decide +kernel
theorem dX8_command_314 : decode cX8_command 314 = .ok (.baload, 1) := by decide +kernel
theorem dX8_command_315 : decode cX8_command 315 = .ok (.ifCond .eq 16, 3) := by decide +kernel
theorem dX8_command_318 : decode cX8_command 318 = .ok (.aload_n 0, 1) := by decide +kernel
theorem dX8_command_319 : decode cX8_command 319 = .ok (.dup, 1) := by decide +kernel
theorem dX8_command_320 : decode cX8_command 320 = .ok (.getfield 112, 3) := by decide +kernel
theorem dX8_command_323 : decode cX8_command 323 = .ok (.iconst 1, 1) := by decide +kernel
theorem dX8_command_324 : decode cX8_command 324 = .ok (.iload 6, 2) := by decide +kernel
theorem dX8_command_326 : decode cX8_command 326 = .ok (.ishl, 1) := by decide +kernel
theorem dX8_command_327 : decode cX8_command 327 = .ok (.ior, 1) := by decide +kernel
theorem dX8_command_328 : decode cX8_command 328 = .ok (.putfield 112, 3) := by decide +kernel
theorem dX8_command_331 : decode cX8_command 331 = .ok (.return_, 1) := by decide +kernel
theorem dX8_admin_0 : decode cX8_admin 0 = .ok (.aload_n 0, 1) := by decide +kernel
theorem dX8_admin_1 : decode cX8_admin 1 = .ok (.getfield 136, 3) := by decide +kernel
theorem dX8_admin_4 : decode cX8_admin 4 = .ok (.lconst 1, 1) := by decide +kernel
theorem dX8_admin_5 : decode cX8_admin 5 = .ok (.ldc2_w 121, 3) := by decide +kernel
theorem dX8_admin_8 : decode cX8_admin 8 = .ok (.invokestatic 62, 3) := by decide +kernel
theorem dX8_admin_11 : decode cX8_admin 11 = .ok (.istore_n 1, 1) := by decide +kernel
theorem dX8_admin_12 : decode cX8_admin 12 = .ok (.aload_n 0, 1) := by decide +kernel
theorem dX8_admin_13 : decode cX8_admin 13 = .ok (.getfield 136, 3) := by decide +kernel
theorem dX8_admin_16 : decode cX8_admin 16 = .ok (.l2i, 1) := by decide +kernel
theorem dX8_admin_17 : decode cX8_admin 17 = .ok (.istore_n 2, 1) := by decide +kernel
theorem dX8_admin_18 : decode cX8_admin 18 = .ok (.aload_n 0, 1) := by decide +kernel
theorem dX8_admin_19 : decode cX8_admin 19 = .ok (.getfield 147, 3) := by decide +kernel
theorem dX8_admin_22 : decode cX8_admin 22 = .ok (.tableswitch 455 1 7 #[42, 101, 191, 253, 277, 338, 444], 42) := by decide +kernel
theorem dX8_admin_64 : decode cX8_admin 64 = .ok (.iload_n 1, 1) := by decide +kernel
theorem dX8_admin_65 : decode cX8_admin 65 = .ok (.ifCond .eq 29, 3) := by decide +kernel
theorem dX8_admin_68 : decode cX8_admin 68 = .ok (.aload_n 0, 1) := by decide +kernel
theorem dX8_admin_69 : decode cX8_admin 69 = .ok (.getfield 29, 3) := by decide +kernel
theorem dX8_admin_72 : decode cX8_admin 72 = .ok (.iconst 4, 1) := by decide +kernel
theorem dX8_admin_73 : decode cX8_admin 73 = .ok (.iload_n 2, 1) := by decide +kernel
theorem dX8_admin_74 : decode cX8_admin 74 = .ok (.iadd, 1) := by decide +kernel
theorem dX8_admin_75 : decode cX8_admin 75 = .ok (.baload, 1) := by decide +kernel
theorem dX8_admin_76 : decode cX8_admin 76 = .ok (.ifCond .ne 18, 3) := by decide +kernel
theorem dX8_admin_79 : decode cX8_admin 79 = .ok (.aload_n 0, 1) := by decide +kernel
theorem dX8_admin_80 : decode cX8_admin 80 = .ok (.getfield 139, 3) := by decide +kernel
theorem dX8_admin_83 : decode cX8_admin 83 = .ok (.aload_n 0, 1) := by decide +kernel
theorem dX8_admin_84 : decode cX8_admin 84 = .ok (.getfield 142, 3) := by decide +kernel
theorem dX8_admin_87 : decode cX8_admin 87 = .ok (.iconst 1, 1) := by decide +kernel
theorem dX8_admin_88 : decode cX8_admin 88 = .ok (.invokestatic 95, 3) := by decide +kernel
theorem dX8_admin_91 : decode cX8_admin 91 = .ok (.ifCond .ne 5, 3) := by decide +kernel
theorem dX8_admin_94 : decode cX8_admin 94 = .ok (.iconst 2, 1) := by decide +kernel
theorem dX8_admin_95 : decode cX8_admin 95 = .ok (.ireturn, 1) := by decide +kernel
theorem dX8_admin_96 : decode cX8_admin 96 = .ok (.aload_n 0, 1) := by decide +kernel
theorem dX8_admin_97 : decode cX8_admin 97 = .ok (.iconst 4, 1) := by decide +kernel
theorem dX8_admin_98 : decode cX8_admin 98 = .ok (.iload_n 2, 1) := by decide +kernel
theorem dX8_admin_99 : decode cX8_admin 99 = .ok (.iadd, 1) := by decide +kernel
theorem dX8_admin_100 : decode cX8_admin 100 = .ok (.aload_n 0, 1) := by decide +kernel
theorem dX8_admin_101 : decode cX8_admin 101 = .ok (.getfield 139, 3) := by decide +kernel
theorem dX8_admin_104 : decode cX8_admin 104 = .ok (.aload_n 0, 1) := by decide +kernel
theorem dX8_admin_105 : decode cX8_admin 105 = .ok (.getfield 142, 3) := by decide +kernel
theorem dX8_admin_108 : decode cX8_admin 108 = .ok (.invokevirtual 108, 3) := by decide +kernel
theorem dX8_admin_111 : decode cX8_admin 111 = .ok (.aload_n 0, 1) := by decide +kernel
theorem dX8_admin_112 : decode cX8_admin 112 = .ok (.getfield 33, 3) := by decide +kernel
theorem dX8_admin_115 : decode cX8_admin 115 = .ok (.iload_n 2, 1) := by decide +kernel
theorem dX8_admin_116 : decode cX8_admin 116 = .ok (.aload_n 0, 1) := by decide +kernel
theorem dX8_admin_117 : decode cX8_admin 117 = .ok (.getfield 150, 3) := by decide +kernel
theorem dX8_admin_120 : decode cX8_admin 120 = .ok (.bastore, 1) := by decide +kernel
theorem dX8_admin_121 : decode cX8_admin 121 = .ok (.iconst 0, 1) := by decide +kernel
theorem dX8_admin_122 : decode cX8_admin 122 = .ok (.ireturn, 1) := by decide +kernel
theorem dX8_admin_123 : decode cX8_admin 123 = .ok (.iload_n 1, 1) := by decide +kernel
theorem dX8_admin_124 : decode cX8_admin 124 = .ok (.ifCond .eq 60, 3) := by decide +kernel
theorem dX8_admin_127 : decode cX8_admin 127 = .ok (.aload_n 0, 1) := by decide +kernel
theorem dX8_admin_128 : decode cX8_admin 128 = .ok (.getfield 29, 3) := by decide +kernel
theorem dX8_admin_131 : decode cX8_admin 131 = .ok (.iload_n 2, 1) := by decide +kernel
theorem dX8_admin_132 : decode cX8_admin 132 = .ok (.baload, 1) := by decide +kernel
theorem dX8_admin_133 : decode cX8_admin 133 = .ok (.ifCond .ne 51, 3) := by decide +kernel
theorem dX8_admin_136 : decode cX8_admin 136 = .ok (.aload_n 0, 1) := by decide +kernel
theorem dX8_admin_137 : decode cX8_admin 137 = .ok (.getfield 139, 3) := by decide +kernel
theorem dX8_admin_140 : decode cX8_admin 140 = .ok (.aload_n 0, 1) := by decide +kernel
theorem dX8_admin_141 : decode cX8_admin 141 = .ok (.getfield 142, 3) := by decide +kernel
theorem dX8_admin_144 : decode cX8_admin 144 = .ok (.iconst 4, 1) := by decide +kernel
theorem dX8_admin_145 : decode cX8_admin 145 = .ok (.invokestatic 95, 3) := by decide +kernel
theorem dX8_admin_148 : decode cX8_admin 148 = .ok (.ifCond .eq 36, 3) := by decide +kernel
theorem dX8_admin_151 : decode cX8_admin 151 = .ok (.aload_n 0, 1) := by decide +kernel
theorem dX8_admin_152 : decode cX8_admin 152 = .ok (.getfield 153, 3) := by decide +kernel
theorem dX8_admin_155 : decode cX8_admin 155 = .ok (.iconst 1, 1) := by decide +kernel
theorem dX8_admin_156 : decode cX8_admin 156 = .ok (.isub, 1) := by decide +kernel
theorem dX8_admin_157 : decode cX8_admin 157 = .ok (.i2l, 1) := by decide +kernel
theorem dX8_admin_158 : decode cX8_admin 158 = .ok (.lconst 1, 1) := by decide +kernel
theorem dX8_admin_159 : decode cX8_admin 159 = .ok (.ldc2_w 121, 3) := by decide +kernel
theorem dX8_admin_162 : decode cX8_admin 162 = .ok (.invokestatic 62, 3) := by decide +kernel
theorem dX8_admin_165 : decode cX8_admin 165 = .ok (.ifCond .eq 19, 3) := by decide +kernel
theorem dX8_admin_168 : decode cX8_admin 168 = .ok (.aload_n 0, 1) := by decide +kernel
theorem dX8_admin_169 : decode cX8_admin 169 = .ok (.getfield 29, 3) := by decide +kernel
theorem dX8_admin_172 : decode cX8_admin 172 = .ok (.iconst 4, 1) := by decide +kernel
theorem dX8_admin_173 : decode cX8_admin 173 = .ok (.aload_n 0, 1) := by decide +kernel
theorem dX8_admin_174 : decode cX8_admin 174 = .ok (.getfield 153, 3) := by decide +kernel
theorem dX8_admin_177 : decode cX8_admin 177 = .ok (.iadd, 1) := by decide +kernel
theorem dX8_admin_178 : decode cX8_admin 178 = .ok (.iconst 1, 1) := by decide +kernel
theorem dX8_admin_179 : decode cX8_admin 179 = .ok (.isub, 1) := by decide +kernel
theorem dX8_admin_180 : decode cX8_admin 180 = .ok (.baload, 1) := by decide +kernel
theorem dX8_admin_181 : decode cX8_admin 181 = .ok (.ifCond .ne 5, 3) := by decide +kernel
theorem dX8_admin_184 : decode cX8_admin 184 = .ok (.iconst 2, 1) := by decide +kernel
theorem dX8_admin_185 : decode cX8_admin 185 = .ok (.ireturn, 1) := by decide +kernel
theorem dX8_admin_186 : decode cX8_admin 186 = .ok (.aload_n 0, 1) := by decide +kernel
theorem dX8_admin_187 : decode cX8_admin 187 = .ok (.iload_n 2, 1) := by decide +kernel
theorem dX8_admin_188 : decode cX8_admin 188 = .ok (.aload_n 0, 1) := by decide +kernel
theorem dX8_admin_189 : decode cX8_admin 189 = .ok (.getfield 139, 3) := by decide +kernel
theorem dX8_admin_192 : decode cX8_admin 192 = .ok (.aload_n 0, 1) := by decide +kernel
theorem dX8_admin_193 : decode cX8_admin 193 = .ok (.getfield 142, 3) := by decide +kernel
theorem dX8_admin_196 : decode cX8_admin 196 = .ok (.invokevirtual 108, 3) := by decide +kernel
theorem dX8_admin_199 : decode cX8_admin 199 = .ok (.aload_n 0, 1) := by decide +kernel
theorem dX8_admin_200 : decode cX8_admin 200 = .ok (.getfield 48, 3) := by decide +kernel
theorem dX8_admin_203 : decode cX8_admin 203 = .ok (.iload_n 2, 1) := by decide +kernel
theorem dX8_admin_204 : decode cX8_admin 204 = .ok (.aload_n 0, 1) := by decide +kernel
theorem dX8_admin_205 : decode cX8_admin 205 = .ok (.getfield 153, 3) := by decide +kernel
theorem dX8_admin_208 : decode cX8_admin 208 = .ok (.iconst 1, 1) := by decide +kernel
theorem dX8_admin_209 : decode cX8_admin 209 = .ok (.isub, 1) := by decide +kernel
theorem dX8_admin_210 : decode cX8_admin 210 = .ok (.iastore, 1) := by decide +kernel
theorem dX8_admin_211 : decode cX8_admin 211 = .ok (.iconst 0, 1) := by decide +kernel
theorem dX8_admin_212 : decode cX8_admin 212 = .ok (.ireturn, 1) := by decide +kernel
theorem dX8_admin_213 : decode cX8_admin 213 = .ok (.iload_n 1, 1) := by decide +kernel
theorem dX8_admin_214 : decode cX8_admin 214 = .ok (.ifCond .eq 14, 3) := by decide +kernel
theorem dX8_admin_217 : decode cX8_admin 217 = .ok (.aload_n 0, 1) := by decide +kernel
theorem dX8_admin_218 : decode cX8_admin 218 = .ok (.getfield 29, 3) := by decide +kernel
theorem dX8_admin_221 : decode cX8_admin 221 = .ok (.iconst 4, 1) := by decide +kernel
theorem dX8_admin_222 : decode cX8_admin 222 = .ok (.iload_n 2, 1) := by decide +kernel
theorem dX8_admin_223 : decode cX8_admin 223 = .ok (.iadd, 1) := by decide +kernel
theorem dX8_admin_224 : decode cX8_admin 224 = .ok (.baload, 1) := by decide +kernel
theorem dX8_admin_225 : decode cX8_admin 225 = .ok (.ifCond .ne 5, 3) := by decide +kernel
theorem dX8_admin_228 : decode cX8_admin 228 = .ok (.iconst 2, 1) := by decide +kernel
theorem dX8_admin_229 : decode cX8_admin 229 = .ok (.ireturn, 1) := by decide +kernel
theorem dX8_admin_230 : decode cX8_admin 230 = .ok (.iconst 0, 1) := by decide +kernel
theorem dX8_admin_231 : decode cX8_admin 231 = .ok (.istore_n 3, 1) := by decide +kernel
theorem dX8_admin_232 : decode cX8_admin 232 = .ok (.iload_n 3, 1) := by decide +kernel
theorem dX8_admin_233 : decode cX8_admin 233 = .ok (.iconst 4, 1) := by decide +kernel
theorem dX8_admin_234 : decode cX8_admin 234 = .ok (.if_icmp .ge 30, 3) := by decide +kernel
theorem dX8_admin_237 : decode cX8_admin 237 = .ok (.aload_n 0, 1) := by decide +kernel
theorem dX8_admin_238 : decode cX8_admin 238 = .ok (.getfield 29, 3) := by decide +kernel
theorem dX8_admin_241 : decode cX8_admin 241 = .ok (.iload_n 3, 1) := by decide +kernel
theorem dX8_admin_242 : decode cX8_admin 242 = .ok (.baload, 1) := by decide +kernel
theorem dX8_admin_243 : decode cX8_admin 243 = .ok (.ifCond .eq 15, 3) := by decide +kernel
theorem dX8_admin_246 : decode cX8_admin 246 = .ok (.aload_n 0, 1) := by decide +kernel
theorem dX8_admin_247 : decode cX8_admin 247 = .ok (.getfield 48, 3) := by decide +kernel
theorem dX8_admin_250 : decode cX8_admin 250 = .ok (.iload_n 3, 1) := by decide +kernel
theorem dX8_admin_251 : decode cX8_admin 251 = .ok (.iaload, 1) := by decide +kernel
theorem dX8_admin_252 : decode cX8_admin 252 = .ok (.iload_n 2, 1) := by decide +kernel
theorem dX8_admin_253 : decode cX8_admin 253 = .ok (.if_icmp .ne 5, 3) := by decide +kernel
theorem dX8_admin_256 : decode cX8_admin 256 = .ok (.iconst 2, 1) := by decide +kernel
theorem dX8_admin_257 : decode cX8_admin 257 = .ok (.ireturn, 1) := by decide +kernel
theorem dX8_admin_258 : decode cX8_admin 258 = .ok (.iinc 3 1, 3) := by decide +kernel
theorem dX8_admin_261 : decode cX8_admin 261 = .ok (.goto (-29), 3) := by decide +kernel
theorem dX8_admin_264 : decode cX8_admin 264 = .ok (.aload_n 0, 1) := by decide +kernel
theorem dX8_admin_265 : decode cX8_admin 265 = .ok (.getfield 29, 3) := by decide +kernel
theorem dX8_admin_268 : decode cX8_admin 268 = .ok (.iconst 4, 1) := by decide +kernel
theorem dX8_admin_269 : decode cX8_admin 269 = .ok (.iload_n 2, 1) := by decide +kernel
theorem dX8_admin_270 : decode cX8_admin 270 = .ok (.iadd, 1) := by decide +kernel
theorem dX8_admin_271 : decode cX8_admin 271 = .ok (.iconst 0, 1) := by decide +kernel
theorem dX8_admin_272 : decode cX8_admin 272 = .ok (.bastore, 1) := by decide +kernel
theorem dX8_admin_273 : decode cX8_admin 273 = .ok (.iconst 0, 1) := by decide +kernel
theorem dX8_admin_274 : decode cX8_admin 274 = .ok (.ireturn, 1) := by decide +kernel
theorem dX8_admin_275 : decode cX8_admin 275 = .ok (.iload_n 1, 1) := by decide +kernel
theorem dX8_admin_276 : decode cX8_admin 276 = .ok (.ifCond .eq 12, 3) := by decide +kernel
theorem dX8_admin_279 : decode cX8_admin 279 = .ok (.aload_n 0, 1) := by decide +kernel
theorem dX8_admin_280 : decode cX8_admin 280 = .ok (.getfield 29, 3) := by decide +kernel
theorem dX8_admin_283 : decode cX8_admin 283 = .ok (.iload_n 2, 1) := by decide +kernel
theorem dX8_admin_284 : decode cX8_admin 284 = .ok (.baload, 1) := by decide +kernel
theorem dX8_admin_285 : decode cX8_admin 285 = .ok (.ifCond .ne 5, 3) := by decide +kernel
theorem dX8_admin_288 : decode cX8_admin 288 = .ok (.iconst 2, 1) := by decide +kernel
theorem dX8_admin_289 : decode cX8_admin 289 = .ok (.ireturn, 1) := by decide +kernel
theorem dX8_admin_290 : decode cX8_admin 290 = .ok (.aload_n 0, 1) := by decide +kernel
theorem dX8_admin_291 : decode cX8_admin 291 = .ok (.getfield 29, 3) := by decide +kernel
theorem dX8_admin_294 : decode cX8_admin 294 = .ok (.iload_n 2, 1) := by decide +kernel
theorem dX8_admin_295 : decode cX8_admin 295 = .ok (.iconst 0, 1) := by decide +kernel
theorem dX8_admin_296 : decode cX8_admin 296 = .ok (.bastore, 1) := by decide +kernel
theorem dX8_admin_297 : decode cX8_admin 297 = .ok (.iconst 0, 1) := by decide +kernel
theorem dX8_admin_298 : decode cX8_admin 298 = .ok (.ireturn, 1) := by decide +kernel
theorem dX8_admin_299 : decode cX8_admin 299 = .ok (.aload_n 0, 1) := by decide +kernel
theorem dX8_admin_300 : decode cX8_admin 300 = .ok (.getfield 136, 3) := by decide +kernel
theorem dX8_admin_303 : decode cX8_admin 303 = .ok (.lconst 0, 1) := by decide +kernel
theorem dX8_admin_304 : decode cX8_admin 304 = .ok (.lconst 1, 1) := by decide +kernel
theorem dX8_admin_305 : decode cX8_admin 305 = .ok (.invokestatic 62, 3) := by decide +kernel
theorem dX8_admin_308 : decode cX8_admin 308 = .ok (.ifCond .ne 5, 3) := by decide +kernel
theorem dX8_admin_311 : decode cX8_admin 311 = .ok (.iconst 2, 1) := by decide +kernel
theorem dX8_admin_312 : decode cX8_admin 312 = .ok (.ireturn, 1) := by decide +kernel
theorem dX8_admin_313 : decode cX8_admin 313 = .ok (.aload_n 0, 1) := by decide +kernel
theorem dX8_admin_314 : decode cX8_admin 314 = .ok (.aload_n 0, 1) := by decide +kernel
theorem dX8_admin_315 : decode cX8_admin 315 = .ok (.getfield 25, 3) := by decide +kernel
theorem dX8_admin_318 : decode cX8_admin 318 = .ok (.ifCond .eq 7, 3) := by decide +kernel
theorem dX8_admin_321 : decode cX8_admin 321 = .ok (.lconst 1, 1) := by decide +kernel
theorem dX8_admin_322 : decode cX8_admin 322 = .ok (.goto 4, 3) := by decide +kernel
theorem dX8_admin_325 : decode cX8_admin 325 = .ok (.lconst 0, 1) := by decide +kernel
theorem dX8_admin_326 : decode cX8_admin 326 = .ok (.putfield 156, 3) := by decide +kernel
theorem dX8_admin_329 : decode cX8_admin 329 = .ok (.aload_n 0, 1) := by decide +kernel
theorem dX8_admin_330 : decode cX8_admin 330 = .ok (.aload_n 0, 1) := by decide +kernel
theorem dX8_admin_331 : decode cX8_admin 331 = .ok (.getfield 136, 3) := by decide +kernel
theorem dX8_admin_334 : decode cX8_admin 334 = .ok (.lconst 1, 1) := by decide +kernel
theorem dX8_admin_335 : decode cX8_admin 335 = .ok (.lcmp, 1) := by decide +kernel
theorem dX8_admin_336 : decode cX8_admin 336 = .ok (.ifCond .ne 7, 3) := by decide +kernel
theorem dX8_admin_339 : decode cX8_admin 339 = .ok (.iconst 1, 1) := by decide +kernel
theorem dX8_admin_340 : decode cX8_admin 340 = .ok (.goto 4, 3) := by decide +kernel
theorem dX8_admin_343 : decode cX8_admin 343 = .ok (.iconst 0, 1) := by decide +kernel
theorem dX8_admin_344 : decode cX8_admin 344 = .ok (.putfield 25, 3) := by decide +kernel
theorem dX8_admin_347 : decode cX8_admin 347 = .ok (.aload_n 0, 1) := by decide +kernel
theorem dX8_admin_348 : decode cX8_admin 348 = .ok (.getfield 25, 3) := by decide +kernel
theorem dX8_admin_351 : decode cX8_admin 351 = .ok (.ifCond .ne 7, 3) := by decide +kernel
theorem dX8_admin_354 : decode cX8_admin 354 = .ok (.aload_n 0, 1) := by decide +kernel
theorem dX8_admin_355 : decode cX8_admin 355 = .ok (.invokevirtual 118, 3) := by decide +kernel
theorem dX8_admin_358 : decode cX8_admin 358 = .ok (.iconst 0, 1) := by decide +kernel
theorem dX8_admin_359 : decode cX8_admin 359 = .ok (.ireturn, 1) := by decide +kernel
theorem dX8_admin_360 : decode cX8_admin 360 = .ok (.aload_n 0, 1) := by decide +kernel
theorem dX8_admin_361 : decode cX8_admin 361 = .ok (.getfield 153, 3) := by decide +kernel
theorem dX8_admin_364 : decode cX8_admin 364 = .ok (.iconst 1, 1) := by decide +kernel
theorem dX8_admin_365 : decode cX8_admin 365 = .ok (.if_icmp .eq 5, 3) := by decide +kernel
theorem dX8_admin_368 : decode cX8_admin 368 = .ok (.iconst 2, 1) := by decide +kernel
theorem dX8_admin_369 : decode cX8_admin 369 = .ok (.ireturn, 1) := by decide +kernel
theorem dX8_admin_370 : decode cX8_admin 370 = .ok (.aload_n 0, 1) := by decide +kernel
theorem dX8_admin_371 : decode cX8_admin 371 = .ok (.invokevirtual 174, 3) := by decide +kernel
theorem dX8_admin_374 : decode cX8_admin 374 = .ok (.ifCond .ne 5, 3) := by decide +kernel
theorem dX8_admin_377 : decode cX8_admin 377 = .ok (.iconst 4, 1) := by decide +kernel
theorem dX8_admin_378 : decode cX8_admin 378 = .ok (.ireturn, 1) := by decide +kernel
theorem dX8_admin_379 : decode cX8_admin 379 = .ok (.bipush 8, 2) := by decide +kernel
theorem dX8_admin_381 : decode cX8_admin 381 = .ok (.newarray .long, 2) := by decide +kernel
theorem dX8_admin_383 : decode cX8_admin 383 = .ok (.dup, 1) := by decide +kernel
theorem dX8_admin_384 : decode cX8_admin 384 = .ok (.iconst 0, 1) := by decide +kernel
theorem dX8_admin_385 : decode cX8_admin 385 = .ok (.ldc2_w 178, 3) := by decide +kernel
theorem dX8_admin_388 : decode cX8_admin 388 = .ok (.lastore, 1) := by decide +kernel
theorem dX8_admin_389 : decode cX8_admin 389 = .ok (.dup, 1) := by decide +kernel
theorem dX8_admin_390 : decode cX8_admin 390 = .ok (.iconst 1, 1) := by decide +kernel
theorem dX8_admin_391 : decode cX8_admin 391 = .ok (.aload_n 0, 1) := by decide +kernel
theorem dX8_admin_392 : decode cX8_admin 392 = .ok (.getfield 166, 3) := by decide +kernel
theorem dX8_admin_395 : decode cX8_admin 395 = .ok (.lastore, 1) := by decide +kernel
theorem dX8_admin_396 : decode cX8_admin 396 = .ok (.dup, 1) := by decide +kernel
theorem dX8_admin_397 : decode cX8_admin 397 = .ok (.iconst 2, 1) := by decide +kernel
theorem dX8_admin_398 : decode cX8_admin 398 = .ok (.aload_n 0, 1) := by decide +kernel
theorem dX8_admin_399 : decode cX8_admin 399 = .ok (.getfield 169, 3) := by decide +kernel
theorem dX8_admin_402 : decode cX8_admin 402 = .ok (.lastore, 1) := by decide +kernel
theorem dX8_admin_403 : decode cX8_admin 403 = .ok (.dup, 1) := by decide +kernel
theorem dX8_admin_404 : decode cX8_admin 404 = .ok (.iconst 3, 1) := by decide +kernel
theorem dX8_admin_405 : decode cX8_admin 405 = .ok (.aload_n 0, 1) := by decide +kernel
theorem dX8_admin_406 : decode cX8_admin 406 = .ok (.getfield 180, 3) := by decide +kernel
theorem dX8_admin_409 : decode cX8_admin 409 = .ok (.lastore, 1) := by decide +kernel
theorem dX8_admin_410 : decode cX8_admin 410 = .ok (.dup, 1) := by decide +kernel
theorem dX8_admin_411 : decode cX8_admin 411 = .ok (.iconst 4, 1) := by decide +kernel
theorem dX8_admin_412 : decode cX8_admin 412 = .ok (.aload_n 0, 1) := by decide +kernel
theorem dX8_admin_413 : decode cX8_admin 413 = .ok (.getfield 83, 3) := by decide +kernel
theorem dX8_admin_416 : decode cX8_admin 416 = .ok (.lastore, 1) := by decide +kernel
theorem dX8_admin_417 : decode cX8_admin 417 = .ok (.dup, 1) := by decide +kernel
theorem dX8_admin_418 : decode cX8_admin 418 = .ok (.iconst 5, 1) := by decide +kernel
theorem dX8_admin_419 : decode cX8_admin 419 = .ok (.lconst 0, 1) := by decide +kernel
theorem dX8_admin_420 : decode cX8_admin 420 = .ok (.lastore, 1) := by decide +kernel
theorem dX8_admin_421 : decode cX8_admin 421 = .ok (.dup, 1) := by decide +kernel
theorem dX8_admin_422 : decode cX8_admin 422 = .ok (.bipush 6, 2) := by decide +kernel
theorem dX8_admin_424 : decode cX8_admin 424 = .ok (.lconst 0, 1) := by decide +kernel
theorem dX8_admin_425 : decode cX8_admin 425 = .ok (.lastore, 1) := by decide +kernel
theorem dX8_admin_426 : decode cX8_admin 426 = .ok (.dup, 1) := by decide +kernel
theorem dX8_admin_427 : decode cX8_admin 427 = .ok (.bipush 7, 2) := by decide +kernel
theorem dX8_admin_429 : decode cX8_admin 429 = .ok (.lconst 0, 1) := by decide +kernel
theorem dX8_admin_430 : decode cX8_admin 430 = .ok (.lastore, 1) := by decide +kernel
theorem dX8_admin_431 : decode cX8_admin 431 = .ok (.astore_n 3, 1) := by decide +kernel
theorem dX8_admin_432 : decode cX8_admin 432 = .ok (.iconst 0, 1) := by decide +kernel
theorem dX8_admin_433 : decode cX8_admin 433 = .ok (.istore 4, 2) := by decide +kernel
theorem dX8_admin_435 : decode cX8_admin 435 = .ok (.iload 4, 2) := by decide +kernel
theorem dX8_admin_437 : decode cX8_admin 437 = .ok (.bipush 8, 2) := by decide +kernel
theorem dX8_admin_439 : decode cX8_admin 439 = .ok (.if_icmp .ge 25, 3) := by decide +kernel
theorem dX8_admin_442 : decode cX8_admin 442 = .ok (.aload_n 0, 1) := by decide +kernel
theorem dX8_admin_443 : decode cX8_admin 443 = .ok (.getfield 9, 3) := by decide +kernel
theorem dX8_admin_446 : decode cX8_admin 446 = .ok (.aload_n 0, 1) := by decide +kernel
theorem dX8_admin_447 : decode cX8_admin 447 = .ok (.getfield 54, 3) := by decide +kernel
theorem dX8_admin_450 : decode cX8_admin 450 = .ok (.iload 4, 2) := by decide +kernel
theorem dX8_admin_452 : decode cX8_admin 452 = .ok (.iaload, 1) := by decide +kernel
theorem dX8_admin_453 : decode cX8_admin 453 = .ok (.aload_n 3, 1) := by decide +kernel
theorem dX8_admin_454 : decode cX8_admin 454 = .ok (.iload 4, 2) := by decide +kernel
theorem dX8_admin_456 : decode cX8_admin 456 = .ok (.laload, 1) := by decide +kernel
theorem dX8_admin_457 : decode cX8_admin 457 = .ok (.lastore, 1) := by decide +kernel
theorem dX8_admin_458 : decode cX8_admin 458 = .ok (.iinc 4 1, 3) := by decide +kernel
theorem dX8_admin_461 : decode cX8_admin 461 = .ok (.goto (-26), 3) := by decide +kernel
theorem dX8_admin_464 : decode cX8_admin 464 = .ok (.iconst 0, 1) := by decide +kernel
theorem dX8_admin_465 : decode cX8_admin 465 = .ok (.ireturn, 1) := by decide +kernel
theorem dX8_admin_466 : decode cX8_admin 466 = .ok (.aload_n 0, 1) := by decide +kernel
theorem dX8_admin_467 : decode cX8_admin 467 = .ok (.aload_n 0, 1) := by decide +kernel
theorem dX8_admin_468 : decode cX8_admin 468 = .ok (.getfield 66, 3) := by decide +kernel
theorem dX8_admin_471 : decode cX8_admin 471 = .ok (.i2l, 1) := by decide +kernel
theorem dX8_admin_472 : decode cX8_admin 472 = .ok (.putfield 156, 3) := by decide +kernel
theorem dX8_admin_475 : decode cX8_admin 475 = .ok (.iconst 0, 1) := by decide +kernel
theorem dX8_admin_476 : decode cX8_admin 476 = .ok (.ireturn, 1) := by decide +kernel
theorem dX8_admin_477 : decode cX8_admin 477 = .ok (.iconst 1, 1) := by decide +kernel
theorem dX8_admin_478 : decode cX8_admin 478 = .ok (.ireturn, 1) := by decide +kernel
theorem dX8_isPage_0 : decode cX8_isPage 0 = .ok (.lload_n 0, 1) := by decide +kernel
theorem dX8_isPage_1 : decode cX8_isPage 1 = .ok (.lconst 0, 1) := by decide +kernel
theorem dX8_isPage_2 : decode cX8_isPage 2 = .ok (.ldc2_w 60, 3) := by decide +kernel
theorem dX8_isPage_5 : decode cX8_isPage 5 = .ok (.invokestatic 62, 3) := by decide +kernel
theorem dX8_isPage_8 : decode cX8_isPage 8 = .ok (.ifCond .eq 17, 3) := by decide +kernel
theorem dX8_isPage_11 : decode cX8_isPage 11 = .ok (.lload_n 0, 1) := by decide +kernel
theorem dX8_isPage_12 : decode cX8_isPage 12 = .ok (.ldc2_w 89, 3) := by decide +kernel
theorem dX8_isPage_15 : decode cX8_isPage 15 = .ok (.lrem, 1) := by decide +kernel
theorem dX8_isPage_16 : decode cX8_isPage 16 = .ok (.lconst 0, 1) := by decide +kernel
theorem dX8_isPage_17 : decode cX8_isPage 17 = .ok (.lcmp, 1) := by decide +kernel
theorem dX8_isPage_18 : decode cX8_isPage 18 = .ok (.ifCond .ne 7, 3) := by decide +kernel
theorem dX8_isPage_21 : decode cX8_isPage 21 = .ok (.iconst 1, 1) := by decide +kernel
theorem dX8_isPage_22 : decode cX8_isPage 22 = .ok (.goto 4, 3) := by decide +kernel
theorem dX8_isPage_25 : decode cX8_isPage 25 = .ok (.iconst 0, 1) := by decide +kernel
theorem dX8_isPage_26 : decode cX8_isPage 26 = .ok (.ireturn, 1) := by decide +kernel
theorem dX8_place_0 : decode cX8_place 0 = .ok (.aload_n 0, 1) := by decide +kernel
theorem dX8_place_1 : decode cX8_place 1 = .ok (.getfield 136, 3) := by decide +kernel
theorem dX8_place_4 : decode cX8_place 4 = .ok (.lconst 0, 1) := by decide +kernel
theorem dX8_place_5 : decode cX8_place 5 = .ok (.ldc2_w 60, 3) := by decide +kernel
theorem dX8_place_8 : decode cX8_place 8 = .ok (.invokestatic 62, 3) := by decide +kernel
theorem dX8_place_11 : decode cX8_place 11 = .ok (.ifCond .ne 5, 3) := by decide +kernel
theorem dX8_place_14 : decode cX8_place 14 = .ok (.iconst 0, 1) := by decide +kernel
theorem dX8_place_15 : decode cX8_place 15 = .ok (.ireturn, 1) := by decide +kernel
theorem dX8_place_16 : decode cX8_place 16 = .ok (.bipush 8, 2) := by decide +kernel
theorem dX8_place_18 : decode cX8_place 18 = .ok (.aload_n 0, 1) := by decide +kernel
theorem dX8_place_19 : decode cX8_place 19 = .ok (.getfield 153, 3) := by decide +kernel
theorem dX8_place_22 : decode cX8_place 22 = .ok (.imul, 1) := by decide +kernel
theorem dX8_place_23 : decode cX8_place 23 = .ok (.istore_n 1, 1) := by decide +kernel
theorem dX8_place_24 : decode cX8_place 24 = .ok (.iconst 0, 1) := by decide +kernel
theorem dX8_place_25 : decode cX8_place 25 = .ok (.istore_n 2, 1) := by decide +kernel
theorem dX8_place_26 : decode cX8_place 26 = .ok (.aload_n 0, 1) := by decide +kernel
theorem dX8_place_27 : decode cX8_place 27 = .ok (.getfield 136, 3) := by decide +kernel
theorem dX8_place_30 : decode cX8_place 30 = .ok (.lstore_n 3, 1) := by decide +kernel
theorem dX8_place_31 : decode cX8_place 31 = .ok (.iload_n 2, 1) := by decide +kernel
theorem dX8_place_32 : decode cX8_place 32 = .ok (.iload_n 1, 1) := by decide +kernel
theorem dX8_place_33 : decode cX8_place 33 = .ok (.if_icmp .ge 35, 3) := by decide +kernel
theorem dX8_place_36 : decode cX8_place 36 = .ok (.iload_n 2, 1) := by decide +kernel
theorem dX8_place_37 : decode cX8_place 37 = .ok (.ifCond .eq 13, 3) := by decide +kernel
theorem dX8_place_40 : decode cX8_place 40 = .ok (.lload_n 3, 1) := by decide +kernel
theorem dX8_place_41 : decode cX8_place 41 = .ok (.ldc2_w 89, 3) := by decide +kernel
theorem dX8_place_44 : decode cX8_place 44 = .ok (.lrem, 1) := by decide +kernel
theorem dX8_place_45 : decode cX8_place 45 = .ok (.lconst 0, 1) := by decide +kernel
theorem dX8_place_46 : decode cX8_place 46 = .ok (.lcmp, 1) := by decide +kernel
theorem dX8_place_47 : decode cX8_place 47 = .ok (.ifCond .eq 21, 3) := by decide +kernel
theorem dX8_place_50 : decode cX8_place 50 = .ok (.aload_n 0, 1) := by decide +kernel
theorem dX8_place_51 : decode cX8_place 51 = .ok (.getfield 54, 3) := by decide +kernel
theorem dX8_place_54 : decode cX8_place 54 = .ok (.iload_n 2, 1) := by decide +kernel
theorem dX8_place_55 : decode cX8_place 55 = .ok (.lload_n 3, 1) := by decide +kernel
theorem dX8_place_56 : decode cX8_place 56 = .ok (.l2i, 1) := by decide +kernel
theorem dX8_place_57 : decode cX8_place 57 = .ok (.iastore, 1) := by decide +kernel
theorem dX8_place_58 : decode cX8_place 58 = .ok (.iinc 2 1, 3) := by decide +kernel
theorem dX8_place_61 : decode cX8_place 61 = .ok (.lload_n 3, 1) := by decide +kernel
theorem dX8_place_62 : decode cX8_place 62 = .ok (.lconst 1, 1) := by decide +kernel
theorem dX8_place_63 : decode cX8_place 63 = .ok (.ladd, 1) := by decide +kernel
theorem dX8_place_64 : decode cX8_place 64 = .ok (.lstore_n 3, 1) := by decide +kernel
theorem dX8_place_65 : decode cX8_place 65 = .ok (.goto (-34), 3) := by decide +kernel
theorem dX8_place_68 : decode cX8_place 68 = .ok (.iload_n 1, 1) := by decide +kernel
theorem dX8_place_69 : decode cX8_place 69 = .ok (.iload_n 2, 1) := by decide +kernel
theorem dX8_place_70 : decode cX8_place 70 = .ok (.isub, 1) := by decide +kernel
theorem dX8_place_71 : decode cX8_place 71 = .ok (.istore_n 3, 1) := by decide +kernel
theorem dX8_place_72 : decode cX8_place 72 = .ok (.iload_n 3, 1) := by decide +kernel
theorem dX8_place_73 : decode cX8_place 73 = .ok (.bipush 16, 2) := by decide +kernel
theorem dX8_place_75 : decode cX8_place 75 = .ok (.iadd, 1) := by decide +kernel
theorem dX8_place_76 : decode cX8_place 76 = .ok (.iconst 1, 1) := by decide +kernel
theorem dX8_place_77 : decode cX8_place 77 = .ok (.isub, 1) := by decide +kernel
theorem dX8_place_78 : decode cX8_place 78 = .ok (.bipush 16, 2) := by decide +kernel
theorem dX8_place_80 : decode cX8_place 80 = .ok (.idiv, 1) := by decide +kernel
theorem dX8_place_81 : decode cX8_place 81 = .ok (.istore 4, 2) := by decide +kernel
theorem dX8_place_83 : decode cX8_place 83 = .ok (.iload 4, 2) := by decide +kernel
theorem dX8_place_85 : decode cX8_place 85 = .ok (.ifCond .ne 5, 3) := by decide +kernel
theorem dX8_place_88 : decode cX8_place 88 = .ok (.iconst 1, 1) := by decide +kernel
theorem dX8_place_89 : decode cX8_place 89 = .ok (.ireturn, 1) := by decide +kernel
theorem dX8_place_90 : decode cX8_place 90 = .ok (.iload 4, 2) := by decide +kernel
theorem dX8_place_92 : decode cX8_place 92 = .ok (.iconst 1, 1) := by decide +kernel
theorem dX8_place_93 : decode cX8_place 93 = .ok (.if_icmp .le 38, 3) := by decide +kernel
theorem dX8_place_96 : decode cX8_place 96 = .ok (.aload_n 0, 1) := by decide +kernel
theorem dX8_place_97 : decode cX8_place 97 = .ok (.getfield 139, 3) := by decide +kernel
theorem dX8_place_100 : decode cX8_place 100 = .ok (.lconst 0, 1) := by decide +kernel
theorem dX8_place_101 : decode cX8_place 101 = .ok (.ldc2_w 60, 3) := by decide +kernel
theorem dX8_place_104 : decode cX8_place 104 = .ok (.invokestatic 62, 3) := by decide +kernel
theorem dX8_place_107 : decode cX8_place 107 = .ok (.ifCond .eq 22, 3) := by decide +kernel
theorem dX8_place_110 : decode cX8_place 110 = .ok (.aload_n 0, 1) := by decide +kernel
theorem dX8_place_111 : decode cX8_place 111 = .ok (.getfield 139, 3) := by decide +kernel
theorem dX8_place_114 : decode cX8_place 114 = .ok (.ldc2_w 89, 3) := by decide +kernel
theorem dX8_place_117 : decode cX8_place 117 = .ok (.lrem, 1) := by decide +kernel
theorem dX8_place_118 : decode cX8_place 118 = .ok (.iload 4, 2) := by decide +kernel
theorem dX8_place_120 : decode cX8_place 120 = .ok (.i2l, 1) := by decide +kernel
theorem dX8_place_121 : decode cX8_place 121 = .ok (.ladd, 1) := by decide +kernel
theorem dX8_place_122 : decode cX8_place 122 = .ok (.ldc2_w 89, 3) := by decide +kernel
theorem dX8_place_125 : decode cX8_place 125 = .ok (.lcmp, 1) := by decide +kernel
theorem dX8_place_126 : decode cX8_place 126 = .ok (.ifCond .le 5, 3) := by decide +kernel
theorem dX8_place_129 : decode cX8_place 129 = .ok (.iconst 0, 1) := by decide +kernel
theorem dX8_place_130 : decode cX8_place 130 = .ok (.ireturn, 1) := by decide +kernel
theorem dX8_place_131 : decode cX8_place 131 = .ok (.iconst 0, 1) := by decide +kernel
theorem dX8_place_132 : decode cX8_place 132 = .ok (.istore 5, 2) := by decide +kernel
theorem dX8_place_134 : decode cX8_place 134 = .ok (.iload 5, 2) := by decide +kernel
theorem dX8_place_136 : decode cX8_place 136 = .ok (.iload 4, 2) := by decide +kernel
theorem dX8_place_138 : decode cX8_place 138 = .ok (.if_icmp .ge 83, 3) := by decide +kernel
theorem dX8_place_141 : decode cX8_place 141 = .ok (.iload 4, 2) := by decide +kernel
theorem dX8_place_143 : decode cX8_place 143 = .ok (.iconst 1, 1) := by decide +kernel
theorem dX8_place_144 : decode cX8_place 144 = .ok (.if_icmp .ne 10, 3) := by decide +kernel
theorem dX8_place_147 : decode cX8_place 147 = .ok (.aload_n 0, 1) := by decide +kernel
theorem dX8_place_148 : decode cX8_place 148 = .ok (.getfield 139, 3) := by decide +kernel
theorem dX8_place_151 : decode cX8_place 151 = .ok (.goto 16, 3) := by decide +kernel
theorem dX8_place_154 : decode cX8_place 154 = .ok (.aload_n 0, 1) := by decide +kernel
theorem dX8_place_155 : decode cX8_place 155 = .ok (.getfield 9, 3) := by decide +kernel
theorem dX8_place_158 : decode cX8_place 158 = .ok (.aload_n 0, 1) := by decide +kernel
theorem dX8_place_159 : decode cX8_place 159 = .ok (.getfield 139, 3) := by decide +kernel
theorem dX8_place_162 : decode cX8_place 162 = .ok (.l2i, 1) := by decide +kernel
theorem dX8_place_163 : decode cX8_place 163 = .ok (.iload 5, 2) := by decide +kernel
theorem dX8_place_165 : decode cX8_place 165 = .ok (.iadd, 1) := by decide +kernel
theorem dX8_place_166 : decode cX8_place 166 = .ok (.laload, 1) := by decide +kernel
theorem dX8_place_167 : decode cX8_place 167 = .ok (.lstore 6, 2) := by decide +kernel
theorem dX8_place_169 : decode cX8_place 169 = .ok (.lload 6, 2) := by decide +kernel
theorem dX8_place_171 : decode cX8_place 171 = .ok (.invokestatic 183, 3) := by decide +kernel
theorem dX8_place_174 : decode cX8_place 174 = .ok (.ifCond .ne 5, 3) := by decide +kernel
theorem dX8_place_177 : decode cX8_place 177 = .ok (.iconst 0, 1) := by decide +kernel
theorem dX8_place_178 : decode cX8_place 178 = .ok (.ireturn, 1) := by decide +kernel
theorem dX8_place_179 : decode cX8_place 179 = .ok (.iconst 0, 1) := by decide +kernel
theorem dX8_place_180 : decode cX8_place 180 = .ok (.istore 8, 2) := by decide +kernel
theorem dX8_place_182 : decode cX8_place 182 = .ok (.iload 8, 2) := by decide +kernel
theorem dX8_place_184 : decode cX8_place 184 = .ok (.bipush 16, 2) := by decide +kernel
theorem dX8_place_186 : decode cX8_place 186 = .ok (.if_icmp .ge 29, 3) := by decide +kernel
theorem dX8_place_189 : decode cX8_place 189 = .ok (.iload_n 2, 1) := by decide +kernel
theorem dX8_place_190 : decode cX8_place 190 = .ok (.iload_n 1, 1) := by decide +kernel
theorem dX8_place_191 : decode cX8_place 191 = .ok (.if_icmp .ge 24, 3) := by decide +kernel
theorem dX8_place_194 : decode cX8_place 194 = .ok (.aload_n 0, 1) := by decide +kernel
theorem dX8_place_195 : decode cX8_place 195 = .ok (.getfield 54, 3) := by decide +kernel
theorem dX8_place_198 : decode cX8_place 198 = .ok (.iload_n 2, 1) := by decide +kernel
theorem dX8_place_199 : decode cX8_place 199 = .ok (.lload 6, 2) := by decide +kernel
theorem dX8_place_201 : decode cX8_place 201 = .ok (.l2i, 1) := by decide +kernel
theorem dX8_place_202 : decode cX8_place 202 = .ok (.iload 8, 2) := by decide +kernel
theorem dX8_place_204 : decode cX8_place 204 = .ok (.iadd, 1) := by decide +kernel
theorem dX8_place_205 : decode cX8_place 205 = .ok (.iastore, 1) := by decide +kernel
theorem dX8_place_206 : decode cX8_place 206 = .ok (.iinc 2 1, 3) := by decide +kernel
theorem dX8_place_209 : decode cX8_place 209 = .ok (.iinc 8 1, 3) := by decide +kernel
theorem dX8_place_212 : decode cX8_place 212 = .ok (.goto (-30), 3) := by decide +kernel
theorem dX8_place_215 : decode cX8_place 215 = .ok (.iinc 5 1, 3) := by decide +kernel
theorem dX8_place_218 : decode cX8_place 218 = .ok (.goto (-84), 3) := by decide +kernel
theorem dX8_place_221 : decode cX8_place 221 = .ok (.iconst 1, 1) := by decide +kernel
theorem dX8_place_222 : decode cX8_place 222 = .ok (.ireturn, 1) := by decide +kernel
theorem dX8_blocks_0 : decode cX8_blocks 0 = .ok (.aload_n 0, 1) := by decide +kernel
theorem dX8_blocks_1 : decode cX8_blocks 1 = .ok (.getfield 147, 3) := by decide +kernel
theorem dX8_blocks_4 : decode cX8_blocks 4 = .ok (.bipush 16, 2) := by decide +kernel
theorem dX8_blocks_6 : decode cX8_blocks 6 = .ok (.if_icmp .ne 9, 3) := by decide +kernel
theorem dX8_blocks_9 : decode cX8_blocks 9 = .ok (.aload_n 0, 1) := by decide +kernel
theorem dX8_blocks_10 : decode cX8_blocks 10 = .ok (.invokevirtual 118, 3) := by decide +kernel
theorem dX8_blocks_13 : decode cX8_blocks 13 = .ok (.iconst 0, 1) := by decide +kernel
theorem dX8_blocks_14 : decode cX8_blocks 14 = .ok (.ireturn, 1) := by decide +kernel
theorem dX8_blocks_15 : decode cX8_blocks 15 = .ok (.aload_n 0, 1) := by decide +kernel
theorem dX8_blocks_16 : decode cX8_blocks 16 = .ok (.getfield 147, 3) := by decide +kernel
theorem dX8_blocks_19 : decode cX8_blocks 19 = .ok (.bipush 17, 2) := by decide +kernel
theorem dX8_blocks_21 : decode cX8_blocks 21 = .ok (.if_icmp .lt 12, 3) := by decide +kernel
theorem dX8_blocks_24 : decode cX8_blocks 24 = .ok (.aload_n 0, 1) := by decide +kernel
theorem dX8_blocks_25 : decode cX8_blocks 25 = .ok (.getfield 147, 3) := by decide +kernel
theorem dX8_blocks_28 : decode cX8_blocks 28 = .ok (.bipush 21, 2) := by decide +kernel
theorem dX8_blocks_30 : decode cX8_blocks 30 = .ok (.if_icmp .le 5, 3) := by decide +kernel
theorem dX8_blocks_33 : decode cX8_blocks 33 = .ok (.iconst 1, 1) := by decide +kernel
theorem dX8_blocks_34 : decode cX8_blocks 34 = .ok (.ireturn, 1) := by decide +kernel
theorem dX8_blocks_35 : decode cX8_blocks 35 = .ok (.aload_n 0, 1) := by decide +kernel
theorem dX8_blocks_36 : decode cX8_blocks 36 = .ok (.getfield 142, 3) := by decide +kernel
theorem dX8_blocks_39 : decode cX8_blocks 39 = .ok (.lconst 0, 1) := by decide +kernel
theorem dX8_blocks_40 : decode cX8_blocks 40 = .ok (.ldc2_w 187, 3) := by decide +kernel
theorem dX8_blocks_43 : decode cX8_blocks 43 = .ok (.invokestatic 62, 3) := by decide +kernel
theorem dX8_blocks_46 : decode cX8_blocks 46 = .ok (.ifCond .eq 22, 3) := by decide +kernel
theorem dX8_blocks_49 : decode cX8_blocks 49 = .ok (.aload_n 0, 1) := by decide +kernel
theorem dX8_blocks_50 : decode cX8_blocks 50 = .ok (.getfield 142, 3) := by decide +kernel
theorem dX8_blocks_53 : decode cX8_blocks 53 = .ok (.aload_n 0, 1) := by decide +kernel
theorem dX8_blocks_54 : decode cX8_blocks 54 = .ok (.getfield 153, 3) := by decide +kernel
theorem dX8_blocks_57 : decode cX8_blocks 57 = .ok (.i2l, 1) := by decide +kernel
theorem dX8_blocks_58 : decode cX8_blocks 58 = .ok (.ladd, 1) := by decide +kernel
theorem dX8_blocks_59 : decode cX8_blocks 59 = .ok (.lconst 1, 1) := by decide +kernel
theorem dX8_blocks_60 : decode cX8_blocks 60 = .ok (.lsub, 1) := by decide +kernel
theorem dX8_blocks_61 : decode cX8_blocks 61 = .ok (.ldc2_w 187, 3) := by decide +kernel
theorem dX8_blocks_64 : decode cX8_blocks 64 = .ok (.lcmp, 1) := by decide +kernel
theorem dX8_blocks_65 : decode cX8_blocks 65 = .ok (.ifCond .le 5, 3) := by decide +kernel
theorem dX8_blocks_68 : decode cX8_blocks 68 = .ok (.iconst 3, 1) := by decide +kernel
theorem dX8_blocks_69 : decode cX8_blocks 69 = .ok (.ireturn, 1) := by decide +kernel
theorem dX8_blocks_70 : decode cX8_blocks 70 = .ok (.aload_n 0, 1) := by decide +kernel
theorem dX8_blocks_71 : decode cX8_blocks 71 = .ok (.getfield 142, 3) := by decide +kernel
theorem dX8_blocks_74 : decode cX8_blocks 74 = .ok (.l2i, 1) := by decide +kernel
theorem dX8_blocks_75 : decode cX8_blocks 75 = .ok (.istore_n 1, 1) := by decide +kernel
theorem dX8_blocks_76 : decode cX8_blocks 76 = .ok (.bipush 8, 2) := by decide +kernel
theorem dX8_blocks_78 : decode cX8_blocks 78 = .ok (.aload_n 0, 1) := by decide +kernel
theorem dX8_blocks_79 : decode cX8_blocks 79 = .ok (.getfield 153, 3) := by decide +kernel
theorem dX8_blocks_82 : decode cX8_blocks 82 = .ok (.imul, 1) := by decide +kernel
theorem dX8_blocks_83 : decode cX8_blocks 83 = .ok (.istore_n 2, 1) := by decide +kernel
theorem dX8_blocks_84 : decode cX8_blocks 84 = .ok (.aload_n 0, 1) := by decide +kernel
theorem dX8_blocks_85 : decode cX8_blocks 85 = .ok (.getfield 147, 3) := by decide +kernel
theorem dX8_blocks_88 : decode cX8_blocks 88 = .ok (.bipush 21, 2) := by decide +kernel
theorem dX8_blocks_90 : decode cX8_blocks 90 = .ok (.if_icmp .ne 82, 3) := by decide +kernel
theorem dX8_blocks_93 : decode cX8_blocks 93 = .ok (.aload_n 0, 1) := by decide +kernel
theorem dX8_blocks_94 : decode cX8_blocks 94 = .ok (.getfield 136, 3) := by decide +kernel
theorem dX8_blocks_97 : decode cX8_blocks 97 = .ok (.invokestatic 183, 3) := by decide +kernel
theorem dX8_blocks_100 : decode cX8_blocks 100 = .ok (.ifCond .eq 41, 3) := by decide +kernel
theorem dX8_blocks_103 : decode cX8_blocks 103 = .ok (.aload_n 0, 1) := by decide +kernel
theorem dX8_blocks_104 : decode cX8_blocks 104 = .ok (.getfield 139, 3) := by decide +kernel
theorem dX8_blocks_107 : decode cX8_blocks 107 = .ok (.invokestatic 183, 3) := by decide +kernel
theorem dX8_blocks_110 : decode cX8_blocks 110 = .ok (.ifCond .eq 31, 3) := by decide +kernel
theorem dX8_blocks_113 : decode cX8_blocks 113 = .ok (.aload_n 0, 1) := by decide +kernel
theorem dX8_blocks_114 : decode cX8_blocks 114 = .ok (.getfield 136, 3) := by decide +kernel
theorem dX8_blocks_117 : decode cX8_blocks 117 = .ok (.iload_n 2, 1) := by decide +kernel
theorem dX8_blocks_118 : decode cX8_blocks 118 = .ok (.i2l, 1) := by decide +kernel
theorem dX8_blocks_119 : decode cX8_blocks 119 = .ok (.ladd, 1) := by decide +kernel
theorem dX8_blocks_120 : decode cX8_blocks 120 = .ok (.ldc2_w 93, 3) := by decide +kernel
theorem dX8_blocks_123 : decode cX8_blocks 123 = .ok (.lcmp, 1) := by decide +kernel
theorem dX8_blocks_124 : decode cX8_blocks 124 = .ok (.ifCond .gt 17, 3) := by decide +kernel
theorem dX8_blocks_127 : decode cX8_blocks 127 = .ok (.aload_n 0, 1) := by decide +kernel
theorem dX8_blocks_128 : decode cX8_blocks 128 = .ok (.getfield 139, 3) := by decide +kernel
theorem dX8_blocks_131 : decode cX8_blocks 131 = .ok (.iload_n 2, 1) := by decide +kernel
theorem dX8_blocks_132 : decode cX8_blocks 132 = .ok (.i2l, 1) := by decide +kernel
theorem dX8_blocks_133 : decode cX8_blocks 133 = .ok (.ladd, 1) := by decide +kernel
theorem dX8_blocks_134 : decode cX8_blocks 134 = .ok (.ldc2_w 93, 3) := by decide +kernel
theorem dX8_blocks_137 : decode cX8_blocks 137 = .ok (.lcmp, 1) := by decide +kernel
theorem dX8_blocks_138 : decode cX8_blocks 138 = .ok (.ifCond .le 5, 3) := by decide +kernel
theorem dX8_blocks_141 : decode cX8_blocks 141 = .ok (.iconst 4, 1) := by decide +kernel
theorem dX8_blocks_142 : decode cX8_blocks 142 = .ok (.ireturn, 1) := by decide +kernel
theorem dX8_blocks_143 : decode cX8_blocks 143 = .ok (.iconst 0, 1) := by decide +kernel
theorem dX8_blocks_144 : decode cX8_blocks 144 = .ok (.istore_n 3, 1) := by decide +kernel
theorem dX8_blocks_145 : decode cX8_blocks 145 = .ok (.iload_n 3, 1) := by decide +kernel
theorem dX8_blocks_146 : decode cX8_blocks 146 = .ok (.iload_n 2, 1) := by decide +kernel
theorem dX8_blocks_147 : decode cX8_blocks 147 = .ok (.if_icmp .ge 22, 3) := by decide +kernel
theorem dX8_blocks_150 : decode cX8_blocks 150 = .ok (.aload_n 0, 1) := by decide +kernel
theorem dX8_blocks_151 : decode cX8_blocks 151 = .ok (.getfield 54, 3) := by decide +kernel
theorem dX8_blocks_154 : decode cX8_blocks 154 = .ok (.iload_n 3, 1) := by decide +kernel
theorem dX8_blocks_155 : decode cX8_blocks 155 = .ok (.aload_n 0, 1) := by decide +kernel
theorem dX8_blocks_156 : decode cX8_blocks 156 = .ok (.getfield 136, 3) := by decide +kernel
theorem dX8_blocks_159 : decode cX8_blocks 159 = .ok (.l2i, 1) := by decide +kernel
theorem dX8_blocks_160 : decode cX8_blocks 160 = .ok (.iload_n 3, 1) := by decide +kernel
theorem dX8_blocks_161 : decode cX8_blocks 161 = .ok (.iadd, 1) := by decide +kernel
theorem dX8_blocks_162 : decode cX8_blocks 162 = .ok (.iastore, 1) := by decide +kernel
theorem dX8_blocks_163 : decode cX8_blocks 163 = .ok (.iinc 3 1, 3) := by decide +kernel
theorem dX8_blocks_166 : decode cX8_blocks 166 = .ok (.goto (-21), 3) := by decide +kernel
theorem dX8_blocks_169 : decode cX8_blocks 169 = .ok (.goto 21, 3) := by decide +kernel
theorem dX8_blocks_172 : decode cX8_blocks 172 = .ok (.aload_n 0, 1) := by decide +kernel
theorem dX8_blocks_173 : decode cX8_blocks 173 = .ok (.getfield 147, 3) := by decide +kernel
theorem dX8_blocks_176 : decode cX8_blocks 176 = .ok (.bipush 20, 2) := by decide +kernel
theorem dX8_blocks_178 : decode cX8_blocks 178 = .ok (.if_icmp .eq 12, 3) := by decide +kernel
theorem dX8_blocks_181 : decode cX8_blocks 181 = .ok (.aload_n 0, 1) := by decide +kernel
theorem dX8_blocks_182 : decode cX8_blocks 182 = .ok (.invokevirtual 174, 3) := by decide +kernel
theorem dX8_blocks_185 : decode cX8_blocks 185 = .ok (.ifCond .ne 5, 3) := by decide +kernel
theorem dX8_blocks_188 : decode cX8_blocks 188 = .ok (.iconst 4, 1) := by decide +kernel
theorem dX8_blocks_189 : decode cX8_blocks 189 = .ok (.ireturn, 1) := by decide +kernel
theorem dX8_blocks_190 : decode cX8_blocks 190 = .ok (.aload_n 0, 1) := by decide +kernel
theorem dX8_blocks_191 : decode cX8_blocks 191 = .ok (.getfield 147, 3) := by decide +kernel
theorem dX8_blocks_194 : decode cX8_blocks 194 = .ok (.bipush 18, 2) := by decide +kernel
theorem dX8_blocks_196 : decode cX8_blocks 196 = .ok (.if_icmp .ne 58, 3) := by decide +kernel
theorem dX8_blocks_199 : decode cX8_blocks 199 = .ok (.iconst 0, 1) := by decide +kernel
theorem dX8_blocks_200 : decode cX8_blocks 200 = .ok (.istore_n 3, 1) := by decide +kernel
theorem dX8_blocks_201 : decode cX8_blocks 201 = .ok (.iload_n 3, 1) := by decide +kernel
theorem dX8_blocks_202 : decode cX8_blocks 202 = .ok (.iload_n 2, 1) := by decide +kernel
theorem dX8_blocks_203 : decode cX8_blocks 203 = .ok (.if_icmp .ge 35, 3) := by decide +kernel
theorem dX8_blocks_206 : decode cX8_blocks 206 = .ok (.aload_n 0, 1) := by decide +kernel
theorem dX8_blocks_207 : decode cX8_blocks 207 = .ok (.getfield 9, 3) := by decide +kernel
theorem dX8_blocks_210 : decode cX8_blocks 210 = .ok (.aload_n 0, 1) := by decide +kernel
theorem dX8_blocks_211 : decode cX8_blocks 211 = .ok (.getfield 54, 3) := by decide +kernel
theorem dX8_blocks_214 : decode cX8_blocks 214 = .ok (.iload_n 3, 1) := by decide +kernel
theorem dX8_blocks_215 : decode cX8_blocks 215 = .ok (.iaload, 1) := by decide +kernel
theorem dX8_blocks_216 : decode cX8_blocks 216 = .ok (.aload_n 0, 1) := by decide +kernel
theorem dX8_blocks_217 : decode cX8_blocks 217 = .ok (.iload_n 1, 1) := by decide +kernel
theorem dX8_blocks_218 : decode cX8_blocks 218 = .ok (.iload_n 3, 1) := by decide +kernel
theorem dX8_blocks_219 : decode cX8_blocks 219 = .ok (.bipush 8, 2) := by decide +kernel
theorem dX8_blocks_221 : decode cX8_blocks 221 = .ok (.idiv, 1) := by decide +kernel
theorem dX8_blocks_222 : decode cX8_blocks 222 = .ok (.iadd, 1) := by decide +kernel
theorem dX8_blocks_223 : decode cX8_blocks 223 = .ok (.invokevirtual 189, 3) := by decide +kernel
theorem dX8_blocks_226 : decode cX8_blocks 226 = .ok (.iload_n 3, 1) := by decide +kernel
theorem dX8_blocks_227 : decode cX8_blocks 227 = .ok (.bipush 8, 2) := by decide +kernel
theorem dX8_blocks_229 : decode cX8_blocks 229 = .ok (.irem, 1) := by decide +kernel
theorem dX8_blocks_230 : decode cX8_blocks 230 = .ok (.laload, 1) := by decide +kernel
theorem dX8_blocks_231 : decode cX8_blocks 231 = .ok (.lastore, 1) := by decide +kernel
theorem dX8_blocks_232 : decode cX8_blocks 232 = .ok (.iinc 3 1, 3) := by decide +kernel
theorem dX8_blocks_235 : decode cX8_blocks 235 = .ok (.goto (-34), 3) := by decide +kernel
theorem dX8_blocks_238 : decode cX8_blocks 238 = .ok (.aload_n 0, 1) := by decide +kernel
theorem dX8_blocks_239 : decode cX8_blocks 239 = .ok (.dup, 1) := by decide +kernel
theorem dX8_blocks_240 : decode cX8_blocks 240 = .ok (.getfield 180, 3) := by decide +kernel
theorem dX8_blocks_243 : decode cX8_blocks 243 = .ok (.aload_n 0, 1) := by decide +kernel
theorem dX8_blocks_244 : decode cX8_blocks 244 = .ok (.getfield 153, 3) := by decide +kernel
theorem dX8_blocks_247 : decode cX8_blocks 247 = .ok (.i2l, 1) := by decide +kernel
theorem dX8_blocks_248 : decode cX8_blocks 248 = .ok (.ladd, 1) := by decide +kernel
theorem dX8_blocks_249 : decode cX8_blocks 249 = .ok (.putfield 180, 3) := by decide +kernel
theorem dX8_blocks_252 : decode cX8_blocks 252 = .ok (.iconst 0, 1) := by decide +kernel
theorem dX8_blocks_253 : decode cX8_blocks 253 = .ok (.ireturn, 1) := by decide +kernel
theorem dX8_blocks_254 : decode cX8_blocks 254 = .ok (.aload_n 0, 1) := by decide +kernel
theorem dX8_blocks_255 : decode cX8_blocks 255 = .ok (.getfield 147, 3) := by decide +kernel
theorem dX8_blocks_258 : decode cX8_blocks 258 = .ok (.bipush 19, 2) := by decide +kernel
theorem dX8_blocks_260 : decode cX8_blocks 260 = .ok (.if_icmp .eq 12, 3) := by decide +kernel
theorem dX8_blocks_263 : decode cX8_blocks 263 = .ok (.aload_n 0, 1) := by decide +kernel
theorem dX8_blocks_264 : decode cX8_blocks 264 = .ok (.getfield 147, 3) := by decide +kernel
theorem dX8_blocks_267 : decode cX8_blocks 267 = .ok (.bipush 21, 2) := by decide +kernel
theorem dX8_blocks_269 : decode cX8_blocks 269 = .ok (.if_icmp .ne 48, 3) := by decide +kernel
theorem dX8_blocks_272 : decode cX8_blocks 272 = .ok (.iconst 0, 1) := by decide +kernel
theorem dX8_blocks_273 : decode cX8_blocks 273 = .ok (.istore_n 3, 1) := by decide +kernel
theorem dX8_blocks_274 : decode cX8_blocks 274 = .ok (.iload_n 3, 1) := by decide +kernel
theorem dX8_blocks_275 : decode cX8_blocks 275 = .ok (.iload_n 2, 1) := by decide +kernel
theorem dX8_blocks_276 : decode cX8_blocks 276 = .ok (.if_icmp .ge 41, 3) := by decide +kernel
theorem dX8_blocks_279 : decode cX8_blocks 279 = .ok (.aload_n 0, 1) := by decide +kernel
theorem dX8_blocks_280 : decode cX8_blocks 280 = .ok (.getfield 9, 3) := by decide +kernel
theorem dX8_blocks_283 : decode cX8_blocks 283 = .ok (.aload_n 0, 1) := by decide +kernel
theorem dX8_blocks_284 : decode cX8_blocks 284 = .ok (.getfield 54, 3) := by decide +kernel
theorem dX8_blocks_287 : decode cX8_blocks 287 = .ok (.iload_n 3, 1) := by decide +kernel
theorem dX8_blocks_288 : decode cX8_blocks 288 = .ok (.iaload, 1) := by decide +kernel
theorem dX8_blocks_289 : decode cX8_blocks 289 = .ok (.laload, 1) := by decide +kernel
theorem dX8_blocks_290 : decode cX8_blocks 290 = .ok (.aload_n 0, 1) := by decide +kernel
theorem dX8_blocks_291 : decode cX8_blocks 291 = .ok (.iload_n 1, 1) := by decide +kernel
theorem dX8_blocks_292 : decode cX8_blocks 292 = .ok (.iload_n 3, 1) := by decide +kernel
theorem dX8_blocks_293 : decode cX8_blocks 293 = .ok (.bipush 8, 2) := by decide +kernel
theorem dX8_blocks_295 : decode cX8_blocks 295 = .ok (.idiv, 1) := by decide +kernel
theorem dX8_blocks_296 : decode cX8_blocks 296 = .ok (.iadd, 1) := by decide +kernel
theorem dX8_blocks_297 : decode cX8_blocks 297 = .ok (.invokevirtual 189, 3) := by decide +kernel
theorem dX8_blocks_300 : decode cX8_blocks 300 = .ok (.iload_n 3, 1) := by decide +kernel
theorem dX8_blocks_301 : decode cX8_blocks 301 = .ok (.bipush 8, 2) := by decide +kernel
theorem dX8_blocks_303 : decode cX8_blocks 303 = .ok (.irem, 1) := by decide +kernel
theorem dX8_blocks_304 : decode cX8_blocks 304 = .ok (.laload, 1) := by decide +kernel
theorem dX8_blocks_305 : decode cX8_blocks 305 = .ok (.lcmp, 1) := by decide +kernel
theorem dX8_blocks_306 : decode cX8_blocks 306 = .ok (.ifCond .eq 5, 3) := by decide +kernel
theorem dX8_blocks_309 : decode cX8_blocks 309 = .ok (.iconst 5, 1) := by decide +kernel
theorem dX8_blocks_310 : decode cX8_blocks 310 = .ok (.ireturn, 1) := by decide +kernel
theorem dX8_blocks_311 : decode cX8_blocks 311 = .ok (.iinc 3 1, 3) := by decide +kernel
theorem dX8_blocks_314 : decode cX8_blocks 314 = .ok (.goto (-40), 3) := by decide +kernel
theorem dX8_blocks_317 : decode cX8_blocks 317 = .ok (.aload_n 0, 1) := by decide +kernel
theorem dX8_blocks_318 : decode cX8_blocks 318 = .ok (.getfield 147, 3) := by decide +kernel
theorem dX8_blocks_321 : decode cX8_blocks 321 = .ok (.bipush 19, 2) := by decide +kernel
theorem dX8_blocks_323 : decode cX8_blocks 323 = .ok (.if_icmp .ne 5, 3) := by decide +kernel
theorem dX8_blocks_326 : decode cX8_blocks 326 = .ok (.iconst 0, 1) := by decide +kernel
theorem dX8_blocks_327 : decode cX8_blocks 327 = .ok (.ireturn, 1) := by decide +kernel
theorem dX8_blocks_328 : decode cX8_blocks 328 = .ok (.iconst 0, 1) := by decide +kernel
theorem dX8_blocks_329 : decode cX8_blocks 329 = .ok (.istore_n 3, 1) := by decide +kernel
theorem dX8_blocks_330 : decode cX8_blocks 330 = .ok (.iload_n 3, 1) := by decide +kernel
theorem dX8_blocks_331 : decode cX8_blocks 331 = .ok (.aload_n 0, 1) := by decide +kernel
theorem dX8_blocks_332 : decode cX8_blocks 332 = .ok (.getfield 153, 3) := by decide +kernel
theorem dX8_blocks_335 : decode cX8_blocks 335 = .ok (.if_icmp .ge 103, 3) := by decide +kernel
theorem dX8_blocks_338 : decode cX8_blocks 338 = .ok (.iconst 0, 1) := by decide +kernel
theorem dX8_blocks_339 : decode cX8_blocks 339 = .ok (.istore 4, 2) := by decide +kernel
theorem dX8_blocks_341 : decode cX8_blocks 341 = .ok (.iload 4, 2) := by decide +kernel
theorem dX8_blocks_343 : decode cX8_blocks 343 = .ok (.bipush 8, 2) := by decide +kernel
theorem dX8_blocks_345 : decode cX8_blocks 345 = .ok (.if_icmp .ge 76, 3) := by decide +kernel
theorem dX8_blocks_348 : decode cX8_blocks 348 = .ok (.aload_n 0, 1) := by decide +kernel
theorem dX8_blocks_349 : decode cX8_blocks 349 = .ok (.getfield 57, 3) := by decide +kernel
theorem dX8_blocks_352 : decode cX8_blocks 352 = .ok (.iload 4, 2) := by decide +kernel
theorem dX8_blocks_354 : decode cX8_blocks 354 = .ok (.aload_n 0, 1) := by decide +kernel
theorem dX8_blocks_355 : decode cX8_blocks 355 = .ok (.getfield 147, 3) := by decide +kernel
theorem dX8_blocks_358 : decode cX8_blocks 358 = .ok (.bipush 20, 2) := by decide +kernel
theorem dX8_blocks_360 : decode cX8_blocks 360 = .ok (.if_icmp .ne 7, 3) := by decide +kernel
theorem dX8_blocks_363 : decode cX8_blocks 363 = .ok (.lconst 0, 1) := by decide +kernel
theorem dX8_blocks_364 : decode cX8_blocks 364 = .ok (.goto 50, 3) := by decide +kernel
theorem dX8_blocks_367 : decode cX8_blocks 367 = .ok (.aload_n 0, 1) := by decide +kernel
theorem dX8_blocks_368 : decode cX8_blocks 368 = .ok (.getfield 147, 3) := by decide +kernel
theorem dX8_blocks_371 : decode cX8_blocks 371 = .ok (.bipush 21, 2) := by decide +kernel
theorem dX8_blocks_373 : decode cX8_blocks 373 = .ok (.if_icmp .ne 24, 3) := by decide +kernel
theorem dX8_blocks_376 : decode cX8_blocks 376 = .ok (.aload_n 0, 1) := by decide +kernel
theorem dX8_blocks_377 : decode cX8_blocks 377 = .ok (.getfield 9, 3) := by decide +kernel
theorem dX8_blocks_380 : decode cX8_blocks 380 = .ok (.aload_n 0, 1) := by decide +kernel
theorem dX8_blocks_381 : decode cX8_blocks 381 = .ok (.getfield 139, 3) := by decide +kernel
theorem dX8_blocks_384 : decode cX8_blocks 384 = .ok (.l2i, 1) := by decide +kernel
theorem dX8_blocks_385 : decode cX8_blocks 385 = .ok (.bipush 8, 2) := by decide +kernel
theorem dX8_blocks_387 : decode cX8_blocks 387 = .ok (.iload_n 3, 1) := by decide +kernel
theorem dX8_blocks_388 : decode cX8_blocks 388 = .ok (.imul, 1) := by decide +kernel
theorem dX8_blocks_389 : decode cX8_blocks 389 = .ok (.iadd, 1) := by decide +kernel
theorem dX8_blocks_390 : decode cX8_blocks 390 = .ok (.iload 4, 2) := by decide +kernel
theorem dX8_blocks_392 : decode cX8_blocks 392 = .ok (.iadd, 1) := by decide +kernel
theorem dX8_blocks_393 : decode cX8_blocks 393 = .ok (.laload, 1) := by decide +kernel
theorem dX8_blocks_394 : decode cX8_blocks 394 = .ok (.goto 20, 3) := by decide +kernel
theorem dX8_blocks_397 : decode cX8_blocks 397 = .ok (.aload_n 0, 1) := by decide +kernel
theorem dX8_blocks_398 : decode cX8_blocks 398 = .ok (.getfield 9, 3) := by decide +kernel
theorem dX8_blocks_401 : decode cX8_blocks 401 = .ok (.aload_n 0, 1) := by decide +kernel
theorem dX8_blocks_402 : decode cX8_blocks 402 = .ok (.getfield 54, 3) := by decide +kernel
theorem dX8_blocks_405 : decode cX8_blocks 405 = .ok (.bipush 8, 2) := by decide +kernel
theorem dX8_blocks_407 : decode cX8_blocks 407 = .ok (.iload_n 3, 1) := by decide +kernel
theorem dX8_blocks_408 : decode cX8_blocks 408 = .ok (.imul, 1) := by decide +kernel
theorem dX8_blocks_409 : decode cX8_blocks 409 = .ok (.iload 4, 2) := by decide +kernel
theorem dX8_blocks_411 : decode cX8_blocks 411 = .ok (.iadd, 1) := by decide +kernel
theorem dX8_blocks_412 : decode cX8_blocks 412 = .ok (.iaload, 1) := by decide +kernel
theorem dX8_blocks_413 : decode cX8_blocks 413 = .ok (.laload, 1) := by decide +kernel
theorem dX8_blocks_414 : decode cX8_blocks 414 = .ok (.lastore, 1) := by decide +kernel
theorem dX8_blocks_415 : decode cX8_blocks 415 = .ok (.iinc 4 1, 3) := by decide +kernel
theorem dX8_blocks_418 : decode cX8_blocks 418 = .ok (.goto (-77), 3) := by decide +kernel
theorem dX8_blocks_421 : decode cX8_blocks 421 = .ok (.aload_n 0, 1) := by decide +kernel
theorem dX8_blocks_422 : decode cX8_blocks 422 = .ok (.iload_n 1, 1) := by decide +kernel
theorem dX8_blocks_423 : decode cX8_blocks 423 = .ok (.iload_n 3, 1) := by decide +kernel
theorem dX8_blocks_424 : decode cX8_blocks 424 = .ok (.iadd, 1) := by decide +kernel
theorem dX8_blocks_425 : decode cX8_blocks 425 = .ok (.aload_n 0, 1) := by decide +kernel
theorem dX8_blocks_426 : decode cX8_blocks 426 = .ok (.getfield 57, 3) := by decide +kernel
theorem dX8_blocks_429 : decode cX8_blocks 429 = .ok (.invokevirtual 193, 3) := by decide +kernel
theorem dX8_blocks_432 : decode cX8_blocks 432 = .ok (.iinc 3 1, 3) := by decide +kernel
theorem dX8_blocks_435 : decode cX8_blocks 435 = .ok (.goto (-105), 3) := by decide +kernel
theorem dX8_blocks_438 : decode cX8_blocks 438 = .ok (.aload_n 0, 1) := by decide +kernel
theorem dX8_blocks_439 : decode cX8_blocks 439 = .ok (.getfield 150, 3) := by decide +kernel
theorem dX8_blocks_442 : decode cX8_blocks 442 = .ok (.ifCond .eq 7, 3) := by decide +kernel
theorem dX8_blocks_445 : decode cX8_blocks 445 = .ok (.aload_n 0, 1) := by decide +kernel
theorem dX8_blocks_446 : decode cX8_blocks 446 = .ok (.invokevirtual 118, 3) := by decide +kernel
theorem dX8_blocks_449 : decode cX8_blocks 449 = .ok (.iconst 0, 1) := by decide +kernel
theorem dX8_blocks_450 : decode cX8_blocks 450 = .ok (.ireturn, 1) := by decide +kernel
theorem dX8_interrupts_0 : decode cX8_interrupts 0 = .ok (.aload_n 0, 1) := by decide +kernel
theorem dX8_interrupts_1 : decode cX8_interrupts 1 = .ok (.getfield 112, 3) := by decide +kernel
theorem dX8_interrupts_4 : decode cX8_interrupts 4 = .ok (.istore_n 2, 1) := by decide +kernel
theorem dX8_interrupts_5 : decode cX8_interrupts 5 = .ok (.aload_n 0, 1) := by decide +kernel
theorem dX8_interrupts_6 : decode cX8_interrupts 6 = .ok (.dup, 1) := by decide +kernel
theorem dX8_interrupts_7 : decode cX8_interrupts 7 = .ok (.getfield 112, 3) := by decide +kernel
theorem dX8_interrupts_10 : decode cX8_interrupts 10 = .ok (.iload_n 1, 1) := by decide +kernel
theorem dX8_interrupts_11 : decode cX8_interrupts 11 = .ok (.iconst (-1), 1) := by decide +kernel
theorem dX8_interrupts_12 : decode cX8_interrupts 12 = .ok (.ixor, 1) := by decide +kernel
theorem dX8_interrupts_13 : decode cX8_interrupts 13 = .ok (.iand, 1) := by decide +kernel
theorem dX8_interrupts_14 : decode cX8_interrupts 14 = .ok (.putfield 112, 3) := by decide +kernel
theorem dX8_interrupts_17 : decode cX8_interrupts 17 = .ok (.iload_n 2, 1) := by decide +kernel
theorem dX8_interrupts_18 : decode cX8_interrupts 18 = .ok (.ireturn, 1) := by decide +kernel
theorem dX8_block_0 : decode cX8_block 0 = .ok (.iload_n 1, 1) := by decide +kernel
theorem dX8_block_1 : decode cX8_block 1 = .ok (.i2l, 1) := by decide +kernel
theorem dX8_block_2 : decode cX8_block 2 = .ok (.lconst 0, 1) := by decide +kernel
theorem dX8_block_3 : decode cX8_block 3 = .ok (.ldc2_w 187, 3) := by decide +kernel
theorem dX8_block_6 : decode cX8_block 6 = .ok (.invokestatic 62, 3) := by decide +kernel
theorem dX8_block_9 : decode cX8_block 9 = .ok (.ifCond .eq 15, 3) := by decide +kernel
theorem dX8_block_12 : decode cX8_block 12 = .ok (.iload_n 2, 1) := by decide +kernel
theorem dX8_block_13 : decode cX8_block 13 = .ok (.i2l, 1) := by decide +kernel
theorem dX8_block_14 : decode cX8_block 14 = .ok (.lconst 0, 1) := by decide +kernel
theorem dX8_block_15 : decode cX8_block 15 = .ok (.ldc2_w 197, 3) := by decide +kernel
theorem dX8_block_18 : decode cX8_block 18 = .ok (.invokestatic 62, 3) := by decide +kernel
theorem dX8_block_21 : decode cX8_block 21 = .ok (.ifCond .ne 5, 3) := by decide +kernel
theorem dX8_block_24 : decode cX8_block 24 = .ok (.lconst 0, 1) := by decide +kernel
theorem dX8_block_25 : decode cX8_block 25 = .ok (.lreturn, 1) := by decide +kernel
theorem dX8_block_26 : decode cX8_block 26 = .ok (.iload_n 3, 1) := by decide +kernel
theorem dX8_block_27 : decode cX8_block 27 = .ok (.ifCond .eq 14, 3) := by decide +kernel
theorem dX8_block_30 : decode cX8_block 30 = .ok (.aload_n 0, 1) := by decide +kernel
theorem dX8_block_31 : decode cX8_block 31 = .ok (.getfield 15, 3) := by decide +kernel
theorem dX8_block_34 : decode cX8_block 34 = .ok (.iload_n 1, 1) := by decide +kernel
theorem dX8_block_35 : decode cX8_block 35 = .ok (.aaload, 1) := by decide +kernel
theorem dX8_block_36 : decode cX8_block 36 = .ok (.iload_n 2, 1) := by decide +kernel
theorem dX8_block_37 : decode cX8_block 37 = .ok (.laload, 1) := by decide +kernel
theorem dX8_block_38 : decode cX8_block 38 = .ok (.goto 10, 3) := by decide +kernel
theorem dX8_block_41 : decode cX8_block 41 = .ok (.aload_n 0, 1) := by decide +kernel
theorem dX8_block_42 : decode cX8_block 42 = .ok (.iload_n 1, 1) := by decide +kernel
theorem dX8_block_43 : decode cX8_block 43 = .ok (.invokevirtual 189, 3) := by decide +kernel
theorem dX8_block_46 : decode cX8_block 46 = .ok (.iload_n 2, 1) := by decide +kernel
theorem dX8_block_47 : decode cX8_block 47 = .ok (.laload, 1) := by decide +kernel
theorem dX8_block_48 : decode cX8_block 48 = .ok (.lreturn, 1) := by decide +kernel
theorem dX8_queue_0 : decode cX8_queue 0 = .ok (.iload_n 2, 1) := by decide +kernel
theorem dX8_queue_1 : decode cX8_queue 1 = .ok (.i2l, 1) := by decide +kernel
theorem dX8_queue_2 : decode cX8_queue 2 = .ok (.lconst 0, 1) := by decide +kernel
theorem dX8_queue_3 : decode cX8_queue 3 = .ok (.ldc2_w 199, 3) := by decide +kernel
theorem dX8_queue_6 : decode cX8_queue 6 = .ok (.invokestatic 62, 3) := by decide +kernel
theorem dX8_queue_9 : decode cX8_queue 9 = .ok (.ifCond .ne 5, 3) := by decide +kernel
theorem dX8_queue_12 : decode cX8_queue 12 = .ok (.iconst (-1), 1) := by decide +kernel
theorem dX8_queue_13 : decode cX8_queue 13 = .ok (.ireturn, 1) := by decide +kernel
theorem dX8_queue_14 : decode cX8_queue 14 = .ok (.iload_n 2, 1) := by decide +kernel
theorem dX8_queue_15 : decode cX8_queue 15 = .ok (.iconst 5, 1) := by decide +kernel
theorem dX8_queue_16 : decode cX8_queue 16 = .ok (.if_icmp .ge 7, 3) := by decide +kernel
theorem dX8_queue_19 : decode cX8_queue 19 = .ok (.iload_n 1, 1) := by decide +kernel
theorem dX8_queue_20 : decode cX8_queue 20 = .ok (.goto 6, 3) := by decide +kernel
theorem dX8_queue_23 : decode cX8_queue 23 = .ok (.iconst 4, 1) := by decide +kernel
theorem dX8_queue_24 : decode cX8_queue 24 = .ok (.iload_n 1, 1) := by decide +kernel
theorem dX8_queue_25 : decode cX8_queue 25 = .ok (.iadd, 1) := by decide +kernel
theorem dX8_queue_26 : decode cX8_queue 26 = .ok (.istore_n 3, 1) := by decide +kernel
theorem dX8_queue_27 : decode cX8_queue 27 = .ok (.iload_n 1, 1) := by decide +kernel
theorem dX8_queue_28 : decode cX8_queue 28 = .ok (.i2l, 1) := by decide +kernel
theorem dX8_queue_29 : decode cX8_queue 29 = .ok (.lconst 0, 1) := by decide +kernel
theorem dX8_queue_30 : decode cX8_queue 30 = .ok (.ldc2_w 121, 3) := by decide +kernel
theorem dX8_queue_33 : decode cX8_queue 33 = .ok (.invokestatic 62, 3) := by decide +kernel
theorem dX8_queue_36 : decode cX8_queue 36 = .ok (.ifCond .eq 12, 3) := by decide +kernel
theorem dX8_queue_39 : decode cX8_queue 39 = .ok (.aload_n 0, 1) := by decide +kernel
theorem dX8_queue_40 : decode cX8_queue 40 = .ok (.getfield 29, 3) := by decide +kernel
theorem dX8_queue_43 : decode cX8_queue 43 = .ok (.iload_n 3, 1) := by decide +kernel
theorem dX8_queue_44 : decode cX8_queue 44 = .ok (.baload, 1) := by decide +kernel
theorem dX8_queue_45 : decode cX8_queue 45 = .ok (.ifCond .ne 6, 3) := by decide +kernel
theorem dX8_queue_48 : decode cX8_queue 48 = .ok (.bipush (-2), 2) := by decide +kernel
theorem dX8_queue_50 : decode cX8_queue 50 = .ok (.ireturn, 1) := by decide +kernel
theorem dX8_queue_51 : decode cX8_queue 51 = .ok (.iload_n 2, 1) := by decide +kernel
theorem dX8_queue_52 : decode cX8_queue 52 = .ok (.tableswitch 86 0 8 #[52, 59, 66, 72, 79, 52, 59, 86, 72], 52) := by decide +kernel
theorem dX8_queue_104 : decode cX8_queue 104 = .ok (.aload_n 0, 1) := by decide +kernel
theorem dX8_queue_105 : decode cX8_queue 105 = .ok (.getfield 42, 3) := by decide +kernel
theorem dX8_queue_108 : decode cX8_queue 108 = .ok (.iload_n 3, 1) := by decide +kernel
theorem dX8_queue_109 : decode cX8_queue 109 = .ok (.iaload, 1) := by decide +kernel
theorem dX8_queue_110 : decode cX8_queue 110 = .ok (.ireturn, 1) := by decide +kernel
theorem dX8_queue_111 : decode cX8_queue 111 = .ok (.aload_n 0, 1) := by decide +kernel
theorem dX8_queue_112 : decode cX8_queue 112 = .ok (.getfield 45, 3) := by decide +kernel
theorem dX8_queue_115 : decode cX8_queue 115 = .ok (.iload_n 3, 1) := by decide +kernel
theorem dX8_queue_116 : decode cX8_queue 116 = .ok (.iaload, 1) := by decide +kernel
theorem dX8_queue_117 : decode cX8_queue 117 = .ok (.ireturn, 1) := by decide +kernel
theorem dX8_queue_118 : decode cX8_queue 118 = .ok (.aload_n 0, 1) := by decide +kernel
theorem dX8_queue_119 : decode cX8_queue 119 = .ok (.iload_n 3, 1) := by decide +kernel
theorem dX8_queue_120 : decode cX8_queue 120 = .ok (.invokevirtual 123, 3) := by decide +kernel
theorem dX8_queue_123 : decode cX8_queue 123 = .ok (.ireturn, 1) := by decide +kernel
theorem dX8_queue_124 : decode cX8_queue 124 = .ok (.aload_n 0, 1) := by decide +kernel
theorem dX8_queue_125 : decode cX8_queue 125 = .ok (.getfield 39, 3) := by decide +kernel
theorem dX8_queue_128 : decode cX8_queue 128 = .ok (.iload_n 3, 1) := by decide +kernel
theorem dX8_queue_129 : decode cX8_queue 129 = .ok (.iaload, 1) := by decide +kernel
theorem dX8_queue_130 : decode cX8_queue 130 = .ok (.ireturn, 1) := by decide +kernel
theorem dX8_queue_131 : decode cX8_queue 131 = .ok (.aload_n 0, 1) := by decide +kernel
theorem dX8_queue_132 : decode cX8_queue 132 = .ok (.getfield 48, 3) := by decide +kernel
theorem dX8_queue_135 : decode cX8_queue 135 = .ok (.iload_n 1, 1) := by decide +kernel
theorem dX8_queue_136 : decode cX8_queue 136 = .ok (.iaload, 1) := by decide +kernel
theorem dX8_queue_137 : decode cX8_queue 137 = .ok (.ireturn, 1) := by decide +kernel
theorem dX8_queue_138 : decode cX8_queue 138 = .ok (.aload_n 0, 1) := by decide +kernel
theorem dX8_queue_139 : decode cX8_queue 139 = .ok (.getfield 51, 3) := by decide +kernel
theorem dX8_queue_142 : decode cX8_queue 142 = .ok (.iload_n 1, 1) := by decide +kernel
theorem dX8_queue_143 : decode cX8_queue 143 = .ok (.iaload, 1) := by decide +kernel
theorem dX8_queue_144 : decode cX8_queue 144 = .ok (.ireturn, 1) := by decide +kernel
theorem dX8_count_0 : decode cX8_count 0 = .ok (.iload_n 1, 1) := by decide +kernel
theorem dX8_count_1 : decode cX8_count 1 = .ok (.tableswitch 81 0 5 #[39, 44, 57, 63, 69, 75], 39) := by decide +kernel
theorem dX8_count_40 : decode cX8_count 40 = .ok (.aload_n 0, 1) := by decide +kernel
theorem dX8_count_41 : decode cX8_count 41 = .ok (.getfield 66, 3) := by decide +kernel
theorem dX8_count_44 : decode cX8_count 44 = .ok (.ireturn, 1) := by decide +kernel
theorem dX8_count_45 : decode cX8_count 45 = .ok (.aload_n 0, 1) := by decide +kernel
theorem dX8_count_46 : decode cX8_count 46 = .ok (.getfield 25, 3) := by decide +kernel
theorem dX8_count_49 : decode cX8_count 49 = .ok (.ifCond .eq 7, 3) := by decide +kernel
theorem dX8_count_52 : decode cX8_count 52 = .ok (.iconst 1, 1) := by decide +kernel
theorem dX8_count_53 : decode cX8_count 53 = .ok (.goto 4, 3) := by decide +kernel
theorem dX8_count_56 : decode cX8_count 56 = .ok (.iconst 0, 1) := by decide +kernel
theorem dX8_count_57 : decode cX8_count 57 = .ok (.ireturn, 1) := by decide +kernel
theorem dX8_count_58 : decode cX8_count 58 = .ok (.aload_n 0, 1) := by decide +kernel
theorem dX8_count_59 : decode cX8_count 59 = .ok (.getfield 166, 3) := by decide +kernel
theorem dX8_count_62 : decode cX8_count 62 = .ok (.l2i, 1) := by decide +kernel
theorem dX8_count_63 : decode cX8_count 63 = .ok (.ireturn, 1) := by decide +kernel
theorem dX8_count_64 : decode cX8_count 64 = .ok (.aload_n 0, 1) := by decide +kernel
theorem dX8_count_65 : decode cX8_count 65 = .ok (.getfield 169, 3) := by decide +kernel
theorem dX8_count_68 : decode cX8_count 68 = .ok (.l2i, 1) := by decide +kernel
theorem dX8_count_69 : decode cX8_count 69 = .ok (.ireturn, 1) := by decide +kernel
theorem dX8_count_70 : decode cX8_count 70 = .ok (.aload_n 0, 1) := by decide +kernel
theorem dX8_count_71 : decode cX8_count 71 = .ok (.getfield 180, 3) := by decide +kernel
theorem dX8_count_74 : decode cX8_count 74 = .ok (.l2i, 1) := by decide +kernel
theorem dX8_count_75 : decode cX8_count 75 = .ok (.ireturn, 1) := by decide +kernel
theorem dX8_count_76 : decode cX8_count 76 = .ok (.aload_n 0, 1) := by decide +kernel
theorem dX8_count_77 : decode cX8_count 77 = .ok (.getfield 83, 3) := by decide +kernel
theorem dX8_count_80 : decode cX8_count 80 = .ok (.l2i, 1) := by decide +kernel
theorem dX8_count_81 : decode cX8_count 81 = .ok (.ireturn, 1) := by decide +kernel
theorem dX8_count_82 : decode cX8_count 82 = .ok (.iconst (-1), 1) := by decide +kernel
theorem dX8_count_83 : decode cX8_count 83 = .ok (.ireturn, 1) := by decide +kernel
