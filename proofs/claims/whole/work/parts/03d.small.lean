theorem dX0_init_0 : decode cX0_init 0 = .ok (.aload_n 0, 1) := by decide +kernel
theorem dX0_init_1 : decode cX0_init 1 = .ok (.invokespecial 1, 3) := by decide +kernel
theorem dX0_init_4 : decode cX0_init 4 = .ok (.return_, 1) := by decide +kernel
theorem dX0_take_0 : decode cX0_take 0 = .ok (.aload_n 1, 1) := by decide +kernel
theorem dX0_take_1 : decode cX0_take 1 = .ok (.iload_n 2, 1) := by decide +kernel
theorem dX0_take_2 : decode cX0_take 2 = .ok (.invokevirtual 7, 3) := by decide +kernel
theorem dX0_take_5 : decode cX0_take 5 = .ok (.lstore_n 3, 1) := by decide +kernel
theorem dX0_take_6 : decode cX0_take 6 = .ok (.aload_n 0, 1) := by decide +kernel
theorem dX0_take_7 : decode cX0_take 7 = .ok (.lload_n 3, 1) := by decide +kernel
theorem dX0_take_8 : decode cX0_take 8 = .ok (.ldc2_w 13, 3) := by decide +kernel
theorem dX0_take_11 : decode cX0_take 11 = .ok (.land, 1) := by decide +kernel
theorem dX0_take_12 : decode cX0_take 12 = .ok (.l2i, 1) := by decide +kernel
theorem dX0_take_13 : decode cX0_take 13 = .ok (.putfield 15, 3) := by decide +kernel
theorem dX0_take_16 : decode cX0_take 16 = .ok (.aload_n 0, 1) := by decide +kernel
theorem dX0_take_17 : decode cX0_take 17 = .ok (.lload_n 3, 1) := by decide +kernel
theorem dX0_take_18 : decode cX0_take 18 = .ok (.bipush 8, 2) := by decide +kernel
theorem dX0_take_20 : decode cX0_take 20 = .ok (.lushr, 1) := by decide +kernel
theorem dX0_take_21 : decode cX0_take 21 = .ok (.ldc2_w 21, 3) := by decide +kernel
theorem dX0_take_24 : decode cX0_take 24 = .ok (.land, 1) := by decide +kernel
theorem dX0_take_25 : decode cX0_take 25 = .ok (.l2i, 1) := by decide +kernel
theorem dX0_take_26 : decode cX0_take 26 = .ok (.putfield 23, 3) := by decide +kernel
theorem dX0_take_29 : decode cX0_take 29 = .ok (.aload_n 0, 1) := by decide +kernel
theorem dX0_take_30 : decode cX0_take 30 = .ok (.lload_n 3, 1) := by decide +kernel
theorem dX0_take_31 : decode cX0_take 31 = .ok (.bipush 24, 2) := by decide +kernel
theorem dX0_take_33 : decode cX0_take 33 = .ok (.lushr, 1) := by decide +kernel
theorem dX0_take_34 : decode cX0_take 34 = .ok (.lconst 1, 1) := by decide +kernel
theorem dX0_take_35 : decode cX0_take 35 = .ok (.land, 1) := by decide +kernel
theorem dX0_take_36 : decode cX0_take 36 = .ok (.lconst 1, 1) := by decide +kernel
theorem dX0_take_37 : decode cX0_take 37 = .ok (.lcmp, 1) := by decide +kernel
theorem dX0_take_38 : decode cX0_take 38 = .ok (.ifCond .ne 7, 3) := by decide +kernel
theorem dX0_take_41 : decode cX0_take 41 = .ok (.iconst 1, 1) := by decide +kernel
theorem dX0_take_42 : decode cX0_take 42 = .ok (.goto 4, 3) := by decide +kernel
theorem dX0_take_45 : decode cX0_take 45 = .ok (.iconst 0, 1) := by decide +kernel
theorem dX0_take_46 : decode cX0_take 46 = .ok (.putfield 26, 3) := by decide +kernel
theorem dX0_take_49 : decode cX0_take 49 = .ok (.aload_n 0, 1) := by decide +kernel
theorem dX0_take_50 : decode cX0_take 50 = .ok (.lload_n 3, 1) := by decide +kernel
theorem dX0_take_51 : decode cX0_take 51 = .ok (.bipush 32, 2) := by decide +kernel
theorem dX0_take_53 : decode cX0_take 53 = .ok (.lushr, 1) := by decide +kernel
theorem dX0_take_54 : decode cX0_take 54 = .ok (.ldc2_w 13, 3) := by decide +kernel
theorem dX0_take_57 : decode cX0_take 57 = .ok (.land, 1) := by decide +kernel
theorem dX0_take_58 : decode cX0_take 58 = .ok (.l2i, 1) := by decide +kernel
theorem dX0_take_59 : decode cX0_take 59 = .ok (.iconst 1, 1) := by decide +kernel
theorem dX0_take_60 : decode cX0_take 60 = .ok (.iadd, 1) := by decide +kernel
theorem dX0_take_61 : decode cX0_take 61 = .ok (.putfield 30, 3) := by decide +kernel
theorem dX0_take_64 : decode cX0_take 64 = .ok (.aload_n 0, 1) := by decide +kernel
theorem dX0_take_65 : decode cX0_take 65 = .ok (.aload_n 1, 1) := by decide +kernel
theorem dX0_take_66 : decode cX0_take 66 = .ok (.iload_n 2, 1) := by decide +kernel
theorem dX0_take_67 : decode cX0_take 67 = .ok (.iconst 1, 1) := by decide +kernel
theorem dX0_take_68 : decode cX0_take 68 = .ok (.iadd, 1) := by decide +kernel
theorem dX0_take_69 : decode cX0_take 69 = .ok (.invokevirtual 7, 3) := by decide +kernel
theorem dX0_take_72 : decode cX0_take 72 = .ok (.putfield 33, 3) := by decide +kernel
theorem dX0_take_75 : decode cX0_take 75 = .ok (.aload_n 0, 1) := by decide +kernel
theorem dX0_take_76 : decode cX0_take 76 = .ok (.aload_n 1, 1) := by decide +kernel
theorem dX0_take_77 : decode cX0_take 77 = .ok (.iload_n 2, 1) := by decide +kernel
theorem dX0_take_78 : decode cX0_take 78 = .ok (.iconst 2, 1) := by decide +kernel
theorem dX0_take_79 : decode cX0_take 79 = .ok (.iadd, 1) := by decide +kernel
theorem dX0_take_80 : decode cX0_take 80 = .ok (.invokevirtual 7, 3) := by decide +kernel
theorem dX0_take_83 : decode cX0_take 83 = .ok (.putfield 37, 3) := by decide +kernel
theorem dX0_take_86 : decode cX0_take 86 = .ok (.aload_n 0, 1) := by decide +kernel
theorem dX0_take_87 : decode cX0_take 87 = .ok (.aload_n 1, 1) := by decide +kernel
theorem dX0_take_88 : decode cX0_take 88 = .ok (.iload_n 2, 1) := by decide +kernel
theorem dX0_take_89 : decode cX0_take 89 = .ok (.iconst 3, 1) := by decide +kernel
theorem dX0_take_90 : decode cX0_take 90 = .ok (.iadd, 1) := by decide +kernel
theorem dX0_take_91 : decode cX0_take 91 = .ok (.invokevirtual 7, 3) := by decide +kernel
theorem dX0_take_94 : decode cX0_take 94 = .ok (.putfield 40, 3) := by decide +kernel
theorem dX0_take_97 : decode cX0_take 97 = .ok (.return_, 1) := by decide +kernel
theorem dX1_init_0 : decode cX1_init 0 = .ok (.aload_n 0, 1) := by decide +kernel
theorem dX1_init_1 : decode cX1_init 1 = .ok (.invokespecial 1, 3) := by decide +kernel
theorem dX1_init_4 : decode cX1_init 4 = .ok (.return_, 1) := by decide +kernel
theorem dX1_fits_0 : decode cX1_fits 0 = .ok (.lload_n 0, 1) := by decide +kernel
theorem dX1_fits_1 : decode cX1_fits 1 = .ok (.lload_n 2, 1) := by decide +kernel
theorem dX1_fits_2 : decode cX1_fits 2 = .ok (.iconst 1, 1) := by decide +kernel
theorem dX1_fits_3 : decode cX1_fits 3 = .ok (.invokestatic 7, 3) := by decide +kernel
theorem dX1_fits_6 : decode cX1_fits 6 = .ok (.ireturn, 1) := by decide +kernel
theorem dX1_make_0 : decode cX1_make 0 = .ok (.aload_n 0, 1) := by decide +kernel
theorem dX1_make_1 : decode cX1_make 1 = .ok (.iload_n 1, 1) := by decide +kernel
theorem dX1_make_2 : decode cX1_make 2 = .ok (.iload_n 2, 1) := by decide +kernel
theorem dX1_make_3 : decode cX1_make 3 = .ok (.invokevirtual 11, 3) := by decide +kernel
theorem dX1_make_6 : decode cX1_make 6 = .ok (.aload_n 0, 1) := by decide +kernel
theorem dX1_make_7 : decode cX1_make 7 = .ok (.iconst 1, 1) := by decide +kernel
theorem dX1_make_8 : decode cX1_make 8 = .ok (.putfield 17, 3) := by decide +kernel
theorem dX1_make_11 : decode cX1_make 11 = .ok (.aload_n 0, 1) := by decide +kernel
theorem dX1_make_12 : decode cX1_make 12 = .ok (.iload_n 3, 1) := by decide +kernel
theorem dX1_make_13 : decode cX1_make 13 = .ok (.putfield 21, 3) := by decide +kernel
theorem dX1_make_16 : decode cX1_make 16 = .ok (.return_, 1) := by decide +kernel
theorem dX1_isFull_0 : decode cX1_isFull 0 = .ok (.aload_n 0, 1) := by decide +kernel
theorem dX1_isFull_1 : decode cX1_isFull 1 = .ok (.aload_n 0, 1) := by decide +kernel
theorem dX1_isFull_2 : decode cX1_isFull 2 = .ok (.getfield 25, 3) := by decide +kernel
theorem dX1_isFull_5 : decode cX1_isFull 5 = .ok (.invokevirtual 28, 3) := by decide +kernel
theorem dX1_isFull_8 : decode cX1_isFull 8 = .ok (.aload_n 0, 1) := by decide +kernel
theorem dX1_isFull_9 : decode cX1_isFull 9 = .ok (.getfield 32, 3) := by decide +kernel
theorem dX1_isFull_12 : decode cX1_isFull 12 = .ok (.if_icmp .ne 7, 3) := by decide +kernel
theorem dX1_isFull_15 : decode cX1_isFull 15 = .ok (.iconst 1, 1) := by decide +kernel
theorem dX1_isFull_16 : decode cX1_isFull 16 = .ok (.goto 4, 3) := by decide +kernel
theorem dX1_isFull_19 : decode cX1_isFull 19 = .ok (.iconst 0, 1) := by decide +kernel
theorem dX1_isFull_20 : decode cX1_isFull 20 = .ok (.ireturn, 1) := by decide +kernel
theorem dX1_reaches_0 : decode cX1_reaches 0 = .ok (.aload_n 0, 1) := by decide +kernel
theorem dX1_reaches_1 : decode cX1_reaches 1 = .ok (.iload_n 1, 1) := by decide +kernel
theorem dX1_reaches_2 : decode cX1_reaches 2 = .ok (.invokevirtual 35, 3) := by decide +kernel
theorem dX1_reaches_5 : decode cX1_reaches 5 = .ok (.ifCond .eq 19, 3) := by decide +kernel
theorem dX1_reaches_8 : decode cX1_reaches 8 = .ok (.aload_n 0, 1) := by decide +kernel
theorem dX1_reaches_9 : decode cX1_reaches 9 = .ok (.iload_n 1, 1) := by decide +kernel
theorem dX1_reaches_10 : decode cX1_reaches 10 = .ok (.invokevirtual 39, 3) := by decide +kernel
theorem dX1_reaches_13 : decode cX1_reaches 13 = .ok (.aload_n 0, 1) := by decide +kernel
theorem dX1_reaches_14 : decode cX1_reaches 14 = .ok (.invokevirtual 42, 3) := by decide +kernel
theorem dX1_reaches_17 : decode cX1_reaches 17 = .ok (.if_icmp .gt 7, 3) := by decide +kernel
theorem dX1_reaches_20 : decode cX1_reaches 20 = .ok (.iconst 1, 1) := by decide +kernel
theorem dX1_reaches_21 : decode cX1_reaches 21 = .ok (.goto 4, 3) := by decide +kernel
theorem dX1_reaches_24 : decode cX1_reaches 24 = .ok (.iconst 0, 1) := by decide +kernel
theorem dX1_reaches_25 : decode cX1_reaches 25 = .ok (.ireturn, 1) := by decide +kernel
theorem dX1_addressOfTail_0 : decode cX1_addressOfTail 0 = .ok (.aload_n 0, 1) := by decide +kernel
theorem dX1_addressOfTail_1 : decode cX1_addressOfTail 1 = .ok (.getfield 46, 3) := by decide +kernel
theorem dX1_addressOfTail_4 : decode cX1_addressOfTail 4 = .ok (.aload_n 0, 1) := by decide +kernel
theorem dX1_addressOfTail_5 : decode cX1_addressOfTail 5 = .ok (.getfield 25, 3) := by decide +kernel
theorem dX1_addressOfTail_8 : decode cX1_addressOfTail 8 = .ok (.iadd, 1) := by decide +kernel
theorem dX1_addressOfTail_9 : decode cX1_addressOfTail 9 = .ok (.ireturn, 1) := by decide +kernel
theorem dX1_advance_0 : decode cX1_advance 0 = .ok (.aload_n 0, 1) := by decide +kernel
theorem dX1_advance_1 : decode cX1_advance 1 = .ok (.aload_n 0, 1) := by decide +kernel
theorem dX1_advance_2 : decode cX1_advance 2 = .ok (.aload_n 0, 1) := by decide +kernel
theorem dX1_advance_3 : decode cX1_advance 3 = .ok (.getfield 25, 3) := by decide +kernel
theorem dX1_advance_6 : decode cX1_advance 6 = .ok (.invokevirtual 28, 3) := by decide +kernel
theorem dX1_advance_9 : decode cX1_advance 9 = .ok (.putfield 25, 3) := by decide +kernel
theorem dX1_advance_12 : decode cX1_advance 12 = .ok (.aload_n 0, 1) := by decide +kernel
theorem dX1_advance_13 : decode cX1_advance 13 = .ok (.getfield 25, 3) := by decide +kernel
theorem dX1_advance_16 : decode cX1_advance 16 = .ok (.ifCond .ne 13, 3) := by decide +kernel
theorem dX1_advance_19 : decode cX1_advance 19 = .ok (.aload_n 0, 1) := by decide +kernel
theorem dX1_advance_20 : decode cX1_advance 20 = .ok (.iconst 1, 1) := by decide +kernel
theorem dX1_advance_21 : decode cX1_advance 21 = .ok (.aload_n 0, 1) := by decide +kernel
theorem dX1_advance_22 : decode cX1_advance 22 = .ok (.getfield 17, 3) := by decide +kernel
theorem dX1_advance_25 : decode cX1_advance 25 = .ok (.isub, 1) := by decide +kernel
theorem dX1_advance_26 : decode cX1_advance 26 = .ok (.putfield 17, 3) := by decide +kernel
theorem dX1_advance_29 : decode cX1_advance 29 = .ok (.return_, 1) := by decide +kernel
theorem dX4_init_0 : decode cX4_init 0 = .ok (.aload_n 0, 1) := by decide +kernel
theorem dX4_init_1 : decode cX4_init 1 = .ok (.invokespecial 1, 3) := by decide +kernel
theorem dX4_init_4 : decode cX4_init 4 = .ok (.aload_n 0, 1) := by decide +kernel
theorem dX4_init_5 : decode cX4_init 5 = .ok (.sipush 1024, 3) := by decide +kernel
theorem dX4_init_8 : decode cX4_init 8 = .ok (.newarray .long, 2) := by decide +kernel
theorem dX4_init_10 : decode cX4_init 10 = .ok (.putfield 9, 3) := by decide +kernel
theorem dX4_init_13 : decode cX4_init 13 = .ok (.return_, 1) := by decide +kernel
theorem dX4_holds_0 : decode cX4_holds 0 = .ok (.lload_n 0, 1) := by decide +kernel
theorem dX4_holds_1 : decode cX4_holds 1 = .ok (.lconst 0, 1) := by decide +kernel
theorem dX4_holds_2 : decode cX4_holds 2 = .ok (.lcmp, 1) := by decide +kernel
theorem dX4_holds_3 : decode cX4_holds 3 = .ok (.ifCond .lt 15, 3) := by decide +kernel
theorem dX4_holds_6 : decode cX4_holds 6 = .ok (.lload_n 0, 1) := by decide +kernel
theorem dX4_holds_7 : decode cX4_holds 7 = .ok (.ldc2_w 13, 3) := by decide +kernel
theorem dX4_holds_10 : decode cX4_holds 10 = .ok (.lcmp, 1) := by decide +kernel
theorem dX4_holds_11 : decode cX4_holds 11 = .ok (.ifCond .ge 7, 3) := by decide +kernel
theorem dX4_holds_14 : decode cX4_holds 14 = .ok (.iconst 1, 1) := by decide +kernel
theorem dX4_holds_15 : decode cX4_holds 15 = .ok (.goto 4, 3) := by decide +kernel
theorem dX4_holds_18 : decode cX4_holds 18 = .ok (.iconst 0, 1) := by decide +kernel
theorem dX4_holds_19 : decode cX4_holds 19 = .ok (.ireturn, 1) := by decide +kernel
theorem dX4_holdsPage_0 : decode cX4_holdsPage 0 = .ok (.lload_n 0, 1) := by decide +kernel
theorem dX4_holdsPage_1 : decode cX4_holdsPage 1 = .ok (.lconst 0, 1) := by decide +kernel
theorem dX4_holdsPage_2 : decode cX4_holdsPage 2 = .ok (.lcmp, 1) := by decide +kernel
theorem dX4_holdsPage_3 : decode cX4_holdsPage 3 = .ok (.ifCond .lt 25, 3) := by decide +kernel
theorem dX4_holdsPage_6 : decode cX4_holdsPage 6 = .ok (.lload_n 0, 1) := by decide +kernel
theorem dX4_holdsPage_7 : decode cX4_holdsPage 7 = .ok (.ldc2_w 13, 3) := by decide +kernel
theorem dX4_holdsPage_10 : decode cX4_holdsPage 10 = .ok (.lcmp, 1) := by decide +kernel
theorem dX4_holdsPage_11 : decode cX4_holdsPage 11 = .ok (.ifCond .ge 17, 3) := by decide +kernel
theorem dX4_holdsPage_14 : decode cX4_holdsPage 14 = .ok (.lload_n 0, 1) := by decide +kernel
theorem dX4_holdsPage_15 : decode cX4_holdsPage 15 = .ok (.ldc2_w 15, 3) := by decide +kernel
theorem dX4_holdsPage_18 : decode cX4_holdsPage 18 = .ok (.lrem, 1) := by decide +kernel
theorem dX4_holdsPage_19 : decode cX4_holdsPage 19 = .ok (.lconst 0, 1) := by decide +kernel
theorem dX4_holdsPage_20 : decode cX4_holdsPage 20 = .ok (.lcmp, 1) := by decide +kernel
theorem dX4_holdsPage_21 : decode cX4_holdsPage 21 = .ok (.ifCond .ne 7, 3) := by decide +kernel
theorem dX4_holdsPage_24 : decode cX4_holdsPage 24 = .ok (.iconst 1, 1) := by decide +kernel
theorem dX4_holdsPage_25 : decode cX4_holdsPage 25 = .ok (.goto 4, 3) := by decide +kernel
theorem dX4_holdsPage_28 : decode cX4_holdsPage 28 = .ok (.iconst 0, 1) := by decide +kernel
theorem dX4_holdsPage_29 : decode cX4_holdsPage 29 = .ok (.ireturn, 1) := by decide +kernel
theorem dX4_placeInPage_0 : decode cX4_placeInPage 0 = .ok (.iload_n 0, 1) := by decide +kernel
theorem dX4_placeInPage_1 : decode cX4_placeInPage 1 = .ok (.bipush 15, 2) := by decide +kernel
theorem dX4_placeInPage_3 : decode cX4_placeInPage 3 = .ok (.iand, 1) := by decide +kernel
theorem dX4_placeInPage_4 : decode cX4_placeInPage 4 = .ok (.ireturn, 1) := by decide +kernel
theorem dX4_at_0 : decode cX4_at 0 = .ok (.iload_n 1, 1) := by decide +kernel
theorem dX4_at_1 : decode cX4_at 1 = .ok (.i2l, 1) := by decide +kernel
theorem dX4_at_2 : decode cX4_at 2 = .ok (.invokestatic 17, 3) := by decide +kernel
theorem dX4_at_5 : decode cX4_at 5 = .ok (.ifCond .eq 12, 3) := by decide +kernel
theorem dX4_at_8 : decode cX4_at 8 = .ok (.aload_n 0, 1) := by decide +kernel
theorem dX4_at_9 : decode cX4_at 9 = .ok (.getfield 9, 3) := by decide +kernel
theorem dX4_at_12 : decode cX4_at 12 = .ok (.iload_n 1, 1) := by decide +kernel
theorem dX4_at_13 : decode cX4_at 13 = .ok (.laload, 1) := by decide +kernel
theorem dX4_at_14 : decode cX4_at 14 = .ok (.goto 4, 3) := by decide +kernel
theorem dX4_at_17 : decode cX4_at 17 = .ok (.lconst 0, 1) := by decide +kernel
theorem dX4_at_18 : decode cX4_at 18 = .ok (.lreturn, 1) := by decide +kernel
theorem dX4_put_0 : decode cX4_put 0 = .ok (.iload_n 1, 1) := by decide +kernel
theorem dX4_put_1 : decode cX4_put 1 = .ok (.i2l, 1) := by decide +kernel
theorem dX4_put_2 : decode cX4_put 2 = .ok (.invokestatic 17, 3) := by decide +kernel
theorem dX4_put_5 : decode cX4_put 5 = .ok (.ifCond .eq 10, 3) := by decide +kernel
theorem dX4_put_8 : decode cX4_put 8 = .ok (.aload_n 0, 1) := by decide +kernel
theorem dX4_put_9 : decode cX4_put 9 = .ok (.getfield 9, 3) := by decide +kernel
theorem dX4_put_12 : decode cX4_put 12 = .ok (.iload_n 1, 1) := by decide +kernel
theorem dX4_put_13 : decode cX4_put 13 = .ok (.lload_n 2, 1) := by decide +kernel
theorem dX4_put_14 : decode cX4_put 14 = .ok (.lastore, 1) := by decide +kernel
theorem dX4_put_15 : decode cX4_put 15 = .ok (.return_, 1) := by decide +kernel
theorem dX5_init_0 : decode cX5_init 0 = .ok (.aload_n 0, 1) := by decide +kernel
theorem dX5_init_1 : decode cX5_init 1 = .ok (.invokespecial 1, 3) := by decide +kernel
theorem dX5_init_4 : decode cX5_init 4 = .ok (.return_, 1) := by decide +kernel
theorem dX5_fitsInMemory_0 : decode cX5_fitsInMemory 0 = .ok (.lload_n 0, 1) := by decide +kernel
theorem dX5_fitsInMemory_1 : decode cX5_fitsInMemory 1 = .ok (.invokestatic 7, 3) := by decide +kernel
theorem dX5_fitsInMemory_4 : decode cX5_fitsInMemory 4 = .ok (.ifCond .eq 47, 3) := by decide +kernel
theorem dX5_fitsInMemory_7 : decode cX5_fitsInMemory 7 = .ok (.lload_n 0, 1) := by decide +kernel
theorem dX5_fitsInMemory_8 : decode cX5_fitsInMemory 8 = .ok (.ldc2_w 15, 3) := by decide +kernel
theorem dX5_fitsInMemory_11 : decode cX5_fitsInMemory 11 = .ok (.lrem, 1) := by decide +kernel
theorem dX5_fitsInMemory_12 : decode cX5_fitsInMemory 12 = .ok (.lconst 0, 1) := by decide +kernel
theorem dX5_fitsInMemory_13 : decode cX5_fitsInMemory 13 = .ok (.lcmp, 1) := by decide +kernel
theorem dX5_fitsInMemory_14 : decode cX5_fitsInMemory 14 = .ok (.ifCond .ne 37, 3) := by decide +kernel
theorem dX5_fitsInMemory_17 : decode cX5_fitsInMemory 17 = .ok (.lload_n 2, 1) := by decide +kernel
theorem dX5_fitsInMemory_18 : decode cX5_fitsInMemory 18 = .ok (.ldc2_w 17, 3) := by decide +kernel
theorem dX5_fitsInMemory_21 : decode cX5_fitsInMemory 21 = .ok (.lcmp, 1) := by decide +kernel
theorem dX5_fitsInMemory_22 : decode cX5_fitsInMemory 22 = .ok (.ifCond .lt 29, 3) := by decide +kernel
theorem dX5_fitsInMemory_25 : decode cX5_fitsInMemory 25 = .ok (.lload_n 2, 1) := by decide +kernel
theorem dX5_fitsInMemory_26 : decode cX5_fitsInMemory 26 = .ok (.ldc2_w 19, 3) := by decide +kernel
theorem dX5_fitsInMemory_29 : decode cX5_fitsInMemory 29 = .ok (.lcmp, 1) := by decide +kernel
theorem dX5_fitsInMemory_30 : decode cX5_fitsInMemory 30 = .ok (.ifCond .gt 21, 3) := by decide +kernel
theorem dX5_fitsInMemory_33 : decode cX5_fitsInMemory 33 = .ok (.lload_n 0, 1) := by decide +kernel
theorem dX5_fitsInMemory_34 : decode cX5_fitsInMemory 34 = .ok (.lload_n 2, 1) := by decide +kernel
theorem dX5_fitsInMemory_35 : decode cX5_fitsInMemory 35 = .ok (.iload 4, 2) := by decide +kernel
theorem dX5_fitsInMemory_37 : decode cX5_fitsInMemory 37 = .ok (.i2l, 1) := by decide +kernel
theorem dX5_fitsInMemory_38 : decode cX5_fitsInMemory 38 = .ok (.lmul, 1) := by decide +kernel
theorem dX5_fitsInMemory_39 : decode cX5_fitsInMemory 39 = .ok (.ladd, 1) := by decide +kernel
theorem dX5_fitsInMemory_40 : decode cX5_fitsInMemory 40 = .ok (.ldc2_w 21, 3) := by decide +kernel
theorem dX5_fitsInMemory_43 : decode cX5_fitsInMemory 43 = .ok (.lcmp, 1) := by decide +kernel
theorem dX5_fitsInMemory_44 : decode cX5_fitsInMemory 44 = .ok (.ifCond .gt 7, 3) := by decide +kernel
theorem dX5_fitsInMemory_47 : decode cX5_fitsInMemory 47 = .ok (.iconst 1, 1) := by decide +kernel
theorem dX5_fitsInMemory_48 : decode cX5_fitsInMemory 48 = .ok (.goto 4, 3) := by decide +kernel
theorem dX5_fitsInMemory_51 : decode cX5_fitsInMemory 51 = .ok (.iconst 0, 1) := by decide +kernel
theorem dX5_fitsInMemory_52 : decode cX5_fitsInMemory 52 = .ok (.ireturn, 1) := by decide +kernel
theorem dX5_lay_0 : decode cX5_lay 0 = .ok (.aload_n 0, 1) := by decide +kernel
theorem dX5_lay_1 : decode cX5_lay 1 = .ok (.iconst 1, 1) := by decide +kernel
theorem dX5_lay_2 : decode cX5_lay 2 = .ok (.putfield 23, 3) := by decide +kernel
theorem dX5_lay_5 : decode cX5_lay 5 = .ok (.aload_n 0, 1) := by decide +kernel
theorem dX5_lay_6 : decode cX5_lay 6 = .ok (.iload_n 1, 1) := by decide +kernel
theorem dX5_lay_7 : decode cX5_lay 7 = .ok (.putfield 27, 3) := by decide +kernel
theorem dX5_lay_10 : decode cX5_lay 10 = .ok (.aload_n 0, 1) := by decide +kernel
theorem dX5_lay_11 : decode cX5_lay 11 = .ok (.iload_n 2, 1) := by decide +kernel
theorem dX5_lay_12 : decode cX5_lay 12 = .ok (.putfield 31, 3) := by decide +kernel
theorem dX5_lay_15 : decode cX5_lay 15 = .ok (.aload_n 0, 1) := by decide +kernel
theorem dX5_lay_16 : decode cX5_lay 16 = .ok (.iconst 0, 1) := by decide +kernel
theorem dX5_lay_17 : decode cX5_lay 17 = .ok (.putfield 34, 3) := by decide +kernel
theorem dX5_lay_20 : decode cX5_lay 20 = .ok (.aload_n 0, 1) := by decide +kernel
theorem dX5_lay_21 : decode cX5_lay 21 = .ok (.iconst 0, 1) := by decide +kernel
theorem dX5_lay_22 : decode cX5_lay 22 = .ok (.putfield 37, 3) := by decide +kernel
theorem dX5_lay_25 : decode cX5_lay 25 = .ok (.return_, 1) := by decide +kernel
theorem dX5_drop_0 : decode cX5_drop 0 = .ok (.aload_n 0, 1) := by decide +kernel
theorem dX5_drop_1 : decode cX5_drop 1 = .ok (.iconst 0, 1) := by decide +kernel
theorem dX5_drop_2 : decode cX5_drop 2 = .ok (.putfield 23, 3) := by decide +kernel
theorem dX5_drop_5 : decode cX5_drop 5 = .ok (.return_, 1) := by decide +kernel
theorem dX5_hasPlace_0 : decode cX5_hasPlace 0 = .ok (.iload_n 1, 1) := by decide +kernel
theorem dX5_hasPlace_1 : decode cX5_hasPlace 1 = .ok (.ifCond .lt 15, 3) := by decide +kernel
theorem dX5_hasPlace_4 : decode cX5_hasPlace 4 = .ok (.iload_n 1, 1) := by decide +kernel
theorem dX5_hasPlace_5 : decode cX5_hasPlace 5 = .ok (.aload_n 0, 1) := by decide +kernel
theorem dX5_hasPlace_6 : decode cX5_hasPlace 6 = .ok (.getfield 31, 3) := by decide +kernel
theorem dX5_hasPlace_9 : decode cX5_hasPlace 9 = .ok (.if_icmp .ge 7, 3) := by decide +kernel
theorem dX5_hasPlace_12 : decode cX5_hasPlace 12 = .ok (.iconst 1, 1) := by decide +kernel
theorem dX5_hasPlace_13 : decode cX5_hasPlace 13 = .ok (.goto 4, 3) := by decide +kernel
theorem dX5_hasPlace_16 : decode cX5_hasPlace 16 = .ok (.iconst 0, 1) := by decide +kernel
theorem dX5_hasPlace_17 : decode cX5_hasPlace 17 = .ok (.ireturn, 1) := by decide +kernel
theorem dX5_behind_0 : decode cX5_behind 0 = .ok (.iload_n 1, 1) := by decide +kernel
theorem dX5_behind_1 : decode cX5_behind 1 = .ok (.iconst 1, 1) := by decide +kernel
theorem dX5_behind_2 : decode cX5_behind 2 = .ok (.iadd, 1) := by decide +kernel
theorem dX5_behind_3 : decode cX5_behind 3 = .ok (.aload_n 0, 1) := by decide +kernel
theorem dX5_behind_4 : decode cX5_behind 4 = .ok (.getfield 31, 3) := by decide +kernel
theorem dX5_behind_7 : decode cX5_behind 7 = .ok (.if_icmp .lt 7, 3) := by decide +kernel
theorem dX5_behind_10 : decode cX5_behind 10 = .ok (.iconst 0, 1) := by decide +kernel
theorem dX5_behind_11 : decode cX5_behind 11 = .ok (.goto 6, 3) := by decide +kernel
theorem dX5_behind_14 : decode cX5_behind 14 = .ok (.iload_n 1, 1) := by decide +kernel
theorem dX5_behind_15 : decode cX5_behind 15 = .ok (.iconst 1, 1) := by decide +kernel
theorem dX5_behind_16 : decode cX5_behind 16 = .ok (.iadd, 1) := by decide +kernel
theorem dX5_behind_17 : decode cX5_behind 17 = .ok (.ireturn, 1) := by decide +kernel
theorem dX5_fromHeadTo_0 : decode cX5_fromHeadTo 0 = .ok (.iload_n 1, 1) := by decide +kernel
theorem dX5_fromHeadTo_1 : decode cX5_fromHeadTo 1 = .ok (.aload_n 0, 1) := by decide +kernel
theorem dX5_fromHeadTo_2 : decode cX5_fromHeadTo 2 = .ok (.getfield 34, 3) := by decide +kernel
theorem dX5_fromHeadTo_5 : decode cX5_fromHeadTo 5 = .ok (.if_icmp .lt 12, 3) := by decide +kernel
theorem dX5_fromHeadTo_8 : decode cX5_fromHeadTo 8 = .ok (.iload_n 1, 1) := by decide +kernel
theorem dX5_fromHeadTo_9 : decode cX5_fromHeadTo 9 = .ok (.aload_n 0, 1) := by decide +kernel
theorem dX5_fromHeadTo_10 : decode cX5_fromHeadTo 10 = .ok (.getfield 34, 3) := by decide +kernel
theorem dX5_fromHeadTo_13 : decode cX5_fromHeadTo 13 = .ok (.isub, 1) := by decide +kernel
theorem dX5_fromHeadTo_14 : decode cX5_fromHeadTo 14 = .ok (.goto 14, 3) := by decide +kernel
theorem dX5_fromHeadTo_17 : decode cX5_fromHeadTo 17 = .ok (.iload_n 1, 1) := by decide +kernel
theorem dX5_fromHeadTo_18 : decode cX5_fromHeadTo 18 = .ok (.aload_n 0, 1) := by decide +kernel
theorem dX5_fromHeadTo_19 : decode cX5_fromHeadTo 19 = .ok (.getfield 34, 3) := by decide +kernel
theorem dX5_fromHeadTo_22 : decode cX5_fromHeadTo 22 = .ok (.isub, 1) := by decide +kernel
theorem dX5_fromHeadTo_23 : decode cX5_fromHeadTo 23 = .ok (.aload_n 0, 1) := by decide +kernel
theorem dX5_fromHeadTo_24 : decode cX5_fromHeadTo 24 = .ok (.getfield 31, 3) := by decide +kernel
theorem dX5_fromHeadTo_27 : decode cX5_fromHeadTo 27 = .ok (.iadd, 1) := by decide +kernel
theorem dX5_fromHeadTo_28 : decode cX5_fromHeadTo 28 = .ok (.ireturn, 1) := by decide +kernel
theorem dX5_held_0 : decode cX5_held 0 = .ok (.aload_n 0, 1) := by decide +kernel
theorem dX5_held_1 : decode cX5_held 1 = .ok (.aload_n 0, 1) := by decide +kernel
theorem dX5_held_2 : decode cX5_held 2 = .ok (.getfield 37, 3) := by decide +kernel
theorem dX5_held_5 : decode cX5_held 5 = .ok (.invokevirtual 40, 3) := by decide +kernel
theorem dX5_held_8 : decode cX5_held 8 = .ok (.ireturn, 1) := by decide +kernel
theorem dX6_init_0 : decode cX6_init 0 = .ok (.aload_n 0, 1) := by decide +kernel
theorem dX6_init_1 : decode cX6_init 1 = .ok (.invokespecial 1, 3) := by decide +kernel
theorem dX6_init_4 : decode cX6_init 4 = .ok (.return_, 1) := by decide +kernel
theorem dX6_fits_0 : decode cX6_fits 0 = .ok (.lload_n 0, 1) := by decide +kernel
theorem dX6_fits_1 : decode cX6_fits 1 = .ok (.lload_n 2, 1) := by decide +kernel
theorem dX6_fits_2 : decode cX6_fits 2 = .ok (.iconst 4, 1) := by decide +kernel
theorem dX6_fits_3 : decode cX6_fits 3 = .ok (.invokestatic 9, 3) := by decide +kernel
theorem dX6_fits_6 : decode cX6_fits 6 = .ok (.ireturn, 1) := by decide +kernel
theorem dX6_make_0 : decode cX6_make 0 = .ok (.aload_n 0, 1) := by decide +kernel
theorem dX6_make_1 : decode cX6_make 1 = .ok (.iload_n 1, 1) := by decide +kernel
theorem dX6_make_2 : decode cX6_make 2 = .ok (.iload_n 2, 1) := by decide +kernel
theorem dX6_make_3 : decode cX6_make 3 = .ok (.invokevirtual 13, 3) := by decide +kernel
theorem dX6_make_6 : decode cX6_make 6 = .ok (.aload_n 0, 1) := by decide +kernel
theorem dX6_make_7 : decode cX6_make 7 = .ok (.iload_n 3, 1) := by decide +kernel
theorem dX6_make_8 : decode cX6_make 8 = .ok (.putfield 19, 3) := by decide +kernel
theorem dX6_make_11 : decode cX6_make 11 = .ok (.return_, 1) := by decide +kernel
theorem dX6_addressOfHead_0 : decode cX6_addressOfHead 0 = .ok (.aload_n 0, 1) := by decide +kernel
theorem dX6_addressOfHead_1 : decode cX6_addressOfHead 1 = .ok (.getfield 23, 3) := by decide +kernel
theorem dX6_addressOfHead_4 : decode cX6_addressOfHead 4 = .ok (.aload_n 0, 1) := by decide +kernel
theorem dX6_addressOfHead_5 : decode cX6_addressOfHead 5 = .ok (.getfield 26, 3) := by decide +kernel
theorem dX6_addressOfHead_8 : decode cX6_addressOfHead 8 = .ok (.iconst 4, 1) := by decide +kernel
theorem dX6_addressOfHead_9 : decode cX6_addressOfHead 9 = .ok (.imul, 1) := by decide +kernel
theorem dX6_addressOfHead_10 : decode cX6_addressOfHead 10 = .ok (.iadd, 1) := by decide +kernel
theorem dX6_addressOfHead_11 : decode cX6_addressOfHead 11 = .ok (.ireturn, 1) := by decide +kernel
