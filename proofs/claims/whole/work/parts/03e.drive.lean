theorem dX7_init_0 : decode cX7_init 0 = .ok (.aload_n 0, 1) := by decide +kernel
theorem dX7_init_1 : decode cX7_init 1 = .ok (.invokespecial 1, 3) := by decide +kernel
theorem dX7_init_4 : decode cX7_init 4 = .ok (.aload_n 0, 1) := by decide +kernel
theorem dX7_init_5 : decode cX7_init 5 = .ok (.new 7, 3) := by decide +kernel
theorem dX7_init_8 : decode cX7_init 8 = .ok (.dup, 1) := by decide +kernel
theorem dX7_init_9 : decode cX7_init 9 = .ok (.invokespecial 9, 3) := by decide +kernel
theorem dX7_init_12 : decode cX7_init 12 = .ok (.putfield 10, 3) := by decide +kernel
theorem dX7_init_15 : decode cX7_init 15 = .ok (.aload_n 0, 1) := by decide +kernel
theorem dX7_init_16 : decode cX7_init 16 = .ok (.new 16, 3) := by decide +kernel
theorem dX7_init_19 : decode cX7_init 19 = .ok (.dup, 1) := by decide +kernel
theorem dX7_init_20 : decode cX7_init 20 = .ok (.invokespecial 18, 3) := by decide +kernel
theorem dX7_init_23 : decode cX7_init 23 = .ok (.putfield 19, 3) := by decide +kernel
theorem dX7_init_26 : decode cX7_init 26 = .ok (.aload_n 0, 1) := by decide +kernel
theorem dX7_init_27 : decode cX7_init 27 = .ok (.iconst 4, 1) := by decide +kernel
theorem dX7_init_28 : decode cX7_init 28 = .ok (.anewarray 23, 3) := by decide +kernel
theorem dX7_init_31 : decode cX7_init 31 = .ok (.putfield 25, 3) := by decide +kernel
theorem dX7_init_34 : decode cX7_init 34 = .ok (.aload_n 0, 1) := by decide +kernel
theorem dX7_init_35 : decode cX7_init 35 = .ok (.iconst 4, 1) := by decide +kernel
theorem dX7_init_36 : decode cX7_init 36 = .ok (.anewarray 29, 3) := by decide +kernel
theorem dX7_init_39 : decode cX7_init 39 = .ok (.putfield 31, 3) := by decide +kernel
theorem dX7_init_42 : decode cX7_init 42 = .ok (.iconst 0, 1) := by decide +kernel
theorem dX7_init_43 : decode cX7_init 43 = .ok (.istore_n 1, 1) := by decide +kernel
theorem dX7_init_44 : decode cX7_init 44 = .ok (.iload_n 1, 1) := by decide +kernel
theorem dX7_init_45 : decode cX7_init 45 = .ok (.iconst 4, 1) := by decide +kernel
theorem dX7_init_46 : decode cX7_init 46 = .ok (.if_icmp .ge 35, 3) := by decide +kernel
theorem dX7_init_49 : decode cX7_init 49 = .ok (.aload_n 0, 1) := by decide +kernel
theorem dX7_init_50 : decode cX7_init 50 = .ok (.getfield 25, 3) := by decide +kernel
theorem dX7_init_53 : decode cX7_init 53 = .ok (.iload_n 1, 1) := by decide +kernel
theorem dX7_init_54 : decode cX7_init 54 = .ok (.new 23, 3) := by decide +kernel
theorem dX7_init_57 : decode cX7_init 57 = .ok (.dup, 1) := by decide +kernel
theorem dX7_init_58 : decode cX7_init 58 = .ok (.invokespecial 35, 3) := by decide +kernel
theorem dX7_init_61 : decode cX7_init 61 = .ok (.aastore, 1) := by decide +kernel
theorem dX7_init_62 : decode cX7_init 62 = .ok (.aload_n 0, 1) := by decide +kernel
theorem dX7_init_63 : decode cX7_init 63 = .ok (.getfield 31, 3) := by decide +kernel
theorem dX7_init_66 : decode cX7_init 66 = .ok (.iload_n 1, 1) := by decide +kernel
theorem dX7_init_67 : decode cX7_init 67 = .ok (.new 29, 3) := by decide +kernel
theorem dX7_init_70 : decode cX7_init 70 = .ok (.dup, 1) := by decide +kernel
theorem dX7_init_71 : decode cX7_init 71 = .ok (.invokespecial 36, 3) := by decide +kernel
theorem dX7_init_74 : decode cX7_init 74 = .ok (.aastore, 1) := by decide +kernel
theorem dX7_init_75 : decode cX7_init 75 = .ok (.iinc 1 1, 3) := by decide +kernel
theorem dX7_init_78 : decode cX7_init 78 = .ok (.goto (-34), 3) := by decide +kernel
theorem dX7_init_81 : decode cX7_init 81 = .ok (.aload_n 0, 1) := by decide +kernel
theorem dX7_init_82 : decode cX7_init 82 = .ok (.new 37, 3) := by decide +kernel
theorem dX7_init_85 : decode cX7_init 85 = .ok (.dup, 1) := by decide +kernel
theorem dX7_init_86 : decode cX7_init 86 = .ok (.invokespecial 39, 3) := by decide +kernel
theorem dX7_init_89 : decode cX7_init 89 = .ok (.putfield 40, 3) := by decide +kernel
theorem dX7_init_92 : decode cX7_init 92 = .ok (.aload_n 0, 1) := by decide +kernel
theorem dX7_init_93 : decode cX7_init 93 = .ok (.new 44, 3) := by decide +kernel
theorem dX7_init_96 : decode cX7_init 96 = .ok (.dup, 1) := by decide +kernel
theorem dX7_init_97 : decode cX7_init 97 = .ok (.invokespecial 46, 3) := by decide +kernel
theorem dX7_init_100 : decode cX7_init 100 = .ok (.putfield 47, 3) := by decide +kernel
theorem dX7_init_103 : decode cX7_init 103 = .ok (.aload_n 0, 1) := by decide +kernel
theorem dX7_init_104 : decode cX7_init 104 = .ok (.bipush 8, 2) := by decide +kernel
theorem dX7_init_106 : decode cX7_init 106 = .ok (.newarray .long, 2) := by decide +kernel
theorem dX7_init_108 : decode cX7_init 108 = .ok (.putfield 51, 3) := by decide +kernel
theorem dX7_init_111 : decode cX7_init 111 = .ok (.return_, 1) := by decide +kernel
theorem dX7_peek_0 : decode cX7_peek 0 = .ok (.aload_n 0, 1) := by decide +kernel
theorem dX7_peek_1 : decode cX7_peek 1 = .ok (.getfield 10, 3) := by decide +kernel
theorem dX7_peek_4 : decode cX7_peek 4 = .ok (.iload_n 1, 1) := by decide +kernel
theorem dX7_peek_5 : decode cX7_peek 5 = .ok (.invokevirtual 55, 3) := by decide +kernel
theorem dX7_peek_8 : decode cX7_peek 8 = .ok (.lreturn, 1) := by decide +kernel
theorem dX7_poke_0 : decode cX7_poke 0 = .ok (.iload_n 1, 1) := by decide +kernel
theorem dX7_poke_1 : decode cX7_poke 1 = .ok (.i2l, 1) := by decide +kernel
theorem dX7_poke_2 : decode cX7_poke 2 = .ok (.invokestatic 59, 3) := by decide +kernel
theorem dX7_poke_5 : decode cX7_poke 5 = .ok (.ifCond .ne 5, 3) := by decide +kernel
theorem dX7_poke_8 : decode cX7_poke 8 = .ok (.iconst (-1), 1) := by decide +kernel
theorem dX7_poke_9 : decode cX7_poke 9 = .ok (.ireturn, 1) := by decide +kernel
theorem dX7_poke_10 : decode cX7_poke 10 = .ok (.aload_n 0, 1) := by decide +kernel
theorem dX7_poke_11 : decode cX7_poke 11 = .ok (.getfield 10, 3) := by decide +kernel
theorem dX7_poke_14 : decode cX7_poke 14 = .ok (.iload_n 1, 1) := by decide +kernel
theorem dX7_poke_15 : decode cX7_poke 15 = .ok (.lload_n 2, 1) := by decide +kernel
theorem dX7_poke_16 : decode cX7_poke 16 = .ok (.invokevirtual 63, 3) := by decide +kernel
theorem dX7_poke_19 : decode cX7_poke 19 = .ok (.iconst 0, 1) := by decide +kernel
theorem dX7_poke_20 : decode cX7_poke 20 = .ok (.ireturn, 1) := by decide +kernel
theorem dX7_begin_0 : decode cX7_begin 0 = .ok (.iload_n 1, 1) := by decide +kernel
theorem dX7_begin_1 : decode cX7_begin 1 = .ok (.i2l, 1) := by decide +kernel
theorem dX7_begin_2 : decode cX7_begin 2 = .ok (.iload_n 2, 1) := by decide +kernel
theorem dX7_begin_3 : decode cX7_begin 3 = .ok (.i2l, 1) := by decide +kernel
theorem dX7_begin_4 : decode cX7_begin 4 = .ok (.invokestatic 67, 3) := by decide +kernel
theorem dX7_begin_7 : decode cX7_begin 7 = .ok (.ifCond .eq 14, 3) := by decide +kernel
theorem dX7_begin_10 : decode cX7_begin 10 = .ok (.iload_n 3, 1) := by decide +kernel
theorem dX7_begin_11 : decode cX7_begin 11 = .ok (.i2l, 1) := by decide +kernel
theorem dX7_begin_12 : decode cX7_begin 12 = .ok (.iload 4, 2) := by decide +kernel
theorem dX7_begin_14 : decode cX7_begin 14 = .ok (.i2l, 1) := by decide +kernel
theorem dX7_begin_15 : decode cX7_begin 15 = .ok (.invokestatic 71, 3) := by decide +kernel
theorem dX7_begin_18 : decode cX7_begin 18 = .ok (.ifCond .ne 5, 3) := by decide +kernel
theorem dX7_begin_21 : decode cX7_begin 21 = .ok (.iconst (-1), 1) := by decide +kernel
theorem dX7_begin_22 : decode cX7_begin 22 = .ok (.ireturn, 1) := by decide +kernel
theorem dX7_begin_23 : decode cX7_begin 23 = .ok (.aload_n 0, 1) := by decide +kernel
theorem dX7_begin_24 : decode cX7_begin 24 = .ok (.getfield 72, 3) := by decide +kernel
theorem dX7_begin_27 : decode cX7_begin 27 = .ok (.ifCond .eq 6, 3) := by decide +kernel
theorem dX7_begin_30 : decode cX7_begin 30 = .ok (.bipush (-2), 2) := by decide +kernel
theorem dX7_begin_32 : decode cX7_begin 32 = .ok (.ireturn, 1) := by decide +kernel
theorem dX7_begin_33 : decode cX7_begin 33 = .ok (.aload_n 0, 1) := by decide +kernel
theorem dX7_begin_34 : decode cX7_begin 34 = .ok (.iconst 1, 1) := by decide +kernel
theorem dX7_begin_35 : decode cX7_begin 35 = .ok (.putfield 72, 3) := by decide +kernel
theorem dX7_begin_38 : decode cX7_begin 38 = .ok (.aload_n 0, 1) := by decide +kernel
theorem dX7_begin_39 : decode cX7_begin 39 = .ok (.iconst 0, 1) := by decide +kernel
theorem dX7_begin_40 : decode cX7_begin 40 = .ok (.putfield 76, 3) := by decide +kernel
theorem dX7_begin_43 : decode cX7_begin 43 = .ok (.aload_n 0, 1) := by decide +kernel
theorem dX7_begin_44 : decode cX7_begin 44 = .ok (.iconst 0, 1) := by decide +kernel
theorem dX7_begin_45 : decode cX7_begin 45 = .ok (.putfield 80, 3) := by decide +kernel
theorem dX7_begin_48 : decode cX7_begin 48 = .ok (.aload_n 0, 1) := by decide +kernel
theorem dX7_begin_49 : decode cX7_begin 49 = .ok (.getfield 31, 3) := by decide +kernel
theorem dX7_begin_52 : decode cX7_begin 52 = .ok (.iconst 0, 1) := by decide +kernel
theorem dX7_begin_53 : decode cX7_begin 53 = .ok (.aaload, 1) := by decide +kernel
theorem dX7_begin_54 : decode cX7_begin 54 = .ok (.iload_n 3, 1) := by decide +kernel
theorem dX7_begin_55 : decode cX7_begin 55 = .ok (.iload 4, 2) := by decide +kernel
theorem dX7_begin_57 : decode cX7_begin 57 = .ok (.iconst 1, 1) := by decide +kernel
theorem dX7_begin_58 : decode cX7_begin 58 = .ok (.invokevirtual 83, 3) := by decide +kernel
theorem dX7_begin_61 : decode cX7_begin 61 = .ok (.aload_n 0, 1) := by decide +kernel
theorem dX7_begin_62 : decode cX7_begin 62 = .ok (.getfield 25, 3) := by decide +kernel
theorem dX7_begin_65 : decode cX7_begin 65 = .ok (.iconst 0, 1) := by decide +kernel
theorem dX7_begin_66 : decode cX7_begin 66 = .ok (.aaload, 1) := by decide +kernel
theorem dX7_begin_67 : decode cX7_begin 67 = .ok (.iload_n 1, 1) := by decide +kernel
theorem dX7_begin_68 : decode cX7_begin 68 = .ok (.iload_n 2, 1) := by decide +kernel
theorem dX7_begin_69 : decode cX7_begin 69 = .ok (.iconst 0, 1) := by decide +kernel
theorem dX7_begin_70 : decode cX7_begin 70 = .ok (.invokevirtual 87, 3) := by decide +kernel
theorem dX7_begin_73 : decode cX7_begin 73 = .ok (.iconst 0, 1) := by decide +kernel
theorem dX7_begin_74 : decode cX7_begin 74 = .ok (.ireturn, 1) := by decide +kernel
theorem dX7_stop_0 : decode cX7_stop 0 = .ok (.aload_n 0, 1) := by decide +kernel
theorem dX7_stop_1 : decode cX7_stop 1 = .ok (.getfield 72, 3) := by decide +kernel
theorem dX7_stop_4 : decode cX7_stop 4 = .ok (.ifCond .ne 6, 3) := by decide +kernel
theorem dX7_stop_7 : decode cX7_stop 7 = .ok (.bipush (-3), 2) := by decide +kernel
theorem dX7_stop_9 : decode cX7_stop 9 = .ok (.ireturn, 1) := by decide +kernel
theorem dX7_stop_10 : decode cX7_stop 10 = .ok (.aload_n 0, 1) := by decide +kernel
theorem dX7_stop_11 : decode cX7_stop 11 = .ok (.getfield 19, 3) := by decide +kernel
theorem dX7_stop_14 : decode cX7_stop 14 = .ok (.invokevirtual 90, 3) := by decide +kernel
theorem dX7_stop_17 : decode cX7_stop 17 = .ok (.istore_n 2, 1) := by decide +kernel
theorem dX7_stop_18 : decode cX7_stop 18 = .ok (.iload_n 1, 1) := by decide +kernel
theorem dX7_stop_19 : decode cX7_stop 19 = .ok (.ifCond .eq 13, 3) := by decide +kernel
theorem dX7_stop_22 : decode cX7_stop 22 = .ok (.aload_n 0, 1) := by decide +kernel
theorem dX7_stop_23 : decode cX7_stop 23 = .ok (.getfield 19, 3) := by decide +kernel
theorem dX7_stop_26 : decode cX7_stop 26 = .ok (.invokevirtual 94, 3) := by decide +kernel
theorem dX7_stop_29 : decode cX7_stop 29 = .ok (.goto 10, 3) := by decide +kernel
theorem dX7_stop_32 : decode cX7_stop 32 = .ok (.aload_n 0, 1) := by decide +kernel
theorem dX7_stop_33 : decode cX7_stop 33 = .ok (.getfield 19, 3) := by decide +kernel
theorem dX7_stop_36 : decode cX7_stop 36 = .ok (.invokevirtual 97, 3) := by decide +kernel
theorem dX7_stop_39 : decode cX7_stop 39 = .ok (.iconst 0, 1) := by decide +kernel
theorem dX7_stop_40 : decode cX7_stop 40 = .ok (.istore_n 3, 1) := by decide +kernel
theorem dX7_stop_41 : decode cX7_stop 41 = .ok (.iload_n 3, 1) := by decide +kernel
theorem dX7_stop_42 : decode cX7_stop 42 = .ok (.iconst 4, 1) := by decide +kernel
theorem dX7_stop_43 : decode cX7_stop 43 = .ok (.if_icmp .ge 27, 3) := by decide +kernel
theorem dX7_stop_46 : decode cX7_stop 46 = .ok (.aload_n 0, 1) := by decide +kernel
theorem dX7_stop_47 : decode cX7_stop 47 = .ok (.getfield 25, 3) := by decide +kernel
theorem dX7_stop_50 : decode cX7_stop 50 = .ok (.iload_n 3, 1) := by decide +kernel
theorem dX7_stop_51 : decode cX7_stop 51 = .ok (.aaload, 1) := by decide +kernel
theorem dX7_stop_52 : decode cX7_stop 52 = .ok (.invokevirtual 100, 3) := by decide +kernel
theorem dX7_stop_55 : decode cX7_stop 55 = .ok (.aload_n 0, 1) := by decide +kernel
theorem dX7_stop_56 : decode cX7_stop 56 = .ok (.getfield 31, 3) := by decide +kernel
theorem dX7_stop_59 : decode cX7_stop 59 = .ok (.iload_n 3, 1) := by decide +kernel
theorem dX7_stop_60 : decode cX7_stop 60 = .ok (.aaload, 1) := by decide +kernel
theorem dX7_stop_61 : decode cX7_stop 61 = .ok (.invokevirtual 103, 3) := by decide +kernel
theorem dX7_stop_64 : decode cX7_stop 64 = .ok (.iinc 3 1, 3) := by decide +kernel
theorem dX7_stop_67 : decode cX7_stop 67 = .ok (.goto (-26), 3) := by decide +kernel
theorem dX7_stop_70 : decode cX7_stop 70 = .ok (.aload_n 0, 1) := by decide +kernel
theorem dX7_stop_71 : decode cX7_stop 71 = .ok (.iconst 0, 1) := by decide +kernel
theorem dX7_stop_72 : decode cX7_stop 72 = .ok (.putfield 72, 3) := by decide +kernel
theorem dX7_stop_75 : decode cX7_stop 75 = .ok (.iload_n 2, 1) := by decide +kernel
theorem dX7_stop_76 : decode cX7_stop 76 = .ok (.ireturn, 1) := by decide +kernel
theorem dX7_ring_0 : decode cX7_ring 0 = .ok (.aload_n 0, 1) := by decide +kernel
theorem dX7_ring_1 : decode cX7_ring 1 = .ok (.getfield 72, 3) := by decide +kernel
theorem dX7_ring_4 : decode cX7_ring 4 = .ok (.ifCond .ne 6, 3) := by decide +kernel
theorem dX7_ring_7 : decode cX7_ring 7 = .ok (.bipush (-3), 2) := by decide +kernel
theorem dX7_ring_9 : decode cX7_ring 9 = .ok (.ireturn, 1) := by decide +kernel
theorem dX7_ring_10 : decode cX7_ring 10 = .ok (.aload_n 0, 1) := by decide +kernel
theorem dX7_ring_11 : decode cX7_ring 11 = .ok (.iload_n 1, 1) := by decide +kernel
theorem dX7_ring_12 : decode cX7_ring 12 = .ok (.i2l, 1) := by decide +kernel
theorem dX7_ring_13 : decode cX7_ring 13 = .ok (.invokevirtual 104, 3) := by decide +kernel
theorem dX7_ring_16 : decode cX7_ring 16 = .ok (.ifCond .eq 16, 3) := by decide +kernel
theorem dX7_ring_19 : decode cX7_ring 19 = .ok (.aload_n 0, 1) := by decide +kernel
theorem dX7_ring_20 : decode cX7_ring 20 = .ok (.getfield 25, 3) := by decide +kernel
theorem dX7_ring_23 : decode cX7_ring 23 = .ok (.iload_n 1, 1) := by decide +kernel
theorem dX7_ring_24 : decode cX7_ring 24 = .ok (.aaload, 1) := by decide +kernel
theorem dX7_ring_25 : decode cX7_ring 25 = .ok (.iload_n 2, 1) := by decide +kernel
theorem dX7_ring_26 : decode cX7_ring 26 = .ok (.invokevirtual 107, 3) := by decide +kernel
theorem dX7_ring_29 : decode cX7_ring 29 = .ok (.ifCond .ne 5, 3) := by decide +kernel
theorem dX7_ring_32 : decode cX7_ring 32 = .ok (.iconst (-1), 1) := by decide +kernel
theorem dX7_ring_33 : decode cX7_ring 33 = .ok (.ireturn, 1) := by decide +kernel
theorem dX7_ring_34 : decode cX7_ring 34 = .ok (.aload_n 0, 1) := by decide +kernel
theorem dX7_ring_35 : decode cX7_ring 35 = .ok (.getfield 25, 3) := by decide +kernel
theorem dX7_ring_38 : decode cX7_ring 38 = .ok (.iload_n 1, 1) := by decide +kernel
theorem dX7_ring_39 : decode cX7_ring 39 = .ok (.aaload, 1) := by decide +kernel
theorem dX7_ring_40 : decode cX7_ring 40 = .ok (.iload_n 2, 1) := by decide +kernel
theorem dX7_ring_41 : decode cX7_ring 41 = .ok (.putfield 111, 3) := by decide +kernel
theorem dX7_ring_44 : decode cX7_ring 44 = .ok (.aload_n 0, 1) := by decide +kernel
theorem dX7_ring_45 : decode cX7_ring 45 = .ok (.getfield 25, 3) := by decide +kernel
theorem dX7_ring_48 : decode cX7_ring 48 = .ok (.iload_n 1, 1) := by decide +kernel
theorem dX7_ring_49 : decode cX7_ring 49 = .ok (.aaload, 1) := by decide +kernel
theorem dX7_ring_50 : decode cX7_ring 50 = .ok (.invokevirtual 114, 3) := by decide +kernel
theorem dX7_ring_53 : decode cX7_ring 53 = .ok (.ireturn, 1) := by decide +kernel
theorem dX7_seen_0 : decode cX7_seen 0 = .ok (.aload_n 0, 1) := by decide +kernel
theorem dX7_seen_1 : decode cX7_seen 1 = .ok (.getfield 72, 3) := by decide +kernel
theorem dX7_seen_4 : decode cX7_seen 4 = .ok (.ifCond .ne 6, 3) := by decide +kernel
theorem dX7_seen_7 : decode cX7_seen 7 = .ok (.bipush (-3), 2) := by decide +kernel
theorem dX7_seen_9 : decode cX7_seen 9 = .ok (.ireturn, 1) := by decide +kernel
theorem dX7_seen_10 : decode cX7_seen 10 = .ok (.aload_n 0, 1) := by decide +kernel
theorem dX7_seen_11 : decode cX7_seen 11 = .ok (.iload_n 1, 1) := by decide +kernel
theorem dX7_seen_12 : decode cX7_seen 12 = .ok (.i2l, 1) := by decide +kernel
theorem dX7_seen_13 : decode cX7_seen 13 = .ok (.invokevirtual 117, 3) := by decide +kernel
theorem dX7_seen_16 : decode cX7_seen 16 = .ok (.ifCond .eq 16, 3) := by decide +kernel
theorem dX7_seen_19 : decode cX7_seen 19 = .ok (.aload_n 0, 1) := by decide +kernel
theorem dX7_seen_20 : decode cX7_seen 20 = .ok (.getfield 31, 3) := by decide +kernel
theorem dX7_seen_23 : decode cX7_seen 23 = .ok (.iload_n 1, 1) := by decide +kernel
theorem dX7_seen_24 : decode cX7_seen 24 = .ok (.aaload, 1) := by decide +kernel
theorem dX7_seen_25 : decode cX7_seen 25 = .ok (.iload_n 2, 1) := by decide +kernel
theorem dX7_seen_26 : decode cX7_seen 26 = .ok (.invokevirtual 120, 3) := by decide +kernel
theorem dX7_seen_29 : decode cX7_seen 29 = .ok (.ifCond .ne 5, 3) := by decide +kernel
theorem dX7_seen_32 : decode cX7_seen 32 = .ok (.iconst (-1), 1) := by decide +kernel
theorem dX7_seen_33 : decode cX7_seen 33 = .ok (.ireturn, 1) := by decide +kernel
theorem dX7_seen_34 : decode cX7_seen 34 = .ok (.aload_n 0, 1) := by decide +kernel
theorem dX7_seen_35 : decode cX7_seen 35 = .ok (.getfield 31, 3) := by decide +kernel
theorem dX7_seen_38 : decode cX7_seen 38 = .ok (.iload_n 1, 1) := by decide +kernel
theorem dX7_seen_39 : decode cX7_seen 39 = .ok (.aaload, 1) := by decide +kernel
theorem dX7_seen_40 : decode cX7_seen 40 = .ok (.iload_n 2, 1) := by decide +kernel
theorem dX7_seen_41 : decode cX7_seen 41 = .ok (.putfield 123, 3) := by decide +kernel
theorem dX7_seen_44 : decode cX7_seen 44 = .ok (.aload_n 0, 1) := by decide +kernel
theorem dX7_seen_45 : decode cX7_seen 45 = .ok (.getfield 31, 3) := by decide +kernel
theorem dX7_seen_48 : decode cX7_seen 48 = .ok (.iload_n 1, 1) := by decide +kernel
theorem dX7_seen_49 : decode cX7_seen 49 = .ok (.aaload, 1) := by decide +kernel
theorem dX7_seen_50 : decode cX7_seen 50 = .ok (.invokevirtual 126, 3) := by decide +kernel
theorem dX7_seen_53 : decode cX7_seen 53 = .ok (.ireturn, 1) := by decide +kernel
theorem dX7_run_0 : decode cX7_run 0 = .ok (.aload_n 0, 1) := by decide +kernel
theorem dX7_run_1 : decode cX7_run 1 = .ok (.getfield 72, 3) := by decide +kernel
theorem dX7_run_4 : decode cX7_run 4 = .ok (.ifCond .ne 6, 3) := by decide +kernel
theorem dX7_run_7 : decode cX7_run 7 = .ok (.bipush (-3), 2) := by decide +kernel
theorem dX7_run_9 : decode cX7_run 9 = .ok (.ireturn, 1) := by decide +kernel
theorem dX7_run_10 : decode cX7_run 10 = .ok (.iload_n 1, 1) := by decide +kernel
theorem dX7_run_11 : decode cX7_run 11 = .ok (.ifCond .lt 10, 3) := by decide +kernel
theorem dX7_run_14 : decode cX7_run 14 = .ok (.iload_n 1, 1) := by decide +kernel
theorem dX7_run_15 : decode cX7_run 15 = .ok (.sipush 200, 3) := by decide +kernel
theorem dX7_run_18 : decode cX7_run 18 = .ok (.if_icmp .le 5, 3) := by decide +kernel
theorem dX7_run_21 : decode cX7_run 21 = .ok (.iconst (-1), 1) := by decide +kernel
theorem dX7_run_22 : decode cX7_run 22 = .ok (.ireturn, 1) := by decide +kernel
theorem dX7_run_23 : decode cX7_run 23 = .ok (.iconst 0, 1) := by decide +kernel
theorem dX7_run_24 : decode cX7_run 24 = .ok (.istore_n 2, 1) := by decide +kernel
theorem dX7_run_25 : decode cX7_run 25 = .ok (.iload_n 2, 1) := by decide +kernel
theorem dX7_run_26 : decode cX7_run 26 = .ok (.iload_n 1, 1) := by decide +kernel
theorem dX7_run_27 : decode cX7_run 27 = .ok (.if_icmp .ge 27, 3) := by decide +kernel
theorem dX7_run_30 : decode cX7_run 30 = .ok (.aload_n 0, 1) := by decide +kernel
theorem dX7_run_31 : decode cX7_run 31 = .ok (.invokevirtual 127, 3) := by decide +kernel
theorem dX7_run_34 : decode cX7_run 34 = .ok (.istore_n 3, 1) := by decide +kernel
theorem dX7_run_35 : decode cX7_run 35 = .ok (.iload_n 3, 1) := by decide +kernel
theorem dX7_run_36 : decode cX7_run 36 = .ok (.bipush (-2), 2) := by decide +kernel
theorem dX7_run_38 : decode cX7_run 38 = .ok (.if_icmp .ne 5, 3) := by decide +kernel
theorem dX7_run_41 : decode cX7_run 41 = .ok (.iload_n 2, 1) := by decide +kernel
theorem dX7_run_42 : decode cX7_run 42 = .ok (.ireturn, 1) := by decide +kernel
theorem dX7_run_43 : decode cX7_run 43 = .ok (.aload_n 0, 1) := by decide +kernel
theorem dX7_run_44 : decode cX7_run 44 = .ok (.iload_n 3, 1) := by decide +kernel
theorem dX7_run_45 : decode cX7_run 45 = .ok (.invokevirtual 130, 3) := by decide +kernel
theorem dX7_run_48 : decode cX7_run 48 = .ok (.iinc 2 1, 3) := by decide +kernel
theorem dX7_run_51 : decode cX7_run 51 = .ok (.goto (-26), 3) := by decide +kernel
theorem dX7_run_54 : decode cX7_run 54 = .ok (.iload_n 1, 1) := by decide +kernel
theorem dX7_run_55 : decode cX7_run 55 = .ok (.ireturn, 1) := by decide +kernel
theorem dX7_interrupts_0 : decode cX7_interrupts 0 = .ok (.aload_n 0, 1) := by decide +kernel
theorem dX7_interrupts_1 : decode cX7_interrupts 1 = .ok (.getfield 76, 3) := by decide +kernel
theorem dX7_interrupts_4 : decode cX7_interrupts 4 = .ok (.istore_n 2, 1) := by decide +kernel
theorem dX7_interrupts_5 : decode cX7_interrupts 5 = .ok (.aload_n 0, 1) := by decide +kernel
theorem dX7_interrupts_6 : decode cX7_interrupts 6 = .ok (.iload_n 2, 1) := by decide +kernel
theorem dX7_interrupts_7 : decode cX7_interrupts 7 = .ok (.iload_n 1, 1) := by decide +kernel
theorem dX7_interrupts_8 : decode cX7_interrupts 8 = .ok (.iconst (-1), 1) := by decide +kernel
theorem dX7_interrupts_9 : decode cX7_interrupts 9 = .ok (.ixor, 1) := by decide +kernel
theorem dX7_interrupts_10 : decode cX7_interrupts 10 = .ok (.iand, 1) := by decide +kernel
theorem dX7_interrupts_11 : decode cX7_interrupts 11 = .ok (.putfield 76, 3) := by decide +kernel
theorem dX7_interrupts_14 : decode cX7_interrupts 14 = .ok (.iload_n 2, 1) := by decide +kernel
theorem dX7_interrupts_15 : decode cX7_interrupts 15 = .ok (.ireturn, 1) := by decide +kernel
theorem dX7_block_0 : decode cX7_block 0 = .ok (.iload_n 3, 1) := by decide +kernel
theorem dX7_block_1 : decode cX7_block 1 = .ok (.ifCond .eq 15, 3) := by decide +kernel
theorem dX7_block_4 : decode cX7_block 4 = .ok (.aload_n 0, 1) := by decide +kernel
theorem dX7_block_5 : decode cX7_block 5 = .ok (.getfield 19, 3) := by decide +kernel
theorem dX7_block_8 : decode cX7_block 8 = .ok (.iload_n 1, 1) := by decide +kernel
theorem dX7_block_9 : decode cX7_block 9 = .ok (.iload_n 2, 1) := by decide +kernel
theorem dX7_block_10 : decode cX7_block 10 = .ok (.invokevirtual 134, 3) := by decide +kernel
theorem dX7_block_13 : decode cX7_block 13 = .ok (.goto 12, 3) := by decide +kernel
theorem dX7_block_16 : decode cX7_block 16 = .ok (.aload_n 0, 1) := by decide +kernel
theorem dX7_block_17 : decode cX7_block 17 = .ok (.getfield 19, 3) := by decide +kernel
theorem dX7_block_20 : decode cX7_block 20 = .ok (.iload_n 1, 1) := by decide +kernel
theorem dX7_block_21 : decode cX7_block 21 = .ok (.iload_n 2, 1) := by decide +kernel
theorem dX7_block_22 : decode cX7_block 22 = .ok (.invokevirtual 138, 3) := by decide +kernel
theorem dX7_block_25 : decode cX7_block 25 = .ok (.lreturn, 1) := by decide +kernel
theorem dX7_queue_0 : decode cX7_queue 0 = .ok (.iload_n 2, 1) := by decide +kernel
theorem dX7_queue_1 : decode cX7_queue 1 = .ok (.ifCond .lt 9, 3) := by decide +kernel
theorem dX7_queue_4 : decode cX7_queue 4 = .ok (.iload_n 2, 1) := by decide +kernel
theorem dX7_queue_5 : decode cX7_queue 5 = .ok (.bipush 8, 2) := by decide +kernel
theorem dX7_queue_7 : decode cX7_queue 7 = .ok (.if_icmp .le 5, 3) := by decide +kernel
theorem dX7_queue_10 : decode cX7_queue 10 = .ok (.iconst (-1), 1) := by decide +kernel
theorem dX7_queue_11 : decode cX7_queue 11 = .ok (.ireturn, 1) := by decide +kernel
theorem dX7_queue_12 : decode cX7_queue 12 = .ok (.iload_n 2, 1) := by decide +kernel
theorem dX7_queue_13 : decode cX7_queue 13 = .ok (.iconst 5, 1) := by decide +kernel
theorem dX7_queue_14 : decode cX7_queue 14 = .ok (.if_icmp .ge 28, 3) := by decide +kernel
theorem dX7_queue_17 : decode cX7_queue 17 = .ok (.aload_n 0, 1) := by decide +kernel
theorem dX7_queue_18 : decode cX7_queue 18 = .ok (.iload_n 1, 1) := by decide +kernel
theorem dX7_queue_19 : decode cX7_queue 19 = .ok (.i2l, 1) := by decide +kernel
theorem dX7_queue_20 : decode cX7_queue 20 = .ok (.invokevirtual 104, 3) := by decide +kernel
theorem dX7_queue_23 : decode cX7_queue 23 = .ok (.ifCond .eq 16, 3) := by decide +kernel
theorem dX7_queue_26 : decode cX7_queue 26 = .ok (.aload_n 0, 1) := by decide +kernel
theorem dX7_queue_27 : decode cX7_queue 27 = .ok (.getfield 25, 3) := by decide +kernel
theorem dX7_queue_30 : decode cX7_queue 30 = .ok (.iload_n 1, 1) := by decide +kernel
theorem dX7_queue_31 : decode cX7_queue 31 = .ok (.aaload, 1) := by decide +kernel
theorem dX7_queue_32 : decode cX7_queue 32 = .ok (.iload_n 2, 1) := by decide +kernel
theorem dX7_queue_33 : decode cX7_queue 33 = .ok (.invokestatic 141, 3) := by decide +kernel
theorem dX7_queue_36 : decode cX7_queue 36 = .ok (.goto 5, 3) := by decide +kernel
theorem dX7_queue_39 : decode cX7_queue 39 = .ok (.bipush (-2), 2) := by decide +kernel
theorem dX7_queue_41 : decode cX7_queue 41 = .ok (.ireturn, 1) := by decide +kernel
theorem dX7_queue_42 : decode cX7_queue 42 = .ok (.aload_n 0, 1) := by decide +kernel
theorem dX7_queue_43 : decode cX7_queue 43 = .ok (.iload_n 1, 1) := by decide +kernel
theorem dX7_queue_44 : decode cX7_queue 44 = .ok (.i2l, 1) := by decide +kernel
theorem dX7_queue_45 : decode cX7_queue 45 = .ok (.invokevirtual 117, 3) := by decide +kernel
theorem dX7_queue_48 : decode cX7_queue 48 = .ok (.ifCond .eq 16, 3) := by decide +kernel
theorem dX7_queue_51 : decode cX7_queue 51 = .ok (.aload_n 0, 1) := by decide +kernel
theorem dX7_queue_52 : decode cX7_queue 52 = .ok (.getfield 31, 3) := by decide +kernel
theorem dX7_queue_55 : decode cX7_queue 55 = .ok (.iload_n 1, 1) := by decide +kernel
theorem dX7_queue_56 : decode cX7_queue 56 = .ok (.aaload, 1) := by decide +kernel
theorem dX7_queue_57 : decode cX7_queue 57 = .ok (.iload_n 2, 1) := by decide +kernel
theorem dX7_queue_58 : decode cX7_queue 58 = .ok (.invokestatic 145, 3) := by decide +kernel
theorem dX7_queue_61 : decode cX7_queue 61 = .ok (.goto 5, 3) := by decide +kernel
theorem dX7_queue_64 : decode cX7_queue 64 = .ok (.bipush (-2), 2) := by decide +kernel
theorem dX7_queue_66 : decode cX7_queue 66 = .ok (.ireturn, 1) := by decide +kernel
theorem dX7_count_0 : decode cX7_count 0 = .ok (.iload_n 1, 1) := by decide +kernel
theorem dX7_count_1 : decode cX7_count 1 = .ok (.tableswitch 83 0 5 #[39, 47, 63, 68, 73, 78], 39) := by decide +kernel
theorem dX7_count_40 : decode cX7_count 40 = .ok (.aload_n 0, 1) := by decide +kernel
theorem dX7_count_41 : decode cX7_count 41 = .ok (.getfield 19, 3) := by decide +kernel
theorem dX7_count_44 : decode cX7_count 44 = .ok (.invokevirtual 90, 3) := by decide +kernel
theorem dX7_count_47 : decode cX7_count 47 = .ok (.ireturn, 1) := by decide +kernel
theorem dX7_count_48 : decode cX7_count 48 = .ok (.aload_n 0, 1) := by decide +kernel
theorem dX7_count_49 : decode cX7_count 49 = .ok (.getfield 19, 3) := by decide +kernel
theorem dX7_count_52 : decode cX7_count 52 = .ok (.invokevirtual 149, 3) := by decide +kernel
theorem dX7_count_55 : decode cX7_count 55 = .ok (.ifCond .eq 7, 3) := by decide +kernel
theorem dX7_count_58 : decode cX7_count 58 = .ok (.iconst 1, 1) := by decide +kernel
theorem dX7_count_59 : decode cX7_count 59 = .ok (.goto 4, 3) := by decide +kernel
theorem dX7_count_62 : decode cX7_count 62 = .ok (.iconst 0, 1) := by decide +kernel
theorem dX7_count_63 : decode cX7_count 63 = .ok (.ireturn, 1) := by decide +kernel
theorem dX7_count_64 : decode cX7_count 64 = .ok (.aload_n 0, 1) := by decide +kernel
theorem dX7_count_65 : decode cX7_count 65 = .ok (.getfield 153, 3) := by decide +kernel
theorem dX7_count_68 : decode cX7_count 68 = .ok (.ireturn, 1) := by decide +kernel
theorem dX7_count_69 : decode cX7_count 69 = .ok (.aload_n 0, 1) := by decide +kernel
theorem dX7_count_70 : decode cX7_count 70 = .ok (.getfield 156, 3) := by decide +kernel
theorem dX7_count_73 : decode cX7_count 73 = .ok (.ireturn, 1) := by decide +kernel
theorem dX7_count_74 : decode cX7_count 74 = .ok (.aload_n 0, 1) := by decide +kernel
theorem dX7_count_75 : decode cX7_count 75 = .ok (.getfield 159, 3) := by decide +kernel
theorem dX7_count_78 : decode cX7_count 78 = .ok (.ireturn, 1) := by decide +kernel
theorem dX7_count_79 : decode cX7_count 79 = .ok (.aload_n 0, 1) := by decide +kernel
theorem dX7_count_80 : decode cX7_count 80 = .ok (.getfield 162, 3) := by decide +kernel
theorem dX7_count_83 : decode cX7_count 83 = .ok (.ireturn, 1) := by decide +kernel
theorem dX7_count_84 : decode cX7_count 84 = .ok (.iconst (-1), 1) := by decide +kernel
theorem dX7_count_85 : decode cX7_count 85 = .ok (.ireturn, 1) := by decide +kernel
theorem dX7_hasSubmission_0 : decode cX7_hasSubmission 0 = .ok (.lload_n 1, 1) := by decide +kernel
theorem dX7_hasSubmission_1 : decode cX7_hasSubmission 1 = .ok (.lconst 0, 1) := by decide +kernel
theorem dX7_hasSubmission_2 : decode cX7_hasSubmission 2 = .ok (.lcmp, 1) := by decide +kernel
theorem dX7_hasSubmission_3 : decode cX7_hasSubmission 3 = .ok (.ifCond .lt 28, 3) := by decide +kernel
theorem dX7_hasSubmission_6 : decode cX7_hasSubmission 6 = .ok (.lload_n 1, 1) := by decide +kernel
theorem dX7_hasSubmission_7 : decode cX7_hasSubmission 7 = .ok (.ldc2_w 165, 3) := by decide +kernel
theorem dX7_hasSubmission_10 : decode cX7_hasSubmission 10 = .ok (.lcmp, 1) := by decide +kernel
theorem dX7_hasSubmission_11 : decode cX7_hasSubmission 11 = .ok (.ifCond .ge 20, 3) := by decide +kernel
theorem dX7_hasSubmission_14 : decode cX7_hasSubmission 14 = .ok (.aload_n 0, 1) := by decide +kernel
theorem dX7_hasSubmission_15 : decode cX7_hasSubmission 15 = .ok (.getfield 25, 3) := by decide +kernel
theorem dX7_hasSubmission_18 : decode cX7_hasSubmission 18 = .ok (.lload_n 1, 1) := by decide +kernel
theorem dX7_hasSubmission_19 : decode cX7_hasSubmission 19 = .ok (.l2i, 1) := by decide +kernel
theorem dX7_hasSubmission_20 : decode cX7_hasSubmission 20 = .ok (.aaload, 1) := by decide +kernel
theorem dX7_hasSubmission_21 : decode cX7_hasSubmission 21 = .ok (.getfield 167, 3) := by decide +kernel
theorem dX7_hasSubmission_24 : decode cX7_hasSubmission 24 = .ok (.ifCond .eq 7, 3) := by decide +kernel
theorem dX7_hasSubmission_27 : decode cX7_hasSubmission 27 = .ok (.iconst 1, 1) := by decide +kernel
theorem dX7_hasSubmission_28 : decode cX7_hasSubmission 28 = .ok (.goto 4, 3) := by decide +kernel
theorem dX7_hasSubmission_31 : decode cX7_hasSubmission 31 = .ok (.iconst 0, 1) := by decide +kernel
theorem dX7_hasSubmission_32 : decode cX7_hasSubmission 32 = .ok (.ireturn, 1) := by decide +kernel
theorem dX7_hasCompletion_0 : decode cX7_hasCompletion 0 = .ok (.lload_n 1, 1) := by decide +kernel
theorem dX7_hasCompletion_1 : decode cX7_hasCompletion 1 = .ok (.lconst 0, 1) := by decide +kernel
theorem dX7_hasCompletion_2 : decode cX7_hasCompletion 2 = .ok (.lcmp, 1) := by decide +kernel
theorem dX7_hasCompletion_3 : decode cX7_hasCompletion 3 = .ok (.ifCond .lt 28, 3) := by decide +kernel
theorem dX7_hasCompletion_6 : decode cX7_hasCompletion 6 = .ok (.lload_n 1, 1) := by decide +kernel
theorem dX7_hasCompletion_7 : decode cX7_hasCompletion 7 = .ok (.ldc2_w 165, 3) := by decide +kernel
theorem dX7_hasCompletion_10 : decode cX7_hasCompletion 10 = .ok (.lcmp, 1) := by decide +kernel
theorem dX7_hasCompletion_11 : decode cX7_hasCompletion 11 = .ok (.ifCond .ge 20, 3) := by decide +kernel
theorem dX7_hasCompletion_14 : decode cX7_hasCompletion 14 = .ok (.aload_n 0, 1) := by decide +kernel
theorem dX7_hasCompletion_15 : decode cX7_hasCompletion 15 = .ok (.getfield 31, 3) := by decide +kernel
theorem dX7_hasCompletion_18 : decode cX7_hasCompletion 18 = .ok (.lload_n 1, 1) := by decide +kernel
theorem dX7_hasCompletion_19 : decode cX7_hasCompletion 19 = .ok (.l2i, 1) := by decide +kernel
theorem dX7_hasCompletion_20 : decode cX7_hasCompletion 20 = .ok (.aaload, 1) := by decide +kernel
theorem dX7_hasCompletion_21 : decode cX7_hasCompletion 21 = .ok (.getfield 170, 3) := by decide +kernel
theorem dX7_hasCompletion_24 : decode cX7_hasCompletion 24 = .ok (.ifCond .eq 7, 3) := by decide +kernel
theorem dX7_hasCompletion_27 : decode cX7_hasCompletion 27 = .ok (.iconst 1, 1) := by decide +kernel
theorem dX7_hasCompletion_28 : decode cX7_hasCompletion 28 = .ok (.goto 4, 3) := by decide +kernel
theorem dX7_hasCompletion_31 : decode cX7_hasCompletion 31 = .ok (.iconst 0, 1) := by decide +kernel
theorem dX7_hasCompletion_32 : decode cX7_hasCompletion 32 = .ok (.ireturn, 1) := by decide +kernel
theorem dX7_tellOfSubmission_0 : decode cX7_tellOfSubmission 0 = .ok (.iload_n 1, 1) := by decide +kernel
theorem dX7_tellOfSubmission_1 : decode cX7_tellOfSubmission 1 = .ok (.tableswitch 51 0 3 #[31, 36, 41, 46], 31) := by decide +kernel
theorem dX7_tellOfSubmission_32 : decode cX7_tellOfSubmission 32 = .ok (.aload_n 0, 1) := by decide +kernel
theorem dX7_tellOfSubmission_33 : decode cX7_tellOfSubmission 33 = .ok (.getfield 171, 3) := by decide +kernel
theorem dX7_tellOfSubmission_36 : decode cX7_tellOfSubmission 36 = .ok (.ireturn, 1) := by decide +kernel
theorem dX7_tellOfSubmission_37 : decode cX7_tellOfSubmission 37 = .ok (.aload_n 0, 1) := by decide +kernel
theorem dX7_tellOfSubmission_38 : decode cX7_tellOfSubmission 38 = .ok (.getfield 111, 3) := by decide +kernel
theorem dX7_tellOfSubmission_41 : decode cX7_tellOfSubmission 41 = .ok (.ireturn, 1) := by decide +kernel
theorem dX7_tellOfSubmission_42 : decode cX7_tellOfSubmission 42 = .ok (.aload_n 0, 1) := by decide +kernel
theorem dX7_tellOfSubmission_43 : decode cX7_tellOfSubmission 43 = .ok (.invokevirtual 114, 3) := by decide +kernel
theorem dX7_tellOfSubmission_46 : decode cX7_tellOfSubmission 46 = .ok (.ireturn, 1) := by decide +kernel
theorem dX7_tellOfSubmission_47 : decode cX7_tellOfSubmission 47 = .ok (.aload_n 0, 1) := by decide +kernel
theorem dX7_tellOfSubmission_48 : decode cX7_tellOfSubmission 48 = .ok (.getfield 172, 3) := by decide +kernel
theorem dX7_tellOfSubmission_51 : decode cX7_tellOfSubmission 51 = .ok (.ireturn, 1) := by decide +kernel
theorem dX7_tellOfSubmission_52 : decode cX7_tellOfSubmission 52 = .ok (.aload_n 0, 1) := by decide +kernel
theorem dX7_tellOfSubmission_53 : decode cX7_tellOfSubmission 53 = .ok (.getfield 175, 3) := by decide +kernel
theorem dX7_tellOfSubmission_56 : decode cX7_tellOfSubmission 56 = .ok (.ireturn, 1) := by decide +kernel
theorem dX7_tellOfCompletion_0 : decode cX7_tellOfCompletion 0 = .ok (.iload_n 1, 1) := by decide +kernel
theorem dX7_tellOfCompletion_1 : decode cX7_tellOfCompletion 1 = .ok (.tableswitch 42 5 7 #[27, 32, 37], 27) := by decide +kernel
theorem dX7_tellOfCompletion_28 : decode cX7_tellOfCompletion 28 = .ok (.aload_n 0, 1) := by decide +kernel
theorem dX7_tellOfCompletion_29 : decode cX7_tellOfCompletion 29 = .ok (.getfield 123, 3) := by decide +kernel
theorem dX7_tellOfCompletion_32 : decode cX7_tellOfCompletion 32 = .ok (.ireturn, 1) := by decide +kernel
theorem dX7_tellOfCompletion_33 : decode cX7_tellOfCompletion 33 = .ok (.aload_n 0, 1) := by decide +kernel
theorem dX7_tellOfCompletion_34 : decode cX7_tellOfCompletion 34 = .ok (.getfield 178, 3) := by decide +kernel
theorem dX7_tellOfCompletion_37 : decode cX7_tellOfCompletion 37 = .ok (.ireturn, 1) := by decide +kernel
theorem dX7_tellOfCompletion_38 : decode cX7_tellOfCompletion 38 = .ok (.aload_n 0, 1) := by decide +kernel
theorem dX7_tellOfCompletion_39 : decode cX7_tellOfCompletion 39 = .ok (.getfield 179, 3) := by decide +kernel
theorem dX7_tellOfCompletion_42 : decode cX7_tellOfCompletion 42 = .ok (.ireturn, 1) := by decide +kernel
theorem dX7_tellOfCompletion_43 : decode cX7_tellOfCompletion 43 = .ok (.aload_n 0, 1) := by decide +kernel
theorem dX7_tellOfCompletion_44 : decode cX7_tellOfCompletion 44 = .ok (.getfield 182, 3) := by decide +kernel
theorem dX7_tellOfCompletion_47 : decode cX7_tellOfCompletion 47 = .ok (.ireturn, 1) := by decide +kernel
theorem dX7_nextReady_0 : decode cX7_nextReady 0 = .ok (.iconst 0, 1) := by decide +kernel
theorem dX7_nextReady_1 : decode cX7_nextReady 1 = .ok (.istore_n 1, 1) := by decide +kernel
theorem dX7_nextReady_2 : decode cX7_nextReady 2 = .ok (.iload_n 1, 1) := by decide +kernel
theorem dX7_nextReady_3 : decode cX7_nextReady 3 = .ok (.iconst 4, 1) := by decide +kernel
theorem dX7_nextReady_4 : decode cX7_nextReady 4 = .ok (.if_icmp .ge 33, 3) := by decide +kernel
theorem dX7_nextReady_7 : decode cX7_nextReady 7 = .ok (.aload_n 0, 1) := by decide +kernel
theorem dX7_nextReady_8 : decode cX7_nextReady 8 = .ok (.getfield 80, 3) := by decide +kernel
theorem dX7_nextReady_11 : decode cX7_nextReady 11 = .ok (.iload_n 1, 1) := by decide +kernel
theorem dX7_nextReady_12 : decode cX7_nextReady 12 = .ok (.iadd, 1) := by decide +kernel
theorem dX7_nextReady_13 : decode cX7_nextReady 13 = .ok (.iconst 4, 1) := by decide +kernel
theorem dX7_nextReady_14 : decode cX7_nextReady 14 = .ok (.irem, 1) := by decide +kernel
theorem dX7_nextReady_15 : decode cX7_nextReady 15 = .ok (.istore_n 2, 1) := by decide +kernel
theorem dX7_nextReady_16 : decode cX7_nextReady 16 = .ok (.aload_n 0, 1) := by decide +kernel
theorem dX7_nextReady_17 : decode cX7_nextReady 17 = .ok (.aload_n 0, 1) := by decide +kernel
theorem dX7_nextReady_18 : decode cX7_nextReady 18 = .ok (.getfield 25, 3) := by decide +kernel
theorem dX7_nextReady_21 : decode cX7_nextReady 21 = .ok (.iload_n 2, 1) := by decide +kernel
theorem dX7_nextReady_22 : decode cX7_nextReady 22 = .ok (.aaload, 1) := by decide +kernel
theorem dX7_nextReady_23 : decode cX7_nextReady 23 = .ok (.invokevirtual 183, 3) := by decide +kernel
theorem dX7_nextReady_26 : decode cX7_nextReady 26 = .ok (.ifCond .eq 5, 3) := by decide +kernel
theorem dX7_nextReady_29 : decode cX7_nextReady 29 = .ok (.iload_n 2, 1) := by decide +kernel
theorem dX7_nextReady_30 : decode cX7_nextReady 30 = .ok (.ireturn, 1) := by decide +kernel
theorem dX7_nextReady_31 : decode cX7_nextReady 31 = .ok (.iinc 1 1, 3) := by decide +kernel
theorem dX7_nextReady_34 : decode cX7_nextReady 34 = .ok (.goto (-32), 3) := by decide +kernel
theorem dX7_nextReady_37 : decode cX7_nextReady 37 = .ok (.bipush (-2), 2) := by decide +kernel
theorem dX7_nextReady_39 : decode cX7_nextReady 39 = .ok (.ireturn, 1) := by decide +kernel
theorem dX7_isReady_0 : decode cX7_isReady 0 = .ok (.aload_n 1, 1) := by decide +kernel
theorem dX7_isReady_1 : decode cX7_isReady 1 = .ok (.getfield 167, 3) := by decide +kernel
theorem dX7_isReady_4 : decode cX7_isReady 4 = .ok (.ifCond .eq 41, 3) := by decide +kernel
theorem dX7_isReady_7 : decode cX7_isReady 7 = .ok (.aload_n 1, 1) := by decide +kernel
theorem dX7_isReady_8 : decode cX7_isReady 8 = .ok (.invokevirtual 114, 3) := by decide +kernel
theorem dX7_isReady_11 : decode cX7_isReady 11 = .ok (.ifCond .le 34, 3) := by decide +kernel
theorem dX7_isReady_14 : decode cX7_isReady 14 = .ok (.aload_n 0, 1) := by decide +kernel
theorem dX7_isReady_15 : decode cX7_isReady 15 = .ok (.aload_n 1, 1) := by decide +kernel
theorem dX7_isReady_16 : decode cX7_isReady 16 = .ok (.getfield 175, 3) := by decide +kernel
theorem dX7_isReady_19 : decode cX7_isReady 19 = .ok (.i2l, 1) := by decide +kernel
theorem dX7_isReady_20 : decode cX7_isReady 20 = .ok (.invokevirtual 117, 3) := by decide +kernel
theorem dX7_isReady_23 : decode cX7_isReady 23 = .ok (.ifCond .eq 22, 3) := by decide +kernel
theorem dX7_isReady_26 : decode cX7_isReady 26 = .ok (.aload_n 0, 1) := by decide +kernel
theorem dX7_isReady_27 : decode cX7_isReady 27 = .ok (.getfield 31, 3) := by decide +kernel
theorem dX7_isReady_30 : decode cX7_isReady 30 = .ok (.aload_n 1, 1) := by decide +kernel
theorem dX7_isReady_31 : decode cX7_isReady 31 = .ok (.getfield 175, 3) := by decide +kernel
theorem dX7_isReady_34 : decode cX7_isReady 34 = .ok (.aaload, 1) := by decide +kernel
theorem dX7_isReady_35 : decode cX7_isReady 35 = .ok (.invokevirtual 187, 3) := by decide +kernel
theorem dX7_isReady_38 : decode cX7_isReady 38 = .ok (.ifCond .ne 7, 3) := by decide +kernel
theorem dX7_isReady_41 : decode cX7_isReady 41 = .ok (.iconst 1, 1) := by decide +kernel
theorem dX7_isReady_42 : decode cX7_isReady 42 = .ok (.goto 4, 3) := by decide +kernel
theorem dX7_isReady_45 : decode cX7_isReady 45 = .ok (.iconst 0, 1) := by decide +kernel
theorem dX7_isReady_46 : decode cX7_isReady 46 = .ok (.ireturn, 1) := by decide +kernel
theorem dX7_doCommandOf_0 : decode cX7_doCommandOf 0 = .ok (.aload_n 0, 1) := by decide +kernel
theorem dX7_doCommandOf_1 : decode cX7_doCommandOf 1 = .ok (.getfield 25, 3) := by decide +kernel
theorem dX7_doCommandOf_4 : decode cX7_doCommandOf 4 = .ok (.iload_n 1, 1) := by decide +kernel
theorem dX7_doCommandOf_5 : decode cX7_doCommandOf 5 = .ok (.aaload, 1) := by decide +kernel
theorem dX7_doCommandOf_6 : decode cX7_doCommandOf 6 = .ok (.astore_n 2, 1) := by decide +kernel
theorem dX7_doCommandOf_7 : decode cX7_doCommandOf 7 = .ok (.aload_n 0, 1) := by decide +kernel
theorem dX7_doCommandOf_8 : decode cX7_doCommandOf 8 = .ok (.getfield 40, 3) := by decide +kernel
theorem dX7_doCommandOf_11 : decode cX7_doCommandOf 11 = .ok (.aload_n 0, 1) := by decide +kernel
theorem dX7_doCommandOf_12 : decode cX7_doCommandOf 12 = .ok (.getfield 10, 3) := by decide +kernel
theorem dX7_doCommandOf_15 : decode cX7_doCommandOf 15 = .ok (.aload_n 2, 1) := by decide +kernel
theorem dX7_doCommandOf_16 : decode cX7_doCommandOf 16 = .ok (.invokevirtual 190, 3) := by decide +kernel
theorem dX7_doCommandOf_19 : decode cX7_doCommandOf 19 = .ok (.invokevirtual 193, 3) := by decide +kernel
theorem dX7_doCommandOf_22 : decode cX7_doCommandOf 22 = .ok (.aload_n 2, 1) := by decide +kernel
theorem dX7_doCommandOf_23 : decode cX7_doCommandOf 23 = .ok (.aload_n 2, 1) := by decide +kernel
theorem dX7_doCommandOf_24 : decode cX7_doCommandOf 24 = .ok (.aload_n 2, 1) := by decide +kernel
theorem dX7_doCommandOf_25 : decode cX7_doCommandOf 25 = .ok (.getfield 171, 3) := by decide +kernel
theorem dX7_doCommandOf_28 : decode cX7_doCommandOf 28 = .ok (.invokevirtual 197, 3) := by decide +kernel
theorem dX7_doCommandOf_31 : decode cX7_doCommandOf 31 = .ok (.putfield 171, 3) := by decide +kernel
theorem dX7_doCommandOf_34 : decode cX7_doCommandOf 34 = .ok (.aload_n 0, 1) := by decide +kernel
theorem dX7_doCommandOf_35 : decode cX7_doCommandOf 35 = .ok (.iload_n 1, 1) := by decide +kernel
theorem dX7_doCommandOf_36 : decode cX7_doCommandOf 36 = .ok (.iconst 1, 1) := by decide +kernel
theorem dX7_doCommandOf_37 : decode cX7_doCommandOf 37 = .ok (.iadd, 1) := by decide +kernel
theorem dX7_doCommandOf_38 : decode cX7_doCommandOf 38 = .ok (.iconst 4, 1) := by decide +kernel
theorem dX7_doCommandOf_39 : decode cX7_doCommandOf 39 = .ok (.irem, 1) := by decide +kernel
theorem dX7_doCommandOf_40 : decode cX7_doCommandOf 40 = .ok (.putfield 80, 3) := by decide +kernel
theorem dX7_doCommandOf_43 : decode cX7_doCommandOf 43 = .ok (.aload_n 0, 1) := by decide +kernel
theorem dX7_doCommandOf_44 : decode cX7_doCommandOf 44 = .ok (.iconst 0, 1) := by decide +kernel
theorem dX7_doCommandOf_45 : decode cX7_doCommandOf 45 = .ok (.putfield 201, 3) := by decide +kernel
theorem dX7_doCommandOf_48 : decode cX7_doCommandOf 48 = .ok (.iload_n 1, 1) := by decide +kernel
theorem dX7_doCommandOf_49 : decode cX7_doCommandOf 49 = .ok (.ifCond .ne 10, 3) := by decide +kernel
theorem dX7_doCommandOf_52 : decode cX7_doCommandOf 52 = .ok (.aload_n 0, 1) := by decide +kernel
theorem dX7_doCommandOf_53 : decode cX7_doCommandOf 53 = .ok (.invokevirtual 204, 3) := by decide +kernel
theorem dX7_doCommandOf_56 : decode cX7_doCommandOf 56 = .ok (.goto 7, 3) := by decide +kernel
theorem dX7_doCommandOf_59 : decode cX7_doCommandOf 59 = .ok (.aload_n 0, 1) := by decide +kernel
theorem dX7_doCommandOf_60 : decode cX7_doCommandOf 60 = .ok (.invokevirtual 207, 3) := by decide +kernel
theorem dX7_doCommandOf_63 : decode cX7_doCommandOf 63 = .ok (.istore_n 3, 1) := by decide +kernel
theorem dX7_doCommandOf_64 : decode cX7_doCommandOf 64 = .ok (.iload_n 3, 1) := by decide +kernel
theorem dX7_doCommandOf_65 : decode cX7_doCommandOf 65 = .ok (.ifCond .ne 16, 3) := by decide +kernel
theorem dX7_doCommandOf_68 : decode cX7_doCommandOf 68 = .ok (.aload_n 0, 1) := by decide +kernel
theorem dX7_doCommandOf_69 : decode cX7_doCommandOf 69 = .ok (.dup, 1) := by decide +kernel
theorem dX7_doCommandOf_70 : decode cX7_doCommandOf 70 = .ok (.getfield 153, 3) := by decide +kernel
theorem dX7_doCommandOf_73 : decode cX7_doCommandOf 73 = .ok (.iconst 1, 1) := by decide +kernel
theorem dX7_doCommandOf_74 : decode cX7_doCommandOf 74 = .ok (.iadd, 1) := by decide +kernel
theorem dX7_doCommandOf_75 : decode cX7_doCommandOf 75 = .ok (.putfield 153, 3) := by decide +kernel
theorem dX7_doCommandOf_78 : decode cX7_doCommandOf 78 = .ok (.goto 13, 3) := by decide +kernel
theorem dX7_doCommandOf_81 : decode cX7_doCommandOf 81 = .ok (.aload_n 0, 1) := by decide +kernel
theorem dX7_doCommandOf_82 : decode cX7_doCommandOf 82 = .ok (.dup, 1) := by decide +kernel
theorem dX7_doCommandOf_83 : decode cX7_doCommandOf 83 = .ok (.getfield 156, 3) := by decide +kernel
theorem dX7_doCommandOf_86 : decode cX7_doCommandOf 86 = .ok (.iconst 1, 1) := by decide +kernel
theorem dX7_doCommandOf_87 : decode cX7_doCommandOf 87 = .ok (.iadd, 1) := by decide +kernel
theorem dX7_doCommandOf_88 : decode cX7_doCommandOf 88 = .ok (.putfield 156, 3) := by decide +kernel
theorem dX7_doCommandOf_91 : decode cX7_doCommandOf 91 = .ok (.aload_n 0, 1) := by decide +kernel
theorem dX7_doCommandOf_92 : decode cX7_doCommandOf 92 = .ok (.iload_n 1, 1) := by decide +kernel
theorem dX7_doCommandOf_93 : decode cX7_doCommandOf 93 = .ok (.iload_n 3, 1) := by decide +kernel
theorem dX7_doCommandOf_94 : decode cX7_doCommandOf 94 = .ok (.invokevirtual 210, 3) := by decide +kernel
theorem dX7_doCommandOf_97 : decode cX7_doCommandOf 97 = .ok (.return_, 1) := by decide +kernel
theorem dX7_answer_0 : decode cX7_answer 0 = .ok (.aload_n 0, 1) := by decide +kernel
theorem dX7_answer_1 : decode cX7_answer 1 = .ok (.getfield 25, 3) := by decide +kernel
theorem dX7_answer_4 : decode cX7_answer 4 = .ok (.iload_n 1, 1) := by decide +kernel
theorem dX7_answer_5 : decode cX7_answer 5 = .ok (.aaload, 1) := by decide +kernel
theorem dX7_answer_6 : decode cX7_answer 6 = .ok (.getfield 175, 3) := by decide +kernel
theorem dX7_answer_9 : decode cX7_answer 9 = .ok (.istore_n 3, 1) := by decide +kernel
theorem dX7_answer_10 : decode cX7_answer 10 = .ok (.aload_n 0, 1) := by decide +kernel
theorem dX7_answer_11 : decode cX7_answer 11 = .ok (.getfield 31, 3) := by decide +kernel
theorem dX7_answer_14 : decode cX7_answer 14 = .ok (.iload_n 3, 1) := by decide +kernel
theorem dX7_answer_15 : decode cX7_answer 15 = .ok (.aaload, 1) := by decide +kernel
theorem dX7_answer_16 : decode cX7_answer 16 = .ok (.astore 4, 2) := by decide +kernel
theorem dX7_answer_18 : decode cX7_answer 18 = .ok (.aload_n 0, 1) := by decide +kernel
theorem dX7_answer_19 : decode cX7_answer 19 = .ok (.getfield 40, 3) := by decide +kernel
theorem dX7_answer_22 : decode cX7_answer 22 = .ok (.getfield 214, 3) := by decide +kernel
theorem dX7_answer_25 : decode cX7_answer 25 = .ok (.i2l, 1) := by decide +kernel
theorem dX7_answer_26 : decode cX7_answer 26 = .ok (.iload_n 1, 1) := by decide +kernel
theorem dX7_answer_27 : decode cX7_answer 27 = .ok (.i2l, 1) := by decide +kernel
theorem dX7_answer_28 : decode cX7_answer 28 = .ok (.bipush 16, 2) := by decide +kernel
theorem dX7_answer_30 : decode cX7_answer 30 = .ok (.lshl, 1) := by decide +kernel
theorem dX7_answer_31 : decode cX7_answer 31 = .ok (.lor, 1) := by decide +kernel
theorem dX7_answer_32 : decode cX7_answer 32 = .ok (.aload_n 0, 1) := by decide +kernel
theorem dX7_answer_33 : decode cX7_answer 33 = .ok (.getfield 25, 3) := by decide +kernel
theorem dX7_answer_36 : decode cX7_answer 36 = .ok (.iload_n 1, 1) := by decide +kernel
theorem dX7_answer_37 : decode cX7_answer 37 = .ok (.aaload, 1) := by decide +kernel
theorem dX7_answer_38 : decode cX7_answer 38 = .ok (.getfield 171, 3) := by decide +kernel
theorem dX7_answer_41 : decode cX7_answer 41 = .ok (.i2l, 1) := by decide +kernel
theorem dX7_answer_42 : decode cX7_answer 42 = .ok (.bipush 20, 2) := by decide +kernel
theorem dX7_answer_44 : decode cX7_answer 44 = .ok (.lshl, 1) := by decide +kernel
theorem dX7_answer_45 : decode cX7_answer 45 = .ok (.lor, 1) := by decide +kernel
theorem dX7_answer_46 : decode cX7_answer 46 = .ok (.iload_n 2, 1) := by decide +kernel
theorem dX7_answer_47 : decode cX7_answer 47 = .ok (.i2l, 1) := by decide +kernel
theorem dX7_answer_48 : decode cX7_answer 48 = .ok (.bipush 28, 2) := by decide +kernel
theorem dX7_answer_50 : decode cX7_answer 50 = .ok (.lshl, 1) := by decide +kernel
theorem dX7_answer_51 : decode cX7_answer 51 = .ok (.lor, 1) := by decide +kernel
theorem dX7_answer_52 : decode cX7_answer 52 = .ok (.aload 4, 2) := by decide +kernel
theorem dX7_answer_54 : decode cX7_answer 54 = .ok (.getfield 179, 3) := by decide +kernel
theorem dX7_answer_57 : decode cX7_answer 57 = .ok (.i2l, 1) := by decide +kernel
theorem dX7_answer_58 : decode cX7_answer 58 = .ok (.bipush 36, 2) := by decide +kernel
theorem dX7_answer_60 : decode cX7_answer 60 = .ok (.lshl, 1) := by decide +kernel
theorem dX7_answer_61 : decode cX7_answer 61 = .ok (.lor, 1) := by decide +kernel
theorem dX7_answer_62 : decode cX7_answer 62 = .ok (.aload_n 0, 1) := by decide +kernel
theorem dX7_answer_63 : decode cX7_answer 63 = .ok (.getfield 201, 3) := by decide +kernel
theorem dX7_answer_66 : decode cX7_answer 66 = .ok (.i2l, 1) := by decide +kernel
theorem dX7_answer_67 : decode cX7_answer 67 = .ok (.bipush 40, 2) := by decide +kernel
theorem dX7_answer_69 : decode cX7_answer 69 = .ok (.lshl, 1) := by decide +kernel
theorem dX7_answer_70 : decode cX7_answer 70 = .ok (.lor, 1) := by decide +kernel
theorem dX7_answer_71 : decode cX7_answer 71 = .ok (.lstore 5, 2) := by decide +kernel
theorem dX7_answer_73 : decode cX7_answer 73 = .ok (.aload_n 0, 1) := by decide +kernel
theorem dX7_answer_74 : decode cX7_answer 74 = .ok (.getfield 10, 3) := by decide +kernel
theorem dX7_answer_77 : decode cX7_answer 77 = .ok (.aload 4, 2) := by decide +kernel
theorem dX7_answer_79 : decode cX7_answer 79 = .ok (.invokevirtual 217, 3) := by decide +kernel
theorem dX7_answer_82 : decode cX7_answer 82 = .ok (.lload 5, 2) := by decide +kernel
theorem dX7_answer_84 : decode cX7_answer 84 = .ok (.invokevirtual 63, 3) := by decide +kernel
theorem dX7_answer_87 : decode cX7_answer 87 = .ok (.aload 4, 2) := by decide +kernel
theorem dX7_answer_89 : decode cX7_answer 89 = .ok (.invokevirtual 220, 3) := by decide +kernel
theorem dX7_answer_92 : decode cX7_answer 92 = .ok (.aload 4, 2) := by decide +kernel
theorem dX7_answer_94 : decode cX7_answer 94 = .ok (.getfield 223, 3) := by decide +kernel
theorem dX7_answer_97 : decode cX7_answer 97 = .ok (.ifCond .eq 15, 3) := by decide +kernel
theorem dX7_answer_100 : decode cX7_answer 100 = .ok (.aload_n 0, 1) := by decide +kernel
theorem dX7_answer_101 : decode cX7_answer 101 = .ok (.dup, 1) := by decide +kernel
theorem dX7_answer_102 : decode cX7_answer 102 = .ok (.getfield 76, 3) := by decide +kernel
theorem dX7_answer_105 : decode cX7_answer 105 = .ok (.iconst 1, 1) := by decide +kernel
theorem dX7_answer_106 : decode cX7_answer 106 = .ok (.iload_n 3, 1) := by decide +kernel
theorem dX7_answer_107 : decode cX7_answer 107 = .ok (.ishl, 1) := by decide +kernel
theorem dX7_answer_108 : decode cX7_answer 108 = .ok (.ior, 1) := by decide +kernel
theorem dX7_answer_109 : decode cX7_answer 109 = .ok (.putfield 76, 3) := by decide +kernel
theorem dX7_answer_112 : decode cX7_answer 112 = .ok (.return_, 1) := by decide +kernel
theorem dX7_doAdminOp_0 : decode cX7_doAdminOp 0 = .ok (.aload_n 0, 1) := by decide +kernel
theorem dX7_doAdminOp_1 : decode cX7_doAdminOp 1 = .ok (.getfield 40, 3) := by decide +kernel
theorem dX7_doAdminOp_4 : decode cX7_doAdminOp 4 = .ok (.getfield 226, 3) := by decide +kernel
theorem dX7_doAdminOp_7 : decode cX7_doAdminOp 7 = .ok (.tableswitch 76 1 7 #[41, 46, 51, 56, 61, 66, 71], 41) := by decide +kernel
theorem dX7_doAdminOp_48 : decode cX7_doAdminOp 48 = .ok (.aload_n 0, 1) := by decide +kernel
theorem dX7_doAdminOp_49 : decode cX7_doAdminOp 49 = .ok (.invokevirtual 229, 3) := by decide +kernel
theorem dX7_doAdminOp_52 : decode cX7_doAdminOp 52 = .ok (.ireturn, 1) := by decide +kernel
theorem dX7_doAdminOp_53 : decode cX7_doAdminOp 53 = .ok (.aload_n 0, 1) := by decide +kernel
theorem dX7_doAdminOp_54 : decode cX7_doAdminOp 54 = .ok (.invokevirtual 232, 3) := by decide +kernel
theorem dX7_doAdminOp_57 : decode cX7_doAdminOp 57 = .ok (.ireturn, 1) := by decide +kernel
theorem dX7_doAdminOp_58 : decode cX7_doAdminOp 58 = .ok (.aload_n 0, 1) := by decide +kernel
theorem dX7_doAdminOp_59 : decode cX7_doAdminOp 59 = .ok (.invokevirtual 235, 3) := by decide +kernel
theorem dX7_doAdminOp_62 : decode cX7_doAdminOp 62 = .ok (.ireturn, 1) := by decide +kernel
theorem dX7_doAdminOp_63 : decode cX7_doAdminOp 63 = .ok (.aload_n 0, 1) := by decide +kernel
theorem dX7_doAdminOp_64 : decode cX7_doAdminOp 64 = .ok (.invokevirtual 238, 3) := by decide +kernel
theorem dX7_doAdminOp_67 : decode cX7_doAdminOp 67 = .ok (.ireturn, 1) := by decide +kernel
theorem dX7_doAdminOp_68 : decode cX7_doAdminOp 68 = .ok (.aload_n 0, 1) := by decide +kernel
theorem dX7_doAdminOp_69 : decode cX7_doAdminOp 69 = .ok (.invokevirtual 241, 3) := by decide +kernel
theorem dX7_doAdminOp_72 : decode cX7_doAdminOp 72 = .ok (.ireturn, 1) := by decide +kernel
theorem dX7_doAdminOp_73 : decode cX7_doAdminOp 73 = .ok (.aload_n 0, 1) := by decide +kernel
theorem dX7_doAdminOp_74 : decode cX7_doAdminOp 74 = .ok (.invokevirtual 244, 3) := by decide +kernel
theorem dX7_doAdminOp_77 : decode cX7_doAdminOp 77 = .ok (.ireturn, 1) := by decide +kernel
theorem dX7_doAdminOp_78 : decode cX7_doAdminOp 78 = .ok (.aload_n 0, 1) := by decide +kernel
theorem dX7_doAdminOp_79 : decode cX7_doAdminOp 79 = .ok (.invokevirtual 247, 3) := by decide +kernel
theorem dX7_doAdminOp_82 : decode cX7_doAdminOp 82 = .ok (.ireturn, 1) := by decide +kernel
theorem dX7_doAdminOp_83 : decode cX7_doAdminOp 83 = .ok (.iconst 1, 1) := by decide +kernel
theorem dX7_doAdminOp_84 : decode cX7_doAdminOp 84 = .ok (.ireturn, 1) := by decide +kernel
theorem dX7_doBlockOp_0 : decode cX7_doBlockOp 0 = .ok (.aload_n 0, 1) := by decide +kernel
theorem dX7_doBlockOp_1 : decode cX7_doBlockOp 1 = .ok (.invokevirtual 250, 3) := by decide +kernel
theorem dX7_doBlockOp_4 : decode cX7_doBlockOp 4 = .ok (.istore_n 1, 1) := by decide +kernel
theorem dX7_doBlockOp_5 : decode cX7_doBlockOp 5 = .ok (.iload_n 1, 1) := by decide +kernel
theorem dX7_doBlockOp_6 : decode cX7_doBlockOp 6 = .ok (.ifCond .eq 5, 3) := by decide +kernel
theorem dX7_doBlockOp_9 : decode cX7_doBlockOp 9 = .ok (.iload_n 1, 1) := by decide +kernel
theorem dX7_doBlockOp_10 : decode cX7_doBlockOp 10 = .ok (.ireturn, 1) := by decide +kernel
theorem dX7_doBlockOp_11 : decode cX7_doBlockOp 11 = .ok (.aload_n 0, 1) := by decide +kernel
theorem dX7_doBlockOp_12 : decode cX7_doBlockOp 12 = .ok (.getfield 40, 3) := by decide +kernel
theorem dX7_doBlockOp_15 : decode cX7_doBlockOp 15 = .ok (.getfield 226, 3) := by decide +kernel
theorem dX7_doBlockOp_18 : decode cX7_doBlockOp 18 = .ok (.tableswitch 74 16 20 #[34, 43, 49, 55, 68], 34) := by decide +kernel
theorem dX7_doBlockOp_52 : decode cX7_doBlockOp 52 = .ok (.aload_n 0, 1) := by decide +kernel
theorem dX7_doBlockOp_53 : decode cX7_doBlockOp 53 = .ok (.getfield 19, 3) := by decide +kernel
theorem dX7_doBlockOp_56 : decode cX7_doBlockOp 56 = .ok (.invokevirtual 97, 3) := by decide +kernel
theorem dX7_doBlockOp_59 : decode cX7_doBlockOp 59 = .ok (.iconst 0, 1) := by decide +kernel
theorem dX7_doBlockOp_60 : decode cX7_doBlockOp 60 = .ok (.ireturn, 1) := by decide +kernel
theorem dX7_doBlockOp_61 : decode cX7_doBlockOp 61 = .ok (.aload_n 0, 1) := by decide +kernel
theorem dX7_doBlockOp_62 : decode cX7_doBlockOp 62 = .ok (.invokevirtual 253, 3) := by decide +kernel
theorem dX7_doBlockOp_65 : decode cX7_doBlockOp 65 = .ok (.iconst 0, 1) := by decide +kernel
theorem dX7_doBlockOp_66 : decode cX7_doBlockOp 66 = .ok (.ireturn, 1) := by decide +kernel
theorem dX7_doBlockOp_67 : decode cX7_doBlockOp 67 = .ok (.aload_n 0, 1) := by decide +kernel
theorem dX7_doBlockOp_68 : decode cX7_doBlockOp 68 = .ok (.invokevirtual 256, 3) := by decide +kernel
theorem dX7_doBlockOp_71 : decode cX7_doBlockOp 71 = .ok (.iconst 0, 1) := by decide +kernel
theorem dX7_doBlockOp_72 : decode cX7_doBlockOp 72 = .ok (.ireturn, 1) := by decide +kernel
theorem dX7_doBlockOp_73 : decode cX7_doBlockOp 73 = .ok (.aload_n 0, 1) := by decide +kernel
theorem dX7_doBlockOp_74 : decode cX7_doBlockOp 74 = .ok (.invokevirtual 259, 3) := by decide +kernel
theorem dX7_doBlockOp_77 : decode cX7_doBlockOp 77 = .ok (.ifCond .eq 7, 3) := by decide +kernel
theorem dX7_doBlockOp_80 : decode cX7_doBlockOp 80 = .ok (.iconst 0, 1) := by decide +kernel
theorem dX7_doBlockOp_81 : decode cX7_doBlockOp 81 = .ok (.goto 4, 3) := by decide +kernel
theorem dX7_doBlockOp_84 : decode cX7_doBlockOp 84 = .ok (.iconst 5, 1) := by decide +kernel
theorem dX7_doBlockOp_85 : decode cX7_doBlockOp 85 = .ok (.ireturn, 1) := by decide +kernel
theorem dX7_doBlockOp_86 : decode cX7_doBlockOp 86 = .ok (.aload_n 0, 1) := by decide +kernel
theorem dX7_doBlockOp_87 : decode cX7_doBlockOp 87 = .ok (.invokevirtual 262, 3) := by decide +kernel
theorem dX7_doBlockOp_90 : decode cX7_doBlockOp 90 = .ok (.iconst 0, 1) := by decide +kernel
theorem dX7_doBlockOp_91 : decode cX7_doBlockOp 91 = .ok (.ireturn, 1) := by decide +kernel
theorem dX7_doBlockOp_92 : decode cX7_doBlockOp 92 = .ok (.aload_n 0, 1) := by decide +kernel
theorem dX7_doBlockOp_93 : decode cX7_doBlockOp 93 = .ok (.invokevirtual 265, 3) := by decide +kernel
theorem dX7_doBlockOp_96 : decode cX7_doBlockOp 96 = .ok (.ireturn, 1) := by decide +kernel
theorem dX7_wrongOfBlockOp_0 : decode cX7_wrongOfBlockOp 0 = .ok (.aload_n 0, 1) := by decide +kernel
theorem dX7_wrongOfBlockOp_1 : decode cX7_wrongOfBlockOp 1 = .ok (.getfield 40, 3) := by decide +kernel
theorem dX7_wrongOfBlockOp_4 : decode cX7_wrongOfBlockOp 4 = .ok (.getfield 226, 3) := by decide +kernel
theorem dX7_wrongOfBlockOp_7 : decode cX7_wrongOfBlockOp 7 = .ok (.bipush 16, 2) := by decide +kernel
theorem dX7_wrongOfBlockOp_9 : decode cX7_wrongOfBlockOp 9 = .ok (.if_icmp .lt 15, 3) := by decide +kernel
theorem dX7_wrongOfBlockOp_12 : decode cX7_wrongOfBlockOp 12 = .ok (.aload_n 0, 1) := by decide +kernel
theorem dX7_wrongOfBlockOp_13 : decode cX7_wrongOfBlockOp 13 = .ok (.getfield 40, 3) := by decide +kernel
theorem dX7_wrongOfBlockOp_16 : decode cX7_wrongOfBlockOp 16 = .ok (.getfield 226, 3) := by decide +kernel
theorem dX7_wrongOfBlockOp_19 : decode cX7_wrongOfBlockOp 19 = .ok (.bipush 21, 2) := by decide +kernel
theorem dX7_wrongOfBlockOp_21 : decode cX7_wrongOfBlockOp 21 = .ok (.if_icmp .le 5, 3) := by decide +kernel
theorem dX7_wrongOfBlockOp_24 : decode cX7_wrongOfBlockOp 24 = .ok (.iconst 1, 1) := by decide +kernel
theorem dX7_wrongOfBlockOp_25 : decode cX7_wrongOfBlockOp 25 = .ok (.ireturn, 1) := by decide +kernel
theorem dX7_wrongOfBlockOp_26 : decode cX7_wrongOfBlockOp 26 = .ok (.aload_n 0, 1) := by decide +kernel
theorem dX7_wrongOfBlockOp_27 : decode cX7_wrongOfBlockOp 27 = .ok (.getfield 40, 3) := by decide +kernel
theorem dX7_wrongOfBlockOp_30 : decode cX7_wrongOfBlockOp 30 = .ok (.getfield 226, 3) := by decide +kernel
theorem dX7_wrongOfBlockOp_33 : decode cX7_wrongOfBlockOp 33 = .ok (.bipush 16, 2) := by decide +kernel
theorem dX7_wrongOfBlockOp_35 : decode cX7_wrongOfBlockOp 35 = .ok (.if_icmp .ne 5, 3) := by decide +kernel
theorem dX7_wrongOfBlockOp_38 : decode cX7_wrongOfBlockOp 38 = .ok (.iconst 0, 1) := by decide +kernel
theorem dX7_wrongOfBlockOp_39 : decode cX7_wrongOfBlockOp 39 = .ok (.ireturn, 1) := by decide +kernel
theorem dX7_wrongOfBlockOp_40 : decode cX7_wrongOfBlockOp 40 = .ok (.aload_n 0, 1) := by decide +kernel
theorem dX7_wrongOfBlockOp_41 : decode cX7_wrongOfBlockOp 41 = .ok (.getfield 40, 3) := by decide +kernel
theorem dX7_wrongOfBlockOp_44 : decode cX7_wrongOfBlockOp 44 = .ok (.getfield 268, 3) := by decide +kernel
theorem dX7_wrongOfBlockOp_47 : decode cX7_wrongOfBlockOp 47 = .ok (.invokestatic 272, 3) := by decide +kernel
theorem dX7_wrongOfBlockOp_50 : decode cX7_wrongOfBlockOp 50 = .ok (.ifCond .eq 27, 3) := by decide +kernel
theorem dX7_wrongOfBlockOp_53 : decode cX7_wrongOfBlockOp 53 = .ok (.aload_n 0, 1) := by decide +kernel
theorem dX7_wrongOfBlockOp_54 : decode cX7_wrongOfBlockOp 54 = .ok (.getfield 40, 3) := by decide +kernel
theorem dX7_wrongOfBlockOp_57 : decode cX7_wrongOfBlockOp 57 = .ok (.getfield 268, 3) := by decide +kernel
theorem dX7_wrongOfBlockOp_60 : decode cX7_wrongOfBlockOp 60 = .ok (.aload_n 0, 1) := by decide +kernel
theorem dX7_wrongOfBlockOp_61 : decode cX7_wrongOfBlockOp 61 = .ok (.getfield 40, 3) := by decide +kernel
theorem dX7_wrongOfBlockOp_64 : decode cX7_wrongOfBlockOp 64 = .ok (.getfield 275, 3) := by decide +kernel
theorem dX7_wrongOfBlockOp_67 : decode cX7_wrongOfBlockOp 67 = .ok (.i2l, 1) := by decide +kernel
theorem dX7_wrongOfBlockOp_68 : decode cX7_wrongOfBlockOp 68 = .ok (.ladd, 1) := by decide +kernel
theorem dX7_wrongOfBlockOp_69 : decode cX7_wrongOfBlockOp 69 = .ok (.lconst 1, 1) := by decide +kernel
theorem dX7_wrongOfBlockOp_70 : decode cX7_wrongOfBlockOp 70 = .ok (.lsub, 1) := by decide +kernel
theorem dX7_wrongOfBlockOp_71 : decode cX7_wrongOfBlockOp 71 = .ok (.invokestatic 272, 3) := by decide +kernel
theorem dX7_wrongOfBlockOp_74 : decode cX7_wrongOfBlockOp 74 = .ok (.ifCond .ne 5, 3) := by decide +kernel
theorem dX7_wrongOfBlockOp_77 : decode cX7_wrongOfBlockOp 77 = .ok (.iconst 3, 1) := by decide +kernel
theorem dX7_wrongOfBlockOp_78 : decode cX7_wrongOfBlockOp 78 = .ok (.ireturn, 1) := by decide +kernel
theorem dX7_wrongOfBlockOp_79 : decode cX7_wrongOfBlockOp 79 = .ok (.aload_n 0, 1) := by decide +kernel
theorem dX7_wrongOfBlockOp_80 : decode cX7_wrongOfBlockOp 80 = .ok (.getfield 40, 3) := by decide +kernel
theorem dX7_wrongOfBlockOp_83 : decode cX7_wrongOfBlockOp 83 = .ok (.getfield 226, 3) := by decide +kernel
theorem dX7_wrongOfBlockOp_86 : decode cX7_wrongOfBlockOp 86 = .ok (.bipush 20, 2) := by decide +kernel
theorem dX7_wrongOfBlockOp_88 : decode cX7_wrongOfBlockOp 88 = .ok (.if_icmp .ne 5, 3) := by decide +kernel
theorem dX7_wrongOfBlockOp_91 : decode cX7_wrongOfBlockOp 91 = .ok (.iconst 0, 1) := by decide +kernel
theorem dX7_wrongOfBlockOp_92 : decode cX7_wrongOfBlockOp 92 = .ok (.ireturn, 1) := by decide +kernel
theorem dX7_wrongOfBlockOp_93 : decode cX7_wrongOfBlockOp 93 = .ok (.aload_n 0, 1) := by decide +kernel
theorem dX7_wrongOfBlockOp_94 : decode cX7_wrongOfBlockOp 94 = .ok (.getfield 40, 3) := by decide +kernel
theorem dX7_wrongOfBlockOp_97 : decode cX7_wrongOfBlockOp 97 = .ok (.getfield 226, 3) := by decide +kernel
theorem dX7_wrongOfBlockOp_100 : decode cX7_wrongOfBlockOp 100 = .ok (.bipush 21, 2) := by decide +kernel
theorem dX7_wrongOfBlockOp_102 : decode cX7_wrongOfBlockOp 102 = .ok (.if_icmp .ne 51, 3) := by decide +kernel
theorem dX7_wrongOfBlockOp_105 : decode cX7_wrongOfBlockOp 105 = .ok (.aload_n 0, 1) := by decide +kernel
theorem dX7_wrongOfBlockOp_106 : decode cX7_wrongOfBlockOp 106 = .ok (.getfield 40, 3) := by decide +kernel
theorem dX7_wrongOfBlockOp_109 : decode cX7_wrongOfBlockOp 109 = .ok (.getfield 278, 3) := by decide +kernel
theorem dX7_wrongOfBlockOp_112 : decode cX7_wrongOfBlockOp 112 = .ok (.aload_n 0, 1) := by decide +kernel
theorem dX7_wrongOfBlockOp_113 : decode cX7_wrongOfBlockOp 113 = .ok (.getfield 40, 3) := by decide +kernel
theorem dX7_wrongOfBlockOp_116 : decode cX7_wrongOfBlockOp 116 = .ok (.getfield 275, 3) := by decide +kernel
theorem dX7_wrongOfBlockOp_119 : decode cX7_wrongOfBlockOp 119 = .ok (.invokestatic 281, 3) := by decide +kernel
theorem dX7_wrongOfBlockOp_122 : decode cX7_wrongOfBlockOp 122 = .ok (.ifCond .eq 27, 3) := by decide +kernel
theorem dX7_wrongOfBlockOp_125 : decode cX7_wrongOfBlockOp 125 = .ok (.aload_n 0, 1) := by decide +kernel
theorem dX7_wrongOfBlockOp_126 : decode cX7_wrongOfBlockOp 126 = .ok (.getfield 40, 3) := by decide +kernel
theorem dX7_wrongOfBlockOp_129 : decode cX7_wrongOfBlockOp 129 = .ok (.getfield 285, 3) := by decide +kernel
theorem dX7_wrongOfBlockOp_132 : decode cX7_wrongOfBlockOp 132 = .ok (.aload_n 0, 1) := by decide +kernel
theorem dX7_wrongOfBlockOp_133 : decode cX7_wrongOfBlockOp 133 = .ok (.getfield 40, 3) := by decide +kernel
theorem dX7_wrongOfBlockOp_136 : decode cX7_wrongOfBlockOp 136 = .ok (.getfield 275, 3) := by decide +kernel
theorem dX7_wrongOfBlockOp_139 : decode cX7_wrongOfBlockOp 139 = .ok (.invokestatic 281, 3) := by decide +kernel
theorem dX7_wrongOfBlockOp_142 : decode cX7_wrongOfBlockOp 142 = .ok (.ifCond .eq 7, 3) := by decide +kernel
theorem dX7_wrongOfBlockOp_145 : decode cX7_wrongOfBlockOp 145 = .ok (.iconst 1, 1) := by decide +kernel
theorem dX7_wrongOfBlockOp_146 : decode cX7_wrongOfBlockOp 146 = .ok (.goto 22, 3) := by decide +kernel
theorem dX7_wrongOfBlockOp_149 : decode cX7_wrongOfBlockOp 149 = .ok (.iconst 0, 1) := by decide +kernel
theorem dX7_wrongOfBlockOp_150 : decode cX7_wrongOfBlockOp 150 = .ok (.goto 18, 3) := by decide +kernel
theorem dX7_wrongOfBlockOp_153 : decode cX7_wrongOfBlockOp 153 = .ok (.aload_n 0, 1) := by decide +kernel
theorem dX7_wrongOfBlockOp_154 : decode cX7_wrongOfBlockOp 154 = .ok (.getfield 47, 3) := by decide +kernel
theorem dX7_wrongOfBlockOp_157 : decode cX7_wrongOfBlockOp 157 = .ok (.aload_n 0, 1) := by decide +kernel
theorem dX7_wrongOfBlockOp_158 : decode cX7_wrongOfBlockOp 158 = .ok (.getfield 10, 3) := by decide +kernel
theorem dX7_wrongOfBlockOp_161 : decode cX7_wrongOfBlockOp 161 = .ok (.aload_n 0, 1) := by decide +kernel
theorem dX7_wrongOfBlockOp_162 : decode cX7_wrongOfBlockOp 162 = .ok (.getfield 40, 3) := by decide +kernel
theorem dX7_wrongOfBlockOp_165 : decode cX7_wrongOfBlockOp 165 = .ok (.invokevirtual 288, 3) := by decide +kernel
theorem dX7_wrongOfBlockOp_168 : decode cX7_wrongOfBlockOp 168 = .ok (.istore_n 1, 1) := by decide +kernel
theorem dX7_wrongOfBlockOp_169 : decode cX7_wrongOfBlockOp 169 = .ok (.iload_n 1, 1) := by decide +kernel
theorem dX7_wrongOfBlockOp_170 : decode cX7_wrongOfBlockOp 170 = .ok (.ifCond .eq 7, 3) := by decide +kernel
theorem dX7_wrongOfBlockOp_173 : decode cX7_wrongOfBlockOp 173 = .ok (.iconst 0, 1) := by decide +kernel
theorem dX7_wrongOfBlockOp_174 : decode cX7_wrongOfBlockOp 174 = .ok (.goto 4, 3) := by decide +kernel
theorem dX7_wrongOfBlockOp_177 : decode cX7_wrongOfBlockOp 177 = .ok (.iconst 4, 1) := by decide +kernel
theorem dX7_wrongOfBlockOp_178 : decode cX7_wrongOfBlockOp 178 = .ok (.ireturn, 1) := by decide +kernel
theorem dX7_compareAndWrite_0 : decode cX7_compareAndWrite 0 = .ok (.aload_n 0, 1) := by decide +kernel
theorem dX7_compareAndWrite_1 : decode cX7_compareAndWrite 1 = .ok (.getfield 47, 3) := by decide +kernel
theorem dX7_compareAndWrite_4 : decode cX7_compareAndWrite 4 = .ok (.aload_n 0, 1) := by decide +kernel
theorem dX7_compareAndWrite_5 : decode cX7_compareAndWrite 5 = .ok (.getfield 40, 3) := by decide +kernel
theorem dX7_compareAndWrite_8 : decode cX7_compareAndWrite 8 = .ok (.getfield 278, 3) := by decide +kernel
theorem dX7_compareAndWrite_11 : decode cX7_compareAndWrite 11 = .ok (.l2i, 1) := by decide +kernel
theorem dX7_compareAndWrite_12 : decode cX7_compareAndWrite 12 = .ok (.aload_n 0, 1) := by decide +kernel
theorem dX7_compareAndWrite_13 : decode cX7_compareAndWrite 13 = .ok (.getfield 40, 3) := by decide +kernel
theorem dX7_compareAndWrite_16 : decode cX7_compareAndWrite 16 = .ok (.getfield 275, 3) := by decide +kernel
theorem dX7_compareAndWrite_19 : decode cX7_compareAndWrite 19 = .ok (.invokevirtual 292, 3) := by decide +kernel
theorem dX7_compareAndWrite_22 : decode cX7_compareAndWrite 22 = .ok (.aload_n 0, 1) := by decide +kernel
theorem dX7_compareAndWrite_23 : decode cX7_compareAndWrite 23 = .ok (.invokevirtual 259, 3) := by decide +kernel
theorem dX7_compareAndWrite_26 : decode cX7_compareAndWrite 26 = .ok (.ifCond .ne 5, 3) := by decide +kernel
theorem dX7_compareAndWrite_29 : decode cX7_compareAndWrite 29 = .ok (.iconst 5, 1) := by decide +kernel
theorem dX7_compareAndWrite_30 : decode cX7_compareAndWrite 30 = .ok (.ireturn, 1) := by decide +kernel
theorem dX7_compareAndWrite_31 : decode cX7_compareAndWrite 31 = .ok (.aload_n 0, 1) := by decide +kernel
theorem dX7_compareAndWrite_32 : decode cX7_compareAndWrite 32 = .ok (.getfield 47, 3) := by decide +kernel
theorem dX7_compareAndWrite_35 : decode cX7_compareAndWrite 35 = .ok (.aload_n 0, 1) := by decide +kernel
theorem dX7_compareAndWrite_36 : decode cX7_compareAndWrite 36 = .ok (.getfield 40, 3) := by decide +kernel
theorem dX7_compareAndWrite_39 : decode cX7_compareAndWrite 39 = .ok (.getfield 285, 3) := by decide +kernel
theorem dX7_compareAndWrite_42 : decode cX7_compareAndWrite 42 = .ok (.l2i, 1) := by decide +kernel
theorem dX7_compareAndWrite_43 : decode cX7_compareAndWrite 43 = .ok (.aload_n 0, 1) := by decide +kernel
theorem dX7_compareAndWrite_44 : decode cX7_compareAndWrite 44 = .ok (.getfield 40, 3) := by decide +kernel
theorem dX7_compareAndWrite_47 : decode cX7_compareAndWrite 47 = .ok (.getfield 275, 3) := by decide +kernel
theorem dX7_compareAndWrite_50 : decode cX7_compareAndWrite 50 = .ok (.invokevirtual 292, 3) := by decide +kernel
theorem dX7_compareAndWrite_53 : decode cX7_compareAndWrite 53 = .ok (.aload_n 0, 1) := by decide +kernel
theorem dX7_compareAndWrite_54 : decode cX7_compareAndWrite 54 = .ok (.invokevirtual 253, 3) := by decide +kernel
theorem dX7_compareAndWrite_57 : decode cX7_compareAndWrite 57 = .ok (.iconst 0, 1) := by decide +kernel
theorem dX7_compareAndWrite_58 : decode cX7_compareAndWrite 58 = .ok (.ireturn, 1) := by decide +kernel
theorem dX7_readToData_0 : decode cX7_readToData 0 = .ok (.iconst 0, 1) := by decide +kernel
theorem dX7_readToData_1 : decode cX7_readToData 1 = .ok (.istore_n 1, 1) := by decide +kernel
theorem dX7_readToData_2 : decode cX7_readToData 2 = .ok (.iload_n 1, 1) := by decide +kernel
theorem dX7_readToData_3 : decode cX7_readToData 3 = .ok (.aload_n 0, 1) := by decide +kernel
theorem dX7_readToData_4 : decode cX7_readToData 4 = .ok (.getfield 40, 3) := by decide +kernel
theorem dX7_readToData_7 : decode cX7_readToData 7 = .ok (.getfield 275, 3) := by decide +kernel
theorem dX7_readToData_10 : decode cX7_readToData 10 = .ok (.if_icmp .ge 35, 3) := by decide +kernel
theorem dX7_readToData_13 : decode cX7_readToData 13 = .ok (.aload_n 0, 1) := by decide +kernel
theorem dX7_readToData_14 : decode cX7_readToData 14 = .ok (.getfield 19, 3) := by decide +kernel
theorem dX7_readToData_17 : decode cX7_readToData 17 = .ok (.aload_n 0, 1) := by decide +kernel
theorem dX7_readToData_18 : decode cX7_readToData 18 = .ok (.getfield 40, 3) := by decide +kernel
theorem dX7_readToData_21 : decode cX7_readToData 21 = .ok (.getfield 268, 3) := by decide +kernel
theorem dX7_readToData_24 : decode cX7_readToData 24 = .ok (.l2i, 1) := by decide +kernel
theorem dX7_readToData_25 : decode cX7_readToData 25 = .ok (.iload_n 1, 1) := by decide +kernel
theorem dX7_readToData_26 : decode cX7_readToData 26 = .ok (.iadd, 1) := by decide +kernel
theorem dX7_readToData_27 : decode cX7_readToData 27 = .ok (.aload_n 0, 1) := by decide +kernel
theorem dX7_readToData_28 : decode cX7_readToData 28 = .ok (.getfield 51, 3) := by decide +kernel
theorem dX7_readToData_31 : decode cX7_readToData 31 = .ok (.invokevirtual 295, 3) := by decide +kernel
theorem dX7_readToData_34 : decode cX7_readToData 34 = .ok (.aload_n 0, 1) := by decide +kernel
theorem dX7_readToData_35 : decode cX7_readToData 35 = .ok (.iload_n 1, 1) := by decide +kernel
theorem dX7_readToData_36 : decode cX7_readToData 36 = .ok (.invokevirtual 299, 3) := by decide +kernel
theorem dX7_readToData_39 : decode cX7_readToData 39 = .ok (.iinc 1 1, 3) := by decide +kernel
theorem dX7_readToData_42 : decode cX7_readToData 42 = .ok (.goto (-40), 3) := by decide +kernel
theorem dX7_readToData_45 : decode cX7_readToData 45 = .ok (.aload_n 0, 1) := by decide +kernel
theorem dX7_readToData_46 : decode cX7_readToData 46 = .ok (.dup, 1) := by decide +kernel
theorem dX7_readToData_47 : decode cX7_readToData 47 = .ok (.getfield 159, 3) := by decide +kernel
theorem dX7_readToData_50 : decode cX7_readToData 50 = .ok (.aload_n 0, 1) := by decide +kernel
theorem dX7_readToData_51 : decode cX7_readToData 51 = .ok (.getfield 40, 3) := by decide +kernel
theorem dX7_readToData_54 : decode cX7_readToData 54 = .ok (.getfield 275, 3) := by decide +kernel
theorem dX7_readToData_57 : decode cX7_readToData 57 = .ok (.iadd, 1) := by decide +kernel
theorem dX7_readToData_58 : decode cX7_readToData 58 = .ok (.putfield 159, 3) := by decide +kernel
theorem dX7_readToData_61 : decode cX7_readToData 61 = .ok (.return_, 1) := by decide +kernel
theorem dX7_storeZeros_0 : decode cX7_storeZeros 0 = .ok (.aload_n 0, 1) := by decide +kernel
theorem dX7_storeZeros_1 : decode cX7_storeZeros 1 = .ok (.getfield 51, 3) := by decide +kernel
theorem dX7_storeZeros_4 : decode cX7_storeZeros 4 = .ok (.lconst 0, 1) := by decide +kernel
theorem dX7_storeZeros_5 : decode cX7_storeZeros 5 = .ok (.invokestatic 302, 3) := by decide +kernel
theorem dX7_storeZeros_8 : decode cX7_storeZeros 8 = .ok (.iconst 0, 1) := by decide +kernel
theorem dX7_storeZeros_9 : decode cX7_storeZeros 9 = .ok (.istore_n 1, 1) := by decide +kernel
theorem dX7_storeZeros_10 : decode cX7_storeZeros 10 = .ok (.iload_n 1, 1) := by decide +kernel
theorem dX7_storeZeros_11 : decode cX7_storeZeros 11 = .ok (.aload_n 0, 1) := by decide +kernel
theorem dX7_storeZeros_12 : decode cX7_storeZeros 12 = .ok (.getfield 40, 3) := by decide +kernel
theorem dX7_storeZeros_15 : decode cX7_storeZeros 15 = .ok (.getfield 275, 3) := by decide +kernel
theorem dX7_storeZeros_18 : decode cX7_storeZeros 18 = .ok (.if_icmp .ge 30, 3) := by decide +kernel
theorem dX7_storeZeros_21 : decode cX7_storeZeros 21 = .ok (.aload_n 0, 1) := by decide +kernel
theorem dX7_storeZeros_22 : decode cX7_storeZeros 22 = .ok (.getfield 19, 3) := by decide +kernel
theorem dX7_storeZeros_25 : decode cX7_storeZeros 25 = .ok (.aload_n 0, 1) := by decide +kernel
theorem dX7_storeZeros_26 : decode cX7_storeZeros 26 = .ok (.getfield 40, 3) := by decide +kernel
theorem dX7_storeZeros_29 : decode cX7_storeZeros 29 = .ok (.getfield 268, 3) := by decide +kernel
theorem dX7_storeZeros_32 : decode cX7_storeZeros 32 = .ok (.l2i, 1) := by decide +kernel
theorem dX7_storeZeros_33 : decode cX7_storeZeros 33 = .ok (.iload_n 1, 1) := by decide +kernel
theorem dX7_storeZeros_34 : decode cX7_storeZeros 34 = .ok (.iadd, 1) := by decide +kernel
theorem dX7_storeZeros_35 : decode cX7_storeZeros 35 = .ok (.aload_n 0, 1) := by decide +kernel
theorem dX7_storeZeros_36 : decode cX7_storeZeros 36 = .ok (.getfield 51, 3) := by decide +kernel
theorem dX7_storeZeros_39 : decode cX7_storeZeros 39 = .ok (.invokevirtual 308, 3) := by decide +kernel
theorem dX7_storeZeros_42 : decode cX7_storeZeros 42 = .ok (.iinc 1 1, 3) := by decide +kernel
theorem dX7_storeZeros_45 : decode cX7_storeZeros 45 = .ok (.goto (-35), 3) := by decide +kernel
theorem dX7_storeZeros_48 : decode cX7_storeZeros 48 = .ok (.aload_n 0, 1) := by decide +kernel
theorem dX7_storeZeros_49 : decode cX7_storeZeros 49 = .ok (.invokevirtual 311, 3) := by decide +kernel
theorem dX7_storeZeros_52 : decode cX7_storeZeros 52 = .ok (.return_, 1) := by decide +kernel
theorem dX7_storeFromData_0 : decode cX7_storeFromData 0 = .ok (.iconst 0, 1) := by decide +kernel
theorem dX7_storeFromData_1 : decode cX7_storeFromData 1 = .ok (.istore_n 1, 1) := by decide +kernel
theorem dX7_storeFromData_2 : decode cX7_storeFromData 2 = .ok (.iload_n 1, 1) := by decide +kernel
theorem dX7_storeFromData_3 : decode cX7_storeFromData 3 = .ok (.aload_n 0, 1) := by decide +kernel
theorem dX7_storeFromData_4 : decode cX7_storeFromData 4 = .ok (.getfield 40, 3) := by decide +kernel
theorem dX7_storeFromData_7 : decode cX7_storeFromData 7 = .ok (.getfield 275, 3) := by decide +kernel
theorem dX7_storeFromData_10 : decode cX7_storeFromData 10 = .ok (.if_icmp .ge 70, 3) := by decide +kernel
theorem dX7_storeFromData_13 : decode cX7_storeFromData 13 = .ok (.iconst 0, 1) := by decide +kernel
theorem dX7_storeFromData_14 : decode cX7_storeFromData 14 = .ok (.istore_n 2, 1) := by decide +kernel
theorem dX7_storeFromData_15 : decode cX7_storeFromData 15 = .ok (.iload_n 2, 1) := by decide +kernel
theorem dX7_storeFromData_16 : decode cX7_storeFromData 16 = .ok (.bipush 8, 2) := by decide +kernel
theorem dX7_storeFromData_18 : decode cX7_storeFromData 18 = .ok (.if_icmp .ge 35, 3) := by decide +kernel
theorem dX7_storeFromData_21 : decode cX7_storeFromData 21 = .ok (.aload_n 0, 1) := by decide +kernel
theorem dX7_storeFromData_22 : decode cX7_storeFromData 22 = .ok (.getfield 51, 3) := by decide +kernel
theorem dX7_storeFromData_25 : decode cX7_storeFromData 25 = .ok (.iload_n 2, 1) := by decide +kernel
theorem dX7_storeFromData_26 : decode cX7_storeFromData 26 = .ok (.aload_n 0, 1) := by decide +kernel
theorem dX7_storeFromData_27 : decode cX7_storeFromData 27 = .ok (.getfield 10, 3) := by decide +kernel
theorem dX7_storeFromData_30 : decode cX7_storeFromData 30 = .ok (.aload_n 0, 1) := by decide +kernel
theorem dX7_storeFromData_31 : decode cX7_storeFromData 31 = .ok (.getfield 47, 3) := by decide +kernel
theorem dX7_storeFromData_34 : decode cX7_storeFromData 34 = .ok (.iload_n 1, 1) := by decide +kernel
theorem dX7_storeFromData_35 : decode cX7_storeFromData 35 = .ok (.bipush 8, 2) := by decide +kernel
theorem dX7_storeFromData_37 : decode cX7_storeFromData 37 = .ok (.imul, 1) := by decide +kernel
theorem dX7_storeFromData_38 : decode cX7_storeFromData 38 = .ok (.iload_n 2, 1) := by decide +kernel
theorem dX7_storeFromData_39 : decode cX7_storeFromData 39 = .ok (.iadd, 1) := by decide +kernel
theorem dX7_storeFromData_40 : decode cX7_storeFromData 40 = .ok (.invokevirtual 314, 3) := by decide +kernel
theorem dX7_storeFromData_43 : decode cX7_storeFromData 43 = .ok (.invokevirtual 55, 3) := by decide +kernel
theorem dX7_storeFromData_46 : decode cX7_storeFromData 46 = .ok (.lastore, 1) := by decide +kernel
theorem dX7_storeFromData_47 : decode cX7_storeFromData 47 = .ok (.iinc 2 1, 3) := by decide +kernel
theorem dX7_storeFromData_50 : decode cX7_storeFromData 50 = .ok (.goto (-35), 3) := by decide +kernel
theorem dX7_storeFromData_53 : decode cX7_storeFromData 53 = .ok (.aload_n 0, 1) := by decide +kernel
theorem dX7_storeFromData_54 : decode cX7_storeFromData 54 = .ok (.getfield 19, 3) := by decide +kernel
theorem dX7_storeFromData_57 : decode cX7_storeFromData 57 = .ok (.aload_n 0, 1) := by decide +kernel
theorem dX7_storeFromData_58 : decode cX7_storeFromData 58 = .ok (.getfield 40, 3) := by decide +kernel
theorem dX7_storeFromData_61 : decode cX7_storeFromData 61 = .ok (.getfield 268, 3) := by decide +kernel
theorem dX7_storeFromData_64 : decode cX7_storeFromData 64 = .ok (.l2i, 1) := by decide +kernel
theorem dX7_storeFromData_65 : decode cX7_storeFromData 65 = .ok (.iload_n 1, 1) := by decide +kernel
theorem dX7_storeFromData_66 : decode cX7_storeFromData 66 = .ok (.iadd, 1) := by decide +kernel
theorem dX7_storeFromData_67 : decode cX7_storeFromData 67 = .ok (.aload_n 0, 1) := by decide +kernel
theorem dX7_storeFromData_68 : decode cX7_storeFromData 68 = .ok (.getfield 51, 3) := by decide +kernel
theorem dX7_storeFromData_71 : decode cX7_storeFromData 71 = .ok (.invokevirtual 308, 3) := by decide +kernel
theorem dX7_storeFromData_74 : decode cX7_storeFromData 74 = .ok (.iinc 1 1, 3) := by decide +kernel
theorem dX7_storeFromData_77 : decode cX7_storeFromData 77 = .ok (.goto (-75), 3) := by decide +kernel
theorem dX7_storeFromData_80 : decode cX7_storeFromData 80 = .ok (.aload_n 0, 1) := by decide +kernel
theorem dX7_storeFromData_81 : decode cX7_storeFromData 81 = .ok (.invokevirtual 311, 3) := by decide +kernel
theorem dX7_storeFromData_84 : decode cX7_storeFromData 84 = .ok (.return_, 1) := by decide +kernel
theorem dX7_endStoring_0 : decode cX7_endStoring 0 = .ok (.aload_n 0, 1) := by decide +kernel
theorem dX7_endStoring_1 : decode cX7_endStoring 1 = .ok (.dup, 1) := by decide +kernel
theorem dX7_endStoring_2 : decode cX7_endStoring 2 = .ok (.getfield 162, 3) := by decide +kernel
theorem dX7_endStoring_5 : decode cX7_endStoring 5 = .ok (.aload_n 0, 1) := by decide +kernel
theorem dX7_endStoring_6 : decode cX7_endStoring 6 = .ok (.getfield 40, 3) := by decide +kernel
theorem dX7_endStoring_9 : decode cX7_endStoring 9 = .ok (.getfield 275, 3) := by decide +kernel
theorem dX7_endStoring_12 : decode cX7_endStoring 12 = .ok (.iadd, 1) := by decide +kernel
theorem dX7_endStoring_13 : decode cX7_endStoring 13 = .ok (.putfield 162, 3) := by decide +kernel
theorem dX7_endStoring_16 : decode cX7_endStoring 16 = .ok (.aload_n 0, 1) := by decide +kernel
theorem dX7_endStoring_17 : decode cX7_endStoring 17 = .ok (.getfield 40, 3) := by decide +kernel
theorem dX7_endStoring_20 : decode cX7_endStoring 20 = .ok (.getfield 317, 3) := by decide +kernel
theorem dX7_endStoring_23 : decode cX7_endStoring 23 = .ok (.ifCond .eq 10, 3) := by decide +kernel
theorem dX7_endStoring_26 : decode cX7_endStoring 26 = .ok (.aload_n 0, 1) := by decide +kernel
theorem dX7_endStoring_27 : decode cX7_endStoring 27 = .ok (.getfield 19, 3) := by decide +kernel
theorem dX7_endStoring_30 : decode cX7_endStoring 30 = .ok (.invokevirtual 97, 3) := by decide +kernel
theorem dX7_endStoring_33 : decode cX7_endStoring 33 = .ok (.return_, 1) := by decide +kernel
theorem dX7_sameAsData_0 : decode cX7_sameAsData 0 = .ok (.iconst 0, 1) := by decide +kernel
theorem dX7_sameAsData_1 : decode cX7_sameAsData 1 = .ok (.istore_n 1, 1) := by decide +kernel
theorem dX7_sameAsData_2 : decode cX7_sameAsData 2 = .ok (.iload_n 1, 1) := by decide +kernel
theorem dX7_sameAsData_3 : decode cX7_sameAsData 3 = .ok (.aload_n 0, 1) := by decide +kernel
theorem dX7_sameAsData_4 : decode cX7_sameAsData 4 = .ok (.getfield 40, 3) := by decide +kernel
theorem dX7_sameAsData_7 : decode cX7_sameAsData 7 = .ok (.getfield 275, 3) := by decide +kernel
theorem dX7_sameAsData_10 : decode cX7_sameAsData 10 = .ok (.if_icmp .ge 76, 3) := by decide +kernel
theorem dX7_sameAsData_13 : decode cX7_sameAsData 13 = .ok (.aload_n 0, 1) := by decide +kernel
theorem dX7_sameAsData_14 : decode cX7_sameAsData 14 = .ok (.getfield 19, 3) := by decide +kernel
theorem dX7_sameAsData_17 : decode cX7_sameAsData 17 = .ok (.aload_n 0, 1) := by decide +kernel
theorem dX7_sameAsData_18 : decode cX7_sameAsData 18 = .ok (.getfield 40, 3) := by decide +kernel
theorem dX7_sameAsData_21 : decode cX7_sameAsData 21 = .ok (.getfield 268, 3) := by decide +kernel
theorem dX7_sameAsData_24 : decode cX7_sameAsData 24 = .ok (.l2i, 1) := by decide +kernel
theorem dX7_sameAsData_25 : decode cX7_sameAsData 25 = .ok (.iload_n 1, 1) := by decide +kernel
theorem dX7_sameAsData_26 : decode cX7_sameAsData 26 = .ok (.iadd, 1) := by decide +kernel
theorem dX7_sameAsData_27 : decode cX7_sameAsData 27 = .ok (.aload_n 0, 1) := by decide +kernel
theorem dX7_sameAsData_28 : decode cX7_sameAsData 28 = .ok (.getfield 51, 3) := by decide +kernel
theorem dX7_sameAsData_31 : decode cX7_sameAsData 31 = .ok (.invokevirtual 295, 3) := by decide +kernel
theorem dX7_sameAsData_34 : decode cX7_sameAsData 34 = .ok (.iconst 0, 1) := by decide +kernel
theorem dX7_sameAsData_35 : decode cX7_sameAsData 35 = .ok (.istore_n 2, 1) := by decide +kernel
theorem dX7_sameAsData_36 : decode cX7_sameAsData 36 = .ok (.iload_n 2, 1) := by decide +kernel
theorem dX7_sameAsData_37 : decode cX7_sameAsData 37 = .ok (.bipush 8, 2) := by decide +kernel
theorem dX7_sameAsData_39 : decode cX7_sameAsData 39 = .ok (.if_icmp .ge 41, 3) := by decide +kernel
theorem dX7_sameAsData_42 : decode cX7_sameAsData 42 = .ok (.aload_n 0, 1) := by decide +kernel
theorem dX7_sameAsData_43 : decode cX7_sameAsData 43 = .ok (.getfield 51, 3) := by decide +kernel
theorem dX7_sameAsData_46 : decode cX7_sameAsData 46 = .ok (.iload_n 2, 1) := by decide +kernel
theorem dX7_sameAsData_47 : decode cX7_sameAsData 47 = .ok (.laload, 1) := by decide +kernel
theorem dX7_sameAsData_48 : decode cX7_sameAsData 48 = .ok (.aload_n 0, 1) := by decide +kernel
theorem dX7_sameAsData_49 : decode cX7_sameAsData 49 = .ok (.getfield 10, 3) := by decide +kernel
theorem dX7_sameAsData_52 : decode cX7_sameAsData 52 = .ok (.aload_n 0, 1) := by decide +kernel
theorem dX7_sameAsData_53 : decode cX7_sameAsData 53 = .ok (.getfield 47, 3) := by decide +kernel
theorem dX7_sameAsData_56 : decode cX7_sameAsData 56 = .ok (.iload_n 1, 1) := by decide +kernel
theorem dX7_sameAsData_57 : decode cX7_sameAsData 57 = .ok (.bipush 8, 2) := by decide +kernel
theorem dX7_sameAsData_59 : decode cX7_sameAsData 59 = .ok (.imul, 1) := by decide +kernel
theorem dX7_sameAsData_60 : decode cX7_sameAsData 60 = .ok (.iload_n 2, 1) := by decide +kernel
theorem dX7_sameAsData_61 : decode cX7_sameAsData 61 = .ok (.iadd, 1) := by decide +kernel
theorem dX7_sameAsData_62 : decode cX7_sameAsData 62 = .ok (.invokevirtual 314, 3) := by decide +kernel
theorem dX7_sameAsData_65 : decode cX7_sameAsData 65 = .ok (.invokevirtual 55, 3) := by decide +kernel
theorem dX7_sameAsData_68 : decode cX7_sameAsData 68 = .ok (.lcmp, 1) := by decide +kernel
theorem dX7_sameAsData_69 : decode cX7_sameAsData 69 = .ok (.ifCond .eq 5, 3) := by decide +kernel
theorem dX7_sameAsData_72 : decode cX7_sameAsData 72 = .ok (.iconst 0, 1) := by decide +kernel
theorem dX7_sameAsData_73 : decode cX7_sameAsData 73 = .ok (.ireturn, 1) := by decide +kernel
theorem dX7_sameAsData_74 : decode cX7_sameAsData 74 = .ok (.iinc 2 1, 3) := by decide +kernel
theorem dX7_sameAsData_77 : decode cX7_sameAsData 77 = .ok (.goto (-41), 3) := by decide +kernel
theorem dX7_sameAsData_80 : decode cX7_sameAsData 80 = .ok (.iinc 1 1, 3) := by decide +kernel
theorem dX7_sameAsData_83 : decode cX7_sameAsData 83 = .ok (.goto (-81), 3) := by decide +kernel
theorem dX7_sameAsData_86 : decode cX7_sameAsData 86 = .ok (.iconst 1, 1) := by decide +kernel
theorem dX7_sameAsData_87 : decode cX7_sameAsData 87 = .ok (.ireturn, 1) := by decide +kernel
theorem dX7_rowToData_0 : decode cX7_rowToData 0 = .ok (.iconst 0, 1) := by decide +kernel
theorem dX7_rowToData_1 : decode cX7_rowToData 1 = .ok (.istore_n 2, 1) := by decide +kernel
theorem dX7_rowToData_2 : decode cX7_rowToData 2 = .ok (.iload_n 2, 1) := by decide +kernel
theorem dX7_rowToData_3 : decode cX7_rowToData 3 = .ok (.bipush 8, 2) := by decide +kernel
theorem dX7_rowToData_5 : decode cX7_rowToData 5 = .ok (.if_icmp .ge 35, 3) := by decide +kernel
theorem dX7_rowToData_8 : decode cX7_rowToData 8 = .ok (.aload_n 0, 1) := by decide +kernel
theorem dX7_rowToData_9 : decode cX7_rowToData 9 = .ok (.getfield 10, 3) := by decide +kernel
theorem dX7_rowToData_12 : decode cX7_rowToData 12 = .ok (.aload_n 0, 1) := by decide +kernel
theorem dX7_rowToData_13 : decode cX7_rowToData 13 = .ok (.getfield 47, 3) := by decide +kernel
theorem dX7_rowToData_16 : decode cX7_rowToData 16 = .ok (.iload_n 1, 1) := by decide +kernel
theorem dX7_rowToData_17 : decode cX7_rowToData 17 = .ok (.bipush 8, 2) := by decide +kernel
theorem dX7_rowToData_19 : decode cX7_rowToData 19 = .ok (.imul, 1) := by decide +kernel
theorem dX7_rowToData_20 : decode cX7_rowToData 20 = .ok (.iload_n 2, 1) := by decide +kernel
theorem dX7_rowToData_21 : decode cX7_rowToData 21 = .ok (.iadd, 1) := by decide +kernel
theorem dX7_rowToData_22 : decode cX7_rowToData 22 = .ok (.invokevirtual 314, 3) := by decide +kernel
theorem dX7_rowToData_25 : decode cX7_rowToData 25 = .ok (.aload_n 0, 1) := by decide +kernel
theorem dX7_rowToData_26 : decode cX7_rowToData 26 = .ok (.getfield 51, 3) := by decide +kernel
theorem dX7_rowToData_29 : decode cX7_rowToData 29 = .ok (.iload_n 2, 1) := by decide +kernel
theorem dX7_rowToData_30 : decode cX7_rowToData 30 = .ok (.laload, 1) := by decide +kernel
theorem dX7_rowToData_31 : decode cX7_rowToData 31 = .ok (.invokevirtual 63, 3) := by decide +kernel
theorem dX7_rowToData_34 : decode cX7_rowToData 34 = .ok (.iinc 2 1, 3) := by decide +kernel
theorem dX7_rowToData_37 : decode cX7_rowToData 37 = .ok (.goto (-35), 3) := by decide +kernel
theorem dX7_rowToData_40 : decode cX7_rowToData 40 = .ok (.return_, 1) := by decide +kernel
theorem dX7_isBesideAdmin_0 : decode cX7_isBesideAdmin 0 = .ok (.lload_n 0, 1) := by decide +kernel
theorem dX7_isBesideAdmin_1 : decode cX7_isBesideAdmin 1 = .ok (.lconst 1, 1) := by decide +kernel
theorem dX7_isBesideAdmin_2 : decode cX7_isBesideAdmin 2 = .ok (.lcmp, 1) := by decide +kernel
theorem dX7_isBesideAdmin_3 : decode cX7_isBesideAdmin 3 = .ok (.ifCond .lt 15, 3) := by decide +kernel
theorem dX7_isBesideAdmin_6 : decode cX7_isBesideAdmin 6 = .ok (.lload_n 0, 1) := by decide +kernel
theorem dX7_isBesideAdmin_7 : decode cX7_isBesideAdmin 7 = .ok (.ldc2_w 165, 3) := by decide +kernel
theorem dX7_isBesideAdmin_10 : decode cX7_isBesideAdmin 10 = .ok (.lcmp, 1) := by decide +kernel
theorem dX7_isBesideAdmin_11 : decode cX7_isBesideAdmin 11 = .ok (.ifCond .ge 7, 3) := by decide +kernel
theorem dX7_isBesideAdmin_14 : decode cX7_isBesideAdmin 14 = .ok (.iconst 1, 1) := by decide +kernel
theorem dX7_isBesideAdmin_15 : decode cX7_isBesideAdmin 15 = .ok (.goto 4, 3) := by decide +kernel
theorem dX7_isBesideAdmin_18 : decode cX7_isBesideAdmin 18 = .ok (.iconst 0, 1) := by decide +kernel
theorem dX7_isBesideAdmin_19 : decode cX7_isBesideAdmin 19 = .ok (.ireturn, 1) := by decide +kernel
theorem dX7_makeCompletion_0 : decode cX7_makeCompletion 0 = .ok (.aload_n 0, 1) := by decide +kernel
theorem dX7_makeCompletion_1 : decode cX7_makeCompletion 1 = .ok (.getfield 40, 3) := by decide +kernel
theorem dX7_makeCompletion_4 : decode cX7_makeCompletion 4 = .ok (.getfield 278, 3) := by decide +kernel
theorem dX7_makeCompletion_7 : decode cX7_makeCompletion 7 = .ok (.invokestatic 320, 3) := by decide +kernel
theorem dX7_makeCompletion_10 : decode cX7_makeCompletion 10 = .ok (.ifCond .eq 37, 3) := by decide +kernel
theorem dX7_makeCompletion_13 : decode cX7_makeCompletion 13 = .ok (.aload_n 0, 1) := by decide +kernel
theorem dX7_makeCompletion_14 : decode cX7_makeCompletion 14 = .ok (.aload_n 0, 1) := by decide +kernel
theorem dX7_makeCompletion_15 : decode cX7_makeCompletion 15 = .ok (.getfield 40, 3) := by decide +kernel
theorem dX7_makeCompletion_18 : decode cX7_makeCompletion 18 = .ok (.getfield 278, 3) := by decide +kernel
theorem dX7_makeCompletion_21 : decode cX7_makeCompletion 21 = .ok (.invokevirtual 117, 3) := by decide +kernel
theorem dX7_makeCompletion_24 : decode cX7_makeCompletion 24 = .ok (.ifCond .ne 23, 3) := by decide +kernel
theorem dX7_makeCompletion_27 : decode cX7_makeCompletion 27 = .ok (.aload_n 0, 1) := by decide +kernel
theorem dX7_makeCompletion_28 : decode cX7_makeCompletion 28 = .ok (.getfield 40, 3) := by decide +kernel
theorem dX7_makeCompletion_31 : decode cX7_makeCompletion 31 = .ok (.getfield 285, 3) := by decide +kernel
theorem dX7_makeCompletion_34 : decode cX7_makeCompletion 34 = .ok (.aload_n 0, 1) := by decide +kernel
theorem dX7_makeCompletion_35 : decode cX7_makeCompletion 35 = .ok (.getfield 40, 3) := by decide +kernel
theorem dX7_makeCompletion_38 : decode cX7_makeCompletion 38 = .ok (.getfield 268, 3) := by decide +kernel
theorem dX7_makeCompletion_41 : decode cX7_makeCompletion 41 = .ok (.invokestatic 71, 3) := by decide +kernel
theorem dX7_makeCompletion_44 : decode cX7_makeCompletion 44 = .ok (.ifCond .ne 5, 3) := by decide +kernel
theorem dX7_makeCompletion_47 : decode cX7_makeCompletion 47 = .ok (.iconst 2, 1) := by decide +kernel
theorem dX7_makeCompletion_48 : decode cX7_makeCompletion 48 = .ok (.ireturn, 1) := by decide +kernel
theorem dX7_makeCompletion_49 : decode cX7_makeCompletion 49 = .ok (.aload_n 0, 1) := by decide +kernel
theorem dX7_makeCompletion_50 : decode cX7_makeCompletion 50 = .ok (.getfield 31, 3) := by decide +kernel
theorem dX7_makeCompletion_53 : decode cX7_makeCompletion 53 = .ok (.aload_n 0, 1) := by decide +kernel
theorem dX7_makeCompletion_54 : decode cX7_makeCompletion 54 = .ok (.getfield 40, 3) := by decide +kernel
theorem dX7_makeCompletion_57 : decode cX7_makeCompletion 57 = .ok (.getfield 278, 3) := by decide +kernel
theorem dX7_makeCompletion_60 : decode cX7_makeCompletion 60 = .ok (.l2i, 1) := by decide +kernel
theorem dX7_makeCompletion_61 : decode cX7_makeCompletion 61 = .ok (.aaload, 1) := by decide +kernel
theorem dX7_makeCompletion_62 : decode cX7_makeCompletion 62 = .ok (.aload_n 0, 1) := by decide +kernel
theorem dX7_makeCompletion_63 : decode cX7_makeCompletion 63 = .ok (.getfield 40, 3) := by decide +kernel
theorem dX7_makeCompletion_66 : decode cX7_makeCompletion 66 = .ok (.getfield 285, 3) := by decide +kernel
theorem dX7_makeCompletion_69 : decode cX7_makeCompletion 69 = .ok (.l2i, 1) := by decide +kernel
theorem dX7_makeCompletion_70 : decode cX7_makeCompletion 70 = .ok (.aload_n 0, 1) := by decide +kernel
theorem dX7_makeCompletion_71 : decode cX7_makeCompletion 71 = .ok (.getfield 40, 3) := by decide +kernel
theorem dX7_makeCompletion_74 : decode cX7_makeCompletion 74 = .ok (.getfield 268, 3) := by decide +kernel
theorem dX7_makeCompletion_77 : decode cX7_makeCompletion 77 = .ok (.l2i, 1) := by decide +kernel
theorem dX7_makeCompletion_78 : decode cX7_makeCompletion 78 = .ok (.aload_n 0, 1) := by decide +kernel
theorem dX7_makeCompletion_79 : decode cX7_makeCompletion 79 = .ok (.getfield 40, 3) := by decide +kernel
theorem dX7_makeCompletion_82 : decode cX7_makeCompletion 82 = .ok (.getfield 317, 3) := by decide +kernel
theorem dX7_makeCompletion_85 : decode cX7_makeCompletion 85 = .ok (.invokevirtual 83, 3) := by decide +kernel
theorem dX7_makeCompletion_88 : decode cX7_makeCompletion 88 = .ok (.iconst 0, 1) := by decide +kernel
theorem dX7_makeCompletion_89 : decode cX7_makeCompletion 89 = .ok (.ireturn, 1) := by decide +kernel
theorem dX7_makeSubmission_0 : decode cX7_makeSubmission 0 = .ok (.aload_n 0, 1) := by decide +kernel
theorem dX7_makeSubmission_1 : decode cX7_makeSubmission 1 = .ok (.getfield 40, 3) := by decide +kernel
theorem dX7_makeSubmission_4 : decode cX7_makeSubmission 4 = .ok (.getfield 275, 3) := by decide +kernel
theorem dX7_makeSubmission_7 : decode cX7_makeSubmission 7 = .ok (.iconst 1, 1) := by decide +kernel
theorem dX7_makeSubmission_8 : decode cX7_makeSubmission 8 = .ok (.isub, 1) := by decide +kernel
theorem dX7_makeSubmission_9 : decode cX7_makeSubmission 9 = .ok (.istore_n 1, 1) := by decide +kernel
theorem dX7_makeSubmission_10 : decode cX7_makeSubmission 10 = .ok (.aload_n 0, 1) := by decide +kernel
theorem dX7_makeSubmission_11 : decode cX7_makeSubmission 11 = .ok (.getfield 40, 3) := by decide +kernel
theorem dX7_makeSubmission_14 : decode cX7_makeSubmission 14 = .ok (.getfield 278, 3) := by decide +kernel
theorem dX7_makeSubmission_17 : decode cX7_makeSubmission 17 = .ok (.invokestatic 320, 3) := by decide +kernel
theorem dX7_makeSubmission_20 : decode cX7_makeSubmission 20 = .ok (.ifCond .eq 54, 3) := by decide +kernel
theorem dX7_makeSubmission_23 : decode cX7_makeSubmission 23 = .ok (.aload_n 0, 1) := by decide +kernel
theorem dX7_makeSubmission_24 : decode cX7_makeSubmission 24 = .ok (.aload_n 0, 1) := by decide +kernel
theorem dX7_makeSubmission_25 : decode cX7_makeSubmission 25 = .ok (.getfield 40, 3) := by decide +kernel
theorem dX7_makeSubmission_28 : decode cX7_makeSubmission 28 = .ok (.getfield 278, 3) := by decide +kernel
theorem dX7_makeSubmission_31 : decode cX7_makeSubmission 31 = .ok (.invokevirtual 104, 3) := by decide +kernel
theorem dX7_makeSubmission_34 : decode cX7_makeSubmission 34 = .ok (.ifCond .ne 40, 3) := by decide +kernel
theorem dX7_makeSubmission_37 : decode cX7_makeSubmission 37 = .ok (.aload_n 0, 1) := by decide +kernel
theorem dX7_makeSubmission_38 : decode cX7_makeSubmission 38 = .ok (.getfield 40, 3) := by decide +kernel
theorem dX7_makeSubmission_41 : decode cX7_makeSubmission 41 = .ok (.getfield 285, 3) := by decide +kernel
theorem dX7_makeSubmission_44 : decode cX7_makeSubmission 44 = .ok (.aload_n 0, 1) := by decide +kernel
theorem dX7_makeSubmission_45 : decode cX7_makeSubmission 45 = .ok (.getfield 40, 3) := by decide +kernel
theorem dX7_makeSubmission_48 : decode cX7_makeSubmission 48 = .ok (.getfield 268, 3) := by decide +kernel
theorem dX7_makeSubmission_51 : decode cX7_makeSubmission 51 = .ok (.invokestatic 67, 3) := by decide +kernel
theorem dX7_makeSubmission_54 : decode cX7_makeSubmission 54 = .ok (.ifCond .eq 20, 3) := by decide +kernel
theorem dX7_makeSubmission_57 : decode cX7_makeSubmission 57 = .ok (.iload_n 1, 1) := by decide +kernel
theorem dX7_makeSubmission_58 : decode cX7_makeSubmission 58 = .ok (.i2l, 1) := by decide +kernel
theorem dX7_makeSubmission_59 : decode cX7_makeSubmission 59 = .ok (.invokestatic 320, 3) := by decide +kernel
theorem dX7_makeSubmission_62 : decode cX7_makeSubmission 62 = .ok (.ifCond .eq 12, 3) := by decide +kernel
theorem dX7_makeSubmission_65 : decode cX7_makeSubmission 65 = .ok (.aload_n 0, 1) := by decide +kernel
theorem dX7_makeSubmission_66 : decode cX7_makeSubmission 66 = .ok (.iload_n 1, 1) := by decide +kernel
theorem dX7_makeSubmission_67 : decode cX7_makeSubmission 67 = .ok (.i2l, 1) := by decide +kernel
theorem dX7_makeSubmission_68 : decode cX7_makeSubmission 68 = .ok (.invokevirtual 117, 3) := by decide +kernel
theorem dX7_makeSubmission_71 : decode cX7_makeSubmission 71 = .ok (.ifCond .ne 5, 3) := by decide +kernel
theorem dX7_makeSubmission_74 : decode cX7_makeSubmission 74 = .ok (.iconst 2, 1) := by decide +kernel
theorem dX7_makeSubmission_75 : decode cX7_makeSubmission 75 = .ok (.ireturn, 1) := by decide +kernel
theorem dX7_makeSubmission_76 : decode cX7_makeSubmission 76 = .ok (.aload_n 0, 1) := by decide +kernel
theorem dX7_makeSubmission_77 : decode cX7_makeSubmission 77 = .ok (.getfield 25, 3) := by decide +kernel
theorem dX7_makeSubmission_80 : decode cX7_makeSubmission 80 = .ok (.aload_n 0, 1) := by decide +kernel
theorem dX7_makeSubmission_81 : decode cX7_makeSubmission 81 = .ok (.getfield 40, 3) := by decide +kernel
theorem dX7_makeSubmission_84 : decode cX7_makeSubmission 84 = .ok (.getfield 278, 3) := by decide +kernel
theorem dX7_makeSubmission_87 : decode cX7_makeSubmission 87 = .ok (.l2i, 1) := by decide +kernel
theorem dX7_makeSubmission_88 : decode cX7_makeSubmission 88 = .ok (.aaload, 1) := by decide +kernel
theorem dX7_makeSubmission_89 : decode cX7_makeSubmission 89 = .ok (.aload_n 0, 1) := by decide +kernel
theorem dX7_makeSubmission_90 : decode cX7_makeSubmission 90 = .ok (.getfield 40, 3) := by decide +kernel
theorem dX7_makeSubmission_93 : decode cX7_makeSubmission 93 = .ok (.getfield 285, 3) := by decide +kernel
theorem dX7_makeSubmission_96 : decode cX7_makeSubmission 96 = .ok (.l2i, 1) := by decide +kernel
theorem dX7_makeSubmission_97 : decode cX7_makeSubmission 97 = .ok (.aload_n 0, 1) := by decide +kernel
theorem dX7_makeSubmission_98 : decode cX7_makeSubmission 98 = .ok (.getfield 40, 3) := by decide +kernel
theorem dX7_makeSubmission_101 : decode cX7_makeSubmission 101 = .ok (.getfield 268, 3) := by decide +kernel
theorem dX7_makeSubmission_104 : decode cX7_makeSubmission 104 = .ok (.l2i, 1) := by decide +kernel
theorem dX7_makeSubmission_105 : decode cX7_makeSubmission 105 = .ok (.iload_n 1, 1) := by decide +kernel
theorem dX7_makeSubmission_106 : decode cX7_makeSubmission 106 = .ok (.invokevirtual 87, 3) := by decide +kernel
theorem dX7_makeSubmission_109 : decode cX7_makeSubmission 109 = .ok (.iconst 0, 1) := by decide +kernel
theorem dX7_makeSubmission_110 : decode cX7_makeSubmission 110 = .ok (.ireturn, 1) := by decide +kernel
theorem dX7_dropCompletion_0 : decode cX7_dropCompletion 0 = .ok (.aload_n 0, 1) := by decide +kernel
theorem dX7_dropCompletion_1 : decode cX7_dropCompletion 1 = .ok (.getfield 40, 3) := by decide +kernel
theorem dX7_dropCompletion_4 : decode cX7_dropCompletion 4 = .ok (.getfield 278, 3) := by decide +kernel
theorem dX7_dropCompletion_7 : decode cX7_dropCompletion 7 = .ok (.invokestatic 320, 3) := by decide +kernel
theorem dX7_dropCompletion_10 : decode cX7_dropCompletion 10 = .ok (.ifCond .eq 31, 3) := by decide +kernel
theorem dX7_dropCompletion_13 : decode cX7_dropCompletion 13 = .ok (.aload_n 0, 1) := by decide +kernel
theorem dX7_dropCompletion_14 : decode cX7_dropCompletion 14 = .ok (.aload_n 0, 1) := by decide +kernel
theorem dX7_dropCompletion_15 : decode cX7_dropCompletion 15 = .ok (.getfield 40, 3) := by decide +kernel
theorem dX7_dropCompletion_18 : decode cX7_dropCompletion 18 = .ok (.getfield 278, 3) := by decide +kernel
theorem dX7_dropCompletion_21 : decode cX7_dropCompletion 21 = .ok (.invokevirtual 117, 3) := by decide +kernel
theorem dX7_dropCompletion_24 : decode cX7_dropCompletion 24 = .ok (.ifCond .eq 17, 3) := by decide +kernel
theorem dX7_dropCompletion_27 : decode cX7_dropCompletion 27 = .ok (.aload_n 0, 1) := by decide +kernel
theorem dX7_dropCompletion_28 : decode cX7_dropCompletion 28 = .ok (.aload_n 0, 1) := by decide +kernel
theorem dX7_dropCompletion_29 : decode cX7_dropCompletion 29 = .ok (.getfield 40, 3) := by decide +kernel
theorem dX7_dropCompletion_32 : decode cX7_dropCompletion 32 = .ok (.getfield 278, 3) := by decide +kernel
theorem dX7_dropCompletion_35 : decode cX7_dropCompletion 35 = .ok (.invokevirtual 323, 3) := by decide +kernel
theorem dX7_dropCompletion_38 : decode cX7_dropCompletion 38 = .ok (.ifCond .eq 5, 3) := by decide +kernel
theorem dX7_dropCompletion_41 : decode cX7_dropCompletion 41 = .ok (.iconst 2, 1) := by decide +kernel
theorem dX7_dropCompletion_42 : decode cX7_dropCompletion 42 = .ok (.ireturn, 1) := by decide +kernel
theorem dX7_dropCompletion_43 : decode cX7_dropCompletion 43 = .ok (.aload_n 0, 1) := by decide +kernel
theorem dX7_dropCompletion_44 : decode cX7_dropCompletion 44 = .ok (.getfield 31, 3) := by decide +kernel
theorem dX7_dropCompletion_47 : decode cX7_dropCompletion 47 = .ok (.aload_n 0, 1) := by decide +kernel
theorem dX7_dropCompletion_48 : decode cX7_dropCompletion 48 = .ok (.getfield 40, 3) := by decide +kernel
theorem dX7_dropCompletion_51 : decode cX7_dropCompletion 51 = .ok (.getfield 278, 3) := by decide +kernel
theorem dX7_dropCompletion_54 : decode cX7_dropCompletion 54 = .ok (.l2i, 1) := by decide +kernel
theorem dX7_dropCompletion_55 : decode cX7_dropCompletion 55 = .ok (.aaload, 1) := by decide +kernel
theorem dX7_dropCompletion_56 : decode cX7_dropCompletion 56 = .ok (.invokevirtual 103, 3) := by decide +kernel
theorem dX7_dropCompletion_59 : decode cX7_dropCompletion 59 = .ok (.iconst 0, 1) := by decide +kernel
theorem dX7_dropCompletion_60 : decode cX7_dropCompletion 60 = .ok (.ireturn, 1) := by decide +kernel
theorem dX7_isAnsweredTo_0 : decode cX7_isAnsweredTo 0 = .ok (.iconst 0, 1) := by decide +kernel
theorem dX7_isAnsweredTo_1 : decode cX7_isAnsweredTo 1 = .ok (.istore_n 3, 1) := by decide +kernel
theorem dX7_isAnsweredTo_2 : decode cX7_isAnsweredTo 2 = .ok (.iload_n 3, 1) := by decide +kernel
theorem dX7_isAnsweredTo_3 : decode cX7_isAnsweredTo 3 = .ok (.iconst 4, 1) := by decide +kernel
theorem dX7_isAnsweredTo_4 : decode cX7_isAnsweredTo 4 = .ok (.if_icmp .ge 38, 3) := by decide +kernel
theorem dX7_isAnsweredTo_7 : decode cX7_isAnsweredTo 7 = .ok (.aload_n 0, 1) := by decide +kernel
theorem dX7_isAnsweredTo_8 : decode cX7_isAnsweredTo 8 = .ok (.getfield 25, 3) := by decide +kernel
theorem dX7_isAnsweredTo_11 : decode cX7_isAnsweredTo 11 = .ok (.iload_n 3, 1) := by decide +kernel
theorem dX7_isAnsweredTo_12 : decode cX7_isAnsweredTo 12 = .ok (.aaload, 1) := by decide +kernel
theorem dX7_isAnsweredTo_13 : decode cX7_isAnsweredTo 13 = .ok (.getfield 167, 3) := by decide +kernel
theorem dX7_isAnsweredTo_16 : decode cX7_isAnsweredTo 16 = .ok (.ifCond .eq 20, 3) := by decide +kernel
theorem dX7_isAnsweredTo_19 : decode cX7_isAnsweredTo 19 = .ok (.aload_n 0, 1) := by decide +kernel
theorem dX7_isAnsweredTo_20 : decode cX7_isAnsweredTo 20 = .ok (.getfield 25, 3) := by decide +kernel
theorem dX7_isAnsweredTo_23 : decode cX7_isAnsweredTo 23 = .ok (.iload_n 3, 1) := by decide +kernel
theorem dX7_isAnsweredTo_24 : decode cX7_isAnsweredTo 24 = .ok (.aaload, 1) := by decide +kernel
theorem dX7_isAnsweredTo_25 : decode cX7_isAnsweredTo 25 = .ok (.getfield 175, 3) := by decide +kernel
theorem dX7_isAnsweredTo_28 : decode cX7_isAnsweredTo 28 = .ok (.i2l, 1) := by decide +kernel
theorem dX7_isAnsweredTo_29 : decode cX7_isAnsweredTo 29 = .ok (.lload_n 1, 1) := by decide +kernel
theorem dX7_isAnsweredTo_30 : decode cX7_isAnsweredTo 30 = .ok (.lcmp, 1) := by decide +kernel
theorem dX7_isAnsweredTo_31 : decode cX7_isAnsweredTo 31 = .ok (.ifCond .ne 5, 3) := by decide +kernel
theorem dX7_isAnsweredTo_34 : decode cX7_isAnsweredTo 34 = .ok (.iconst 1, 1) := by decide +kernel
theorem dX7_isAnsweredTo_35 : decode cX7_isAnsweredTo 35 = .ok (.ireturn, 1) := by decide +kernel
theorem dX7_isAnsweredTo_36 : decode cX7_isAnsweredTo 36 = .ok (.iinc 3 1, 3) := by decide +kernel
theorem dX7_isAnsweredTo_39 : decode cX7_isAnsweredTo 39 = .ok (.goto (-37), 3) := by decide +kernel
theorem dX7_isAnsweredTo_42 : decode cX7_isAnsweredTo 42 = .ok (.iconst 0, 1) := by decide +kernel
theorem dX7_isAnsweredTo_43 : decode cX7_isAnsweredTo 43 = .ok (.ireturn, 1) := by decide +kernel
theorem dX7_dropSubmission_0 : decode cX7_dropSubmission 0 = .ok (.aload_n 0, 1) := by decide +kernel
theorem dX7_dropSubmission_1 : decode cX7_dropSubmission 1 = .ok (.getfield 40, 3) := by decide +kernel
theorem dX7_dropSubmission_4 : decode cX7_dropSubmission 4 = .ok (.getfield 278, 3) := by decide +kernel
theorem dX7_dropSubmission_7 : decode cX7_dropSubmission 7 = .ok (.invokestatic 320, 3) := by decide +kernel
theorem dX7_dropSubmission_10 : decode cX7_dropSubmission 10 = .ok (.ifCond .eq 17, 3) := by decide +kernel
theorem dX7_dropSubmission_13 : decode cX7_dropSubmission 13 = .ok (.aload_n 0, 1) := by decide +kernel
theorem dX7_dropSubmission_14 : decode cX7_dropSubmission 14 = .ok (.aload_n 0, 1) := by decide +kernel
theorem dX7_dropSubmission_15 : decode cX7_dropSubmission 15 = .ok (.getfield 40, 3) := by decide +kernel
theorem dX7_dropSubmission_18 : decode cX7_dropSubmission 18 = .ok (.getfield 278, 3) := by decide +kernel
theorem dX7_dropSubmission_21 : decode cX7_dropSubmission 21 = .ok (.invokevirtual 104, 3) := by decide +kernel
theorem dX7_dropSubmission_24 : decode cX7_dropSubmission 24 = .ok (.ifCond .ne 5, 3) := by decide +kernel
theorem dX7_dropSubmission_27 : decode cX7_dropSubmission 27 = .ok (.iconst 2, 1) := by decide +kernel
theorem dX7_dropSubmission_28 : decode cX7_dropSubmission 28 = .ok (.ireturn, 1) := by decide +kernel
theorem dX7_dropSubmission_29 : decode cX7_dropSubmission 29 = .ok (.aload_n 0, 1) := by decide +kernel
theorem dX7_dropSubmission_30 : decode cX7_dropSubmission 30 = .ok (.getfield 25, 3) := by decide +kernel
theorem dX7_dropSubmission_33 : decode cX7_dropSubmission 33 = .ok (.aload_n 0, 1) := by decide +kernel
theorem dX7_dropSubmission_34 : decode cX7_dropSubmission 34 = .ok (.getfield 40, 3) := by decide +kernel
theorem dX7_dropSubmission_37 : decode cX7_dropSubmission 37 = .ok (.getfield 278, 3) := by decide +kernel
theorem dX7_dropSubmission_40 : decode cX7_dropSubmission 40 = .ok (.l2i, 1) := by decide +kernel
theorem dX7_dropSubmission_41 : decode cX7_dropSubmission 41 = .ok (.aaload, 1) := by decide +kernel
theorem dX7_dropSubmission_42 : decode cX7_dropSubmission 42 = .ok (.invokevirtual 100, 3) := by decide +kernel
theorem dX7_dropSubmission_45 : decode cX7_dropSubmission 45 = .ok (.iconst 0, 1) := by decide +kernel
theorem dX7_dropSubmission_46 : decode cX7_dropSubmission 46 = .ok (.ireturn, 1) := by decide +kernel
theorem dX7_switchCaching_0 : decode cX7_switchCaching 0 = .ok (.aload_n 0, 1) := by decide +kernel
theorem dX7_switchCaching_1 : decode cX7_switchCaching 1 = .ok (.getfield 40, 3) := by decide +kernel
theorem dX7_switchCaching_4 : decode cX7_switchCaching 4 = .ok (.getfield 278, 3) := by decide +kernel
theorem dX7_switchCaching_7 : decode cX7_switchCaching 7 = .ok (.lconst 0, 1) := by decide +kernel
theorem dX7_switchCaching_8 : decode cX7_switchCaching 8 = .ok (.lcmp, 1) := by decide +kernel
theorem dX7_switchCaching_9 : decode cX7_switchCaching 9 = .ok (.ifCond .eq 17, 3) := by decide +kernel
theorem dX7_switchCaching_12 : decode cX7_switchCaching 12 = .ok (.aload_n 0, 1) := by decide +kernel
theorem dX7_switchCaching_13 : decode cX7_switchCaching 13 = .ok (.getfield 40, 3) := by decide +kernel
theorem dX7_switchCaching_16 : decode cX7_switchCaching 16 = .ok (.getfield 278, 3) := by decide +kernel
theorem dX7_switchCaching_19 : decode cX7_switchCaching 19 = .ok (.lconst 1, 1) := by decide +kernel
theorem dX7_switchCaching_20 : decode cX7_switchCaching 20 = .ok (.lcmp, 1) := by decide +kernel
theorem dX7_switchCaching_21 : decode cX7_switchCaching 21 = .ok (.ifCond .eq 5, 3) := by decide +kernel
theorem dX7_switchCaching_24 : decode cX7_switchCaching 24 = .ok (.iconst 2, 1) := by decide +kernel
theorem dX7_switchCaching_25 : decode cX7_switchCaching 25 = .ok (.ireturn, 1) := by decide +kernel
theorem dX7_switchCaching_26 : decode cX7_switchCaching 26 = .ok (.aload_n 0, 1) := by decide +kernel
theorem dX7_switchCaching_27 : decode cX7_switchCaching 27 = .ok (.aload_n 0, 1) := by decide +kernel
theorem dX7_switchCaching_28 : decode cX7_switchCaching 28 = .ok (.getfield 19, 3) := by decide +kernel
theorem dX7_switchCaching_31 : decode cX7_switchCaching 31 = .ok (.invokevirtual 149, 3) := by decide +kernel
theorem dX7_switchCaching_34 : decode cX7_switchCaching 34 = .ok (.ifCond .eq 7, 3) := by decide +kernel
theorem dX7_switchCaching_37 : decode cX7_switchCaching 37 = .ok (.iconst 1, 1) := by decide +kernel
theorem dX7_switchCaching_38 : decode cX7_switchCaching 38 = .ok (.goto 4, 3) := by decide +kernel
theorem dX7_switchCaching_41 : decode cX7_switchCaching 41 = .ok (.iconst 0, 1) := by decide +kernel
theorem dX7_switchCaching_42 : decode cX7_switchCaching 42 = .ok (.putfield 201, 3) := by decide +kernel
theorem dX7_switchCaching_45 : decode cX7_switchCaching 45 = .ok (.aload_n 0, 1) := by decide +kernel
theorem dX7_switchCaching_46 : decode cX7_switchCaching 46 = .ok (.getfield 19, 3) := by decide +kernel
theorem dX7_switchCaching_49 : decode cX7_switchCaching 49 = .ok (.aload_n 0, 1) := by decide +kernel
theorem dX7_switchCaching_50 : decode cX7_switchCaching 50 = .ok (.getfield 40, 3) := by decide +kernel
theorem dX7_switchCaching_53 : decode cX7_switchCaching 53 = .ok (.getfield 278, 3) := by decide +kernel
theorem dX7_switchCaching_56 : decode cX7_switchCaching 56 = .ok (.lconst 1, 1) := by decide +kernel
theorem dX7_switchCaching_57 : decode cX7_switchCaching 57 = .ok (.lcmp, 1) := by decide +kernel
theorem dX7_switchCaching_58 : decode cX7_switchCaching 58 = .ok (.ifCond .ne 7, 3) := by decide +kernel
theorem dX7_switchCaching_61 : decode cX7_switchCaching 61 = .ok (.iconst 1, 1) := by decide +kernel
theorem dX7_switchCaching_62 : decode cX7_switchCaching 62 = .ok (.goto 4, 3) := by decide +kernel
theorem dX7_switchCaching_65 : decode cX7_switchCaching 65 = .ok (.iconst 0, 1) := by decide +kernel
theorem dX7_switchCaching_66 : decode cX7_switchCaching 66 = .ok (.invokevirtual 326, 3) := by decide +kernel
theorem dX7_switchCaching_69 : decode cX7_switchCaching 69 = .ok (.iconst 0, 1) := by decide +kernel
theorem dX7_switchCaching_70 : decode cX7_switchCaching 70 = .ok (.ireturn, 1) := by decide +kernel
theorem dX7_report_0 : decode cX7_report 0 = .ok (.aload_n 0, 1) := by decide +kernel
theorem dX7_report_1 : decode cX7_report 1 = .ok (.getfield 40, 3) := by decide +kernel
theorem dX7_report_4 : decode cX7_report 4 = .ok (.getfield 275, 3) := by decide +kernel
theorem dX7_report_7 : decode cX7_report 7 = .ok (.iconst 1, 1) := by decide +kernel
theorem dX7_report_8 : decode cX7_report 8 = .ok (.if_icmp .eq 5, 3) := by decide +kernel
theorem dX7_report_11 : decode cX7_report 11 = .ok (.iconst 2, 1) := by decide +kernel
theorem dX7_report_12 : decode cX7_report 12 = .ok (.ireturn, 1) := by decide +kernel
theorem dX7_report_13 : decode cX7_report 13 = .ok (.aload_n 0, 1) := by decide +kernel
theorem dX7_report_14 : decode cX7_report 14 = .ok (.getfield 47, 3) := by decide +kernel
theorem dX7_report_17 : decode cX7_report 17 = .ok (.aload_n 0, 1) := by decide +kernel
theorem dX7_report_18 : decode cX7_report 18 = .ok (.getfield 10, 3) := by decide +kernel
theorem dX7_report_21 : decode cX7_report 21 = .ok (.aload_n 0, 1) := by decide +kernel
theorem dX7_report_22 : decode cX7_report 22 = .ok (.getfield 40, 3) := by decide +kernel
theorem dX7_report_25 : decode cX7_report 25 = .ok (.invokevirtual 288, 3) := by decide +kernel
theorem dX7_report_28 : decode cX7_report 28 = .ok (.ifCond .ne 5, 3) := by decide +kernel
theorem dX7_report_31 : decode cX7_report 31 = .ok (.iconst 4, 1) := by decide +kernel
theorem dX7_report_32 : decode cX7_report 32 = .ok (.ireturn, 1) := by decide +kernel
theorem dX7_report_33 : decode cX7_report 33 = .ok (.aload_n 0, 1) := by decide +kernel
theorem dX7_report_34 : decode cX7_report 34 = .ok (.getfield 51, 3) := by decide +kernel
theorem dX7_report_37 : decode cX7_report 37 = .ok (.lconst 0, 1) := by decide +kernel
theorem dX7_report_38 : decode cX7_report 38 = .ok (.invokestatic 302, 3) := by decide +kernel
theorem dX7_report_41 : decode cX7_report 41 = .ok (.aload_n 0, 1) := by decide +kernel
theorem dX7_report_42 : decode cX7_report 42 = .ok (.getfield 51, 3) := by decide +kernel
theorem dX7_report_45 : decode cX7_report 45 = .ok (.iconst 0, 1) := by decide +kernel
theorem dX7_report_46 : decode cX7_report 46 = .ok (.ldc2_w 330, 3) := by decide +kernel
theorem dX7_report_49 : decode cX7_report 49 = .ok (.lastore, 1) := by decide +kernel
theorem dX7_report_50 : decode cX7_report 50 = .ok (.aload_n 0, 1) := by decide +kernel
theorem dX7_report_51 : decode cX7_report 51 = .ok (.getfield 51, 3) := by decide +kernel
theorem dX7_report_54 : decode cX7_report 54 = .ok (.iconst 1, 1) := by decide +kernel
theorem dX7_report_55 : decode cX7_report 55 = .ok (.aload_n 0, 1) := by decide +kernel
theorem dX7_report_56 : decode cX7_report 56 = .ok (.getfield 153, 3) := by decide +kernel
theorem dX7_report_59 : decode cX7_report 59 = .ok (.i2l, 1) := by decide +kernel
theorem dX7_report_60 : decode cX7_report 60 = .ok (.lastore, 1) := by decide +kernel
theorem dX7_report_61 : decode cX7_report 61 = .ok (.aload_n 0, 1) := by decide +kernel
theorem dX7_report_62 : decode cX7_report 62 = .ok (.getfield 51, 3) := by decide +kernel
theorem dX7_report_65 : decode cX7_report 65 = .ok (.iconst 2, 1) := by decide +kernel
theorem dX7_report_66 : decode cX7_report 66 = .ok (.aload_n 0, 1) := by decide +kernel
theorem dX7_report_67 : decode cX7_report 67 = .ok (.getfield 156, 3) := by decide +kernel
theorem dX7_report_70 : decode cX7_report 70 = .ok (.i2l, 1) := by decide +kernel
theorem dX7_report_71 : decode cX7_report 71 = .ok (.lastore, 1) := by decide +kernel
theorem dX7_report_72 : decode cX7_report 72 = .ok (.aload_n 0, 1) := by decide +kernel
theorem dX7_report_73 : decode cX7_report 73 = .ok (.getfield 51, 3) := by decide +kernel
theorem dX7_report_76 : decode cX7_report 76 = .ok (.iconst 3, 1) := by decide +kernel
theorem dX7_report_77 : decode cX7_report 77 = .ok (.aload_n 0, 1) := by decide +kernel
theorem dX7_report_78 : decode cX7_report 78 = .ok (.getfield 159, 3) := by decide +kernel
theorem dX7_report_81 : decode cX7_report 81 = .ok (.i2l, 1) := by decide +kernel
theorem dX7_report_82 : decode cX7_report 82 = .ok (.lastore, 1) := by decide +kernel
theorem dX7_report_83 : decode cX7_report 83 = .ok (.aload_n 0, 1) := by decide +kernel
theorem dX7_report_84 : decode cX7_report 84 = .ok (.getfield 51, 3) := by decide +kernel
theorem dX7_report_87 : decode cX7_report 87 = .ok (.iconst 4, 1) := by decide +kernel
theorem dX7_report_88 : decode cX7_report 88 = .ok (.aload_n 0, 1) := by decide +kernel
theorem dX7_report_89 : decode cX7_report 89 = .ok (.getfield 162, 3) := by decide +kernel
theorem dX7_report_92 : decode cX7_report 92 = .ok (.i2l, 1) := by decide +kernel
theorem dX7_report_93 : decode cX7_report 93 = .ok (.lastore, 1) := by decide +kernel
theorem dX7_report_94 : decode cX7_report 94 = .ok (.aload_n 0, 1) := by decide +kernel
theorem dX7_report_95 : decode cX7_report 95 = .ok (.iconst 0, 1) := by decide +kernel
theorem dX7_report_96 : decode cX7_report 96 = .ok (.invokevirtual 299, 3) := by decide +kernel
theorem dX7_report_99 : decode cX7_report 99 = .ok (.iconst 0, 1) := by decide +kernel
theorem dX7_report_100 : decode cX7_report 100 = .ok (.ireturn, 1) := by decide +kernel
theorem dX7_tellCached_0 : decode cX7_tellCached 0 = .ok (.aload_n 0, 1) := by decide +kernel
theorem dX7_tellCached_1 : decode cX7_tellCached 1 = .ok (.aload_n 0, 1) := by decide +kernel
theorem dX7_tellCached_2 : decode cX7_tellCached 2 = .ok (.getfield 19, 3) := by decide +kernel
theorem dX7_tellCached_5 : decode cX7_tellCached 5 = .ok (.invokevirtual 90, 3) := by decide +kernel
theorem dX7_tellCached_8 : decode cX7_tellCached 8 = .ok (.putfield 201, 3) := by decide +kernel
theorem dX7_tellCached_11 : decode cX7_tellCached 11 = .ok (.iconst 0, 1) := by decide +kernel
theorem dX7_tellCached_12 : decode cX7_tellCached 12 = .ok (.ireturn, 1) := by decide +kernel
