theorem dX0_init_0 : decode cX0_init 0 = .ok (.aload_n 0, 1) := by decide +kernel
theorem dX0_init_1 : decode cX0_init 1 = .ok (.invokespecial 3, 3) := by decide +kernel
theorem dX0_init_4 : decode cX0_init 4 = .ok (.aload_n 0, 1) := by decide +kernel
theorem dX0_init_5 : decode cX0_init 5 = .ok (.bipush 50, 2) := by decide +kernel
theorem dX0_init_7 : decode cX0_init 7 = .ok (.newarray .int, 2) := by decide +kernel
theorem dX0_init_9 : decode cX0_init 9 = .ok (.putfield 9, 3) := by decide +kernel
theorem dX0_init_12 : decode cX0_init 12 = .ok (.aload_n 0, 1) := by decide +kernel
theorem dX0_init_13 : decode cX0_init 13 = .ok (.iconst 0, 1) := by decide +kernel
theorem dX0_init_14 : decode cX0_init 14 = .ok (.putfield 15, 3) := by decide +kernel
theorem dX0_init_17 : decode cX0_init 17 = .ok (.aload_n 0, 1) := by decide +kernel
theorem dX0_init_18 : decode cX0_init 18 = .ok (.iconst 1, 1) := by decide +kernel
theorem dX0_init_19 : decode cX0_init 19 = .ok (.putfield 19, 3) := by decide +kernel
theorem dX0_init_22 : decode cX0_init 22 = .ok (.return_, 1) := by decide +kernel
theorem dX0_record_0 : decode cX0_record 0 = .ok (.aload_n 0, 1) := by decide +kernel
theorem dX0_record_1 : decode cX0_record 1 = .ok (.getfield 22, 3) := by decide +kernel
theorem dX0_record_4 : decode cX0_record 4 = .ok (.bipush 50, 2) := by decide +kernel
theorem dX0_record_6 : decode cX0_record 6 = .ok (.if_icmp .lt 6, 3) := by decide +kernel
theorem dX0_record_9 : decode cX0_record 9 = .ok (.bipush (-3), 2) := by decide +kernel
theorem dX0_record_11 : decode cX0_record 11 = .ok (.ireturn, 1) := by decide +kernel
theorem dX0_record_12 : decode cX0_record 12 = .ok (.aload_n 0, 1) := by decide +kernel
theorem dX0_record_13 : decode cX0_record 13 = .ok (.getfield 9, 3) := by decide +kernel
theorem dX0_record_16 : decode cX0_record 16 = .ok (.aload_n 0, 1) := by decide +kernel
theorem dX0_record_17 : decode cX0_record 17 = .ok (.getfield 25, 3) := by decide +kernel
theorem dX0_record_20 : decode cX0_record 20 = .ok (.aload_n 0, 1) := by decide +kernel
theorem dX0_record_21 : decode cX0_record 21 = .ok (.getfield 22, 3) := by decide +kernel
theorem dX0_record_24 : decode cX0_record 24 = .ok (.iadd, 1) := by decide +kernel
theorem dX0_record_25 : decode cX0_record 25 = .ok (.bipush 50, 2) := by decide +kernel
theorem dX0_record_27 : decode cX0_record 27 = .ok (.irem, 1) := by decide +kernel
theorem dX0_record_28 : decode cX0_record 28 = .ok (.iload_n 1, 1) := by decide +kernel
theorem dX0_record_29 : decode cX0_record 29 = .ok (.iastore, 1) := by decide +kernel
theorem dX0_record_30 : decode cX0_record 30 = .ok (.aload_n 0, 1) := by decide +kernel
theorem dX0_record_31 : decode cX0_record 31 = .ok (.dup, 1) := by decide +kernel
theorem dX0_record_32 : decode cX0_record 32 = .ok (.getfield 22, 3) := by decide +kernel
theorem dX0_record_35 : decode cX0_record 35 = .ok (.iconst 1, 1) := by decide +kernel
theorem dX0_record_36 : decode cX0_record 36 = .ok (.iadd, 1) := by decide +kernel
theorem dX0_record_37 : decode cX0_record 37 = .ok (.putfield 22, 3) := by decide +kernel
theorem dX0_record_40 : decode cX0_record 40 = .ok (.aload_n 0, 1) := by decide +kernel
theorem dX0_record_41 : decode cX0_record 41 = .ok (.getfield 22, 3) := by decide +kernel
theorem dX0_record_44 : decode cX0_record 44 = .ok (.ireturn, 1) := by decide +kernel
theorem dX0_draw_0 : decode cX0_draw 0 = .ok (.iload_n 1, 1) := by decide +kernel
theorem dX0_draw_1 : decode cX0_draw 1 = .ok (.ifCond .le 12, 3) := by decide +kernel
theorem dX0_draw_4 : decode cX0_draw 4 = .ok (.aload_n 0, 1) := by decide +kernel
theorem dX0_draw_5 : decode cX0_draw 5 = .ok (.invokevirtual 28, 3) := by decide +kernel
theorem dX0_draw_8 : decode cX0_draw 8 = .ok (.iload_n 1, 1) := by decide +kernel
theorem dX0_draw_9 : decode cX0_draw 9 = .ok (.irem, 1) := by decide +kernel
theorem dX0_draw_10 : decode cX0_draw 10 = .ok (.iconst 1, 1) := by decide +kernel
theorem dX0_draw_11 : decode cX0_draw 11 = .ok (.iadd, 1) := by decide +kernel
theorem dX0_draw_12 : decode cX0_draw 12 = .ok (.ireturn, 1) := by decide +kernel
theorem dX0_draw_13 : decode cX0_draw 13 = .ok (.iload_n 1, 1) := by decide +kernel
theorem dX0_draw_14 : decode cX0_draw 14 = .ok (.ifCond .ne 11, 3) := by decide +kernel
theorem dX0_draw_17 : decode cX0_draw 17 = .ok (.aload_n 0, 1) := by decide +kernel
theorem dX0_draw_18 : decode cX0_draw 18 = .ok (.iconst 2, 1) := by decide +kernel
theorem dX0_draw_19 : decode cX0_draw 19 = .ok (.putfield 15, 3) := by decide +kernel
theorem dX0_draw_22 : decode cX0_draw 22 = .ok (.goto 41, 3) := by decide +kernel
theorem dX0_draw_25 : decode cX0_draw 25 = .ok (.iload_n 1, 1) := by decide +kernel
theorem dX0_draw_26 : decode cX0_draw 26 = .ok (.ineg, 1) := by decide +kernel
theorem dX0_draw_27 : decode cX0_draw 27 = .ok (.sipush 1000, 3) := by decide +kernel
theorem dX0_draw_30 : decode cX0_draw 30 = .ok (.if_icmp .ge 22, 3) := by decide +kernel
theorem dX0_draw_33 : decode cX0_draw 33 = .ok (.aload_n 0, 1) := by decide +kernel
theorem dX0_draw_34 : decode cX0_draw 34 = .ok (.iconst 1, 1) := by decide +kernel
theorem dX0_draw_35 : decode cX0_draw 35 = .ok (.putfield 15, 3) := by decide +kernel
theorem dX0_draw_38 : decode cX0_draw 38 = .ok (.aload_n 0, 1) := by decide +kernel
theorem dX0_draw_39 : decode cX0_draw 39 = .ok (.iload_n 1, 1) := by decide +kernel
theorem dX0_draw_40 : decode cX0_draw 40 = .ok (.ineg, 1) := by decide +kernel
theorem dX0_draw_41 : decode cX0_draw 41 = .ok (.putfield 32, 3) := by decide +kernel
theorem dX0_draw_44 : decode cX0_draw 44 = .ok (.aload_n 0, 1) := by decide +kernel
theorem dX0_draw_45 : decode cX0_draw 45 = .ok (.iconst 0, 1) := by decide +kernel
theorem dX0_draw_46 : decode cX0_draw 46 = .ok (.putfield 35, 3) := by decide +kernel
theorem dX0_draw_49 : decode cX0_draw 49 = .ok (.goto 14, 3) := by decide +kernel
theorem dX0_draw_52 : decode cX0_draw 52 = .ok (.aload_n 0, 1) := by decide +kernel
theorem dX0_draw_53 : decode cX0_draw 53 = .ok (.iconst 0, 1) := by decide +kernel
theorem dX0_draw_54 : decode cX0_draw 54 = .ok (.putfield 15, 3) := by decide +kernel
theorem dX0_draw_57 : decode cX0_draw 57 = .ok (.aload_n 0, 1) := by decide +kernel
theorem dX0_draw_58 : decode cX0_draw 58 = .ok (.iload_n 1, 1) := by decide +kernel
theorem dX0_draw_59 : decode cX0_draw 59 = .ok (.ineg, 1) := by decide +kernel
theorem dX0_draw_60 : decode cX0_draw 60 = .ok (.putfield 19, 3) := by decide +kernel
theorem dX0_draw_63 : decode cX0_draw 63 = .ok (.iconst 0, 1) := by decide +kernel
theorem dX0_draw_64 : decode cX0_draw 64 = .ok (.ireturn, 1) := by decide +kernel
theorem dX0_next_0 : decode cX0_next 0 = .ok (.aload_n 0, 1) := by decide +kernel
theorem dX0_next_1 : decode cX0_next 1 = .ok (.getfield 15, 3) := by decide +kernel
theorem dX0_next_4 : decode cX0_next 4 = .ok (.iconst 1, 1) := by decide +kernel
theorem dX0_next_5 : decode cX0_next 5 = .ok (.if_icmp .ne 8, 3) := by decide +kernel
theorem dX0_next_8 : decode cX0_next 8 = .ok (.aload_n 0, 1) := by decide +kernel
theorem dX0_next_9 : decode cX0_next 9 = .ok (.invokevirtual 38, 3) := by decide +kernel
theorem dX0_next_12 : decode cX0_next 12 = .ok (.ireturn, 1) := by decide +kernel
theorem dX0_next_13 : decode cX0_next 13 = .ok (.aload_n 0, 1) := by decide +kernel
theorem dX0_next_14 : decode cX0_next 14 = .ok (.getfield 15, 3) := by decide +kernel
theorem dX0_next_17 : decode cX0_next 17 = .ok (.iconst 2, 1) := by decide +kernel
theorem dX0_next_18 : decode cX0_next 18 = .ok (.if_icmp .ne 17, 3) := by decide +kernel
theorem dX0_next_21 : decode cX0_next 21 = .ok (.aload_n 0, 1) := by decide +kernel
theorem dX0_next_22 : decode cX0_next 22 = .ok (.getfield 22, 3) := by decide +kernel
theorem dX0_next_25 : decode cX0_next 25 = .ok (.ifCond .le 10, 3) := by decide +kernel
theorem dX0_next_28 : decode cX0_next 28 = .ok (.aload_n 0, 1) := by decide +kernel
theorem dX0_next_29 : decode cX0_next 29 = .ok (.invokevirtual 41, 3) := by decide +kernel
theorem dX0_next_32 : decode cX0_next 32 = .ok (.goto 7, 3) := by decide +kernel
theorem dX0_next_35 : decode cX0_next 35 = .ok (.aload_n 0, 1) := by decide +kernel
theorem dX0_next_36 : decode cX0_next 36 = .ok (.invokevirtual 44, 3) := by decide +kernel
theorem dX0_next_39 : decode cX0_next 39 = .ok (.ireturn, 1) := by decide +kernel
theorem dX0_nextOfCount_0 : decode cX0_nextOfCount 0 = .ok (.aload_n 0, 1) := by decide +kernel
theorem dX0_nextOfCount_1 : decode cX0_nextOfCount 1 = .ok (.getfield 35, 3) := by decide +kernel
theorem dX0_nextOfCount_4 : decode cX0_nextOfCount 4 = .ok (.istore_n 1, 1) := by decide +kernel
theorem dX0_nextOfCount_5 : decode cX0_nextOfCount 5 = .ok (.aload_n 0, 1) := by decide +kernel
theorem dX0_nextOfCount_6 : decode cX0_nextOfCount 6 = .ok (.iload_n 1, 1) := by decide +kernel
theorem dX0_nextOfCount_7 : decode cX0_nextOfCount 7 = .ok (.iconst 1, 1) := by decide +kernel
theorem dX0_nextOfCount_8 : decode cX0_nextOfCount 8 = .ok (.iadd, 1) := by decide +kernel
theorem dX0_nextOfCount_9 : decode cX0_nextOfCount 9 = .ok (.aload_n 0, 1) := by decide +kernel
theorem dX0_nextOfCount_10 : decode cX0_nextOfCount 10 = .ok (.getfield 32, 3) := by decide +kernel
theorem dX0_nextOfCount_13 : decode cX0_nextOfCount 13 = .ok (.if_icmp .ge 9, 3) := by decide +kernel
theorem dX0_nextOfCount_16 : decode cX0_nextOfCount 16 = .ok (.iload_n 1, 1) := by decide +kernel
theorem dX0_nextOfCount_17 : decode cX0_nextOfCount 17 = .ok (.iconst 1, 1) := by decide +kernel
theorem dX0_nextOfCount_18 : decode cX0_nextOfCount 18 = .ok (.iadd, 1) := by decide +kernel
theorem dX0_nextOfCount_19 : decode cX0_nextOfCount 19 = .ok (.goto 4, 3) := by decide +kernel
theorem dX0_nextOfCount_22 : decode cX0_nextOfCount 22 = .ok (.iconst 0, 1) := by decide +kernel
theorem dX0_nextOfCount_23 : decode cX0_nextOfCount 23 = .ok (.putfield 35, 3) := by decide +kernel
theorem dX0_nextOfCount_26 : decode cX0_nextOfCount 26 = .ok (.iload_n 1, 1) := by decide +kernel
theorem dX0_nextOfCount_27 : decode cX0_nextOfCount 27 = .ok (.ireturn, 1) := by decide +kernel
theorem dX0_nextOfTape_0 : decode cX0_nextOfTape 0 = .ok (.aload_n 0, 1) := by decide +kernel
theorem dX0_nextOfTape_1 : decode cX0_nextOfTape 1 = .ok (.getfield 9, 3) := by decide +kernel
theorem dX0_nextOfTape_4 : decode cX0_nextOfTape 4 = .ok (.aload_n 0, 1) := by decide +kernel
theorem dX0_nextOfTape_5 : decode cX0_nextOfTape 5 = .ok (.getfield 25, 3) := by decide +kernel
theorem dX0_nextOfTape_8 : decode cX0_nextOfTape 8 = .ok (.iaload, 1) := by decide +kernel
theorem dX0_nextOfTape_9 : decode cX0_nextOfTape 9 = .ok (.istore_n 1, 1) := by decide +kernel
theorem dX0_nextOfTape_10 : decode cX0_nextOfTape 10 = .ok (.aload_n 0, 1) := by decide +kernel
theorem dX0_nextOfTape_11 : decode cX0_nextOfTape 11 = .ok (.aload_n 0, 1) := by decide +kernel
theorem dX0_nextOfTape_12 : decode cX0_nextOfTape 12 = .ok (.getfield 25, 3) := by decide +kernel
theorem dX0_nextOfTape_15 : decode cX0_nextOfTape 15 = .ok (.iconst 1, 1) := by decide +kernel
theorem dX0_nextOfTape_16 : decode cX0_nextOfTape 16 = .ok (.iadd, 1) := by decide +kernel
theorem dX0_nextOfTape_17 : decode cX0_nextOfTape 17 = .ok (.bipush 50, 2) := by decide +kernel
theorem dX0_nextOfTape_19 : decode cX0_nextOfTape 19 = .ok (.irem, 1) := by decide +kernel
theorem dX0_nextOfTape_20 : decode cX0_nextOfTape 20 = .ok (.putfield 25, 3) := by decide +kernel
theorem dX0_nextOfTape_23 : decode cX0_nextOfTape 23 = .ok (.aload_n 0, 1) := by decide +kernel
theorem dX0_nextOfTape_24 : decode cX0_nextOfTape 24 = .ok (.dup, 1) := by decide +kernel
theorem dX0_nextOfTape_25 : decode cX0_nextOfTape 25 = .ok (.getfield 22, 3) := by decide +kernel
theorem dX0_nextOfTape_28 : decode cX0_nextOfTape 28 = .ok (.iconst 1, 1) := by decide +kernel
theorem dX0_nextOfTape_29 : decode cX0_nextOfTape 29 = .ok (.isub, 1) := by decide +kernel
theorem dX0_nextOfTape_30 : decode cX0_nextOfTape 30 = .ok (.putfield 22, 3) := by decide +kernel
theorem dX0_nextOfTape_33 : decode cX0_nextOfTape 33 = .ok (.iload_n 1, 1) := by decide +kernel
theorem dX0_nextOfTape_34 : decode cX0_nextOfTape 34 = .ok (.ireturn, 1) := by decide +kernel
theorem dX0_nextOfSeed_0 : decode cX0_nextOfSeed 0 = .ok (.aload_n 0, 1) := by decide +kernel
theorem dX0_nextOfSeed_1 : decode cX0_nextOfSeed 1 = .ok (.aload_n 0, 1) := by decide +kernel
theorem dX0_nextOfSeed_2 : decode cX0_nextOfSeed 2 = .ok (.getfield 19, 3) := by decide +kernel
theorem dX0_nextOfSeed_5 : decode cX0_nextOfSeed 5 = .ok (.ldc 47, 2) := by decide +kernel
theorem dX0_nextOfSeed_7 : decode cX0_nextOfSeed 7 = .ok (.imul, 1) := by decide +kernel
theorem dX0_nextOfSeed_8 : decode cX0_nextOfSeed 8 = .ok (.sipush 12345, 3) := by decide +kernel
theorem dX0_nextOfSeed_11 : decode cX0_nextOfSeed 11 = .ok (.iadd, 1) := by decide +kernel
theorem dX0_nextOfSeed_12 : decode cX0_nextOfSeed 12 = .ok (.ldc 48, 2) := by decide +kernel
theorem dX0_nextOfSeed_14 : decode cX0_nextOfSeed 14 = .ok (.iand, 1) := by decide +kernel
theorem dX0_nextOfSeed_15 : decode cX0_nextOfSeed 15 = .ok (.putfield 19, 3) := by decide +kernel
theorem dX0_nextOfSeed_18 : decode cX0_nextOfSeed 18 = .ok (.aload_n 0, 1) := by decide +kernel
theorem dX0_nextOfSeed_19 : decode cX0_nextOfSeed 19 = .ok (.getfield 19, 3) := by decide +kernel
theorem dX0_nextOfSeed_22 : decode cX0_nextOfSeed 22 = .ok (.bipush 16, 2) := by decide +kernel
theorem dX0_nextOfSeed_24 : decode cX0_nextOfSeed 24 = .ok (.iushr, 1) := by decide +kernel
theorem dX0_nextOfSeed_25 : decode cX0_nextOfSeed 25 = .ok (.ireturn, 1) := by decide +kernel
theorem dX1_init_0 : decode cX1_init 0 = .ok (.aload_n 0, 1) := by decide +kernel
theorem dX1_init_1 : decode cX1_init 1 = .ok (.invokespecial 3, 3) := by decide +kernel
theorem dX1_init_4 : decode cX1_init 4 = .ok (.aload_n 0, 1) := by decide +kernel
theorem dX1_init_5 : decode cX1_init 5 = .ok (.bipush 15, 2) := by decide +kernel
theorem dX1_init_7 : decode cX1_init 7 = .ok (.newarray .int, 2) := by decide +kernel
theorem dX1_init_9 : decode cX1_init 9 = .ok (.putfield 9, 3) := by decide +kernel
theorem dX1_init_12 : decode cX1_init 12 = .ok (.return_, 1) := by decide +kernel
theorem dX1_local_0 : decode cX1_local 0 = .ok (.aload_n 0, 1) := by decide +kernel
theorem dX1_local_1 : decode cX1_local 1 = .ok (.iload_n 1, 1) := by decide +kernel
theorem dX1_local_2 : decode cX1_local 2 = .ok (.invokevirtual 15, 3) := by decide +kernel
theorem dX1_local_5 : decode cX1_local 5 = .ok (.ifCond .eq 14, 3) := by decide +kernel
theorem dX1_local_8 : decode cX1_local 8 = .ok (.aload_n 0, 1) := by decide +kernel
theorem dX1_local_9 : decode cX1_local 9 = .ok (.getfield 9, 3) := by decide +kernel
theorem dX1_local_12 : decode cX1_local 12 = .ok (.iload_n 1, 1) := by decide +kernel
theorem dX1_local_13 : decode cX1_local 13 = .ok (.iconst 1, 1) := by decide +kernel
theorem dX1_local_14 : decode cX1_local 14 = .ok (.isub, 1) := by decide +kernel
theorem dX1_local_15 : decode cX1_local 15 = .ok (.iaload, 1) := by decide +kernel
theorem dX1_local_16 : decode cX1_local 16 = .ok (.goto 5, 3) := by decide +kernel
theorem dX1_local_19 : decode cX1_local 19 = .ok (.bipush (-17), 2) := by decide +kernel
theorem dX1_local_21 : decode cX1_local 21 = .ok (.ireturn, 1) := by decide +kernel
theorem dX1_setLocal_0 : decode cX1_setLocal 0 = .ok (.aload_n 0, 1) := by decide +kernel
theorem dX1_setLocal_1 : decode cX1_setLocal 1 = .ok (.iload_n 1, 1) := by decide +kernel
theorem dX1_setLocal_2 : decode cX1_setLocal 2 = .ok (.invokevirtual 15, 3) := by decide +kernel
theorem dX1_setLocal_5 : decode cX1_setLocal 5 = .ok (.ifCond .ne 6, 3) := by decide +kernel
theorem dX1_setLocal_8 : decode cX1_setLocal 8 = .ok (.bipush (-17), 2) := by decide +kernel
theorem dX1_setLocal_10 : decode cX1_setLocal 10 = .ok (.ireturn, 1) := by decide +kernel
theorem dX1_setLocal_11 : decode cX1_setLocal 11 = .ok (.aload_n 0, 1) := by decide +kernel
theorem dX1_setLocal_12 : decode cX1_setLocal 12 = .ok (.getfield 9, 3) := by decide +kernel
theorem dX1_setLocal_15 : decode cX1_setLocal 15 = .ok (.iload_n 1, 1) := by decide +kernel
theorem dX1_setLocal_16 : decode cX1_setLocal 16 = .ok (.iconst 1, 1) := by decide +kernel
theorem dX1_setLocal_17 : decode cX1_setLocal 17 = .ok (.isub, 1) := by decide +kernel
theorem dX1_setLocal_18 : decode cX1_setLocal 18 = .ok (.iload_n 2, 1) := by decide +kernel
theorem dX1_setLocal_19 : decode cX1_setLocal 19 = .ok (.iastore, 1) := by decide +kernel
theorem dX1_setLocal_20 : decode cX1_setLocal 20 = .ok (.iconst 1, 1) := by decide +kernel
theorem dX1_setLocal_21 : decode cX1_setLocal 21 = .ok (.ireturn, 1) := by decide +kernel
theorem dX1_hasLocal_0 : decode cX1_hasLocal 0 = .ok (.iload_n 1, 1) := by decide +kernel
theorem dX1_hasLocal_1 : decode cX1_hasLocal 1 = .ok (.iconst 1, 1) := by decide +kernel
theorem dX1_hasLocal_2 : decode cX1_hasLocal 2 = .ok (.if_icmp .lt 15, 3) := by decide +kernel
theorem dX1_hasLocal_5 : decode cX1_hasLocal 5 = .ok (.iload_n 1, 1) := by decide +kernel
theorem dX1_hasLocal_6 : decode cX1_hasLocal 6 = .ok (.aload_n 0, 1) := by decide +kernel
theorem dX1_hasLocal_7 : decode cX1_hasLocal 7 = .ok (.getfield 19, 3) := by decide +kernel
theorem dX1_hasLocal_10 : decode cX1_hasLocal 10 = .ok (.if_icmp .gt 7, 3) := by decide +kernel
theorem dX1_hasLocal_13 : decode cX1_hasLocal 13 = .ok (.iconst 1, 1) := by decide +kernel
theorem dX1_hasLocal_14 : decode cX1_hasLocal 14 = .ok (.goto 4, 3) := by decide +kernel
theorem dX1_hasLocal_17 : decode cX1_hasLocal 17 = .ok (.iconst 0, 1) := by decide +kernel
theorem dX1_hasLocal_18 : decode cX1_hasLocal 18 = .ok (.ireturn, 1) := by decide +kernel
theorem dX2_init_0 : decode cX2_init 0 = .ok (.aload_n 0, 1) := by decide +kernel
theorem dX2_init_1 : decode cX2_init 1 = .ok (.invokespecial 3, 3) := by decide +kernel
theorem dX2_init_4 : decode cX2_init 4 = .ok (.aload_n 0, 1) := by decide +kernel
theorem dX2_init_5 : decode cX2_init 5 = .ok (.bipush 12, 2) := by decide +kernel
theorem dX2_init_7 : decode cX2_init 7 = .ok (.anewarray 9, 3) := by decide +kernel
theorem dX2_init_10 : decode cX2_init 10 = .ok (.putfield 11, 3) := by decide +kernel
theorem dX2_init_13 : decode cX2_init 13 = .ok (.aload_n 0, 1) := by decide +kernel
theorem dX2_init_14 : decode cX2_init 14 = .ok (.bipush 100, 2) := by decide +kernel
theorem dX2_init_16 : decode cX2_init 16 = .ok (.newarray .int, 2) := by decide +kernel
theorem dX2_init_18 : decode cX2_init 18 = .ok (.putfield 17, 3) := by decide +kernel
theorem dX2_init_21 : decode cX2_init 21 = .ok (.iconst 0, 1) := by decide +kernel
theorem dX2_init_22 : decode cX2_init 22 = .ok (.istore_n 1, 1) := by decide +kernel
theorem dX2_init_23 : decode cX2_init 23 = .ok (.iload_n 1, 1) := by decide +kernel
theorem dX2_init_24 : decode cX2_init 24 = .ok (.bipush 12, 2) := by decide +kernel
theorem dX2_init_26 : decode cX2_init 26 = .ok (.if_icmp .ge 22, 3) := by decide +kernel
theorem dX2_init_29 : decode cX2_init 29 = .ok (.aload_n 0, 1) := by decide +kernel
theorem dX2_init_30 : decode cX2_init 30 = .ok (.getfield 11, 3) := by decide +kernel
theorem dX2_init_33 : decode cX2_init 33 = .ok (.iload_n 1, 1) := by decide +kernel
theorem dX2_init_34 : decode cX2_init 34 = .ok (.new 9, 3) := by decide +kernel
theorem dX2_init_37 : decode cX2_init 37 = .ok (.dup, 1) := by decide +kernel
theorem dX2_init_38 : decode cX2_init 38 = .ok (.invokespecial 21, 3) := by decide +kernel
theorem dX2_init_41 : decode cX2_init 41 = .ok (.aastore, 1) := by decide +kernel
theorem dX2_init_42 : decode cX2_init 42 = .ok (.iinc 1 1, 3) := by decide +kernel
theorem dX2_init_45 : decode cX2_init 45 = .ok (.goto (-22), 3) := by decide +kernel
theorem dX2_init_48 : decode cX2_init 48 = .ok (.return_, 1) := by decide +kernel
theorem dX2_begin_0 : decode cX2_begin 0 = .ok (.aload_n 0, 1) := by decide +kernel
theorem dX2_begin_1 : decode cX2_begin 1 = .ok (.iconst 0, 1) := by decide +kernel
theorem dX2_begin_2 : decode cX2_begin 2 = .ok (.putfield 22, 3) := by decide +kernel
theorem dX2_begin_5 : decode cX2_begin 5 = .ok (.aload_n 0, 1) := by decide +kernel
theorem dX2_begin_6 : decode cX2_begin 6 = .ok (.iconst 0, 1) := by decide +kernel
theorem dX2_begin_7 : decode cX2_begin 7 = .ok (.putfield 26, 3) := by decide +kernel
theorem dX2_begin_10 : decode cX2_begin 10 = .ok (.aload_n 0, 1) := by decide +kernel
theorem dX2_begin_11 : decode cX2_begin 11 = .ok (.iconst 0, 1) := by decide +kernel
theorem dX2_begin_12 : decode cX2_begin 12 = .ok (.putfield 29, 3) := by decide +kernel
theorem dX2_begin_15 : decode cX2_begin 15 = .ok (.return_, 1) := by decide +kernel
theorem dX2_top_0 : decode cX2_top 0 = .ok (.aload_n 0, 1) := by decide +kernel
theorem dX2_top_1 : decode cX2_top 1 = .ok (.getfield 11, 3) := by decide +kernel
theorem dX2_top_4 : decode cX2_top 4 = .ok (.aload_n 0, 1) := by decide +kernel
theorem dX2_top_5 : decode cX2_top 5 = .ok (.getfield 26, 3) := by decide +kernel
theorem dX2_top_8 : decode cX2_top 8 = .ok (.ifCond .le 12, 3) := by decide +kernel
theorem dX2_top_11 : decode cX2_top 11 = .ok (.aload_n 0, 1) := by decide +kernel
theorem dX2_top_12 : decode cX2_top 12 = .ok (.getfield 26, 3) := by decide +kernel
theorem dX2_top_15 : decode cX2_top 15 = .ok (.iconst 1, 1) := by decide +kernel
theorem dX2_top_16 : decode cX2_top 16 = .ok (.isub, 1) := by decide +kernel
theorem dX2_top_17 : decode cX2_top 17 = .ok (.goto 4, 3) := by decide +kernel
theorem dX2_top_20 : decode cX2_top 20 = .ok (.iconst 0, 1) := by decide +kernel
theorem dX2_top_21 : decode cX2_top 21 = .ok (.aaload, 1) := by decide +kernel
theorem dX2_top_22 : decode cX2_top 22 = .ok (.areturn, 1) := by decide +kernel
theorem dX2_enter_0 : decode cX2_enter 0 = .ok (.aload_n 0, 1) := by decide +kernel
theorem dX2_enter_1 : decode cX2_enter 1 = .ok (.getfield 26, 3) := by decide +kernel
theorem dX2_enter_4 : decode cX2_enter 4 = .ok (.bipush 12, 2) := by decide +kernel
theorem dX2_enter_6 : decode cX2_enter 6 = .ok (.if_icmp .lt 5, 3) := by decide +kernel
theorem dX2_enter_9 : decode cX2_enter 9 = .ok (.aconst_null, 1) := by decide +kernel
theorem dX2_enter_10 : decode cX2_enter 10 = .ok (.areturn, 1) := by decide +kernel
theorem dX2_enter_11 : decode cX2_enter 11 = .ok (.aload_n 0, 1) := by decide +kernel
theorem dX2_enter_12 : decode cX2_enter 12 = .ok (.getfield 11, 3) := by decide +kernel
theorem dX2_enter_15 : decode cX2_enter 15 = .ok (.aload_n 0, 1) := by decide +kernel
theorem dX2_enter_16 : decode cX2_enter 16 = .ok (.getfield 26, 3) := by decide +kernel
theorem dX2_enter_19 : decode cX2_enter 19 = .ok (.aaload, 1) := by decide +kernel
theorem dX2_enter_20 : decode cX2_enter 20 = .ok (.astore_n 1, 1) := by decide +kernel
theorem dX2_enter_21 : decode cX2_enter 21 = .ok (.aload_n 1, 1) := by decide +kernel
theorem dX2_enter_22 : decode cX2_enter 22 = .ok (.getfield 32, 3) := by decide +kernel
theorem dX2_enter_25 : decode cX2_enter 25 = .ok (.iconst 0, 1) := by decide +kernel
theorem dX2_enter_26 : decode cX2_enter 26 = .ok (.invokestatic 35, 3) := by decide +kernel
theorem dX2_enter_29 : decode cX2_enter 29 = .ok (.aload_n 1, 1) := by decide +kernel
theorem dX2_enter_30 : decode cX2_enter 30 = .ok (.aload_n 0, 1) := by decide +kernel
theorem dX2_enter_31 : decode cX2_enter 31 = .ok (.getfield 22, 3) := by decide +kernel
theorem dX2_enter_34 : decode cX2_enter 34 = .ok (.putfield 41, 3) := by decide +kernel
theorem dX2_enter_37 : decode cX2_enter 37 = .ok (.aload_n 0, 1) := by decide +kernel
theorem dX2_enter_38 : decode cX2_enter 38 = .ok (.dup, 1) := by decide +kernel
theorem dX2_enter_39 : decode cX2_enter 39 = .ok (.getfield 26, 3) := by decide +kernel
theorem dX2_enter_42 : decode cX2_enter 42 = .ok (.iconst 1, 1) := by decide +kernel
theorem dX2_enter_43 : decode cX2_enter 43 = .ok (.iadd, 1) := by decide +kernel
theorem dX2_enter_44 : decode cX2_enter 44 = .ok (.putfield 26, 3) := by decide +kernel
theorem dX2_enter_47 : decode cX2_enter 47 = .ok (.aload_n 0, 1) := by decide +kernel
theorem dX2_enter_48 : decode cX2_enter 48 = .ok (.aload_n 0, 1) := by decide +kernel
theorem dX2_enter_49 : decode cX2_enter 49 = .ok (.getfield 29, 3) := by decide +kernel
theorem dX2_enter_52 : decode cX2_enter 52 = .ok (.aload_n 0, 1) := by decide +kernel
theorem dX2_enter_53 : decode cX2_enter 53 = .ok (.getfield 26, 3) := by decide +kernel
theorem dX2_enter_56 : decode cX2_enter 56 = .ok (.invokestatic 44, 3) := by decide +kernel
theorem dX2_enter_59 : decode cX2_enter 59 = .ok (.putfield 29, 3) := by decide +kernel
theorem dX2_enter_62 : decode cX2_enter 62 = .ok (.aload_n 1, 1) := by decide +kernel
theorem dX2_enter_63 : decode cX2_enter 63 = .ok (.areturn, 1) := by decide +kernel
theorem dX2_leave_0 : decode cX2_leave 0 = .ok (.aload_n 0, 1) := by decide +kernel
theorem dX2_leave_1 : decode cX2_leave 1 = .ok (.getfield 26, 3) := by decide +kernel
theorem dX2_leave_4 : decode cX2_leave 4 = .ok (.ifCond .le 29, 3) := by decide +kernel
theorem dX2_leave_7 : decode cX2_leave 7 = .ok (.aload_n 0, 1) := by decide +kernel
theorem dX2_leave_8 : decode cX2_leave 8 = .ok (.dup, 1) := by decide +kernel
theorem dX2_leave_9 : decode cX2_leave 9 = .ok (.getfield 26, 3) := by decide +kernel
theorem dX2_leave_12 : decode cX2_leave 12 = .ok (.iconst 1, 1) := by decide +kernel
theorem dX2_leave_13 : decode cX2_leave 13 = .ok (.isub, 1) := by decide +kernel
theorem dX2_leave_14 : decode cX2_leave 14 = .ok (.putfield 26, 3) := by decide +kernel
theorem dX2_leave_17 : decode cX2_leave 17 = .ok (.aload_n 0, 1) := by decide +kernel
theorem dX2_leave_18 : decode cX2_leave 18 = .ok (.aload_n 0, 1) := by decide +kernel
theorem dX2_leave_19 : decode cX2_leave 19 = .ok (.getfield 11, 3) := by decide +kernel
theorem dX2_leave_22 : decode cX2_leave 22 = .ok (.aload_n 0, 1) := by decide +kernel
theorem dX2_leave_23 : decode cX2_leave 23 = .ok (.getfield 26, 3) := by decide +kernel
theorem dX2_leave_26 : decode cX2_leave 26 = .ok (.aaload, 1) := by decide +kernel
theorem dX2_leave_27 : decode cX2_leave 27 = .ok (.getfield 41, 3) := by decide +kernel
theorem dX2_leave_30 : decode cX2_leave 30 = .ok (.putfield 22, 3) := by decide +kernel
theorem dX2_leave_33 : decode cX2_leave 33 = .ok (.return_, 1) := by decide +kernel
theorem dX2_pop_0 : decode cX2_pop 0 = .ok (.aload_n 0, 1) := by decide +kernel
theorem dX2_pop_1 : decode cX2_pop 1 = .ok (.getfield 22, 3) := by decide +kernel
theorem dX2_pop_4 : decode cX2_pop 4 = .ok (.aload_n 0, 1) := by decide +kernel
theorem dX2_pop_5 : decode cX2_pop 5 = .ok (.invokevirtual 50, 3) := by decide +kernel
theorem dX2_pop_8 : decode cX2_pop 8 = .ok (.getfield 41, 3) := by decide +kernel
theorem dX2_pop_11 : decode cX2_pop 11 = .ok (.if_icmp .gt 6, 3) := by decide +kernel
theorem dX2_pop_14 : decode cX2_pop 14 = .ok (.bipush (-14), 2) := by decide +kernel
theorem dX2_pop_16 : decode cX2_pop 16 = .ok (.ireturn, 1) := by decide +kernel
theorem dX2_pop_17 : decode cX2_pop 17 = .ok (.aload_n 0, 1) := by decide +kernel
theorem dX2_pop_18 : decode cX2_pop 18 = .ok (.dup, 1) := by decide +kernel
theorem dX2_pop_19 : decode cX2_pop 19 = .ok (.getfield 22, 3) := by decide +kernel
theorem dX2_pop_22 : decode cX2_pop 22 = .ok (.iconst 1, 1) := by decide +kernel
theorem dX2_pop_23 : decode cX2_pop 23 = .ok (.isub, 1) := by decide +kernel
theorem dX2_pop_24 : decode cX2_pop 24 = .ok (.putfield 22, 3) := by decide +kernel
theorem dX2_pop_27 : decode cX2_pop 27 = .ok (.aload_n 0, 1) := by decide +kernel
theorem dX2_pop_28 : decode cX2_pop 28 = .ok (.getfield 17, 3) := by decide +kernel
theorem dX2_pop_31 : decode cX2_pop 31 = .ok (.aload_n 0, 1) := by decide +kernel
theorem dX2_pop_32 : decode cX2_pop 32 = .ok (.getfield 22, 3) := by decide +kernel
theorem dX2_pop_35 : decode cX2_pop 35 = .ok (.iaload, 1) := by decide +kernel
theorem dX2_pop_36 : decode cX2_pop 36 = .ok (.ireturn, 1) := by decide +kernel
theorem dX2_push_0 : decode cX2_push 0 = .ok (.aload_n 0, 1) := by decide +kernel
theorem dX2_push_1 : decode cX2_push 1 = .ok (.getfield 22, 3) := by decide +kernel
theorem dX2_push_4 : decode cX2_push 4 = .ok (.bipush 100, 2) := by decide +kernel
theorem dX2_push_6 : decode cX2_push 6 = .ok (.if_icmp .lt 6, 3) := by decide +kernel
theorem dX2_push_9 : decode cX2_push 9 = .ok (.bipush (-15), 2) := by decide +kernel
theorem dX2_push_11 : decode cX2_push 11 = .ok (.ireturn, 1) := by decide +kernel
theorem dX2_push_12 : decode cX2_push 12 = .ok (.aload_n 0, 1) := by decide +kernel
theorem dX2_push_13 : decode cX2_push 13 = .ok (.getfield 17, 3) := by decide +kernel
theorem dX2_push_16 : decode cX2_push 16 = .ok (.aload_n 0, 1) := by decide +kernel
theorem dX2_push_17 : decode cX2_push 17 = .ok (.getfield 22, 3) := by decide +kernel
theorem dX2_push_20 : decode cX2_push 20 = .ok (.iload_n 1, 1) := by decide +kernel
theorem dX2_push_21 : decode cX2_push 21 = .ok (.iastore, 1) := by decide +kernel
theorem dX2_push_22 : decode cX2_push 22 = .ok (.aload_n 0, 1) := by decide +kernel
theorem dX2_push_23 : decode cX2_push 23 = .ok (.dup, 1) := by decide +kernel
theorem dX2_push_24 : decode cX2_push 24 = .ok (.getfield 22, 3) := by decide +kernel
theorem dX2_push_27 : decode cX2_push 27 = .ok (.iconst 1, 1) := by decide +kernel
theorem dX2_push_28 : decode cX2_push 28 = .ok (.iadd, 1) := by decide +kernel
theorem dX2_push_29 : decode cX2_push 29 = .ok (.putfield 22, 3) := by decide +kernel
theorem dX2_push_32 : decode cX2_push 32 = .ok (.iconst 1, 1) := by decide +kernel
theorem dX2_push_33 : decode cX2_push 33 = .ok (.ireturn, 1) := by decide +kernel
theorem dX3_init_0 : decode cX3_init 0 = .ok (.aload_n 0, 1) := by decide +kernel
theorem dX3_init_1 : decode cX3_init 1 = .ok (.invokespecial 3, 3) := by decide +kernel
theorem dX3_init_4 : decode cX3_init 4 = .ok (.aload_n 0, 1) := by decide +kernel
theorem dX3_init_5 : decode cX3_init 5 = .ok (.sipush 2000, 3) := by decide +kernel
theorem dX3_init_8 : decode cX3_init 8 = .ok (.newarray .int, 2) := by decide +kernel
theorem dX3_init_10 : decode cX3_init 10 = .ok (.putfield 9, 3) := by decide +kernel
theorem dX3_init_13 : decode cX3_init 13 = .ok (.return_, 1) := by decide +kernel
theorem dX3_begin_0 : decode cX3_begin 0 = .ok (.aload_n 0, 1) := by decide +kernel
theorem dX3_begin_1 : decode cX3_begin 1 = .ok (.getfield 9, 3) := by decide +kernel
theorem dX3_begin_4 : decode cX3_begin 4 = .ok (.iconst 0, 1) := by decide +kernel
theorem dX3_begin_5 : decode cX3_begin 5 = .ok (.invokestatic 15, 3) := by decide +kernel
theorem dX3_begin_8 : decode cX3_begin 8 = .ok (.aload_n 0, 1) := by decide +kernel
theorem dX3_begin_9 : decode cX3_begin 9 = .ok (.iload_n 1, 1) := by decide +kernel
theorem dX3_begin_10 : decode cX3_begin 10 = .ok (.putfield 21, 3) := by decide +kernel
theorem dX3_begin_13 : decode cX3_begin 13 = .ok (.aload_n 0, 1) := by decide +kernel
theorem dX3_begin_14 : decode cX3_begin 14 = .ok (.iload_n 2, 1) := by decide +kernel
theorem dX3_begin_15 : decode cX3_begin 15 = .ok (.putfield 25, 3) := by decide +kernel
theorem dX3_begin_18 : decode cX3_begin 18 = .ok (.return_, 1) := by decide +kernel
theorem dX3_isOutside_0 : decode cX3_isOutside 0 = .ok (.iload_n 1, 1) := by decide +kernel
theorem dX3_isOutside_1 : decode cX3_isOutside 1 = .ok (.ifCond .lt 11, 3) := by decide +kernel
theorem dX3_isOutside_4 : decode cX3_isOutside 4 = .ok (.iload_n 1, 1) := by decide +kernel
theorem dX3_isOutside_5 : decode cX3_isOutside 5 = .ok (.aload_n 0, 1) := by decide +kernel
theorem dX3_isOutside_6 : decode cX3_isOutside 6 = .ok (.getfield 21, 3) := by decide +kernel
theorem dX3_isOutside_9 : decode cX3_isOutside 9 = .ok (.if_icmp .lt 7, 3) := by decide +kernel
theorem dX3_isOutside_12 : decode cX3_isOutside 12 = .ok (.iconst 1, 1) := by decide +kernel
theorem dX3_isOutside_13 : decode cX3_isOutside 13 = .ok (.goto 4, 3) := by decide +kernel
theorem dX3_isOutside_16 : decode cX3_isOutside 16 = .ok (.iconst 0, 1) := by decide +kernel
theorem dX3_isOutside_17 : decode cX3_isOutside 17 = .ok (.ireturn, 1) := by decide +kernel
theorem dX3_byteAt_0 : decode cX3_byteAt 0 = .ok (.aload_n 0, 1) := by decide +kernel
theorem dX3_byteAt_1 : decode cX3_byteAt 1 = .ok (.iload_n 1, 1) := by decide +kernel
theorem dX3_byteAt_2 : decode cX3_byteAt 2 = .ok (.invokevirtual 28, 3) := by decide +kernel
theorem dX3_byteAt_5 : decode cX3_byteAt 5 = .ok (.ifCond .eq 8, 3) := by decide +kernel
theorem dX3_byteAt_8 : decode cX3_byteAt 8 = .ok (.bipush (-12), 2) := by decide +kernel
theorem dX3_byteAt_10 : decode cX3_byteAt 10 = .ok (.goto 9, 3) := by decide +kernel
theorem dX3_byteAt_13 : decode cX3_byteAt 13 = .ok (.aload_n 0, 1) := by decide +kernel
theorem dX3_byteAt_14 : decode cX3_byteAt 14 = .ok (.getfield 9, 3) := by decide +kernel
theorem dX3_byteAt_17 : decode cX3_byteAt 17 = .ok (.iload_n 1, 1) := by decide +kernel
theorem dX3_byteAt_18 : decode cX3_byteAt 18 = .ok (.iaload, 1) := by decide +kernel
theorem dX3_byteAt_19 : decode cX3_byteAt 19 = .ok (.ireturn, 1) := by decide +kernel
theorem dX3_wordAt_0 : decode cX3_wordAt 0 = .ok (.aload_n 0, 1) := by decide +kernel
theorem dX3_wordAt_1 : decode cX3_wordAt 1 = .ok (.iload_n 1, 1) := by decide +kernel
theorem dX3_wordAt_2 : decode cX3_wordAt 2 = .ok (.invokevirtual 28, 3) := by decide +kernel
theorem dX3_wordAt_5 : decode cX3_wordAt 5 = .ok (.ifCond .ne 13, 3) := by decide +kernel
theorem dX3_wordAt_8 : decode cX3_wordAt 8 = .ok (.aload_n 0, 1) := by decide +kernel
theorem dX3_wordAt_9 : decode cX3_wordAt 9 = .ok (.iload_n 1, 1) := by decide +kernel
theorem dX3_wordAt_10 : decode cX3_wordAt 10 = .ok (.iconst 1, 1) := by decide +kernel
theorem dX3_wordAt_11 : decode cX3_wordAt 11 = .ok (.iadd, 1) := by decide +kernel
theorem dX3_wordAt_12 : decode cX3_wordAt 12 = .ok (.invokevirtual 28, 3) := by decide +kernel
theorem dX3_wordAt_15 : decode cX3_wordAt 15 = .ok (.ifCond .eq 6, 3) := by decide +kernel
theorem dX3_wordAt_18 : decode cX3_wordAt 18 = .ok (.bipush (-12), 2) := by decide +kernel
theorem dX3_wordAt_20 : decode cX3_wordAt 20 = .ok (.ireturn, 1) := by decide +kernel
theorem dX3_wordAt_21 : decode cX3_wordAt 21 = .ok (.aload_n 0, 1) := by decide +kernel
theorem dX3_wordAt_22 : decode cX3_wordAt 22 = .ok (.getfield 9, 3) := by decide +kernel
theorem dX3_wordAt_25 : decode cX3_wordAt 25 = .ok (.iload_n 1, 1) := by decide +kernel
theorem dX3_wordAt_26 : decode cX3_wordAt 26 = .ok (.iaload, 1) := by decide +kernel
theorem dX3_wordAt_27 : decode cX3_wordAt 27 = .ok (.bipush 8, 2) := by decide +kernel
theorem dX3_wordAt_29 : decode cX3_wordAt 29 = .ok (.ishl, 1) := by decide +kernel
theorem dX3_wordAt_30 : decode cX3_wordAt 30 = .ok (.aload_n 0, 1) := by decide +kernel
theorem dX3_wordAt_31 : decode cX3_wordAt 31 = .ok (.getfield 9, 3) := by decide +kernel
theorem dX3_wordAt_34 : decode cX3_wordAt 34 = .ok (.iload_n 1, 1) := by decide +kernel
theorem dX3_wordAt_35 : decode cX3_wordAt 35 = .ok (.iconst 1, 1) := by decide +kernel
theorem dX3_wordAt_36 : decode cX3_wordAt 36 = .ok (.iadd, 1) := by decide +kernel
theorem dX3_wordAt_37 : decode cX3_wordAt 37 = .ok (.iaload, 1) := by decide +kernel
theorem dX3_wordAt_38 : decode cX3_wordAt 38 = .ok (.ior, 1) := by decide +kernel
theorem dX3_wordAt_39 : decode cX3_wordAt 39 = .ok (.ireturn, 1) := by decide +kernel
theorem dX3_setByte_0 : decode cX3_setByte 0 = .ok (.aload_n 0, 1) := by decide +kernel
theorem dX3_setByte_1 : decode cX3_setByte 1 = .ok (.iload_n 1, 1) := by decide +kernel
theorem dX3_setByte_2 : decode cX3_setByte 2 = .ok (.invokevirtual 28, 3) := by decide +kernel
theorem dX3_setByte_5 : decode cX3_setByte 5 = .ok (.ifCond .eq 6, 3) := by decide +kernel
theorem dX3_setByte_8 : decode cX3_setByte 8 = .ok (.bipush (-12), 2) := by decide +kernel
theorem dX3_setByte_10 : decode cX3_setByte 10 = .ok (.ireturn, 1) := by decide +kernel
theorem dX3_setByte_11 : decode cX3_setByte 11 = .ok (.iload_n 3, 1) := by decide +kernel
theorem dX3_setByte_12 : decode cX3_setByte 12 = .ok (.ifCond .ne 14, 3) := by decide +kernel
theorem dX3_setByte_15 : decode cX3_setByte 15 = .ok (.iload_n 1, 1) := by decide +kernel
theorem dX3_setByte_16 : decode cX3_setByte 16 = .ok (.aload_n 0, 1) := by decide +kernel
theorem dX3_setByte_17 : decode cX3_setByte 17 = .ok (.getfield 25, 3) := by decide +kernel
theorem dX3_setByte_20 : decode cX3_setByte 20 = .ok (.if_icmp .lt 6, 3) := by decide +kernel
theorem dX3_setByte_23 : decode cX3_setByte 23 = .ok (.bipush (-13), 2) := by decide +kernel
theorem dX3_setByte_25 : decode cX3_setByte 25 = .ok (.ireturn, 1) := by decide +kernel
theorem dX3_setByte_26 : decode cX3_setByte 26 = .ok (.aload_n 0, 1) := by decide +kernel
theorem dX3_setByte_27 : decode cX3_setByte 27 = .ok (.getfield 9, 3) := by decide +kernel
theorem dX3_setByte_30 : decode cX3_setByte 30 = .ok (.iload_n 1, 1) := by decide +kernel
theorem dX3_setByte_31 : decode cX3_setByte 31 = .ok (.iload_n 2, 1) := by decide +kernel
theorem dX3_setByte_32 : decode cX3_setByte 32 = .ok (.sipush 255, 3) := by decide +kernel
theorem dX3_setByte_35 : decode cX3_setByte 35 = .ok (.iand, 1) := by decide +kernel
theorem dX3_setByte_36 : decode cX3_setByte 36 = .ok (.iastore, 1) := by decide +kernel
theorem dX3_setByte_37 : decode cX3_setByte 37 = .ok (.iconst 1, 1) := by decide +kernel
theorem dX3_setByte_38 : decode cX3_setByte 38 = .ok (.ireturn, 1) := by decide +kernel
theorem dX3_setWord_0 : decode cX3_setWord 0 = .ok (.aload_n 0, 1) := by decide +kernel
theorem dX3_setWord_1 : decode cX3_setWord 1 = .ok (.iload_n 1, 1) := by decide +kernel
theorem dX3_setWord_2 : decode cX3_setWord 2 = .ok (.invokevirtual 28, 3) := by decide +kernel
theorem dX3_setWord_5 : decode cX3_setWord 5 = .ok (.ifCond .ne 13, 3) := by decide +kernel
theorem dX3_setWord_8 : decode cX3_setWord 8 = .ok (.aload_n 0, 1) := by decide +kernel
theorem dX3_setWord_9 : decode cX3_setWord 9 = .ok (.iload_n 1, 1) := by decide +kernel
theorem dX3_setWord_10 : decode cX3_setWord 10 = .ok (.iconst 1, 1) := by decide +kernel
theorem dX3_setWord_11 : decode cX3_setWord 11 = .ok (.iadd, 1) := by decide +kernel
theorem dX3_setWord_12 : decode cX3_setWord 12 = .ok (.invokevirtual 28, 3) := by decide +kernel
theorem dX3_setWord_15 : decode cX3_setWord 15 = .ok (.ifCond .eq 6, 3) := by decide +kernel
theorem dX3_setWord_18 : decode cX3_setWord 18 = .ok (.bipush (-12), 2) := by decide +kernel
theorem dX3_setWord_20 : decode cX3_setWord 20 = .ok (.ireturn, 1) := by decide +kernel
theorem dX3_setWord_21 : decode cX3_setWord 21 = .ok (.iload_n 3, 1) := by decide +kernel
theorem dX3_setWord_22 : decode cX3_setWord 22 = .ok (.ifCond .ne 16, 3) := by decide +kernel
theorem dX3_setWord_25 : decode cX3_setWord 25 = .ok (.iload_n 1, 1) := by decide +kernel
theorem dX3_setWord_26 : decode cX3_setWord 26 = .ok (.iconst 1, 1) := by decide +kernel
theorem dX3_setWord_27 : decode cX3_setWord 27 = .ok (.iadd, 1) := by decide +kernel
theorem dX3_setWord_28 : decode cX3_setWord 28 = .ok (.aload_n 0, 1) := by decide +kernel
theorem dX3_setWord_29 : decode cX3_setWord 29 = .ok (.getfield 25, 3) := by decide +kernel
theorem dX3_setWord_32 : decode cX3_setWord 32 = .ok (.if_icmp .lt 6, 3) := by decide +kernel
theorem dX3_setWord_35 : decode cX3_setWord 35 = .ok (.bipush (-13), 2) := by decide +kernel
theorem dX3_setWord_37 : decode cX3_setWord 37 = .ok (.ireturn, 1) := by decide +kernel
theorem dX3_setWord_38 : decode cX3_setWord 38 = .ok (.aload_n 0, 1) := by decide +kernel
theorem dX3_setWord_39 : decode cX3_setWord 39 = .ok (.getfield 9, 3) := by decide +kernel
theorem dX3_setWord_42 : decode cX3_setWord 42 = .ok (.iload_n 1, 1) := by decide +kernel
theorem dX3_setWord_43 : decode cX3_setWord 43 = .ok (.iload_n 2, 1) := by decide +kernel
theorem dX3_setWord_44 : decode cX3_setWord 44 = .ok (.bipush 8, 2) := by decide +kernel
theorem dX3_setWord_46 : decode cX3_setWord 46 = .ok (.ishr, 1) := by decide +kernel
theorem dX3_setWord_47 : decode cX3_setWord 47 = .ok (.sipush 255, 3) := by decide +kernel
theorem dX3_setWord_50 : decode cX3_setWord 50 = .ok (.iand, 1) := by decide +kernel
theorem dX3_setWord_51 : decode cX3_setWord 51 = .ok (.iastore, 1) := by decide +kernel
theorem dX3_setWord_52 : decode cX3_setWord 52 = .ok (.aload_n 0, 1) := by decide +kernel
theorem dX3_setWord_53 : decode cX3_setWord 53 = .ok (.getfield 9, 3) := by decide +kernel
theorem dX3_setWord_56 : decode cX3_setWord 56 = .ok (.iload_n 1, 1) := by decide +kernel
theorem dX3_setWord_57 : decode cX3_setWord 57 = .ok (.iconst 1, 1) := by decide +kernel
theorem dX3_setWord_58 : decode cX3_setWord 58 = .ok (.iadd, 1) := by decide +kernel
theorem dX3_setWord_59 : decode cX3_setWord 59 = .ok (.iload_n 2, 1) := by decide +kernel
theorem dX3_setWord_60 : decode cX3_setWord 60 = .ok (.sipush 255, 3) := by decide +kernel
theorem dX3_setWord_63 : decode cX3_setWord 63 = .ok (.iand, 1) := by decide +kernel
theorem dX3_setWord_64 : decode cX3_setWord 64 = .ok (.iastore, 1) := by decide +kernel
theorem dX3_setWord_65 : decode cX3_setWord 65 = .ok (.iconst 1, 1) := by decide +kernel
theorem dX3_setWord_66 : decode cX3_setWord 66 = .ok (.ireturn, 1) := by decide +kernel
theorem dX3_copyTable_0 : decode cX3_copyTable 0 = .ok (.iload_n 3, 1) := by decide +kernel
theorem dX3_copyTable_1 : decode cX3_copyTable 1 = .ok (.ifCond .ne 5, 3) := by decide +kernel
theorem dX3_copyTable_4 : decode cX3_copyTable 4 = .ok (.iconst 1, 1) := by decide +kernel
theorem dX3_copyTable_5 : decode cX3_copyTable 5 = .ok (.ireturn, 1) := by decide +kernel
theorem dX3_copyTable_6 : decode cX3_copyTable 6 = .ok (.iload_n 2, 1) := by decide +kernel
theorem dX3_copyTable_7 : decode cX3_copyTable 7 = .ok (.ifCond .ne 13, 3) := by decide +kernel
theorem dX3_copyTable_10 : decode cX3_copyTable 10 = .ok (.aload_n 0, 1) := by decide +kernel
theorem dX3_copyTable_11 : decode cX3_copyTable 11 = .ok (.iload_n 1, 1) := by decide +kernel
theorem dX3_copyTable_12 : decode cX3_copyTable 12 = .ok (.iload_n 3, 1) := by decide +kernel
theorem dX3_copyTable_13 : decode cX3_copyTable 13 = .ok (.invokestatic 32, 3) := by decide +kernel
theorem dX3_copyTable_16 : decode cX3_copyTable 16 = .ok (.invokevirtual 38, 3) := by decide +kernel
theorem dX3_copyTable_19 : decode cX3_copyTable 19 = .ok (.ireturn, 1) := by decide +kernel
theorem dX3_copyTable_20 : decode cX3_copyTable 20 = .ok (.iload_n 3, 1) := by decide +kernel
theorem dX3_copyTable_21 : decode cX3_copyTable 21 = .ok (.ifCond .le 13, 3) := by decide +kernel
theorem dX3_copyTable_24 : decode cX3_copyTable 24 = .ok (.aload_n 0, 1) := by decide +kernel
theorem dX3_copyTable_25 : decode cX3_copyTable 25 = .ok (.iload_n 1, 1) := by decide +kernel
theorem dX3_copyTable_26 : decode cX3_copyTable 26 = .ok (.iload_n 2, 1) := by decide +kernel
theorem dX3_copyTable_27 : decode cX3_copyTable 27 = .ok (.iload_n 3, 1) := by decide +kernel
theorem dX3_copyTable_28 : decode cX3_copyTable 28 = .ok (.invokevirtual 42, 3) := by decide +kernel
theorem dX3_copyTable_31 : decode cX3_copyTable 31 = .ok (.goto 11, 3) := by decide +kernel
theorem dX3_copyTable_34 : decode cX3_copyTable 34 = .ok (.aload_n 0, 1) := by decide +kernel
theorem dX3_copyTable_35 : decode cX3_copyTable 35 = .ok (.iload_n 1, 1) := by decide +kernel
theorem dX3_copyTable_36 : decode cX3_copyTable 36 = .ok (.iload_n 2, 1) := by decide +kernel
theorem dX3_copyTable_37 : decode cX3_copyTable 37 = .ok (.iload_n 3, 1) := by decide +kernel
theorem dX3_copyTable_38 : decode cX3_copyTable 38 = .ok (.ineg, 1) := by decide +kernel
theorem dX3_copyTable_39 : decode cX3_copyTable 39 = .ok (.invokevirtual 46, 3) := by decide +kernel
theorem dX3_copyTable_42 : decode cX3_copyTable 42 = .ok (.ireturn, 1) := by decide +kernel
theorem dX3_wipe_0 : decode cX3_wipe 0 = .ok (.aload_n 0, 1) := by decide +kernel
theorem dX3_wipe_1 : decode cX3_wipe 1 = .ok (.iload_n 1, 1) := by decide +kernel
theorem dX3_wipe_2 : decode cX3_wipe 2 = .ok (.invokevirtual 28, 3) := by decide +kernel
theorem dX3_wipe_5 : decode cX3_wipe 5 = .ok (.ifCond .ne 15, 3) := by decide +kernel
theorem dX3_wipe_8 : decode cX3_wipe 8 = .ok (.aload_n 0, 1) := by decide +kernel
theorem dX3_wipe_9 : decode cX3_wipe 9 = .ok (.iload_n 1, 1) := by decide +kernel
theorem dX3_wipe_10 : decode cX3_wipe 10 = .ok (.iload_n 2, 1) := by decide +kernel
theorem dX3_wipe_11 : decode cX3_wipe 11 = .ok (.iadd, 1) := by decide +kernel
theorem dX3_wipe_12 : decode cX3_wipe 12 = .ok (.iconst 1, 1) := by decide +kernel
theorem dX3_wipe_13 : decode cX3_wipe 13 = .ok (.isub, 1) := by decide +kernel
theorem dX3_wipe_14 : decode cX3_wipe 14 = .ok (.invokevirtual 28, 3) := by decide +kernel
theorem dX3_wipe_17 : decode cX3_wipe 17 = .ok (.ifCond .eq 6, 3) := by decide +kernel
theorem dX3_wipe_20 : decode cX3_wipe 20 = .ok (.bipush (-12), 2) := by decide +kernel
theorem dX3_wipe_22 : decode cX3_wipe 22 = .ok (.ireturn, 1) := by decide +kernel
theorem dX3_wipe_23 : decode cX3_wipe 23 = .ok (.iload_n 1, 1) := by decide +kernel
theorem dX3_wipe_24 : decode cX3_wipe 24 = .ok (.iload_n 2, 1) := by decide +kernel
theorem dX3_wipe_25 : decode cX3_wipe 25 = .ok (.iadd, 1) := by decide +kernel
theorem dX3_wipe_26 : decode cX3_wipe 26 = .ok (.aload_n 0, 1) := by decide +kernel
theorem dX3_wipe_27 : decode cX3_wipe 27 = .ok (.getfield 25, 3) := by decide +kernel
theorem dX3_wipe_30 : decode cX3_wipe 30 = .ok (.if_icmp .le 6, 3) := by decide +kernel
theorem dX3_wipe_33 : decode cX3_wipe 33 = .ok (.bipush (-13), 2) := by decide +kernel
theorem dX3_wipe_35 : decode cX3_wipe 35 = .ok (.ireturn, 1) := by decide +kernel
theorem dX3_wipe_36 : decode cX3_wipe 36 = .ok (.iconst 0, 1) := by decide +kernel
theorem dX3_wipe_37 : decode cX3_wipe 37 = .ok (.istore_n 3, 1) := by decide +kernel
theorem dX3_wipe_38 : decode cX3_wipe 38 = .ok (.iload_n 3, 1) := by decide +kernel
theorem dX3_wipe_39 : decode cX3_wipe 39 = .ok (.iload_n 2, 1) := by decide +kernel
theorem dX3_wipe_40 : decode cX3_wipe 40 = .ok (.if_icmp .ge 18, 3) := by decide +kernel
theorem dX3_wipe_43 : decode cX3_wipe 43 = .ok (.aload_n 0, 1) := by decide +kernel
theorem dX3_wipe_44 : decode cX3_wipe 44 = .ok (.getfield 9, 3) := by decide +kernel
theorem dX3_wipe_47 : decode cX3_wipe 47 = .ok (.iload_n 1, 1) := by decide +kernel
theorem dX3_wipe_48 : decode cX3_wipe 48 = .ok (.iload_n 3, 1) := by decide +kernel
theorem dX3_wipe_49 : decode cX3_wipe 49 = .ok (.iadd, 1) := by decide +kernel
theorem dX3_wipe_50 : decode cX3_wipe 50 = .ok (.iconst 0, 1) := by decide +kernel
theorem dX3_wipe_51 : decode cX3_wipe 51 = .ok (.iastore, 1) := by decide +kernel
theorem dX3_wipe_52 : decode cX3_wipe 52 = .ok (.iinc 3 1, 3) := by decide +kernel
theorem dX3_wipe_55 : decode cX3_wipe 55 = .ok (.goto (-17), 3) := by decide +kernel
theorem dX3_wipe_58 : decode cX3_wipe 58 = .ok (.iconst 1, 1) := by decide +kernel
theorem dX3_wipe_59 : decode cX3_wipe 59 = .ok (.ireturn, 1) := by decide +kernel
theorem dX3_copyAtOnce_0 : decode cX3_copyAtOnce 0 = .ok (.aload_n 0, 1) := by decide +kernel
theorem dX3_copyAtOnce_1 : decode cX3_copyAtOnce 1 = .ok (.iload_n 1, 1) := by decide +kernel
theorem dX3_copyAtOnce_2 : decode cX3_copyAtOnce 2 = .ok (.invokevirtual 28, 3) := by decide +kernel
theorem dX3_copyAtOnce_5 : decode cX3_copyAtOnce 5 = .ok (.ifCond .ne 35, 3) := by decide +kernel
theorem dX3_copyAtOnce_8 : decode cX3_copyAtOnce 8 = .ok (.aload_n 0, 1) := by decide +kernel
theorem dX3_copyAtOnce_9 : decode cX3_copyAtOnce 9 = .ok (.iload_n 1, 1) := by decide +kernel
theorem dX3_copyAtOnce_10 : decode cX3_copyAtOnce 10 = .ok (.iload_n 3, 1) := by decide +kernel
theorem dX3_copyAtOnce_11 : decode cX3_copyAtOnce 11 = .ok (.iadd, 1) := by decide +kernel
theorem dX3_copyAtOnce_12 : decode cX3_copyAtOnce 12 = .ok (.iconst 1, 1) := by decide +kernel
theorem dX3_copyAtOnce_13 : decode cX3_copyAtOnce 13 = .ok (.isub, 1) := by decide +kernel
theorem dX3_copyAtOnce_14 : decode cX3_copyAtOnce 14 = .ok (.invokevirtual 28, 3) := by decide +kernel
theorem dX3_copyAtOnce_17 : decode cX3_copyAtOnce 17 = .ok (.ifCond .ne 23, 3) := by decide +kernel
theorem dX3_copyAtOnce_20 : decode cX3_copyAtOnce 20 = .ok (.aload_n 0, 1) := by decide +kernel
theorem dX3_copyAtOnce_21 : decode cX3_copyAtOnce 21 = .ok (.iload_n 2, 1) := by decide +kernel
theorem dX3_copyAtOnce_22 : decode cX3_copyAtOnce 22 = .ok (.invokevirtual 28, 3) := by decide +kernel
theorem dX3_copyAtOnce_25 : decode cX3_copyAtOnce 25 = .ok (.ifCond .ne 15, 3) := by decide +kernel
theorem dX3_copyAtOnce_28 : decode cX3_copyAtOnce 28 = .ok (.aload_n 0, 1) := by decide +kernel
theorem dX3_copyAtOnce_29 : decode cX3_copyAtOnce 29 = .ok (.iload_n 2, 1) := by decide +kernel
theorem dX3_copyAtOnce_30 : decode cX3_copyAtOnce 30 = .ok (.iload_n 3, 1) := by decide +kernel
theorem dX3_copyAtOnce_31 : decode cX3_copyAtOnce 31 = .ok (.iadd, 1) := by decide +kernel
theorem dX3_copyAtOnce_32 : decode cX3_copyAtOnce 32 = .ok (.iconst 1, 1) := by decide +kernel
theorem dX3_copyAtOnce_33 : decode cX3_copyAtOnce 33 = .ok (.isub, 1) := by decide +kernel
theorem dX3_copyAtOnce_34 : decode cX3_copyAtOnce 34 = .ok (.invokevirtual 28, 3) := by decide +kernel
theorem dX3_copyAtOnce_37 : decode cX3_copyAtOnce 37 = .ok (.ifCond .eq 6, 3) := by decide +kernel
theorem dX3_copyAtOnce_40 : decode cX3_copyAtOnce 40 = .ok (.bipush (-12), 2) := by decide +kernel
theorem dX3_copyAtOnce_42 : decode cX3_copyAtOnce 42 = .ok (.ireturn, 1) := by decide +kernel
theorem dX3_copyAtOnce_43 : decode cX3_copyAtOnce 43 = .ok (.iload_n 2, 1) := by decide +kernel
theorem dX3_copyAtOnce_44 : decode cX3_copyAtOnce 44 = .ok (.iload_n 3, 1) := by decide +kernel
theorem dX3_copyAtOnce_45 : decode cX3_copyAtOnce 45 = .ok (.iadd, 1) := by decide +kernel
theorem dX3_copyAtOnce_46 : decode cX3_copyAtOnce 46 = .ok (.aload_n 0, 1) := by decide +kernel
theorem dX3_copyAtOnce_47 : decode cX3_copyAtOnce 47 = .ok (.getfield 25, 3) := by decide +kernel
theorem dX3_copyAtOnce_50 : decode cX3_copyAtOnce 50 = .ok (.if_icmp .le 6, 3) := by decide +kernel
theorem dX3_copyAtOnce_53 : decode cX3_copyAtOnce 53 = .ok (.bipush (-13), 2) := by decide +kernel
theorem dX3_copyAtOnce_55 : decode cX3_copyAtOnce 55 = .ok (.ireturn, 1) := by decide +kernel
theorem dX3_copyAtOnce_56 : decode cX3_copyAtOnce 56 = .ok (.aload_n 0, 1) := by decide +kernel
theorem dX3_copyAtOnce_57 : decode cX3_copyAtOnce 57 = .ok (.getfield 9, 3) := by decide +kernel
theorem dX3_copyAtOnce_60 : decode cX3_copyAtOnce 60 = .ok (.iload_n 1, 1) := by decide +kernel
theorem dX3_copyAtOnce_61 : decode cX3_copyAtOnce 61 = .ok (.aload_n 0, 1) := by decide +kernel
theorem dX3_copyAtOnce_62 : decode cX3_copyAtOnce 62 = .ok (.getfield 9, 3) := by decide +kernel
theorem dX3_copyAtOnce_65 : decode cX3_copyAtOnce 65 = .ok (.iload_n 2, 1) := by decide +kernel
theorem dX3_copyAtOnce_66 : decode cX3_copyAtOnce 66 = .ok (.iload_n 3, 1) := by decide +kernel
theorem dX3_copyAtOnce_67 : decode cX3_copyAtOnce 67 = .ok (.invokestatic 49, 3) := by decide +kernel
theorem dX3_copyAtOnce_70 : decode cX3_copyAtOnce 70 = .ok (.iconst 1, 1) := by decide +kernel
theorem dX3_copyAtOnce_71 : decode cX3_copyAtOnce 71 = .ok (.ireturn, 1) := by decide +kernel
theorem dX3_copyInTurn_0 : decode cX3_copyInTurn 0 = .ok (.iconst 0, 1) := by decide +kernel
theorem dX3_copyInTurn_1 : decode cX3_copyInTurn 1 = .ok (.istore 4, 2) := by decide +kernel
theorem dX3_copyInTurn_3 : decode cX3_copyInTurn 3 = .ok (.iload 4, 2) := by decide +kernel
theorem dX3_copyInTurn_5 : decode cX3_copyInTurn 5 = .ok (.iload_n 3, 1) := by decide +kernel
theorem dX3_copyInTurn_6 : decode cX3_copyInTurn 6 = .ok (.if_icmp .ge 48, 3) := by decide +kernel
theorem dX3_copyInTurn_9 : decode cX3_copyInTurn 9 = .ok (.aload_n 0, 1) := by decide +kernel
theorem dX3_copyInTurn_10 : decode cX3_copyInTurn 10 = .ok (.iload_n 1, 1) := by decide +kernel
theorem dX3_copyInTurn_11 : decode cX3_copyInTurn 11 = .ok (.iload 4, 2) := by decide +kernel
theorem dX3_copyInTurn_13 : decode cX3_copyInTurn 13 = .ok (.iadd, 1) := by decide +kernel
theorem dX3_copyInTurn_14 : decode cX3_copyInTurn 14 = .ok (.invokevirtual 55, 3) := by decide +kernel
theorem dX3_copyInTurn_17 : decode cX3_copyInTurn 17 = .ok (.istore 5, 2) := by decide +kernel
theorem dX3_copyInTurn_19 : decode cX3_copyInTurn 19 = .ok (.iload 5, 2) := by decide +kernel
theorem dX3_copyInTurn_21 : decode cX3_copyInTurn 21 = .ok (.ifCond .ge 6, 3) := by decide +kernel
theorem dX3_copyInTurn_24 : decode cX3_copyInTurn 24 = .ok (.iload 5, 2) := by decide +kernel
theorem dX3_copyInTurn_26 : decode cX3_copyInTurn 26 = .ok (.ireturn, 1) := by decide +kernel
theorem dX3_copyInTurn_27 : decode cX3_copyInTurn 27 = .ok (.aload_n 0, 1) := by decide +kernel
theorem dX3_copyInTurn_28 : decode cX3_copyInTurn 28 = .ok (.iload_n 2, 1) := by decide +kernel
theorem dX3_copyInTurn_29 : decode cX3_copyInTurn 29 = .ok (.iload 4, 2) := by decide +kernel
theorem dX3_copyInTurn_31 : decode cX3_copyInTurn 31 = .ok (.iadd, 1) := by decide +kernel
theorem dX3_copyInTurn_32 : decode cX3_copyInTurn 32 = .ok (.iload 5, 2) := by decide +kernel
theorem dX3_copyInTurn_34 : decode cX3_copyInTurn 34 = .ok (.iconst 0, 1) := by decide +kernel
theorem dX3_copyInTurn_35 : decode cX3_copyInTurn 35 = .ok (.invokevirtual 58, 3) := by decide +kernel
theorem dX3_copyInTurn_38 : decode cX3_copyInTurn 38 = .ok (.istore 6, 2) := by decide +kernel
theorem dX3_copyInTurn_40 : decode cX3_copyInTurn 40 = .ok (.iload 6, 2) := by decide +kernel
theorem dX3_copyInTurn_42 : decode cX3_copyInTurn 42 = .ok (.ifCond .ge 6, 3) := by decide +kernel
theorem dX3_copyInTurn_45 : decode cX3_copyInTurn 45 = .ok (.iload 6, 2) := by decide +kernel
theorem dX3_copyInTurn_47 : decode cX3_copyInTurn 47 = .ok (.ireturn, 1) := by decide +kernel
theorem dX3_copyInTurn_48 : decode cX3_copyInTurn 48 = .ok (.iinc 4 1, 3) := by decide +kernel
theorem dX3_copyInTurn_51 : decode cX3_copyInTurn 51 = .ok (.goto (-48), 3) := by decide +kernel
theorem dX3_copyInTurn_54 : decode cX3_copyInTurn 54 = .ok (.iconst 1, 1) := by decide +kernel
theorem dX3_copyInTurn_55 : decode cX3_copyInTurn 55 = .ok (.ireturn, 1) := by decide +kernel
theorem dX3_find_0 : decode cX3_find 0 = .ok (.iload 4, 2) := by decide +kernel
theorem dX3_find_2 : decode cX3_find 2 = .ok (.bipush 127, 2) := by decide +kernel
theorem dX3_find_4 : decode cX3_find 4 = .ok (.iand, 1) := by decide +kernel
theorem dX3_find_5 : decode cX3_find 5 = .ok (.istore 5, 2) := by decide +kernel
theorem dX3_find_7 : decode cX3_find 7 = .ok (.iload 5, 2) := by decide +kernel
theorem dX3_find_9 : decode cX3_find 9 = .ok (.ifCond .ne 11, 3) := by decide +kernel
theorem dX3_find_12 : decode cX3_find 12 = .ok (.iload_n 3, 1) := by decide +kernel
theorem dX3_find_13 : decode cX3_find 13 = .ok (.iconst 1, 1) := by decide +kernel
theorem dX3_find_14 : decode cX3_find 14 = .ok (.invokestatic 62, 3) := by decide +kernel
theorem dX3_find_17 : decode cX3_find 17 = .ok (.goto 4, 3) := by decide +kernel
theorem dX3_find_20 : decode cX3_find 20 = .ok (.iload_n 3, 1) := by decide +kernel
theorem dX3_find_21 : decode cX3_find 21 = .ok (.istore 6, 2) := by decide +kernel
theorem dX3_find_23 : decode cX3_find 23 = .ok (.iconst 0, 1) := by decide +kernel
theorem dX3_find_24 : decode cX3_find 24 = .ok (.istore 7, 2) := by decide +kernel
theorem dX3_find_26 : decode cX3_find 26 = .ok (.iload 7, 2) := by decide +kernel
theorem dX3_find_28 : decode cX3_find 28 = .ok (.iload 6, 2) := by decide +kernel
theorem dX3_find_30 : decode cX3_find 30 = .ok (.if_icmp .ge 59, 3) := by decide +kernel
theorem dX3_find_33 : decode cX3_find 33 = .ok (.iload_n 2, 1) := by decide +kernel
theorem dX3_find_34 : decode cX3_find 34 = .ok (.iload 7, 2) := by decide +kernel
theorem dX3_find_36 : decode cX3_find 36 = .ok (.iload 5, 2) := by decide +kernel
theorem dX3_find_38 : decode cX3_find 38 = .ok (.imul, 1) := by decide +kernel
theorem dX3_find_39 : decode cX3_find 39 = .ok (.iadd, 1) := by decide +kernel
theorem dX3_find_40 : decode cX3_find 40 = .ok (.istore 8, 2) := by decide +kernel
theorem dX3_find_42 : decode cX3_find 42 = .ok (.iload 4, 2) := by decide +kernel
theorem dX3_find_44 : decode cX3_find 44 = .ok (.bipush 127, 2) := by decide +kernel
theorem dX3_find_46 : decode cX3_find 46 = .ok (.if_icmp .le 12, 3) := by decide +kernel
theorem dX3_find_49 : decode cX3_find 49 = .ok (.aload_n 0, 1) := by decide +kernel
theorem dX3_find_50 : decode cX3_find 50 = .ok (.iload 8, 2) := by decide +kernel
theorem dX3_find_52 : decode cX3_find 52 = .ok (.invokevirtual 65, 3) := by decide +kernel
theorem dX3_find_55 : decode cX3_find 55 = .ok (.goto 9, 3) := by decide +kernel
theorem dX3_find_58 : decode cX3_find 58 = .ok (.aload_n 0, 1) := by decide +kernel
theorem dX3_find_59 : decode cX3_find 59 = .ok (.iload 8, 2) := by decide +kernel
theorem dX3_find_61 : decode cX3_find 61 = .ok (.invokevirtual 55, 3) := by decide +kernel
theorem dX3_find_64 : decode cX3_find 64 = .ok (.istore 9, 2) := by decide +kernel
theorem dX3_find_66 : decode cX3_find 66 = .ok (.iload 9, 2) := by decide +kernel
theorem dX3_find_68 : decode cX3_find 68 = .ok (.ifCond .ge 6, 3) := by decide +kernel
theorem dX3_find_71 : decode cX3_find 71 = .ok (.iload 9, 2) := by decide +kernel
theorem dX3_find_73 : decode cX3_find 73 = .ok (.ireturn, 1) := by decide +kernel
theorem dX3_find_74 : decode cX3_find 74 = .ok (.iload 9, 2) := by decide +kernel
theorem dX3_find_76 : decode cX3_find 76 = .ok (.iload_n 1, 1) := by decide +kernel
theorem dX3_find_77 : decode cX3_find 77 = .ok (.if_icmp .ne 6, 3) := by decide +kernel
theorem dX3_find_80 : decode cX3_find 80 = .ok (.iload 8, 2) := by decide +kernel
theorem dX3_find_82 : decode cX3_find 82 = .ok (.ireturn, 1) := by decide +kernel
theorem dX3_find_83 : decode cX3_find 83 = .ok (.iinc 7 1, 3) := by decide +kernel
theorem dX3_find_86 : decode cX3_find 86 = .ok (.goto (-60), 3) := by decide +kernel
theorem dX3_find_89 : decode cX3_find 89 = .ok (.iconst 0, 1) := by decide +kernel
theorem dX3_find_90 : decode cX3_find 90 = .ok (.ireturn, 1) := by decide +kernel
theorem dX4_init_0 : decode cX4_init 0 = .ok (.aload_n 0, 1) := by decide +kernel
theorem dX4_init_1 : decode cX4_init 1 = .ok (.invokespecial 3, 3) := by decide +kernel
theorem dX4_init_4 : decode cX4_init 4 = .ok (.aload_n 0, 1) := by decide +kernel
theorem dX4_init_5 : decode cX4_init 5 = .ok (.bipush 120, 2) := by decide +kernel
theorem dX4_init_7 : decode cX4_init 7 = .ok (.newarray .int, 2) := by decide +kernel
theorem dX4_init_9 : decode cX4_init 9 = .ok (.putfield 9, 3) := by decide +kernel
theorem dX4_init_12 : decode cX4_init 12 = .ok (.return_, 1) := by decide +kernel
theorem dX4_characterAt_0 : decode cX4_characterAt 0 = .ok (.iload_n 1, 1) := by decide +kernel
theorem dX4_characterAt_1 : decode cX4_characterAt 1 = .ok (.ifCond .lt 20, 3) := by decide +kernel
theorem dX4_characterAt_4 : decode cX4_characterAt 4 = .ok (.iload_n 1, 1) := by decide +kernel
theorem dX4_characterAt_5 : decode cX4_characterAt 5 = .ok (.aload_n 0, 1) := by decide +kernel
theorem dX4_characterAt_6 : decode cX4_characterAt 6 = .ok (.getfield 15, 3) := by decide +kernel
theorem dX4_characterAt_9 : decode cX4_characterAt 9 = .ok (.if_icmp .ge 12, 3) := by decide +kernel
theorem dX4_characterAt_12 : decode cX4_characterAt 12 = .ok (.aload_n 0, 1) := by decide +kernel
theorem dX4_characterAt_13 : decode cX4_characterAt 13 = .ok (.getfield 9, 3) := by decide +kernel
theorem dX4_characterAt_16 : decode cX4_characterAt 16 = .ok (.iload_n 1, 1) := by decide +kernel
theorem dX4_characterAt_17 : decode cX4_characterAt 17 = .ok (.iaload, 1) := by decide +kernel
theorem dX4_characterAt_18 : decode cX4_characterAt 18 = .ok (.goto 4, 3) := by decide +kernel
theorem dX4_characterAt_21 : decode cX4_characterAt 21 = .ok (.iconst (-1), 1) := by decide +kernel
theorem dX4_characterAt_22 : decode cX4_characterAt 22 = .ok (.ireturn, 1) := by decide +kernel
theorem dX4_print_0 : decode cX4_print 0 = .ok (.aload_n 0, 1) := by decide +kernel
theorem dX4_print_1 : decode cX4_print 1 = .ok (.getfield 15, 3) := by decide +kernel
theorem dX4_print_4 : decode cX4_print 4 = .ok (.bipush 120, 2) := by decide +kernel
theorem dX4_print_6 : decode cX4_print 6 = .ok (.if_icmp .lt 6, 3) := by decide +kernel
theorem dX4_print_9 : decode cX4_print 9 = .ok (.bipush (-21), 2) := by decide +kernel
theorem dX4_print_11 : decode cX4_print 11 = .ok (.ireturn, 1) := by decide +kernel
theorem dX4_print_12 : decode cX4_print 12 = .ok (.aload_n 0, 1) := by decide +kernel
theorem dX4_print_13 : decode cX4_print 13 = .ok (.getfield 9, 3) := by decide +kernel
theorem dX4_print_16 : decode cX4_print 16 = .ok (.aload_n 0, 1) := by decide +kernel
theorem dX4_print_17 : decode cX4_print 17 = .ok (.getfield 15, 3) := by decide +kernel
theorem dX4_print_20 : decode cX4_print 20 = .ok (.iload_n 1, 1) := by decide +kernel
theorem dX4_print_21 : decode cX4_print 21 = .ok (.sipush 255, 3) := by decide +kernel
theorem dX4_print_24 : decode cX4_print 24 = .ok (.iand, 1) := by decide +kernel
theorem dX4_print_25 : decode cX4_print 25 = .ok (.iastore, 1) := by decide +kernel
theorem dX4_print_26 : decode cX4_print 26 = .ok (.aload_n 0, 1) := by decide +kernel
theorem dX4_print_27 : decode cX4_print 27 = .ok (.dup, 1) := by decide +kernel
theorem dX4_print_28 : decode cX4_print 28 = .ok (.getfield 15, 3) := by decide +kernel
theorem dX4_print_31 : decode cX4_print 31 = .ok (.iconst 1, 1) := by decide +kernel
theorem dX4_print_32 : decode cX4_print 32 = .ok (.iadd, 1) := by decide +kernel
theorem dX4_print_33 : decode cX4_print 33 = .ok (.putfield 15, 3) := by decide +kernel
theorem dX4_print_36 : decode cX4_print 36 = .ok (.iconst 1, 1) := by decide +kernel
theorem dX4_print_37 : decode cX4_print 37 = .ok (.ireturn, 1) := by decide +kernel
theorem dX4_printNumber_0 : decode cX4_printNumber 0 = .ok (.iload_n 1, 1) := by decide +kernel
theorem dX4_printNumber_1 : decode cX4_printNumber 1 = .ok (.ifCond .ge 12, 3) := by decide +kernel
theorem dX4_printNumber_4 : decode cX4_printNumber 4 = .ok (.aload_n 0, 1) := by decide +kernel
theorem dX4_printNumber_5 : decode cX4_printNumber 5 = .ok (.bipush 45, 2) := by decide +kernel
theorem dX4_printNumber_7 : decode cX4_printNumber 7 = .ok (.invokevirtual 19, 3) := by decide +kernel
theorem dX4_printNumber_10 : decode cX4_printNumber 10 = .ok (.goto 4, 3) := by decide +kernel
theorem dX4_printNumber_13 : decode cX4_printNumber 13 = .ok (.iconst 1, 1) := by decide +kernel
theorem dX4_printNumber_14 : decode cX4_printNumber 14 = .ok (.istore_n 2, 1) := by decide +kernel
theorem dX4_printNumber_15 : decode cX4_printNumber 15 = .ok (.iload_n 1, 1) := by decide +kernel
theorem dX4_printNumber_16 : decode cX4_printNumber 16 = .ok (.invokestatic 23, 3) := by decide +kernel
theorem dX4_printNumber_19 : decode cX4_printNumber 19 = .ok (.istore_n 3, 1) := by decide +kernel
theorem dX4_printNumber_20 : decode cX4_printNumber 20 = .ok (.sipush 10000, 3) := by decide +kernel
theorem dX4_printNumber_23 : decode cX4_printNumber 23 = .ok (.istore 4, 2) := by decide +kernel
theorem dX4_printNumber_25 : decode cX4_printNumber 25 = .ok (.iload 4, 2) := by decide +kernel
theorem dX4_printNumber_27 : decode cX4_printNumber 27 = .ok (.ifCond .le 44, 3) := by decide +kernel
theorem dX4_printNumber_30 : decode cX4_printNumber 30 = .ok (.iload_n 2, 1) := by decide +kernel
theorem dX4_printNumber_31 : decode cX4_printNumber 31 = .ok (.ifCond .lt 40, 3) := by decide +kernel
theorem dX4_printNumber_34 : decode cX4_printNumber 34 = .ok (.iload_n 3, 1) := by decide +kernel
theorem dX4_printNumber_35 : decode cX4_printNumber 35 = .ok (.iload 4, 2) := by decide +kernel
theorem dX4_printNumber_37 : decode cX4_printNumber 37 = .ok (.if_icmp .ge 9, 3) := by decide +kernel
theorem dX4_printNumber_40 : decode cX4_printNumber 40 = .ok (.iload 4, 2) := by decide +kernel
theorem dX4_printNumber_42 : decode cX4_printNumber 42 = .ok (.iconst 1, 1) := by decide +kernel
theorem dX4_printNumber_43 : decode cX4_printNumber 43 = .ok (.if_icmp .ne 18, 3) := by decide +kernel
theorem dX4_printNumber_46 : decode cX4_printNumber 46 = .ok (.aload_n 0, 1) := by decide +kernel
theorem dX4_printNumber_47 : decode cX4_printNumber 47 = .ok (.bipush 48, 2) := by decide +kernel
theorem dX4_printNumber_49 : decode cX4_printNumber 49 = .ok (.iload_n 3, 1) := by decide +kernel
theorem dX4_printNumber_50 : decode cX4_printNumber 50 = .ok (.iload 4, 2) := by decide +kernel
theorem dX4_printNumber_52 : decode cX4_printNumber 52 = .ok (.idiv, 1) := by decide +kernel
theorem dX4_printNumber_53 : decode cX4_printNumber 53 = .ok (.bipush 10, 2) := by decide +kernel
theorem dX4_printNumber_55 : decode cX4_printNumber 55 = .ok (.irem, 1) := by decide +kernel
theorem dX4_printNumber_56 : decode cX4_printNumber 56 = .ok (.iadd, 1) := by decide +kernel
theorem dX4_printNumber_57 : decode cX4_printNumber 57 = .ok (.invokevirtual 19, 3) := by decide +kernel
theorem dX4_printNumber_60 : decode cX4_printNumber 60 = .ok (.istore_n 2, 1) := by decide +kernel
theorem dX4_printNumber_61 : decode cX4_printNumber 61 = .ok (.iload 4, 2) := by decide +kernel
theorem dX4_printNumber_63 : decode cX4_printNumber 63 = .ok (.bipush 10, 2) := by decide +kernel
theorem dX4_printNumber_65 : decode cX4_printNumber 65 = .ok (.idiv, 1) := by decide +kernel
theorem dX4_printNumber_66 : decode cX4_printNumber 66 = .ok (.istore 4, 2) := by decide +kernel
theorem dX4_printNumber_68 : decode cX4_printNumber 68 = .ok (.goto (-43), 3) := by decide +kernel
theorem dX4_printNumber_71 : decode cX4_printNumber 71 = .ok (.iload_n 2, 1) := by decide +kernel
theorem dX4_printNumber_72 : decode cX4_printNumber 72 = .ok (.ireturn, 1) := by decide +kernel
theorem dX5_init_0 : decode cX5_init 0 = .ok (.aload_n 0, 1) := by decide +kernel
theorem dX5_init_1 : decode cX5_init 1 = .ok (.invokespecial 3, 3) := by decide +kernel
theorem dX5_init_4 : decode cX5_init 4 = .ok (.aload_n 0, 1) := by decide +kernel
theorem dX5_init_5 : decode cX5_init 5 = .ok (.bipush 100, 2) := by decide +kernel
theorem dX5_init_7 : decode cX5_init 7 = .ok (.newarray .int, 2) := by decide +kernel
theorem dX5_init_9 : decode cX5_init 9 = .ok (.putfield 9, 3) := by decide +kernel
theorem dX5_init_12 : decode cX5_init 12 = .ok (.aload_n 0, 1) := by decide +kernel
theorem dX5_init_13 : decode cX5_init 13 = .ok (.sipush 300, 3) := by decide +kernel
theorem dX5_init_16 : decode cX5_init 16 = .ok (.newarray .int, 2) := by decide +kernel
theorem dX5_init_18 : decode cX5_init 18 = .ok (.putfield 15, 3) := by decide +kernel
theorem dX5_init_21 : decode cX5_init 21 = .ok (.aload_n 0, 1) := by decide +kernel
theorem dX5_init_22 : decode cX5_init 22 = .ok (.bipush 100, 2) := by decide +kernel
theorem dX5_init_24 : decode cX5_init 24 = .ok (.newarray .int, 2) := by decide +kernel
theorem dX5_init_26 : decode cX5_init 26 = .ok (.putfield 18, 3) := by decide +kernel
theorem dX5_init_29 : decode cX5_init 29 = .ok (.aload_n 0, 1) := by decide +kernel
theorem dX5_init_30 : decode cX5_init 30 = .ok (.bipush 8, 2) := by decide +kernel
theorem dX5_init_32 : decode cX5_init 32 = .ok (.newarray .boolean, 2) := by decide +kernel
theorem dX5_init_34 : decode cX5_init 34 = .ok (.putfield 21, 3) := by decide +kernel
theorem dX5_init_37 : decode cX5_init 37 = .ok (.aload_n 0, 1) := by decide +kernel
theorem dX5_init_38 : decode cX5_init 38 = .ok (.bipush 8, 2) := by decide +kernel
theorem dX5_init_40 : decode cX5_init 40 = .ok (.newarray .int, 2) := by decide +kernel
theorem dX5_init_42 : decode cX5_init 42 = .ok (.putfield 25, 3) := by decide +kernel
theorem dX5_init_45 : decode cX5_init 45 = .ok (.aload_n 0, 1) := by decide +kernel
theorem dX5_init_46 : decode cX5_init 46 = .ok (.bipush 8, 2) := by decide +kernel
theorem dX5_init_48 : decode cX5_init 48 = .ok (.newarray .int, 2) := by decide +kernel
theorem dX5_init_50 : decode cX5_init 50 = .ok (.putfield 28, 3) := by decide +kernel
theorem dX5_init_53 : decode cX5_init 53 = .ok (.aload_n 0, 1) := by decide +kernel
theorem dX5_init_54 : decode cX5_init 54 = .ok (.bipush 8, 2) := by decide +kernel
theorem dX5_init_56 : decode cX5_init 56 = .ok (.newarray .boolean, 2) := by decide +kernel
theorem dX5_init_58 : decode cX5_init 58 = .ok (.putfield 31, 3) := by decide +kernel
theorem dX5_init_61 : decode cX5_init 61 = .ok (.return_, 1) := by decide +kernel
theorem dX5_append_0 : decode cX5_append 0 = .ok (.aload_n 0, 1) := by decide +kernel
theorem dX5_append_1 : decode cX5_append 1 = .ok (.getfield 34, 3) := by decide +kernel
theorem dX5_append_4 : decode cX5_append 4 = .ok (.bipush 100, 2) := by decide +kernel
theorem dX5_append_6 : decode cX5_append 6 = .ok (.if_icmp .lt 6, 3) := by decide +kernel
theorem dX5_append_9 : decode cX5_append 9 = .ok (.bipush (-3), 2) := by decide +kernel
theorem dX5_append_11 : decode cX5_append 11 = .ok (.ireturn, 1) := by decide +kernel
theorem dX5_append_12 : decode cX5_append 12 = .ok (.aload_n 0, 1) := by decide +kernel
theorem dX5_append_13 : decode cX5_append 13 = .ok (.getfield 34, 3) := by decide +kernel
theorem dX5_append_16 : decode cX5_append 16 = .ok (.istore 6, 2) := by decide +kernel
theorem dX5_append_18 : decode cX5_append 18 = .ok (.aload_n 0, 1) := by decide +kernel
theorem dX5_append_19 : decode cX5_append 19 = .ok (.getfield 9, 3) := by decide +kernel
theorem dX5_append_22 : decode cX5_append 22 = .ok (.iload 6, 2) := by decide +kernel
theorem dX5_append_24 : decode cX5_append 24 = .ok (.iload_n 1, 1) := by decide +kernel
theorem dX5_append_25 : decode cX5_append 25 = .ok (.iastore, 1) := by decide +kernel
theorem dX5_append_26 : decode cX5_append 26 = .ok (.aload_n 0, 1) := by decide +kernel
theorem dX5_append_27 : decode cX5_append 27 = .ok (.getfield 15, 3) := by decide +kernel
theorem dX5_append_30 : decode cX5_append 30 = .ok (.iconst 3, 1) := by decide +kernel
theorem dX5_append_31 : decode cX5_append 31 = .ok (.iload 6, 2) := by decide +kernel
theorem dX5_append_33 : decode cX5_append 33 = .ok (.imul, 1) := by decide +kernel
theorem dX5_append_34 : decode cX5_append 34 = .ok (.iload_n 2, 1) := by decide +kernel
theorem dX5_append_35 : decode cX5_append 35 = .ok (.iastore, 1) := by decide +kernel
theorem dX5_append_36 : decode cX5_append 36 = .ok (.aload_n 0, 1) := by decide +kernel
theorem dX5_append_37 : decode cX5_append 37 = .ok (.getfield 15, 3) := by decide +kernel
theorem dX5_append_40 : decode cX5_append 40 = .ok (.iconst 3, 1) := by decide +kernel
theorem dX5_append_41 : decode cX5_append 41 = .ok (.iload 6, 2) := by decide +kernel
theorem dX5_append_43 : decode cX5_append 43 = .ok (.imul, 1) := by decide +kernel
theorem dX5_append_44 : decode cX5_append 44 = .ok (.iconst 1, 1) := by decide +kernel
theorem dX5_append_45 : decode cX5_append 45 = .ok (.iadd, 1) := by decide +kernel
theorem dX5_append_46 : decode cX5_append 46 = .ok (.iload_n 3, 1) := by decide +kernel
theorem dX5_append_47 : decode cX5_append 47 = .ok (.iastore, 1) := by decide +kernel
theorem dX5_append_48 : decode cX5_append 48 = .ok (.aload_n 0, 1) := by decide +kernel
theorem dX5_append_49 : decode cX5_append 49 = .ok (.getfield 15, 3) := by decide +kernel
theorem dX5_append_52 : decode cX5_append 52 = .ok (.iconst 3, 1) := by decide +kernel
theorem dX5_append_53 : decode cX5_append 53 = .ok (.iload 6, 2) := by decide +kernel
theorem dX5_append_55 : decode cX5_append 55 = .ok (.imul, 1) := by decide +kernel
theorem dX5_append_56 : decode cX5_append 56 = .ok (.iconst 2, 1) := by decide +kernel
theorem dX5_append_57 : decode cX5_append 57 = .ok (.iadd, 1) := by decide +kernel
theorem dX5_append_58 : decode cX5_append 58 = .ok (.iload 4, 2) := by decide +kernel
theorem dX5_append_60 : decode cX5_append 60 = .ok (.iastore, 1) := by decide +kernel
theorem dX5_append_61 : decode cX5_append 61 = .ok (.aload_n 0, 1) := by decide +kernel
theorem dX5_append_62 : decode cX5_append 62 = .ok (.getfield 18, 3) := by decide +kernel
theorem dX5_append_65 : decode cX5_append 65 = .ok (.iload 6, 2) := by decide +kernel
theorem dX5_append_67 : decode cX5_append 67 = .ok (.iload 5, 2) := by decide +kernel
theorem dX5_append_69 : decode cX5_append 69 = .ok (.iastore, 1) := by decide +kernel
theorem dX5_append_70 : decode cX5_append 70 = .ok (.aload_n 0, 1) := by decide +kernel
theorem dX5_append_71 : decode cX5_append 71 = .ok (.dup, 1) := by decide +kernel
theorem dX5_append_72 : decode cX5_append 72 = .ok (.getfield 34, 3) := by decide +kernel
theorem dX5_append_75 : decode cX5_append 75 = .ok (.iconst 1, 1) := by decide +kernel
theorem dX5_append_76 : decode cX5_append 76 = .ok (.iadd, 1) := by decide +kernel
theorem dX5_append_77 : decode cX5_append 77 = .ok (.putfield 34, 3) := by decide +kernel
theorem dX5_append_80 : decode cX5_append 80 = .ok (.iload 6, 2) := by decide +kernel
theorem dX5_append_82 : decode cX5_append 82 = .ok (.ireturn, 1) := by decide +kernel
theorem dX5_define_0 : decode cX5_define 0 = .ok (.aload_n 0, 1) := by decide +kernel
theorem dX5_define_1 : decode cX5_define 1 = .ok (.getfield 21, 3) := by decide +kernel
theorem dX5_define_4 : decode cX5_define 4 = .ok (.iload_n 1, 1) := by decide +kernel
theorem dX5_define_5 : decode cX5_define 5 = .ok (.iconst 1, 1) := by decide +kernel
theorem dX5_define_6 : decode cX5_define 6 = .ok (.bastore, 1) := by decide +kernel
theorem dX5_define_7 : decode cX5_define 7 = .ok (.aload_n 0, 1) := by decide +kernel
theorem dX5_define_8 : decode cX5_define 8 = .ok (.getfield 25, 3) := by decide +kernel
theorem dX5_define_11 : decode cX5_define 11 = .ok (.iload_n 1, 1) := by decide +kernel
theorem dX5_define_12 : decode cX5_define 12 = .ok (.iload_n 2, 1) := by decide +kernel
theorem dX5_define_13 : decode cX5_define 13 = .ok (.iastore, 1) := by decide +kernel
theorem dX5_define_14 : decode cX5_define 14 = .ok (.aload_n 0, 1) := by decide +kernel
theorem dX5_define_15 : decode cX5_define 15 = .ok (.getfield 28, 3) := by decide +kernel
theorem dX5_define_18 : decode cX5_define 18 = .ok (.iload_n 1, 1) := by decide +kernel
theorem dX5_define_19 : decode cX5_define 19 = .ok (.iload_n 3, 1) := by decide +kernel
theorem dX5_define_20 : decode cX5_define 20 = .ok (.iastore, 1) := by decide +kernel
theorem dX5_define_21 : decode cX5_define 21 = .ok (.aload_n 0, 1) := by decide +kernel
theorem dX5_define_22 : decode cX5_define 22 = .ok (.getfield 31, 3) := by decide +kernel
theorem dX5_define_25 : decode cX5_define 25 = .ok (.iload_n 1, 1) := by decide +kernel
theorem dX5_define_26 : decode cX5_define 26 = .ok (.iload 4, 2) := by decide +kernel
theorem dX5_define_28 : decode cX5_define 28 = .ok (.bastore, 1) := by decide +kernel
theorem dX5_define_29 : decode cX5_define 29 = .ok (.return_, 1) := by decide +kernel
theorem dX5_forget_0 : decode cX5_forget 0 = .ok (.aload_n 0, 1) := by decide +kernel
theorem dX5_forget_1 : decode cX5_forget 1 = .ok (.getfield 34, 3) := by decide +kernel
theorem dX5_forget_4 : decode cX5_forget 4 = .ok (.istore_n 1, 1) := by decide +kernel
theorem dX5_forget_5 : decode cX5_forget 5 = .ok (.aload_n 0, 1) := by decide +kernel
theorem dX5_forget_6 : decode cX5_forget 6 = .ok (.iconst 0, 1) := by decide +kernel
theorem dX5_forget_7 : decode cX5_forget 7 = .ok (.putfield 34, 3) := by decide +kernel
theorem dX5_forget_10 : decode cX5_forget 10 = .ok (.iconst 0, 1) := by decide +kernel
theorem dX5_forget_11 : decode cX5_forget 11 = .ok (.istore_n 2, 1) := by decide +kernel
theorem dX5_forget_12 : decode cX5_forget 12 = .ok (.iload_n 2, 1) := by decide +kernel
theorem dX5_forget_13 : decode cX5_forget 13 = .ok (.bipush 8, 2) := by decide +kernel
theorem dX5_forget_15 : decode cX5_forget 15 = .ok (.if_icmp .ge 16, 3) := by decide +kernel
theorem dX5_forget_18 : decode cX5_forget 18 = .ok (.aload_n 0, 1) := by decide +kernel
theorem dX5_forget_19 : decode cX5_forget 19 = .ok (.getfield 21, 3) := by decide +kernel
theorem dX5_forget_22 : decode cX5_forget 22 = .ok (.iload_n 2, 1) := by decide +kernel
theorem dX5_forget_23 : decode cX5_forget 23 = .ok (.iconst 0, 1) := by decide +kernel
theorem dX5_forget_24 : decode cX5_forget 24 = .ok (.bastore, 1) := by decide +kernel
theorem dX5_forget_25 : decode cX5_forget 25 = .ok (.iinc 2 1, 3) := by decide +kernel
theorem dX5_forget_28 : decode cX5_forget 28 = .ok (.goto (-16), 3) := by decide +kernel
theorem dX5_forget_31 : decode cX5_forget 31 = .ok (.iload_n 1, 1) := by decide +kernel
theorem dX5_forget_32 : decode cX5_forget 32 = .ok (.ireturn, 1) := by decide +kernel
theorem dX5_opAt_0 : decode cX5_opAt 0 = .ok (.iload_n 1, 1) := by decide +kernel
theorem dX5_opAt_1 : decode cX5_opAt 1 = .ok (.ifCond .lt 20, 3) := by decide +kernel
theorem dX5_opAt_4 : decode cX5_opAt 4 = .ok (.iload_n 1, 1) := by decide +kernel
theorem dX5_opAt_5 : decode cX5_opAt 5 = .ok (.aload_n 0, 1) := by decide +kernel
theorem dX5_opAt_6 : decode cX5_opAt 6 = .ok (.getfield 34, 3) := by decide +kernel
theorem dX5_opAt_9 : decode cX5_opAt 9 = .ok (.if_icmp .ge 12, 3) := by decide +kernel
theorem dX5_opAt_12 : decode cX5_opAt 12 = .ok (.aload_n 0, 1) := by decide +kernel
theorem dX5_opAt_13 : decode cX5_opAt 13 = .ok (.getfield 9, 3) := by decide +kernel
theorem dX5_opAt_16 : decode cX5_opAt 16 = .ok (.iload_n 1, 1) := by decide +kernel
theorem dX5_opAt_17 : decode cX5_opAt 17 = .ok (.iaload, 1) := by decide +kernel
theorem dX5_opAt_18 : decode cX5_opAt 18 = .ok (.goto 4, 3) := by decide +kernel
theorem dX5_opAt_21 : decode cX5_opAt 21 = .ok (.iconst (-1), 1) := by decide +kernel
theorem dX5_opAt_22 : decode cX5_opAt 22 = .ok (.ireturn, 1) := by decide +kernel
theorem dX5_hasRoutine_0 : decode cX5_hasRoutine 0 = .ok (.iload_n 1, 1) := by decide +kernel
theorem dX5_hasRoutine_1 : decode cX5_hasRoutine 1 = .ok (.bipush 7, 2) := by decide +kernel
theorem dX5_hasRoutine_3 : decode cX5_hasRoutine 3 = .ok (.invokestatic 38, 3) := by decide +kernel
theorem dX5_hasRoutine_6 : decode cX5_hasRoutine 6 = .ok (.ifCond .eq 16, 3) := by decide +kernel
theorem dX5_hasRoutine_9 : decode cX5_hasRoutine 9 = .ok (.aload_n 0, 1) := by decide +kernel
theorem dX5_hasRoutine_10 : decode cX5_hasRoutine 10 = .ok (.getfield 21, 3) := by decide +kernel
theorem dX5_hasRoutine_13 : decode cX5_hasRoutine 13 = .ok (.iload_n 1, 1) := by decide +kernel
theorem dX5_hasRoutine_14 : decode cX5_hasRoutine 14 = .ok (.baload, 1) := by decide +kernel
theorem dX5_hasRoutine_15 : decode cX5_hasRoutine 15 = .ok (.ifCond .eq 7, 3) := by decide +kernel
theorem dX5_hasRoutine_18 : decode cX5_hasRoutine 18 = .ok (.iconst 1, 1) := by decide +kernel
theorem dX5_hasRoutine_19 : decode cX5_hasRoutine 19 = .ok (.goto 4, 3) := by decide +kernel
theorem dX5_hasRoutine_22 : decode cX5_hasRoutine 22 = .ok (.iconst 0, 1) := by decide +kernel
theorem dX5_hasRoutine_23 : decode cX5_hasRoutine 23 = .ok (.ireturn, 1) := by decide +kernel
theorem dX6_init_0 : decode cX6_init 0 = .ok (.aload_n 0, 1) := by decide +kernel
theorem dX6_init_1 : decode cX6_init 1 = .ok (.invokespecial 3, 3) := by decide +kernel
theorem dX6_init_4 : decode cX6_init 4 = .ok (.aload_n 0, 1) := by decide +kernel
theorem dX6_init_5 : decode cX6_init 5 = .ok (.new 9, 3) := by decide +kernel
theorem dX6_init_8 : decode cX6_init 8 = .ok (.dup, 1) := by decide +kernel
theorem dX6_init_9 : decode cX6_init 9 = .ok (.invokespecial 11, 3) := by decide +kernel
theorem dX6_init_12 : decode cX6_init 12 = .ok (.putfield 12, 3) := by decide +kernel
theorem dX6_init_15 : decode cX6_init 15 = .ok (.aload_n 0, 1) := by decide +kernel
theorem dX6_init_16 : decode cX6_init 16 = .ok (.new 18, 3) := by decide +kernel
theorem dX6_init_19 : decode cX6_init 19 = .ok (.dup, 1) := by decide +kernel
theorem dX6_init_20 : decode cX6_init 20 = .ok (.invokespecial 20, 3) := by decide +kernel
theorem dX6_init_23 : decode cX6_init 23 = .ok (.putfield 21, 3) := by decide +kernel
theorem dX6_init_26 : decode cX6_init 26 = .ok (.aload_n 0, 1) := by decide +kernel
theorem dX6_init_27 : decode cX6_init 27 = .ok (.bipush 8, 2) := by decide +kernel
theorem dX6_init_29 : decode cX6_init 29 = .ok (.newarray .int, 2) := by decide +kernel
theorem dX6_init_31 : decode cX6_init 31 = .ok (.putfield 25, 3) := by decide +kernel
theorem dX6_init_34 : decode cX6_init 34 = .ok (.aload_n 0, 1) := by decide +kernel
theorem dX6_init_35 : decode cX6_init 35 = .ok (.iconst 3, 1) := by decide +kernel
theorem dX6_init_36 : decode cX6_init 36 = .ok (.newarray .int, 2) := by decide +kernel
theorem dX6_init_38 : decode cX6_init 38 = .ok (.putfield 29, 3) := by decide +kernel
theorem dX6_init_41 : decode cX6_init 41 = .ok (.aload_n 0, 1) := by decide +kernel
theorem dX6_init_42 : decode cX6_init 42 = .ok (.sipush 130, 3) := by decide +kernel
theorem dX6_init_45 : decode cX6_init 45 = .ok (.putfield 32, 3) := by decide +kernel
theorem dX6_init_48 : decode cX6_init 48 = .ok (.aload_n 0, 1) := by decide +kernel
theorem dX6_init_49 : decode cX6_init 49 = .ok (.aload_n 1, 1) := by decide +kernel
theorem dX6_init_50 : decode cX6_init 50 = .ok (.putfield 36, 3) := by decide +kernel
theorem dX6_init_53 : decode cX6_init 53 = .ok (.aload_n 0, 1) := by decide +kernel
theorem dX6_init_54 : decode cX6_init 54 = .ok (.aload_n 2, 1) := by decide +kernel
theorem dX6_init_55 : decode cX6_init 55 = .ok (.putfield 40, 3) := by decide +kernel
theorem dX6_init_58 : decode cX6_init 58 = .ok (.aload_n 0, 1) := by decide +kernel
theorem dX6_init_59 : decode cX6_init 59 = .ok (.aload_n 3, 1) := by decide +kernel
theorem dX6_init_60 : decode cX6_init 60 = .ok (.putfield 44, 3) := by decide +kernel
theorem dX6_init_63 : decode cX6_init 63 = .ok (.return_, 1) := by decide +kernel
theorem dX6_begin_0 : decode cX6_begin 0 = .ok (.aload_n 0, 1) := by decide +kernel
theorem dX6_begin_1 : decode cX6_begin 1 = .ok (.getfield 12, 3) := by decide +kernel
theorem dX6_begin_4 : decode cX6_begin 4 = .ok (.invokevirtual 48, 3) := by decide +kernel
theorem dX6_begin_7 : decode cX6_begin 7 = .ok (.aload_n 0, 1) := by decide +kernel
theorem dX6_begin_8 : decode cX6_begin 8 = .ok (.getfield 21, 3) := by decide +kernel
theorem dX6_begin_11 : decode cX6_begin 11 = .ok (.iconst 0, 1) := by decide +kernel
theorem dX6_begin_12 : decode cX6_begin 12 = .ok (.putfield 51, 3) := by decide +kernel
theorem dX6_begin_15 : decode cX6_begin 15 = .ok (.aload_n 0, 1) := by decide +kernel
theorem dX6_begin_16 : decode cX6_begin 16 = .ok (.getfield 25, 3) := by decide +kernel
theorem dX6_begin_19 : decode cX6_begin 19 = .ok (.iconst 0, 1) := by decide +kernel
theorem dX6_begin_20 : decode cX6_begin 20 = .ok (.invokestatic 54, 3) := by decide +kernel
theorem dX6_begin_23 : decode cX6_begin 23 = .ok (.aload_n 0, 1) := by decide +kernel
theorem dX6_begin_24 : decode cX6_begin 24 = .ok (.iconst (-1), 1) := by decide +kernel
theorem dX6_begin_25 : decode cX6_begin 25 = .ok (.putfield 60, 3) := by decide +kernel
theorem dX6_begin_28 : decode cX6_begin 28 = .ok (.aload_n 0, 1) := by decide +kernel
theorem dX6_begin_29 : decode cX6_begin 29 = .ok (.iconst 0, 1) := by decide +kernel
theorem dX6_begin_30 : decode cX6_begin 30 = .ok (.putfield 63, 3) := by decide +kernel
theorem dX6_begin_33 : decode cX6_begin 33 = .ok (.aload_n 0, 1) := by decide +kernel
theorem dX6_begin_34 : decode cX6_begin 34 = .ok (.iconst 0, 1) := by decide +kernel
theorem dX6_begin_35 : decode cX6_begin 35 = .ok (.putfield 66, 3) := by decide +kernel
theorem dX6_begin_38 : decode cX6_begin 38 = .ok (.aload_n 0, 1) := by decide +kernel
theorem dX6_begin_39 : decode cX6_begin 39 = .ok (.iconst 0, 1) := by decide +kernel
theorem dX6_begin_40 : decode cX6_begin 40 = .ok (.putfield 69, 3) := by decide +kernel
theorem dX6_begin_43 : decode cX6_begin 43 = .ok (.aload_n 0, 1) := by decide +kernel
theorem dX6_begin_44 : decode cX6_begin 44 = .ok (.iconst 0, 1) := by decide +kernel
theorem dX6_begin_45 : decode cX6_begin 45 = .ok (.putfield 72, 3) := by decide +kernel
theorem dX6_begin_48 : decode cX6_begin 48 = .ok (.aload_n 0, 1) := by decide +kernel
theorem dX6_begin_49 : decode cX6_begin 49 = .ok (.iconst 0, 1) := by decide +kernel
theorem dX6_begin_50 : decode cX6_begin 50 = .ok (.putfield 75, 3) := by decide +kernel
theorem dX6_begin_53 : decode cX6_begin 53 = .ok (.aload_n 0, 1) := by decide +kernel
theorem dX6_begin_54 : decode cX6_begin 54 = .ok (.iconst 0, 1) := by decide +kernel
theorem dX6_begin_55 : decode cX6_begin 55 = .ok (.putfield 78, 3) := by decide +kernel
theorem dX6_begin_58 : decode cX6_begin 58 = .ok (.aload_n 0, 1) := by decide +kernel
theorem dX6_begin_59 : decode cX6_begin 59 = .ok (.iload_n 1, 1) := by decide +kernel
theorem dX6_begin_60 : decode cX6_begin 60 = .ok (.iload_n 2, 1) := by decide +kernel
theorem dX6_begin_61 : decode cX6_begin 61 = .ok (.iload_n 3, 1) := by decide +kernel
theorem dX6_begin_62 : decode cX6_begin 62 = .ok (.iconst (-1), 1) := by decide +kernel
theorem dX6_begin_63 : decode cX6_begin 63 = .ok (.invokevirtual 81, 3) := by decide +kernel
theorem dX6_begin_66 : decode cX6_begin 66 = .ok (.pop, 1) := by decide +kernel
theorem dX6_begin_67 : decode cX6_begin 67 = .ok (.return_, 1) := by decide +kernel
theorem dX6_isGoing_0 : decode cX6_isGoing 0 = .ok (.aload_n 0, 1) := by decide +kernel
theorem dX6_isGoing_1 : decode cX6_isGoing 1 = .ok (.getfield 60, 3) := by decide +kernel
theorem dX6_isGoing_4 : decode cX6_isGoing 4 = .ok (.iconst (-1), 1) := by decide +kernel
theorem dX6_isGoing_5 : decode cX6_isGoing 5 = .ok (.if_icmp .ne 7, 3) := by decide +kernel
theorem dX6_isGoing_8 : decode cX6_isGoing 8 = .ok (.iconst 1, 1) := by decide +kernel
theorem dX6_isGoing_9 : decode cX6_isGoing 9 = .ok (.goto 4, 3) := by decide +kernel
theorem dX6_isGoing_12 : decode cX6_isGoing 12 = .ok (.iconst 0, 1) := by decide +kernel
theorem dX6_isGoing_13 : decode cX6_isGoing 13 = .ok (.ireturn, 1) := by decide +kernel
theorem dX6_finish_0 : decode cX6_finish 0 = .ok (.aload_n 0, 1) := by decide +kernel
theorem dX6_finish_1 : decode cX6_finish 1 = .ok (.getfield 60, 3) := by decide +kernel
theorem dX6_finish_4 : decode cX6_finish 4 = .ok (.iconst (-1), 1) := by decide +kernel
theorem dX6_finish_5 : decode cX6_finish 5 = .ok (.if_icmp .ne 8, 3) := by decide +kernel
theorem dX6_finish_8 : decode cX6_finish 8 = .ok (.aload_n 0, 1) := by decide +kernel
theorem dX6_finish_9 : decode cX6_finish 9 = .ok (.iconst 3, 1) := by decide +kernel
theorem dX6_finish_10 : decode cX6_finish 10 = .ok (.putfield 60, 3) := by decide +kernel
theorem dX6_finish_13 : decode cX6_finish 13 = .ok (.aload_n 0, 1) := by decide +kernel
theorem dX6_finish_14 : decode cX6_finish 14 = .ok (.iconst 0, 1) := by decide +kernel
theorem dX6_finish_15 : decode cX6_finish 15 = .ok (.invokevirtual 85, 3) := by decide +kernel
theorem dX6_finish_18 : decode cX6_finish 18 = .ok (.aload_n 0, 1) := by decide +kernel
theorem dX6_finish_19 : decode cX6_finish 19 = .ok (.getfield 60, 3) := by decide +kernel
theorem dX6_finish_22 : decode cX6_finish 22 = .ok (.ireturn, 1) := by decide +kernel
theorem dX6_step_0 : decode cX6_step 0 = .ok (.aload_n 0, 1) := by decide +kernel
theorem dX6_step_1 : decode cX6_step 1 = .ok (.dup, 1) := by decide +kernel
theorem dX6_step_2 : decode cX6_step 2 = .ok (.getfield 63, 3) := by decide +kernel
theorem dX6_step_5 : decode cX6_step 5 = .ok (.iconst 1, 1) := by decide +kernel
theorem dX6_step_6 : decode cX6_step 6 = .ok (.iadd, 1) := by decide +kernel
theorem dX6_step_7 : decode cX6_step 7 = .ok (.putfield 63, 3) := by decide +kernel
theorem dX6_step_10 : decode cX6_step 10 = .ok (.aload_n 0, 1) := by decide +kernel
theorem dX6_step_11 : decode cX6_step 11 = .ok (.iconst (-1), 1) := by decide +kernel
theorem dX6_step_12 : decode cX6_step 12 = .ok (.putfield 89, 3) := by decide +kernel
theorem dX6_step_15 : decode cX6_step 15 = .ok (.aload_n 0, 1) := by decide +kernel
theorem dX6_step_16 : decode cX6_step 16 = .ok (.getfield 12, 3) := by decide +kernel
theorem dX6_step_19 : decode cX6_step 19 = .ok (.invokevirtual 92, 3) := by decide +kernel
theorem dX6_step_22 : decode cX6_step 22 = .ok (.getfield 96, 3) := by decide +kernel
theorem dX6_step_25 : decode cX6_step 25 = .ok (.istore_n 1, 1) := by decide +kernel
theorem dX6_step_26 : decode cX6_step 26 = .ok (.aload_n 0, 1) := by decide +kernel
theorem dX6_step_27 : decode cX6_step 27 = .ok (.getfield 44, 3) := by decide +kernel
theorem dX6_step_30 : decode cX6_step 30 = .ok (.iload_n 1, 1) := by decide +kernel
theorem dX6_step_31 : decode cX6_step 31 = .ok (.invokevirtual 101, 3) := by decide +kernel
theorem dX6_step_34 : decode cX6_step 34 = .ok (.istore_n 2, 1) := by decide +kernel
theorem dX6_step_35 : decode cX6_step 35 = .ok (.iload_n 2, 1) := by decide +kernel
theorem dX6_step_36 : decode cX6_step 36 = .ok (.ifCond .lt 11, 3) := by decide +kernel
theorem dX6_step_39 : decode cX6_step 39 = .ok (.iload_n 2, 1) := by decide +kernel
theorem dX6_step_40 : decode cX6_step 40 = .ok (.getstatic 107, 3) := by decide +kernel
theorem dX6_step_43 : decode cX6_step 43 = .ok (.arraylength, 1) := by decide +kernel
theorem dX6_step_44 : decode cX6_step 44 = .ok (.if_icmp .lt 6, 3) := by decide +kernel
theorem dX6_step_47 : decode cX6_step 47 = .ok (.bipush (-20), 2) := by decide +kernel
theorem dX6_step_49 : decode cX6_step 49 = .ok (.ireturn, 1) := by decide +kernel
theorem dX6_step_50 : decode cX6_step 50 = .ok (.iconst 0, 1) := by decide +kernel
theorem dX6_step_51 : decode cX6_step 51 = .ok (.istore_n 3, 1) := by decide +kernel
theorem dX6_step_52 : decode cX6_step 52 = .ok (.iload_n 3, 1) := by decide +kernel
theorem dX6_step_53 : decode cX6_step 53 = .ok (.getstatic 107, 3) := by decide +kernel
theorem dX6_step_56 : decode cX6_step 56 = .ok (.iload_n 2, 1) := by decide +kernel
theorem dX6_step_57 : decode cX6_step 57 = .ok (.iaload, 1) := by decide +kernel
theorem dX6_step_58 : decode cX6_step 58 = .ok (.if_icmp .ge 60, 3) := by decide +kernel
theorem dX6_step_61 : decode cX6_step 61 = .ok (.aload_n 0, 1) := by decide +kernel
theorem dX6_step_62 : decode cX6_step 62 = .ok (.getfield 44, 3) := by decide +kernel
theorem dX6_step_65 : decode cX6_step 65 = .ok (.getfield 110, 3) := by decide +kernel
theorem dX6_step_68 : decode cX6_step 68 = .ok (.iconst 3, 1) := by decide +kernel
theorem dX6_step_69 : decode cX6_step 69 = .ok (.iload_n 1, 1) := by decide +kernel
theorem dX6_step_70 : decode cX6_step 70 = .ok (.imul, 1) := by decide +kernel
theorem dX6_step_71 : decode cX6_step 71 = .ok (.iload_n 3, 1) := by decide +kernel
theorem dX6_step_72 : decode cX6_step 72 = .ok (.iadd, 1) := by decide +kernel
theorem dX6_step_73 : decode cX6_step 73 = .ok (.iaload, 1) := by decide +kernel
theorem dX6_step_74 : decode cX6_step 74 = .ok (.istore 4, 2) := by decide +kernel
theorem dX6_step_76 : decode cX6_step 76 = .ok (.iload 4, 2) := by decide +kernel
theorem dX6_step_78 : decode cX6_step 78 = .ok (.ifCond .ge 14, 3) := by decide +kernel
theorem dX6_step_81 : decode cX6_step 81 = .ok (.aload_n 0, 1) := by decide +kernel
theorem dX6_step_82 : decode cX6_step 82 = .ok (.iconst (-1), 1) := by decide +kernel
theorem dX6_step_83 : decode cX6_step 83 = .ok (.iload 4, 2) := by decide +kernel
theorem dX6_step_85 : decode cX6_step 85 = .ok (.isub, 1) := by decide +kernel
theorem dX6_step_86 : decode cX6_step 86 = .ok (.invokevirtual 113, 3) := by decide +kernel
theorem dX6_step_89 : decode cX6_step 89 = .ok (.goto 5, 3) := by decide +kernel
theorem dX6_step_92 : decode cX6_step 92 = .ok (.iload 4, 2) := by decide +kernel
theorem dX6_step_94 : decode cX6_step 94 = .ok (.istore 5, 2) := by decide +kernel
theorem dX6_step_96 : decode cX6_step 96 = .ok (.iload 5, 2) := by decide +kernel
theorem dX6_step_98 : decode cX6_step 98 = .ok (.ifCond .ge 6, 3) := by decide +kernel
theorem dX6_step_101 : decode cX6_step 101 = .ok (.iload 5, 2) := by decide +kernel
theorem dX6_step_103 : decode cX6_step 103 = .ok (.ireturn, 1) := by decide +kernel
theorem dX6_step_104 : decode cX6_step 104 = .ok (.aload_n 0, 1) := by decide +kernel
theorem dX6_step_105 : decode cX6_step 105 = .ok (.getfield 29, 3) := by decide +kernel
theorem dX6_step_108 : decode cX6_step 108 = .ok (.iload_n 3, 1) := by decide +kernel
theorem dX6_step_109 : decode cX6_step 109 = .ok (.iload 5, 2) := by decide +kernel
theorem dX6_step_111 : decode cX6_step 111 = .ok (.iastore, 1) := by decide +kernel
theorem dX6_step_112 : decode cX6_step 112 = .ok (.iinc 3 1, 3) := by decide +kernel
theorem dX6_step_115 : decode cX6_step 115 = .ok (.goto (-63), 3) := by decide +kernel
theorem dX6_step_118 : decode cX6_step 118 = .ok (.aload_n 0, 1) := by decide +kernel
theorem dX6_step_119 : decode cX6_step 119 = .ok (.getfield 12, 3) := by decide +kernel
theorem dX6_step_122 : decode cX6_step 122 = .ok (.invokevirtual 92, 3) := by decide +kernel
theorem dX6_step_125 : decode cX6_step 125 = .ok (.iload_n 1, 1) := by decide +kernel
theorem dX6_step_126 : decode cX6_step 126 = .ok (.iconst 1, 1) := by decide +kernel
theorem dX6_step_127 : decode cX6_step 127 = .ok (.iadd, 1) := by decide +kernel
theorem dX6_step_128 : decode cX6_step 128 = .ok (.putfield 96, 3) := by decide +kernel
theorem dX6_step_131 : decode cX6_step 131 = .ok (.aload_n 0, 1) := by decide +kernel
theorem dX6_step_132 : decode cX6_step 132 = .ok (.iload_n 2, 1) := by decide +kernel
theorem dX6_step_133 : decode cX6_step 133 = .ok (.aload_n 0, 1) := by decide +kernel
theorem dX6_step_134 : decode cX6_step 134 = .ok (.getfield 44, 3) := by decide +kernel
theorem dX6_step_137 : decode cX6_step 137 = .ok (.getfield 116, 3) := by decide +kernel
theorem dX6_step_140 : decode cX6_step 140 = .ok (.iload_n 1, 1) := by decide +kernel
theorem dX6_step_141 : decode cX6_step 141 = .ok (.iaload, 1) := by decide +kernel
theorem dX6_step_142 : decode cX6_step 142 = .ok (.aload_n 0, 1) := by decide +kernel
theorem dX6_step_143 : decode cX6_step 143 = .ok (.getfield 29, 3) := by decide +kernel
theorem dX6_step_146 : decode cX6_step 146 = .ok (.iconst 0, 1) := by decide +kernel
theorem dX6_step_147 : decode cX6_step 147 = .ok (.iaload, 1) := by decide +kernel
theorem dX6_step_148 : decode cX6_step 148 = .ok (.aload_n 0, 1) := by decide +kernel
theorem dX6_step_149 : decode cX6_step 149 = .ok (.getfield 29, 3) := by decide +kernel
theorem dX6_step_152 : decode cX6_step 152 = .ok (.iconst 1, 1) := by decide +kernel
theorem dX6_step_153 : decode cX6_step 153 = .ok (.iaload, 1) := by decide +kernel
theorem dX6_step_154 : decode cX6_step 154 = .ok (.aload_n 0, 1) := by decide +kernel
theorem dX6_step_155 : decode cX6_step 155 = .ok (.getfield 29, 3) := by decide +kernel
theorem dX6_step_158 : decode cX6_step 158 = .ok (.iconst 2, 1) := by decide +kernel
theorem dX6_step_159 : decode cX6_step 159 = .ok (.iaload, 1) := by decide +kernel
theorem dX6_step_160 : decode cX6_step 160 = .ok (.invokevirtual 119, 3) := by decide +kernel
theorem dX6_step_163 : decode cX6_step 163 = .ok (.ireturn, 1) := by decide +kernel
theorem dX6_settle_0 : decode cX6_settle 0 = .ok (.aload_n 0, 1) := by decide +kernel
theorem dX6_settle_1 : decode cX6_settle 1 = .ok (.iload_n 1, 1) := by decide +kernel
theorem dX6_settle_2 : decode cX6_settle 2 = .ok (.invokevirtual 123, 3) := by decide +kernel
theorem dX6_settle_5 : decode cX6_settle 5 = .ok (.istore_n 2, 1) := by decide +kernel
theorem dX6_settle_6 : decode cX6_settle 6 = .ok (.iconst 0, 1) := by decide +kernel
theorem dX6_settle_7 : decode cX6_settle 7 = .ok (.istore_n 3, 1) := by decide +kernel
theorem dX6_settle_8 : decode cX6_settle 8 = .ok (.iload_n 3, 1) := by decide +kernel
theorem dX6_settle_9 : decode cX6_settle 9 = .ok (.bipush 12, 2) := by decide +kernel
theorem dX6_settle_11 : decode cX6_settle 11 = .ok (.if_icmp .ge 23, 3) := by decide +kernel
theorem dX6_settle_14 : decode cX6_settle 14 = .ok (.iload_n 2, 1) := by decide +kernel
theorem dX6_settle_15 : decode cX6_settle 15 = .ok (.ifCond .ge 19, 3) := by decide +kernel
theorem dX6_settle_18 : decode cX6_settle 18 = .ok (.aload_n 0, 1) := by decide +kernel
theorem dX6_settle_19 : decode cX6_settle 19 = .ok (.aload_n 0, 1) := by decide +kernel
theorem dX6_settle_20 : decode cX6_settle 20 = .ok (.iload_n 2, 1) := by decide +kernel
theorem dX6_settle_21 : decode cX6_settle 21 = .ok (.invokevirtual 126, 3) := by decide +kernel
theorem dX6_settle_24 : decode cX6_settle 24 = .ok (.invokevirtual 123, 3) := by decide +kernel
theorem dX6_settle_27 : decode cX6_settle 27 = .ok (.istore_n 2, 1) := by decide +kernel
theorem dX6_settle_28 : decode cX6_settle 28 = .ok (.iinc 3 1, 3) := by decide +kernel
theorem dX6_settle_31 : decode cX6_settle 31 = .ok (.goto (-23), 3) := by decide +kernel
theorem dX6_settle_34 : decode cX6_settle 34 = .ok (.return_, 1) := by decide +kernel
theorem dX6_keep_0 : decode cX6_keep 0 = .ok (.iload_n 1, 1) := by decide +kernel
theorem dX6_keep_1 : decode cX6_keep 1 = .ok (.ifCond .lt 11, 3) := by decide +kernel
theorem dX6_keep_4 : decode cX6_keep 4 = .ok (.aload_n 0, 1) := by decide +kernel
theorem dX6_keep_5 : decode cX6_keep 5 = .ok (.getfield 89, 3) := by decide +kernel
theorem dX6_keep_8 : decode cX6_keep 8 = .ok (.iconst (-1), 1) := by decide +kernel
theorem dX6_keep_9 : decode cX6_keep 9 = .ok (.if_icmp .ne 7, 3) := by decide +kernel
theorem dX6_keep_12 : decode cX6_keep 12 = .ok (.iload_n 1, 1) := by decide +kernel
theorem dX6_keep_13 : decode cX6_keep 13 = .ok (.goto 12, 3) := by decide +kernel
theorem dX6_keep_16 : decode cX6_keep 16 = .ok (.aload_n 0, 1) := by decide +kernel
theorem dX6_keep_17 : decode cX6_keep 17 = .ok (.aload_n 0, 1) := by decide +kernel
theorem dX6_keep_18 : decode cX6_keep 18 = .ok (.getfield 89, 3) := by decide +kernel
theorem dX6_keep_21 : decode cX6_keep 21 = .ok (.iload_n 1, 1) := by decide +kernel
theorem dX6_keep_22 : decode cX6_keep 22 = .ok (.invokevirtual 129, 3) := by decide +kernel
theorem dX6_keep_25 : decode cX6_keep 25 = .ok (.ireturn, 1) := by decide +kernel
theorem dX6_carryOut_0 : decode cX6_carryOut 0 = .ok (.iload_n 1, 1) := by decide +kernel
theorem dX6_carryOut_1 : decode cX6_carryOut 1 = .ok (.bipush 9, 2) := by decide +kernel
theorem dX6_carryOut_3 : decode cX6_carryOut 3 = .ok (.if_icmp .gt 22, 3) := by decide +kernel
theorem dX6_carryOut_6 : decode cX6_carryOut 6 = .ok (.aload_n 0, 1) := by decide +kernel
theorem dX6_carryOut_7 : decode cX6_carryOut 7 = .ok (.iload_n 2, 1) := by decide +kernel
theorem dX6_carryOut_8 : decode cX6_carryOut 8 = .ok (.iload_n 1, 1) := by decide +kernel
theorem dX6_carryOut_9 : decode cX6_carryOut 9 = .ok (.iload_n 3, 1) := by decide +kernel
theorem dX6_carryOut_10 : decode cX6_carryOut 10 = .ok (.invokestatic 133, 3) := by decide +kernel
theorem dX6_carryOut_13 : decode cX6_carryOut 13 = .ok (.iload 4, 2) := by decide +kernel
theorem dX6_carryOut_15 : decode cX6_carryOut 15 = .ok (.invokestatic 133, 3) := by decide +kernel
theorem dX6_carryOut_18 : decode cX6_carryOut 18 = .ok (.invokestatic 136, 3) := by decide +kernel
theorem dX6_carryOut_21 : decode cX6_carryOut 21 = .ok (.invokevirtual 140, 3) := by decide +kernel
theorem dX6_carryOut_24 : decode cX6_carryOut 24 = .ok (.ireturn, 1) := by decide +kernel
theorem dX6_carryOut_25 : decode cX6_carryOut 25 = .ok (.iload_n 1, 1) := by decide +kernel
theorem dX6_carryOut_26 : decode cX6_carryOut 26 = .ok (.tableswitch 448 10 32 #[106, 124, 148, 172, 179, 190, 201, 223, 243, 263, 281, 292, 298, 307, 324, 339, 347, 363, 388, 405, 417, 426, 442], 106) := by decide +kernel
theorem dX6_carryOut_132 : decode cX6_carryOut 132 = .ok (.aload_n 0, 1) := by decide +kernel
theorem dX6_carryOut_133 : decode cX6_carryOut 133 = .ok (.iload_n 3, 1) := by decide +kernel
theorem dX6_carryOut_134 : decode cX6_carryOut 134 = .ok (.iload 4, 2) := by decide +kernel
theorem dX6_carryOut_136 : decode cX6_carryOut 136 = .ok (.if_icmp .ne 7, 3) := by decide +kernel
theorem dX6_carryOut_139 : decode cX6_carryOut 139 = .ok (.iconst 1, 1) := by decide +kernel
theorem dX6_carryOut_140 : decode cX6_carryOut 140 = .ok (.goto 4, 3) := by decide +kernel
theorem dX6_carryOut_143 : decode cX6_carryOut 143 = .ok (.iconst 0, 1) := by decide +kernel
theorem dX6_carryOut_144 : decode cX6_carryOut 144 = .ok (.iload 5, 2) := by decide +kernel
theorem dX6_carryOut_146 : decode cX6_carryOut 146 = .ok (.invokevirtual 143, 3) := by decide +kernel
theorem dX6_carryOut_149 : decode cX6_carryOut 149 = .ok (.ireturn, 1) := by decide +kernel
theorem dX6_carryOut_150 : decode cX6_carryOut 150 = .ok (.aload_n 0, 1) := by decide +kernel
theorem dX6_carryOut_151 : decode cX6_carryOut 151 = .ok (.iload_n 3, 1) := by decide +kernel
theorem dX6_carryOut_152 : decode cX6_carryOut 152 = .ok (.invokestatic 133, 3) := by decide +kernel
theorem dX6_carryOut_155 : decode cX6_carryOut 155 = .ok (.iload 4, 2) := by decide +kernel
theorem dX6_carryOut_157 : decode cX6_carryOut 157 = .ok (.invokestatic 133, 3) := by decide +kernel
theorem dX6_carryOut_160 : decode cX6_carryOut 160 = .ok (.if_icmp .ge 7, 3) := by decide +kernel
theorem dX6_carryOut_163 : decode cX6_carryOut 163 = .ok (.iconst 1, 1) := by decide +kernel
theorem dX6_carryOut_164 : decode cX6_carryOut 164 = .ok (.goto 4, 3) := by decide +kernel
theorem dX6_carryOut_167 : decode cX6_carryOut 167 = .ok (.iconst 0, 1) := by decide +kernel
theorem dX6_carryOut_168 : decode cX6_carryOut 168 = .ok (.iload 5, 2) := by decide +kernel
theorem dX6_carryOut_170 : decode cX6_carryOut 170 = .ok (.invokevirtual 143, 3) := by decide +kernel
theorem dX6_carryOut_173 : decode cX6_carryOut 173 = .ok (.ireturn, 1) := by decide +kernel
theorem dX6_carryOut_174 : decode cX6_carryOut 174 = .ok (.aload_n 0, 1) := by decide +kernel
theorem dX6_carryOut_175 : decode cX6_carryOut 175 = .ok (.iload_n 3, 1) := by decide +kernel
theorem dX6_carryOut_176 : decode cX6_carryOut 176 = .ok (.invokestatic 133, 3) := by decide +kernel
theorem dX6_carryOut_179 : decode cX6_carryOut 179 = .ok (.iload 4, 2) := by decide +kernel
theorem dX6_carryOut_181 : decode cX6_carryOut 181 = .ok (.invokestatic 133, 3) := by decide +kernel
theorem dX6_carryOut_184 : decode cX6_carryOut 184 = .ok (.if_icmp .le 7, 3) := by decide +kernel
theorem dX6_carryOut_187 : decode cX6_carryOut 187 = .ok (.iconst 1, 1) := by decide +kernel
theorem dX6_carryOut_188 : decode cX6_carryOut 188 = .ok (.goto 4, 3) := by decide +kernel
theorem dX6_carryOut_191 : decode cX6_carryOut 191 = .ok (.iconst 0, 1) := by decide +kernel
theorem dX6_carryOut_192 : decode cX6_carryOut 192 = .ok (.iload 5, 2) := by decide +kernel
theorem dX6_carryOut_194 : decode cX6_carryOut 194 = .ok (.invokevirtual 143, 3) := by decide +kernel
theorem dX6_carryOut_197 : decode cX6_carryOut 197 = .ok (.ireturn, 1) := by decide +kernel
theorem dX6_carryOut_198 : decode cX6_carryOut 198 = .ok (.aload_n 0, 1) := by decide +kernel
theorem dX6_carryOut_199 : decode cX6_carryOut 199 = .ok (.iconst 1, 1) := by decide +kernel
theorem dX6_carryOut_200 : decode cX6_carryOut 200 = .ok (.iload_n 3, 1) := by decide +kernel
theorem dX6_carryOut_201 : decode cX6_carryOut 201 = .ok (.invokevirtual 143, 3) := by decide +kernel
theorem dX6_carryOut_204 : decode cX6_carryOut 204 = .ok (.ireturn, 1) := by decide +kernel
theorem dX6_carryOut_205 : decode cX6_carryOut 205 = .ok (.aload_n 0, 1) := by decide +kernel
theorem dX6_carryOut_206 : decode cX6_carryOut 206 = .ok (.iload_n 3, 1) := by decide +kernel
theorem dX6_carryOut_207 : decode cX6_carryOut 207 = .ok (.sipush 255, 3) := by decide +kernel
theorem dX6_carryOut_210 : decode cX6_carryOut 210 = .ok (.iand, 1) := by decide +kernel
theorem dX6_carryOut_211 : decode cX6_carryOut 211 = .ok (.iconst 1, 1) := by decide +kernel
theorem dX6_carryOut_212 : decode cX6_carryOut 212 = .ok (.invokevirtual 147, 3) := by decide +kernel
theorem dX6_carryOut_215 : decode cX6_carryOut 215 = .ok (.ireturn, 1) := by decide +kernel
theorem dX6_carryOut_216 : decode cX6_carryOut 216 = .ok (.aload_n 0, 1) := by decide +kernel
theorem dX6_carryOut_217 : decode cX6_carryOut 217 = .ok (.iload_n 3, 1) := by decide +kernel
theorem dX6_carryOut_218 : decode cX6_carryOut 218 = .ok (.sipush 255, 3) := by decide +kernel
theorem dX6_carryOut_221 : decode cX6_carryOut 221 = .ok (.iand, 1) := by decide +kernel
theorem dX6_carryOut_222 : decode cX6_carryOut 222 = .ok (.iconst (-1), 1) := by decide +kernel
theorem dX6_carryOut_223 : decode cX6_carryOut 223 = .ok (.invokevirtual 147, 3) := by decide +kernel
theorem dX6_carryOut_226 : decode cX6_carryOut 226 = .ok (.ireturn, 1) := by decide +kernel
theorem dX6_carryOut_227 : decode cX6_carryOut 227 = .ok (.aload_n 0, 1) := by decide +kernel
theorem dX6_carryOut_228 : decode cX6_carryOut 228 = .ok (.iload_n 2, 1) := by decide +kernel
theorem dX6_carryOut_229 : decode cX6_carryOut 229 = .ok (.aload_n 0, 1) := by decide +kernel
theorem dX6_carryOut_230 : decode cX6_carryOut 230 = .ok (.getfield 36, 3) := by decide +kernel
theorem dX6_carryOut_233 : decode cX6_carryOut 233 = .ok (.iload_n 3, 1) := by decide +kernel
theorem dX6_carryOut_234 : decode cX6_carryOut 234 = .ok (.iconst 2, 1) := by decide +kernel
theorem dX6_carryOut_235 : decode cX6_carryOut 235 = .ok (.iload 4, 2) := by decide +kernel
theorem dX6_carryOut_237 : decode cX6_carryOut 237 = .ok (.invokestatic 133, 3) := by decide +kernel
theorem dX6_carryOut_240 : decode cX6_carryOut 240 = .ok (.imul, 1) := by decide +kernel
theorem dX6_carryOut_241 : decode cX6_carryOut 241 = .ok (.iadd, 1) := by decide +kernel
theorem dX6_carryOut_242 : decode cX6_carryOut 242 = .ok (.invokevirtual 150, 3) := by decide +kernel
theorem dX6_carryOut_245 : decode cX6_carryOut 245 = .ok (.invokevirtual 140, 3) := by decide +kernel
theorem dX6_carryOut_248 : decode cX6_carryOut 248 = .ok (.ireturn, 1) := by decide +kernel
theorem dX6_carryOut_249 : decode cX6_carryOut 249 = .ok (.aload_n 0, 1) := by decide +kernel
theorem dX6_carryOut_250 : decode cX6_carryOut 250 = .ok (.iload_n 2, 1) := by decide +kernel
theorem dX6_carryOut_251 : decode cX6_carryOut 251 = .ok (.aload_n 0, 1) := by decide +kernel
theorem dX6_carryOut_252 : decode cX6_carryOut 252 = .ok (.getfield 36, 3) := by decide +kernel
theorem dX6_carryOut_255 : decode cX6_carryOut 255 = .ok (.iload_n 3, 1) := by decide +kernel
theorem dX6_carryOut_256 : decode cX6_carryOut 256 = .ok (.iload 4, 2) := by decide +kernel
theorem dX6_carryOut_258 : decode cX6_carryOut 258 = .ok (.invokestatic 133, 3) := by decide +kernel
theorem dX6_carryOut_261 : decode cX6_carryOut 261 = .ok (.iadd, 1) := by decide +kernel
theorem dX6_carryOut_262 : decode cX6_carryOut 262 = .ok (.invokevirtual 155, 3) := by decide +kernel
theorem dX6_carryOut_265 : decode cX6_carryOut 265 = .ok (.invokevirtual 140, 3) := by decide +kernel
theorem dX6_carryOut_268 : decode cX6_carryOut 268 = .ok (.ireturn, 1) := by decide +kernel
theorem dX6_carryOut_269 : decode cX6_carryOut 269 = .ok (.aload_n 0, 1) := by decide +kernel
theorem dX6_carryOut_270 : decode cX6_carryOut 270 = .ok (.getfield 36, 3) := by decide +kernel
theorem dX6_carryOut_273 : decode cX6_carryOut 273 = .ok (.iload_n 3, 1) := by decide +kernel
theorem dX6_carryOut_274 : decode cX6_carryOut 274 = .ok (.iconst 2, 1) := by decide +kernel
theorem dX6_carryOut_275 : decode cX6_carryOut 275 = .ok (.iload 4, 2) := by decide +kernel
theorem dX6_carryOut_277 : decode cX6_carryOut 277 = .ok (.invokestatic 133, 3) := by decide +kernel
theorem dX6_carryOut_280 : decode cX6_carryOut 280 = .ok (.imul, 1) := by decide +kernel
theorem dX6_carryOut_281 : decode cX6_carryOut 281 = .ok (.iadd, 1) := by decide +kernel
theorem dX6_carryOut_282 : decode cX6_carryOut 282 = .ok (.iload 5, 2) := by decide +kernel
theorem dX6_carryOut_284 : decode cX6_carryOut 284 = .ok (.iconst 0, 1) := by decide +kernel
theorem dX6_carryOut_285 : decode cX6_carryOut 285 = .ok (.invokevirtual 158, 3) := by decide +kernel
theorem dX6_carryOut_288 : decode cX6_carryOut 288 = .ok (.ireturn, 1) := by decide +kernel
theorem dX6_carryOut_289 : decode cX6_carryOut 289 = .ok (.aload_n 0, 1) := by decide +kernel
theorem dX6_carryOut_290 : decode cX6_carryOut 290 = .ok (.getfield 36, 3) := by decide +kernel
theorem dX6_carryOut_293 : decode cX6_carryOut 293 = .ok (.iload_n 3, 1) := by decide +kernel
theorem dX6_carryOut_294 : decode cX6_carryOut 294 = .ok (.iload 4, 2) := by decide +kernel
theorem dX6_carryOut_296 : decode cX6_carryOut 296 = .ok (.invokestatic 133, 3) := by decide +kernel
theorem dX6_carryOut_299 : decode cX6_carryOut 299 = .ok (.iadd, 1) := by decide +kernel
theorem dX6_carryOut_300 : decode cX6_carryOut 300 = .ok (.iload 5, 2) := by decide +kernel
theorem dX6_carryOut_302 : decode cX6_carryOut 302 = .ok (.iconst 0, 1) := by decide +kernel
theorem dX6_carryOut_303 : decode cX6_carryOut 303 = .ok (.invokevirtual 162, 3) := by decide +kernel
theorem dX6_carryOut_306 : decode cX6_carryOut 306 = .ok (.ireturn, 1) := by decide +kernel
theorem dX6_carryOut_307 : decode cX6_carryOut 307 = .ok (.aload_n 0, 1) := by decide +kernel
theorem dX6_carryOut_308 : decode cX6_carryOut 308 = .ok (.iload_n 3, 1) := by decide +kernel
theorem dX6_carryOut_309 : decode cX6_carryOut 309 = .ok (.iload 4, 2) := by decide +kernel
theorem dX6_carryOut_311 : decode cX6_carryOut 311 = .ok (.iload 5, 2) := by decide +kernel
theorem dX6_carryOut_313 : decode cX6_carryOut 313 = .ok (.iload_n 2, 1) := by decide +kernel
theorem dX6_carryOut_314 : decode cX6_carryOut 314 = .ok (.invokevirtual 81, 3) := by decide +kernel
theorem dX6_carryOut_317 : decode cX6_carryOut 317 = .ok (.ireturn, 1) := by decide +kernel
theorem dX6_carryOut_318 : decode cX6_carryOut 318 = .ok (.aload_n 0, 1) := by decide +kernel
theorem dX6_carryOut_319 : decode cX6_carryOut 319 = .ok (.iload_n 3, 1) := by decide +kernel
theorem dX6_carryOut_320 : decode cX6_carryOut 320 = .ok (.invokevirtual 165, 3) := by decide +kernel
theorem dX6_carryOut_323 : decode cX6_carryOut 323 = .ok (.ireturn, 1) := by decide +kernel
theorem dX6_carryOut_324 : decode cX6_carryOut 324 = .ok (.aload_n 0, 1) := by decide +kernel
theorem dX6_carryOut_325 : decode cX6_carryOut 325 = .ok (.getfield 12, 3) := by decide +kernel
theorem dX6_carryOut_328 : decode cX6_carryOut 328 = .ok (.iload_n 3, 1) := by decide +kernel
theorem dX6_carryOut_329 : decode cX6_carryOut 329 = .ok (.invokevirtual 168, 3) := by decide +kernel
theorem dX6_carryOut_332 : decode cX6_carryOut 332 = .ok (.ireturn, 1) := by decide +kernel
theorem dX6_carryOut_333 : decode cX6_carryOut 333 = .ok (.aload_n 0, 1) := by decide +kernel
theorem dX6_carryOut_334 : decode cX6_carryOut 334 = .ok (.iload_n 3, 1) := by decide +kernel
theorem dX6_carryOut_335 : decode cX6_carryOut 335 = .ok (.sipush 255, 3) := by decide +kernel
theorem dX6_carryOut_338 : decode cX6_carryOut 338 = .ok (.iand, 1) := by decide +kernel
theorem dX6_carryOut_339 : decode cX6_carryOut 339 = .ok (.aload_n 0, 1) := by decide +kernel
theorem dX6_carryOut_340 : decode cX6_carryOut 340 = .ok (.getfield 12, 3) := by decide +kernel
theorem dX6_carryOut_343 : decode cX6_carryOut 343 = .ok (.invokevirtual 171, 3) := by decide +kernel
theorem dX6_carryOut_346 : decode cX6_carryOut 346 = .ok (.invokevirtual 140, 3) := by decide +kernel
theorem dX6_carryOut_349 : decode cX6_carryOut 349 = .ok (.ireturn, 1) := by decide +kernel
theorem dX6_carryOut_350 : decode cX6_carryOut 350 = .ok (.aload_n 0, 1) := by decide +kernel
theorem dX6_carryOut_351 : decode cX6_carryOut 351 = .ok (.iload_n 2, 1) := by decide +kernel
theorem dX6_carryOut_352 : decode cX6_carryOut 352 = .ok (.aload_n 0, 1) := by decide +kernel
theorem dX6_carryOut_353 : decode cX6_carryOut 353 = .ok (.getfield 12, 3) := by decide +kernel
theorem dX6_carryOut_356 : decode cX6_carryOut 356 = .ok (.getfield 175, 3) := by decide +kernel
theorem dX6_carryOut_359 : decode cX6_carryOut 359 = .ok (.iconst 1, 1) := by decide +kernel
theorem dX6_carryOut_360 : decode cX6_carryOut 360 = .ok (.isub, 1) := by decide +kernel
theorem dX6_carryOut_361 : decode cX6_carryOut 361 = .ok (.invokevirtual 140, 3) := by decide +kernel
theorem dX6_carryOut_364 : decode cX6_carryOut 364 = .ok (.ireturn, 1) := by decide +kernel
theorem dX6_carryOut_365 : decode cX6_carryOut 365 = .ok (.aload_n 0, 1) := by decide +kernel
theorem dX6_carryOut_366 : decode cX6_carryOut 366 = .ok (.iload 4, 2) := by decide +kernel
theorem dX6_carryOut_368 : decode cX6_carryOut 368 = .ok (.iload_n 3, 1) := by decide +kernel
theorem dX6_carryOut_369 : decode cX6_carryOut 369 = .ok (.invokevirtual 178, 3) := by decide +kernel
theorem dX6_carryOut_372 : decode cX6_carryOut 372 = .ok (.ireturn, 1) := by decide +kernel
theorem dX6_carryOut_373 : decode cX6_carryOut 373 = .ok (.aload_n 0, 1) := by decide +kernel
theorem dX6_carryOut_374 : decode cX6_carryOut 374 = .ok (.getfield 36, 3) := by decide +kernel
theorem dX6_carryOut_377 : decode cX6_carryOut 377 = .ok (.iload_n 3, 1) := by decide +kernel
theorem dX6_carryOut_378 : decode cX6_carryOut 378 = .ok (.iload 4, 2) := by decide +kernel
theorem dX6_carryOut_380 : decode cX6_carryOut 380 = .ok (.iload 5, 2) := by decide +kernel
theorem dX6_carryOut_382 : decode cX6_carryOut 382 = .ok (.invokestatic 133, 3) := by decide +kernel
theorem dX6_carryOut_385 : decode cX6_carryOut 385 = .ok (.invokevirtual 181, 3) := by decide +kernel
theorem dX6_carryOut_388 : decode cX6_carryOut 388 = .ok (.ireturn, 1) := by decide +kernel
theorem dX6_carryOut_389 : decode cX6_carryOut 389 = .ok (.aload_n 0, 1) := by decide +kernel
theorem dX6_carryOut_390 : decode cX6_carryOut 390 = .ok (.iload_n 2, 1) := by decide +kernel
theorem dX6_carryOut_391 : decode cX6_carryOut 391 = .ok (.aload_n 0, 1) := by decide +kernel
theorem dX6_carryOut_392 : decode cX6_carryOut 392 = .ok (.getfield 36, 3) := by decide +kernel
theorem dX6_carryOut_395 : decode cX6_carryOut 395 = .ok (.iload_n 3, 1) := by decide +kernel
theorem dX6_carryOut_396 : decode cX6_carryOut 396 = .ok (.iload 4, 2) := by decide +kernel
theorem dX6_carryOut_398 : decode cX6_carryOut 398 = .ok (.iload 5, 2) := by decide +kernel
theorem dX6_carryOut_400 : decode cX6_carryOut 400 = .ok (.invokestatic 133, 3) := by decide +kernel
theorem dX6_carryOut_403 : decode cX6_carryOut 403 = .ok (.aload_n 0, 1) := by decide +kernel
theorem dX6_carryOut_404 : decode cX6_carryOut 404 = .ok (.getfield 32, 3) := by decide +kernel
theorem dX6_carryOut_407 : decode cX6_carryOut 407 = .ok (.invokevirtual 184, 3) := by decide +kernel
theorem dX6_carryOut_410 : decode cX6_carryOut 410 = .ok (.invokevirtual 140, 3) := by decide +kernel
theorem dX6_carryOut_413 : decode cX6_carryOut 413 = .ok (.ireturn, 1) := by decide +kernel
theorem dX6_carryOut_414 : decode cX6_carryOut 414 = .ok (.aload_n 0, 1) := by decide +kernel
theorem dX6_carryOut_415 : decode cX6_carryOut 415 = .ok (.iload_n 2, 1) := by decide +kernel
theorem dX6_carryOut_416 : decode cX6_carryOut 416 = .ok (.aload_n 0, 1) := by decide +kernel
theorem dX6_carryOut_417 : decode cX6_carryOut 417 = .ok (.getfield 40, 3) := by decide +kernel
theorem dX6_carryOut_420 : decode cX6_carryOut 420 = .ok (.iload_n 3, 1) := by decide +kernel
theorem dX6_carryOut_421 : decode cX6_carryOut 421 = .ok (.invokestatic 133, 3) := by decide +kernel
theorem dX6_carryOut_424 : decode cX6_carryOut 424 = .ok (.invokevirtual 187, 3) := by decide +kernel
theorem dX6_carryOut_427 : decode cX6_carryOut 427 = .ok (.invokevirtual 140, 3) := by decide +kernel
theorem dX6_carryOut_430 : decode cX6_carryOut 430 = .ok (.ireturn, 1) := by decide +kernel
theorem dX6_carryOut_431 : decode cX6_carryOut 431 = .ok (.aload_n 0, 1) := by decide +kernel
theorem dX6_carryOut_432 : decode cX6_carryOut 432 = .ok (.getfield 21, 3) := by decide +kernel
theorem dX6_carryOut_435 : decode cX6_carryOut 435 = .ok (.iload_n 3, 1) := by decide +kernel
theorem dX6_carryOut_436 : decode cX6_carryOut 436 = .ok (.invokestatic 133, 3) := by decide +kernel
theorem dX6_carryOut_439 : decode cX6_carryOut 439 = .ok (.invokevirtual 192, 3) := by decide +kernel
theorem dX6_carryOut_442 : decode cX6_carryOut 442 = .ok (.ireturn, 1) := by decide +kernel
theorem dX6_carryOut_443 : decode cX6_carryOut 443 = .ok (.aload_n 0, 1) := by decide +kernel
theorem dX6_carryOut_444 : decode cX6_carryOut 444 = .ok (.getfield 21, 3) := by decide +kernel
theorem dX6_carryOut_447 : decode cX6_carryOut 447 = .ok (.iload_n 3, 1) := by decide +kernel
theorem dX6_carryOut_448 : decode cX6_carryOut 448 = .ok (.invokevirtual 195, 3) := by decide +kernel
theorem dX6_carryOut_451 : decode cX6_carryOut 451 = .ok (.ireturn, 1) := by decide +kernel
theorem dX6_carryOut_452 : decode cX6_carryOut 452 = .ok (.aload_n 0, 1) := by decide +kernel
theorem dX6_carryOut_453 : decode cX6_carryOut 453 = .ok (.iload_n 3, 1) := by decide +kernel
theorem dX6_carryOut_454 : decode cX6_carryOut 454 = .ok (.iload 4, 2) := by decide +kernel
theorem dX6_carryOut_456 : decode cX6_carryOut 456 = .ok (.invokestatic 133, 3) := by decide +kernel
theorem dX6_carryOut_459 : decode cX6_carryOut 459 = .ok (.iload 5, 2) := by decide +kernel
theorem dX6_carryOut_461 : decode cX6_carryOut 461 = .ok (.invokestatic 133, 3) := by decide +kernel
theorem dX6_carryOut_464 : decode cX6_carryOut 464 = .ok (.invokevirtual 198, 3) := by decide +kernel
theorem dX6_carryOut_467 : decode cX6_carryOut 467 = .ok (.ireturn, 1) := by decide +kernel
theorem dX6_carryOut_468 : decode cX6_carryOut 468 = .ok (.aload_n 0, 1) := by decide +kernel
theorem dX6_carryOut_469 : decode cX6_carryOut 469 = .ok (.iconst 1, 1) := by decide +kernel
theorem dX6_carryOut_470 : decode cX6_carryOut 470 = .ok (.invokevirtual 201, 3) := by decide +kernel
theorem dX6_carryOut_473 : decode cX6_carryOut 473 = .ok (.ireturn, 1) := by decide +kernel
theorem dX6_carryOut_474 : decode cX6_carryOut 474 = .ok (.bipush (-20), 2) := by decide +kernel
theorem dX6_carryOut_476 : decode cX6_carryOut 476 = .ok (.ireturn, 1) := by decide +kernel
theorem dX6_tell_0 : decode cX6_tell 0 = .ok (.aload_n 0, 1) := by decide +kernel
theorem dX6_tell_1 : decode cX6_tell 1 = .ok (.iload_n 1, 1) := by decide +kernel
theorem dX6_tell_2 : decode cX6_tell 2 = .ok (.putfield 89, 3) := by decide +kernel
theorem dX6_tell_5 : decode cX6_tell 5 = .ok (.iload_n 2, 1) := by decide +kernel
theorem dX6_tell_6 : decode cX6_tell 6 = .ok (.ireturn, 1) := by decide +kernel
theorem dX6_end_0 : decode cX6_end 0 = .ok (.aload_n 0, 1) := by decide +kernel
theorem dX6_end_1 : decode cX6_end 1 = .ok (.iload_n 1, 1) := by decide +kernel
theorem dX6_end_2 : decode cX6_end 2 = .ok (.putfield 60, 3) := by decide +kernel
theorem dX6_end_5 : decode cX6_end 5 = .ok (.aload_n 0, 1) := by decide +kernel
theorem dX6_end_6 : decode cX6_end 6 = .ok (.iconst (-1), 1) := by decide +kernel
theorem dX6_end_7 : decode cX6_end 7 = .ok (.iconst 1, 1) := by decide +kernel
theorem dX6_end_8 : decode cX6_end 8 = .ok (.invokevirtual 140, 3) := by decide +kernel
theorem dX6_end_11 : decode cX6_end 11 = .ok (.ireturn, 1) := by decide +kernel
theorem dX6_goOnIf_0 : decode cX6_goOnIf 0 = .ok (.iload_n 1, 1) := by decide +kernel
theorem dX6_goOnIf_1 : decode cX6_goOnIf 1 = .ok (.ifCond .eq 14, 3) := by decide +kernel
theorem dX6_goOnIf_4 : decode cX6_goOnIf 4 = .ok (.aload_n 0, 1) := by decide +kernel
theorem dX6_goOnIf_5 : decode cX6_goOnIf 5 = .ok (.getfield 12, 3) := by decide +kernel
theorem dX6_goOnIf_8 : decode cX6_goOnIf 8 = .ok (.invokevirtual 92, 3) := by decide +kernel
theorem dX6_goOnIf_11 : decode cX6_goOnIf 11 = .ok (.iload_n 2, 1) := by decide +kernel
theorem dX6_goOnIf_12 : decode cX6_goOnIf 12 = .ok (.putfield 96, 3) := by decide +kernel
theorem dX6_goOnIf_15 : decode cX6_goOnIf 15 = .ok (.iconst 1, 1) := by decide +kernel
theorem dX6_goOnIf_16 : decode cX6_goOnIf 16 = .ok (.ireturn, 1) := by decide +kernel
theorem dX6_change_0 : decode cX6_change 0 = .ok (.aload_n 0, 1) := by decide +kernel
theorem dX6_change_1 : decode cX6_change 1 = .ok (.iload_n 1, 1) := by decide +kernel
theorem dX6_change_2 : decode cX6_change 2 = .ok (.invokevirtual 113, 3) := by decide +kernel
theorem dX6_change_5 : decode cX6_change 5 = .ok (.istore_n 3, 1) := by decide +kernel
theorem dX6_change_6 : decode cX6_change 6 = .ok (.iload_n 3, 1) := by decide +kernel
theorem dX6_change_7 : decode cX6_change 7 = .ok (.ifCond .ge 7, 3) := by decide +kernel
theorem dX6_change_10 : decode cX6_change 10 = .ok (.iload_n 3, 1) := by decide +kernel
theorem dX6_change_11 : decode cX6_change 11 = .ok (.goto 14, 3) := by decide +kernel
theorem dX6_change_14 : decode cX6_change 14 = .ok (.aload_n 0, 1) := by decide +kernel
theorem dX6_change_15 : decode cX6_change 15 = .ok (.iload_n 1, 1) := by decide +kernel
theorem dX6_change_16 : decode cX6_change 16 = .ok (.iload_n 3, 1) := by decide +kernel
theorem dX6_change_17 : decode cX6_change 17 = .ok (.iload_n 2, 1) := by decide +kernel
theorem dX6_change_18 : decode cX6_change 18 = .ok (.iadd, 1) := by decide +kernel
theorem dX6_change_19 : decode cX6_change 19 = .ok (.invokestatic 204, 3) := by decide +kernel
theorem dX6_change_22 : decode cX6_change 22 = .ok (.invokevirtual 140, 3) := by decide +kernel
theorem dX6_change_25 : decode cX6_change 25 = .ok (.ireturn, 1) := by decide +kernel
theorem dX6_ask_0 : decode cX6_ask 0 = .ok (.iload_n 1, 1) := by decide +kernel
theorem dX6_ask_1 : decode cX6_ask 1 = .ok (.ifCond .ne 11, 3) := by decide +kernel
theorem dX6_ask_4 : decode cX6_ask 4 = .ok (.aload_n 0, 1) := by decide +kernel
theorem dX6_ask_5 : decode cX6_ask 5 = .ok (.getfield 12, 3) := by decide +kernel
theorem dX6_ask_8 : decode cX6_ask 8 = .ok (.invokevirtual 171, 3) := by decide +kernel
theorem dX6_ask_11 : decode cX6_ask 11 = .ok (.ireturn, 1) := by decide +kernel
theorem dX6_ask_12 : decode cX6_ask 12 = .ok (.iload_n 1, 1) := by decide +kernel
theorem dX6_ask_13 : decode cX6_ask 13 = .ok (.bipush 16, 2) := by decide +kernel
theorem dX6_ask_15 : decode cX6_ask 15 = .ok (.if_icmp .ge 17, 3) := by decide +kernel
theorem dX6_ask_18 : decode cX6_ask 18 = .ok (.aload_n 0, 1) := by decide +kernel
theorem dX6_ask_19 : decode cX6_ask 19 = .ok (.getfield 12, 3) := by decide +kernel
theorem dX6_ask_22 : decode cX6_ask 22 = .ok (.invokevirtual 92, 3) := by decide +kernel
theorem dX6_ask_25 : decode cX6_ask 25 = .ok (.iload_n 1, 1) := by decide +kernel
theorem dX6_ask_26 : decode cX6_ask 26 = .ok (.invokevirtual 207, 3) := by decide +kernel
theorem dX6_ask_29 : decode cX6_ask 29 = .ok (.goto 15, 3) := by decide +kernel
theorem dX6_ask_32 : decode cX6_ask 32 = .ok (.aload_n 0, 1) := by decide +kernel
theorem dX6_ask_33 : decode cX6_ask 33 = .ok (.getfield 36, 3) := by decide +kernel
theorem dX6_ask_36 : decode cX6_ask 36 = .ok (.aload_n 0, 1) := by decide +kernel
theorem dX6_ask_37 : decode cX6_ask 37 = .ok (.iload_n 1, 1) := by decide +kernel
theorem dX6_ask_38 : decode cX6_ask 38 = .ok (.invokevirtual 210, 3) := by decide +kernel
theorem dX6_ask_41 : decode cX6_ask 41 = .ok (.invokevirtual 150, 3) := by decide +kernel
theorem dX6_ask_44 : decode cX6_ask 44 = .ok (.ireturn, 1) := by decide +kernel
theorem dX6_set_0 : decode cX6_set 0 = .ok (.iload_n 1, 1) := by decide +kernel
theorem dX6_set_1 : decode cX6_set 1 = .ok (.ifCond .ne 12, 3) := by decide +kernel
theorem dX6_set_4 : decode cX6_set 4 = .ok (.aload_n 0, 1) := by decide +kernel
theorem dX6_set_5 : decode cX6_set 5 = .ok (.getfield 12, 3) := by decide +kernel
theorem dX6_set_8 : decode cX6_set 8 = .ok (.iload_n 2, 1) := by decide +kernel
theorem dX6_set_9 : decode cX6_set 9 = .ok (.invokevirtual 168, 3) := by decide +kernel
theorem dX6_set_12 : decode cX6_set 12 = .ok (.ireturn, 1) := by decide +kernel
theorem dX6_set_13 : decode cX6_set 13 = .ok (.iload_n 1, 1) := by decide +kernel
theorem dX6_set_14 : decode cX6_set 14 = .ok (.bipush 16, 2) := by decide +kernel
theorem dX6_set_16 : decode cX6_set 16 = .ok (.if_icmp .ge 16, 3) := by decide +kernel
theorem dX6_set_19 : decode cX6_set 19 = .ok (.aload_n 0, 1) := by decide +kernel
theorem dX6_set_20 : decode cX6_set 20 = .ok (.getfield 12, 3) := by decide +kernel
theorem dX6_set_23 : decode cX6_set 23 = .ok (.invokevirtual 92, 3) := by decide +kernel
theorem dX6_set_26 : decode cX6_set 26 = .ok (.iload_n 1, 1) := by decide +kernel
theorem dX6_set_27 : decode cX6_set 27 = .ok (.iload_n 2, 1) := by decide +kernel
theorem dX6_set_28 : decode cX6_set 28 = .ok (.invokevirtual 213, 3) := by decide +kernel
theorem dX6_set_31 : decode cX6_set 31 = .ok (.ireturn, 1) := by decide +kernel
theorem dX6_set_32 : decode cX6_set 32 = .ok (.aload_n 0, 1) := by decide +kernel
theorem dX6_set_33 : decode cX6_set 33 = .ok (.getfield 36, 3) := by decide +kernel
theorem dX6_set_36 : decode cX6_set 36 = .ok (.aload_n 0, 1) := by decide +kernel
theorem dX6_set_37 : decode cX6_set 37 = .ok (.iload_n 1, 1) := by decide +kernel
theorem dX6_set_38 : decode cX6_set 38 = .ok (.invokevirtual 210, 3) := by decide +kernel
theorem dX6_set_41 : decode cX6_set 41 = .ok (.iload_n 2, 1) := by decide +kernel
theorem dX6_set_42 : decode cX6_set 42 = .ok (.iconst 0, 1) := by decide +kernel
theorem dX6_set_43 : decode cX6_set 43 = .ok (.invokevirtual 158, 3) := by decide +kernel
theorem dX6_set_46 : decode cX6_set 46 = .ok (.ireturn, 1) := by decide +kernel
theorem dX6_placeOfGlobal_0 : decode cX6_placeOfGlobal 0 = .ok (.aload_n 0, 1) := by decide +kernel
theorem dX6_placeOfGlobal_1 : decode cX6_placeOfGlobal 1 = .ok (.getfield 216, 3) := by decide +kernel
theorem dX6_placeOfGlobal_4 : decode cX6_placeOfGlobal 4 = .ok (.iconst 2, 1) := by decide +kernel
theorem dX6_placeOfGlobal_5 : decode cX6_placeOfGlobal 5 = .ok (.iload_n 1, 1) := by decide +kernel
theorem dX6_placeOfGlobal_6 : decode cX6_placeOfGlobal 6 = .ok (.bipush 16, 2) := by decide +kernel
theorem dX6_placeOfGlobal_8 : decode cX6_placeOfGlobal 8 = .ok (.isub, 1) := by decide +kernel
theorem dX6_placeOfGlobal_9 : decode cX6_placeOfGlobal 9 = .ok (.imul, 1) := by decide +kernel
theorem dX6_placeOfGlobal_10 : decode cX6_placeOfGlobal 10 = .ok (.iadd, 1) := by decide +kernel
theorem dX6_placeOfGlobal_11 : decode cX6_placeOfGlobal 11 = .ok (.ireturn, 1) := by decide +kernel
theorem dX6_enter_0 : decode cX6_enter 0 = .ok (.aload_n 0, 1) := by decide +kernel
theorem dX6_enter_1 : decode cX6_enter 1 = .ok (.getfield 44, 3) := by decide +kernel
theorem dX6_enter_4 : decode cX6_enter 4 = .ok (.iload_n 1, 1) := by decide +kernel
theorem dX6_enter_5 : decode cX6_enter 5 = .ok (.invokevirtual 219, 3) := by decide +kernel
theorem dX6_enter_8 : decode cX6_enter 8 = .ok (.ifCond .ne 6, 3) := by decide +kernel
theorem dX6_enter_11 : decode cX6_enter 11 = .ok (.bipush (-19), 2) := by decide +kernel
theorem dX6_enter_13 : decode cX6_enter 13 = .ok (.ireturn, 1) := by decide +kernel
theorem dX6_enter_14 : decode cX6_enter 14 = .ok (.aload_n 0, 1) := by decide +kernel
theorem dX6_enter_15 : decode cX6_enter 15 = .ok (.getfield 12, 3) := by decide +kernel
theorem dX6_enter_18 : decode cX6_enter 18 = .ok (.invokevirtual 223, 3) := by decide +kernel
theorem dX6_enter_21 : decode cX6_enter 21 = .ok (.astore 5, 2) := by decide +kernel
theorem dX6_enter_23 : decode cX6_enter 23 = .ok (.aload 5, 2) := by decide +kernel
theorem dX6_enter_25 : decode cX6_enter 25 = .ok (.ifnonnull 6, 3) := by decide +kernel
theorem dX6_enter_28 : decode cX6_enter 28 = .ok (.bipush (-16), 2) := by decide +kernel
theorem dX6_enter_30 : decode cX6_enter 30 = .ok (.ireturn, 1) := by decide +kernel
theorem dX6_enter_31 : decode cX6_enter 31 = .ok (.aload 5, 2) := by decide +kernel
theorem dX6_enter_33 : decode cX6_enter 33 = .ok (.iload_n 1, 1) := by decide +kernel
theorem dX6_enter_34 : decode cX6_enter 34 = .ok (.putfield 225, 3) := by decide +kernel
theorem dX6_enter_37 : decode cX6_enter 37 = .ok (.aload 5, 2) := by decide +kernel
theorem dX6_enter_39 : decode cX6_enter 39 = .ok (.aload_n 0, 1) := by decide +kernel
theorem dX6_enter_40 : decode cX6_enter 40 = .ok (.getfield 44, 3) := by decide +kernel
theorem dX6_enter_43 : decode cX6_enter 43 = .ok (.getfield 228, 3) := by decide +kernel
theorem dX6_enter_46 : decode cX6_enter 46 = .ok (.iload_n 1, 1) := by decide +kernel
theorem dX6_enter_47 : decode cX6_enter 47 = .ok (.iaload, 1) := by decide +kernel
theorem dX6_enter_48 : decode cX6_enter 48 = .ok (.putfield 96, 3) := by decide +kernel
theorem dX6_enter_51 : decode cX6_enter 51 = .ok (.aload 5, 2) := by decide +kernel
theorem dX6_enter_53 : decode cX6_enter 53 = .ok (.aload_n 0, 1) := by decide +kernel
theorem dX6_enter_54 : decode cX6_enter 54 = .ok (.getfield 44, 3) := by decide +kernel
theorem dX6_enter_57 : decode cX6_enter 57 = .ok (.getfield 231, 3) := by decide +kernel
theorem dX6_enter_60 : decode cX6_enter 60 = .ok (.iload_n 1, 1) := by decide +kernel
theorem dX6_enter_61 : decode cX6_enter 61 = .ok (.iaload, 1) := by decide +kernel
theorem dX6_enter_62 : decode cX6_enter 62 = .ok (.putfield 234, 3) := by decide +kernel
theorem dX6_enter_65 : decode cX6_enter 65 = .ok (.aload 5, 2) := by decide +kernel
theorem dX6_enter_67 : decode cX6_enter 67 = .ok (.iload 4, 2) := by decide +kernel
theorem dX6_enter_69 : decode cX6_enter 69 = .ok (.putfield 237, 3) := by decide +kernel
theorem dX6_enter_72 : decode cX6_enter 72 = .ok (.aload 5, 2) := by decide +kernel
theorem dX6_enter_74 : decode cX6_enter 74 = .ok (.iconst 1, 1) := by decide +kernel
theorem dX6_enter_75 : decode cX6_enter 75 = .ok (.iload_n 2, 1) := by decide +kernel
theorem dX6_enter_76 : decode cX6_enter 76 = .ok (.invokevirtual 213, 3) := by decide +kernel
theorem dX6_enter_79 : decode cX6_enter 79 = .ok (.pop, 1) := by decide +kernel
theorem dX6_enter_80 : decode cX6_enter 80 = .ok (.aload 5, 2) := by decide +kernel
theorem dX6_enter_82 : decode cX6_enter 82 = .ok (.iconst 2, 1) := by decide +kernel
theorem dX6_enter_83 : decode cX6_enter 83 = .ok (.iload_n 3, 1) := by decide +kernel
theorem dX6_enter_84 : decode cX6_enter 84 = .ok (.invokevirtual 213, 3) := by decide +kernel
theorem dX6_enter_87 : decode cX6_enter 87 = .ok (.pop, 1) := by decide +kernel
theorem dX6_enter_88 : decode cX6_enter 88 = .ok (.iconst 1, 1) := by decide +kernel
theorem dX6_enter_89 : decode cX6_enter 89 = .ok (.ireturn, 1) := by decide +kernel
theorem dX6_giveBack_0 : decode cX6_giveBack 0 = .ok (.aload_n 0, 1) := by decide +kernel
theorem dX6_giveBack_1 : decode cX6_giveBack 1 = .ok (.getfield 12, 3) := by decide +kernel
theorem dX6_giveBack_4 : decode cX6_giveBack 4 = .ok (.invokevirtual 92, 3) := by decide +kernel
theorem dX6_giveBack_7 : decode cX6_giveBack 7 = .ok (.getfield 237, 3) := by decide +kernel
theorem dX6_giveBack_10 : decode cX6_giveBack 10 = .ok (.istore_n 2, 1) := by decide +kernel
theorem dX6_giveBack_11 : decode cX6_giveBack 11 = .ok (.aload_n 0, 1) := by decide +kernel
theorem dX6_giveBack_12 : decode cX6_giveBack 12 = .ok (.aload_n 0, 1) := by decide +kernel
theorem dX6_giveBack_13 : decode cX6_giveBack 13 = .ok (.getfield 12, 3) := by decide +kernel
theorem dX6_giveBack_16 : decode cX6_giveBack 16 = .ok (.getfield 175, 3) := by decide +kernel
theorem dX6_giveBack_19 : decode cX6_giveBack 19 = .ok (.iconst 1, 1) := by decide +kernel
theorem dX6_giveBack_20 : decode cX6_giveBack 20 = .ok (.isub, 1) := by decide +kernel
theorem dX6_giveBack_21 : decode cX6_giveBack 21 = .ok (.invokevirtual 85, 3) := by decide +kernel
theorem dX6_giveBack_24 : decode cX6_giveBack 24 = .ok (.aload_n 0, 1) := by decide +kernel
theorem dX6_giveBack_25 : decode cX6_giveBack 25 = .ok (.getfield 12, 3) := by decide +kernel
theorem dX6_giveBack_28 : decode cX6_giveBack 28 = .ok (.getfield 175, 3) := by decide +kernel
theorem dX6_giveBack_31 : decode cX6_giveBack 31 = .ok (.ifCond .ne 14, 3) := by decide +kernel
theorem dX6_giveBack_34 : decode cX6_giveBack 34 = .ok (.aload_n 0, 1) := by decide +kernel
theorem dX6_giveBack_35 : decode cX6_giveBack 35 = .ok (.iload_n 1, 1) := by decide +kernel
theorem dX6_giveBack_36 : decode cX6_giveBack 36 = .ok (.putfield 69, 3) := by decide +kernel
theorem dX6_giveBack_39 : decode cX6_giveBack 39 = .ok (.aload_n 0, 1) := by decide +kernel
theorem dX6_giveBack_40 : decode cX6_giveBack 40 = .ok (.iconst 0, 1) := by decide +kernel
theorem dX6_giveBack_41 : decode cX6_giveBack 41 = .ok (.invokevirtual 201, 3) := by decide +kernel
theorem dX6_giveBack_44 : decode cX6_giveBack 44 = .ok (.ireturn, 1) := by decide +kernel
theorem dX6_giveBack_45 : decode cX6_giveBack 45 = .ok (.aload_n 0, 1) := by decide +kernel
theorem dX6_giveBack_46 : decode cX6_giveBack 46 = .ok (.iload_n 2, 1) := by decide +kernel
theorem dX6_giveBack_47 : decode cX6_giveBack 47 = .ok (.iload_n 1, 1) := by decide +kernel
theorem dX6_giveBack_48 : decode cX6_giveBack 48 = .ok (.invokevirtual 140, 3) := by decide +kernel
theorem dX6_giveBack_51 : decode cX6_giveBack 51 = .ok (.ireturn, 1) := by decide +kernel
theorem dX6_leaveDownTo_0 : decode cX6_leaveDownTo 0 = .ok (.aload_n 0, 1) := by decide +kernel
theorem dX6_leaveDownTo_1 : decode cX6_leaveDownTo 1 = .ok (.getfield 12, 3) := by decide +kernel
theorem dX6_leaveDownTo_4 : decode cX6_leaveDownTo 4 = .ok (.getfield 175, 3) := by decide +kernel
theorem dX6_leaveDownTo_7 : decode cX6_leaveDownTo 7 = .ok (.istore_n 2, 1) := by decide +kernel
theorem dX6_leaveDownTo_8 : decode cX6_leaveDownTo 8 = .ok (.iload_n 2, 1) := by decide +kernel
theorem dX6_leaveDownTo_9 : decode cX6_leaveDownTo 9 = .ok (.iload_n 1, 1) := by decide +kernel
theorem dX6_leaveDownTo_10 : decode cX6_leaveDownTo 10 = .ok (.if_icmp .le 39, 3) := by decide +kernel
theorem dX6_leaveDownTo_13 : decode cX6_leaveDownTo 13 = .ok (.iload_n 2, 1) := by decide +kernel
theorem dX6_leaveDownTo_14 : decode cX6_leaveDownTo 14 = .ok (.ifCond .le 35, 3) := by decide +kernel
theorem dX6_leaveDownTo_17 : decode cX6_leaveDownTo 17 = .ok (.aload_n 0, 1) := by decide +kernel
theorem dX6_leaveDownTo_18 : decode cX6_leaveDownTo 18 = .ok (.getfield 25, 3) := by decide +kernel
theorem dX6_leaveDownTo_21 : decode cX6_leaveDownTo 21 = .ok (.aload_n 0, 1) := by decide +kernel
theorem dX6_leaveDownTo_22 : decode cX6_leaveDownTo 22 = .ok (.getfield 12, 3) := by decide +kernel
theorem dX6_leaveDownTo_25 : decode cX6_leaveDownTo 25 = .ok (.invokevirtual 92, 3) := by decide +kernel
theorem dX6_leaveDownTo_28 : decode cX6_leaveDownTo 28 = .ok (.getfield 225, 3) := by decide +kernel
theorem dX6_leaveDownTo_31 : decode cX6_leaveDownTo 31 = .ok (.dup2, 1) := by decide +kernel
theorem dX6_leaveDownTo_32 : decode cX6_leaveDownTo 32 = .ok (.iaload, 1) := by decide +kernel
theorem dX6_leaveDownTo_33 : decode cX6_leaveDownTo 33 = .ok (.iconst 1, 1) := by decide +kernel
theorem dX6_leaveDownTo_34 : decode cX6_leaveDownTo 34 = .ok (.iadd, 1) := by decide +kernel
theorem dX6_leaveDownTo_35 : decode cX6_leaveDownTo 35 = .ok (.iastore, 1) := by decide +kernel
theorem dX6_leaveDownTo_36 : decode cX6_leaveDownTo 36 = .ok (.aload_n 0, 1) := by decide +kernel
theorem dX6_leaveDownTo_37 : decode cX6_leaveDownTo 37 = .ok (.getfield 12, 3) := by decide +kernel
theorem dX6_leaveDownTo_40 : decode cX6_leaveDownTo 40 = .ok (.invokevirtual 238, 3) := by decide +kernel
theorem dX6_leaveDownTo_43 : decode cX6_leaveDownTo 43 = .ok (.iinc 2 (-1), 3) := by decide +kernel
theorem dX6_leaveDownTo_46 : decode cX6_leaveDownTo 46 = .ok (.goto (-38), 3) := by decide +kernel
theorem dX6_leaveDownTo_49 : decode cX6_leaveDownTo 49 = .ok (.return_, 1) := by decide +kernel
theorem dX6_throwTo_0 : decode cX6_throwTo 0 = .ok (.iload_n 1, 1) := by decide +kernel
theorem dX6_throwTo_1 : decode cX6_throwTo 1 = .ok (.aload_n 0, 1) := by decide +kernel
theorem dX6_throwTo_2 : decode cX6_throwTo 2 = .ok (.getfield 12, 3) := by decide +kernel
theorem dX6_throwTo_5 : decode cX6_throwTo 5 = .ok (.getfield 175, 3) := by decide +kernel
theorem dX6_throwTo_8 : decode cX6_throwTo 8 = .ok (.if_icmp .lt 6, 3) := by decide +kernel
theorem dX6_throwTo_11 : decode cX6_throwTo 11 = .ok (.bipush (-18), 2) := by decide +kernel
theorem dX6_throwTo_13 : decode cX6_throwTo 13 = .ok (.ireturn, 1) := by decide +kernel
theorem dX6_throwTo_14 : decode cX6_throwTo 14 = .ok (.aload_n 0, 1) := by decide +kernel
theorem dX6_throwTo_15 : decode cX6_throwTo 15 = .ok (.getfield 66, 3) := by decide +kernel
theorem dX6_throwTo_18 : decode cX6_throwTo 18 = .ok (.bipush 12, 2) := by decide +kernel
theorem dX6_throwTo_20 : decode cX6_throwTo 20 = .ok (.if_icmp .lt 9, 3) := by decide +kernel
theorem dX6_throwTo_23 : decode cX6_throwTo 23 = .ok (.aload_n 0, 1) := by decide +kernel
theorem dX6_throwTo_24 : decode cX6_throwTo 24 = .ok (.iconst 3, 1) := by decide +kernel
theorem dX6_throwTo_25 : decode cX6_throwTo 25 = .ok (.invokevirtual 201, 3) := by decide +kernel
theorem dX6_throwTo_28 : decode cX6_throwTo 28 = .ok (.ireturn, 1) := by decide +kernel
theorem dX6_throwTo_29 : decode cX6_throwTo 29 = .ok (.aload_n 0, 1) := by decide +kernel
theorem dX6_throwTo_30 : decode cX6_throwTo 30 = .ok (.dup, 1) := by decide +kernel
theorem dX6_throwTo_31 : decode cX6_throwTo 31 = .ok (.getfield 66, 3) := by decide +kernel
theorem dX6_throwTo_34 : decode cX6_throwTo 34 = .ok (.iconst 1, 1) := by decide +kernel
theorem dX6_throwTo_35 : decode cX6_throwTo 35 = .ok (.iadd, 1) := by decide +kernel
theorem dX6_throwTo_36 : decode cX6_throwTo 36 = .ok (.putfield 66, 3) := by decide +kernel
theorem dX6_throwTo_39 : decode cX6_throwTo 39 = .ok (.aload_n 0, 1) := by decide +kernel
theorem dX6_throwTo_40 : decode cX6_throwTo 40 = .ok (.dup, 1) := by decide +kernel
theorem dX6_throwTo_41 : decode cX6_throwTo 41 = .ok (.getfield 78, 3) := by decide +kernel
theorem dX6_throwTo_44 : decode cX6_throwTo 44 = .ok (.iconst 1, 1) := by decide +kernel
theorem dX6_throwTo_45 : decode cX6_throwTo 45 = .ok (.iadd, 1) := by decide +kernel
theorem dX6_throwTo_46 : decode cX6_throwTo 46 = .ok (.putfield 78, 3) := by decide +kernel
theorem dX6_throwTo_49 : decode cX6_throwTo 49 = .ok (.aload_n 0, 1) := by decide +kernel
theorem dX6_throwTo_50 : decode cX6_throwTo 50 = .ok (.iload_n 1, 1) := by decide +kernel
theorem dX6_throwTo_51 : decode cX6_throwTo 51 = .ok (.iconst 1, 1) := by decide +kernel
theorem dX6_throwTo_52 : decode cX6_throwTo 52 = .ok (.iadd, 1) := by decide +kernel
theorem dX6_throwTo_53 : decode cX6_throwTo 53 = .ok (.invokevirtual 85, 3) := by decide +kernel
theorem dX6_throwTo_56 : decode cX6_throwTo 56 = .ok (.aload_n 0, 1) := by decide +kernel
theorem dX6_throwTo_57 : decode cX6_throwTo 57 = .ok (.iload_n 2, 1) := by decide +kernel
theorem dX6_throwTo_58 : decode cX6_throwTo 58 = .ok (.invokevirtual 165, 3) := by decide +kernel
theorem dX6_throwTo_61 : decode cX6_throwTo 61 = .ok (.ireturn, 1) := by decide +kernel
theorem dX6_raise_0 : decode cX6_raise 0 = .ok (.aload_n 0, 1) := by decide +kernel
theorem dX6_raise_1 : decode cX6_raise 1 = .ok (.getfield 66, 3) := by decide +kernel
theorem dX6_raise_4 : decode cX6_raise 4 = .ok (.bipush 12, 2) := by decide +kernel
theorem dX6_raise_6 : decode cX6_raise 6 = .ok (.if_icmp .lt 9, 3) := by decide +kernel
theorem dX6_raise_9 : decode cX6_raise 9 = .ok (.aload_n 0, 1) := by decide +kernel
theorem dX6_raise_10 : decode cX6_raise 10 = .ok (.iconst 3, 1) := by decide +kernel
theorem dX6_raise_11 : decode cX6_raise 11 = .ok (.invokevirtual 201, 3) := by decide +kernel
theorem dX6_raise_14 : decode cX6_raise 14 = .ok (.ireturn, 1) := by decide +kernel
theorem dX6_raise_15 : decode cX6_raise 15 = .ok (.aload_n 0, 1) := by decide +kernel
theorem dX6_raise_16 : decode cX6_raise 16 = .ok (.dup, 1) := by decide +kernel
theorem dX6_raise_17 : decode cX6_raise 17 = .ok (.getfield 66, 3) := by decide +kernel
theorem dX6_raise_20 : decode cX6_raise 20 = .ok (.iconst 1, 1) := by decide +kernel
theorem dX6_raise_21 : decode cX6_raise 21 = .ok (.iadd, 1) := by decide +kernel
theorem dX6_raise_22 : decode cX6_raise 22 = .ok (.putfield 66, 3) := by decide +kernel
theorem dX6_raise_25 : decode cX6_raise 25 = .ok (.aload_n 0, 1) := by decide +kernel
theorem dX6_raise_26 : decode cX6_raise 26 = .ok (.getfield 12, 3) := by decide +kernel
theorem dX6_raise_29 : decode cX6_raise 29 = .ok (.getfield 175, 3) := by decide +kernel
theorem dX6_raise_32 : decode cX6_raise 32 = .ok (.istore_n 2, 1) := by decide +kernel
theorem dX6_raise_33 : decode cX6_raise 33 = .ok (.iload_n 2, 1) := by decide +kernel
theorem dX6_raise_34 : decode cX6_raise 34 = .ok (.ifCond .le 37, 3) := by decide +kernel
theorem dX6_raise_37 : decode cX6_raise 37 = .ok (.aload_n 0, 1) := by decide +kernel
theorem dX6_raise_38 : decode cX6_raise 38 = .ok (.getfield 44, 3) := by decide +kernel
theorem dX6_raise_41 : decode cX6_raise 41 = .ok (.getfield 241, 3) := by decide +kernel
theorem dX6_raise_44 : decode cX6_raise 44 = .ok (.aload_n 0, 1) := by decide +kernel
theorem dX6_raise_45 : decode cX6_raise 45 = .ok (.getfield 12, 3) := by decide +kernel
theorem dX6_raise_48 : decode cX6_raise 48 = .ok (.invokevirtual 92, 3) := by decide +kernel
theorem dX6_raise_51 : decode cX6_raise 51 = .ok (.getfield 225, 3) := by decide +kernel
theorem dX6_raise_54 : decode cX6_raise 54 = .ok (.baload, 1) := by decide +kernel
theorem dX6_raise_55 : decode cX6_raise 55 = .ok (.ifCond .ne 16, 3) := by decide +kernel
theorem dX6_raise_58 : decode cX6_raise 58 = .ok (.aload_n 0, 1) := by decide +kernel
theorem dX6_raise_59 : decode cX6_raise 59 = .ok (.iload_n 2, 1) := by decide +kernel
theorem dX6_raise_60 : decode cX6_raise 60 = .ok (.iconst 1, 1) := by decide +kernel
theorem dX6_raise_61 : decode cX6_raise 61 = .ok (.isub, 1) := by decide +kernel
theorem dX6_raise_62 : decode cX6_raise 62 = .ok (.invokevirtual 85, 3) := by decide +kernel
theorem dX6_raise_65 : decode cX6_raise 65 = .ok (.iinc 2 (-1), 3) := by decide +kernel
theorem dX6_raise_68 : decode cX6_raise 68 = .ok (.goto (-35), 3) := by decide +kernel
theorem dX6_raise_71 : decode cX6_raise 71 = .ok (.aload_n 0, 1) := by decide +kernel
theorem dX6_raise_72 : decode cX6_raise 72 = .ok (.getfield 12, 3) := by decide +kernel
theorem dX6_raise_75 : decode cX6_raise 75 = .ok (.getfield 175, 3) := by decide +kernel
theorem dX6_raise_78 : decode cX6_raise 78 = .ok (.ifCond .ne 17, 3) := by decide +kernel
theorem dX6_raise_81 : decode cX6_raise 81 = .ok (.aload_n 0, 1) := by decide +kernel
theorem dX6_raise_82 : decode cX6_raise 82 = .ok (.bipush (-10), 2) := by decide +kernel
theorem dX6_raise_84 : decode cX6_raise 84 = .ok (.iload_n 1, 1) := by decide +kernel
theorem dX6_raise_85 : decode cX6_raise 85 = .ok (.isub, 1) := by decide +kernel
theorem dX6_raise_86 : decode cX6_raise 86 = .ok (.putfield 72, 3) := by decide +kernel
theorem dX6_raise_89 : decode cX6_raise 89 = .ok (.aload_n 0, 1) := by decide +kernel
theorem dX6_raise_90 : decode cX6_raise 90 = .ok (.iconst 2, 1) := by decide +kernel
theorem dX6_raise_91 : decode cX6_raise 91 = .ok (.invokevirtual 201, 3) := by decide +kernel
theorem dX6_raise_94 : decode cX6_raise 94 = .ok (.ireturn, 1) := by decide +kernel
theorem dX6_raise_95 : decode cX6_raise 95 = .ok (.aload_n 0, 1) := by decide +kernel
theorem dX6_raise_96 : decode cX6_raise 96 = .ok (.dup, 1) := by decide +kernel
theorem dX6_raise_97 : decode cX6_raise 97 = .ok (.getfield 75, 3) := by decide +kernel
theorem dX6_raise_100 : decode cX6_raise 100 = .ok (.iconst 1, 1) := by decide +kernel
theorem dX6_raise_101 : decode cX6_raise 101 = .ok (.iadd, 1) := by decide +kernel
theorem dX6_raise_102 : decode cX6_raise 102 = .ok (.putfield 75, 3) := by decide +kernel
theorem dX6_raise_105 : decode cX6_raise 105 = .ok (.aload_n 0, 1) := by decide +kernel
theorem dX6_raise_106 : decode cX6_raise 106 = .ok (.bipush (-10), 2) := by decide +kernel
theorem dX6_raise_108 : decode cX6_raise 108 = .ok (.iload_n 1, 1) := by decide +kernel
theorem dX6_raise_109 : decode cX6_raise 109 = .ok (.isub, 1) := by decide +kernel
theorem dX6_raise_110 : decode cX6_raise 110 = .ok (.invokevirtual 165, 3) := by decide +kernel
theorem dX6_raise_113 : decode cX6_raise 113 = .ok (.ireturn, 1) := by decide +kernel
theorem dX6_printRows_0 : decode cX6_printRows 0 = .ok (.iload_n 1, 1) := by decide +kernel
theorem dX6_printRows_1 : decode cX6_printRows 1 = .ok (.istore 4, 2) := by decide +kernel
theorem dX6_printRows_3 : decode cX6_printRows 3 = .ok (.iconst 0, 1) := by decide +kernel
theorem dX6_printRows_4 : decode cX6_printRows 4 = .ok (.istore 5, 2) := by decide +kernel
theorem dX6_printRows_6 : decode cX6_printRows 6 = .ok (.iload 5, 2) := by decide +kernel
theorem dX6_printRows_8 : decode cX6_printRows 8 = .ok (.iload_n 3, 1) := by decide +kernel
theorem dX6_printRows_9 : decode cX6_printRows 9 = .ok (.if_icmp .ge 87, 3) := by decide +kernel
theorem dX6_printRows_12 : decode cX6_printRows 12 = .ok (.iload 5, 2) := by decide +kernel
theorem dX6_printRows_14 : decode cX6_printRows 14 = .ok (.ifCond .le 18, 3) := by decide +kernel
theorem dX6_printRows_17 : decode cX6_printRows 17 = .ok (.aload_n 0, 1) := by decide +kernel
theorem dX6_printRows_18 : decode cX6_printRows 18 = .ok (.getfield 21, 3) := by decide +kernel
theorem dX6_printRows_21 : decode cX6_printRows 21 = .ok (.bipush 10, 2) := by decide +kernel
theorem dX6_printRows_23 : decode cX6_printRows 23 = .ok (.invokevirtual 195, 3) := by decide +kernel
theorem dX6_printRows_26 : decode cX6_printRows 26 = .ok (.ifCond .ge 6, 3) := by decide +kernel
theorem dX6_printRows_29 : decode cX6_printRows 29 = .ok (.bipush (-21), 2) := by decide +kernel
theorem dX6_printRows_31 : decode cX6_printRows 31 = .ok (.ireturn, 1) := by decide +kernel
theorem dX6_printRows_32 : decode cX6_printRows 32 = .ok (.iconst 0, 1) := by decide +kernel
theorem dX6_printRows_33 : decode cX6_printRows 33 = .ok (.istore 6, 2) := by decide +kernel
theorem dX6_printRows_35 : decode cX6_printRows 35 = .ok (.iload 6, 2) := by decide +kernel
theorem dX6_printRows_37 : decode cX6_printRows 37 = .ok (.iload_n 2, 1) := by decide +kernel
theorem dX6_printRows_38 : decode cX6_printRows 38 = .ok (.if_icmp .ge 52, 3) := by decide +kernel
theorem dX6_printRows_41 : decode cX6_printRows 41 = .ok (.aload_n 0, 1) := by decide +kernel
theorem dX6_printRows_42 : decode cX6_printRows 42 = .ok (.getfield 36, 3) := by decide +kernel
theorem dX6_printRows_45 : decode cX6_printRows 45 = .ok (.iload 4, 2) := by decide +kernel
theorem dX6_printRows_47 : decode cX6_printRows 47 = .ok (.invokevirtual 155, 3) := by decide +kernel
theorem dX6_printRows_50 : decode cX6_printRows 50 = .ok (.istore 7, 2) := by decide +kernel
theorem dX6_printRows_52 : decode cX6_printRows 52 = .ok (.iload 7, 2) := by decide +kernel
theorem dX6_printRows_54 : decode cX6_printRows 54 = .ok (.ifCond .ge 8, 3) := by decide +kernel
theorem dX6_printRows_57 : decode cX6_printRows 57 = .ok (.iload 7, 2) := by decide +kernel
theorem dX6_printRows_59 : decode cX6_printRows 59 = .ok (.goto 12, 3) := by decide +kernel
theorem dX6_printRows_62 : decode cX6_printRows 62 = .ok (.aload_n 0, 1) := by decide +kernel
theorem dX6_printRows_63 : decode cX6_printRows 63 = .ok (.getfield 21, 3) := by decide +kernel
theorem dX6_printRows_66 : decode cX6_printRows 66 = .ok (.iload 7, 2) := by decide +kernel
theorem dX6_printRows_68 : decode cX6_printRows 68 = .ok (.invokevirtual 195, 3) := by decide +kernel
theorem dX6_printRows_71 : decode cX6_printRows 71 = .ok (.istore 8, 2) := by decide +kernel
theorem dX6_printRows_73 : decode cX6_printRows 73 = .ok (.iload 8, 2) := by decide +kernel
theorem dX6_printRows_75 : decode cX6_printRows 75 = .ok (.ifCond .ge 6, 3) := by decide +kernel
theorem dX6_printRows_78 : decode cX6_printRows 78 = .ok (.iload 8, 2) := by decide +kernel
theorem dX6_printRows_80 : decode cX6_printRows 80 = .ok (.ireturn, 1) := by decide +kernel
theorem dX6_printRows_81 : decode cX6_printRows 81 = .ok (.iinc 4 1, 3) := by decide +kernel
theorem dX6_printRows_84 : decode cX6_printRows 84 = .ok (.iinc 6 1, 3) := by decide +kernel
theorem dX6_printRows_87 : decode cX6_printRows 87 = .ok (.goto (-52), 3) := by decide +kernel
theorem dX6_printRows_90 : decode cX6_printRows 90 = .ok (.iinc 5 1, 3) := by decide +kernel
theorem dX6_printRows_93 : decode cX6_printRows 93 = .ok (.goto (-87), 3) := by decide +kernel
theorem dX6_printRows_96 : decode cX6_printRows 96 = .ok (.iconst 1, 1) := by decide +kernel
theorem dX6_printRows_97 : decode cX6_printRows 97 = .ok (.ireturn, 1) := by decide +kernel
theorem dX7_init_0 : decode cX7_init 0 = .ok (.aload_n 0, 1) := by decide +kernel
theorem dX7_init_1 : decode cX7_init 1 = .ok (.invokespecial 3, 3) := by decide +kernel
theorem dX7_init_4 : decode cX7_init 4 = .ok (.aload_n 0, 1) := by decide +kernel
theorem dX7_init_5 : decode cX7_init 5 = .ok (.new 9, 3) := by decide +kernel
theorem dX7_init_8 : decode cX7_init 8 = .ok (.dup, 1) := by decide +kernel
theorem dX7_init_9 : decode cX7_init 9 = .ok (.invokespecial 11, 3) := by decide +kernel
theorem dX7_init_12 : decode cX7_init 12 = .ok (.putfield 12, 3) := by decide +kernel
theorem dX7_init_15 : decode cX7_init 15 = .ok (.aload_n 0, 1) := by decide +kernel
theorem dX7_init_16 : decode cX7_init 16 = .ok (.new 16, 3) := by decide +kernel
theorem dX7_init_19 : decode cX7_init 19 = .ok (.dup, 1) := by decide +kernel
theorem dX7_init_20 : decode cX7_init 20 = .ok (.invokespecial 18, 3) := by decide +kernel
theorem dX7_init_23 : decode cX7_init 23 = .ok (.putfield 19, 3) := by decide +kernel
theorem dX7_init_26 : decode cX7_init 26 = .ok (.aload_n 0, 1) := by decide +kernel
theorem dX7_init_27 : decode cX7_init 27 = .ok (.new 23, 3) := by decide +kernel
theorem dX7_init_30 : decode cX7_init 30 = .ok (.dup, 1) := by decide +kernel
theorem dX7_init_31 : decode cX7_init 31 = .ok (.invokespecial 25, 3) := by decide +kernel
theorem dX7_init_34 : decode cX7_init 34 = .ok (.putfield 26, 3) := by decide +kernel
theorem dX7_init_37 : decode cX7_init 37 = .ok (.aload_n 0, 1) := by decide +kernel
theorem dX7_init_38 : decode cX7_init 38 = .ok (.new 30, 3) := by decide +kernel
theorem dX7_init_41 : decode cX7_init 41 = .ok (.dup, 1) := by decide +kernel
theorem dX7_init_42 : decode cX7_init 42 = .ok (.aload_n 0, 1) := by decide +kernel
theorem dX7_init_43 : decode cX7_init 43 = .ok (.getfield 12, 3) := by decide +kernel
theorem dX7_init_46 : decode cX7_init 46 = .ok (.aload_n 0, 1) := by decide +kernel
theorem dX7_init_47 : decode cX7_init 47 = .ok (.getfield 19, 3) := by decide +kernel
theorem dX7_init_50 : decode cX7_init 50 = .ok (.aload_n 0, 1) := by decide +kernel
theorem dX7_init_51 : decode cX7_init 51 = .ok (.getfield 26, 3) := by decide +kernel
theorem dX7_init_54 : decode cX7_init 54 = .ok (.invokespecial 32, 3) := by decide +kernel
theorem dX7_init_57 : decode cX7_init 57 = .ok (.putfield 35, 3) := by decide +kernel
theorem dX7_init_60 : decode cX7_init 60 = .ok (.return_, 1) := by decide +kernel
theorem dX7_size_0 : decode cX7_size 0 = .ok (.iload_n 1, 1) := by decide +kernel
theorem dX7_size_1 : decode cX7_size 1 = .ok (.ifCond .lt 19, 3) := by decide +kernel
theorem dX7_size_4 : decode cX7_size 4 = .ok (.iload_n 1, 1) := by decide +kernel
theorem dX7_size_5 : decode cX7_size 5 = .ok (.sipush 2000, 3) := by decide +kernel
theorem dX7_size_8 : decode cX7_size 8 = .ok (.if_icmp .gt 12, 3) := by decide +kernel
theorem dX7_size_11 : decode cX7_size 11 = .ok (.iload_n 2, 1) := by decide +kernel
theorem dX7_size_12 : decode cX7_size 12 = .ok (.ifCond .lt 8, 3) := by decide +kernel
theorem dX7_size_15 : decode cX7_size 15 = .ok (.iload_n 2, 1) := by decide +kernel
theorem dX7_size_16 : decode cX7_size 16 = .ok (.iload_n 1, 1) := by decide +kernel
theorem dX7_size_17 : decode cX7_size 17 = .ok (.if_icmp .le 6, 3) := by decide +kernel
theorem dX7_size_20 : decode cX7_size 20 = .ok (.bipush (-2), 2) := by decide +kernel
theorem dX7_size_22 : decode cX7_size 22 = .ok (.ireturn, 1) := by decide +kernel
theorem dX7_size_23 : decode cX7_size 23 = .ok (.aload_n 0, 1) := by decide +kernel
theorem dX7_size_24 : decode cX7_size 24 = .ok (.getfield 12, 3) := by decide +kernel
theorem dX7_size_27 : decode cX7_size 27 = .ok (.iload_n 1, 1) := by decide +kernel
theorem dX7_size_28 : decode cX7_size 28 = .ok (.iload_n 2, 1) := by decide +kernel
theorem dX7_size_29 : decode cX7_size 29 = .ok (.invokevirtual 39, 3) := by decide +kernel
theorem dX7_size_32 : decode cX7_size 32 = .ok (.iconst 1, 1) := by decide +kernel
theorem dX7_size_33 : decode cX7_size 33 = .ok (.ireturn, 1) := by decide +kernel
theorem dX7_get_0 : decode cX7_get 0 = .ok (.iload_n 2, 1) := by decide +kernel
theorem dX7_get_1 : decode cX7_get 1 = .ok (.ifCond .eq 14, 3) := by decide +kernel
theorem dX7_get_4 : decode cX7_get 4 = .ok (.aload_n 0, 1) := by decide +kernel
theorem dX7_get_5 : decode cX7_get 5 = .ok (.getfield 12, 3) := by decide +kernel
theorem dX7_get_8 : decode cX7_get 8 = .ok (.iload_n 1, 1) := by decide +kernel
theorem dX7_get_9 : decode cX7_get 9 = .ok (.invokevirtual 43, 3) := by decide +kernel
theorem dX7_get_12 : decode cX7_get 12 = .ok (.goto 11, 3) := by decide +kernel
theorem dX7_get_15 : decode cX7_get 15 = .ok (.aload_n 0, 1) := by decide +kernel
theorem dX7_get_16 : decode cX7_get 16 = .ok (.getfield 12, 3) := by decide +kernel
theorem dX7_get_19 : decode cX7_get 19 = .ok (.iload_n 1, 1) := by decide +kernel
theorem dX7_get_20 : decode cX7_get 20 = .ok (.invokevirtual 47, 3) := by decide +kernel
theorem dX7_get_23 : decode cX7_get 23 = .ok (.ireturn, 1) := by decide +kernel
theorem dX7_put_0 : decode cX7_put 0 = .ok (.iload_n 3, 1) := by decide +kernel
theorem dX7_put_1 : decode cX7_put 1 = .ok (.ifCond .eq 17, 3) := by decide +kernel
theorem dX7_put_4 : decode cX7_put 4 = .ok (.aload_n 0, 1) := by decide +kernel
theorem dX7_put_5 : decode cX7_put 5 = .ok (.getfield 12, 3) := by decide +kernel
theorem dX7_put_8 : decode cX7_put 8 = .ok (.iload_n 1, 1) := by decide +kernel
theorem dX7_put_9 : decode cX7_put 9 = .ok (.iload_n 2, 1) := by decide +kernel
theorem dX7_put_10 : decode cX7_put 10 = .ok (.iload 4, 2) := by decide +kernel
theorem dX7_put_12 : decode cX7_put 12 = .ok (.invokevirtual 50, 3) := by decide +kernel
theorem dX7_put_15 : decode cX7_put 15 = .ok (.goto 14, 3) := by decide +kernel
theorem dX7_put_18 : decode cX7_put 18 = .ok (.aload_n 0, 1) := by decide +kernel
theorem dX7_put_19 : decode cX7_put 19 = .ok (.getfield 12, 3) := by decide +kernel
theorem dX7_put_22 : decode cX7_put 22 = .ok (.iload_n 1, 1) := by decide +kernel
theorem dX7_put_23 : decode cX7_put 23 = .ok (.iload_n 2, 1) := by decide +kernel
theorem dX7_put_24 : decode cX7_put 24 = .ok (.iload 4, 2) := by decide +kernel
theorem dX7_put_26 : decode cX7_put 26 = .ok (.invokevirtual 54, 3) := by decide +kernel
theorem dX7_put_29 : decode cX7_put 29 = .ok (.ireturn, 1) := by decide +kernel
theorem dX7_work_0 : decode cX7_work 0 = .ok (.iload_n 1, 1) := by decide +kernel
theorem dX7_work_1 : decode cX7_work 1 = .ok (.ifCond .lt 9, 3) := by decide +kernel
theorem dX7_work_4 : decode cX7_work 4 = .ok (.iload_n 1, 1) := by decide +kernel
theorem dX7_work_5 : decode cX7_work 5 = .ok (.bipush 9, 2) := by decide +kernel
theorem dX7_work_7 : decode cX7_work 7 = .ok (.if_icmp .le 13, 3) := by decide +kernel
theorem dX7_work_10 : decode cX7_work 10 = .ok (.new 57, 3) := by decide +kernel
theorem dX7_work_13 : decode cX7_work 13 = .ok (.dup, 1) := by decide +kernel
theorem dX7_work_14 : decode cX7_work 14 = .ok (.ldc 59, 2) := by decide +kernel
theorem dX7_work_16 : decode cX7_work 16 = .ok (.invokespecial 61, 3) := by decide +kernel
theorem dX7_work_19 : decode cX7_work 19 = .ok (.athrow, 1) := by decide +kernel
theorem dX7_work_20 : decode cX7_work 20 = .ok (.iload_n 1, 1) := by decide +kernel
theorem dX7_work_21 : decode cX7_work 21 = .ok (.iload_n 2, 1) := by decide +kernel
theorem dX7_work_22 : decode cX7_work 22 = .ok (.invokestatic 64, 3) := by decide +kernel
theorem dX7_work_25 : decode cX7_work 25 = .ok (.iload_n 3, 1) := by decide +kernel
theorem dX7_work_26 : decode cX7_work 26 = .ok (.invokestatic 64, 3) := by decide +kernel
theorem dX7_work_29 : decode cX7_work 29 = .ok (.invokestatic 67, 3) := by decide +kernel
theorem dX7_work_32 : decode cX7_work 32 = .ok (.istore 4, 2) := by decide +kernel
theorem dX7_work_34 : decode cX7_work 34 = .ok (.iload 4, 2) := by decide +kernel
theorem dX7_work_36 : decode cX7_work 36 = .ok (.ifCond .ge 13, 3) := by decide +kernel
theorem dX7_work_39 : decode cX7_work 39 = .ok (.new 71, 3) := by decide +kernel
theorem dX7_work_42 : decode cX7_work 42 = .ok (.dup, 1) := by decide +kernel
theorem dX7_work_43 : decode cX7_work 43 = .ok (.ldc 73, 2) := by decide +kernel
theorem dX7_work_45 : decode cX7_work 45 = .ok (.invokespecial 75, 3) := by decide +kernel
theorem dX7_work_48 : decode cX7_work 48 = .ok (.athrow, 1) := by decide +kernel
theorem dX7_work_49 : decode cX7_work 49 = .ok (.iload 4, 2) := by decide +kernel
theorem dX7_work_51 : decode cX7_work 51 = .ok (.invokestatic 64, 3) := by decide +kernel
theorem dX7_work_54 : decode cX7_work 54 = .ok (.ireturn, 1) := by decide +kernel
theorem dX7_copy_0 : decode cX7_copy 0 = .ok (.aload_n 0, 1) := by decide +kernel
theorem dX7_copy_1 : decode cX7_copy 1 = .ok (.getfield 12, 3) := by decide +kernel
theorem dX7_copy_4 : decode cX7_copy 4 = .ok (.iload_n 1, 1) := by decide +kernel
theorem dX7_copy_5 : decode cX7_copy 5 = .ok (.invokestatic 76, 3) := by decide +kernel
theorem dX7_copy_8 : decode cX7_copy 8 = .ok (.iload_n 2, 1) := by decide +kernel
theorem dX7_copy_9 : decode cX7_copy 9 = .ok (.invokestatic 76, 3) := by decide +kernel
theorem dX7_copy_12 : decode cX7_copy 12 = .ok (.iload_n 3, 1) := by decide +kernel
theorem dX7_copy_13 : decode cX7_copy 13 = .ok (.invokestatic 64, 3) := by decide +kernel
theorem dX7_copy_16 : decode cX7_copy 16 = .ok (.invokevirtual 79, 3) := by decide +kernel
theorem dX7_copy_19 : decode cX7_copy 19 = .ok (.ireturn, 1) := by decide +kernel
theorem dX7_look_0 : decode cX7_look 0 = .ok (.iload 4, 2) := by decide +kernel
theorem dX7_look_2 : decode cX7_look 2 = .ok (.sipush 255, 3) := by decide +kernel
theorem dX7_look_5 : decode cX7_look 5 = .ok (.invokestatic 82, 3) := by decide +kernel
theorem dX7_look_8 : decode cX7_look 8 = .ok (.ifCond .ne 6, 3) := by decide +kernel
theorem dX7_look_11 : decode cX7_look 11 = .ok (.bipush (-2), 2) := by decide +kernel
theorem dX7_look_13 : decode cX7_look 13 = .ok (.ireturn, 1) := by decide +kernel
theorem dX7_look_14 : decode cX7_look 14 = .ok (.aload_n 0, 1) := by decide +kernel
theorem dX7_look_15 : decode cX7_look 15 = .ok (.getfield 12, 3) := by decide +kernel
theorem dX7_look_18 : decode cX7_look 18 = .ok (.iload_n 1, 1) := by decide +kernel
theorem dX7_look_19 : decode cX7_look 19 = .ok (.invokestatic 76, 3) := by decide +kernel
theorem dX7_look_22 : decode cX7_look 22 = .ok (.iload_n 2, 1) := by decide +kernel
theorem dX7_look_23 : decode cX7_look 23 = .ok (.invokestatic 76, 3) := by decide +kernel
theorem dX7_look_26 : decode cX7_look 26 = .ok (.iload_n 3, 1) := by decide +kernel
theorem dX7_look_27 : decode cX7_look 27 = .ok (.invokestatic 64, 3) := by decide +kernel
theorem dX7_look_30 : decode cX7_look 30 = .ok (.iload 4, 2) := by decide +kernel
theorem dX7_look_32 : decode cX7_look 32 = .ok (.invokevirtual 86, 3) := by decide +kernel
theorem dX7_look_35 : decode cX7_look 35 = .ok (.ireturn, 1) := by decide +kernel
theorem dX7_random_0 : decode cX7_random 0 = .ok (.aload_n 0, 1) := by decide +kernel
theorem dX7_random_1 : decode cX7_random 1 = .ok (.getfield 19, 3) := by decide +kernel
theorem dX7_random_4 : decode cX7_random 4 = .ok (.iload_n 1, 1) := by decide +kernel
theorem dX7_random_5 : decode cX7_random 5 = .ok (.invokestatic 64, 3) := by decide +kernel
theorem dX7_random_8 : decode cX7_random 8 = .ok (.invokevirtual 90, 3) := by decide +kernel
theorem dX7_random_11 : decode cX7_random 11 = .ok (.ireturn, 1) := by decide +kernel
theorem dX7_tape_0 : decode cX7_tape 0 = .ok (.iload_n 1, 1) := by decide +kernel
theorem dX7_tape_1 : decode cX7_tape 1 = .ok (.ldc 93, 2) := by decide +kernel
theorem dX7_tape_3 : decode cX7_tape 3 = .ok (.invokestatic 82, 3) := by decide +kernel
theorem dX7_tape_6 : decode cX7_tape 6 = .ok (.ifCond .ne 6, 3) := by decide +kernel
theorem dX7_tape_9 : decode cX7_tape 9 = .ok (.bipush (-2), 2) := by decide +kernel
theorem dX7_tape_11 : decode cX7_tape 11 = .ok (.ireturn, 1) := by decide +kernel
theorem dX7_tape_12 : decode cX7_tape 12 = .ok (.aload_n 0, 1) := by decide +kernel
theorem dX7_tape_13 : decode cX7_tape 13 = .ok (.getfield 19, 3) := by decide +kernel
theorem dX7_tape_16 : decode cX7_tape 16 = .ok (.iload_n 1, 1) := by decide +kernel
theorem dX7_tape_17 : decode cX7_tape 17 = .ok (.invokevirtual 94, 3) := by decide +kernel
theorem dX7_tape_20 : decode cX7_tape 20 = .ok (.ireturn, 1) := by decide +kernel
theorem dX7_globe_0 : decode cX7_globe 0 = .ok (.iload_n 1, 1) := by decide +kernel
theorem dX7_globe_1 : decode cX7_globe 1 = .ok (.ldc 93, 2) := by decide +kernel
theorem dX7_globe_3 : decode cX7_globe 3 = .ok (.invokestatic 82, 3) := by decide +kernel
theorem dX7_globe_6 : decode cX7_globe 6 = .ok (.ifCond .ne 6, 3) := by decide +kernel
theorem dX7_globe_9 : decode cX7_globe 9 = .ok (.bipush (-2), 2) := by decide +kernel
theorem dX7_globe_11 : decode cX7_globe 11 = .ok (.ireturn, 1) := by decide +kernel
theorem dX7_globe_12 : decode cX7_globe 12 = .ok (.aload_n 0, 1) := by decide +kernel
theorem dX7_globe_13 : decode cX7_globe 13 = .ok (.getfield 35, 3) := by decide +kernel
theorem dX7_globe_16 : decode cX7_globe 16 = .ok (.getfield 97, 3) := by decide +kernel
theorem dX7_globe_19 : decode cX7_globe 19 = .ok (.istore_n 2, 1) := by decide +kernel
theorem dX7_globe_20 : decode cX7_globe 20 = .ok (.aload_n 0, 1) := by decide +kernel
theorem dX7_globe_21 : decode cX7_globe 21 = .ok (.getfield 35, 3) := by decide +kernel
theorem dX7_globe_24 : decode cX7_globe 24 = .ok (.iload_n 1, 1) := by decide +kernel
theorem dX7_globe_25 : decode cX7_globe 25 = .ok (.putfield 97, 3) := by decide +kernel
theorem dX7_globe_28 : decode cX7_globe 28 = .ok (.iload_n 2, 1) := by decide +kernel
theorem dX7_globe_29 : decode cX7_globe 29 = .ok (.ireturn, 1) := by decide +kernel
theorem dX7_form_0 : decode cX7_form 0 = .ok (.iload_n 1, 1) := by decide +kernel
theorem dX7_form_1 : decode cX7_form 1 = .ok (.sipush 255, 3) := by decide +kernel
theorem dX7_form_4 : decode cX7_form 4 = .ok (.invokestatic 82, 3) := by decide +kernel
theorem dX7_form_7 : decode cX7_form 7 = .ok (.ifCond .ne 6, 3) := by decide +kernel
theorem dX7_form_10 : decode cX7_form 10 = .ok (.bipush (-2), 2) := by decide +kernel
theorem dX7_form_12 : decode cX7_form 12 = .ok (.ireturn, 1) := by decide +kernel
theorem dX7_form_13 : decode cX7_form 13 = .ok (.aload_n 0, 1) := by decide +kernel
theorem dX7_form_14 : decode cX7_form 14 = .ok (.getfield 35, 3) := by decide +kernel
theorem dX7_form_17 : decode cX7_form 17 = .ok (.getfield 101, 3) := by decide +kernel
theorem dX7_form_20 : decode cX7_form 20 = .ok (.istore_n 2, 1) := by decide +kernel
theorem dX7_form_21 : decode cX7_form 21 = .ok (.aload_n 0, 1) := by decide +kernel
theorem dX7_form_22 : decode cX7_form 22 = .ok (.getfield 35, 3) := by decide +kernel
theorem dX7_form_25 : decode cX7_form 25 = .ok (.iload_n 1, 1) := by decide +kernel
theorem dX7_form_26 : decode cX7_form 26 = .ok (.putfield 101, 3) := by decide +kernel
theorem dX7_form_29 : decode cX7_form 29 = .ok (.iload_n 2, 1) := by decide +kernel
theorem dX7_form_30 : decode cX7_form 30 = .ok (.ireturn, 1) := by decide +kernel
theorem dX7_instruction_0 : decode cX7_instruction 0 = .ok (.iload_n 2, 1) := by decide +kernel
theorem dX7_instruction_1 : decode cX7_instruction 1 = .ok (.invokestatic 104, 3) := by decide +kernel
theorem dX7_instruction_4 : decode cX7_instruction 4 = .ok (.ifCond .eq 18, 3) := by decide +kernel
theorem dX7_instruction_7 : decode cX7_instruction 7 = .ok (.iload_n 3, 1) := by decide +kernel
theorem dX7_instruction_8 : decode cX7_instruction 8 = .ok (.invokestatic 104, 3) := by decide +kernel
theorem dX7_instruction_11 : decode cX7_instruction 11 = .ok (.ifCond .eq 11, 3) := by decide +kernel
theorem dX7_instruction_14 : decode cX7_instruction 14 = .ok (.iload 4, 2) := by decide +kernel
theorem dX7_instruction_16 : decode cX7_instruction 16 = .ok (.invokestatic 104, 3) := by decide +kernel
theorem dX7_instruction_19 : decode cX7_instruction 19 = .ok (.ifCond .ne 6, 3) := by decide +kernel
theorem dX7_instruction_22 : decode cX7_instruction 22 = .ok (.bipush (-2), 2) := by decide +kernel
theorem dX7_instruction_24 : decode cX7_instruction 24 = .ok (.ireturn, 1) := by decide +kernel
theorem dX7_instruction_25 : decode cX7_instruction 25 = .ok (.iload 5, 2) := by decide +kernel
theorem dX7_instruction_27 : decode cX7_instruction 27 = .ok (.iconst (-1), 1) := by decide +kernel
theorem dX7_instruction_28 : decode cX7_instruction 28 = .ok (.if_icmp .lt 11, 3) := by decide +kernel
theorem dX7_instruction_31 : decode cX7_instruction 31 = .ok (.iload 5, 2) := by decide +kernel
theorem dX7_instruction_33 : decode cX7_instruction 33 = .ok (.sipush 255, 3) := by decide +kernel
theorem dX7_instruction_36 : decode cX7_instruction 36 = .ok (.if_icmp .le 6, 3) := by decide +kernel
theorem dX7_instruction_39 : decode cX7_instruction 39 = .ok (.bipush (-2), 2) := by decide +kernel
theorem dX7_instruction_41 : decode cX7_instruction 41 = .ok (.ireturn, 1) := by decide +kernel
theorem dX7_instruction_42 : decode cX7_instruction 42 = .ok (.aload_n 0, 1) := by decide +kernel
theorem dX7_instruction_43 : decode cX7_instruction 43 = .ok (.getfield 26, 3) := by decide +kernel
theorem dX7_instruction_46 : decode cX7_instruction 46 = .ok (.iload_n 1, 1) := by decide +kernel
theorem dX7_instruction_47 : decode cX7_instruction 47 = .ok (.iload_n 2, 1) := by decide +kernel
theorem dX7_instruction_48 : decode cX7_instruction 48 = .ok (.iload_n 3, 1) := by decide +kernel
theorem dX7_instruction_49 : decode cX7_instruction 49 = .ok (.iload 4, 2) := by decide +kernel
theorem dX7_instruction_51 : decode cX7_instruction 51 = .ok (.iload 5, 2) := by decide +kernel
theorem dX7_instruction_53 : decode cX7_instruction 53 = .ok (.invokevirtual 108, 3) := by decide +kernel
theorem dX7_instruction_56 : decode cX7_instruction 56 = .ok (.ireturn, 1) := by decide +kernel
theorem dX7_routine_0 : decode cX7_routine 0 = .ok (.iload_n 1, 1) := by decide +kernel
theorem dX7_routine_1 : decode cX7_routine 1 = .ok (.bipush 7, 2) := by decide +kernel
theorem dX7_routine_3 : decode cX7_routine 3 = .ok (.invokestatic 82, 3) := by decide +kernel
theorem dX7_routine_6 : decode cX7_routine 6 = .ok (.ifCond .ne 5, 3) := by decide +kernel
theorem dX7_routine_9 : decode cX7_routine 9 = .ok (.iconst (-1), 1) := by decide +kernel
theorem dX7_routine_10 : decode cX7_routine 10 = .ok (.ireturn, 1) := by decide +kernel
theorem dX7_routine_11 : decode cX7_routine 11 = .ok (.iload_n 2, 1) := by decide +kernel
theorem dX7_routine_12 : decode cX7_routine 12 = .ok (.bipush 99, 2) := by decide +kernel
theorem dX7_routine_14 : decode cX7_routine 14 = .ok (.invokestatic 82, 3) := by decide +kernel
theorem dX7_routine_17 : decode cX7_routine 17 = .ok (.ifCond .eq 12, 3) := by decide +kernel
theorem dX7_routine_20 : decode cX7_routine 20 = .ok (.iload_n 3, 1) := by decide +kernel
theorem dX7_routine_21 : decode cX7_routine 21 = .ok (.bipush 15, 2) := by decide +kernel
theorem dX7_routine_23 : decode cX7_routine 23 = .ok (.invokestatic 82, 3) := by decide +kernel
theorem dX7_routine_26 : decode cX7_routine 26 = .ok (.ifCond .ne 6, 3) := by decide +kernel
theorem dX7_routine_29 : decode cX7_routine 29 = .ok (.bipush (-2), 2) := by decide +kernel
theorem dX7_routine_31 : decode cX7_routine 31 = .ok (.ireturn, 1) := by decide +kernel
theorem dX7_routine_32 : decode cX7_routine 32 = .ok (.aload_n 0, 1) := by decide +kernel
theorem dX7_routine_33 : decode cX7_routine 33 = .ok (.getfield 26, 3) := by decide +kernel
theorem dX7_routine_36 : decode cX7_routine 36 = .ok (.iload_n 1, 1) := by decide +kernel
theorem dX7_routine_37 : decode cX7_routine 37 = .ok (.iload_n 2, 1) := by decide +kernel
theorem dX7_routine_38 : decode cX7_routine 38 = .ok (.iload_n 3, 1) := by decide +kernel
theorem dX7_routine_39 : decode cX7_routine 39 = .ok (.iload 4, 2) := by decide +kernel
theorem dX7_routine_41 : decode cX7_routine 41 = .ok (.invokevirtual 112, 3) := by decide +kernel
theorem dX7_routine_44 : decode cX7_routine 44 = .ok (.iconst 1, 1) := by decide +kernel
theorem dX7_routine_45 : decode cX7_routine 45 = .ok (.ireturn, 1) := by decide +kernel
theorem dX7_clear_0 : decode cX7_clear 0 = .ok (.aload_n 0, 1) := by decide +kernel
theorem dX7_clear_1 : decode cX7_clear 1 = .ok (.getfield 26, 3) := by decide +kernel
theorem dX7_clear_4 : decode cX7_clear 4 = .ok (.invokevirtual 116, 3) := by decide +kernel
theorem dX7_clear_7 : decode cX7_clear 7 = .ok (.ireturn, 1) := by decide +kernel
theorem dX7_run_0 : decode cX7_run 0 = .ok (.aload_n 0, 1) := by decide +kernel
theorem dX7_run_1 : decode cX7_run 1 = .ok (.getfield 26, 3) := by decide +kernel
theorem dX7_run_4 : decode cX7_run 4 = .ok (.iload_n 1, 1) := by decide +kernel
theorem dX7_run_5 : decode cX7_run 5 = .ok (.invokevirtual 120, 3) := by decide +kernel
theorem dX7_run_8 : decode cX7_run 8 = .ok (.ifCond .ne 5, 3) := by decide +kernel
theorem dX7_run_11 : decode cX7_run 11 = .ok (.iconst (-1), 1) := by decide +kernel
theorem dX7_run_12 : decode cX7_run 12 = .ok (.ireturn, 1) := by decide +kernel
theorem dX7_run_13 : decode cX7_run 13 = .ok (.aload_n 0, 1) := by decide +kernel
theorem dX7_run_14 : decode cX7_run 14 = .ok (.getfield 35, 3) := by decide +kernel
theorem dX7_run_17 : decode cX7_run 17 = .ok (.iload_n 1, 1) := by decide +kernel
theorem dX7_run_18 : decode cX7_run 18 = .ok (.iload_n 2, 1) := by decide +kernel
theorem dX7_run_19 : decode cX7_run 19 = .ok (.invokestatic 76, 3) := by decide +kernel
theorem dX7_run_22 : decode cX7_run 22 = .ok (.iload_n 3, 1) := by decide +kernel
theorem dX7_run_23 : decode cX7_run 23 = .ok (.invokestatic 76, 3) := by decide +kernel
theorem dX7_run_26 : decode cX7_run 26 = .ok (.invokevirtual 123, 3) := by decide +kernel
theorem dX7_run_29 : decode cX7_run 29 = .ok (.iconst 0, 1) := by decide +kernel
theorem dX7_run_30 : decode cX7_run 30 = .ok (.istore 4, 2) := by decide +kernel
theorem dX7_run_32 : decode cX7_run 32 = .ok (.iload 4, 2) := by decide +kernel
theorem dX7_run_34 : decode cX7_run 34 = .ok (.sipush 300, 3) := by decide +kernel
theorem dX7_run_37 : decode cX7_run 37 = .ok (.if_icmp .ge 33, 3) := by decide +kernel
theorem dX7_run_40 : decode cX7_run 40 = .ok (.aload_n 0, 1) := by decide +kernel
theorem dX7_run_41 : decode cX7_run 41 = .ok (.getfield 35, 3) := by decide +kernel
theorem dX7_run_44 : decode cX7_run 44 = .ok (.invokevirtual 126, 3) := by decide +kernel
theorem dX7_run_47 : decode cX7_run 47 = .ok (.ifCond .eq 23, 3) := by decide +kernel
theorem dX7_run_50 : decode cX7_run 50 = .ok (.aload_n 0, 1) := by decide +kernel
theorem dX7_run_51 : decode cX7_run 51 = .ok (.getfield 35, 3) := by decide +kernel
theorem dX7_run_54 : decode cX7_run 54 = .ok (.aload_n 0, 1) := by decide +kernel
theorem dX7_run_55 : decode cX7_run 55 = .ok (.getfield 35, 3) := by decide +kernel
theorem dX7_run_58 : decode cX7_run 58 = .ok (.invokevirtual 130, 3) := by decide +kernel
theorem dX7_run_61 : decode cX7_run 61 = .ok (.invokevirtual 133, 3) := by decide +kernel
theorem dX7_run_64 : decode cX7_run 64 = .ok (.iinc 4 1, 3) := by decide +kernel
theorem dX7_run_67 : decode cX7_run 67 = .ok (.goto (-35), 3) := by decide +kernel
theorem dX7_run_70 : decode cX7_run 70 = .ok (.aload_n 0, 1) := by decide +kernel
theorem dX7_run_71 : decode cX7_run 71 = .ok (.getfield 35, 3) := by decide +kernel
theorem dX7_run_74 : decode cX7_run 74 = .ok (.invokevirtual 137, 3) := by decide +kernel
theorem dX7_run_77 : decode cX7_run 77 = .ok (.ireturn, 1) := by decide +kernel
theorem dX7_told_0 : decode cX7_told 0 = .ok (.iload_n 1, 1) := by decide +kernel
theorem dX7_told_1 : decode cX7_told 1 = .ok (.tableswitch 132 0 8 #[51, 59, 70, 78, 86, 94, 105, 116, 124], 51) := by decide +kernel
theorem dX7_told_52 : decode cX7_told 52 = .ok (.aload_n 0, 1) := by decide +kernel
theorem dX7_told_53 : decode cX7_told 53 = .ok (.getfield 35, 3) := by decide +kernel
theorem dX7_told_56 : decode cX7_told 56 = .ok (.getfield 140, 3) := by decide +kernel
theorem dX7_told_59 : decode cX7_told 59 = .ok (.ireturn, 1) := by decide +kernel
theorem dX7_told_60 : decode cX7_told 60 = .ok (.aload_n 0, 1) := by decide +kernel
theorem dX7_told_61 : decode cX7_told 61 = .ok (.getfield 35, 3) := by decide +kernel
theorem dX7_told_64 : decode cX7_told 64 = .ok (.getfield 143, 3) := by decide +kernel
theorem dX7_told_67 : decode cX7_told 67 = .ok (.invokestatic 64, 3) := by decide +kernel
theorem dX7_told_70 : decode cX7_told 70 = .ok (.ireturn, 1) := by decide +kernel
theorem dX7_told_71 : decode cX7_told 71 = .ok (.aload_n 0, 1) := by decide +kernel
theorem dX7_told_72 : decode cX7_told 72 = .ok (.getfield 35, 3) := by decide +kernel
theorem dX7_told_75 : decode cX7_told 75 = .ok (.getfield 146, 3) := by decide +kernel
theorem dX7_told_78 : decode cX7_told 78 = .ok (.ireturn, 1) := by decide +kernel
theorem dX7_told_79 : decode cX7_told 79 = .ok (.aload_n 0, 1) := by decide +kernel
theorem dX7_told_80 : decode cX7_told 80 = .ok (.getfield 35, 3) := by decide +kernel
theorem dX7_told_83 : decode cX7_told 83 = .ok (.getfield 149, 3) := by decide +kernel
theorem dX7_told_86 : decode cX7_told 86 = .ok (.ireturn, 1) := by decide +kernel
theorem dX7_told_87 : decode cX7_told 87 = .ok (.aload_n 0, 1) := by decide +kernel
theorem dX7_told_88 : decode cX7_told 88 = .ok (.getfield 35, 3) := by decide +kernel
theorem dX7_told_91 : decode cX7_told 91 = .ok (.getfield 152, 3) := by decide +kernel
theorem dX7_told_94 : decode cX7_told 94 = .ok (.ireturn, 1) := by decide +kernel
theorem dX7_told_95 : decode cX7_told 95 = .ok (.aload_n 0, 1) := by decide +kernel
theorem dX7_told_96 : decode cX7_told 96 = .ok (.getfield 35, 3) := by decide +kernel
theorem dX7_told_99 : decode cX7_told 99 = .ok (.getfield 155, 3) := by decide +kernel
theorem dX7_told_102 : decode cX7_told 102 = .ok (.getfield 159, 3) := by decide +kernel
theorem dX7_told_105 : decode cX7_told 105 = .ok (.ireturn, 1) := by decide +kernel
theorem dX7_told_106 : decode cX7_told 106 = .ok (.aload_n 0, 1) := by decide +kernel
theorem dX7_told_107 : decode cX7_told 107 = .ok (.getfield 35, 3) := by decide +kernel
theorem dX7_told_110 : decode cX7_told 110 = .ok (.getfield 164, 3) := by decide +kernel
theorem dX7_told_113 : decode cX7_told 113 = .ok (.getfield 168, 3) := by decide +kernel
theorem dX7_told_116 : decode cX7_told 116 = .ok (.ireturn, 1) := by decide +kernel
theorem dX7_told_117 : decode cX7_told 117 = .ok (.aload_n 0, 1) := by decide +kernel
theorem dX7_told_118 : decode cX7_told 118 = .ok (.getfield 26, 3) := by decide +kernel
theorem dX7_told_121 : decode cX7_told 121 = .ok (.getfield 173, 3) := by decide +kernel
theorem dX7_told_124 : decode cX7_told 124 = .ok (.ireturn, 1) := by decide +kernel
theorem dX7_told_125 : decode cX7_told 125 = .ok (.aload_n 0, 1) := by decide +kernel
theorem dX7_told_126 : decode cX7_told 126 = .ok (.getfield 19, 3) := by decide +kernel
theorem dX7_told_129 : decode cX7_told 129 = .ok (.getfield 174, 3) := by decide +kernel
theorem dX7_told_132 : decode cX7_told 132 = .ok (.ireturn, 1) := by decide +kernel
theorem dX7_told_133 : decode cX7_told 133 = .ok (.bipush (-2), 2) := by decide +kernel
theorem dX7_told_135 : decode cX7_told 135 = .ok (.ireturn, 1) := by decide +kernel
theorem dX7_printed_0 : decode cX7_printed 0 = .ok (.aload_n 0, 1) := by decide +kernel
theorem dX7_printed_1 : decode cX7_printed 1 = .ok (.getfield 35, 3) := by decide +kernel
theorem dX7_printed_4 : decode cX7_printed 4 = .ok (.getfield 155, 3) := by decide +kernel
theorem dX7_printed_7 : decode cX7_printed 7 = .ok (.iload_n 1, 1) := by decide +kernel
theorem dX7_printed_8 : decode cX7_printed 8 = .ok (.invokevirtual 177, 3) := by decide +kernel
theorem dX7_printed_11 : decode cX7_printed 11 = .ok (.istore_n 2, 1) := by decide +kernel
theorem dX7_printed_12 : decode cX7_printed 12 = .ok (.iload_n 2, 1) := by decide +kernel
theorem dX7_printed_13 : decode cX7_printed 13 = .ok (.ifCond .ge 13, 3) := by decide +kernel
theorem dX7_printed_16 : decode cX7_printed 16 = .ok (.new 180, 3) := by decide +kernel
theorem dX7_printed_19 : decode cX7_printed 19 = .ok (.dup, 1) := by decide +kernel
theorem dX7_printed_20 : decode cX7_printed 20 = .ok (.ldc 182, 2) := by decide +kernel
theorem dX7_printed_22 : decode cX7_printed 22 = .ok (.invokespecial 184, 3) := by decide +kernel
theorem dX7_printed_25 : decode cX7_printed 25 = .ok (.athrow, 1) := by decide +kernel
theorem dX7_printed_26 : decode cX7_printed 26 = .ok (.iload_n 2, 1) := by decide +kernel
theorem dX7_printed_27 : decode cX7_printed 27 = .ok (.ireturn, 1) := by decide +kernel
theorem dX7_left_0 : decode cX7_left 0 = .ok (.iload_n 1, 1) := by decide +kernel
theorem dX7_left_1 : decode cX7_left 1 = .ok (.bipush 7, 2) := by decide +kernel
theorem dX7_left_3 : decode cX7_left 3 = .ok (.invokestatic 82, 3) := by decide +kernel
theorem dX7_left_6 : decode cX7_left 6 = .ok (.ifCond .eq 15, 3) := by decide +kernel
theorem dX7_left_9 : decode cX7_left 9 = .ok (.aload_n 0, 1) := by decide +kernel
theorem dX7_left_10 : decode cX7_left 10 = .ok (.getfield 35, 3) := by decide +kernel
theorem dX7_left_13 : decode cX7_left 13 = .ok (.getfield 185, 3) := by decide +kernel
theorem dX7_left_16 : decode cX7_left 16 = .ok (.iload_n 1, 1) := by decide +kernel
theorem dX7_left_17 : decode cX7_left 17 = .ok (.iaload, 1) := by decide +kernel
theorem dX7_left_18 : decode cX7_left 18 = .ok (.goto 4, 3) := by decide +kernel
theorem dX7_left_21 : decode cX7_left 21 = .ok (.iconst (-1), 1) := by decide +kernel
theorem dX7_left_22 : decode cX7_left 22 = .ok (.ireturn, 1) := by decide +kernel
theorem dX7_isWithin_0 : decode cX7_isWithin 0 = .ok (.iload_n 0, 1) := by decide +kernel
theorem dX7_isWithin_1 : decode cX7_isWithin 1 = .ok (.ifCond .lt 12, 3) := by decide +kernel
theorem dX7_isWithin_4 : decode cX7_isWithin 4 = .ok (.iload_n 0, 1) := by decide +kernel
theorem dX7_isWithin_5 : decode cX7_isWithin 5 = .ok (.iload_n 1, 1) := by decide +kernel
theorem dX7_isWithin_6 : decode cX7_isWithin 6 = .ok (.if_icmp .gt 7, 3) := by decide +kernel
theorem dX7_isWithin_9 : decode cX7_isWithin 9 = .ok (.iconst 1, 1) := by decide +kernel
theorem dX7_isWithin_10 : decode cX7_isWithin 10 = .ok (.goto 4, 3) := by decide +kernel
theorem dX7_isWithin_13 : decode cX7_isWithin 13 = .ok (.iconst 0, 1) := by decide +kernel
theorem dX7_isWithin_14 : decode cX7_isWithin 14 = .ok (.ireturn, 1) := by decide +kernel
theorem dX7_isOperand_0 : decode cX7_isOperand 0 = .ok (.iload_n 0, 1) := by decide +kernel
theorem dX7_isOperand_1 : decode cX7_isOperand 1 = .ok (.sipush (-256), 3) := by decide +kernel
theorem dX7_isOperand_4 : decode cX7_isOperand 4 = .ok (.if_icmp .lt 13, 3) := by decide +kernel
theorem dX7_isOperand_7 : decode cX7_isOperand 7 = .ok (.iload_n 0, 1) := by decide +kernel
theorem dX7_isOperand_8 : decode cX7_isOperand 8 = .ok (.ldc 93, 2) := by decide +kernel
theorem dX7_isOperand_10 : decode cX7_isOperand 10 = .ok (.if_icmp .gt 7, 3) := by decide +kernel
theorem dX7_isOperand_13 : decode cX7_isOperand 13 = .ok (.iconst 1, 1) := by decide +kernel
theorem dX7_isOperand_14 : decode cX7_isOperand 14 = .ok (.goto 4, 3) := by decide +kernel
theorem dX7_isOperand_17 : decode cX7_isOperand 17 = .ok (.iconst 0, 1) := by decide +kernel
theorem dX7_isOperand_18 : decode cX7_isOperand 18 = .ok (.ireturn, 1) := by decide +kernel
theorem dX7_word_0 : decode cX7_word 0 = .ok (.iload_n 0, 1) := by decide +kernel
theorem dX7_word_1 : decode cX7_word 1 = .ok (.ldc 93, 2) := by decide +kernel
theorem dX7_word_3 : decode cX7_word 3 = .ok (.iand, 1) := by decide +kernel
theorem dX7_word_4 : decode cX7_word 4 = .ok (.ireturn, 1) := by decide +kernel
theorem dX7_number_0 : decode cX7_number 0 = .ok (.iload_n 0, 1) := by decide +kernel
theorem dX7_number_1 : decode cX7_number 1 = .ok (.i2s, 1) := by decide +kernel
theorem dX7_number_2 : decode cX7_number 2 = .ok (.ireturn, 1) := by decide +kernel
theorem dX7_arithmetic_0 : decode cX7_arithmetic 0 = .ok (.iload_n 0, 1) := by decide +kernel
theorem dX7_arithmetic_1 : decode cX7_arithmetic 1 = .ok (.tableswitch 144 0 9 #[55, 62, 69, 76, 92, 108, 115, 122, 129, 135], 55) := by decide +kernel
theorem dX7_arithmetic_56 : decode cX7_arithmetic 56 = .ok (.iload_n 1, 1) := by decide +kernel
theorem dX7_arithmetic_57 : decode cX7_arithmetic 57 = .ok (.iload_n 2, 1) := by decide +kernel
theorem dX7_arithmetic_58 : decode cX7_arithmetic 58 = .ok (.iadd, 1) := by decide +kernel
theorem dX7_arithmetic_59 : decode cX7_arithmetic 59 = .ok (.invokestatic 76, 3) := by decide +kernel
theorem dX7_arithmetic_62 : decode cX7_arithmetic 62 = .ok (.ireturn, 1) := by decide +kernel
theorem dX7_arithmetic_63 : decode cX7_arithmetic 63 = .ok (.iload_n 1, 1) := by decide +kernel
theorem dX7_arithmetic_64 : decode cX7_arithmetic 64 = .ok (.iload_n 2, 1) := by decide +kernel
theorem dX7_arithmetic_65 : decode cX7_arithmetic 65 = .ok (.isub, 1) := by decide +kernel
theorem dX7_arithmetic_66 : decode cX7_arithmetic 66 = .ok (.invokestatic 76, 3) := by decide +kernel
theorem dX7_arithmetic_69 : decode cX7_arithmetic 69 = .ok (.ireturn, 1) := by decide +kernel
theorem dX7_arithmetic_70 : decode cX7_arithmetic 70 = .ok (.iload_n 1, 1) := by decide +kernel
theorem dX7_arithmetic_71 : decode cX7_arithmetic 71 = .ok (.iload_n 2, 1) := by decide +kernel
theorem dX7_arithmetic_72 : decode cX7_arithmetic 72 = .ok (.imul, 1) := by decide +kernel
theorem dX7_arithmetic_73 : decode cX7_arithmetic 73 = .ok (.invokestatic 76, 3) := by decide +kernel
theorem dX7_arithmetic_76 : decode cX7_arithmetic 76 = .ok (.ireturn, 1) := by decide +kernel
theorem dX7_arithmetic_77 : decode cX7_arithmetic 77 = .ok (.iload_n 2, 1) := by decide +kernel
theorem dX7_arithmetic_78 : decode cX7_arithmetic 78 = .ok (.ifCond .ne 8, 3) := by decide +kernel
theorem dX7_arithmetic_81 : decode cX7_arithmetic 81 = .ok (.bipush (-11), 2) := by decide +kernel
theorem dX7_arithmetic_83 : decode cX7_arithmetic 83 = .ok (.goto 9, 3) := by decide +kernel
theorem dX7_arithmetic_86 : decode cX7_arithmetic 86 = .ok (.iload_n 1, 1) := by decide +kernel
theorem dX7_arithmetic_87 : decode cX7_arithmetic 87 = .ok (.iload_n 2, 1) := by decide +kernel
theorem dX7_arithmetic_88 : decode cX7_arithmetic 88 = .ok (.idiv, 1) := by decide +kernel
theorem dX7_arithmetic_89 : decode cX7_arithmetic 89 = .ok (.invokestatic 76, 3) := by decide +kernel
theorem dX7_arithmetic_92 : decode cX7_arithmetic 92 = .ok (.ireturn, 1) := by decide +kernel
theorem dX7_arithmetic_93 : decode cX7_arithmetic 93 = .ok (.iload_n 2, 1) := by decide +kernel
theorem dX7_arithmetic_94 : decode cX7_arithmetic 94 = .ok (.ifCond .ne 8, 3) := by decide +kernel
theorem dX7_arithmetic_97 : decode cX7_arithmetic 97 = .ok (.bipush (-11), 2) := by decide +kernel
theorem dX7_arithmetic_99 : decode cX7_arithmetic 99 = .ok (.goto 9, 3) := by decide +kernel
theorem dX7_arithmetic_102 : decode cX7_arithmetic 102 = .ok (.iload_n 1, 1) := by decide +kernel
theorem dX7_arithmetic_103 : decode cX7_arithmetic 103 = .ok (.iload_n 2, 1) := by decide +kernel
theorem dX7_arithmetic_104 : decode cX7_arithmetic 104 = .ok (.irem, 1) := by decide +kernel
theorem dX7_arithmetic_105 : decode cX7_arithmetic 105 = .ok (.invokestatic 76, 3) := by decide +kernel
theorem dX7_arithmetic_108 : decode cX7_arithmetic 108 = .ok (.ireturn, 1) := by decide +kernel
theorem dX7_arithmetic_109 : decode cX7_arithmetic 109 = .ok (.iload_n 1, 1) := by decide +kernel
theorem dX7_arithmetic_110 : decode cX7_arithmetic 110 = .ok (.iload_n 2, 1) := by decide +kernel
theorem dX7_arithmetic_111 : decode cX7_arithmetic 111 = .ok (.iand, 1) := by decide +kernel
theorem dX7_arithmetic_112 : decode cX7_arithmetic 112 = .ok (.invokestatic 76, 3) := by decide +kernel
theorem dX7_arithmetic_115 : decode cX7_arithmetic 115 = .ok (.ireturn, 1) := by decide +kernel
theorem dX7_arithmetic_116 : decode cX7_arithmetic 116 = .ok (.iload_n 1, 1) := by decide +kernel
theorem dX7_arithmetic_117 : decode cX7_arithmetic 117 = .ok (.iload_n 2, 1) := by decide +kernel
theorem dX7_arithmetic_118 : decode cX7_arithmetic 118 = .ok (.ior, 1) := by decide +kernel
theorem dX7_arithmetic_119 : decode cX7_arithmetic 119 = .ok (.invokestatic 76, 3) := by decide +kernel
theorem dX7_arithmetic_122 : decode cX7_arithmetic 122 = .ok (.ireturn, 1) := by decide +kernel
theorem dX7_arithmetic_123 : decode cX7_arithmetic 123 = .ok (.iload_n 1, 1) := by decide +kernel
theorem dX7_arithmetic_124 : decode cX7_arithmetic 124 = .ok (.iconst (-1), 1) := by decide +kernel
theorem dX7_arithmetic_125 : decode cX7_arithmetic 125 = .ok (.ixor, 1) := by decide +kernel
theorem dX7_arithmetic_126 : decode cX7_arithmetic 126 = .ok (.invokestatic 76, 3) := by decide +kernel
theorem dX7_arithmetic_129 : decode cX7_arithmetic 129 = .ok (.ireturn, 1) := by decide +kernel
theorem dX7_arithmetic_130 : decode cX7_arithmetic 130 = .ok (.iload_n 1, 1) := by decide +kernel
theorem dX7_arithmetic_131 : decode cX7_arithmetic 131 = .ok (.iload_n 2, 1) := by decide +kernel
theorem dX7_arithmetic_132 : decode cX7_arithmetic 132 = .ok (.invokestatic 189, 3) := by decide +kernel
theorem dX7_arithmetic_135 : decode cX7_arithmetic 135 = .ok (.ireturn, 1) := by decide +kernel
theorem dX7_arithmetic_136 : decode cX7_arithmetic 136 = .ok (.iload_n 1, 1) := by decide +kernel
theorem dX7_arithmetic_137 : decode cX7_arithmetic 137 = .ok (.invokestatic 76, 3) := by decide +kernel
theorem dX7_arithmetic_140 : decode cX7_arithmetic 140 = .ok (.iload_n 2, 1) := by decide +kernel
theorem dX7_arithmetic_141 : decode cX7_arithmetic 141 = .ok (.invokestatic 193, 3) := by decide +kernel
theorem dX7_arithmetic_144 : decode cX7_arithmetic 144 = .ok (.ireturn, 1) := by decide +kernel
theorem dX7_arithmetic_145 : decode cX7_arithmetic 145 = .ok (.bipush (-20), 2) := by decide +kernel
theorem dX7_arithmetic_147 : decode cX7_arithmetic 147 = .ok (.ireturn, 1) := by decide +kernel
theorem dX7_shiftNumber_0 : decode cX7_shiftNumber 0 = .ok (.iload_n 1, 1) := by decide +kernel
theorem dX7_shiftNumber_1 : decode cX7_shiftNumber 1 = .ok (.ifCond .le 14, 3) := by decide +kernel
theorem dX7_shiftNumber_4 : decode cX7_shiftNumber 4 = .ok (.iload_n 0, 1) := by decide +kernel
theorem dX7_shiftNumber_5 : decode cX7_shiftNumber 5 = .ok (.iload_n 1, 1) := by decide +kernel
theorem dX7_shiftNumber_6 : decode cX7_shiftNumber 6 = .ok (.bipush 15, 2) := by decide +kernel
theorem dX7_shiftNumber_8 : decode cX7_shiftNumber 8 = .ok (.invokestatic 196, 3) := by decide +kernel
theorem dX7_shiftNumber_11 : decode cX7_shiftNumber 11 = .ok (.ishl, 1) := by decide +kernel
theorem dX7_shiftNumber_12 : decode cX7_shiftNumber 12 = .ok (.goto 12, 3) := by decide +kernel
theorem dX7_shiftNumber_15 : decode cX7_shiftNumber 15 = .ok (.iload_n 0, 1) := by decide +kernel
theorem dX7_shiftNumber_16 : decode cX7_shiftNumber 16 = .ok (.iload_n 1, 1) := by decide +kernel
theorem dX7_shiftNumber_17 : decode cX7_shiftNumber 17 = .ok (.ineg, 1) := by decide +kernel
theorem dX7_shiftNumber_18 : decode cX7_shiftNumber 18 = .ok (.bipush 15, 2) := by decide +kernel
theorem dX7_shiftNumber_20 : decode cX7_shiftNumber 20 = .ok (.invokestatic 196, 3) := by decide +kernel
theorem dX7_shiftNumber_23 : decode cX7_shiftNumber 23 = .ok (.ishr, 1) := by decide +kernel
theorem dX7_shiftNumber_24 : decode cX7_shiftNumber 24 = .ok (.invokestatic 76, 3) := by decide +kernel
theorem dX7_shiftNumber_27 : decode cX7_shiftNumber 27 = .ok (.ireturn, 1) := by decide +kernel
theorem dX7_shiftBits_0 : decode cX7_shiftBits 0 = .ok (.iload_n 1, 1) := by decide +kernel
theorem dX7_shiftBits_1 : decode cX7_shiftBits 1 = .ok (.bipush 15, 2) := by decide +kernel
theorem dX7_shiftBits_3 : decode cX7_shiftBits 3 = .ok (.if_icmp .gt 9, 3) := by decide +kernel
theorem dX7_shiftBits_6 : decode cX7_shiftBits 6 = .ok (.iload_n 1, 1) := by decide +kernel
theorem dX7_shiftBits_7 : decode cX7_shiftBits 7 = .ok (.bipush (-15), 2) := by decide +kernel
theorem dX7_shiftBits_9 : decode cX7_shiftBits 9 = .ok (.if_icmp .ge 5, 3) := by decide +kernel
theorem dX7_shiftBits_12 : decode cX7_shiftBits 12 = .ok (.iconst 0, 1) := by decide +kernel
theorem dX7_shiftBits_13 : decode cX7_shiftBits 13 = .ok (.ireturn, 1) := by decide +kernel
theorem dX7_shiftBits_14 : decode cX7_shiftBits 14 = .ok (.iload_n 1, 1) := by decide +kernel
theorem dX7_shiftBits_15 : decode cX7_shiftBits 15 = .ok (.ifCond .le 12, 3) := by decide +kernel
theorem dX7_shiftBits_18 : decode cX7_shiftBits 18 = .ok (.iload_n 0, 1) := by decide +kernel
theorem dX7_shiftBits_19 : decode cX7_shiftBits 19 = .ok (.iload_n 1, 1) := by decide +kernel
theorem dX7_shiftBits_20 : decode cX7_shiftBits 20 = .ok (.ishl, 1) := by decide +kernel
theorem dX7_shiftBits_21 : decode cX7_shiftBits 21 = .ok (.invokestatic 76, 3) := by decide +kernel
theorem dX7_shiftBits_24 : decode cX7_shiftBits 24 = .ok (.goto 7, 3) := by decide +kernel
theorem dX7_shiftBits_27 : decode cX7_shiftBits 27 = .ok (.iload_n 0, 1) := by decide +kernel
theorem dX7_shiftBits_28 : decode cX7_shiftBits 28 = .ok (.iload_n 1, 1) := by decide +kernel
theorem dX7_shiftBits_29 : decode cX7_shiftBits 29 = .ok (.ineg, 1) := by decide +kernel
theorem dX7_shiftBits_30 : decode cX7_shiftBits 30 = .ok (.iushr, 1) := by decide +kernel
theorem dX7_shiftBits_31 : decode cX7_shiftBits 31 = .ok (.ireturn, 1) := by decide +kernel
theorem dJ7_fill_53178_0 : decode cJ7_fill_53178 0 = .ok (.iconst 0, 1) := by decide +kernel
theorem dJ7_fill_53178_1 : decode cJ7_fill_53178 1 = .ok (.istore_n 2, 1) := by decide +kernel
theorem dJ7_fill_53178_2 : decode cJ7_fill_53178 2 = .ok (.aload_n 0, 1) := by decide +kernel
theorem dJ7_fill_53178_3 : decode cJ7_fill_53178 3 = .ok (.arraylength, 1) := by decide +kernel
theorem dJ7_fill_53178_4 : decode cJ7_fill_53178 4 = .ok (.istore_n 3, 1) := by decide +kernel
theorem dJ7_fill_53178_5 : decode cJ7_fill_53178 5 = .ok (.iload_n 2, 1) := by decide +kernel
theorem dJ7_fill_53178_6 : decode cJ7_fill_53178 6 = .ok (.iload_n 3, 1) := by decide +kernel
theorem dJ7_fill_53178_7 : decode cJ7_fill_53178 7 = .ok (.if_icmp .ge 13, 3) := by decide +kernel
theorem dJ7_fill_53178_10 : decode cJ7_fill_53178 10 = .ok (.aload_n 0, 1) := by decide +kernel
theorem dJ7_fill_53178_11 : decode cJ7_fill_53178 11 = .ok (.iload_n 2, 1) := by decide +kernel
theorem dJ7_fill_53178_12 : decode cJ7_fill_53178 12 = .ok (.iload_n 1, 1) := by decide +kernel
theorem dJ7_fill_53178_13 : decode cJ7_fill_53178 13 = .ok (.iastore, 1) := by decide +kernel
theorem dJ7_fill_53178_14 : decode cJ7_fill_53178 14 = .ok (.iinc 2 1, 3) := by decide +kernel
theorem dJ7_fill_53178_17 : decode cJ7_fill_53178 17 = .ok (.goto (-12), 3) := by decide +kernel
theorem dJ7_fill_53178_20 : decode cJ7_fill_53178 20 = .ok (.return_, 1) := by decide +kernel
