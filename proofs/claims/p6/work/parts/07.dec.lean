theorem dX0_init_0 : decode cX0_init 0 = .ok (.aload_n 0, 1) := by decide +kernel
theorem dX0_init_1 : decode cX0_init 1 = .ok (.invokespecial 3, 3) := by decide +kernel
theorem dX0_init_4 : decode cX0_init 4 = .ok (.aload_n 0, 1) := by decide +kernel
theorem dX0_init_5 : decode cX0_init 5 = .ok (.bipush 50, 2) := by decide +kernel
theorem dX0_init_7 : decode cX0_init 7 = .ok (.newarray .int, 2) := by decide +kernel
theorem dX0_init_9 : decode cX0_init 9 = .ok (.putfield 9, 3) := by decide +kernel
theorem dX0_init_12 : decode cX0_init 12 = .ok (.aload_n 0, 1) := by decide +kernel
theorem dX0_init_13 : decode cX0_init 13 = .ok (.iconst 0, 1) := by decide +kernel
theorem dX0_init_14 : decode cX0_init 14 = .ok (.putfield 15, 3) := by decide +kernel
theorem dX0_init_17 : decode cX0_init 17 = .ok (.aload_n 0, 1) := by decide +kernel
theorem dX0_init_18 : decode cX0_init 18 = .ok (.iconst 1, 1) := by decide +kernel
theorem dX0_init_19 : decode cX0_init 19 = .ok (.putfield 19, 3) := by decide +kernel
theorem dX0_init_22 : decode cX0_init 22 = .ok (.return_, 1) := by decide +kernel
theorem dX0_record_0 : decode cX0_record 0 = .ok (.aload_n 0, 1) := by decide +kernel
theorem dX0_record_1 : decode cX0_record 1 = .ok (.getfield 22, 3) := by decide +kernel
theorem dX0_record_4 : decode cX0_record 4 = .ok (.bipush 50, 2) := by decide +kernel
theorem dX0_record_6 : decode cX0_record 6 = .ok (.if_icmp .lt 6, 3) := by decide +kernel
theorem dX0_record_9 : decode cX0_record 9 = .ok (.bipush (-3), 2) := by decide +kernel
theorem dX0_record_11 : decode cX0_record 11 = .ok (.ireturn, 1) := by decide +kernel
theorem dX0_record_12 : decode cX0_record 12 = .ok (.aload_n 0, 1) := by decide +kernel
theorem dX0_record_13 : decode cX0_record 13 = .ok (.getfield 9, 3) := by decide +kernel
theorem dX0_record_16 : decode cX0_record 16 = .ok (.aload_n 0, 1) := by decide +kernel
theorem dX0_record_17 : decode cX0_record 17 = .ok (.getfield 25, 3) := by decide +kernel
theorem dX0_record_20 : decode cX0_record 20 = .ok (.aload_n 0, 1) := by decide +kernel
theorem dX0_record_21 : decode cX0_record 21 = .ok (.getfield 22, 3) := by decide +kernel
theorem dX0_record_24 : decode cX0_record 24 = .ok (.iadd, 1) := by decide +kernel
theorem dX0_record_25 : decode cX0_record 25 = .ok (.bipush 50, 2) := by decide +kernel
theorem dX0_record_27 : decode cX0_record 27 = .ok (.irem, 1) := by decide +kernel
theorem dX0_record_28 : decode cX0_record 28 = .ok (.iload_n 1, 1) := by decide +kernel
theorem dX0_record_29 : decode cX0_record 29 = .ok (.iastore, 1) := by decide +kernel
theorem dX0_record_30 : decode cX0_record 30 = .ok (.aload_n 0, 1) := by decide +kernel
theorem dX0_record_31 : decode cX0_record 31 = .ok (.dup, 1) := by decide +kernel
theorem dX0_record_32 : decode cX0_record 32 = .ok (.getfield 22, 3) := by decide +kernel
theorem dX0_record_35 : decode cX0_record 35 = .ok (.iconst 1, 1) := by decide +kernel
theorem dX0_record_36 : decode cX0_record 36 = .ok (.iadd, 1) := by decide +kernel
theorem dX0_record_37 : decode cX0_record 37 = .ok (.putfield 22, 3) := by decide +kernel
theorem dX0_record_40 : decode cX0_record 40 = .ok (.aload_n 0, 1) := by decide +kernel
theorem dX0_record_41 : decode cX0_record 41 = .ok (.getfield 22, 3) := by decide +kernel
theorem dX0_record_44 : decode cX0_record 44 = .ok (.ireturn, 1) := by decide +kernel
theorem dX0_draw_0 : decode cX0_draw 0 = .ok (.iload_n 1, 1) := by decide +kernel
theorem dX0_draw_1 : decode cX0_draw 1 = .ok (.ifCond .le 12, 3) := by decide +kernel
theorem dX0_draw_4 : decode cX0_draw 4 = .ok (.aload_n 0, 1) := by decide +kernel
theorem dX0_draw_5 : decode cX0_draw 5 = .ok (.invokevirtual 28, 3) := by decide +kernel
theorem dX0_draw_8 : decode cX0_draw 8 = .ok (.iload_n 1, 1) := by decide +kernel
theorem dX0_draw_9 : decode cX0_draw 9 = .ok (.irem, 1) := by decide +kernel
theorem dX0_draw_10 : decode cX0_draw 10 = .ok (.iconst 1, 1) := by decide +kernel
theorem dX0_draw_11 : decode cX0_draw 11 = .ok (.iadd, 1) := by decide +kernel
theorem dX0_draw_12 : decode cX0_draw 12 = .ok (.ireturn, 1) := by decide +kernel
theorem dX0_draw_13 : decode cX0_draw 13 = .ok (.iload_n 1, 1) := by decide +kernel
theorem dX0_draw_14 : decode cX0_draw 14 = .ok (.ifCond .ne 11, 3) := by decide +kernel
theorem dX0_draw_17 : decode cX0_draw 17 = .ok (.aload_n 0, 1) := by decide +kernel
theorem dX0_draw_18 : decode cX0_draw 18 = .ok (.iconst 2, 1) := by decide +kernel
theorem dX0_draw_19 : decode cX0_draw 19 = .ok (.putfield 15, 3) := by decide +kernel
theorem dX0_draw_22 : decode cX0_draw 22 = .ok (.goto 41, 3) := by decide +kernel
theorem dX0_draw_25 : decode cX0_draw 25 = .ok (.iload_n 1, 1) := by decide +kernel
theorem dX0_draw_26 : decode cX0_draw 26 = .ok (.ineg, 1) := by decide +kernel
theorem dX0_draw_27 : decode cX0_draw 27 = .ok (.sipush 1000, 3) := by decide +kernel
theorem dX0_draw_30 : decode cX0_draw 30 = .ok (.if_icmp .ge 22, 3) := by decide +kernel
theorem dX0_draw_33 : decode cX0_draw 33 = .ok (.aload_n 0, 1) := by decide +kernel
theorem dX0_draw_34 : decode cX0_draw 34 = .ok (.iconst 1, 1) := by decide +kernel
theorem dX0_draw_35 : decode cX0_draw 35 = .ok (.putfield 15, 3) := by decide +kernel
theorem dX0_draw_38 : decode cX0_draw 38 = .ok (.aload_n 0, 1) := by decide +kernel
theorem dX0_draw_39 : decode cX0_draw 39 = .ok (.iload_n 1, 1) := by decide +kernel
theorem dX0_draw_40 : decode cX0_draw 40 = .ok (.ineg, 1) := by decide +kernel
theorem dX0_draw_41 : decode cX0_draw 41 = .ok (.putfield 32, 3) := by decide +kernel
theorem dX0_draw_44 : decode cX0_draw 44 = .ok (.aload_n 0, 1) := by decide +kernel
theorem dX0_draw_45 : decode cX0_draw 45 = .ok (.iconst 0, 1) := by decide +kernel
theorem dX0_draw_46 : decode cX0_draw 46 = .ok (.putfield 35, 3) := by decide +kernel
theorem dX0_draw_49 : decode cX0_draw 49 = .ok (.goto 14, 3) := by decide +kernel
theorem dX0_draw_52 : decode cX0_draw 52 = .ok (.aload_n 0, 1) := by decide +kernel
theorem dX0_draw_53 : decode cX0_draw 53 = .ok (.iconst 0, 1) := by decide +kernel
theorem dX0_draw_54 : decode cX0_draw 54 = .ok (.putfield 15, 3) := by decide +kernel
theorem dX0_draw_57 : decode cX0_draw 57 = .ok (.aload_n 0, 1) := by decide +kernel
theorem dX0_draw_58 : decode cX0_draw 58 = .ok (.iload_n 1, 1) := by decide +kernel
theorem dX0_draw_59 : decode cX0_draw 59 = .ok (.ineg, 1) := by decide +kernel
theorem dX0_draw_60 : decode cX0_draw 60 = .ok (.putfield 19, 3) := by decide +kernel
theorem dX0_draw_63 : decode cX0_draw 63 = .ok (.iconst 0, 1) := by decide +kernel
theorem dX0_draw_64 : decode cX0_draw 64 = .ok (.ireturn, 1) := by decide +kernel
theorem dX0_next_0 : decode cX0_next 0 = .ok (.aload_n 0, 1) := by decide +kernel
theorem dX0_next_1 : decode cX0_next 1 = .ok (.getfield 15, 3) := by decide +kernel
theorem dX0_next_4 : decode cX0_next 4 = .ok (.iconst 1, 1) := by decide +kernel
theorem dX0_next_5 : decode cX0_next 5 = .ok (.if_icmp .ne 8, 3) := by decide +kernel
theorem dX0_next_8 : decode cX0_next 8 = .ok (.aload_n 0, 1) := by decide +kernel
theorem dX0_next_9 : decode cX0_next 9 = .ok (.invokevirtual 38, 3) := by decide +kernel
theorem dX0_next_12 : decode cX0_next 12 = .ok (.ireturn, 1) := by decide +kernel
theorem dX0_next_13 : decode cX0_next 13 = .ok (.aload_n 0, 1) := by decide +kernel
theorem dX0_next_14 : decode cX0_next 14 = .ok (.getfield 15, 3) := by decide +kernel
theorem dX0_next_17 : decode cX0_next 17 = .ok (.iconst 2, 1) := by decide +kernel
theorem dX0_next_18 : decode cX0_next 18 = .ok (.if_icmp .ne 17, 3) := by decide +kernel
theorem dX0_next_21 : decode cX0_next 21 = .ok (.aload_n 0, 1) := by decide +kernel
theorem dX0_next_22 : decode cX0_next 22 = .ok (.getfield 22, 3) := by decide +kernel
theorem dX0_next_25 : decode cX0_next 25 = .ok (.ifCond .le 10, 3) := by decide +kernel
theorem dX0_next_28 : decode cX0_next 28 = .ok (.aload_n 0, 1) := by decide +kernel
theorem dX0_next_29 : decode cX0_next 29 = .ok (.invokevirtual 41, 3) := by decide +kernel
theorem dX0_next_32 : decode cX0_next 32 = .ok (.goto 7, 3) := by decide +kernel
theorem dX0_next_35 : decode cX0_next 35 = .ok (.aload_n 0, 1) := by decide +kernel
theorem dX0_next_36 : decode cX0_next 36 = .ok (.invokevirtual 44, 3) := by decide +kernel
theorem dX0_next_39 : decode cX0_next 39 = .ok (.ireturn, 1) := by decide +kernel
theorem dX0_nextOfCount_0 : decode cX0_nextOfCount 0 = .ok (.aload_n 0, 1) := by decide +kernel
theorem dX0_nextOfCount_1 : decode cX0_nextOfCount 1 = .ok (.getfield 35, 3) := by decide +kernel
theorem dX0_nextOfCount_4 : decode cX0_nextOfCount 4 = .ok (.istore_n 1, 1) := by decide +kernel
theorem dX0_nextOfCount_5 : decode cX0_nextOfCount 5 = .ok (.aload_n 0, 1) := by decide +kernel
theorem dX0_nextOfCount_6 : decode cX0_nextOfCount 6 = .ok (.iload_n 1, 1) := by decide +kernel
theorem dX0_nextOfCount_7 : decode cX0_nextOfCount 7 = .ok (.iconst 1, 1) := by decide +kernel
theorem dX0_nextOfCount_8 : decode cX0_nextOfCount 8 = .ok (.iadd, 1) := by decide +kernel
theorem dX0_nextOfCount_9 : decode cX0_nextOfCount 9 = .ok (.aload_n 0, 1) := by decide +kernel
theorem dX0_nextOfCount_10 : decode cX0_nextOfCount 10 = .ok (.getfield 32, 3) := by decide +kernel
theorem dX0_nextOfCount_13 : decode cX0_nextOfCount 13 = .ok (.if_icmp .ge 9, 3) := by decide +kernel
theorem dX0_nextOfCount_16 : decode cX0_nextOfCount 16 = .ok (.iload_n 1, 1) := by decide +kernel
theorem dX0_nextOfCount_17 : decode cX0_nextOfCount 17 = .ok (.iconst 1, 1) := by decide +kernel
theorem dX0_nextOfCount_18 : decode cX0_nextOfCount 18 = .ok (.iadd, 1) := by decide +kernel
theorem dX0_nextOfCount_19 : decode cX0_nextOfCount 19 = .ok (.goto 4, 3) := by decide +kernel
theorem dX0_nextOfCount_22 : decode cX0_nextOfCount 22 = .ok (.iconst 0, 1) := by decide +kernel
theorem dX0_nextOfCount_23 : decode cX0_nextOfCount 23 = .ok (.putfield 35, 3) := by decide +kernel
theorem dX0_nextOfCount_26 : decode cX0_nextOfCount 26 = .ok (.iload_n 1, 1) := by decide +kernel
theorem dX0_nextOfCount_27 : decode cX0_nextOfCount 27 = .ok (.ireturn, 1) := by decide +kernel
theorem dX0_nextOfTape_0 : decode cX0_nextOfTape 0 = .ok (.aload_n 0, 1) := by decide +kernel
theorem dX0_nextOfTape_1 : decode cX0_nextOfTape 1 = .ok (.getfield 9, 3) := by decide +kernel
theorem dX0_nextOfTape_4 : decode cX0_nextOfTape 4 = .ok (.aload_n 0, 1) := by decide +kernel
theorem dX0_nextOfTape_5 : decode cX0_nextOfTape 5 = .ok (.getfield 25, 3) := by decide +kernel
theorem dX0_nextOfTape_8 : decode cX0_nextOfTape 8 = .ok (.iaload, 1) := by decide +kernel
theorem dX0_nextOfTape_9 : decode cX0_nextOfTape 9 = .ok (.istore_n 1, 1) := by decide +kernel
theorem dX0_nextOfTape_10 : decode cX0_nextOfTape 10 = .ok (.aload_n 0, 1) := by decide +kernel
theorem dX0_nextOfTape_11 : decode cX0_nextOfTape 11 = .ok (.aload_n 0, 1) := by decide +kernel
theorem dX0_nextOfTape_12 : decode cX0_nextOfTape 12 = .ok (.getfield 25, 3) := by decide +kernel
theorem dX0_nextOfTape_15 : decode cX0_nextOfTape 15 = .ok (.iconst 1, 1) := by decide +kernel
theorem dX0_nextOfTape_16 : decode cX0_nextOfTape 16 = .ok (.iadd, 1) := by decide +kernel
theorem dX0_nextOfTape_17 : decode cX0_nextOfTape 17 = .ok (.bipush 50, 2) := by decide +kernel
theorem dX0_nextOfTape_19 : decode cX0_nextOfTape 19 = .ok (.irem, 1) := by decide +kernel
theorem dX0_nextOfTape_20 : decode cX0_nextOfTape 20 = .ok (.putfield 25, 3) := by decide +kernel
theorem dX0_nextOfTape_23 : decode cX0_nextOfTape 23 = .ok (.aload_n 0, 1) := by decide +kernel
theorem dX0_nextOfTape_24 : decode cX0_nextOfTape 24 = .ok (.dup, 1) := by decide +kernel
theorem dX0_nextOfTape_25 : decode cX0_nextOfTape 25 = .ok (.getfield 22, 3) := by decide +kernel
theorem dX0_nextOfTape_28 : decode cX0_nextOfTape 28 = .ok (.iconst 1, 1) := by decide +kernel
theorem dX0_nextOfTape_29 : decode cX0_nextOfTape 29 = .ok (.isub, 1) := by decide +kernel
theorem dX0_nextOfTape_30 : decode cX0_nextOfTape 30 = .ok (.putfield 22, 3) := by decide +kernel
theorem dX0_nextOfTape_33 : decode cX0_nextOfTape 33 = .ok (.iload_n 1, 1) := by decide +kernel
theorem dX0_nextOfTape_34 : decode cX0_nextOfTape 34 = .ok (.ireturn, 1) := by decide +kernel
theorem dX0_nextOfSeed_0 : decode cX0_nextOfSeed 0 = .ok (.aload_n 0, 1) := by decide +kernel
theorem dX0_nextOfSeed_1 : decode cX0_nextOfSeed 1 = .ok (.aload_n 0, 1) := by decide +kernel
theorem dX0_nextOfSeed_2 : decode cX0_nextOfSeed 2 = .ok (.getfield 19, 3) := by decide +kernel
theorem dX0_nextOfSeed_5 : decode cX0_nextOfSeed 5 = .ok (.ldc 47, 2) := by decide +kernel
theorem dX0_nextOfSeed_7 : decode cX0_nextOfSeed 7 = .ok (.imul, 1) := by decide +kernel
theorem dX0_nextOfSeed_8 : decode cX0_nextOfSeed 8 = .ok (.sipush 12345, 3) := by decide +kernel
theorem dX0_nextOfSeed_11 : decode cX0_nextOfSeed 11 = .ok (.iadd, 1) := by decide +kernel
theorem dX0_nextOfSeed_12 : decode cX0_nextOfSeed 12 = .ok (.ldc 48, 2) := by decide +kernel
theorem dX0_nextOfSeed_14 : decode cX0_nextOfSeed 14 = .ok (.iand, 1) := by decide +kernel
theorem dX0_nextOfSeed_15 : decode cX0_nextOfSeed 15 = .ok (.putfield 19, 3) := by decide +kernel
theorem dX0_nextOfSeed_18 : decode cX0_nextOfSeed 18 = .ok (.aload_n 0, 1) := by decide +kernel
theorem dX0_nextOfSeed_19 : decode cX0_nextOfSeed 19 = .ok (.getfield 19, 3) := by decide +kernel
theorem dX0_nextOfSeed_22 : decode cX0_nextOfSeed 22 = .ok (.bipush 16, 2) := by decide +kernel
theorem dX0_nextOfSeed_24 : decode cX0_nextOfSeed 24 = .ok (.iushr, 1) := by decide +kernel
theorem dX0_nextOfSeed_25 : decode cX0_nextOfSeed 25 = .ok (.ireturn, 1) := by decide +kernel
theorem dX1_init_0 : decode cX1_init 0 = .ok (.aload_n 0, 1) := by decide +kernel
theorem dX1_init_1 : decode cX1_init 1 = .ok (.invokespecial 3, 3) := by decide +kernel
theorem dX1_init_4 : decode cX1_init 4 = .ok (.aload_n 0, 1) := by decide +kernel
theorem dX1_init_5 : decode cX1_init 5 = .ok (.bipush 15, 2) := by decide +kernel
theorem dX1_init_7 : decode cX1_init 7 = .ok (.newarray .int, 2) := by decide +kernel
theorem dX1_init_9 : decode cX1_init 9 = .ok (.putfield 9, 3) := by decide +kernel
theorem dX1_init_12 : decode cX1_init 12 = .ok (.return_, 1) := by decide +kernel
theorem dX1_local_0 : decode cX1_local 0 = .ok (.aload_n 0, 1) := by decide +kernel
theorem dX1_local_1 : decode cX1_local 1 = .ok (.iload_n 1, 1) := by decide +kernel
theorem dX1_local_2 : decode cX1_local 2 = .ok (.invokevirtual 15, 3) := by decide +kernel
theorem dX1_local_5 : decode cX1_local 5 = .ok (.ifCond .eq 14, 3) := by decide +kernel
theorem dX1_local_8 : decode cX1_local 8 = .ok (.aload_n 0, 1) := by decide +kernel
theorem dX1_local_9 : decode cX1_local 9 = .ok (.getfield 9, 3) := by decide +kernel
theorem dX1_local_12 : decode cX1_local 12 = .ok (.iload_n 1, 1) := by decide +kernel
theorem dX1_local_13 : decode cX1_local 13 = .ok (.iconst 1, 1) := by decide +kernel
theorem dX1_local_14 : decode cX1_local 14 = .ok (.isub, 1) := by decide +kernel
theorem dX1_local_15 : decode cX1_local 15 = .ok (.iaload, 1) := by decide +kernel
theorem dX1_local_16 : decode cX1_local 16 = .ok (.goto 5, 3) := by decide +kernel
theorem dX1_local_19 : decode cX1_local 19 = .ok (.bipush (-17), 2) := by decide +kernel
theorem dX1_local_21 : decode cX1_local 21 = .ok (.ireturn, 1) := by decide +kernel
theorem dX1_setLocal_0 : decode cX1_setLocal 0 = .ok (.aload_n 0, 1) := by decide +kernel
theorem dX1_setLocal_1 : decode cX1_setLocal 1 = .ok (.iload_n 1, 1) := by decide +kernel
theorem dX1_setLocal_2 : decode cX1_setLocal 2 = .ok (.invokevirtual 15, 3) := by decide +kernel
theorem dX1_setLocal_5 : decode cX1_setLocal 5 = .ok (.ifCond .ne 6, 3) := by decide +kernel
theorem dX1_setLocal_8 : decode cX1_setLocal 8 = .ok (.bipush (-17), 2) := by decide +kernel
theorem dX1_setLocal_10 : decode cX1_setLocal 10 = .ok (.ireturn, 1) := by decide +kernel
theorem dX1_setLocal_11 : decode cX1_setLocal 11 = .ok (.aload_n 0, 1) := by decide +kernel
theorem dX1_setLocal_12 : decode cX1_setLocal 12 = .ok (.getfield 9, 3) := by decide +kernel
theorem dX1_setLocal_15 : decode cX1_setLocal 15 = .ok (.iload_n 1, 1) := by decide +kernel
theorem dX1_setLocal_16 : decode cX1_setLocal 16 = .ok (.iconst 1, 1) := by decide +kernel
theorem dX1_setLocal_17 : decode cX1_setLocal 17 = .ok (.isub, 1) := by decide +kernel
theorem dX1_setLocal_18 : decode cX1_setLocal 18 = .ok (.iload_n 2, 1) := by decide +kernel
theorem dX1_setLocal_19 : decode cX1_setLocal 19 = .ok (.iastore, 1) := by decide +kernel
theorem dX1_setLocal_20 : decode cX1_setLocal 20 = .ok (.iconst 1, 1) := by decide +kernel
theorem dX1_setLocal_21 : decode cX1_setLocal 21 = .ok (.ireturn, 1) := by decide +kernel
theorem dX1_hasLocal_0 : decode cX1_hasLocal 0 = .ok (.iload_n 1, 1) := by decide +kernel
theorem dX1_hasLocal_1 : decode cX1_hasLocal 1 = .ok (.iconst 1, 1) := by decide +kernel
theorem dX1_hasLocal_2 : decode cX1_hasLocal 2 = .ok (.if_icmp .lt 15, 3) := by decide +kernel
theorem dX1_hasLocal_5 : decode cX1_hasLocal 5 = .ok (.iload_n 1, 1) := by decide +kernel
theorem dX1_hasLocal_6 : decode cX1_hasLocal 6 = .ok (.aload_n 0, 1) := by decide +kernel
theorem dX1_hasLocal_7 : decode cX1_hasLocal 7 = .ok (.getfield 19, 3) := by decide +kernel
theorem dX1_hasLocal_10 : decode cX1_hasLocal 10 = .ok (.if_icmp .gt 7, 3) := by decide +kernel
theorem dX1_hasLocal_13 : decode cX1_hasLocal 13 = .ok (.iconst 1, 1) := by decide +kernel
theorem dX1_hasLocal_14 : decode cX1_hasLocal 14 = .ok (.goto 4, 3) := by decide +kernel
theorem dX1_hasLocal_17 : decode cX1_hasLocal 17 = .ok (.iconst 0, 1) := by decide +kernel
theorem dX1_hasLocal_18 : decode cX1_hasLocal 18 = .ok (.ireturn, 1) := by decide +kernel
theorem dX2_init_0 : decode cX2_init 0 = .ok (.aload_n 0, 1) := by decide +kernel
theorem dX2_init_1 : decode cX2_init 1 = .ok (.invokespecial 3, 3) := by decide +kernel
theorem dX2_init_4 : decode cX2_init 4 = .ok (.aload_n 0, 1) := by decide +kernel
theorem dX2_init_5 : decode cX2_init 5 = .ok (.bipush 12, 2) := by decide +kernel
theorem dX2_init_7 : decode cX2_init 7 = .ok (.anewarray 9, 3) := by decide +kernel
theorem dX2_init_10 : decode cX2_init 10 = .ok (.putfield 11, 3) := by decide +kernel
theorem dX2_init_13 : decode cX2_init 13 = .ok (.aload_n 0, 1) := by decide +kernel
theorem dX2_init_14 : decode cX2_init 14 = .ok (.bipush 100, 2) := by decide +kernel
theorem dX2_init_16 : decode cX2_init 16 = .ok (.newarray .int, 2) := by decide +kernel
theorem dX2_init_18 : decode cX2_init 18 = .ok (.putfield 17, 3) := by decide +kernel
theorem dX2_init_21 : decode cX2_init 21 = .ok (.iconst 0, 1) := by decide +kernel
theorem dX2_init_22 : decode cX2_init 22 = .ok (.istore_n 1, 1) := by decide +kernel
theorem dX2_init_23 : decode cX2_init 23 = .ok (.iload_n 1, 1) := by decide +kernel
theorem dX2_init_24 : decode cX2_init 24 = .ok (.bipush 12, 2) := by decide +kernel
theorem dX2_init_26 : decode cX2_init 26 = .ok (.if_icmp .ge 22, 3) := by decide +kernel
theorem dX2_init_29 : decode cX2_init 29 = .ok (.aload_n 0, 1) := by decide +kernel
theorem dX2_init_30 : decode cX2_init 30 = .ok (.getfield 11, 3) := by decide +kernel
theorem dX2_init_33 : decode cX2_init 33 = .ok (.iload_n 1, 1) := by decide +kernel
theorem dX2_init_34 : decode cX2_init 34 = .ok (.new 9, 3) := by decide +kernel
theorem dX2_init_37 : decode cX2_init 37 = .ok (.dup, 1) := by decide +kernel
theorem dX2_init_38 : decode cX2_init 38 = .ok (.invokespecial 21, 3) := by decide +kernel
theorem dX2_init_41 : decode cX2_init 41 = .ok (.aastore, 1) := by decide +kernel
theorem dX2_init_42 : decode cX2_init 42 = .ok (.iinc 1 1, 3) := by decide +kernel
theorem dX2_init_45 : decode cX2_init 45 = .ok (.goto (-22), 3) := by decide +kernel
theorem dX2_init_48 : decode cX2_init 48 = .ok (.return_, 1) := by decide +kernel
theorem dX2_begin_0 : decode cX2_begin 0 = .ok (.aload_n 0, 1) := by decide +kernel
theorem dX2_begin_1 : decode cX2_begin 1 = .ok (.iconst 0, 1) := by decide +kernel
theorem dX2_begin_2 : decode cX2_begin 2 = .ok (.putfield 22, 3) := by decide +kernel
theorem dX2_begin_5 : decode cX2_begin 5 = .ok (.aload_n 0, 1) := by decide +kernel
theorem dX2_begin_6 : decode cX2_begin 6 = .ok (.iconst 0, 1) := by decide +kernel
theorem dX2_begin_7 : decode cX2_begin 7 = .ok (.putfield 26, 3) := by decide +kernel
theorem dX2_begin_10 : decode cX2_begin 10 = .ok (.aload_n 0, 1) := by decide +kernel
theorem dX2_begin_11 : decode cX2_begin 11 = .ok (.iconst 0, 1) := by decide +kernel
theorem dX2_begin_12 : decode cX2_begin 12 = .ok (.putfield 29, 3) := by decide +kernel
theorem dX2_begin_15 : decode cX2_begin 15 = .ok (.return_, 1) := by decide +kernel
theorem dX2_top_0 : decode cX2_top 0 = .ok (.aload_n 0, 1) := by decide +kernel
theorem dX2_top_1 : decode cX2_top 1 = .ok (.getfield 11, 3) := by decide +kernel
theorem dX2_top_4 : decode cX2_top 4 = .ok (.aload_n 0, 1) := by decide +kernel
theorem dX2_top_5 : decode cX2_top 5 = .ok (.getfield 26, 3) := by decide +kernel
theorem dX2_top_8 : decode cX2_top 8 = .ok (.ifCond .le 12, 3) := by decide +kernel
theorem dX2_top_11 : decode cX2_top 11 = .ok (.aload_n 0, 1) := by decide +kernel
theorem dX2_top_12 : decode cX2_top 12 = .ok (.getfield 26, 3) := by decide +kernel
theorem dX2_top_15 : decode cX2_top 15 = .ok (.iconst 1, 1) := by decide +kernel
theorem dX2_top_16 : decode cX2_top 16 = .ok (.isub, 1) := by decide +kernel
theorem dX2_top_17 : decode cX2_top 17 = .ok (.goto 4, 3) := by decide +kernel
theorem dX2_top_20 : decode cX2_top 20 = .ok (.iconst 0, 1) := by decide +kernel
theorem dX2_top_21 : decode cX2_top 21 = .ok (.aaload, 1) := by decide +kernel
theorem dX2_top_22 : decode cX2_top 22 = .ok (.areturn, 1) := by decide +kernel
theorem dX2_enter_0 : decode cX2_enter 0 = .ok (.aload_n 0, 1) := by decide +kernel
theorem dX2_enter_1 : decode cX2_enter 1 = .ok (.getfield 26, 3) := by decide +kernel
theorem dX2_enter_4 : decode cX2_enter 4 = .ok (.bipush 12, 2) := by decide +kernel
theorem dX2_enter_6 : decode cX2_enter 6 = .ok (.if_icmp .lt 5, 3) := by decide +kernel
theorem dX2_enter_9 : decode cX2_enter 9 = .ok (.aconst_null, 1) := by decide +kernel
theorem dX2_enter_10 : decode cX2_enter 10 = .ok (.areturn, 1) := by decide +kernel
theorem dX2_enter_11 : decode cX2_enter 11 = .ok (.aload_n 0, 1) := by decide +kernel
theorem dX2_enter_12 : decode cX2_enter 12 = .ok (.getfield 11, 3) := by decide +kernel
theorem dX2_enter_15 : decode cX2_enter 15 = .ok (.aload_n 0, 1) := by decide +kernel
theorem dX2_enter_16 : decode cX2_enter 16 = .ok (.getfield 26, 3) := by decide +kernel
theorem dX2_enter_19 : decode cX2_enter 19 = .ok (.aaload, 1) := by decide +kernel
theorem dX2_enter_20 : decode cX2_enter 20 = .ok (.astore_n 1, 1) := by decide +kernel
theorem dX2_enter_21 : decode cX2_enter 21 = .ok (.aload_n 1, 1) := by decide +kernel
theorem dX2_enter_22 : decode cX2_enter 22 = .ok (.getfield 32, 3) := by decide +kernel
theorem dX2_enter_25 : decode cX2_enter 25 = .ok (.iconst 0, 1) := by decide +kernel
theorem dX2_enter_26 : decode cX2_enter 26 = .ok (.invokestatic 35, 3) := by decide +kernel
theorem dX2_enter_29 : decode cX2_enter 29 = .ok (.aload_n 1, 1) := by decide +kernel
theorem dX2_enter_30 : decode cX2_enter 30 = .ok (.aload_n 0, 1) := by decide +kernel
theorem dX2_enter_31 : decode cX2_enter 31 = .ok (.getfield 22, 3) := by decide +kernel
theorem dX2_enter_34 : decode cX2_enter 34 = .ok (.putfield 41, 3) := by decide +kernel
theorem dX2_enter_37 : decode cX2_enter 37 = .ok (.aload_n 0, 1) := by decide +kernel
theorem dX2_enter_38 : decode cX2_enter 38 = .ok (.dup, 1) := by decide +kernel
theorem dX2_enter_39 : decode cX2_enter 39 = .ok (.getfield 26, 3) := by decide +kernel
theorem dX2_enter_42 : decode cX2_enter 42 = .ok (.iconst 1, 1) := by decide +kernel
theorem dX2_enter_43 : decode cX2_enter 43 = .ok (.iadd, 1) := by decide +kernel
theorem dX2_enter_44 : decode cX2_enter 44 = .ok (.putfield 26, 3) := by decide +kernel
theorem dX2_enter_47 : decode cX2_enter 47 = .ok (.aload_n 0, 1) := by decide +kernel
theorem dX2_enter_48 : decode cX2_enter 48 = .ok (.aload_n 0, 1) := by decide +kernel
theorem dX2_enter_49 : decode cX2_enter 49 = .ok (.getfield 29, 3) := by decide +kernel
theorem dX2_enter_52 : decode cX2_enter 52 = .ok (.aload_n 0, 1) := by decide +kernel
theorem dX2_enter_53 : decode cX2_enter 53 = .ok (.getfield 26, 3) := by decide +kernel
theorem dX2_enter_56 : decode cX2_enter 56 = .ok (.invokestatic 44, 3) := by decide +kernel
theorem dX2_enter_59 : decode cX2_enter 59 = .ok (.putfield 29, 3) := by decide +kernel
theorem dX2_enter_62 : decode cX2_enter 62 = .ok (.aload_n 1, 1) := by decide +kernel
theorem dX2_enter_63 : decode cX2_enter 63 = .ok (.areturn, 1) := by decide +kernel
theorem dX2_leave_0 : decode cX2_leave 0 = .ok (.aload_n 0, 1) := by decide +kernel
theorem dX2_leave_1 : decode cX2_leave 1 = .ok (.getfield 26, 3) := by decide +kernel
theorem dX2_leave_4 : decode cX2_leave 4 = .ok (.ifCond .le 29, 3) := by decide +kernel
theorem dX2_leave_7 : decode cX2_leave 7 = .ok (.aload_n 0, 1) := by decide +kernel
theorem dX2_leave_8 : decode cX2_leave 8 = .ok (.dup, 1) := by decide +kernel
theorem dX2_leave_9 : decode cX2_leave 9 = .ok (.getfield 26, 3) := by decide +kernel
theorem dX2_leave_12 : decode cX2_leave 12 = .ok (.iconst 1, 1) := by decide +kernel
theorem dX2_leave_13 : decode cX2_leave 13 = .ok (.isub, 1) := by decide +kernel
theorem dX2_leave_14 : decode cX2_leave 14 = .ok (.putfield 26, 3) := by decide +kernel
theorem dX2_leave_17 : decode cX2_leave 17 = .ok (.aload_n 0, 1) := by decide +kernel
theorem dX2_leave_18 : decode cX2_leave 18 = .ok (.aload_n 0, 1) := by decide +kernel
theorem dX2_leave_19 : decode cX2_leave 19 = .ok (.getfield 11, 3) := by decide +kernel
theorem dX2_leave_22 : decode cX2_leave 22 = .ok (.aload_n 0, 1) := by decide +kernel
theorem dX2_leave_23 : decode cX2_leave 23 = .ok (.getfield 26, 3) := by decide +kernel
theorem dX2_leave_26 : decode cX2_leave 26 = .ok (.aaload, 1) := by decide +kernel
theorem dX2_leave_27 : decode cX2_leave 27 = .ok (.getfield 41, 3) := by decide +kernel
theorem dX2_leave_30 : decode cX2_leave 30 = .ok (.putfield 22, 3) := by decide +kernel
theorem dX2_leave_33 : decode cX2_leave 33 = .ok (.return_, 1) := by decide +kernel
theorem dX2_pop_0 : decode cX2_pop 0 = .ok (.aload_n 0, 1) := by decide +kernel
theorem dX2_pop_1 : decode cX2_pop 1 = .ok (.getfield 22, 3) := by decide +kernel
theorem dX2_pop_4 : decode cX2_pop 4 = .ok (.aload_n 0, 1) := by decide +kernel
theorem dX2_pop_5 : decode cX2_pop 5 = .ok (.invokevirtual 50, 3) := by decide +kernel
theorem dX2_pop_8 : decode cX2_pop 8 = .ok (.getfield 41, 3) := by decide +kernel
theorem dX2_pop_11 : decode cX2_pop 11 = .ok (.if_icmp .gt 6, 3) := by decide +kernel
theorem dX2_pop_14 : decode cX2_pop 14 = .ok (.bipush (-14), 2) := by decide +kernel
theorem dX2_pop_16 : decode cX2_pop 16 = .ok (.ireturn, 1) := by decide +kernel
theorem dX2_pop_17 : decode cX2_pop 17 = .ok (.aload_n 0, 1) := by decide +kernel
theorem dX2_pop_18 : decode cX2_pop 18 = .ok (.dup, 1) := by decide +kernel
theorem dX2_pop_19 : decode cX2_pop 19 = .ok (.getfield 22, 3) := by decide +kernel
theorem dX2_pop_22 : decode cX2_pop 22 = .ok (.iconst 1, 1) := by decide +kernel
theorem dX2_pop_23 : decode cX2_pop 23 = .ok (.isub, 1) := by decide +kernel
theorem dX2_pop_24 : decode cX2_pop 24 = .ok (.putfield 22, 3) := by decide +kernel
theorem dX2_pop_27 : decode cX2_pop 27 = .ok (.aload_n 0, 1) := by decide +kernel
theorem dX2_pop_28 : decode cX2_pop 28 = .ok (.getfield 17, 3) := by decide +kernel
theorem dX2_pop_31 : decode cX2_pop 31 = .ok (.aload_n 0, 1) := by decide +kernel
theorem dX2_pop_32 : decode cX2_pop 32 = .ok (.getfield 22, 3) := by decide +kernel
theorem dX2_pop_35 : decode cX2_pop 35 = .ok (.iaload, 1) := by decide +kernel
theorem dX2_pop_36 : decode cX2_pop 36 = .ok (.ireturn, 1) := by decide +kernel
theorem dX2_push_0 : decode cX2_push 0 = .ok (.aload_n 0, 1) := by decide +kernel
theorem dX2_push_1 : decode cX2_push 1 = .ok (.getfield 22, 3) := by decide +kernel
theorem dX2_push_4 : decode cX2_push 4 = .ok (.bipush 100, 2) := by decide +kernel
theorem dX2_push_6 : decode cX2_push 6 = .ok (.if_icmp .lt 6, 3) := by decide +kernel
theorem dX2_push_9 : decode cX2_push 9 = .ok (.bipush (-15), 2) := by decide +kernel
theorem dX2_push_11 : decode cX2_push 11 = .ok (.ireturn, 1) := by decide +kernel
theorem dX2_push_12 : decode cX2_push 12 = .ok (.aload_n 0, 1) := by decide +kernel
theorem dX2_push_13 : decode cX2_push 13 = .ok (.getfield 17, 3) := by decide +kernel
theorem dX2_push_16 : decode cX2_push 16 = .ok (.aload_n 0, 1) := by decide +kernel
theorem dX2_push_17 : decode cX2_push 17 = .ok (.getfield 22, 3) := by decide +kernel
theorem dX2_push_20 : decode cX2_push 20 = .ok (.iload_n 1, 1) := by decide +kernel
theorem dX2_push_21 : decode cX2_push 21 = .ok (.iastore, 1) := by decide +kernel
theorem dX2_push_22 : decode cX2_push 22 = .ok (.aload_n 0, 1) := by decide +kernel
theorem dX2_push_23 : decode cX2_push 23 = .ok (.dup, 1) := by decide +kernel
theorem dX2_push_24 : decode cX2_push 24 = .ok (.getfield 22, 3) := by decide +kernel
theorem dX2_push_27 : decode cX2_push 27 = .ok (.iconst 1, 1) := by decide +kernel
theorem dX2_push_28 : decode cX2_push 28 = .ok (.iadd, 1) := by decide +kernel
theorem dX2_push_29 : decode cX2_push 29 = .ok (.putfield 22, 3) := by decide +kernel
theorem dX2_push_32 : decode cX2_push 32 = .ok (.iconst 1, 1) := by decide +kernel
theorem dX2_push_33 : decode cX2_push 33 = .ok (.ireturn, 1) := by decide +kernel
theorem dX3_init_0 : decode cX3_init 0 = .ok (.aload_n 0, 1) := by decide +kernel
theorem dX3_init_1 : decode cX3_init 1 = .ok (.invokespecial 3, 3) := by decide +kernel
theorem dX3_init_4 : decode cX3_init 4 = .ok (.aload_n 0, 1) := by decide +kernel
theorem dX3_init_5 : decode cX3_init 5 = .ok (.sipush 2000, 3) := by decide +kernel
theorem dX3_init_8 : decode cX3_init 8 = .ok (.newarray .int, 2) := by decide +kernel
theorem dX3_init_10 : decode cX3_init 10 = .ok (.putfield 9, 3) := by decide +kernel
theorem dX3_init_13 : decode cX3_init 13 = .ok (.return_, 1) := by decide +kernel
theorem dX3_begin_0 : decode cX3_begin 0 = .ok (.aload_n 0, 1) := by decide +kernel
theorem dX3_begin_1 : decode cX3_begin 1 = .ok (.getfield 9, 3) := by decide +kernel
theorem dX3_begin_4 : decode cX3_begin 4 = .ok (.iconst 0, 1) := by decide +kernel
theorem dX3_begin_5 : decode cX3_begin 5 = .ok (.invokestatic 15, 3) := by decide +kernel
theorem dX3_begin_8 : decode cX3_begin 8 = .ok (.aload_n 0, 1) := by decide +kernel
theorem dX3_begin_9 : decode cX3_begin 9 = .ok (.iload_n 1, 1) := by decide +kernel
theorem dX3_begin_10 : decode cX3_begin 10 = .ok (.putfield 21, 3) := by decide +kernel
theorem dX3_begin_13 : decode cX3_begin 13 = .ok (.aload_n 0, 1) := by decide +kernel
theorem dX3_begin_14 : decode cX3_begin 14 = .ok (.iload_n 2, 1) := by decide +kernel
theorem dX3_begin_15 : decode cX3_begin 15 = .ok (.putfield 25, 3) := by decide +kernel
theorem dX3_begin_18 : decode cX3_begin 18 = .ok (.return_, 1) := by decide +kernel
theorem dX3_isOutside_0 : decode cX3_isOutside 0 = .ok (.iload_n 1, 1) := by decide +kernel
theorem dX3_isOutside_1 : decode cX3_isOutside 1 = .ok (.ifCond .lt 11, 3) := by decide +kernel
theorem dX3_isOutside_4 : decode cX3_isOutside 4 = .ok (.iload_n 1, 1) := by decide +kernel
theorem dX3_isOutside_5 : decode cX3_isOutside 5 = .ok (.aload_n 0, 1) := by decide +kernel
theorem dX3_isOutside_6 : decode cX3_isOutside 6 = .ok (.getfield 21, 3) := by decide +kernel
theorem dX3_isOutside_9 : decode cX3_isOutside 9 = .ok (.if_icmp .lt 7, 3) := by decide +kernel
theorem dX3_isOutside_12 : decode cX3_isOutside 12 = .ok (.iconst 1, 1) := by decide +kernel
theorem dX3_isOutside_13 : decode cX3_isOutside 13 = .ok (.goto 4, 3) := by decide +kernel
theorem dX3_isOutside_16 : decode cX3_isOutside 16 = .ok (.iconst 0, 1) := by decide +kernel
theorem dX3_isOutside_17 : decode cX3_isOutside 17 = .ok (.ireturn, 1) := by decide +kernel
theorem dX3_byteAt_0 : decode cX3_byteAt 0 = .ok (.aload_n 0, 1) := by decide +kernel
theorem dX3_byteAt_1 : decode cX3_byteAt 1 = .ok (.iload_n 1, 1) := by decide +kernel
theorem dX3_byteAt_2 : decode cX3_byteAt 2 = .ok (.invokevirtual 28, 3) := by decide +kernel
theorem dX3_byteAt_5 : decode cX3_byteAt 5 = .ok (.ifCond .eq 8, 3) := by decide +kernel
theorem dX3_byteAt_8 : decode cX3_byteAt 8 = .ok (.bipush (-12), 2) := by decide +kernel
theorem dX3_byteAt_10 : decode cX3_byteAt 10 = .ok (.goto 9, 3) := by decide +kernel
theorem dX3_byteAt_13 : decode cX3_byteAt 13 = .ok (.aload_n 0, 1) := by decide +kernel
theorem dX3_byteAt_14 : decode cX3_byteAt 14 = .ok (.getfield 9, 3) := by decide +kernel
theorem dX3_byteAt_17 : decode cX3_byteAt 17 = .ok (.iload_n 1, 1) := by decide +kernel
theorem dX3_byteAt_18 : decode cX3_byteAt 18 = .ok (.iaload, 1) := by decide +kernel
theorem dX3_byteAt_19 : decode cX3_byteAt 19 = .ok (.ireturn, 1) := by decide +kernel
theorem dX3_wordAt_0 : decode cX3_wordAt 0 = .ok (.aload_n 0, 1) := by decide +kernel
theorem dX3_wordAt_1 : decode cX3_wordAt 1 = .ok (.iload_n 1, 1) := by decide +kernel
theorem dX3_wordAt_2 : decode cX3_wordAt 2 = .ok (.invokevirtual 28, 3) := by decide +kernel
theorem dX3_wordAt_5 : decode cX3_wordAt 5 = .ok (.ifCond .ne 13, 3) := by decide +kernel
theorem dX3_wordAt_8 : decode cX3_wordAt 8 = .ok (.aload_n 0, 1) := by decide +kernel
theorem dX3_wordAt_9 : decode cX3_wordAt 9 = .ok (.iload_n 1, 1) := by decide +kernel
theorem dX3_wordAt_10 : decode cX3_wordAt 10 = .ok (.iconst 1, 1) := by decide +kernel
theorem dX3_wordAt_11 : decode cX3_wordAt 11 = .ok (.iadd, 1) := by decide +kernel
theorem dX3_wordAt_12 : decode cX3_wordAt 12 = .ok (.invokevirtual 28, 3) := by decide +kernel
theorem dX3_wordAt_15 : decode cX3_wordAt 15 = .ok (.ifCond .eq 6, 3) := by decide +kernel
theorem dX3_wordAt_18 : decode cX3_wordAt 18 = .ok (.bipush (-12), 2) := by decide +kernel
theorem dX3_wordAt_20 : decode cX3_wordAt 20 = .ok (.ireturn, 1) := by decide +kernel
theorem dX3_wordAt_21 : decode cX3_wordAt 21 = .ok (.aload_n 0, 1) := by decide +kernel
theorem dX3_wordAt_22 : decode cX3_wordAt 22 = .ok (.getfield 9, 3) := by decide +kernel
theorem dX3_wordAt_25 : decode cX3_wordAt 25 = .ok (.iload_n 1, 1) := by decide +kernel
theorem dX3_wordAt_26 : decode cX3_wordAt 26 = .ok (.iaload, 1) := by decide +kernel
theorem dX3_wordAt_27 : decode cX3_wordAt 27 = .ok (.bipush 8, 2) := by decide +kernel
theorem dX3_wordAt_29 : decode cX3_wordAt 29 = .ok (.ishl, 1) := by decide +kernel
theorem dX3_wordAt_30 : decode cX3_wordAt 30 = .ok (.aload_n 0, 1) := by decide +kernel
theorem dX3_wordAt_31 : decode cX3_wordAt 31 = .ok (.getfield 9, 3) := by decide +kernel
theorem dX3_wordAt_34 : decode cX3_wordAt 34 = .ok (.iload_n 1, 1) := by decide +kernel
theorem dX3_wordAt_35 : decode cX3_wordAt 35 = .ok (.iconst 1, 1) := by decide +kernel
theorem dX3_wordAt_36 : decode cX3_wordAt 36 = .ok (.iadd, 1) := by decide +kernel
theorem dX3_wordAt_37 : decode cX3_wordAt 37 = .ok (.iaload, 1) := by decide +kernel
theorem dX3_wordAt_38 : decode cX3_wordAt 38 = .ok (.ior, 1) := by decide +kernel
theorem dX3_wordAt_39 : decode cX3_wordAt 39 = .ok (.ireturn, 1) := by decide +kernel
theorem dX3_setByte_0 : decode cX3_setByte 0 = .ok (.aload_n 0, 1) := by decide +kernel
theorem dX3_setByte_1 : decode cX3_setByte 1 = .ok (.iload_n 1, 1) := by decide +kernel
theorem dX3_setByte_2 : decode cX3_setByte 2 = .ok (.invokevirtual 28, 3) := by decide +kernel
theorem dX3_setByte_5 : decode cX3_setByte 5 = .ok (.ifCond .eq 6, 3) := by decide +kernel
theorem dX3_setByte_8 : decode cX3_setByte 8 = .ok (.bipush (-12), 2) := by decide +kernel
theorem dX3_setByte_10 : decode cX3_setByte 10 = .ok (.ireturn, 1) := by decide +kernel
theorem dX3_setByte_11 : decode cX3_setByte 11 = .ok (.iload_n 3, 1) := by decide +kernel
theorem dX3_setByte_12 : decode cX3_setByte 12 = .ok (.ifCond .ne 14, 3) := by decide +kernel
theorem dX3_setByte_15 : decode cX3_setByte 15 = .ok (.iload_n 1, 1) := by decide +kernel
theorem dX3_setByte_16 : decode cX3_setByte 16 = .ok (.aload_n 0, 1) := by decide +kernel
theorem dX3_setByte_17 : decode cX3_setByte 17 = .ok (.getfield 25, 3) := by decide +kernel
theorem dX3_setByte_20 : decode cX3_setByte 20 = .ok (.if_icmp .lt 6, 3) := by decide +kernel
theorem dX3_setByte_23 : decode cX3_setByte 23 = .ok (.bipush (-13), 2) := by decide +kernel
theorem dX3_setByte_25 : decode cX3_setByte 25 = .ok (.ireturn, 1) := by decide +kernel
theorem dX3_setByte_26 : decode cX3_setByte 26 = .ok (.aload_n 0, 1) := by decide +kernel
theorem dX3_setByte_27 : decode cX3_setByte 27 = .ok (.getfield 9, 3) := by decide +kernel
theorem dX3_setByte_30 : decode cX3_setByte 30 = .ok (.iload_n 1, 1) := by decide +kernel
theorem dX3_setByte_31 : decode cX3_setByte 31 = .ok (.iload_n 2, 1) := by decide +kernel
theorem dX3_setByte_32 : decode cX3_setByte 32 = .ok (.sipush 255, 3) := by decide +kernel
theorem dX3_setByte_35 : decode cX3_setByte 35 = .ok (.iand, 1) := by decide +kernel
theorem dX3_setByte_36 : decode cX3_setByte 36 = .ok (.iastore, 1) := by decide +kernel
theorem dX3_setByte_37 : decode cX3_setByte 37 = .ok (.iconst 1, 1) := by decide +kernel
theorem dX3_setByte_38 : decode cX3_setByte 38 = .ok (.ireturn, 1) := by decide +kernel
theorem dX3_setWord_0 : decode cX3_setWord 0 = .ok (.aload_n 0, 1) := by decide +kernel
theorem dX3_setWord_1 : decode cX3_setWord 1 = .ok (.iload_n 1, 1) := by decide +kernel
theorem dX3_setWord_2 : decode cX3_setWord 2 = .ok (.invokevirtual 28, 3) := by decide +kernel
theorem dX3_setWord_5 : decode cX3_setWord 5 = .ok (.ifCond .ne 13, 3) := by decide +kernel
theorem dX3_setWord_8 : decode cX3_setWord 8 = .ok (.aload_n 0, 1) := by decide +kernel
theorem dX3_setWord_9 : decode cX3_setWord 9 = .ok (.iload_n 1, 1) := by decide +kernel
theorem dX3_setWord_10 : decode cX3_setWord 10 = .ok (.iconst 1, 1) := by decide +kernel
theorem dX3_setWord_11 : decode cX3_setWord 11 = .ok (.iadd, 1) := by decide +kernel
theorem dX3_setWord_12 : decode cX3_setWord 12 = .ok (.invokevirtual 28, 3) := by decide +kernel
theorem dX3_setWord_15 : decode cX3_setWord 15 = .ok (.ifCond .eq 6, 3) := by decide +kernel
theorem dX3_setWord_18 : decode cX3_setWord 18 = .ok (.bipush (-12), 2) := by decide +kernel
theorem dX3_setWord_20 : decode cX3_setWord 20 = .ok (.ireturn, 1) := by decide +kernel
theorem dX3_setWord_21 : decode cX3_setWord 21 = .ok (.iload_n 3, 1) := by decide +kernel
theorem dX3_setWord_22 : decode cX3_setWord 22 = .ok (.ifCond .ne 16, 3) := by decide +kernel
theorem dX3_setWord_25 : decode cX3_setWord 25 = .ok (.iload_n 1, 1) := by decide +kernel
theorem dX3_setWord_26 : decode cX3_setWord 26 = .ok (.iconst 1, 1) := by decide +kernel
theorem dX3_setWord_27 : decode cX3_setWord 27 = .ok (.iadd, 1) := by decide +kernel
theorem dX3_setWord_28 : decode cX3_setWord 28 = .ok (.aload_n 0, 1) := by decide +kernel
theorem dX3_setWord_29 : decode cX3_setWord 29 = .ok (.getfield 25, 3) := by decide +kernel
theorem dX3_setWord_32 : decode cX3_setWord 32 = .ok (.if_icmp .lt 6, 3) := by decide +kernel
theorem dX3_setWord_35 : decode cX3_setWord 35 = .ok (.bipush (-13), 2) := by decide +kernel
theorem dX3_setWord_37 : decode cX3_setWord 37 = .ok (.ireturn, 1) := by decide +kernel
theorem dX3_setWord_38 : decode cX3_setWord 38 = .ok (.aload_n 0, 1) := by decide +kernel
theorem dX3_setWord_39 : decode cX3_setWord 39 = .ok (.getfield 9, 3) := by decide +kernel
theorem dX3_setWord_42 : decode cX3_setWord 42 = .ok (.iload_n 1, 1) := by decide +kernel
theorem dX3_setWord_43 : decode cX3_setWord 43 = .ok (.iload_n 2, 1) := by decide +kernel
theorem dX3_setWord_44 : decode cX3_setWord 44 = .ok (.bipush 8, 2) := by decide +kernel
theorem dX3_setWord_46 : decode cX3_setWord 46 = .ok (.ishr, 1) := by decide +kernel
theorem dX3_setWord_47 : decode cX3_setWord 47 = .ok (.sipush 255, 3) := by decide +kernel
theorem dX3_setWord_50 : decode cX3_setWord 50 = .ok (.iand, 1) := by decide +kernel
theorem dX3_setWord_51 : decode cX3_setWord 51 = .ok (.iastore, 1) := by decide +kernel
theorem dX3_setWord_52 : decode cX3_setWord 52 = .ok (.aload_n 0, 1) := by decide +kernel
theorem dX3_setWord_53 : decode cX3_setWord 53 = .ok (.getfield 9, 3) := by decide +kernel
theorem dX3_setWord_56 : decode cX3_setWord 56 = .ok (.iload_n 1, 1) := by decide +kernel
theorem dX3_setWord_57 : decode cX3_setWord 57 = .ok (.iconst 1, 1) := by decide +kernel
theorem dX3_setWord_58 : decode cX3_setWord 58 = .ok (.iadd, 1) := by decide +kernel
theorem dX3_setWord_59 : decode cX3_setWord 59 = .ok (.iload_n 2, 1) := by decide +kernel
theorem dX3_setWord_60 : decode cX3_setWord 60 = .ok (.sipush 255, 3) := by decide +kernel
theorem dX3_setWord_63 : decode cX3_setWord 63 = .ok (.iand, 1) := by decide +kernel
theorem dX3_setWord_64 : decode cX3_setWord 64 = .ok (.iastore, 1) := by decide +kernel
theorem dX3_setWord_65 : decode cX3_setWord 65 = .ok (.iconst 1, 1) := by decide +kernel
theorem dX3_setWord_66 : decode cX3_setWord 66 = .ok (.ireturn, 1) := by decide +kernel
theorem dX3_copyTable_0 : decode cX3_copyTable 0 = .ok (.iload_n 3, 1) := by decide +kernel
theorem dX3_copyTable_1 : decode cX3_copyTable 1 = .ok (.ifCond .ne 5, 3) := by decide +kernel
theorem dX3_copyTable_4 : decode cX3_copyTable 4 = .ok (.iconst 1, 1) := by decide +kernel
theorem dX3_copyTable_5 : decode cX3_copyTable 5 = .ok (.ireturn, 1) := by decide +kernel
theorem dX3_copyTable_6 : decode cX3_copyTable 6 = .ok (.iload_n 2, 1) := by decide +kernel
theorem dX3_copyTable_7 : decode cX3_copyTable 7 = .ok (.ifCond .ne 13, 3) := by decide +kernel
theorem dX3_copyTable_10 : decode cX3_copyTable 10 = .ok (.aload_n 0, 1) := by decide +kernel
theorem dX3_copyTable_11 : decode cX3_copyTable 11 = .ok (.iload_n 1, 1) := by decide +kernel
theorem dX3_copyTable_12 : decode cX3_copyTable 12 = .ok (.iload_n 3, 1) := by decide +kernel
theorem dX3_copyTable_13 : decode cX3_copyTable 13 = .ok (.invokestatic 32, 3) := by decide +kernel
theorem dX3_copyTable_16 : decode cX3_copyTable 16 = .ok (.invokevirtual 38, 3) := by decide +kernel
theorem dX3_copyTable_19 : decode cX3_copyTable 19 = .ok (.ireturn, 1) := by decide +kernel
theorem dX3_copyTable_20 : decode cX3_copyTable 20 = .ok (.iload_n 3, 1) := by decide +kernel
theorem dX3_copyTable_21 : decode cX3_copyTable 21 = .ok (.ifCond .le 13, 3) := by decide +kernel
theorem dX3_copyTable_24 : decode cX3_copyTable 24 = .ok (.aload_n 0, 1) := by decide +kernel
theorem dX3_copyTable_25 : decode cX3_copyTable 25 = .ok (.iload_n 1, 1) := by decide +kernel
theorem dX3_copyTable_26 : decode cX3_copyTable 26 = .ok (.iload_n 2, 1) := by decide +kernel
theorem dX3_copyTable_27 : decode cX3_copyTable 27 = .ok (.iload_n 3, 1) := by decide +kernel
theorem dX3_copyTable_28 : decode cX3_copyTable 28 = .ok (.invokevirtual 42, 3) := by decide +kernel
theorem dX3_copyTable_31 : decode cX3_copyTable 31 = .ok (.goto 11, 3) := by decide +kernel
theorem dX3_copyTable_34 : decode cX3_copyTable 34 = .ok (.aload_n 0, 1) := by decide +kernel
theorem dX3_copyTable_35 : decode cX3_copyTable 35 = .ok (.iload_n 1, 1) := by decide +kernel
theorem dX3_copyTable_36 : decode cX3_copyTable 36 = .ok (.iload_n 2, 1) := by decide +kernel
theorem dX3_copyTable_37 : decode cX3_copyTable 37 = .ok (.iload_n 3, 1) := by decide +kernel
theorem dX3_copyTable_38 : decode cX3_copyTable 38 = .ok (.ineg, 1) := by decide +kernel
theorem dX3_copyTable_39 : decode cX3_copyTable 39 = .ok (.invokevirtual 46, 3) := by decide +kernel
theorem dX3_copyTable_42 : decode cX3_copyTable 42 = .ok (.ireturn, 1) := by decide +kernel
theorem dX3_wipe_0 : decode cX3_wipe 0 = .ok (.aload_n 0, 1) := by decide +kernel
theorem dX3_wipe_1 : decode cX3_wipe 1 = .ok (.iload_n 1, 1) := by decide +kernel
theorem dX3_wipe_2 : decode cX3_wipe 2 = .ok (.invokevirtual 28, 3) := by decide +kernel
theorem dX3_wipe_5 : decode cX3_wipe 5 = .ok (.ifCond .ne 15, 3) := by decide +kernel
theorem dX3_wipe_8 : decode cX3_wipe 8 = .ok (.aload_n 0, 1) := by decide +kernel
theorem dX3_wipe_9 : decode cX3_wipe 9 = .ok (.iload_n 1, 1) := by decide +kernel
theorem dX3_wipe_10 : decode cX3_wipe 10 = .ok (.iload_n 2, 1) := by decide +kernel
theorem dX3_wipe_11 : decode cX3_wipe 11 = .ok (.iadd, 1) := by decide +kernel
theorem dX3_wipe_12 : decode cX3_wipe 12 = .ok (.iconst 1, 1) := by decide +kernel
theorem dX3_wipe_13 : decode cX3_wipe 13 = .ok (.isub, 1) := by decide +kernel
theorem dX3_wipe_14 : decode cX3_wipe 14 = .ok (.invokevirtual 28, 3) := by decide +kernel
theorem dX3_wipe_17 : decode cX3_wipe 17 = .ok (.ifCond .eq 6, 3) := by decide +kernel
theorem dX3_wipe_20 : decode cX3_wipe 20 = .ok (.bipush (-12), 2) := by decide +kernel
theorem dX3_wipe_22 : decode cX3_wipe 22 = .ok (.ireturn, 1) := by decide +kernel
theorem dX3_wipe_23 : decode cX3_wipe 23 = .ok (.iload_n 1, 1) := by decide +kernel
theorem dX3_wipe_24 : decode cX3_wipe 24 = .ok (.iload_n 2, 1) := by decide +kernel
theorem dX3_wipe_25 : decode cX3_wipe 25 = .ok (.iadd, 1) := by decide +kernel
theorem dX3_wipe_26 : decode cX3_wipe 26 = .ok (.aload_n 0, 1) := by decide +kernel
theorem dX3_wipe_27 : decode cX3_wipe 27 = .ok (.getfield 25, 3) := by decide +kernel
theorem dX3_wipe_30 : decode cX3_wipe 30 = .ok (.if_icmp .le 6, 3) := by decide +kernel
theorem dX3_wipe_33 : decode cX3_wipe 33 = .ok (.bipush (-13), 2) := by decide +kernel
theorem dX3_wipe_35 : decode cX3_wipe 35 = .ok (.ireturn, 1) := by decide +kernel
theorem dX3_wipe_36 : decode cX3_wipe 36 = .ok (.iconst 0, 1) := by decide +kernel
theorem dX3_wipe_37 : decode cX3_wipe 37 = .ok (.istore_n 3, 1) := by decide +kernel
theorem dX3_wipe_38 : decode cX3_wipe 38 = .ok (.iload_n 3, 1) := by decide +kernel
theorem dX3_wipe_39 : decode cX3_wipe 39 = .ok (.iload_n 2, 1) := by decide +kernel
theorem dX3_wipe_40 : decode cX3_wipe 40 = .ok (.if_icmp .ge 18, 3) := by decide +kernel
theorem dX3_wipe_43 : decode cX3_wipe 43 = .ok (.aload_n 0, 1) := by decide +kernel
theorem dX3_wipe_44 : decode cX3_wipe 44 = .ok (.getfield 9, 3) := by decide +kernel
theorem dX3_wipe_47 : decode cX3_wipe 47 = .ok (.iload_n 1, 1) := by decide +kernel
theorem dX3_wipe_48 : decode cX3_wipe 48 = .ok (.iload_n 3, 1) := by decide +kernel
theorem dX3_wipe_49 : decode cX3_wipe 49 = .ok (.iadd, 1) := by decide +kernel
theorem dX3_wipe_50 : decode cX3_wipe 50 = .ok (.iconst 0, 1) := by decide +kernel
theorem dX3_wipe_51 : decode cX3_wipe 51 = .ok (.iastore, 1) := by decide +kernel
theorem dX3_wipe_52 : decode cX3_wipe 52 = .ok (.iinc 3 1, 3) := by decide +kernel
theorem dX3_wipe_55 : decode cX3_wipe 55 = .ok (.goto (-17), 3) := by decide +kernel
theorem dX3_wipe_58 : decode cX3_wipe 58 = .ok (.iconst 1, 1) := by decide +kernel
theorem dX3_wipe_59 : decode cX3_wipe 59 = .ok (.ireturn, 1) := by decide +kernel
theorem dX3_copyAtOnce_0 : decode cX3_copyAtOnce 0 = .ok (.aload_n 0, 1) := by decide +kernel
theorem dX3_copyAtOnce_1 : decode cX3_copyAtOnce 1 = .ok (.iload_n 1, 1) := by decide +kernel
theorem dX3_copyAtOnce_2 : decode cX3_copyAtOnce 2 = .ok (.invokevirtual 28, 3) := by decide +kernel
theorem dX3_copyAtOnce_5 : decode cX3_copyAtOnce 5 = .ok (.ifCond .ne 35, 3) := by decide +kernel
theorem dX3_copyAtOnce_8 : decode cX3_copyAtOnce 8 = .ok (.aload_n 0, 1) := by decide +kernel
theorem dX3_copyAtOnce_9 : decode cX3_copyAtOnce 9 = .ok (.iload_n 1, 1) := by decide +kernel
theorem dX3_copyAtOnce_10 : decode cX3_copyAtOnce 10 = .ok (.iload_n 3, 1) := by decide +kernel
theorem dX3_copyAtOnce_11 : decode cX3_copyAtOnce 11 = .ok (.iadd, 1) := by decide +kernel
theorem dX3_copyAtOnce_12 : decode cX3_copyAtOnce 12 = .ok (.iconst 1, 1) := by decide +kernel
theorem dX3_copyAtOnce_13 : decode cX3_copyAtOnce 13 = .ok (.isub, 1) := by decide +kernel
theorem dX3_copyAtOnce_14 : decode cX3_copyAtOnce 14 = .ok (.invokevirtual 28, 3) := by decide +kernel
theorem dX3_copyAtOnce_17 : decode cX3_copyAtOnce 17 = .ok (.ifCond .ne 23, 3) := by decide +kernel
theorem dX3_copyAtOnce_20 : decode cX3_copyAtOnce 20 = .ok (.aload_n 0, 1) := by decide +kernel
theorem dX3_copyAtOnce_21 : decode cX3_copyAtOnce 21 = .ok (.iload_n 2, 1) := by decide +kernel
theorem dX3_copyAtOnce_22 : decode cX3_copyAtOnce 22 = .ok (.invokevirtual 28, 3) := by decide +kernel
theorem dX3_copyAtOnce_25 : decode cX3_copyAtOnce 25 = .ok (.ifCond .ne 15, 3) := by decide +kernel
theorem dX3_copyAtOnce_28 : decode cX3_copyAtOnce 28 = .ok (.aload_n 0, 1) := by decide +kernel
theorem dX3_copyAtOnce_29 : decode cX3_copyAtOnce 29 = .ok (.iload_n 2, 1) := by decide +kernel
theorem dX3_copyAtOnce_30 : decode cX3_copyAtOnce 30 = .ok (.iload_n 3, 1) := by decide +kernel
theorem dX3_copyAtOnce_31 : decode cX3_copyAtOnce 31 = .ok (.iadd, 1) := by decide +kernel
theorem dX3_copyAtOnce_32 : decode cX3_copyAtOnce 32 = .ok (.iconst 1, 1) := by decide +kernel
theorem dX3_copyAtOnce_33 : decode cX3_copyAtOnce 33 = .ok (.isub, 1) := by decide +kernel
theorem dX3_copyAtOnce_34 : decode cX3_copyAtOnce 34 = .ok (.invokevirtual 28, 3) := by decide +kernel
theorem dX3_copyAtOnce_37 : decode cX3_copyAtOnce 37 = .ok (.ifCond .eq 6, 3) := by decide +kernel
theorem dX3_copyAtOnce_40 : decode cX3_copyAtOnce 40 = .ok (.bipush (-12), 2) := by decide +kernel
theorem dX3_copyAtOnce_42 : decode cX3_copyAtOnce 42 = .ok (.ireturn, 1) := by decide +kernel
theorem dX3_copyAtOnce_43 : decode cX3_copyAtOnce 43 = .ok (.iload_n 2, 1) := by decide +kernel
theorem dX3_copyAtOnce_44 : decode cX3_copyAtOnce 44 = .ok (.iload_n 3, 1) := by decide +kernel
theorem dX3_copyAtOnce_45 : decode cX3_copyAtOnce 45 = .ok (.iadd, 1) := by decide +kernel
theorem dX3_copyAtOnce_46 : decode cX3_copyAtOnce 46 = .ok (.aload_n 0, 1) := by decide +kernel
theorem dX3_copyAtOnce_47 : decode cX3_copyAtOnce 47 = .ok (.getfield 25, 3) := by decide +kernel
theorem dX3_copyAtOnce_50 : decode cX3_copyAtOnce 50 = .ok (.if_icmp .le 6, 3) := by decide +kernel
theorem dX3_copyAtOnce_53 : decode cX3_copyAtOnce 53 = .ok (.bipush (-13), 2) := by decide +kernel
theorem dX3_copyAtOnce_55 : decode cX3_copyAtOnce 55 = .ok (.ireturn, 1) := by decide +kernel
theorem dX3_copyAtOnce_56 : decode cX3_copyAtOnce 56 = .ok (.aload_n 0, 1) := by decide +kernel
theorem dX3_copyAtOnce_57 : decode cX3_copyAtOnce 57 = .ok (.getfield 9, 3) := by decide +kernel
theorem dX3_copyAtOnce_60 : decode cX3_copyAtOnce 60 = .ok (.iload_n 1, 1) := by decide +kernel
theorem dX3_copyAtOnce_61 : decode cX3_copyAtOnce 61 = .ok (.aload_n 0, 1) := by decide +kernel
theorem dX3_copyAtOnce_62 : decode cX3_copyAtOnce 62 = .ok (.getfield 9, 3) := by decide +kernel
theorem dX3_copyAtOnce_65 : decode cX3_copyAtOnce 65 = .ok (.iload_n 2, 1) := by decide +kernel
theorem dX3_copyAtOnce_66 : decode cX3_copyAtOnce 66 = .ok (.iload_n 3, 1) := by decide +kernel
theorem dX3_copyAtOnce_67 : decode cX3_copyAtOnce 67 = .ok (.invokestatic 49, 3) := by decide +kernel
theorem dX3_copyAtOnce_70 : decode cX3_copyAtOnce 70 = .ok (.iconst 1, 1) := by decide +kernel
theorem dX3_copyAtOnce_71 : decode cX3_copyAtOnce 71 = .ok (.ireturn, 1) := by decide +kernel
theorem dX3_copyInTurn_0 : decode cX3_copyInTurn 0 = .ok (.iconst 0, 1) := by decide +kernel
theorem dX3_copyInTurn_1 : decode cX3_copyInTurn 1 = .ok (.istore 4, 2) := by decide +kernel
theorem dX3_copyInTurn_3 : decode cX3_copyInTurn 3 = .ok (.iload 4, 2) := by decide +kernel
theorem dX3_copyInTurn_5 : decode cX3_copyInTurn 5 = .ok (.iload_n 3, 1) := by decide +kernel
theorem dX3_copyInTurn_6 : decode cX3_copyInTurn 6 = .ok (.if_icmp .ge 48, 3) := by decide +kernel
theorem dX3_copyInTurn_9 : decode cX3_copyInTurn 9 = .ok (.aload_n 0, 1) := by decide +kernel
theorem dX3_copyInTurn_10 : decode cX3_copyInTurn 10 = .ok (.iload_n 1, 1) := by decide +kernel
theorem dX3_copyInTurn_11 : decode cX3_copyInTurn 11 = .ok (.iload 4, 2) := by decide +kernel
theorem dX3_copyInTurn_13 : decode cX3_copyInTurn 13 = .ok (.iadd, 1) := by decide +kernel
theorem dX3_copyInTurn_14 : decode cX3_copyInTurn 14 = .ok (.invokevirtual 55, 3) := by decide +kernel
theorem dX3_copyInTurn_17 : decode cX3_copyInTurn 17 = .ok (.istore 5, 2) := by decide +kernel
theorem dX3_copyInTurn_19 : decode cX3_copyInTurn 19 = .ok (.iload 5, 2) := by decide +kernel
theorem dX3_copyInTurn_21 : decode cX3_copyInTurn 21 = .ok (.ifCond .ge 6, 3) := by decide +kernel
theorem dX3_copyInTurn_24 : decode cX3_copyInTurn 24 = .ok (.iload 5, 2) := by decide +kernel
theorem dX3_copyInTurn_26 : decode cX3_copyInTurn 26 = .ok (.ireturn, 1) := by decide +kernel
theorem dX3_copyInTurn_27 : decode cX3_copyInTurn 27 = .ok (.aload_n 0, 1) := by decide +kernel
theorem dX3_copyInTurn_28 : decode cX3_copyInTurn 28 = .ok (.iload_n 2, 1) := by decide +kernel
theorem dX3_copyInTurn_29 : decode cX3_copyInTurn 29 = .ok (.iload 4, 2) := by decide +kernel
theorem dX3_copyInTurn_31 : decode cX3_copyInTurn 31 = .ok (.iadd, 1) := by decide +kernel
theorem dX3_copyInTurn_32 : decode cX3_copyInTurn 32 = .ok (.iload 5, 2) := by decide +kernel
theorem dX3_copyInTurn_34 : decode cX3_copyInTurn 34 = .ok (.iconst 0, 1) := by decide +kernel
theorem dX3_copyInTurn_35 : decode cX3_copyInTurn 35 = .ok (.invokevirtual 58, 3) := by decide +kernel
theorem dX3_copyInTurn_38 : decode cX3_copyInTurn 38 = .ok (.istore 6, 2) := by decide +kernel
theorem dX3_copyInTurn_40 : decode cX3_copyInTurn 40 = .ok (.iload 6, 2) := by decide +kernel
theorem dX3_copyInTurn_42 : decode cX3_copyInTurn 42 = .ok (.ifCond .ge 6, 3) := by decide +kernel
theorem dX3_copyInTurn_45 : decode cX3_copyInTurn 45 = .ok (.iload 6, 2) := by decide +kernel
theorem dX3_copyInTurn_47 : decode cX3_copyInTurn 47 = .ok (.ireturn, 1) := by decide +kernel
theorem dX3_copyInTurn_48 : decode cX3_copyInTurn 48 = .ok (.iinc 4 1, 3) := by decide +kernel
theorem dX3_copyInTurn_51 : decode cX3_copyInTurn 51 = .ok (.goto (-48), 3) := by decide +kernel
theorem dX3_copyInTurn_54 : decode cX3_copyInTurn 54 = .ok (.iconst 1, 1) := by decide +kernel
theorem dX3_copyInTurn_55 : decode cX3_copyInTurn 55 = .ok (.ireturn, 1) := by decide +kernel
theorem dX3_find_0 : decode cX3_find 0 = .ok (.iload 4, 2) := by decide +kernel
theorem dX3_find_2 : decode cX3_find 2 = .ok (.bipush 127, 2) := by decide +kernel
theorem dX3_find_4 : decode cX3_find 4 = .ok (.iand, 1) := by decide +kernel
theorem dX3_find_5 : decode cX3_find 5 = .ok (.istore 5, 2) := by decide +kernel
theorem dX3_find_7 : decode cX3_find 7 = .ok (.iload_n 3, 1) := by decide +kernel
theorem dX3_find_8 : decode cX3_find 8 = .ok (.iload 5, 2) := by decide +kernel
theorem dX3_find_10 : decode cX3_find 10 = .ok (.ifCond .ne 7, 3) := by decide +kernel
theorem dX3_find_13 : decode cX3_find 13 = .ok (.iconst 1, 1) := by decide +kernel
theorem dX3_find_14 : decode cX3_find 14 = .ok (.goto 6, 3) := by decide +kernel
theorem dX3_find_17 : decode cX3_find 17 = .ok (.sipush 2001, 3) := by decide +kernel
theorem dX3_find_20 : decode cX3_find 20 = .ok (.invokestatic 62, 3) := by decide +kernel
theorem dX3_find_23 : decode cX3_find 23 = .ok (.istore 6, 2) := by decide +kernel
theorem dX3_find_25 : decode cX3_find 25 = .ok (.iconst 0, 1) := by decide +kernel
theorem dX3_find_26 : decode cX3_find 26 = .ok (.istore 7, 2) := by decide +kernel
theorem dX3_find_28 : decode cX3_find 28 = .ok (.iload 7, 2) := by decide +kernel
theorem dX3_find_30 : decode cX3_find 30 = .ok (.iload 6, 2) := by decide +kernel
theorem dX3_find_32 : decode cX3_find 32 = .ok (.if_icmp .ge 59, 3) := by decide +kernel
theorem dX3_find_35 : decode cX3_find 35 = .ok (.iload_n 2, 1) := by decide +kernel
theorem dX3_find_36 : decode cX3_find 36 = .ok (.iload 7, 2) := by decide +kernel
theorem dX3_find_38 : decode cX3_find 38 = .ok (.iload 5, 2) := by decide +kernel
theorem dX3_find_40 : decode cX3_find 40 = .ok (.imul, 1) := by decide +kernel
theorem dX3_find_41 : decode cX3_find 41 = .ok (.iadd, 1) := by decide +kernel
theorem dX3_find_42 : decode cX3_find 42 = .ok (.istore 8, 2) := by decide +kernel
theorem dX3_find_44 : decode cX3_find 44 = .ok (.iload 4, 2) := by decide +kernel
theorem dX3_find_46 : decode cX3_find 46 = .ok (.bipush 127, 2) := by decide +kernel
theorem dX3_find_48 : decode cX3_find 48 = .ok (.if_icmp .le 12, 3) := by decide +kernel
theorem dX3_find_51 : decode cX3_find 51 = .ok (.aload_n 0, 1) := by decide +kernel
theorem dX3_find_52 : decode cX3_find 52 = .ok (.iload 8, 2) := by decide +kernel
theorem dX3_find_54 : decode cX3_find 54 = .ok (.invokevirtual 65, 3) := by decide +kernel
theorem dX3_find_57 : decode cX3_find 57 = .ok (.goto 9, 3) := by decide +kernel
theorem dX3_find_60 : decode cX3_find 60 = .ok (.aload_n 0, 1) := by decide +kernel
theorem dX3_find_61 : decode cX3_find 61 = .ok (.iload 8, 2) := by decide +kernel
theorem dX3_find_63 : decode cX3_find 63 = .ok (.invokevirtual 55, 3) := by decide +kernel
theorem dX3_find_66 : decode cX3_find 66 = .ok (.istore 9, 2) := by decide +kernel
theorem dX3_find_68 : decode cX3_find 68 = .ok (.iload 9, 2) := by decide +kernel
theorem dX3_find_70 : decode cX3_find 70 = .ok (.ifCond .ge 6, 3) := by decide +kernel
theorem dX3_find_73 : decode cX3_find 73 = .ok (.iload 9, 2) := by decide +kernel
theorem dX3_find_75 : decode cX3_find 75 = .ok (.ireturn, 1) := by decide +kernel
theorem dX3_find_76 : decode cX3_find 76 = .ok (.iload 9, 2) := by decide +kernel
theorem dX3_find_78 : decode cX3_find 78 = .ok (.iload_n 1, 1) := by decide +kernel
theorem dX3_find_79 : decode cX3_find 79 = .ok (.if_icmp .ne 6, 3) := by decide +kernel
theorem dX3_find_82 : decode cX3_find 82 = .ok (.iload 8, 2) := by decide +kernel
theorem dX3_find_84 : decode cX3_find 84 = .ok (.ireturn, 1) := by decide +kernel
theorem dX3_find_85 : decode cX3_find 85 = .ok (.iinc 7 1, 3) := by decide +kernel
theorem dX3_find_88 : decode cX3_find 88 = .ok (.goto (-60), 3) := by decide +kernel
theorem dX3_find_91 : decode cX3_find 91 = .ok (.iconst 0, 1) := by decide +kernel
theorem dX3_find_92 : decode cX3_find 92 = .ok (.ireturn, 1) := by decide +kernel
theorem dX4_init_0 : decode cX4_init 0 = .ok (.aload_n 0, 1) := by decide +kernel
theorem dX4_init_1 : decode cX4_init 1 = .ok (.invokespecial 3, 3) := by decide +kernel
theorem dX4_init_4 : decode cX4_init 4 = .ok (.aload_n 0, 1) := by decide +kernel
theorem dX4_init_5 : decode cX4_init 5 = .ok (.bipush 120, 2) := by decide +kernel
theorem dX4_init_7 : decode cX4_init 7 = .ok (.newarray .int, 2) := by decide +kernel
theorem dX4_init_9 : decode cX4_init 9 = .ok (.putfield 9, 3) := by decide +kernel
theorem dX4_init_12 : decode cX4_init 12 = .ok (.return_, 1) := by decide +kernel
theorem dX4_characterAt_0 : decode cX4_characterAt 0 = .ok (.iload_n 1, 1) := by decide +kernel
theorem dX4_characterAt_1 : decode cX4_characterAt 1 = .ok (.ifCond .lt 20, 3) := by decide +kernel
theorem dX4_characterAt_4 : decode cX4_characterAt 4 = .ok (.iload_n 1, 1) := by decide +kernel
theorem dX4_characterAt_5 : decode cX4_characterAt 5 = .ok (.aload_n 0, 1) := by decide +kernel
theorem dX4_characterAt_6 : decode cX4_characterAt 6 = .ok (.getfield 15, 3) := by decide +kernel
theorem dX4_characterAt_9 : decode cX4_characterAt 9 = .ok (.if_icmp .ge 12, 3) := by decide +kernel
theorem dX4_characterAt_12 : decode cX4_characterAt 12 = .ok (.aload_n 0, 1) := by decide +kernel
theorem dX4_characterAt_13 : decode cX4_characterAt 13 = .ok (.getfield 9, 3) := by decide +kernel
theorem dX4_characterAt_16 : decode cX4_characterAt 16 = .ok (.iload_n 1, 1) := by decide +kernel
theorem dX4_characterAt_17 : decode cX4_characterAt 17 = .ok (.iaload, 1) := by decide +kernel
theorem dX4_characterAt_18 : decode cX4_characterAt 18 = .ok (.goto 4, 3) := by decide +kernel
theorem dX4_characterAt_21 : decode cX4_characterAt 21 = .ok (.iconst (-1), 1) := by decide +kernel
theorem dX4_characterAt_22 : decode cX4_characterAt 22 = .ok (.ireturn, 1) := by decide +kernel
theorem dX4_print_0 : decode cX4_print 0 = .ok (.aload_n 0, 1) := by decide +kernel
theorem dX4_print_1 : decode cX4_print 1 = .ok (.getfield 15, 3) := by decide +kernel
theorem dX4_print_4 : decode cX4_print 4 = .ok (.bipush 120, 2) := by decide +kernel
theorem dX4_print_6 : decode cX4_print 6 = .ok (.if_icmp .lt 6, 3) := by decide +kernel
theorem dX4_print_9 : decode cX4_print 9 = .ok (.bipush (-21), 2) := by decide +kernel
theorem dX4_print_11 : decode cX4_print 11 = .ok (.ireturn, 1) := by decide +kernel
theorem dX4_print_12 : decode cX4_print 12 = .ok (.aload_n 0, 1) := by decide +kernel
theorem dX4_print_13 : decode cX4_print 13 = .ok (.getfield 9, 3) := by decide +kernel
theorem dX4_print_16 : decode cX4_print 16 = .ok (.aload_n 0, 1) := by decide +kernel
theorem dX4_print_17 : decode cX4_print 17 = .ok (.getfield 15, 3) := by decide +kernel
theorem dX4_print_20 : decode cX4_print 20 = .ok (.iload_n 1, 1) := by decide +kernel
theorem dX4_print_21 : decode cX4_print 21 = .ok (.sipush 255, 3) := by decide +kernel
theorem dX4_print_24 : decode cX4_print 24 = .ok (.iand, 1) := by decide +kernel
theorem dX4_print_25 : decode cX4_print 25 = .ok (.iastore, 1) := by decide +kernel
theorem dX4_print_26 : decode cX4_print 26 = .ok (.aload_n 0, 1) := by decide +kernel
theorem dX4_print_27 : decode cX4_print 27 = .ok (.dup, 1) := by decide +kernel
theorem dX4_print_28 : decode cX4_print 28 = .ok (.getfield 15, 3) := by decide +kernel
theorem dX4_print_31 : decode cX4_print 31 = .ok (.iconst 1, 1) := by decide +kernel
theorem dX4_print_32 : decode cX4_print 32 = .ok (.iadd, 1) := by decide +kernel
theorem dX4_print_33 : decode cX4_print 33 = .ok (.putfield 15, 3) := by decide +kernel
theorem dX4_print_36 : decode cX4_print 36 = .ok (.iconst 1, 1) := by decide +kernel
theorem dX4_print_37 : decode cX4_print 37 = .ok (.ireturn, 1) := by decide +kernel
theorem dX4_printNumber_0 : decode cX4_printNumber 0 = .ok (.iload_n 1, 1) := by decide +kernel
theorem dX4_printNumber_1 : decode cX4_printNumber 1 = .ok (.ifCond .ge 12, 3) := by decide +kernel
theorem dX4_printNumber_4 : decode cX4_printNumber 4 = .ok (.aload_n 0, 1) := by decide +kernel
theorem dX4_printNumber_5 : decode cX4_printNumber 5 = .ok (.bipush 45, 2) := by decide +kernel
theorem dX4_printNumber_7 : decode cX4_printNumber 7 = .ok (.invokevirtual 19, 3) := by decide +kernel
theorem dX4_printNumber_10 : decode cX4_printNumber 10 = .ok (.goto 4, 3) := by decide +kernel
theorem dX4_printNumber_13 : decode cX4_printNumber 13 = .ok (.iconst 1, 1) := by decide +kernel
theorem dX4_printNumber_14 : decode cX4_printNumber 14 = .ok (.istore_n 2, 1) := by decide +kernel
theorem dX4_printNumber_15 : decode cX4_printNumber 15 = .ok (.iload_n 1, 1) := by decide +kernel
theorem dX4_printNumber_16 : decode cX4_printNumber 16 = .ok (.invokestatic 23, 3) := by decide +kernel
theorem dX4_printNumber_19 : decode cX4_printNumber 19 = .ok (.istore_n 3, 1) := by decide +kernel
theorem dX4_printNumber_20 : decode cX4_printNumber 20 = .ok (.sipush 10000, 3) := by decide +kernel
theorem dX4_printNumber_23 : decode cX4_printNumber 23 = .ok (.istore 4, 2) := by decide +kernel
theorem dX4_printNumber_25 : decode cX4_printNumber 25 = .ok (.iload 4, 2) := by decide +kernel
theorem dX4_printNumber_27 : decode cX4_printNumber 27 = .ok (.ifCond .le 44, 3) := by decide +kernel
theorem dX4_printNumber_30 : decode cX4_printNumber 30 = .ok (.iload_n 2, 1) := by decide +kernel
theorem dX4_printNumber_31 : decode cX4_printNumber 31 = .ok (.ifCond .lt 40, 3) := by decide +kernel
theorem dX4_printNumber_34 : decode cX4_printNumber 34 = .ok (.iload_n 3, 1) := by decide +kernel
theorem dX4_printNumber_35 : decode cX4_printNumber 35 = .ok (.iload 4, 2) := by decide +kernel
theorem dX4_printNumber_37 : decode cX4_printNumber 37 = .ok (.if_icmp .ge 9, 3) := by decide +kernel
theorem dX4_printNumber_40 : decode cX4_printNumber 40 = .ok (.iload 4, 2) := by decide +kernel
theorem dX4_printNumber_42 : decode cX4_printNumber 42 = .ok (.iconst 1, 1) := by decide +kernel
theorem dX4_printNumber_43 : decode cX4_printNumber 43 = .ok (.if_icmp .ne 18, 3) := by decide +kernel
theorem dX4_printNumber_46 : decode cX4_printNumber 46 = .ok (.aload_n 0, 1) := by decide +kernel
theorem dX4_printNumber_47 : decode cX4_printNumber 47 = .ok (.bipush 48, 2) := by decide +kernel
theorem dX4_printNumber_49 : decode cX4_printNumber 49 = .ok (.iload_n 3, 1) := by decide +kernel
theorem dX4_printNumber_50 : decode cX4_printNumber 50 = .ok (.iload 4, 2) := by decide +kernel
theorem dX4_printNumber_52 : decode cX4_printNumber 52 = .ok (.idiv, 1) := by decide +kernel
theorem dX4_printNumber_53 : decode cX4_printNumber 53 = .ok (.bipush 10, 2) := by decide +kernel
theorem dX4_printNumber_55 : decode cX4_printNumber 55 = .ok (.irem, 1) := by decide +kernel
theorem dX4_printNumber_56 : decode cX4_printNumber 56 = .ok (.iadd, 1) := by decide +kernel
theorem dX4_printNumber_57 : decode cX4_printNumber 57 = .ok (.invokevirtual 19, 3) := by decide +kernel
theorem dX4_printNumber_60 : decode cX4_printNumber 60 = .ok (.istore_n 2, 1) := by decide +kernel
theorem dX4_printNumber_61 : decode cX4_printNumber 61 = .ok (.iload 4, 2) := by decide +kernel
theorem dX4_printNumber_63 : decode cX4_printNumber 63 = .ok (.bipush 10, 2) := by decide +kernel
theorem dX4_printNumber_65 : decode cX4_printNumber 65 = .ok (.idiv, 1) := by decide +kernel
theorem dX4_printNumber_66 : decode cX4_printNumber 66 = .ok (.istore 4, 2) := by decide +kernel
theorem dX4_printNumber_68 : decode cX4_printNumber 68 = .ok (.goto (-43), 3) := by decide +kernel
theorem dX4_printNumber_71 : decode cX4_printNumber 71 = .ok (.iload_n 2, 1) := by decide +kernel
theorem dX4_printNumber_72 : decode cX4_printNumber 72 = .ok (.ireturn, 1) := by decide +kernel
theorem dX5_init_0 : decode cX5_init 0 = .ok (.aload_n 0, 1) := by decide +kernel
theorem dX5_init_1 : decode cX5_init 1 = .ok (.invokespecial 3, 3) := by decide +kernel
theorem dX5_init_4 : decode cX5_init 4 = .ok (.aload_n 0, 1) := by decide +kernel
theorem dX5_init_5 : decode cX5_init 5 = .ok (.bipush 100, 2) := by decide +kernel
theorem dX5_init_7 : decode cX5_init 7 = .ok (.newarray .int, 2) := by decide +kernel
theorem dX5_init_9 : decode cX5_init 9 = .ok (.putfield 9, 3) := by decide +kernel
theorem dX5_init_12 : decode cX5_init 12 = .ok (.aload_n 0, 1) := by decide +kernel
theorem dX5_init_13 : decode cX5_init 13 = .ok (.sipush 300, 3) := by decide +kernel
theorem dX5_init_16 : decode cX5_init 16 = .ok (.newarray .int, 2) := by decide +kernel
theorem dX5_init_18 : decode cX5_init 18 = .ok (.putfield 15, 3) := by decide +kernel
theorem dX5_init_21 : decode cX5_init 21 = .ok (.aload_n 0, 1) := by decide +kernel
theorem dX5_init_22 : decode cX5_init 22 = .ok (.bipush 100, 2) := by decide +kernel
theorem dX5_init_24 : decode cX5_init 24 = .ok (.newarray .int, 2) := by decide +kernel
theorem dX5_init_26 : decode cX5_init 26 = .ok (.putfield 18, 3) := by decide +kernel
theorem dX5_init_29 : decode cX5_init 29 = .ok (.aload_n 0, 1) := by decide +kernel
theorem dX5_init_30 : decode cX5_init 30 = .ok (.bipush 8, 2) := by decide +kernel
theorem dX5_init_32 : decode cX5_init 32 = .ok (.newarray .boolean, 2) := by decide +kernel
theorem dX5_init_34 : decode cX5_init 34 = .ok (.putfield 21, 3) := by decide +kernel
theorem dX5_init_37 : decode cX5_init 37 = .ok (.aload_n 0, 1) := by decide +kernel
theorem dX5_init_38 : decode cX5_init 38 = .ok (.bipush 8, 2) := by decide +kernel
theorem dX5_init_40 : decode cX5_init 40 = .ok (.newarray .int, 2) := by decide +kernel
theorem dX5_init_42 : decode cX5_init 42 = .ok (.putfield 25, 3) := by decide +kernel
theorem dX5_init_45 : decode cX5_init 45 = .ok (.aload_n 0, 1) := by decide +kernel
theorem dX5_init_46 : decode cX5_init 46 = .ok (.bipush 8, 2) := by decide +kernel
theorem dX5_init_48 : decode cX5_init 48 = .ok (.newarray .int, 2) := by decide +kernel
theorem dX5_init_50 : decode cX5_init 50 = .ok (.putfield 28, 3) := by decide +kernel
theorem dX5_init_53 : decode cX5_init 53 = .ok (.aload_n 0, 1) := by decide +kernel
theorem dX5_init_54 : decode cX5_init 54 = .ok (.bipush 8, 2) := by decide +kernel
theorem dX5_init_56 : decode cX5_init 56 = .ok (.newarray .boolean, 2) := by decide +kernel
theorem dX5_init_58 : decode cX5_init 58 = .ok (.putfield 31, 3) := by decide +kernel
theorem dX5_init_61 : decode cX5_init 61 = .ok (.return_, 1) := by decide +kernel
theorem dX5_append_0 : decode cX5_append 0 = .ok (.aload_n 0, 1) := by decide +kernel
theorem dX5_append_1 : decode cX5_append 1 = .ok (.getfield 34, 3) := by decide +kernel
theorem dX5_append_4 : decode cX5_append 4 = .ok (.bipush 100, 2) := by decide +kernel
theorem dX5_append_6 : decode cX5_append 6 = .ok (.if_icmp .lt 6, 3) := by decide +kernel
theorem dX5_append_9 : decode cX5_append 9 = .ok (.bipush (-3), 2) := by decide +kernel
theorem dX5_append_11 : decode cX5_append 11 = .ok (.ireturn, 1) := by decide +kernel
theorem dX5_append_12 : decode cX5_append 12 = .ok (.aload_n 0, 1) := by decide +kernel
theorem dX5_append_13 : decode cX5_append 13 = .ok (.getfield 34, 3) := by decide +kernel
theorem dX5_append_16 : decode cX5_append 16 = .ok (.istore 6, 2) := by decide +kernel
theorem dX5_append_18 : decode cX5_append 18 = .ok (.aload_n 0, 1) := by decide +kernel
theorem dX5_append_19 : decode cX5_append 19 = .ok (.getfield 9, 3) := by decide +kernel
theorem dX5_append_22 : decode cX5_append 22 = .ok (.iload 6, 2) := by decide +kernel
theorem dX5_append_24 : decode cX5_append 24 = .ok (.iload_n 1, 1) := by decide +kernel
theorem dX5_append_25 : decode cX5_append 25 = .ok (.iastore, 1) := by decide +kernel
theorem dX5_append_26 : decode cX5_append 26 = .ok (.aload_n 0, 1) := by decide +kernel
theorem dX5_append_27 : decode cX5_append 27 = .ok (.getfield 15, 3) := by decide +kernel
theorem dX5_append_30 : decode cX5_append 30 = .ok (.iconst 3, 1) := by decide +kernel
theorem dX5_append_31 : decode cX5_append 31 = .ok (.iload 6, 2) := by decide +kernel
theorem dX5_append_33 : decode cX5_append 33 = .ok (.imul, 1) := by decide +kernel
theorem dX5_append_34 : decode cX5_append 34 = .ok (.iload_n 2, 1) := by decide +kernel
theorem dX5_append_35 : decode cX5_append 35 = .ok (.iastore, 1) := by decide +kernel
theorem dX5_append_36 : decode cX5_append 36 = .ok (.aload_n 0, 1) := by decide +kernel
theorem dX5_append_37 : decode cX5_append 37 = .ok (.getfield 15, 3) := by decide +kernel
theorem dX5_append_40 : decode cX5_append 40 = .ok (.iconst 3, 1) := by decide +kernel
theorem dX5_append_41 : decode cX5_append 41 = .ok (.iload 6, 2) := by decide +kernel
theorem dX5_append_43 : decode cX5_append 43 = .ok (.imul, 1) := by decide +kernel
theorem dX5_append_44 : decode cX5_append 44 = .ok (.iconst 1, 1) := by decide +kernel
theorem dX5_append_45 : decode cX5_append 45 = .ok (.iadd, 1) := by decide +kernel
theorem dX5_append_46 : decode cX5_append 46 = .ok (.iload_n 3, 1) := by decide +kernel
theorem dX5_append_47 : decode cX5_append 47 = .ok (.iastore, 1) := by decide +kernel
theorem dX5_append_48 : decode cX5_append 48 = .ok (.aload_n 0, 1) := by decide +kernel
theorem dX5_append_49 : decode cX5_append 49 = .ok (.getfield 15, 3) := by decide +kernel
theorem dX5_append_52 : decode cX5_append 52 = .ok (.iconst 3, 1) := by decide +kernel
theorem dX5_append_53 : decode cX5_append 53 = .ok (.iload 6, 2) := by decide +kernel
theorem dX5_append_55 : decode cX5_append 55 = .ok (.imul, 1) := by decide +kernel
theorem dX5_append_56 : decode cX5_append 56 = .ok (.iconst 2, 1) := by decide +kernel
theorem dX5_append_57 : decode cX5_append 57 = .ok (.iadd, 1) := by decide +kernel
theorem dX5_append_58 : decode cX5_append 58 = .ok (.iload 4, 2) := by decide +kernel
theorem dX5_append_60 : decode cX5_append 60 = .ok (.iastore, 1) := by decide +kernel
theorem dX5_append_61 : decode cX5_append 61 = .ok (.aload_n 0, 1) := by decide +kernel
theorem dX5_append_62 : decode cX5_append 62 = .ok (.getfield 18, 3) := by decide +kernel
theorem dX5_append_65 : decode cX5_append 65 = .ok (.iload 6, 2) := by decide +kernel
theorem dX5_append_67 : decode cX5_append 67 = .ok (.iload 5, 2) := by decide +kernel
theorem dX5_append_69 : decode cX5_append 69 = .ok (.iastore, 1) := by decide +kernel
theorem dX5_append_70 : decode cX5_append 70 = .ok (.aload_n 0, 1) := by decide +kernel
theorem dX5_append_71 : decode cX5_append 71 = .ok (.dup, 1) := by decide +kernel
theorem dX5_append_72 : decode cX5_append 72 = .ok (.getfield 34, 3) := by decide +kernel
theorem dX5_append_75 : decode cX5_append 75 = .ok (.iconst 1, 1) := by decide +kernel
theorem dX5_append_76 : decode cX5_append 76 = .ok (.iadd, 1) := by decide +kernel
theorem dX5_append_77 : decode cX5_append 77 = .ok (.putfield 34, 3) := by decide +kernel
theorem dX5_append_80 : decode cX5_append 80 = .ok (.iload 6, 2) := by decide +kernel
theorem dX5_append_82 : decode cX5_append 82 = .ok (.ireturn, 1) := by decide +kernel
theorem dX5_define_0 : decode cX5_define 0 = .ok (.aload_n 0, 1) := by decide +kernel
theorem dX5_define_1 : decode cX5_define 1 = .ok (.getfield 21, 3) := by decide +kernel
theorem dX5_define_4 : decode cX5_define 4 = .ok (.iload_n 1, 1) := by decide +kernel
theorem dX5_define_5 : decode cX5_define 5 = .ok (.iconst 1, 1) := by decide +kernel
theorem dX5_define_6 : decode cX5_define 6 = .ok (.bastore, 1) := by decide +kernel
theorem dX5_define_7 : decode cX5_define 7 = .ok (.aload_n 0, 1) := by decide +kernel
theorem dX5_define_8 : decode cX5_define 8 = .ok (.getfield 25, 3) := by decide +kernel
theorem dX5_define_11 : decode cX5_define 11 = .ok (.iload_n 1, 1) := by decide +kernel
theorem dX5_define_12 : decode cX5_define 12 = .ok (.iload_n 2, 1) := by decide +kernel
theorem dX5_define_13 : decode cX5_define 13 = .ok (.iastore, 1) := by decide +kernel
theorem dX5_define_14 : decode cX5_define 14 = .ok (.aload_n 0, 1) := by decide +kernel
theorem dX5_define_15 : decode cX5_define 15 = .ok (.getfield 28, 3) := by decide +kernel
theorem dX5_define_18 : decode cX5_define 18 = .ok (.iload_n 1, 1) := by decide +kernel
theorem dX5_define_19 : decode cX5_define 19 = .ok (.iload_n 3, 1) := by decide +kernel
theorem dX5_define_20 : decode cX5_define 20 = .ok (.iastore, 1) := by decide +kernel
theorem dX5_define_21 : decode cX5_define 21 = .ok (.aload_n 0, 1) := by decide +kernel
theorem dX5_define_22 : decode cX5_define 22 = .ok (.getfield 31, 3) := by decide +kernel
theorem dX5_define_25 : decode cX5_define 25 = .ok (.iload_n 1, 1) := by decide +kernel
theorem dX5_define_26 : decode cX5_define 26 = .ok (.iload 4, 2) := by decide +kernel
theorem dX5_define_28 : decode cX5_define 28 = .ok (.bastore, 1) := by decide +kernel
theorem dX5_define_29 : decode cX5_define 29 = .ok (.return_, 1) := by decide +kernel
theorem dX5_forget_0 : decode cX5_forget 0 = .ok (.aload_n 0, 1) := by decide +kernel
theorem dX5_forget_1 : decode cX5_forget 1 = .ok (.getfield 34, 3) := by decide +kernel
theorem dX5_forget_4 : decode cX5_forget 4 = .ok (.istore_n 1, 1) := by decide +kernel
theorem dX5_forget_5 : decode cX5_forget 5 = .ok (.aload_n 0, 1) := by decide +kernel
theorem dX5_forget_6 : decode cX5_forget 6 = .ok (.iconst 0, 1) := by decide +kernel
theorem dX5_forget_7 : decode cX5_forget 7 = .ok (.putfield 34, 3) := by decide +kernel
theorem dX5_forget_10 : decode cX5_forget 10 = .ok (.iconst 0, 1) := by decide +kernel
theorem dX5_forget_11 : decode cX5_forget 11 = .ok (.istore_n 2, 1) := by decide +kernel
theorem dX5_forget_12 : decode cX5_forget 12 = .ok (.iload_n 2, 1) := by decide +kernel
theorem dX5_forget_13 : decode cX5_forget 13 = .ok (.bipush 8, 2) := by decide +kernel
theorem dX5_forget_15 : decode cX5_forget 15 = .ok (.if_icmp .ge 16, 3) := by decide +kernel
theorem dX5_forget_18 : decode cX5_forget 18 = .ok (.aload_n 0, 1) := by decide +kernel
theorem dX5_forget_19 : decode cX5_forget 19 = .ok (.getfield 21, 3) := by decide +kernel
theorem dX5_forget_22 : decode cX5_forget 22 = .ok (.iload_n 2, 1) := by decide +kernel
theorem dX5_forget_23 : decode cX5_forget 23 = .ok (.iconst 0, 1) := by decide +kernel
theorem dX5_forget_24 : decode cX5_forget 24 = .ok (.bastore, 1) := by decide +kernel
theorem dX5_forget_25 : decode cX5_forget 25 = .ok (.iinc 2 1, 3) := by decide +kernel
theorem dX5_forget_28 : decode cX5_forget 28 = .ok (.goto (-16), 3) := by decide +kernel
theorem dX5_forget_31 : decode cX5_forget 31 = .ok (.iload_n 1, 1) := by decide +kernel
theorem dX5_forget_32 : decode cX5_forget 32 = .ok (.ireturn, 1) := by decide +kernel
theorem dX5_opAt_0 : decode cX5_opAt 0 = .ok (.iload_n 1, 1) := by decide +kernel
theorem dX5_opAt_1 : decode cX5_opAt 1 = .ok (.ifCond .lt 20, 3) := by decide +kernel
theorem dX5_opAt_4 : decode cX5_opAt 4 = .ok (.iload_n 1, 1) := by decide +kernel
theorem dX5_opAt_5 : decode cX5_opAt 5 = .ok (.aload_n 0, 1) := by decide +kernel
theorem dX5_opAt_6 : decode cX5_opAt 6 = .ok (.getfield 34, 3) := by decide +kernel
theorem dX5_opAt_9 : decode cX5_opAt 9 = .ok (.if_icmp .ge 12, 3) := by decide +kernel
theorem dX5_opAt_12 : decode cX5_opAt 12 = .ok (.aload_n 0, 1) := by decide +kernel
theorem dX5_opAt_13 : decode cX5_opAt 13 = .ok (.getfield 9, 3) := by decide +kernel
theorem dX5_opAt_16 : decode cX5_opAt 16 = .ok (.iload_n 1, 1) := by decide +kernel
theorem dX5_opAt_17 : decode cX5_opAt 17 = .ok (.iaload, 1) := by decide +kernel
theorem dX5_opAt_18 : decode cX5_opAt 18 = .ok (.goto 4, 3) := by decide +kernel
theorem dX5_opAt_21 : decode cX5_opAt 21 = .ok (.iconst (-1), 1) := by decide +kernel
theorem dX5_opAt_22 : decode cX5_opAt 22 = .ok (.ireturn, 1) := by decide +kernel
theorem dX5_hasRoutine_0 : decode cX5_hasRoutine 0 = .ok (.iload_n 1, 1) := by decide +kernel
theorem dX5_hasRoutine_1 : decode cX5_hasRoutine 1 = .ok (.bipush 7, 2) := by decide +kernel
theorem dX5_hasRoutine_3 : decode cX5_hasRoutine 3 = .ok (.invokestatic 38, 3) := by decide +kernel
theorem dX5_hasRoutine_6 : decode cX5_hasRoutine 6 = .ok (.ifCond .eq 16, 3) := by decide +kernel
theorem dX5_hasRoutine_9 : decode cX5_hasRoutine 9 = .ok (.aload_n 0, 1) := by decide +kernel
theorem dX5_hasRoutine_10 : decode cX5_hasRoutine 10 = .ok (.getfield 21, 3) := by decide +kernel
theorem dX5_hasRoutine_13 : decode cX5_hasRoutine 13 = .ok (.iload_n 1, 1) := by decide +kernel
theorem dX5_hasRoutine_14 : decode cX5_hasRoutine 14 = .ok (.baload, 1) := by decide +kernel
theorem dX5_hasRoutine_15 : decode cX5_hasRoutine 15 = .ok (.ifCond .eq 7, 3) := by decide +kernel
theorem dX5_hasRoutine_18 : decode cX5_hasRoutine 18 = .ok (.iconst 1, 1) := by decide +kernel
theorem dX5_hasRoutine_19 : decode cX5_hasRoutine 19 = .ok (.goto 4, 3) := by decide +kernel
theorem dX5_hasRoutine_22 : decode cX5_hasRoutine 22 = .ok (.iconst 0, 1) := by decide +kernel
theorem dX5_hasRoutine_23 : decode cX5_hasRoutine 23 = .ok (.ireturn, 1) := by decide +kernel
theorem dX6_init_0 : decode cX6_init 0 = .ok (.aload_n 0, 1) := by decide +kernel
theorem dX6_init_1 : decode cX6_init 1 = .ok (.invokespecial 3, 3) := by decide +kernel
theorem dX6_init_4 : decode cX6_init 4 = .ok (.aload_n 0, 1) := by decide +kernel
theorem dX6_init_5 : decode cX6_init 5 = .ok (.new 9, 3) := by decide +kernel
theorem dX6_init_8 : decode cX6_init 8 = .ok (.dup, 1) := by decide +kernel
theorem dX6_init_9 : decode cX6_init 9 = .ok (.invokespecial 11, 3) := by decide +kernel
theorem dX6_init_12 : decode cX6_init 12 = .ok (.putfield 12, 3) := by decide +kernel
theorem dX6_init_15 : decode cX6_init 15 = .ok (.aload_n 0, 1) := by decide +kernel
theorem dX6_init_16 : decode cX6_init 16 = .ok (.new 18, 3) := by decide +kernel
theorem dX6_init_19 : decode cX6_init 19 = .ok (.dup, 1) := by decide +kernel
theorem dX6_init_20 : decode cX6_init 20 = .ok (.invokespecial 20, 3) := by decide +kernel
theorem dX6_init_23 : decode cX6_init 23 = .ok (.putfield 21, 3) := by decide +kernel
theorem dX6_init_26 : decode cX6_init 26 = .ok (.aload_n 0, 1) := by decide +kernel
theorem dX6_init_27 : decode cX6_init 27 = .ok (.bipush 8, 2) := by decide +kernel
theorem dX6_init_29 : decode cX6_init 29 = .ok (.newarray .int, 2) := by decide +kernel
theorem dX6_init_31 : decode cX6_init 31 = .ok (.putfield 25, 3) := by decide +kernel
theorem dX6_init_34 : decode cX6_init 34 = .ok (.aload_n 0, 1) := by decide +kernel
theorem dX6_init_35 : decode cX6_init 35 = .ok (.iconst 3, 1) := by decide +kernel
theorem dX6_init_36 : decode cX6_init 36 = .ok (.newarray .int, 2) := by decide +kernel
theorem dX6_init_38 : decode cX6_init 38 = .ok (.putfield 29, 3) := by decide +kernel
theorem dX6_init_41 : decode cX6_init 41 = .ok (.aload_n 0, 1) := by decide +kernel
theorem dX6_init_42 : decode cX6_init 42 = .ok (.sipush 130, 3) := by decide +kernel
theorem dX6_init_45 : decode cX6_init 45 = .ok (.putfield 32, 3) := by decide +kernel
theorem dX6_init_48 : decode cX6_init 48 = .ok (.aload_n 0, 1) := by decide +kernel
theorem dX6_init_49 : decode cX6_init 49 = .ok (.aload_n 1, 1) := by decide +kernel
theorem dX6_init_50 : decode cX6_init 50 = .ok (.putfield 36, 3) := by decide +kernel
theorem dX6_init_53 : decode cX6_init 53 = .ok (.aload_n 0, 1) := by decide +kernel
theorem dX6_init_54 : decode cX6_init 54 = .ok (.aload_n 2, 1) := by decide +kernel
theorem dX6_init_55 : decode cX6_init 55 = .ok (.putfield 40, 3) := by decide +kernel
theorem dX6_init_58 : decode cX6_init 58 = .ok (.aload_n 0, 1) := by decide +kernel
theorem dX6_init_59 : decode cX6_init 59 = .ok (.aload_n 3, 1) := by decide +kernel
theorem dX6_init_60 : decode cX6_init 60 = .ok (.putfield 44, 3) := by decide +kernel
theorem dX6_init_63 : decode cX6_init 63 = .ok (.return_, 1) := by decide +kernel
theorem dX6_begin_0 : decode cX6_begin 0 = .ok (.aload_n 0, 1) := by decide +kernel
theorem dX6_begin_1 : decode cX6_begin 1 = .ok (.getfield 12, 3) := by decide +kernel
theorem dX6_begin_4 : decode cX6_begin 4 = .ok (.invokevirtual 48, 3) := by decide +kernel
theorem dX6_begin_7 : decode cX6_begin 7 = .ok (.aload_n 0, 1) := by decide +kernel
theorem dX6_begin_8 : decode cX6_begin 8 = .ok (.getfield 21, 3) := by decide +kernel
theorem dX6_begin_11 : decode cX6_begin 11 = .ok (.iconst 0, 1) := by decide +kernel
theorem dX6_begin_12 : decode cX6_begin 12 = .ok (.putfield 51, 3) := by decide +kernel
theorem dX6_begin_15 : decode cX6_begin 15 = .ok (.aload_n 0, 1) := by decide +kernel
theorem dX6_begin_16 : decode cX6_begin 16 = .ok (.getfield 25, 3) := by decide +kernel
theorem dX6_begin_19 : decode cX6_begin 19 = .ok (.iconst 0, 1) := by decide +kernel
theorem dX6_begin_20 : decode cX6_begin 20 = .ok (.invokestatic 54, 3) := by decide +kernel
theorem dX6_begin_23 : decode cX6_begin 23 = .ok (.aload_n 0, 1) := by decide +kernel
theorem dX6_begin_24 : decode cX6_begin 24 = .ok (.iconst (-1), 1) := by decide +kernel
theorem dX6_begin_25 : decode cX6_begin 25 = .ok (.putfield 60, 3) := by decide +kernel
theorem dX6_begin_28 : decode cX6_begin 28 = .ok (.aload_n 0, 1) := by decide +kernel
theorem dX6_begin_29 : decode cX6_begin 29 = .ok (.iconst 0, 1) := by decide +kernel
theorem dX6_begin_30 : decode cX6_begin 30 = .ok (.putfield 63, 3) := by decide +kernel
theorem dX6_begin_33 : decode cX6_begin 33 = .ok (.aload_n 0, 1) := by decide +kernel
theorem dX6_begin_34 : decode cX6_begin 34 = .ok (.iconst 0, 1) := by decide +kernel
theorem dX6_begin_35 : decode cX6_begin 35 = .ok (.putfield 66, 3) := by decide +kernel
theorem dX6_begin_38 : decode cX6_begin 38 = .ok (.aload_n 0, 1) := by decide +kernel
theorem dX6_begin_39 : decode cX6_begin 39 = .ok (.iconst 0, 1) := by decide +kernel
theorem dX6_begin_40 : decode cX6_begin 40 = .ok (.putfield 69, 3) := by decide +kernel
theorem dX6_begin_43 : decode cX6_begin 43 = .ok (.aload_n 0, 1) := by decide +kernel
theorem dX6_begin_44 : decode cX6_begin 44 = .ok (.iconst 0, 1) := by decide +kernel
theorem dX6_begin_45 : decode cX6_begin 45 = .ok (.putfield 72, 3) := by decide +kernel
theorem dX6_begin_48 : decode cX6_begin 48 = .ok (.aload_n 0, 1) := by decide +kernel
theorem dX6_begin_49 : decode cX6_begin 49 = .ok (.iconst 0, 1) := by decide +kernel
theorem dX6_begin_50 : decode cX6_begin 50 = .ok (.putfield 75, 3) := by decide +kernel
theorem dX6_begin_53 : decode cX6_begin 53 = .ok (.aload_n 0, 1) := by decide +kernel
theorem dX6_begin_54 : decode cX6_begin 54 = .ok (.iconst 0, 1) := by decide +kernel
theorem dX6_begin_55 : decode cX6_begin 55 = .ok (.putfield 78, 3) := by decide +kernel
theorem dX6_begin_58 : decode cX6_begin 58 = .ok (.aload_n 0, 1) := by decide +kernel
theorem dX6_begin_59 : decode cX6_begin 59 = .ok (.iload_n 1, 1) := by decide +kernel
theorem dX6_begin_60 : decode cX6_begin 60 = .ok (.iload_n 2, 1) := by decide +kernel
theorem dX6_begin_61 : decode cX6_begin 61 = .ok (.iload_n 3, 1) := by decide +kernel
theorem dX6_begin_62 : decode cX6_begin 62 = .ok (.iconst (-1), 1) := by decide +kernel
theorem dX6_begin_63 : decode cX6_begin 63 = .ok (.invokevirtual 81, 3) := by decide +kernel
theorem dX6_begin_66 : decode cX6_begin 66 = .ok (.pop, 1) := by decide +kernel
theorem dX6_begin_67 : decode cX6_begin 67 = .ok (.return_, 1) := by decide +kernel
theorem dX6_isGoing_0 : decode cX6_isGoing 0 = .ok (.aload_n 0, 1) := by decide +kernel
theorem dX6_isGoing_1 : decode cX6_isGoing 1 = .ok (.getfield 60, 3) := by decide +kernel
theorem dX6_isGoing_4 : decode cX6_isGoing 4 = .ok (.iconst (-1), 1) := by decide +kernel
theorem dX6_isGoing_5 : decode cX6_isGoing 5 = .ok (.if_icmp .ne 7, 3) := by decide +kernel
theorem dX6_isGoing_8 : decode cX6_isGoing 8 = .ok (.iconst 1, 1) := by decide +kernel
theorem dX6_isGoing_9 : decode cX6_isGoing 9 = .ok (.goto 4, 3) := by decide +kernel
theorem dX6_isGoing_12 : decode cX6_isGoing 12 = .ok (.iconst 0, 1) := by decide +kernel
theorem dX6_isGoing_13 : decode cX6_isGoing 13 = .ok (.ireturn, 1) := by decide +kernel
theorem dX6_finish_0 : decode cX6_finish 0 = .ok (.aload_n 0, 1) := by decide +kernel
theorem dX6_finish_1 : decode cX6_finish 1 = .ok (.getfield 60, 3) := by decide +kernel
theorem dX6_finish_4 : decode cX6_finish 4 = .ok (.iconst (-1), 1) := by decide +kernel
theorem dX6_finish_5 : decode cX6_finish 5 = .ok (.if_icmp .ne 8, 3) := by decide +kernel
theorem dX6_finish_8 : decode cX6_finish 8 = .ok (.aload_n 0, 1) := by decide +kernel
theorem dX6_finish_9 : decode cX6_finish 9 = .ok (.iconst 3, 1) := by decide +kernel
theorem dX6_finish_10 : decode cX6_finish 10 = .ok (.putfield 60, 3) := by decide +kernel
theorem dX6_finish_13 : decode cX6_finish 13 = .ok (.aload_n 0, 1) := by decide +kernel
theorem dX6_finish_14 : decode cX6_finish 14 = .ok (.iconst 0, 1) := by decide +kernel
theorem dX6_finish_15 : decode cX6_finish 15 = .ok (.invokevirtual 85, 3) := by decide +kernel
theorem dX6_finish_18 : decode cX6_finish 18 = .ok (.aload_n 0, 1) := by decide +kernel
theorem dX6_finish_19 : decode cX6_finish 19 = .ok (.getfield 60, 3) := by decide +kernel
theorem dX6_finish_22 : decode cX6_finish 22 = .ok (.ireturn, 1) := by decide +kernel
theorem dX6_step_0 : decode cX6_step 0 = .ok (.aload_n 0, 1) := by decide +kernel
theorem dX6_step_1 : decode cX6_step 1 = .ok (.dup, 1) := by decide +kernel
theorem dX6_step_2 : decode cX6_step 2 = .ok (.getfield 63, 3) := by decide +kernel
theorem dX6_step_5 : decode cX6_step 5 = .ok (.iconst 1, 1) := by decide +kernel
theorem dX6_step_6 : decode cX6_step 6 = .ok (.iadd, 1) := by decide +kernel
theorem dX6_step_7 : decode cX6_step 7 = .ok (.putfield 63, 3) := by decide +kernel
theorem dX6_step_10 : decode cX6_step 10 = .ok (.aload_n 0, 1) := by decide +kernel
theorem dX6_step_11 : decode cX6_step 11 = .ok (.iconst (-1), 1) := by decide +kernel
theorem dX6_step_12 : decode cX6_step 12 = .ok (.putfield 89, 3) := by decide +kernel
theorem dX6_step_15 : decode cX6_step 15 = .ok (.aload_n 0, 1) := by decide +kernel
theorem dX6_step_16 : decode cX6_step 16 = .ok (.getfield 12, 3) := by decide +kernel
theorem dX6_step_19 : decode cX6_step 19 = .ok (.invokevirtual 92, 3) := by decide +kernel
theorem dX6_step_22 : decode cX6_step 22 = .ok (.getfield 96, 3) := by decide +kernel
theorem dX6_step_25 : decode cX6_step 25 = .ok (.istore_n 1, 1) := by decide +kernel
theorem dX6_step_26 : decode cX6_step 26 = .ok (.aload_n 0, 1) := by decide +kernel
theorem dX6_step_27 : decode cX6_step 27 = .ok (.getfield 44, 3) := by decide +kernel
theorem dX6_step_30 : decode cX6_step 30 = .ok (.iload_n 1, 1) := by decide +kernel
theorem dX6_step_31 : decode cX6_step 31 = .ok (.invokevirtual 101, 3) := by decide +kernel
theorem dX6_step_34 : decode cX6_step 34 = .ok (.istore_n 2, 1) := by decide +kernel
theorem dX6_step_35 : decode cX6_step 35 = .ok (.iload_n 2, 1) := by decide +kernel
theorem dX6_step_36 : decode cX6_step 36 = .ok (.ifCond .lt 11, 3) := by decide +kernel
theorem dX6_step_39 : decode cX6_step 39 = .ok (.iload_n 2, 1) := by decide +kernel
theorem dX6_step_40 : decode cX6_step 40 = .ok (.getstatic 107, 3) := by decide +kernel
theorem dX6_step_43 : decode cX6_step 43 = .ok (.arraylength, 1) := by decide +kernel
theorem dX6_step_44 : decode cX6_step 44 = .ok (.if_icmp .lt 6, 3) := by decide +kernel
theorem dX6_step_47 : decode cX6_step 47 = .ok (.bipush (-20), 2) := by decide +kernel
theorem dX6_step_49 : decode cX6_step 49 = .ok (.ireturn, 1) := by decide +kernel
theorem dX6_step_50 : decode cX6_step 50 = .ok (.iconst 0, 1) := by decide +kernel
theorem dX6_step_51 : decode cX6_step 51 = .ok (.istore_n 3, 1) := by decide +kernel
theorem dX6_step_52 : decode cX6_step 52 = .ok (.iload_n 3, 1) := by decide +kernel
theorem dX6_step_53 : decode cX6_step 53 = .ok (.getstatic 107, 3) := by decide +kernel
theorem dX6_step_56 : decode cX6_step 56 = .ok (.iload_n 2, 1) := by decide +kernel
theorem dX6_step_57 : decode cX6_step 57 = .ok (.iaload, 1) := by decide +kernel
theorem dX6_step_58 : decode cX6_step 58 = .ok (.if_icmp .ge 60, 3) := by decide +kernel
theorem dX6_step_61 : decode cX6_step 61 = .ok (.aload_n 0, 1) := by decide +kernel
theorem dX6_step_62 : decode cX6_step 62 = .ok (.getfield 44, 3) := by decide +kernel
theorem dX6_step_65 : decode cX6_step 65 = .ok (.getfield 110, 3) := by decide +kernel
theorem dX6_step_68 : decode cX6_step 68 = .ok (.iconst 3, 1) := by decide +kernel
theorem dX6_step_69 : decode cX6_step 69 = .ok (.iload_n 1, 1) := by decide +kernel
theorem dX6_step_70 : decode cX6_step 70 = .ok (.imul, 1) := by decide +kernel
theorem dX6_step_71 : decode cX6_step 71 = .ok (.iload_n 3, 1) := by decide +kernel
theorem dX6_step_72 : decode cX6_step 72 = .ok (.iadd, 1) := by decide +kernel
theorem dX6_step_73 : decode cX6_step 73 = .ok (.iaload, 1) := by decide +kernel
theorem dX6_step_74 : decode cX6_step 74 = .ok (.istore 4, 2) := by decide +kernel
theorem dX6_step_76 : decode cX6_step 76 = .ok (.iload 4, 2) := by decide +kernel
theorem dX6_step_78 : decode cX6_step 78 = .ok (.ifCond .ge 14, 3) := by decide +kernel
theorem dX6_step_81 : decode cX6_step 81 = .ok (.aload_n 0, 1) := by decide +kernel
theorem dX6_step_82 : decode cX6_step 82 = .ok (.iconst (-1), 1) := by decide +kernel
theorem dX6_step_83 : decode cX6_step 83 = .ok (.iload 4, 2) := by decide +kernel
theorem dX6_step_85 : decode cX6_step 85 = .ok (.isub, 1) := by decide +kernel
theorem dX6_step_86 : decode cX6_step 86 = .ok (.invokevirtual 113, 3) := by decide +kernel
theorem dX6_step_89 : decode cX6_step 89 = .ok (.goto 5, 3) := by decide +kernel
theorem dX6_step_92 : decode cX6_step 92 = .ok (.iload 4, 2) := by decide +kernel
theorem dX6_step_94 : decode cX6_step 94 = .ok (.istore 5, 2) := by decide +kernel
theorem dX6_step_96 : decode cX6_step 96 = .ok (.iload 5, 2) := by decide +kernel
theorem dX6_step_98 : decode cX6_step 98 = .ok (.ifCond .ge 6, 3) := by decide +kernel
theorem dX6_step_101 : decode cX6_step 101 = .ok (.iload 5, 2) := by decide +kernel
theorem dX6_step_103 : decode cX6_step 103 = .ok (.ireturn, 1) := by decide +kernel
theorem dX6_step_104 : decode cX6_step 104 = .ok (.aload_n 0, 1) := by decide +kernel
theorem dX6_step_105 : decode cX6_step 105 = .ok (.getfield 29, 3) := by decide +kernel
theorem dX6_step_108 : decode cX6_step 108 = .ok (.iload_n 3, 1) := by decide +kernel
theorem dX6_step_109 : decode cX6_step 109 = .ok (.iload 5, 2) := by decide +kernel
theorem dX6_step_111 : decode cX6_step 111 = .ok (.iastore, 1) := by decide +kernel
theorem dX6_step_112 : decode cX6_step 112 = .ok (.iinc 3 1, 3) := by decide +kernel
theorem dX6_step_115 : decode cX6_step 115 = .ok (.goto (-63), 3) := by decide +kernel
theorem dX6_step_118 : decode cX6_step 118 = .ok (.aload_n 0, 1) := by decide +kernel
theorem dX6_step_119 : decode cX6_step 119 = .ok (.getfield 12, 3) := by decide +kernel
theorem dX6_step_122 : decode cX6_step 122 = .ok (.invokevirtual 92, 3) := by decide +kernel
theorem dX6_step_125 : decode cX6_step 125 = .ok (.iload_n 1, 1) := by decide +kernel
theorem dX6_step_126 : decode cX6_step 126 = .ok (.iconst 1, 1) := by decide +kernel
theorem dX6_step_127 : decode cX6_step 127 = .ok (.iadd, 1) := by decide +kernel
theorem dX6_step_128 : decode cX6_step 128 = .ok (.putfield 96, 3) := by decide +kernel
theorem dX6_step_131 : decode cX6_step 131 = .ok (.aload_n 0, 1) := by decide +kernel
theorem dX6_step_132 : decode cX6_step 132 = .ok (.iload_n 2, 1) := by decide +kernel
theorem dX6_step_133 : decode cX6_step 133 = .ok (.aload_n 0, 1) := by decide +kernel
theorem dX6_step_134 : decode cX6_step 134 = .ok (.getfield 44, 3) := by decide +kernel
theorem dX6_step_137 : decode cX6_step 137 = .ok (.getfield 116, 3) := by decide +kernel
theorem dX6_step_140 : decode cX6_step 140 = .ok (.iload_n 1, 1) := by decide +kernel
theorem dX6_step_141 : decode cX6_step 141 = .ok (.iaload, 1) := by decide +kernel
theorem dX6_step_142 : decode cX6_step 142 = .ok (.aload_n 0, 1) := by decide +kernel
theorem dX6_step_143 : decode cX6_step 143 = .ok (.getfield 29, 3) := by decide +kernel
theorem dX6_step_146 : decode cX6_step 146 = .ok (.iconst 0, 1) := by decide +kernel
theorem dX6_step_147 : decode cX6_step 147 = .ok (.iaload, 1) := by decide +kernel
theorem dX6_step_148 : decode cX6_step 148 = .ok (.aload_n 0, 1) := by decide +kernel
theorem dX6_step_149 : decode cX6_step 149 = .ok (.getfield 29, 3) := by decide +kernel
theorem dX6_step_152 : decode cX6_step 152 = .ok (.iconst 1, 1) := by decide +kernel
theorem dX6_step_153 : decode cX6_step 153 = .ok (.iaload, 1) := by decide +kernel
theorem dX6_step_154 : decode cX6_step 154 = .ok (.aload_n 0, 1) := by decide +kernel
theorem dX6_step_155 : decode cX6_step 155 = .ok (.getfield 29, 3) := by decide +kernel
theorem dX6_step_158 : decode cX6_step 158 = .ok (.iconst 2, 1) := by decide +kernel
theorem dX6_step_159 : decode cX6_step 159 = .ok (.iaload, 1) := by decide +kernel
theorem dX6_step_160 : decode cX6_step 160 = .ok (.invokevirtual 119, 3) := by decide +kernel
theorem dX6_step_163 : decode cX6_step 163 = .ok (.ireturn, 1) := by decide +kernel
theorem dX6_settle_0 : decode cX6_settle 0 = .ok (.aload_n 0, 1) := by decide +kernel
theorem dX6_settle_1 : decode cX6_settle 1 = .ok (.iload_n 1, 1) := by decide +kernel
theorem dX6_settle_2 : decode cX6_settle 2 = .ok (.invokevirtual 123, 3) := by decide +kernel
theorem dX6_settle_5 : decode cX6_settle 5 = .ok (.istore_n 2, 1) := by decide +kernel
theorem dX6_settle_6 : decode cX6_settle 6 = .ok (.iconst 0, 1) := by decide +kernel
theorem dX6_settle_7 : decode cX6_settle 7 = .ok (.istore_n 3, 1) := by decide +kernel
theorem dX6_settle_8 : decode cX6_settle 8 = .ok (.iload_n 3, 1) := by decide +kernel
theorem dX6_settle_9 : decode cX6_settle 9 = .ok (.bipush 12, 2) := by decide +kernel
theorem dX6_settle_11 : decode cX6_settle 11 = .ok (.if_icmp .ge 23, 3) := by decide +kernel
theorem dX6_settle_14 : decode cX6_settle 14 = .ok (.iload_n 2, 1) := by decide +kernel
theorem dX6_settle_15 : decode cX6_settle 15 = .ok (.ifCond .ge 19, 3) := by decide +kernel
theorem dX6_settle_18 : decode cX6_settle 18 = .ok (.aload_n 0, 1) := by decide +kernel
theorem dX6_settle_19 : decode cX6_settle 19 = .ok (.aload_n 0, 1) := by decide +kernel
theorem dX6_settle_20 : decode cX6_settle 20 = .ok (.iload_n 2, 1) := by decide +kernel
theorem dX6_settle_21 : decode cX6_settle 21 = .ok (.invokevirtual 126, 3) := by decide +kernel
theorem dX6_settle_24 : decode cX6_settle 24 = .ok (.invokevirtual 123, 3) := by decide +kernel
theorem dX6_settle_27 : decode cX6_settle 27 = .ok (.istore_n 2, 1) := by decide +kernel
theorem dX6_settle_28 : decode cX6_settle 28 = .ok (.iinc 3 1, 3) := by decide +kernel
theorem dX6_settle_31 : decode cX6_settle 31 = .ok (.goto (-23), 3) := by decide +kernel
theorem dX6_settle_34 : decode cX6_settle 34 = .ok (.return_, 1) := by decide +kernel
theorem dX6_keep_0 : decode cX6_keep 0 = .ok (.iload_n 1, 1) := by decide +kernel
theorem dX6_keep_1 : decode cX6_keep 1 = .ok (.ifCond .lt 11, 3) := by decide +kernel
theorem dX6_keep_4 : decode cX6_keep 4 = .ok (.aload_n 0, 1) := by decide +kernel
theorem dX6_keep_5 : decode cX6_keep 5 = .ok (.getfield 89, 3) := by decide +kernel
theorem dX6_keep_8 : decode cX6_keep 8 = .ok (.iconst (-1), 1) := by decide +kernel
theorem dX6_keep_9 : decode cX6_keep 9 = .ok (.if_icmp .ne 7, 3) := by decide +kernel
theorem dX6_keep_12 : decode cX6_keep 12 = .ok (.iload_n 1, 1) := by decide +kernel
theorem dX6_keep_13 : decode cX6_keep 13 = .ok (.goto 12, 3) := by decide +kernel
theorem dX6_keep_16 : decode cX6_keep 16 = .ok (.aload_n 0, 1) := by decide +kernel
theorem dX6_keep_17 : decode cX6_keep 17 = .ok (.aload_n 0, 1) := by decide +kernel
theorem dX6_keep_18 : decode cX6_keep 18 = .ok (.getfield 89, 3) := by decide +kernel
theorem dX6_keep_21 : decode cX6_keep 21 = .ok (.iload_n 1, 1) := by decide +kernel
theorem dX6_keep_22 : decode cX6_keep 22 = .ok (.invokevirtual 129, 3) := by decide +kernel
theorem dX6_keep_25 : decode cX6_keep 25 = .ok (.ireturn, 1) := by decide +kernel
theorem dX6_carryOut_0 : decode cX6_carryOut 0 = .ok (.iload_n 1, 1) := by decide +kernel
theorem dX6_carryOut_1 : decode cX6_carryOut 1 = .ok (.bipush 9, 2) := by decide +kernel
theorem dX6_carryOut_3 : decode cX6_carryOut 3 = .ok (.if_icmp .gt 22, 3) := by decide +kernel
theorem dX6_carryOut_6 : decode cX6_carryOut 6 = .ok (.aload_n 0, 1) := by decide +kernel
theorem dX6_carryOut_7 : decode cX6_carryOut 7 = .ok (.iload_n 2, 1) := by decide +kernel
theorem dX6_carryOut_8 : decode cX6_carryOut 8 = .ok (.iload_n 1, 1) := by decide +kernel
theorem dX6_carryOut_9 : decode cX6_carryOut 9 = .ok (.iload_n 3, 1) := by decide +kernel
theorem dX6_carryOut_10 : decode cX6_carryOut 10 = .ok (.invokestatic 133, 3) := by decide +kernel
theorem dX6_carryOut_13 : decode cX6_carryOut 13 = .ok (.iload 4, 2) := by decide +kernel
theorem dX6_carryOut_15 : decode cX6_carryOut 15 = .ok (.invokestatic 133, 3) := by decide +kernel
theorem dX6_carryOut_18 : decode cX6_carryOut 18 = .ok (.invokestatic 136, 3) := by decide +kernel
theorem dX6_carryOut_21 : decode cX6_carryOut 21 = .ok (.invokevirtual 140, 3) := by decide +kernel
theorem dX6_carryOut_24 : decode cX6_carryOut 24 = .ok (.ireturn, 1) := by decide +kernel
theorem dX6_carryOut_25 : decode cX6_carryOut 25 = .ok (.iload_n 1, 1) := by decide +kernel
theorem dX6_carryOut_26 : decode cX6_carryOut 26 = .ok (.tableswitch 445 10 32 #[106, 124, 148, 172, 179, 190, 201, 223, 243, 263, 281, 292, 298, 307, 324, 339, 347, 363, 385, 402, 414, 423, 439], 106) := by decide +kernel
theorem dX6_carryOut_132 : decode cX6_carryOut 132 = .ok (.aload_n 0, 1) := by decide +kernel
theorem dX6_carryOut_133 : decode cX6_carryOut 133 = .ok (.iload_n 3, 1) := by decide +kernel
theorem dX6_carryOut_134 : decode cX6_carryOut 134 = .ok (.iload 4, 2) := by decide +kernel
theorem dX6_carryOut_136 : decode cX6_carryOut 136 = .ok (.if_icmp .ne 7, 3) := by decide +kernel
theorem dX6_carryOut_139 : decode cX6_carryOut 139 = .ok (.iconst 1, 1) := by decide +kernel
theorem dX6_carryOut_140 : decode cX6_carryOut 140 = .ok (.goto 4, 3) := by decide +kernel
theorem dX6_carryOut_143 : decode cX6_carryOut 143 = .ok (.iconst 0, 1) := by decide +kernel
theorem dX6_carryOut_144 : decode cX6_carryOut 144 = .ok (.iload 5, 2) := by decide +kernel
theorem dX6_carryOut_146 : decode cX6_carryOut 146 = .ok (.invokevirtual 143, 3) := by decide +kernel
theorem dX6_carryOut_149 : decode cX6_carryOut 149 = .ok (.ireturn, 1) := by decide +kernel
theorem dX6_carryOut_150 : decode cX6_carryOut 150 = .ok (.aload_n 0, 1) := by decide +kernel
theorem dX6_carryOut_151 : decode cX6_carryOut 151 = .ok (.iload_n 3, 1) := by decide +kernel
theorem dX6_carryOut_152 : decode cX6_carryOut 152 = .ok (.invokestatic 133, 3) := by decide +kernel
theorem dX6_carryOut_155 : decode cX6_carryOut 155 = .ok (.iload 4, 2) := by decide +kernel
theorem dX6_carryOut_157 : decode cX6_carryOut 157 = .ok (.invokestatic 133, 3) := by decide +kernel
theorem dX6_carryOut_160 : decode cX6_carryOut 160 = .ok (.if_icmp .ge 7, 3) := by decide +kernel
theorem dX6_carryOut_163 : decode cX6_carryOut 163 = .ok (.iconst 1, 1) := by decide +kernel
theorem dX6_carryOut_164 : decode cX6_carryOut 164 = .ok (.goto 4, 3) := by decide +kernel
theorem dX6_carryOut_167 : decode cX6_carryOut 167 = .ok (.iconst 0, 1) := by decide +kernel
theorem dX6_carryOut_168 : decode cX6_carryOut 168 = .ok (.iload 5, 2) := by decide +kernel
theorem dX6_carryOut_170 : decode cX6_carryOut 170 = .ok (.invokevirtual 143, 3) := by decide +kernel
theorem dX6_carryOut_173 : decode cX6_carryOut 173 = .ok (.ireturn, 1) := by decide +kernel
theorem dX6_carryOut_174 : decode cX6_carryOut 174 = .ok (.aload_n 0, 1) := by decide +kernel
theorem dX6_carryOut_175 : decode cX6_carryOut 175 = .ok (.iload_n 3, 1) := by decide +kernel
theorem dX6_carryOut_176 : decode cX6_carryOut 176 = .ok (.invokestatic 133, 3) := by decide +kernel
theorem dX6_carryOut_179 : decode cX6_carryOut 179 = .ok (.iload 4, 2) := by decide +kernel
theorem dX6_carryOut_181 : decode cX6_carryOut 181 = .ok (.invokestatic 133, 3) := by decide +kernel
theorem dX6_carryOut_184 : decode cX6_carryOut 184 = .ok (.if_icmp .le 7, 3) := by decide +kernel
theorem dX6_carryOut_187 : decode cX6_carryOut 187 = .ok (.iconst 1, 1) := by decide +kernel
theorem dX6_carryOut_188 : decode cX6_carryOut 188 = .ok (.goto 4, 3) := by decide +kernel
theorem dX6_carryOut_191 : decode cX6_carryOut 191 = .ok (.iconst 0, 1) := by decide +kernel
theorem dX6_carryOut_192 : decode cX6_carryOut 192 = .ok (.iload 5, 2) := by decide +kernel
theorem dX6_carryOut_194 : decode cX6_carryOut 194 = .ok (.invokevirtual 143, 3) := by decide +kernel
theorem dX6_carryOut_197 : decode cX6_carryOut 197 = .ok (.ireturn, 1) := by decide +kernel
theorem dX6_carryOut_198 : decode cX6_carryOut 198 = .ok (.aload_n 0, 1) := by decide +kernel
theorem dX6_carryOut_199 : decode cX6_carryOut 199 = .ok (.iconst 1, 1) := by decide +kernel
theorem dX6_carryOut_200 : decode cX6_carryOut 200 = .ok (.iload_n 3, 1) := by decide +kernel
theorem dX6_carryOut_201 : decode cX6_carryOut 201 = .ok (.invokevirtual 143, 3) := by decide +kernel
theorem dX6_carryOut_204 : decode cX6_carryOut 204 = .ok (.ireturn, 1) := by decide +kernel
theorem dX6_carryOut_205 : decode cX6_carryOut 205 = .ok (.aload_n 0, 1) := by decide +kernel
theorem dX6_carryOut_206 : decode cX6_carryOut 206 = .ok (.iload_n 3, 1) := by decide +kernel
theorem dX6_carryOut_207 : decode cX6_carryOut 207 = .ok (.sipush 255, 3) := by decide +kernel
theorem dX6_carryOut_210 : decode cX6_carryOut 210 = .ok (.iand, 1) := by decide +kernel
theorem dX6_carryOut_211 : decode cX6_carryOut 211 = .ok (.iconst 1, 1) := by decide +kernel
theorem dX6_carryOut_212 : decode cX6_carryOut 212 = .ok (.invokevirtual 147, 3) := by decide +kernel
theorem dX6_carryOut_215 : decode cX6_carryOut 215 = .ok (.ireturn, 1) := by decide +kernel
theorem dX6_carryOut_216 : decode cX6_carryOut 216 = .ok (.aload_n 0, 1) := by decide +kernel
theorem dX6_carryOut_217 : decode cX6_carryOut 217 = .ok (.iload_n 3, 1) := by decide +kernel
theorem dX6_carryOut_218 : decode cX6_carryOut 218 = .ok (.sipush 255, 3) := by decide +kernel
theorem dX6_carryOut_221 : decode cX6_carryOut 221 = .ok (.iand, 1) := by decide +kernel
theorem dX6_carryOut_222 : decode cX6_carryOut 222 = .ok (.iconst (-1), 1) := by decide +kernel
theorem dX6_carryOut_223 : decode cX6_carryOut 223 = .ok (.invokevirtual 147, 3) := by decide +kernel
theorem dX6_carryOut_226 : decode cX6_carryOut 226 = .ok (.ireturn, 1) := by decide +kernel
theorem dX6_carryOut_227 : decode cX6_carryOut 227 = .ok (.aload_n 0, 1) := by decide +kernel
theorem dX6_carryOut_228 : decode cX6_carryOut 228 = .ok (.iload_n 2, 1) := by decide +kernel
theorem dX6_carryOut_229 : decode cX6_carryOut 229 = .ok (.aload_n 0, 1) := by decide +kernel
theorem dX6_carryOut_230 : decode cX6_carryOut 230 = .ok (.getfield 36, 3) := by decide +kernel
theorem dX6_carryOut_233 : decode cX6_carryOut 233 = .ok (.iload_n 3, 1) := by decide +kernel
theorem dX6_carryOut_234 : decode cX6_carryOut 234 = .ok (.iconst 2, 1) := by decide +kernel
theorem dX6_carryOut_235 : decode cX6_carryOut 235 = .ok (.iload 4, 2) := by decide +kernel
theorem dX6_carryOut_237 : decode cX6_carryOut 237 = .ok (.invokestatic 133, 3) := by decide +kernel
theorem dX6_carryOut_240 : decode cX6_carryOut 240 = .ok (.imul, 1) := by decide +kernel
theorem dX6_carryOut_241 : decode cX6_carryOut 241 = .ok (.iadd, 1) := by decide +kernel
theorem dX6_carryOut_242 : decode cX6_carryOut 242 = .ok (.invokevirtual 150, 3) := by decide +kernel
theorem dX6_carryOut_245 : decode cX6_carryOut 245 = .ok (.invokevirtual 140, 3) := by decide +kernel
theorem dX6_carryOut_248 : decode cX6_carryOut 248 = .ok (.ireturn, 1) := by decide +kernel
theorem dX6_carryOut_249 : decode cX6_carryOut 249 = .ok (.aload_n 0, 1) := by decide +kernel
theorem dX6_carryOut_250 : decode cX6_carryOut 250 = .ok (.iload_n 2, 1) := by decide +kernel
theorem dX6_carryOut_251 : decode cX6_carryOut 251 = .ok (.aload_n 0, 1) := by decide +kernel
theorem dX6_carryOut_252 : decode cX6_carryOut 252 = .ok (.getfield 36, 3) := by decide +kernel
theorem dX6_carryOut_255 : decode cX6_carryOut 255 = .ok (.iload_n 3, 1) := by decide +kernel
theorem dX6_carryOut_256 : decode cX6_carryOut 256 = .ok (.iload 4, 2) := by decide +kernel
theorem dX6_carryOut_258 : decode cX6_carryOut 258 = .ok (.invokestatic 133, 3) := by decide +kernel
theorem dX6_carryOut_261 : decode cX6_carryOut 261 = .ok (.iadd, 1) := by decide +kernel
theorem dX6_carryOut_262 : decode cX6_carryOut 262 = .ok (.invokevirtual 155, 3) := by decide +kernel
theorem dX6_carryOut_265 : decode cX6_carryOut 265 = .ok (.invokevirtual 140, 3) := by decide +kernel
theorem dX6_carryOut_268 : decode cX6_carryOut 268 = .ok (.ireturn, 1) := by decide +kernel
theorem dX6_carryOut_269 : decode cX6_carryOut 269 = .ok (.aload_n 0, 1) := by decide +kernel
theorem dX6_carryOut_270 : decode cX6_carryOut 270 = .ok (.getfield 36, 3) := by decide +kernel
theorem dX6_carryOut_273 : decode cX6_carryOut 273 = .ok (.iload_n 3, 1) := by decide +kernel
theorem dX6_carryOut_274 : decode cX6_carryOut 274 = .ok (.iconst 2, 1) := by decide +kernel
theorem dX6_carryOut_275 : decode cX6_carryOut 275 = .ok (.iload 4, 2) := by decide +kernel
theorem dX6_carryOut_277 : decode cX6_carryOut 277 = .ok (.invokestatic 133, 3) := by decide +kernel
theorem dX6_carryOut_280 : decode cX6_carryOut 280 = .ok (.imul, 1) := by decide +kernel
theorem dX6_carryOut_281 : decode cX6_carryOut 281 = .ok (.iadd, 1) := by decide +kernel
theorem dX6_carryOut_282 : decode cX6_carryOut 282 = .ok (.iload 5, 2) := by decide +kernel
theorem dX6_carryOut_284 : decode cX6_carryOut 284 = .ok (.iconst 0, 1) := by decide +kernel
theorem dX6_carryOut_285 : decode cX6_carryOut 285 = .ok (.invokevirtual 158, 3) := by decide +kernel
theorem dX6_carryOut_288 : decode cX6_carryOut 288 = .ok (.ireturn, 1) := by decide +kernel
theorem dX6_carryOut_289 : decode cX6_carryOut 289 = .ok (.aload_n 0, 1) := by decide +kernel
theorem dX6_carryOut_290 : decode cX6_carryOut 290 = .ok (.getfield 36, 3) := by decide +kernel
theorem dX6_carryOut_293 : decode cX6_carryOut 293 = .ok (.iload_n 3, 1) := by decide +kernel
theorem dX6_carryOut_294 : decode cX6_carryOut 294 = .ok (.iload 4, 2) := by decide +kernel
theorem dX6_carryOut_296 : decode cX6_carryOut 296 = .ok (.invokestatic 133, 3) := by decide +kernel
theorem dX6_carryOut_299 : decode cX6_carryOut 299 = .ok (.iadd, 1) := by decide +kernel
theorem dX6_carryOut_300 : decode cX6_carryOut 300 = .ok (.iload 5, 2) := by decide +kernel
theorem dX6_carryOut_302 : decode cX6_carryOut 302 = .ok (.iconst 0, 1) := by decide +kernel
theorem dX6_carryOut_303 : decode cX6_carryOut 303 = .ok (.invokevirtual 162, 3) := by decide +kernel
theorem dX6_carryOut_306 : decode cX6_carryOut 306 = .ok (.ireturn, 1) := by decide +kernel
theorem dX6_carryOut_307 : decode cX6_carryOut 307 = .ok (.aload_n 0, 1) := by decide +kernel
theorem dX6_carryOut_308 : decode cX6_carryOut 308 = .ok (.iload_n 3, 1) := by decide +kernel
theorem dX6_carryOut_309 : decode cX6_carryOut 309 = .ok (.iload 4, 2) := by decide +kernel
theorem dX6_carryOut_311 : decode cX6_carryOut 311 = .ok (.iload 5, 2) := by decide +kernel
theorem dX6_carryOut_313 : decode cX6_carryOut 313 = .ok (.iload_n 2, 1) := by decide +kernel
theorem dX6_carryOut_314 : decode cX6_carryOut 314 = .ok (.invokevirtual 81, 3) := by decide +kernel
theorem dX6_carryOut_317 : decode cX6_carryOut 317 = .ok (.ireturn, 1) := by decide +kernel
theorem dX6_carryOut_318 : decode cX6_carryOut 318 = .ok (.aload_n 0, 1) := by decide +kernel
theorem dX6_carryOut_319 : decode cX6_carryOut 319 = .ok (.iload_n 3, 1) := by decide +kernel
theorem dX6_carryOut_320 : decode cX6_carryOut 320 = .ok (.invokevirtual 165, 3) := by decide +kernel
theorem dX6_carryOut_323 : decode cX6_carryOut 323 = .ok (.ireturn, 1) := by decide +kernel
theorem dX6_carryOut_324 : decode cX6_carryOut 324 = .ok (.aload_n 0, 1) := by decide +kernel
theorem dX6_carryOut_325 : decode cX6_carryOut 325 = .ok (.getfield 12, 3) := by decide +kernel
theorem dX6_carryOut_328 : decode cX6_carryOut 328 = .ok (.iload_n 3, 1) := by decide +kernel
theorem dX6_carryOut_329 : decode cX6_carryOut 329 = .ok (.invokevirtual 168, 3) := by decide +kernel
theorem dX6_carryOut_332 : decode cX6_carryOut 332 = .ok (.ireturn, 1) := by decide +kernel
theorem dX6_carryOut_333 : decode cX6_carryOut 333 = .ok (.aload_n 0, 1) := by decide +kernel
theorem dX6_carryOut_334 : decode cX6_carryOut 334 = .ok (.iload_n 3, 1) := by decide +kernel
theorem dX6_carryOut_335 : decode cX6_carryOut 335 = .ok (.sipush 255, 3) := by decide +kernel
theorem dX6_carryOut_338 : decode cX6_carryOut 338 = .ok (.iand, 1) := by decide +kernel
theorem dX6_carryOut_339 : decode cX6_carryOut 339 = .ok (.aload_n 0, 1) := by decide +kernel
theorem dX6_carryOut_340 : decode cX6_carryOut 340 = .ok (.getfield 12, 3) := by decide +kernel
theorem dX6_carryOut_343 : decode cX6_carryOut 343 = .ok (.invokevirtual 171, 3) := by decide +kernel
theorem dX6_carryOut_346 : decode cX6_carryOut 346 = .ok (.invokevirtual 140, 3) := by decide +kernel
theorem dX6_carryOut_349 : decode cX6_carryOut 349 = .ok (.ireturn, 1) := by decide +kernel
theorem dX6_carryOut_350 : decode cX6_carryOut 350 = .ok (.aload_n 0, 1) := by decide +kernel
theorem dX6_carryOut_351 : decode cX6_carryOut 351 = .ok (.iload_n 2, 1) := by decide +kernel
theorem dX6_carryOut_352 : decode cX6_carryOut 352 = .ok (.aload_n 0, 1) := by decide +kernel
theorem dX6_carryOut_353 : decode cX6_carryOut 353 = .ok (.getfield 12, 3) := by decide +kernel
theorem dX6_carryOut_356 : decode cX6_carryOut 356 = .ok (.getfield 175, 3) := by decide +kernel
theorem dX6_carryOut_359 : decode cX6_carryOut 359 = .ok (.iconst 1, 1) := by decide +kernel
theorem dX6_carryOut_360 : decode cX6_carryOut 360 = .ok (.isub, 1) := by decide +kernel
theorem dX6_carryOut_361 : decode cX6_carryOut 361 = .ok (.invokevirtual 140, 3) := by decide +kernel
theorem dX6_carryOut_364 : decode cX6_carryOut 364 = .ok (.ireturn, 1) := by decide +kernel
theorem dX6_carryOut_365 : decode cX6_carryOut 365 = .ok (.aload_n 0, 1) := by decide +kernel
theorem dX6_carryOut_366 : decode cX6_carryOut 366 = .ok (.iload 4, 2) := by decide +kernel
theorem dX6_carryOut_368 : decode cX6_carryOut 368 = .ok (.iload_n 3, 1) := by decide +kernel
theorem dX6_carryOut_369 : decode cX6_carryOut 369 = .ok (.invokevirtual 178, 3) := by decide +kernel
theorem dX6_carryOut_372 : decode cX6_carryOut 372 = .ok (.ireturn, 1) := by decide +kernel
theorem dX6_carryOut_373 : decode cX6_carryOut 373 = .ok (.aload_n 0, 1) := by decide +kernel
theorem dX6_carryOut_374 : decode cX6_carryOut 374 = .ok (.getfield 36, 3) := by decide +kernel
theorem dX6_carryOut_377 : decode cX6_carryOut 377 = .ok (.iload_n 3, 1) := by decide +kernel
theorem dX6_carryOut_378 : decode cX6_carryOut 378 = .ok (.iload 4, 2) := by decide +kernel
theorem dX6_carryOut_380 : decode cX6_carryOut 380 = .ok (.iload 5, 2) := by decide +kernel
theorem dX6_carryOut_382 : decode cX6_carryOut 382 = .ok (.invokestatic 133, 3) := by decide +kernel
theorem dX6_carryOut_385 : decode cX6_carryOut 385 = .ok (.invokevirtual 181, 3) := by decide +kernel
theorem dX6_carryOut_388 : decode cX6_carryOut 388 = .ok (.ireturn, 1) := by decide +kernel
theorem dX6_carryOut_389 : decode cX6_carryOut 389 = .ok (.aload_n 0, 1) := by decide +kernel
theorem dX6_carryOut_390 : decode cX6_carryOut 390 = .ok (.iload_n 2, 1) := by decide +kernel
theorem dX6_carryOut_391 : decode cX6_carryOut 391 = .ok (.aload_n 0, 1) := by decide +kernel
theorem dX6_carryOut_392 : decode cX6_carryOut 392 = .ok (.getfield 36, 3) := by decide +kernel
theorem dX6_carryOut_395 : decode cX6_carryOut 395 = .ok (.iload_n 3, 1) := by decide +kernel
theorem dX6_carryOut_396 : decode cX6_carryOut 396 = .ok (.iload 4, 2) := by decide +kernel
theorem dX6_carryOut_398 : decode cX6_carryOut 398 = .ok (.iload 5, 2) := by decide +kernel
theorem dX6_carryOut_400 : decode cX6_carryOut 400 = .ok (.aload_n 0, 1) := by decide +kernel
theorem dX6_carryOut_401 : decode cX6_carryOut 401 = .ok (.getfield 32, 3) := by decide +kernel
theorem dX6_carryOut_404 : decode cX6_carryOut 404 = .ok (.invokevirtual 184, 3) := by decide +kernel
theorem dX6_carryOut_407 : decode cX6_carryOut 407 = .ok (.invokevirtual 140, 3) := by decide +kernel
theorem dX6_carryOut_410 : decode cX6_carryOut 410 = .ok (.ireturn, 1) := by decide +kernel
theorem dX6_carryOut_411 : decode cX6_carryOut 411 = .ok (.aload_n 0, 1) := by decide +kernel
theorem dX6_carryOut_412 : decode cX6_carryOut 412 = .ok (.iload_n 2, 1) := by decide +kernel
theorem dX6_carryOut_413 : decode cX6_carryOut 413 = .ok (.aload_n 0, 1) := by decide +kernel
theorem dX6_carryOut_414 : decode cX6_carryOut 414 = .ok (.getfield 40, 3) := by decide +kernel
theorem dX6_carryOut_417 : decode cX6_carryOut 417 = .ok (.iload_n 3, 1) := by decide +kernel
theorem dX6_carryOut_418 : decode cX6_carryOut 418 = .ok (.invokestatic 133, 3) := by decide +kernel
theorem dX6_carryOut_421 : decode cX6_carryOut 421 = .ok (.invokevirtual 187, 3) := by decide +kernel
theorem dX6_carryOut_424 : decode cX6_carryOut 424 = .ok (.invokevirtual 140, 3) := by decide +kernel
theorem dX6_carryOut_427 : decode cX6_carryOut 427 = .ok (.ireturn, 1) := by decide +kernel
theorem dX6_carryOut_428 : decode cX6_carryOut 428 = .ok (.aload_n 0, 1) := by decide +kernel
theorem dX6_carryOut_429 : decode cX6_carryOut 429 = .ok (.getfield 21, 3) := by decide +kernel
theorem dX6_carryOut_432 : decode cX6_carryOut 432 = .ok (.iload_n 3, 1) := by decide +kernel
theorem dX6_carryOut_433 : decode cX6_carryOut 433 = .ok (.invokestatic 133, 3) := by decide +kernel
theorem dX6_carryOut_436 : decode cX6_carryOut 436 = .ok (.invokevirtual 192, 3) := by decide +kernel
theorem dX6_carryOut_439 : decode cX6_carryOut 439 = .ok (.ireturn, 1) := by decide +kernel
theorem dX6_carryOut_440 : decode cX6_carryOut 440 = .ok (.aload_n 0, 1) := by decide +kernel
theorem dX6_carryOut_441 : decode cX6_carryOut 441 = .ok (.getfield 21, 3) := by decide +kernel
theorem dX6_carryOut_444 : decode cX6_carryOut 444 = .ok (.iload_n 3, 1) := by decide +kernel
theorem dX6_carryOut_445 : decode cX6_carryOut 445 = .ok (.invokevirtual 195, 3) := by decide +kernel
theorem dX6_carryOut_448 : decode cX6_carryOut 448 = .ok (.ireturn, 1) := by decide +kernel
theorem dX6_carryOut_449 : decode cX6_carryOut 449 = .ok (.aload_n 0, 1) := by decide +kernel
theorem dX6_carryOut_450 : decode cX6_carryOut 450 = .ok (.iload_n 3, 1) := by decide +kernel
theorem dX6_carryOut_451 : decode cX6_carryOut 451 = .ok (.iload 4, 2) := by decide +kernel
theorem dX6_carryOut_453 : decode cX6_carryOut 453 = .ok (.invokestatic 133, 3) := by decide +kernel
theorem dX6_carryOut_456 : decode cX6_carryOut 456 = .ok (.iload 5, 2) := by decide +kernel
theorem dX6_carryOut_458 : decode cX6_carryOut 458 = .ok (.invokestatic 133, 3) := by decide +kernel
theorem dX6_carryOut_461 : decode cX6_carryOut 461 = .ok (.invokevirtual 198, 3) := by decide +kernel
theorem dX6_carryOut_464 : decode cX6_carryOut 464 = .ok (.ireturn, 1) := by decide +kernel
theorem dX6_carryOut_465 : decode cX6_carryOut 465 = .ok (.aload_n 0, 1) := by decide +kernel
theorem dX6_carryOut_466 : decode cX6_carryOut 466 = .ok (.iconst 1, 1) := by decide +kernel
theorem dX6_carryOut_467 : decode cX6_carryOut 467 = .ok (.invokevirtual 201, 3) := by decide +kernel
theorem dX6_carryOut_470 : decode cX6_carryOut 470 = .ok (.ireturn, 1) := by decide +kernel
theorem dX6_carryOut_471 : decode cX6_carryOut 471 = .ok (.bipush (-20), 2) := by decide +kernel
theorem dX6_carryOut_473 : decode cX6_carryOut 473 = .ok (.ireturn, 1) := by decide +kernel
theorem dX6_tell_0 : decode cX6_tell 0 = .ok (.aload_n 0, 1) := by decide +kernel
theorem dX6_tell_1 : decode cX6_tell 1 = .ok (.iload_n 1, 1) := by decide +kernel
theorem dX6_tell_2 : decode cX6_tell 2 = .ok (.putfield 89, 3) := by decide +kernel
theorem dX6_tell_5 : decode cX6_tell 5 = .ok (.iload_n 2, 1) := by decide +kernel
theorem dX6_tell_6 : decode cX6_tell 6 = .ok (.ireturn, 1) := by decide +kernel
theorem dX6_end_0 : decode cX6_end 0 = .ok (.aload_n 0, 1) := by decide +kernel
theorem dX6_end_1 : decode cX6_end 1 = .ok (.iload_n 1, 1) := by decide +kernel
theorem dX6_end_2 : decode cX6_end 2 = .ok (.putfield 60, 3) := by decide +kernel
theorem dX6_end_5 : decode cX6_end 5 = .ok (.aload_n 0, 1) := by decide +kernel
theorem dX6_end_6 : decode cX6_end 6 = .ok (.iconst (-1), 1) := by decide +kernel
theorem dX6_end_7 : decode cX6_end 7 = .ok (.iconst 1, 1) := by decide +kernel
theorem dX6_end_8 : decode cX6_end 8 = .ok (.invokevirtual 140, 3) := by decide +kernel
theorem dX6_end_11 : decode cX6_end 11 = .ok (.ireturn, 1) := by decide +kernel
theorem dX6_goOnIf_0 : decode cX6_goOnIf 0 = .ok (.iload_n 1, 1) := by decide +kernel
theorem dX6_goOnIf_1 : decode cX6_goOnIf 1 = .ok (.ifCond .eq 14, 3) := by decide +kernel
theorem dX6_goOnIf_4 : decode cX6_goOnIf 4 = .ok (.aload_n 0, 1) := by decide +kernel
theorem dX6_goOnIf_5 : decode cX6_goOnIf 5 = .ok (.getfield 12, 3) := by decide +kernel
theorem dX6_goOnIf_8 : decode cX6_goOnIf 8 = .ok (.invokevirtual 92, 3) := by decide +kernel
theorem dX6_goOnIf_11 : decode cX6_goOnIf 11 = .ok (.iload_n 2, 1) := by decide +kernel
theorem dX6_goOnIf_12 : decode cX6_goOnIf 12 = .ok (.putfield 96, 3) := by decide +kernel
theorem dX6_goOnIf_15 : decode cX6_goOnIf 15 = .ok (.iconst 1, 1) := by decide +kernel
theorem dX6_goOnIf_16 : decode cX6_goOnIf 16 = .ok (.ireturn, 1) := by decide +kernel
theorem dX6_change_0 : decode cX6_change 0 = .ok (.aload_n 0, 1) := by decide +kernel
theorem dX6_change_1 : decode cX6_change 1 = .ok (.iload_n 1, 1) := by decide +kernel
theorem dX6_change_2 : decode cX6_change 2 = .ok (.invokevirtual 113, 3) := by decide +kernel
theorem dX6_change_5 : decode cX6_change 5 = .ok (.istore_n 3, 1) := by decide +kernel
theorem dX6_change_6 : decode cX6_change 6 = .ok (.iload_n 3, 1) := by decide +kernel
theorem dX6_change_7 : decode cX6_change 7 = .ok (.ifCond .ge 7, 3) := by decide +kernel
theorem dX6_change_10 : decode cX6_change 10 = .ok (.iload_n 3, 1) := by decide +kernel
theorem dX6_change_11 : decode cX6_change 11 = .ok (.goto 14, 3) := by decide +kernel
theorem dX6_change_14 : decode cX6_change 14 = .ok (.aload_n 0, 1) := by decide +kernel
theorem dX6_change_15 : decode cX6_change 15 = .ok (.iload_n 1, 1) := by decide +kernel
theorem dX6_change_16 : decode cX6_change 16 = .ok (.iload_n 3, 1) := by decide +kernel
theorem dX6_change_17 : decode cX6_change 17 = .ok (.iload_n 2, 1) := by decide +kernel
theorem dX6_change_18 : decode cX6_change 18 = .ok (.iadd, 1) := by decide +kernel
theorem dX6_change_19 : decode cX6_change 19 = .ok (.invokestatic 204, 3) := by decide +kernel
theorem dX6_change_22 : decode cX6_change 22 = .ok (.invokevirtual 140, 3) := by decide +kernel
theorem dX6_change_25 : decode cX6_change 25 = .ok (.ireturn, 1) := by decide +kernel
theorem dX6_ask_0 : decode cX6_ask 0 = .ok (.iload_n 1, 1) := by decide +kernel
theorem dX6_ask_1 : decode cX6_ask 1 = .ok (.ifCond .ne 11, 3) := by decide +kernel
theorem dX6_ask_4 : decode cX6_ask 4 = .ok (.aload_n 0, 1) := by decide +kernel
theorem dX6_ask_5 : decode cX6_ask 5 = .ok (.getfield 12, 3) := by decide +kernel
theorem dX6_ask_8 : decode cX6_ask 8 = .ok (.invokevirtual 171, 3) := by decide +kernel
theorem dX6_ask_11 : decode cX6_ask 11 = .ok (.ireturn, 1) := by decide +kernel
theorem dX6_ask_12 : decode cX6_ask 12 = .ok (.iload_n 1, 1) := by decide +kernel
theorem dX6_ask_13 : decode cX6_ask 13 = .ok (.bipush 16, 2) := by decide +kernel
theorem dX6_ask_15 : decode cX6_ask 15 = .ok (.if_icmp .ge 17, 3) := by decide +kernel
theorem dX6_ask_18 : decode cX6_ask 18 = .ok (.aload_n 0, 1) := by decide +kernel
theorem dX6_ask_19 : decode cX6_ask 19 = .ok (.getfield 12, 3) := by decide +kernel
theorem dX6_ask_22 : decode cX6_ask 22 = .ok (.invokevirtual 92, 3) := by decide +kernel
theorem dX6_ask_25 : decode cX6_ask 25 = .ok (.iload_n 1, 1) := by decide +kernel
theorem dX6_ask_26 : decode cX6_ask 26 = .ok (.invokevirtual 207, 3) := by decide +kernel
theorem dX6_ask_29 : decode cX6_ask 29 = .ok (.goto 15, 3) := by decide +kernel
theorem dX6_ask_32 : decode cX6_ask 32 = .ok (.aload_n 0, 1) := by decide +kernel
theorem dX6_ask_33 : decode cX6_ask 33 = .ok (.getfield 36, 3) := by decide +kernel
theorem dX6_ask_36 : decode cX6_ask 36 = .ok (.aload_n 0, 1) := by decide +kernel
theorem dX6_ask_37 : decode cX6_ask 37 = .ok (.iload_n 1, 1) := by decide +kernel
theorem dX6_ask_38 : decode cX6_ask 38 = .ok (.invokevirtual 210, 3) := by decide +kernel
theorem dX6_ask_41 : decode cX6_ask 41 = .ok (.invokevirtual 150, 3) := by decide +kernel
theorem dX6_ask_44 : decode cX6_ask 44 = .ok (.ireturn, 1) := by decide +kernel
theorem dX6_set_0 : decode cX6_set 0 = .ok (.iload_n 1, 1) := by decide +kernel
theorem dX6_set_1 : decode cX6_set 1 = .ok (.ifCond .ne 12, 3) := by decide +kernel
theorem dX6_set_4 : decode cX6_set 4 = .ok (.aload_n 0, 1) := by decide +kernel
theorem dX6_set_5 : decode cX6_set 5 = .ok (.getfield 12, 3) := by decide +kernel
theorem dX6_set_8 : decode cX6_set 8 = .ok (.iload_n 2, 1) := by decide +kernel
theorem dX6_set_9 : decode cX6_set 9 = .ok (.invokevirtual 168, 3) := by decide +kernel
theorem dX6_set_12 : decode cX6_set 12 = .ok (.ireturn, 1) := by decide +kernel
theorem dX6_set_13 : decode cX6_set 13 = .ok (.iload_n 1, 1) := by decide +kernel
theorem dX6_set_14 : decode cX6_set 14 = .ok (.bipush 16, 2) := by decide +kernel
theorem dX6_set_16 : decode cX6_set 16 = .ok (.if_icmp .ge 16, 3) := by decide +kernel
theorem dX6_set_19 : decode cX6_set 19 = .ok (.aload_n 0, 1) := by decide +kernel
theorem dX6_set_20 : decode cX6_set 20 = .ok (.getfield 12, 3) := by decide +kernel
theorem dX6_set_23 : decode cX6_set 23 = .ok (.invokevirtual 92, 3) := by decide +kernel
theorem dX6_set_26 : decode cX6_set 26 = .ok (.iload_n 1, 1) := by decide +kernel
theorem dX6_set_27 : decode cX6_set 27 = .ok (.iload_n 2, 1) := by decide +kernel
theorem dX6_set_28 : decode cX6_set 28 = .ok (.invokevirtual 213, 3) := by decide +kernel
theorem dX6_set_31 : decode cX6_set 31 = .ok (.ireturn, 1) := by decide +kernel
theorem dX6_set_32 : decode cX6_set 32 = .ok (.aload_n 0, 1) := by decide +kernel
theorem dX6_set_33 : decode cX6_set 33 = .ok (.getfield 36, 3) := by decide +kernel
theorem dX6_set_36 : decode cX6_set 36 = .ok (.aload_n 0, 1) := by decide +kernel
theorem dX6_set_37 : decode cX6_set 37 = .ok (.iload_n 1, 1) := by decide +kernel
theorem dX6_set_38 : decode cX6_set 38 = .ok (.invokevirtual 210, 3) := by decide +kernel
theorem dX6_set_41 : decode cX6_set 41 = .ok (.iload_n 2, 1) := by decide +kernel
theorem dX6_set_42 : decode cX6_set 42 = .ok (.iconst 0, 1) := by decide +kernel
theorem dX6_set_43 : decode cX6_set 43 = .ok (.invokevirtual 158, 3) := by decide +kernel
theorem dX6_set_46 : decode cX6_set 46 = .ok (.ireturn, 1) := by decide +kernel
theorem dX6_placeOfGlobal_0 : decode cX6_placeOfGlobal 0 = .ok (.aload_n 0, 1) := by decide +kernel
theorem dX6_placeOfGlobal_1 : decode cX6_placeOfGlobal 1 = .ok (.getfield 216, 3) := by decide +kernel
theorem dX6_placeOfGlobal_4 : decode cX6_placeOfGlobal 4 = .ok (.iconst 2, 1) := by decide +kernel
theorem dX6_placeOfGlobal_5 : decode cX6_placeOfGlobal 5 = .ok (.iload_n 1, 1) := by decide +kernel
theorem dX6_placeOfGlobal_6 : decode cX6_placeOfGlobal 6 = .ok (.bipush 16, 2) := by decide +kernel
theorem dX6_placeOfGlobal_8 : decode cX6_placeOfGlobal 8 = .ok (.isub, 1) := by decide +kernel
theorem dX6_placeOfGlobal_9 : decode cX6_placeOfGlobal 9 = .ok (.imul, 1) := by decide +kernel
theorem dX6_placeOfGlobal_10 : decode cX6_placeOfGlobal 10 = .ok (.iadd, 1) := by decide +kernel
theorem dX6_placeOfGlobal_11 : decode cX6_placeOfGlobal 11 = .ok (.ireturn, 1) := by decide +kernel
theorem dX6_enter_0 : decode cX6_enter 0 = .ok (.aload_n 0, 1) := by decide +kernel
theorem dX6_enter_1 : decode cX6_enter 1 = .ok (.getfield 44, 3) := by decide +kernel
theorem dX6_enter_4 : decode cX6_enter 4 = .ok (.iload_n 1, 1) := by decide +kernel
theorem dX6_enter_5 : decode cX6_enter 5 = .ok (.invokevirtual 219, 3) := by decide +kernel
theorem dX6_enter_8 : decode cX6_enter 8 = .ok (.ifCond .ne 6, 3) := by decide +kernel
theorem dX6_enter_11 : decode cX6_enter 11 = .ok (.bipush (-19), 2) := by decide +kernel
theorem dX6_enter_13 : decode cX6_enter 13 = .ok (.ireturn, 1) := by decide +kernel
theorem dX6_enter_14 : decode cX6_enter 14 = .ok (.aload_n 0, 1) := by decide +kernel
theorem dX6_enter_15 : decode cX6_enter 15 = .ok (.getfield 12, 3) := by decide +kernel
theorem dX6_enter_18 : decode cX6_enter 18 = .ok (.invokevirtual 223, 3) := by decide +kernel
theorem dX6_enter_21 : decode cX6_enter 21 = .ok (.astore 5, 2) := by decide +kernel
theorem dX6_enter_23 : decode cX6_enter 23 = .ok (.aload 5, 2) := by decide +kernel
theorem dX6_enter_25 : decode cX6_enter 25 = .ok (.ifnonnull 6, 3) := by decide +kernel
theorem dX6_enter_28 : decode cX6_enter 28 = .ok (.bipush (-16), 2) := by decide +kernel
theorem dX6_enter_30 : decode cX6_enter 30 = .ok (.ireturn, 1) := by decide +kernel
theorem dX6_enter_31 : decode cX6_enter 31 = .ok (.aload 5, 2) := by decide +kernel
theorem dX6_enter_33 : decode cX6_enter 33 = .ok (.iload_n 1, 1) := by decide +kernel
theorem dX6_enter_34 : decode cX6_enter 34 = .ok (.putfield 225, 3) := by decide +kernel
theorem dX6_enter_37 : decode cX6_enter 37 = .ok (.aload 5, 2) := by decide +kernel
theorem dX6_enter_39 : decode cX6_enter 39 = .ok (.aload_n 0, 1) := by decide +kernel
theorem dX6_enter_40 : decode cX6_enter 40 = .ok (.getfield 44, 3) := by decide +kernel
theorem dX6_enter_43 : decode cX6_enter 43 = .ok (.getfield 228, 3) := by decide +kernel
theorem dX6_enter_46 : decode cX6_enter 46 = .ok (.iload_n 1, 1) := by decide +kernel
theorem dX6_enter_47 : decode cX6_enter 47 = .ok (.iaload, 1) := by decide +kernel
theorem dX6_enter_48 : decode cX6_enter 48 = .ok (.putfield 96, 3) := by decide +kernel
theorem dX6_enter_51 : decode cX6_enter 51 = .ok (.aload 5, 2) := by decide +kernel
theorem dX6_enter_53 : decode cX6_enter 53 = .ok (.aload_n 0, 1) := by decide +kernel
theorem dX6_enter_54 : decode cX6_enter 54 = .ok (.getfield 44, 3) := by decide +kernel
theorem dX6_enter_57 : decode cX6_enter 57 = .ok (.getfield 231, 3) := by decide +kernel
theorem dX6_enter_60 : decode cX6_enter 60 = .ok (.iload_n 1, 1) := by decide +kernel
theorem dX6_enter_61 : decode cX6_enter 61 = .ok (.iaload, 1) := by decide +kernel
theorem dX6_enter_62 : decode cX6_enter 62 = .ok (.putfield 234, 3) := by decide +kernel
theorem dX6_enter_65 : decode cX6_enter 65 = .ok (.aload 5, 2) := by decide +kernel
theorem dX6_enter_67 : decode cX6_enter 67 = .ok (.iload 4, 2) := by decide +kernel
theorem dX6_enter_69 : decode cX6_enter 69 = .ok (.putfield 237, 3) := by decide +kernel
theorem dX6_enter_72 : decode cX6_enter 72 = .ok (.aload 5, 2) := by decide +kernel
theorem dX6_enter_74 : decode cX6_enter 74 = .ok (.iconst 1, 1) := by decide +kernel
theorem dX6_enter_75 : decode cX6_enter 75 = .ok (.iload_n 2, 1) := by decide +kernel
theorem dX6_enter_76 : decode cX6_enter 76 = .ok (.invokevirtual 213, 3) := by decide +kernel
theorem dX6_enter_79 : decode cX6_enter 79 = .ok (.pop, 1) := by decide +kernel
theorem dX6_enter_80 : decode cX6_enter 80 = .ok (.aload 5, 2) := by decide +kernel
theorem dX6_enter_82 : decode cX6_enter 82 = .ok (.iconst 2, 1) := by decide +kernel
theorem dX6_enter_83 : decode cX6_enter 83 = .ok (.iload_n 3, 1) := by decide +kernel
theorem dX6_enter_84 : decode cX6_enter 84 = .ok (.invokevirtual 213, 3) := by decide +kernel
theorem dX6_enter_87 : decode cX6_enter 87 = .ok (.pop, 1) := by decide +kernel
theorem dX6_enter_88 : decode cX6_enter 88 = .ok (.iconst 1, 1) := by decide +kernel
theorem dX6_enter_89 : decode cX6_enter 89 = .ok (.ireturn, 1) := by decide +kernel
theorem dX6_giveBack_0 : decode cX6_giveBack 0 = .ok (.aload_n 0, 1) := by decide +kernel
theorem dX6_giveBack_1 : decode cX6_giveBack 1 = .ok (.getfield 12, 3) := by decide +kernel
theorem dX6_giveBack_4 : decode cX6_giveBack 4 = .ok (.invokevirtual 92, 3) := by decide +kernel
theorem dX6_giveBack_7 : decode cX6_giveBack 7 = .ok (.getfield 237, 3) := by decide +kernel
theorem dX6_giveBack_10 : decode cX6_giveBack 10 = .ok (.istore_n 2, 1) := by decide +kernel
theorem dX6_giveBack_11 : decode cX6_giveBack 11 = .ok (.aload_n 0, 1) := by decide +kernel
theorem dX6_giveBack_12 : decode cX6_giveBack 12 = .ok (.aload_n 0, 1) := by decide +kernel
theorem dX6_giveBack_13 : decode cX6_giveBack 13 = .ok (.getfield 12, 3) := by decide +kernel
theorem dX6_giveBack_16 : decode cX6_giveBack 16 = .ok (.getfield 175, 3) := by decide +kernel
theorem dX6_giveBack_19 : decode cX6_giveBack 19 = .ok (.iconst 1, 1) := by decide +kernel
theorem dX6_giveBack_20 : decode cX6_giveBack 20 = .ok (.isub, 1) := by decide +kernel
theorem dX6_giveBack_21 : decode cX6_giveBack 21 = .ok (.invokevirtual 85, 3) := by decide +kernel
theorem dX6_giveBack_24 : decode cX6_giveBack 24 = .ok (.aload_n 0, 1) := by decide +kernel
theorem dX6_giveBack_25 : decode cX6_giveBack 25 = .ok (.getfield 12, 3) := by decide +kernel
theorem dX6_giveBack_28 : decode cX6_giveBack 28 = .ok (.getfield 175, 3) := by decide +kernel
theorem dX6_giveBack_31 : decode cX6_giveBack 31 = .ok (.ifCond .ne 14, 3) := by decide +kernel
theorem dX6_giveBack_34 : decode cX6_giveBack 34 = .ok (.aload_n 0, 1) := by decide +kernel
theorem dX6_giveBack_35 : decode cX6_giveBack 35 = .ok (.iload_n 1, 1) := by decide +kernel
theorem dX6_giveBack_36 : decode cX6_giveBack 36 = .ok (.putfield 69, 3) := by decide +kernel
theorem dX6_giveBack_39 : decode cX6_giveBack 39 = .ok (.aload_n 0, 1) := by decide +kernel
theorem dX6_giveBack_40 : decode cX6_giveBack 40 = .ok (.iconst 0, 1) := by decide +kernel
theorem dX6_giveBack_41 : decode cX6_giveBack 41 = .ok (.invokevirtual 201, 3) := by decide +kernel
theorem dX6_giveBack_44 : decode cX6_giveBack 44 = .ok (.ireturn, 1) := by decide +kernel
theorem dX6_giveBack_45 : decode cX6_giveBack 45 = .ok (.aload_n 0, 1) := by decide +kernel
theorem dX6_giveBack_46 : decode cX6_giveBack 46 = .ok (.iload_n 2, 1) := by decide +kernel
theorem dX6_giveBack_47 : decode cX6_giveBack 47 = .ok (.iload_n 1, 1) := by decide +kernel
theorem dX6_giveBack_48 : decode cX6_giveBack 48 = .ok (.invokevirtual 140, 3) := by decide +kernel
theorem dX6_giveBack_51 : decode cX6_giveBack 51 = .ok (.ireturn, 1) := by decide +kernel
theorem dX6_leaveDownTo_0 : decode cX6_leaveDownTo 0 = .ok (.aload_n 0, 1) := by decide +kernel
theorem dX6_leaveDownTo_1 : decode cX6_leaveDownTo 1 = .ok (.getfield 12, 3) := by decide +kernel
theorem dX6_leaveDownTo_4 : decode cX6_leaveDownTo 4 = .ok (.getfield 175, 3) := by decide +kernel
theorem dX6_leaveDownTo_7 : decode cX6_leaveDownTo 7 = .ok (.istore_n 2, 1) := by decide +kernel
theorem dX6_leaveDownTo_8 : decode cX6_leaveDownTo 8 = .ok (.iload_n 2, 1) := by decide +kernel
theorem dX6_leaveDownTo_9 : decode cX6_leaveDownTo 9 = .ok (.iload_n 1, 1) := by decide +kernel
theorem dX6_leaveDownTo_10 : decode cX6_leaveDownTo 10 = .ok (.if_icmp .le 39, 3) := by decide +kernel
theorem dX6_leaveDownTo_13 : decode cX6_leaveDownTo 13 = .ok (.iload_n 2, 1) := by decide +kernel
theorem dX6_leaveDownTo_14 : decode cX6_leaveDownTo 14 = .ok (.ifCond .le 35, 3) := by decide +kernel
theorem dX6_leaveDownTo_17 : decode cX6_leaveDownTo 17 = .ok (.aload_n 0, 1) := by decide +kernel
theorem dX6_leaveDownTo_18 : decode cX6_leaveDownTo 18 = .ok (.getfield 25, 3) := by decide +kernel
theorem dX6_leaveDownTo_21 : decode cX6_leaveDownTo 21 = .ok (.aload_n 0, 1) := by decide +kernel
theorem dX6_leaveDownTo_22 : decode cX6_leaveDownTo 22 = .ok (.getfield 12, 3) := by decide +kernel
theorem dX6_leaveDownTo_25 : decode cX6_leaveDownTo 25 = .ok (.invokevirtual 92, 3) := by decide +kernel
theorem dX6_leaveDownTo_28 : decode cX6_leaveDownTo 28 = .ok (.getfield 225, 3) := by decide +kernel
theorem dX6_leaveDownTo_31 : decode cX6_leaveDownTo 31 = .ok (.dup2, 1) := by decide +kernel
theorem dX6_leaveDownTo_32 : decode cX6_leaveDownTo 32 = .ok (.iaload, 1) := by decide +kernel
theorem dX6_leaveDownTo_33 : decode cX6_leaveDownTo 33 = .ok (.iconst 1, 1) := by decide +kernel
theorem dX6_leaveDownTo_34 : decode cX6_leaveDownTo 34 = .ok (.iadd, 1) := by decide +kernel
theorem dX6_leaveDownTo_35 : decode cX6_leaveDownTo 35 = .ok (.iastore, 1) := by decide +kernel
theorem dX6_leaveDownTo_36 : decode cX6_leaveDownTo 36 = .ok (.aload_n 0, 1) := by decide +kernel
theorem dX6_leaveDownTo_37 : decode cX6_leaveDownTo 37 = .ok (.getfield 12, 3) := by decide +kernel
theorem dX6_leaveDownTo_40 : decode cX6_leaveDownTo 40 = .ok (.invokevirtual 238, 3) := by decide +kernel
theorem dX6_leaveDownTo_43 : decode cX6_leaveDownTo 43 = .ok (.iinc 2 (-1), 3) := by decide +kernel
theorem dX6_leaveDownTo_46 : decode cX6_leaveDownTo 46 = .ok (.goto (-38), 3) := by decide +kernel
theorem dX6_leaveDownTo_49 : decode cX6_leaveDownTo 49 = .ok (.return_, 1) := by decide +kernel
theorem dX6_throwTo_0 : decode cX6_throwTo 0 = .ok (.iload_n 1, 1) := by decide +kernel
theorem dX6_throwTo_1 : decode cX6_throwTo 1 = .ok (.aload_n 0, 1) := by decide +kernel
theorem dX6_throwTo_2 : decode cX6_throwTo 2 = .ok (.getfield 12, 3) := by decide +kernel
theorem dX6_throwTo_5 : decode cX6_throwTo 5 = .ok (.getfield 175, 3) := by decide +kernel
theorem dX6_throwTo_8 : decode cX6_throwTo 8 = .ok (.if_icmp .lt 6, 3) := by decide +kernel
theorem dX6_throwTo_11 : decode cX6_throwTo 11 = .ok (.bipush (-18), 2) := by decide +kernel
theorem dX6_throwTo_13 : decode cX6_throwTo 13 = .ok (.ireturn, 1) := by decide +kernel
theorem dX6_throwTo_14 : decode cX6_throwTo 14 = .ok (.aload_n 0, 1) := by decide +kernel
theorem dX6_throwTo_15 : decode cX6_throwTo 15 = .ok (.getfield 66, 3) := by decide +kernel
theorem dX6_throwTo_18 : decode cX6_throwTo 18 = .ok (.bipush 12, 2) := by decide +kernel
theorem dX6_throwTo_20 : decode cX6_throwTo 20 = .ok (.if_icmp .lt 9, 3) := by decide +kernel
theorem dX6_throwTo_23 : decode cX6_throwTo 23 = .ok (.aload_n 0, 1) := by decide +kernel
theorem dX6_throwTo_24 : decode cX6_throwTo 24 = .ok (.iconst 3, 1) := by decide +kernel
theorem dX6_throwTo_25 : decode cX6_throwTo 25 = .ok (.invokevirtual 201, 3) := by decide +kernel
theorem dX6_throwTo_28 : decode cX6_throwTo 28 = .ok (.ireturn, 1) := by decide +kernel
theorem dX6_throwTo_29 : decode cX6_throwTo 29 = .ok (.aload_n 0, 1) := by decide +kernel
theorem dX6_throwTo_30 : decode cX6_throwTo 30 = .ok (.dup, 1) := by decide +kernel
theorem dX6_throwTo_31 : decode cX6_throwTo 31 = .ok (.getfield 66, 3) := by decide +kernel
theorem dX6_throwTo_34 : decode cX6_throwTo 34 = .ok (.iconst 1, 1) := by decide +kernel
theorem dX6_throwTo_35 : decode cX6_throwTo 35 = .ok (.iadd, 1) := by decide +kernel
theorem dX6_throwTo_36 : decode cX6_throwTo 36 = .ok (.putfield 66, 3) := by decide +kernel
theorem dX6_throwTo_39 : decode cX6_throwTo 39 = .ok (.aload_n 0, 1) := by decide +kernel
theorem dX6_throwTo_40 : decode cX6_throwTo 40 = .ok (.dup, 1) := by decide +kernel
theorem dX6_throwTo_41 : decode cX6_throwTo 41 = .ok (.getfield 78, 3) := by decide +kernel
theorem dX6_throwTo_44 : decode cX6_throwTo 44 = .ok (.iconst 1, 1) := by decide +kernel
theorem dX6_throwTo_45 : decode cX6_throwTo 45 = .ok (.iadd, 1) := by decide +kernel
theorem dX6_throwTo_46 : decode cX6_throwTo 46 = .ok (.putfield 78, 3) := by decide +kernel
theorem dX6_throwTo_49 : decode cX6_throwTo 49 = .ok (.aload_n 0, 1) := by decide +kernel
theorem dX6_throwTo_50 : decode cX6_throwTo 50 = .ok (.iload_n 1, 1) := by decide +kernel
theorem dX6_throwTo_51 : decode cX6_throwTo 51 = .ok (.iconst 1, 1) := by decide +kernel
theorem dX6_throwTo_52 : decode cX6_throwTo 52 = .ok (.iadd, 1) := by decide +kernel
theorem dX6_throwTo_53 : decode cX6_throwTo 53 = .ok (.invokevirtual 85, 3) := by decide +kernel
theorem dX6_throwTo_56 : decode cX6_throwTo 56 = .ok (.aload_n 0, 1) := by decide +kernel
theorem dX6_throwTo_57 : decode cX6_throwTo 57 = .ok (.iload_n 2, 1) := by decide +kernel
theorem dX6_throwTo_58 : decode cX6_throwTo 58 = .ok (.invokevirtual 165, 3) := by decide +kernel
theorem dX6_throwTo_61 : decode cX6_throwTo 61 = .ok (.ireturn, 1) := by decide +kernel
theorem dX6_raise_0 : decode cX6_raise 0 = .ok (.aload_n 0, 1) := by decide +kernel
theorem dX6_raise_1 : decode cX6_raise 1 = .ok (.getfield 66, 3) := by decide +kernel
theorem dX6_raise_4 : decode cX6_raise 4 = .ok (.bipush 12, 2) := by decide +kernel
theorem dX6_raise_6 : decode cX6_raise 6 = .ok (.if_icmp .lt 9, 3) := by decide +kernel
theorem dX6_raise_9 : decode cX6_raise 9 = .ok (.aload_n 0, 1) := by decide +kernel
theorem dX6_raise_10 : decode cX6_raise 10 = .ok (.iconst 3, 1) := by decide +kernel
theorem dX6_raise_11 : decode cX6_raise 11 = .ok (.invokevirtual 201, 3) := by decide +kernel
theorem dX6_raise_14 : decode cX6_raise 14 = .ok (.ireturn, 1) := by decide +kernel
theorem dX6_raise_15 : decode cX6_raise 15 = .ok (.aload_n 0, 1) := by decide +kernel
theorem dX6_raise_16 : decode cX6_raise 16 = .ok (.dup, 1) := by decide +kernel
theorem dX6_raise_17 : decode cX6_raise 17 = .ok (.getfield 66, 3) := by decide +kernel
theorem dX6_raise_20 : decode cX6_raise 20 = .ok (.iconst 1, 1) := by decide +kernel
theorem dX6_raise_21 : decode cX6_raise 21 = .ok (.iadd, 1) := by decide +kernel
theorem dX6_raise_22 : decode cX6_raise 22 = .ok (.putfield 66, 3) := by decide +kernel
theorem dX6_raise_25 : decode cX6_raise 25 = .ok (.aload_n 0, 1) := by decide +kernel
theorem dX6_raise_26 : decode cX6_raise 26 = .ok (.getfield 12, 3) := by decide +kernel
theorem dX6_raise_29 : decode cX6_raise 29 = .ok (.getfield 175, 3) := by decide +kernel
theorem dX6_raise_32 : decode cX6_raise 32 = .ok (.istore_n 2, 1) := by decide +kernel
theorem dX6_raise_33 : decode cX6_raise 33 = .ok (.iload_n 2, 1) := by decide +kernel
theorem dX6_raise_34 : decode cX6_raise 34 = .ok (.ifCond .le 37, 3) := by decide +kernel
theorem dX6_raise_37 : decode cX6_raise 37 = .ok (.aload_n 0, 1) := by decide +kernel
theorem dX6_raise_38 : decode cX6_raise 38 = .ok (.getfield 44, 3) := by decide +kernel
theorem dX6_raise_41 : decode cX6_raise 41 = .ok (.getfield 241, 3) := by decide +kernel
theorem dX6_raise_44 : decode cX6_raise 44 = .ok (.aload_n 0, 1) := by decide +kernel
theorem dX6_raise_45 : decode cX6_raise 45 = .ok (.getfield 12, 3) := by decide +kernel
theorem dX6_raise_48 : decode cX6_raise 48 = .ok (.invokevirtual 92, 3) := by decide +kernel
theorem dX6_raise_51 : decode cX6_raise 51 = .ok (.getfield 225, 3) := by decide +kernel
theorem dX6_raise_54 : decode cX6_raise 54 = .ok (.baload, 1) := by decide +kernel
theorem dX6_raise_55 : decode cX6_raise 55 = .ok (.ifCond .ne 16, 3) := by decide +kernel
theorem dX6_raise_58 : decode cX6_raise 58 = .ok (.aload_n 0, 1) := by decide +kernel
theorem dX6_raise_59 : decode cX6_raise 59 = .ok (.iload_n 2, 1) := by decide +kernel
theorem dX6_raise_60 : decode cX6_raise 60 = .ok (.iconst 1, 1) := by decide +kernel
theorem dX6_raise_61 : decode cX6_raise 61 = .ok (.isub, 1) := by decide +kernel
theorem dX6_raise_62 : decode cX6_raise 62 = .ok (.invokevirtual 85, 3) := by decide +kernel
theorem dX6_raise_65 : decode cX6_raise 65 = .ok (.iinc 2 (-1), 3) := by decide +kernel
theorem dX6_raise_68 : decode cX6_raise 68 = .ok (.goto (-35), 3) := by decide +kernel
theorem dX6_raise_71 : decode cX6_raise 71 = .ok (.aload_n 0, 1) := by decide +kernel
theorem dX6_raise_72 : decode cX6_raise 72 = .ok (.getfield 12, 3) := by decide +kernel
theorem dX6_raise_75 : decode cX6_raise 75 = .ok (.getfield 175, 3) := by decide +kernel
theorem dX6_raise_78 : decode cX6_raise 78 = .ok (.ifCond .ne 17, 3) := by decide +kernel
theorem dX6_raise_81 : decode cX6_raise 81 = .ok (.aload_n 0, 1) := by decide +kernel
theorem dX6_raise_82 : decode cX6_raise 82 = .ok (.bipush (-10), 2) := by decide +kernel
theorem dX6_raise_84 : decode cX6_raise 84 = .ok (.iload_n 1, 1) := by decide +kernel
theorem dX6_raise_85 : decode cX6_raise 85 = .ok (.isub, 1) := by decide +kernel
theorem dX6_raise_86 : decode cX6_raise 86 = .ok (.putfield 72, 3) := by decide +kernel
theorem dX6_raise_89 : decode cX6_raise 89 = .ok (.aload_n 0, 1) := by decide +kernel
theorem dX6_raise_90 : decode cX6_raise 90 = .ok (.iconst 2, 1) := by decide +kernel
theorem dX6_raise_91 : decode cX6_raise 91 = .ok (.invokevirtual 201, 3) := by decide +kernel
theorem dX6_raise_94 : decode cX6_raise 94 = .ok (.ireturn, 1) := by decide +kernel
theorem dX6_raise_95 : decode cX6_raise 95 = .ok (.aload_n 0, 1) := by decide +kernel
theorem dX6_raise_96 : decode cX6_raise 96 = .ok (.dup, 1) := by decide +kernel
theorem dX6_raise_97 : decode cX6_raise 97 = .ok (.getfield 75, 3) := by decide +kernel
theorem dX6_raise_100 : decode cX6_raise 100 = .ok (.iconst 1, 1) := by decide +kernel
theorem dX6_raise_101 : decode cX6_raise 101 = .ok (.iadd, 1) := by decide +kernel
theorem dX6_raise_102 : decode cX6_raise 102 = .ok (.putfield 75, 3) := by decide +kernel
theorem dX6_raise_105 : decode cX6_raise 105 = .ok (.aload_n 0, 1) := by decide +kernel
theorem dX6_raise_106 : decode cX6_raise 106 = .ok (.bipush (-10), 2) := by decide +kernel
theorem dX6_raise_108 : decode cX6_raise 108 = .ok (.iload_n 1, 1) := by decide +kernel
theorem dX6_raise_109 : decode cX6_raise 109 = .ok (.isub, 1) := by decide +kernel
theorem dX6_raise_110 : decode cX6_raise 110 = .ok (.invokevirtual 165, 3) := by decide +kernel
theorem dX6_raise_113 : decode cX6_raise 113 = .ok (.ireturn, 1) := by decide +kernel
theorem dX6_printRows_0 : decode cX6_printRows 0 = .ok (.iload_n 1, 1) := by decide +kernel
theorem dX6_printRows_1 : decode cX6_printRows 1 = .ok (.istore 4, 2) := by decide +kernel
theorem dX6_printRows_3 : decode cX6_printRows 3 = .ok (.iconst 0, 1) := by decide +kernel
theorem dX6_printRows_4 : decode cX6_printRows 4 = .ok (.istore 5, 2) := by decide +kernel
theorem dX6_printRows_6 : decode cX6_printRows 6 = .ok (.iload 5, 2) := by decide +kernel
theorem dX6_printRows_8 : decode cX6_printRows 8 = .ok (.iload_n 3, 1) := by decide +kernel
theorem dX6_printRows_9 : decode cX6_printRows 9 = .ok (.if_icmp .ge 87, 3) := by decide +kernel
theorem dX6_printRows_12 : decode cX6_printRows 12 = .ok (.iload 5, 2) := by decide +kernel
theorem dX6_printRows_14 : decode cX6_printRows 14 = .ok (.ifCond .le 18, 3) := by decide +kernel
theorem dX6_printRows_17 : decode cX6_printRows 17 = .ok (.aload_n 0, 1) := by decide +kernel
theorem dX6_printRows_18 : decode cX6_printRows 18 = .ok (.getfield 21, 3) := by decide +kernel
theorem dX6_printRows_21 : decode cX6_printRows 21 = .ok (.bipush 10, 2) := by decide +kernel
theorem dX6_printRows_23 : decode cX6_printRows 23 = .ok (.invokevirtual 195, 3) := by decide +kernel
theorem dX6_printRows_26 : decode cX6_printRows 26 = .ok (.ifCond .ge 6, 3) := by decide +kernel
theorem dX6_printRows_29 : decode cX6_printRows 29 = .ok (.bipush (-21), 2) := by decide +kernel
theorem dX6_printRows_31 : decode cX6_printRows 31 = .ok (.ireturn, 1) := by decide +kernel
theorem dX6_printRows_32 : decode cX6_printRows 32 = .ok (.iconst 0, 1) := by decide +kernel
theorem dX6_printRows_33 : decode cX6_printRows 33 = .ok (.istore 6, 2) := by decide +kernel
theorem dX6_printRows_35 : decode cX6_printRows 35 = .ok (.iload 6, 2) := by decide +kernel
theorem dX6_printRows_37 : decode cX6_printRows 37 = .ok (.iload_n 2, 1) := by decide +kernel
theorem dX6_printRows_38 : decode cX6_printRows 38 = .ok (.if_icmp .ge 52, 3) := by decide +kernel
theorem dX6_printRows_41 : decode cX6_printRows 41 = .ok (.aload_n 0, 1) := by decide +kernel
theorem dX6_printRows_42 : decode cX6_printRows 42 = .ok (.getfield 36, 3) := by decide +kernel
theorem dX6_printRows_45 : decode cX6_printRows 45 = .ok (.iload 4, 2) := by decide +kernel
theorem dX6_printRows_47 : decode cX6_printRows 47 = .ok (.invokevirtual 155, 3) := by decide +kernel
theorem dX6_printRows_50 : decode cX6_printRows 50 = .ok (.istore 7, 2) := by decide +kernel
theorem dX6_printRows_52 : decode cX6_printRows 52 = .ok (.iload 7, 2) := by decide +kernel
theorem dX6_printRows_54 : decode cX6_printRows 54 = .ok (.ifCond .ge 8, 3) := by decide +kernel
theorem dX6_printRows_57 : decode cX6_printRows 57 = .ok (.iload 7, 2) := by decide +kernel
theorem dX6_printRows_59 : decode cX6_printRows 59 = .ok (.goto 12, 3) := by decide +kernel
theorem dX6_printRows_62 : decode cX6_printRows 62 = .ok (.aload_n 0, 1) := by decide +kernel
theorem dX6_printRows_63 : decode cX6_printRows 63 = .ok (.getfield 21, 3) := by decide +kernel
theorem dX6_printRows_66 : decode cX6_printRows 66 = .ok (.iload 7, 2) := by decide +kernel
theorem dX6_printRows_68 : decode cX6_printRows 68 = .ok (.invokevirtual 195, 3) := by decide +kernel
theorem dX6_printRows_71 : decode cX6_printRows 71 = .ok (.istore 8, 2) := by decide +kernel
theorem dX6_printRows_73 : decode cX6_printRows 73 = .ok (.iload 8, 2) := by decide +kernel
theorem dX6_printRows_75 : decode cX6_printRows 75 = .ok (.ifCond .ge 6, 3) := by decide +kernel
theorem dX6_printRows_78 : decode cX6_printRows 78 = .ok (.iload 8, 2) := by decide +kernel
theorem dX6_printRows_80 : decode cX6_printRows 80 = .ok (.ireturn, 1) := by decide +kernel
theorem dX6_printRows_81 : decode cX6_printRows 81 = .ok (.iinc 4 1, 3) := by decide +kernel
theorem dX6_printRows_84 : decode cX6_printRows 84 = .ok (.iinc 6 1, 3) := by decide +kernel
theorem dX6_printRows_87 : decode cX6_printRows 87 = .ok (.goto (-52), 3) := by decide +kernel
theorem dX6_printRows_90 : decode cX6_printRows 90 = .ok (.iinc 5 1, 3) := by decide +kernel
theorem dX6_printRows_93 : decode cX6_printRows 93 = .ok (.goto (-87), 3) := by decide +kernel
theorem dX6_printRows_96 : decode cX6_printRows 96 = .ok (.iconst 1, 1) := by decide +kernel
theorem dX6_printRows_97 : decode cX6_printRows 97 = .ok (.ireturn, 1) := by decide +kernel
theorem dX7_init_0 : decode cX7_init 0 = .ok (.aload_n 0, 1) := by decide +kernel
theorem dX7_init_1 : decode cX7_init 1 = .ok (.invokespecial 3, 3) := by decide +kernel
theorem dX7_init_4 : decode cX7_init 4 = .ok (.aload_n 0, 1) := by decide +kernel
theorem dX7_init_5 : decode cX7_init 5 = .ok (.new 9, 3) := by decide +kernel
theorem dX7_init_8 : decode cX7_init 8 = .ok (.dup, 1) := by decide +kernel
theorem dX7_init_9 : decode cX7_init 9 = .ok (.invokespecial 11, 3) := by decide +kernel
theorem dX7_init_12 : decode cX7_init 12 = .ok (.putfield 12, 3) := by decide +kernel
theorem dX7_init_15 : decode cX7_init 15 = .ok (.aload_n 0, 1) := by decide +kernel
theorem dX7_init_16 : decode cX7_init 16 = .ok (.new 16, 3) := by decide +kernel
theorem dX7_init_19 : decode cX7_init 19 = .ok (.dup, 1) := by decide +kernel
theorem dX7_init_20 : decode cX7_init 20 = .ok (.invokespecial 18, 3) := by decide +kernel
theorem dX7_init_23 : decode cX7_init 23 = .ok (.putfield 19, 3) := by decide +kernel
theorem dX7_init_26 : decode cX7_init 26 = .ok (.aload_n 0, 1) := by decide +kernel
theorem dX7_init_27 : decode cX7_init 27 = .ok (.new 23, 3) := by decide +kernel
theorem dX7_init_30 : decode cX7_init 30 = .ok (.dup, 1) := by decide +kernel
theorem dX7_init_31 : decode cX7_init 31 = .ok (.invokespecial 25, 3) := by decide +kernel
theorem dX7_init_34 : decode cX7_init 34 = .ok (.putfield 26, 3) := by decide +kernel
theorem dX7_init_37 : decode cX7_init 37 = .ok (.aload_n 0, 1) := by decide +kernel
theorem dX7_init_38 : decode cX7_init 38 = .ok (.new 30, 3) := by decide +kernel
theorem dX7_init_41 : decode cX7_init 41 = .ok (.dup, 1) := by decide +kernel
theorem dX7_init_42 : decode cX7_init 42 = .ok (.aload_n 0, 1) := by decide +kernel
theorem dX7_init_43 : decode cX7_init 43 = .ok (.getfield 12, 3) := by decide +kernel
theorem dX7_init_46 : decode cX7_init 46 = .ok (.aload_n 0, 1) := by decide +kernel
theorem dX7_init_47 : decode cX7_init 47 = .ok (.getfield 19, 3) := by decide +kernel
theorem dX7_init_50 : decode cX7_init 50 = .ok (.aload_n 0, 1) := by decide +kernel
theorem dX7_init_51 : decode cX7_init 51 = .ok (.getfield 26, 3) := by decide +kernel
theorem dX7_init_54 : decode cX7_init 54 = .ok (.invokespecial 32, 3) := by decide +kernel
theorem dX7_init_57 : decode cX7_init 57 = .ok (.putfield 35, 3) := by decide +kernel
theorem dX7_init_60 : decode cX7_init 60 = .ok (.return_, 1) := by decide +kernel
theorem dX7_size_0 : decode cX7_size 0 = .ok (.iload_n 1, 1) := by decide +kernel
theorem dX7_size_1 : decode cX7_size 1 = .ok (.ifCond .lt 19, 3) := by decide +kernel
theorem dX7_size_4 : decode cX7_size 4 = .ok (.iload_n 1, 1) := by decide +kernel
theorem dX7_size_5 : decode cX7_size 5 = .ok (.sipush 2000, 3) := by decide +kernel
theorem dX7_size_8 : decode cX7_size 8 = .ok (.if_icmp .gt 12, 3) := by decide +kernel
theorem dX7_size_11 : decode cX7_size 11 = .ok (.iload_n 2, 1) := by decide +kernel
theorem dX7_size_12 : decode cX7_size 12 = .ok (.ifCond .lt 8, 3) := by decide +kernel
theorem dX7_size_15 : decode cX7_size 15 = .ok (.iload_n 2, 1) := by decide +kernel
theorem dX7_size_16 : decode cX7_size 16 = .ok (.iload_n 1, 1) := by decide +kernel
theorem dX7_size_17 : decode cX7_size 17 = .ok (.if_icmp .le 6, 3) := by decide +kernel
theorem dX7_size_20 : decode cX7_size 20 = .ok (.bipush (-2), 2) := by decide +kernel
theorem dX7_size_22 : decode cX7_size 22 = .ok (.ireturn, 1) := by decide +kernel
theorem dX7_size_23 : decode cX7_size 23 = .ok (.aload_n 0, 1) := by decide +kernel
theorem dX7_size_24 : decode cX7_size 24 = .ok (.getfield 12, 3) := by decide +kernel
theorem dX7_size_27 : decode cX7_size 27 = .ok (.iload_n 1, 1) := by decide +kernel
theorem dX7_size_28 : decode cX7_size 28 = .ok (.iload_n 2, 1) := by decide +kernel
theorem dX7_size_29 : decode cX7_size 29 = .ok (.invokevirtual 39, 3) := by decide +kernel
theorem dX7_size_32 : decode cX7_size 32 = .ok (.iconst 1, 1) := by decide +kernel
theorem dX7_size_33 : decode cX7_size 33 = .ok (.ireturn, 1) := by decide +kernel
theorem dX7_get_0 : decode cX7_get 0 = .ok (.iload_n 2, 1) := by decide +kernel
theorem dX7_get_1 : decode cX7_get 1 = .ok (.ifCond .eq 14, 3) := by decide +kernel
theorem dX7_get_4 : decode cX7_get 4 = .ok (.aload_n 0, 1) := by decide +kernel
theorem dX7_get_5 : decode cX7_get 5 = .ok (.getfield 12, 3) := by decide +kernel
theorem dX7_get_8 : decode cX7_get 8 = .ok (.iload_n 1, 1) := by decide +kernel
theorem dX7_get_9 : decode cX7_get 9 = .ok (.invokevirtual 43, 3) := by decide +kernel
theorem dX7_get_12 : decode cX7_get 12 = .ok (.goto 11, 3) := by decide +kernel
theorem dX7_get_15 : decode cX7_get 15 = .ok (.aload_n 0, 1) := by decide +kernel
theorem dX7_get_16 : decode cX7_get 16 = .ok (.getfield 12, 3) := by decide +kernel
theorem dX7_get_19 : decode cX7_get 19 = .ok (.iload_n 1, 1) := by decide +kernel
theorem dX7_get_20 : decode cX7_get 20 = .ok (.invokevirtual 47, 3) := by decide +kernel
theorem dX7_get_23 : decode cX7_get 23 = .ok (.ireturn, 1) := by decide +kernel
theorem dX7_put_0 : decode cX7_put 0 = .ok (.iload_n 3, 1) := by decide +kernel
theorem dX7_put_1 : decode cX7_put 1 = .ok (.ifCond .eq 17, 3) := by decide +kernel
theorem dX7_put_4 : decode cX7_put 4 = .ok (.aload_n 0, 1) := by decide +kernel
theorem dX7_put_5 : decode cX7_put 5 = .ok (.getfield 12, 3) := by decide +kernel
theorem dX7_put_8 : decode cX7_put 8 = .ok (.iload_n 1, 1) := by decide +kernel
theorem dX7_put_9 : decode cX7_put 9 = .ok (.iload_n 2, 1) := by decide +kernel
theorem dX7_put_10 : decode cX7_put 10 = .ok (.iload 4, 2) := by decide +kernel
theorem dX7_put_12 : decode cX7_put 12 = .ok (.invokevirtual 50, 3) := by decide +kernel
theorem dX7_put_15 : decode cX7_put 15 = .ok (.goto 14, 3) := by decide +kernel
theorem dX7_put_18 : decode cX7_put 18 = .ok (.aload_n 0, 1) := by decide +kernel
theorem dX7_put_19 : decode cX7_put 19 = .ok (.getfield 12, 3) := by decide +kernel
theorem dX7_put_22 : decode cX7_put 22 = .ok (.iload_n 1, 1) := by decide +kernel
theorem dX7_put_23 : decode cX7_put 23 = .ok (.iload_n 2, 1) := by decide +kernel
theorem dX7_put_24 : decode cX7_put 24 = .ok (.iload 4, 2) := by decide +kernel
theorem dX7_put_26 : decode cX7_put 26 = .ok (.invokevirtual 54, 3) := by decide +kernel
theorem dX7_put_29 : decode cX7_put 29 = .ok (.ireturn, 1) := by decide +kernel
theorem dX7_work_0 : decode cX7_work 0 = .ok (.iload_n 1, 1) := by decide +kernel
theorem dX7_work_1 : decode cX7_work 1 = .ok (.ifCond .lt 9, 3) := by decide +kernel
theorem dX7_work_4 : decode cX7_work 4 = .ok (.iload_n 1, 1) := by decide +kernel
theorem dX7_work_5 : decode cX7_work 5 = .ok (.bipush 9, 2) := by decide +kernel
theorem dX7_work_7 : decode cX7_work 7 = .ok (.if_icmp .le 13, 3) := by decide +kernel
theorem dX7_work_10 : decode cX7_work 10 = .ok (.new 57, 3) := by decide +kernel
theorem dX7_work_13 : decode cX7_work 13 = .ok (.dup, 1) := by decide +kernel
theorem dX7_work_14 : decode cX7_work 14 = .ok (.ldc 59, 2) := by decide +kernel
theorem dX7_work_16 : decode cX7_work 16 = .ok (.invokespecial 61, 3) := by decide +kernel
theorem dX7_work_19 : decode cX7_work 19 = .ok (.athrow, 1) := by decide +kernel
theorem dX7_work_20 : decode cX7_work 20 = .ok (.iload_n 1, 1) := by decide +kernel
theorem dX7_work_21 : decode cX7_work 21 = .ok (.iload_n 2, 1) := by decide +kernel
theorem dX7_work_22 : decode cX7_work 22 = .ok (.invokestatic 64, 3) := by decide +kernel
theorem dX7_work_25 : decode cX7_work 25 = .ok (.iload_n 3, 1) := by decide +kernel
theorem dX7_work_26 : decode cX7_work 26 = .ok (.invokestatic 64, 3) := by decide +kernel
theorem dX7_work_29 : decode cX7_work 29 = .ok (.invokestatic 67, 3) := by decide +kernel
theorem dX7_work_32 : decode cX7_work 32 = .ok (.istore 4, 2) := by decide +kernel
theorem dX7_work_34 : decode cX7_work 34 = .ok (.iload 4, 2) := by decide +kernel
theorem dX7_work_36 : decode cX7_work 36 = .ok (.ifCond .ge 13, 3) := by decide +kernel
theorem dX7_work_39 : decode cX7_work 39 = .ok (.new 71, 3) := by decide +kernel
theorem dX7_work_42 : decode cX7_work 42 = .ok (.dup, 1) := by decide +kernel
theorem dX7_work_43 : decode cX7_work 43 = .ok (.ldc 73, 2) := by decide +kernel
theorem dX7_work_45 : decode cX7_work 45 = .ok (.invokespecial 75, 3) := by decide +kernel
theorem dX7_work_48 : decode cX7_work 48 = .ok (.athrow, 1) := by decide +kernel
theorem dX7_work_49 : decode cX7_work 49 = .ok (.iload 4, 2) := by decide +kernel
theorem dX7_work_51 : decode cX7_work 51 = .ok (.invokestatic 64, 3) := by decide +kernel
theorem dX7_work_54 : decode cX7_work 54 = .ok (.ireturn, 1) := by decide +kernel
theorem dX7_copy_0 : decode cX7_copy 0 = .ok (.aload_n 0, 1) := by decide +kernel
theorem dX7_copy_1 : decode cX7_copy 1 = .ok (.getfield 12, 3) := by decide +kernel
theorem dX7_copy_4 : decode cX7_copy 4 = .ok (.iload_n 1, 1) := by decide +kernel
theorem dX7_copy_5 : decode cX7_copy 5 = .ok (.invokestatic 76, 3) := by decide +kernel
theorem dX7_copy_8 : decode cX7_copy 8 = .ok (.iload_n 2, 1) := by decide +kernel
theorem dX7_copy_9 : decode cX7_copy 9 = .ok (.invokestatic 76, 3) := by decide +kernel
theorem dX7_copy_12 : decode cX7_copy 12 = .ok (.iload_n 3, 1) := by decide +kernel
theorem dX7_copy_13 : decode cX7_copy 13 = .ok (.invokestatic 64, 3) := by decide +kernel
theorem dX7_copy_16 : decode cX7_copy 16 = .ok (.invokevirtual 79, 3) := by decide +kernel
theorem dX7_copy_19 : decode cX7_copy 19 = .ok (.ireturn, 1) := by decide +kernel
theorem dX7_look_0 : decode cX7_look 0 = .ok (.iload 4, 2) := by decide +kernel
theorem dX7_look_2 : decode cX7_look 2 = .ok (.sipush 255, 3) := by decide +kernel
theorem dX7_look_5 : decode cX7_look 5 = .ok (.invokestatic 82, 3) := by decide +kernel
theorem dX7_look_8 : decode cX7_look 8 = .ok (.ifCond .ne 6, 3) := by decide +kernel
theorem dX7_look_11 : decode cX7_look 11 = .ok (.bipush (-2), 2) := by decide +kernel
theorem dX7_look_13 : decode cX7_look 13 = .ok (.ireturn, 1) := by decide +kernel
theorem dX7_look_14 : decode cX7_look 14 = .ok (.aload_n 0, 1) := by decide +kernel
theorem dX7_look_15 : decode cX7_look 15 = .ok (.getfield 12, 3) := by decide +kernel
theorem dX7_look_18 : decode cX7_look 18 = .ok (.iload_n 1, 1) := by decide +kernel
theorem dX7_look_19 : decode cX7_look 19 = .ok (.iload_n 2, 1) := by decide +kernel
theorem dX7_look_20 : decode cX7_look 20 = .ok (.iload_n 3, 1) := by decide +kernel
theorem dX7_look_21 : decode cX7_look 21 = .ok (.iload 4, 2) := by decide +kernel
theorem dX7_look_23 : decode cX7_look 23 = .ok (.invokevirtual 86, 3) := by decide +kernel
theorem dX7_look_26 : decode cX7_look 26 = .ok (.ireturn, 1) := by decide +kernel
theorem dX7_random_0 : decode cX7_random 0 = .ok (.aload_n 0, 1) := by decide +kernel
theorem dX7_random_1 : decode cX7_random 1 = .ok (.getfield 19, 3) := by decide +kernel
theorem dX7_random_4 : decode cX7_random 4 = .ok (.iload_n 1, 1) := by decide +kernel
theorem dX7_random_5 : decode cX7_random 5 = .ok (.invokestatic 64, 3) := by decide +kernel
theorem dX7_random_8 : decode cX7_random 8 = .ok (.invokevirtual 90, 3) := by decide +kernel
theorem dX7_random_11 : decode cX7_random 11 = .ok (.ireturn, 1) := by decide +kernel
theorem dX7_tape_0 : decode cX7_tape 0 = .ok (.iload_n 1, 1) := by decide +kernel
theorem dX7_tape_1 : decode cX7_tape 1 = .ok (.ldc 93, 2) := by decide +kernel
theorem dX7_tape_3 : decode cX7_tape 3 = .ok (.invokestatic 82, 3) := by decide +kernel
theorem dX7_tape_6 : decode cX7_tape 6 = .ok (.ifCond .ne 6, 3) := by decide +kernel
theorem dX7_tape_9 : decode cX7_tape 9 = .ok (.bipush (-2), 2) := by decide +kernel
theorem dX7_tape_11 : decode cX7_tape 11 = .ok (.ireturn, 1) := by decide +kernel
theorem dX7_tape_12 : decode cX7_tape 12 = .ok (.aload_n 0, 1) := by decide +kernel
theorem dX7_tape_13 : decode cX7_tape 13 = .ok (.getfield 19, 3) := by decide +kernel
theorem dX7_tape_16 : decode cX7_tape 16 = .ok (.iload_n 1, 1) := by decide +kernel
theorem dX7_tape_17 : decode cX7_tape 17 = .ok (.invokevirtual 94, 3) := by decide +kernel
theorem dX7_tape_20 : decode cX7_tape 20 = .ok (.ireturn, 1) := by decide +kernel
theorem dX7_globe_0 : decode cX7_globe 0 = .ok (.iload_n 1, 1) := by decide +kernel
theorem dX7_globe_1 : decode cX7_globe 1 = .ok (.ldc 93, 2) := by decide +kernel
theorem dX7_globe_3 : decode cX7_globe 3 = .ok (.invokestatic 82, 3) := by decide +kernel
theorem dX7_globe_6 : decode cX7_globe 6 = .ok (.ifCond .ne 6, 3) := by decide +kernel
theorem dX7_globe_9 : decode cX7_globe 9 = .ok (.bipush (-2), 2) := by decide +kernel
theorem dX7_globe_11 : decode cX7_globe 11 = .ok (.ireturn, 1) := by decide +kernel
theorem dX7_globe_12 : decode cX7_globe 12 = .ok (.aload_n 0, 1) := by decide +kernel
theorem dX7_globe_13 : decode cX7_globe 13 = .ok (.getfield 35, 3) := by decide +kernel
theorem dX7_globe_16 : decode cX7_globe 16 = .ok (.getfield 97, 3) := by decide +kernel
theorem dX7_globe_19 : decode cX7_globe 19 = .ok (.istore_n 2, 1) := by decide +kernel
theorem dX7_globe_20 : decode cX7_globe 20 = .ok (.aload_n 0, 1) := by decide +kernel
theorem dX7_globe_21 : decode cX7_globe 21 = .ok (.getfield 35, 3) := by decide +kernel
theorem dX7_globe_24 : decode cX7_globe 24 = .ok (.iload_n 1, 1) := by decide +kernel
theorem dX7_globe_25 : decode cX7_globe 25 = .ok (.putfield 97, 3) := by decide +kernel
theorem dX7_globe_28 : decode cX7_globe 28 = .ok (.iload_n 2, 1) := by decide +kernel
theorem dX7_globe_29 : decode cX7_globe 29 = .ok (.ireturn, 1) := by decide +kernel
theorem dX7_form_0 : decode cX7_form 0 = .ok (.iload_n 1, 1) := by decide +kernel
theorem dX7_form_1 : decode cX7_form 1 = .ok (.sipush 255, 3) := by decide +kernel
theorem dX7_form_4 : decode cX7_form 4 = .ok (.invokestatic 82, 3) := by decide +kernel
theorem dX7_form_7 : decode cX7_form 7 = .ok (.ifCond .ne 6, 3) := by decide +kernel
theorem dX7_form_10 : decode cX7_form 10 = .ok (.bipush (-2), 2) := by decide +kernel
theorem dX7_form_12 : decode cX7_form 12 = .ok (.ireturn, 1) := by decide +kernel
theorem dX7_form_13 : decode cX7_form 13 = .ok (.aload_n 0, 1) := by decide +kernel
theorem dX7_form_14 : decode cX7_form 14 = .ok (.getfield 35, 3) := by decide +kernel
theorem dX7_form_17 : decode cX7_form 17 = .ok (.getfield 101, 3) := by decide +kernel
theorem dX7_form_20 : decode cX7_form 20 = .ok (.istore_n 2, 1) := by decide +kernel
theorem dX7_form_21 : decode cX7_form 21 = .ok (.aload_n 0, 1) := by decide +kernel
theorem dX7_form_22 : decode cX7_form 22 = .ok (.getfield 35, 3) := by decide +kernel
theorem dX7_form_25 : decode cX7_form 25 = .ok (.iload_n 1, 1) := by decide +kernel
theorem dX7_form_26 : decode cX7_form 26 = .ok (.putfield 101, 3) := by decide +kernel
theorem dX7_form_29 : decode cX7_form 29 = .ok (.iload_n 2, 1) := by decide +kernel
theorem dX7_form_30 : decode cX7_form 30 = .ok (.ireturn, 1) := by decide +kernel
theorem dX7_instruction_0 : decode cX7_instruction 0 = .ok (.iload_n 2, 1) := by decide +kernel
theorem dX7_instruction_1 : decode cX7_instruction 1 = .ok (.invokestatic 104, 3) := by decide +kernel
theorem dX7_instruction_4 : decode cX7_instruction 4 = .ok (.ifCond .eq 18, 3) := by decide +kernel
theorem dX7_instruction_7 : decode cX7_instruction 7 = .ok (.iload_n 3, 1) := by decide +kernel
theorem dX7_instruction_8 : decode cX7_instruction 8 = .ok (.invokestatic 104, 3) := by decide +kernel
theorem dX7_instruction_11 : decode cX7_instruction 11 = .ok (.ifCond .eq 11, 3) := by decide +kernel
theorem dX7_instruction_14 : decode cX7_instruction 14 = .ok (.iload 4, 2) := by decide +kernel
theorem dX7_instruction_16 : decode cX7_instruction 16 = .ok (.invokestatic 104, 3) := by decide +kernel
theorem dX7_instruction_19 : decode cX7_instruction 19 = .ok (.ifCond .ne 6, 3) := by decide +kernel
theorem dX7_instruction_22 : decode cX7_instruction 22 = .ok (.bipush (-2), 2) := by decide +kernel
theorem dX7_instruction_24 : decode cX7_instruction 24 = .ok (.ireturn, 1) := by decide +kernel
theorem dX7_instruction_25 : decode cX7_instruction 25 = .ok (.iload 5, 2) := by decide +kernel
theorem dX7_instruction_27 : decode cX7_instruction 27 = .ok (.iconst (-1), 1) := by decide +kernel
theorem dX7_instruction_28 : decode cX7_instruction 28 = .ok (.if_icmp .lt 11, 3) := by decide +kernel
theorem dX7_instruction_31 : decode cX7_instruction 31 = .ok (.iload 5, 2) := by decide +kernel
theorem dX7_instruction_33 : decode cX7_instruction 33 = .ok (.sipush 255, 3) := by decide +kernel
theorem dX7_instruction_36 : decode cX7_instruction 36 = .ok (.if_icmp .le 6, 3) := by decide +kernel
theorem dX7_instruction_39 : decode cX7_instruction 39 = .ok (.bipush (-2), 2) := by decide +kernel
theorem dX7_instruction_41 : decode cX7_instruction 41 = .ok (.ireturn, 1) := by decide +kernel
theorem dX7_instruction_42 : decode cX7_instruction 42 = .ok (.aload_n 0, 1) := by decide +kernel
theorem dX7_instruction_43 : decode cX7_instruction 43 = .ok (.getfield 26, 3) := by decide +kernel
theorem dX7_instruction_46 : decode cX7_instruction 46 = .ok (.iload_n 1, 1) := by decide +kernel
theorem dX7_instruction_47 : decode cX7_instruction 47 = .ok (.iload_n 2, 1) := by decide +kernel
theorem dX7_instruction_48 : decode cX7_instruction 48 = .ok (.iload_n 3, 1) := by decide +kernel
theorem dX7_instruction_49 : decode cX7_instruction 49 = .ok (.iload 4, 2) := by decide +kernel
theorem dX7_instruction_51 : decode cX7_instruction 51 = .ok (.iload 5, 2) := by decide +kernel
theorem dX7_instruction_53 : decode cX7_instruction 53 = .ok (.invokevirtual 108, 3) := by decide +kernel
theorem dX7_instruction_56 : decode cX7_instruction 56 = .ok (.ireturn, 1) := by decide +kernel
theorem dX7_routine_0 : decode cX7_routine 0 = .ok (.iload_n 1, 1) := by decide +kernel
theorem dX7_routine_1 : decode cX7_routine 1 = .ok (.bipush 7, 2) := by decide +kernel
theorem dX7_routine_3 : decode cX7_routine 3 = .ok (.invokestatic 82, 3) := by decide +kernel
theorem dX7_routine_6 : decode cX7_routine 6 = .ok (.ifCond .ne 5, 3) := by decide +kernel
theorem dX7_routine_9 : decode cX7_routine 9 = .ok (.iconst (-1), 1) := by decide +kernel
theorem dX7_routine_10 : decode cX7_routine 10 = .ok (.ireturn, 1) := by decide +kernel
theorem dX7_routine_11 : decode cX7_routine 11 = .ok (.iload_n 2, 1) := by decide +kernel
theorem dX7_routine_12 : decode cX7_routine 12 = .ok (.bipush 99, 2) := by decide +kernel
theorem dX7_routine_14 : decode cX7_routine 14 = .ok (.invokestatic 82, 3) := by decide +kernel
theorem dX7_routine_17 : decode cX7_routine 17 = .ok (.ifCond .eq 12, 3) := by decide +kernel
theorem dX7_routine_20 : decode cX7_routine 20 = .ok (.iload_n 3, 1) := by decide +kernel
theorem dX7_routine_21 : decode cX7_routine 21 = .ok (.bipush 15, 2) := by decide +kernel
theorem dX7_routine_23 : decode cX7_routine 23 = .ok (.invokestatic 82, 3) := by decide +kernel
theorem dX7_routine_26 : decode cX7_routine 26 = .ok (.ifCond .ne 6, 3) := by decide +kernel
theorem dX7_routine_29 : decode cX7_routine 29 = .ok (.bipush (-2), 2) := by decide +kernel
theorem dX7_routine_31 : decode cX7_routine 31 = .ok (.ireturn, 1) := by decide +kernel
theorem dX7_routine_32 : decode cX7_routine 32 = .ok (.aload_n 0, 1) := by decide +kernel
theorem dX7_routine_33 : decode cX7_routine 33 = .ok (.getfield 26, 3) := by decide +kernel
theorem dX7_routine_36 : decode cX7_routine 36 = .ok (.iload_n 1, 1) := by decide +kernel
theorem dX7_routine_37 : decode cX7_routine 37 = .ok (.iload_n 2, 1) := by decide +kernel
theorem dX7_routine_38 : decode cX7_routine 38 = .ok (.iload_n 3, 1) := by decide +kernel
theorem dX7_routine_39 : decode cX7_routine 39 = .ok (.iload 4, 2) := by decide +kernel
theorem dX7_routine_41 : decode cX7_routine 41 = .ok (.invokevirtual 112, 3) := by decide +kernel
theorem dX7_routine_44 : decode cX7_routine 44 = .ok (.iconst 1, 1) := by decide +kernel
theorem dX7_routine_45 : decode cX7_routine 45 = .ok (.ireturn, 1) := by decide +kernel
theorem dX7_clear_0 : decode cX7_clear 0 = .ok (.aload_n 0, 1) := by decide +kernel
theorem dX7_clear_1 : decode cX7_clear 1 = .ok (.getfield 26, 3) := by decide +kernel
theorem dX7_clear_4 : decode cX7_clear 4 = .ok (.invokevirtual 116, 3) := by decide +kernel
theorem dX7_clear_7 : decode cX7_clear 7 = .ok (.ireturn, 1) := by decide +kernel
theorem dX7_run_0 : decode cX7_run 0 = .ok (.aload_n 0, 1) := by decide +kernel
theorem dX7_run_1 : decode cX7_run 1 = .ok (.getfield 26, 3) := by decide +kernel
theorem dX7_run_4 : decode cX7_run 4 = .ok (.iload_n 1, 1) := by decide +kernel
theorem dX7_run_5 : decode cX7_run 5 = .ok (.invokevirtual 120, 3) := by decide +kernel
theorem dX7_run_8 : decode cX7_run 8 = .ok (.ifCond .ne 5, 3) := by decide +kernel
theorem dX7_run_11 : decode cX7_run 11 = .ok (.iconst (-1), 1) := by decide +kernel
theorem dX7_run_12 : decode cX7_run 12 = .ok (.ireturn, 1) := by decide +kernel
theorem dX7_run_13 : decode cX7_run 13 = .ok (.aload_n 0, 1) := by decide +kernel
theorem dX7_run_14 : decode cX7_run 14 = .ok (.getfield 35, 3) := by decide +kernel
theorem dX7_run_17 : decode cX7_run 17 = .ok (.iload_n 1, 1) := by decide +kernel
theorem dX7_run_18 : decode cX7_run 18 = .ok (.iload_n 2, 1) := by decide +kernel
theorem dX7_run_19 : decode cX7_run 19 = .ok (.invokestatic 76, 3) := by decide +kernel
theorem dX7_run_22 : decode cX7_run 22 = .ok (.iload_n 3, 1) := by decide +kernel
theorem dX7_run_23 : decode cX7_run 23 = .ok (.invokestatic 76, 3) := by decide +kernel
theorem dX7_run_26 : decode cX7_run 26 = .ok (.invokevirtual 123, 3) := by decide +kernel
theorem dX7_run_29 : decode cX7_run 29 = .ok (.iconst 0, 1) := by decide +kernel
theorem dX7_run_30 : decode cX7_run 30 = .ok (.istore 4, 2) := by decide +kernel
theorem dX7_run_32 : decode cX7_run 32 = .ok (.iload 4, 2) := by decide +kernel
theorem dX7_run_34 : decode cX7_run 34 = .ok (.sipush 300, 3) := by decide +kernel
theorem dX7_run_37 : decode cX7_run 37 = .ok (.if_icmp .ge 33, 3) := by decide +kernel
theorem dX7_run_40 : decode cX7_run 40 = .ok (.aload_n 0, 1) := by decide +kernel
theorem dX7_run_41 : decode cX7_run 41 = .ok (.getfield 35, 3) := by decide +kernel
theorem dX7_run_44 : decode cX7_run 44 = .ok (.invokevirtual 126, 3) := by decide +kernel
theorem dX7_run_47 : decode cX7_run 47 = .ok (.ifCond .eq 23, 3) := by decide +kernel
theorem dX7_run_50 : decode cX7_run 50 = .ok (.aload_n 0, 1) := by decide +kernel
theorem dX7_run_51 : decode cX7_run 51 = .ok (.getfield 35, 3) := by decide +kernel
theorem dX7_run_54 : decode cX7_run 54 = .ok (.aload_n 0, 1) := by decide +kernel
theorem dX7_run_55 : decode cX7_run 55 = .ok (.getfield 35, 3) := by decide +kernel
theorem dX7_run_58 : decode cX7_run 58 = .ok (.invokevirtual 130, 3) := by decide +kernel
theorem dX7_run_61 : decode cX7_run 61 = .ok (.invokevirtual 133, 3) := by decide +kernel
theorem dX7_run_64 : decode cX7_run 64 = .ok (.iinc 4 1, 3) := by decide +kernel
theorem dX7_run_67 : decode cX7_run 67 = .ok (.goto (-35), 3) := by decide +kernel
theorem dX7_run_70 : decode cX7_run 70 = .ok (.aload_n 0, 1) := by decide +kernel
theorem dX7_run_71 : decode cX7_run 71 = .ok (.getfield 35, 3) := by decide +kernel
theorem dX7_run_74 : decode cX7_run 74 = .ok (.invokevirtual 137, 3) := by decide +kernel
theorem dX7_run_77 : decode cX7_run 77 = .ok (.ireturn, 1) := by decide +kernel
theorem dX7_told_0 : decode cX7_told 0 = .ok (.iload_n 1, 1) := by decide +kernel
theorem dX7_told_1 : decode cX7_told 1 = .ok (.tableswitch 132 0 8 #[51, 59, 70, 78, 86, 94, 105, 116, 124], 51) := by decide +kernel
theorem dX7_told_52 : decode cX7_told 52 = .ok (.aload_n 0, 1) := by decide +kernel
theorem dX7_told_53 : decode cX7_told 53 = .ok (.getfield 35, 3) := by decide +kernel
theorem dX7_told_56 : decode cX7_told 56 = .ok (.getfield 140, 3) := by decide +kernel
theorem dX7_told_59 : decode cX7_told 59 = .ok (.ireturn, 1) := by decide +kernel
theorem dX7_told_60 : decode cX7_told 60 = .ok (.aload_n 0, 1) := by decide +kernel
theorem dX7_told_61 : decode cX7_told 61 = .ok (.getfield 35, 3) := by decide +kernel
theorem dX7_told_64 : decode cX7_told 64 = .ok (.getfield 143, 3) := by decide +kernel
theorem dX7_told_67 : decode cX7_told 67 = .ok (.invokestatic 64, 3) := by decide +kernel
theorem dX7_told_70 : decode cX7_told 70 = .ok (.ireturn, 1) := by decide +kernel
theorem dX7_told_71 : decode cX7_told 71 = .ok (.aload_n 0, 1) := by decide +kernel
theorem dX7_told_72 : decode cX7_told 72 = .ok (.getfield 35, 3) := by decide +kernel
theorem dX7_told_75 : decode cX7_told 75 = .ok (.getfield 146, 3) := by decide +kernel
theorem dX7_told_78 : decode cX7_told 78 = .ok (.ireturn, 1) := by decide +kernel
theorem dX7_told_79 : decode cX7_told 79 = .ok (.aload_n 0, 1) := by decide +kernel
theorem dX7_told_80 : decode cX7_told 80 = .ok (.getfield 35, 3) := by decide +kernel
theorem dX7_told_83 : decode cX7_told 83 = .ok (.getfield 149, 3) := by decide +kernel
theorem dX7_told_86 : decode cX7_told 86 = .ok (.ireturn, 1) := by decide +kernel
theorem dX7_told_87 : decode cX7_told 87 = .ok (.aload_n 0, 1) := by decide +kernel
theorem dX7_told_88 : decode cX7_told 88 = .ok (.getfield 35, 3) := by decide +kernel
theorem dX7_told_91 : decode cX7_told 91 = .ok (.getfield 152, 3) := by decide +kernel
theorem dX7_told_94 : decode cX7_told 94 = .ok (.ireturn, 1) := by decide +kernel
theorem dX7_told_95 : decode cX7_told 95 = .ok (.aload_n 0, 1) := by decide +kernel
theorem dX7_told_96 : decode cX7_told 96 = .ok (.getfield 35, 3) := by decide +kernel
theorem dX7_told_99 : decode cX7_told 99 = .ok (.getfield 155, 3) := by decide +kernel
theorem dX7_told_102 : decode cX7_told 102 = .ok (.getfield 159, 3) := by decide +kernel
theorem dX7_told_105 : decode cX7_told 105 = .ok (.ireturn, 1) := by decide +kernel
theorem dX7_told_106 : decode cX7_told 106 = .ok (.aload_n 0, 1) := by decide +kernel
theorem dX7_told_107 : decode cX7_told 107 = .ok (.getfield 35, 3) := by decide +kernel
theorem dX7_told_110 : decode cX7_told 110 = .ok (.getfield 164, 3) := by decide +kernel
theorem dX7_told_113 : decode cX7_told 113 = .ok (.getfield 168, 3) := by decide +kernel
theorem dX7_told_116 : decode cX7_told 116 = .ok (.ireturn, 1) := by decide +kernel
theorem dX7_told_117 : decode cX7_told 117 = .ok (.aload_n 0, 1) := by decide +kernel
theorem dX7_told_118 : decode cX7_told 118 = .ok (.getfield 26, 3) := by decide +kernel
theorem dX7_told_121 : decode cX7_told 121 = .ok (.getfield 173, 3) := by decide +kernel
theorem dX7_told_124 : decode cX7_told 124 = .ok (.ireturn, 1) := by decide +kernel
theorem dX7_told_125 : decode cX7_told 125 = .ok (.aload_n 0, 1) := by decide +kernel
theorem dX7_told_126 : decode cX7_told 126 = .ok (.getfield 19, 3) := by decide +kernel
theorem dX7_told_129 : decode cX7_told 129 = .ok (.getfield 174, 3) := by decide +kernel
theorem dX7_told_132 : decode cX7_told 132 = .ok (.ireturn, 1) := by decide +kernel
theorem dX7_told_133 : decode cX7_told 133 = .ok (.bipush (-2), 2) := by decide +kernel
theorem dX7_told_135 : decode cX7_told 135 = .ok (.ireturn, 1) := by decide +kernel
theorem dX7_printed_0 : decode cX7_printed 0 = .ok (.aload_n 0, 1) := by decide +kernel
theorem dX7_printed_1 : decode cX7_printed 1 = .ok (.getfield 35, 3) := by decide +kernel
theorem dX7_printed_4 : decode cX7_printed 4 = .ok (.getfield 155, 3) := by decide +kernel
theorem dX7_printed_7 : decode cX7_printed 7 = .ok (.iload_n 1, 1) := by decide +kernel
theorem dX7_printed_8 : decode cX7_printed 8 = .ok (.invokevirtual 177, 3) := by decide +kernel
theorem dX7_printed_11 : decode cX7_printed 11 = .ok (.istore_n 2, 1) := by decide +kernel
theorem dX7_printed_12 : decode cX7_printed 12 = .ok (.iload_n 2, 1) := by decide +kernel
theorem dX7_printed_13 : decode cX7_printed 13 = .ok (.ifCond .ge 13, 3) := by decide +kernel
theorem dX7_printed_16 : decode cX7_printed 16 = .ok (.new 180, 3) := by decide +kernel
theorem dX7_printed_19 : decode cX7_printed 19 = .ok (.dup, 1) := by decide +kernel
theorem dX7_printed_20 : decode cX7_printed 20 = .ok (.ldc 182, 2) := by decide +kernel
theorem dX7_printed_22 : decode cX7_printed 22 = .ok (.invokespecial 184, 3) := by decide +kernel
theorem dX7_printed_25 : decode cX7_printed 25 = .ok (.athrow, 1) := by decide +kernel
theorem dX7_printed_26 : decode cX7_printed 26 = .ok (.iload_n 2, 1) := by decide +kernel
theorem dX7_printed_27 : decode cX7_printed 27 = .ok (.ireturn, 1) := by decide +kernel
theorem dX7_left_0 : decode cX7_left 0 = .ok (.iload_n 1, 1) := by decide +kernel
theorem dX7_left_1 : decode cX7_left 1 = .ok (.bipush 7, 2) := by decide +kernel
theorem dX7_left_3 : decode cX7_left 3 = .ok (.invokestatic 82, 3) := by decide +kernel
theorem dX7_left_6 : decode cX7_left 6 = .ok (.ifCond .eq 15, 3) := by decide +kernel
theorem dX7_left_9 : decode cX7_left 9 = .ok (.aload_n 0, 1) := by decide +kernel
theorem dX7_left_10 : decode cX7_left 10 = .ok (.getfield 35, 3) := by decide +kernel
theorem dX7_left_13 : decode cX7_left 13 = .ok (.getfield 185, 3) := by decide +kernel
theorem dX7_left_16 : decode cX7_left 16 = .ok (.iload_n 1, 1) := by decide +kernel
theorem dX7_left_17 : decode cX7_left 17 = .ok (.iaload, 1) := by decide +kernel
theorem dX7_left_18 : decode cX7_left 18 = .ok (.goto 4, 3) := by decide +kernel
theorem dX7_left_21 : decode cX7_left 21 = .ok (.iconst (-1), 1) := by decide +kernel
theorem dX7_left_22 : decode cX7_left 22 = .ok (.ireturn, 1) := by decide +kernel
theorem dX7_isWithin_0 : decode cX7_isWithin 0 = .ok (.iload_n 0, 1) := by decide +kernel
theorem dX7_isWithin_1 : decode cX7_isWithin 1 = .ok (.ifCond .lt 12, 3) := by decide +kernel
theorem dX7_isWithin_4 : decode cX7_isWithin 4 = .ok (.iload_n 0, 1) := by decide +kernel
theorem dX7_isWithin_5 : decode cX7_isWithin 5 = .ok (.iload_n 1, 1) := by decide +kernel
theorem dX7_isWithin_6 : decode cX7_isWithin 6 = .ok (.if_icmp .gt 7, 3) := by decide +kernel
theorem dX7_isWithin_9 : decode cX7_isWithin 9 = .ok (.iconst 1, 1) := by decide +kernel
theorem dX7_isWithin_10 : decode cX7_isWithin 10 = .ok (.goto 4, 3) := by decide +kernel
theorem dX7_isWithin_13 : decode cX7_isWithin 13 = .ok (.iconst 0, 1) := by decide +kernel
theorem dX7_isWithin_14 : decode cX7_isWithin 14 = .ok (.ireturn, 1) := by decide +kernel
theorem dX7_isOperand_0 : decode cX7_isOperand 0 = .ok (.iload_n 0, 1) := by decide +kernel
theorem dX7_isOperand_1 : decode cX7_isOperand 1 = .ok (.sipush (-256), 3) := by decide +kernel
theorem dX7_isOperand_4 : decode cX7_isOperand 4 = .ok (.if_icmp .lt 13, 3) := by decide +kernel
theorem dX7_isOperand_7 : decode cX7_isOperand 7 = .ok (.iload_n 0, 1) := by decide +kernel
theorem dX7_isOperand_8 : decode cX7_isOperand 8 = .ok (.ldc 93, 2) := by decide +kernel
theorem dX7_isOperand_10 : decode cX7_isOperand 10 = .ok (.if_icmp .gt 7, 3) := by decide +kernel
theorem dX7_isOperand_13 : decode cX7_isOperand 13 = .ok (.iconst 1, 1) := by decide +kernel
theorem dX7_isOperand_14 : decode cX7_isOperand 14 = .ok (.goto 4, 3) := by decide +kernel
theorem dX7_isOperand_17 : decode cX7_isOperand 17 = .ok (.iconst 0, 1) := by decide +kernel
theorem dX7_isOperand_18 : decode cX7_isOperand 18 = .ok (.ireturn, 1) := by decide +kernel
theorem dX7_word_0 : decode cX7_word 0 = .ok (.iload_n 0, 1) := by decide +kernel
theorem dX7_word_1 : decode cX7_word 1 = .ok (.ldc 93, 2) := by decide +kernel
theorem dX7_word_3 : decode cX7_word 3 = .ok (.iand, 1) := by decide +kernel
theorem dX7_word_4 : decode cX7_word 4 = .ok (.ireturn, 1) := by decide +kernel
theorem dX7_number_0 : decode cX7_number 0 = .ok (.iload_n 0, 1) := by decide +kernel
theorem dX7_number_1 : decode cX7_number 1 = .ok (.i2s, 1) := by decide +kernel
theorem dX7_number_2 : decode cX7_number 2 = .ok (.ireturn, 1) := by decide +kernel
theorem dX7_arithmetic_0 : decode cX7_arithmetic 0 = .ok (.iload_n 0, 1) := by decide +kernel
theorem dX7_arithmetic_1 : decode cX7_arithmetic 1 = .ok (.tableswitch 144 0 9 #[55, 62, 69, 76, 92, 108, 115, 122, 129, 135], 55) := by decide +kernel
theorem dX7_arithmetic_56 : decode cX7_arithmetic 56 = .ok (.iload_n 1, 1) := by decide +kernel
theorem dX7_arithmetic_57 : decode cX7_arithmetic 57 = .ok (.iload_n 2, 1) := by decide +kernel
theorem dX7_arithmetic_58 : decode cX7_arithmetic 58 = .ok (.iadd, 1) := by decide +kernel
theorem dX7_arithmetic_59 : decode cX7_arithmetic 59 = .ok (.invokestatic 76, 3) := by decide +kernel
theorem dX7_arithmetic_62 : decode cX7_arithmetic 62 = .ok (.ireturn, 1) := by decide +kernel
theorem dX7_arithmetic_63 : decode cX7_arithmetic 63 = .ok (.iload_n 1, 1) := by decide +kernel
theorem dX7_arithmetic_64 : decode cX7_arithmetic 64 = .ok (.iload_n 2, 1) := by decide +kernel
theorem dX7_arithmetic_65 : decode cX7_arithmetic 65 = .ok (.isub, 1) := by decide +kernel
theorem dX7_arithmetic_66 : decode cX7_arithmetic 66 = .ok (.invokestatic 76, 3) := by decide +kernel
theorem dX7_arithmetic_69 : decode cX7_arithmetic 69 = .ok (.ireturn, 1) := by decide +kernel
theorem dX7_arithmetic_70 : decode cX7_arithmetic 70 = .ok (.iload_n 1, 1) := by decide +kernel
theorem dX7_arithmetic_71 : decode cX7_arithmetic 71 = .ok (.iload_n 2, 1) := by decide +kernel
theorem dX7_arithmetic_72 : decode cX7_arithmetic 72 = .ok (.imul, 1) := by decide +kernel
theorem dX7_arithmetic_73 : decode cX7_arithmetic 73 = .ok (.invokestatic 76, 3) := by decide +kernel
theorem dX7_arithmetic_76 : decode cX7_arithmetic 76 = .ok (.ireturn, 1) := by decide +kernel
theorem dX7_arithmetic_77 : decode cX7_arithmetic 77 = .ok (.iload_n 2, 1) := by decide +kernel
theorem dX7_arithmetic_78 : decode cX7_arithmetic 78 = .ok (.ifCond .ne 8, 3) := by decide +kernel
theorem dX7_arithmetic_81 : decode cX7_arithmetic 81 = .ok (.bipush (-11), 2) := by decide +kernel
theorem dX7_arithmetic_83 : decode cX7_arithmetic 83 = .ok (.goto 9, 3) := by decide +kernel
theorem dX7_arithmetic_86 : decode cX7_arithmetic 86 = .ok (.iload_n 1, 1) := by decide +kernel
theorem dX7_arithmetic_87 : decode cX7_arithmetic 87 = .ok (.iload_n 2, 1) := by decide +kernel
theorem dX7_arithmetic_88 : decode cX7_arithmetic 88 = .ok (.idiv, 1) := by decide +kernel
theorem dX7_arithmetic_89 : decode cX7_arithmetic 89 = .ok (.invokestatic 76, 3) := by decide +kernel
theorem dX7_arithmetic_92 : decode cX7_arithmetic 92 = .ok (.ireturn, 1) := by decide +kernel
theorem dX7_arithmetic_93 : decode cX7_arithmetic 93 = .ok (.iload_n 2, 1) := by decide +kernel
theorem dX7_arithmetic_94 : decode cX7_arithmetic 94 = .ok (.ifCond .ne 8, 3) := by decide +kernel
theorem dX7_arithmetic_97 : decode cX7_arithmetic 97 = .ok (.bipush (-11), 2) := by decide +kernel
theorem dX7_arithmetic_99 : decode cX7_arithmetic 99 = .ok (.goto 9, 3) := by decide +kernel
theorem dX7_arithmetic_102 : decode cX7_arithmetic 102 = .ok (.iload_n 1, 1) := by decide +kernel
theorem dX7_arithmetic_103 : decode cX7_arithmetic 103 = .ok (.iload_n 2, 1) := by decide +kernel
theorem dX7_arithmetic_104 : decode cX7_arithmetic 104 = .ok (.irem, 1) := by decide +kernel
theorem dX7_arithmetic_105 : decode cX7_arithmetic 105 = .ok (.invokestatic 76, 3) := by decide +kernel
theorem dX7_arithmetic_108 : decode cX7_arithmetic 108 = .ok (.ireturn, 1) := by decide +kernel
theorem dX7_arithmetic_109 : decode cX7_arithmetic 109 = .ok (.iload_n 1, 1) := by decide +kernel
theorem dX7_arithmetic_110 : decode cX7_arithmetic 110 = .ok (.iload_n 2, 1) := by decide +kernel
theorem dX7_arithmetic_111 : decode cX7_arithmetic 111 = .ok (.iand, 1) := by decide +kernel
theorem dX7_arithmetic_112 : decode cX7_arithmetic 112 = .ok (.invokestatic 76, 3) := by decide +kernel
theorem dX7_arithmetic_115 : decode cX7_arithmetic 115 = .ok (.ireturn, 1) := by decide +kernel
theorem dX7_arithmetic_116 : decode cX7_arithmetic 116 = .ok (.iload_n 1, 1) := by decide +kernel
theorem dX7_arithmetic_117 : decode cX7_arithmetic 117 = .ok (.iload_n 2, 1) := by decide +kernel
theorem dX7_arithmetic_118 : decode cX7_arithmetic 118 = .ok (.ior, 1) := by decide +kernel
theorem dX7_arithmetic_119 : decode cX7_arithmetic 119 = .ok (.invokestatic 76, 3) := by decide +kernel
theorem dX7_arithmetic_122 : decode cX7_arithmetic 122 = .ok (.ireturn, 1) := by decide +kernel
theorem dX7_arithmetic_123 : decode cX7_arithmetic 123 = .ok (.iload_n 1, 1) := by decide +kernel
theorem dX7_arithmetic_124 : decode cX7_arithmetic 124 = .ok (.iconst (-1), 1) := by decide +kernel
theorem dX7_arithmetic_125 : decode cX7_arithmetic 125 = .ok (.ixor, 1) := by decide +kernel
theorem dX7_arithmetic_126 : decode cX7_arithmetic 126 = .ok (.invokestatic 76, 3) := by decide +kernel
theorem dX7_arithmetic_129 : decode cX7_arithmetic 129 = .ok (.ireturn, 1) := by decide +kernel
theorem dX7_arithmetic_130 : decode cX7_arithmetic 130 = .ok (.iload_n 1, 1) := by decide +kernel
theorem dX7_arithmetic_131 : decode cX7_arithmetic 131 = .ok (.iload_n 2, 1) := by decide +kernel
theorem dX7_arithmetic_132 : decode cX7_arithmetic 132 = .ok (.invokestatic 189, 3) := by decide +kernel
theorem dX7_arithmetic_135 : decode cX7_arithmetic 135 = .ok (.ireturn, 1) := by decide +kernel
theorem dX7_arithmetic_136 : decode cX7_arithmetic 136 = .ok (.iload_n 1, 1) := by decide +kernel
theorem dX7_arithmetic_137 : decode cX7_arithmetic 137 = .ok (.invokestatic 76, 3) := by decide +kernel
theorem dX7_arithmetic_140 : decode cX7_arithmetic 140 = .ok (.iload_n 2, 1) := by decide +kernel
theorem dX7_arithmetic_141 : decode cX7_arithmetic 141 = .ok (.invokestatic 193, 3) := by decide +kernel
theorem dX7_arithmetic_144 : decode cX7_arithmetic 144 = .ok (.ireturn, 1) := by decide +kernel
theorem dX7_arithmetic_145 : decode cX7_arithmetic 145 = .ok (.bipush (-20), 2) := by decide +kernel
theorem dX7_arithmetic_147 : decode cX7_arithmetic 147 = .ok (.ireturn, 1) := by decide +kernel
theorem dX7_shiftNumber_0 : decode cX7_shiftNumber 0 = .ok (.iload_n 1, 1) := by decide +kernel
theorem dX7_shiftNumber_1 : decode cX7_shiftNumber 1 = .ok (.ifCond .le 14, 3) := by decide +kernel
theorem dX7_shiftNumber_4 : decode cX7_shiftNumber 4 = .ok (.iload_n 0, 1) := by decide +kernel
theorem dX7_shiftNumber_5 : decode cX7_shiftNumber 5 = .ok (.iload_n 1, 1) := by decide +kernel
theorem dX7_shiftNumber_6 : decode cX7_shiftNumber 6 = .ok (.bipush 15, 2) := by decide +kernel
theorem dX7_shiftNumber_8 : decode cX7_shiftNumber 8 = .ok (.invokestatic 196, 3) := by decide +kernel
theorem dX7_shiftNumber_11 : decode cX7_shiftNumber 11 = .ok (.ishl, 1) := by decide +kernel
theorem dX7_shiftNumber_12 : decode cX7_shiftNumber 12 = .ok (.goto 12, 3) := by decide +kernel
theorem dX7_shiftNumber_15 : decode cX7_shiftNumber 15 = .ok (.iload_n 0, 1) := by decide +kernel
theorem dX7_shiftNumber_16 : decode cX7_shiftNumber 16 = .ok (.iload_n 1, 1) := by decide +kernel
theorem dX7_shiftNumber_17 : decode cX7_shiftNumber 17 = .ok (.ineg, 1) := by decide +kernel
theorem dX7_shiftNumber_18 : decode cX7_shiftNumber 18 = .ok (.bipush 15, 2) := by decide +kernel
theorem dX7_shiftNumber_20 : decode cX7_shiftNumber 20 = .ok (.invokestatic 196, 3) := by decide +kernel
theorem dX7_shiftNumber_23 : decode cX7_shiftNumber 23 = .ok (.ishr, 1) := by decide +kernel
theorem dX7_shiftNumber_24 : decode cX7_shiftNumber 24 = .ok (.invokestatic 76, 3) := by decide +kernel
theorem dX7_shiftNumber_27 : decode cX7_shiftNumber 27 = .ok (.ireturn, 1) := by decide +kernel
theorem dX7_shiftBits_0 : decode cX7_shiftBits 0 = .ok (.iload_n 1, 1) := by decide +kernel
theorem dX7_shiftBits_1 : decode cX7_shiftBits 1 = .ok (.bipush 15, 2) := by decide +kernel
theorem dX7_shiftBits_3 : decode cX7_shiftBits 3 = .ok (.if_icmp .gt 9, 3) := by decide +kernel
theorem dX7_shiftBits_6 : decode cX7_shiftBits 6 = .ok (.iload_n 1, 1) := by decide +kernel
theorem dX7_shiftBits_7 : decode cX7_shiftBits 7 = .ok (.bipush (-15), 2) := by decide +kernel
theorem dX7_shiftBits_9 : decode cX7_shiftBits 9 = .ok (.if_icmp .ge 5, 3) := by decide +kernel
theorem dX7_shiftBits_12 : decode cX7_shiftBits 12 = .ok (.iconst 0, 1) := by decide +kernel
theorem dX7_shiftBits_13 : decode cX7_shiftBits 13 = .ok (.ireturn, 1) := by decide +kernel
theorem dX7_shiftBits_14 : decode cX7_shiftBits 14 = .ok (.iload_n 1, 1) := by decide +kernel
theorem dX7_shiftBits_15 : decode cX7_shiftBits 15 = .ok (.ifCond .le 12, 3) := by decide +kernel
theorem dX7_shiftBits_18 : decode cX7_shiftBits 18 = .ok (.iload_n 0, 1) := by decide +kernel
theorem dX7_shiftBits_19 : decode cX7_shiftBits 19 = .ok (.iload_n 1, 1) := by decide +kernel
theorem dX7_shiftBits_20 : decode cX7_shiftBits 20 = .ok (.ishl, 1) := by decide +kernel
theorem dX7_shiftBits_21 : decode cX7_shiftBits 21 = .ok (.invokestatic 76, 3) := by decide +kernel
theorem dX7_shiftBits_24 : decode cX7_shiftBits 24 = .ok (.goto 7, 3) := by decide +kernel
theorem dX7_shiftBits_27 : decode cX7_shiftBits 27 = .ok (.iload_n 0, 1) := by decide +kernel
theorem dX7_shiftBits_28 : decode cX7_shiftBits 28 = .ok (.iload_n 1, 1) := by decide +kernel
theorem dX7_shiftBits_29 : decode cX7_shiftBits 29 = .ok (.ineg, 1) := by decide +kernel
theorem dX7_shiftBits_30 : decode cX7_shiftBits 30 = .ok (.iushr, 1) := by decide +kernel
theorem dX7_shiftBits_31 : decode cX7_shiftBits 31 = .ok (.ireturn, 1) := by decide +kernel
theorem dX8_init_0 : decode cX8_init 0 = .ok (.aload_n 0, 1) := by decide +kernel
theorem dX8_init_1 : decode cX8_init 1 = .ok (.invokespecial 1, 3) := by decide +kernel
theorem dX8_init_4 : decode cX8_init 4 = .ok (.aload_n 0, 1) := by decide +kernel
theorem dX8_init_5 : decode cX8_init 5 = .ok (.sipush 2000, 3) := by decide +kernel
theorem dX8_init_8 : decode cX8_init 8 = .ok (.newarray .int, 2) := by decide +kernel
theorem dX8_init_10 : decode cX8_init 10 = .ok (.putfield 7, 3) := by decide +kernel
theorem dX8_init_13 : decode cX8_init 13 = .ok (.aload_n 0, 1) := by decide +kernel
theorem dX8_init_14 : decode cX8_init 14 = .ok (.sipush 130, 3) := by decide +kernel
theorem dX8_init_17 : decode cX8_init 17 = .ok (.putfield 13, 3) := by decide +kernel
theorem dX8_init_20 : decode cX8_init 20 = .ok (.aload_n 0, 1) := by decide +kernel
theorem dX8_init_21 : decode cX8_init 21 = .ok (.iconst 1, 1) := by decide +kernel
theorem dX8_init_22 : decode cX8_init 22 = .ok (.putfield 17, 3) := by decide +kernel
theorem dX8_init_25 : decode cX8_init 25 = .ok (.aload_n 0, 1) := by decide +kernel
theorem dX8_init_26 : decode cX8_init 26 = .ok (.bipush 50, 2) := by decide +kernel
theorem dX8_init_28 : decode cX8_init 28 = .ok (.newarray .int, 2) := by decide +kernel
theorem dX8_init_30 : decode cX8_init 30 = .ok (.putfield 20, 3) := by decide +kernel
theorem dX8_init_33 : decode cX8_init 33 = .ok (.aload_n 0, 1) := by decide +kernel
theorem dX8_init_34 : decode cX8_init 34 = .ok (.sipush 2000, 3) := by decide +kernel
theorem dX8_init_37 : decode cX8_init 37 = .ok (.newarray .int, 2) := by decide +kernel
theorem dX8_init_39 : decode cX8_init 39 = .ok (.putfield 23, 3) := by decide +kernel
theorem dX8_init_42 : decode cX8_init 42 = .ok (.aload_n 0, 1) := by decide +kernel
theorem dX8_init_43 : decode cX8_init 43 = .ok (.bipush 100, 2) := by decide +kernel
theorem dX8_init_45 : decode cX8_init 45 = .ok (.newarray .int, 2) := by decide +kernel
theorem dX8_init_47 : decode cX8_init 47 = .ok (.putfield 26, 3) := by decide +kernel
theorem dX8_init_50 : decode cX8_init 50 = .ok (.aload_n 0, 1) := by decide +kernel
theorem dX8_init_51 : decode cX8_init 51 = .ok (.sipush 300, 3) := by decide +kernel
theorem dX8_init_54 : decode cX8_init 54 = .ok (.newarray .int, 2) := by decide +kernel
theorem dX8_init_56 : decode cX8_init 56 = .ok (.putfield 29, 3) := by decide +kernel
theorem dX8_init_59 : decode cX8_init 59 = .ok (.aload_n 0, 1) := by decide +kernel
theorem dX8_init_60 : decode cX8_init 60 = .ok (.bipush 100, 2) := by decide +kernel
theorem dX8_init_62 : decode cX8_init 62 = .ok (.newarray .int, 2) := by decide +kernel
theorem dX8_init_64 : decode cX8_init 64 = .ok (.putfield 32, 3) := by decide +kernel
theorem dX8_init_67 : decode cX8_init 67 = .ok (.aload_n 0, 1) := by decide +kernel
theorem dX8_init_68 : decode cX8_init 68 = .ok (.bipush 8, 2) := by decide +kernel
theorem dX8_init_70 : decode cX8_init 70 = .ok (.newarray .boolean, 2) := by decide +kernel
theorem dX8_init_72 : decode cX8_init 72 = .ok (.putfield 35, 3) := by decide +kernel
theorem dX8_init_75 : decode cX8_init 75 = .ok (.aload_n 0, 1) := by decide +kernel
theorem dX8_init_76 : decode cX8_init 76 = .ok (.bipush 8, 2) := by decide +kernel
theorem dX8_init_78 : decode cX8_init 78 = .ok (.newarray .int, 2) := by decide +kernel
theorem dX8_init_80 : decode cX8_init 80 = .ok (.putfield 39, 3) := by decide +kernel
theorem dX8_init_83 : decode cX8_init 83 = .ok (.aload_n 0, 1) := by decide +kernel
theorem dX8_init_84 : decode cX8_init 84 = .ok (.bipush 8, 2) := by decide +kernel
theorem dX8_init_86 : decode cX8_init 86 = .ok (.newarray .int, 2) := by decide +kernel
theorem dX8_init_88 : decode cX8_init 88 = .ok (.putfield 42, 3) := by decide +kernel
theorem dX8_init_91 : decode cX8_init 91 = .ok (.aload_n 0, 1) := by decide +kernel
theorem dX8_init_92 : decode cX8_init 92 = .ok (.bipush 8, 2) := by decide +kernel
theorem dX8_init_94 : decode cX8_init 94 = .ok (.newarray .boolean, 2) := by decide +kernel
theorem dX8_init_96 : decode cX8_init 96 = .ok (.putfield 45, 3) := by decide +kernel
theorem dX8_init_99 : decode cX8_init 99 = .ok (.aload_n 0, 1) := by decide +kernel
theorem dX8_init_100 : decode cX8_init 100 = .ok (.bipush 12, 2) := by decide +kernel
theorem dX8_init_102 : decode cX8_init 102 = .ok (.newarray .int, 2) := by decide +kernel
theorem dX8_init_104 : decode cX8_init 104 = .ok (.putfield 48, 3) := by decide +kernel
theorem dX8_init_107 : decode cX8_init 107 = .ok (.aload_n 0, 1) := by decide +kernel
theorem dX8_init_108 : decode cX8_init 108 = .ok (.bipush 12, 2) := by decide +kernel
theorem dX8_init_110 : decode cX8_init 110 = .ok (.newarray .int, 2) := by decide +kernel
theorem dX8_init_112 : decode cX8_init 112 = .ok (.putfield 51, 3) := by decide +kernel
theorem dX8_init_115 : decode cX8_init 115 = .ok (.aload_n 0, 1) := by decide +kernel
theorem dX8_init_116 : decode cX8_init 116 = .ok (.bipush 12, 2) := by decide +kernel
theorem dX8_init_118 : decode cX8_init 118 = .ok (.newarray .int, 2) := by decide +kernel
theorem dX8_init_120 : decode cX8_init 120 = .ok (.putfield 54, 3) := by decide +kernel
theorem dX8_init_123 : decode cX8_init 123 = .ok (.aload_n 0, 1) := by decide +kernel
theorem dX8_init_124 : decode cX8_init 124 = .ok (.bipush 12, 2) := by decide +kernel
theorem dX8_init_126 : decode cX8_init 126 = .ok (.newarray .int, 2) := by decide +kernel
theorem dX8_init_128 : decode cX8_init 128 = .ok (.putfield 57, 3) := by decide +kernel
theorem dX8_init_131 : decode cX8_init 131 = .ok (.aload_n 0, 1) := by decide +kernel
theorem dX8_init_132 : decode cX8_init 132 = .ok (.sipush 180, 3) := by decide +kernel
theorem dX8_init_135 : decode cX8_init 135 = .ok (.newarray .int, 2) := by decide +kernel
theorem dX8_init_137 : decode cX8_init 137 = .ok (.putfield 60, 3) := by decide +kernel
theorem dX8_init_140 : decode cX8_init 140 = .ok (.aload_n 0, 1) := by decide +kernel
theorem dX8_init_141 : decode cX8_init 141 = .ok (.bipush 100, 2) := by decide +kernel
theorem dX8_init_143 : decode cX8_init 143 = .ok (.newarray .int, 2) := by decide +kernel
theorem dX8_init_145 : decode cX8_init 145 = .ok (.putfield 63, 3) := by decide +kernel
theorem dX8_init_148 : decode cX8_init 148 = .ok (.aload_n 0, 1) := by decide +kernel
theorem dX8_init_149 : decode cX8_init 149 = .ok (.bipush 120, 2) := by decide +kernel
theorem dX8_init_151 : decode cX8_init 151 = .ok (.newarray .int, 2) := by decide +kernel
theorem dX8_init_153 : decode cX8_init 153 = .ok (.putfield 66, 3) := by decide +kernel
theorem dX8_init_156 : decode cX8_init 156 = .ok (.aload_n 0, 1) := by decide +kernel
theorem dX8_init_157 : decode cX8_init 157 = .ok (.bipush 8, 2) := by decide +kernel
theorem dX8_init_159 : decode cX8_init 159 = .ok (.newarray .int, 2) := by decide +kernel
theorem dX8_init_161 : decode cX8_init 161 = .ok (.putfield 69, 3) := by decide +kernel
theorem dX8_init_164 : decode cX8_init 164 = .ok (.return_, 1) := by decide +kernel
theorem dX8_signed_0 : decode cX8_signed 0 = .ok (.iload_n 0, 1) := by decide +kernel
theorem dX8_signed_1 : decode cX8_signed 1 = .ok (.ldc 75, 2) := by decide +kernel
theorem dX8_signed_3 : decode cX8_signed 3 = .ok (.iand, 1) := by decide +kernel
theorem dX8_signed_4 : decode cX8_signed 4 = .ok (.istore_n 1, 1) := by decide +kernel
theorem dX8_signed_5 : decode cX8_signed 5 = .ok (.iload_n 1, 1) := by decide +kernel
theorem dX8_signed_6 : decode cX8_signed 6 = .ok (.ldc 76, 2) := by decide +kernel
theorem dX8_signed_8 : decode cX8_signed 8 = .ok (.if_icmp .lt 10, 3) := by decide +kernel
theorem dX8_signed_11 : decode cX8_signed 11 = .ok (.iload_n 1, 1) := by decide +kernel
theorem dX8_signed_12 : decode cX8_signed 12 = .ok (.ldc 77, 2) := by decide +kernel
theorem dX8_signed_14 : decode cX8_signed 14 = .ok (.isub, 1) := by decide +kernel
theorem dX8_signed_15 : decode cX8_signed 15 = .ok (.goto 4, 3) := by decide +kernel
theorem dX8_signed_18 : decode cX8_signed 18 = .ok (.iload_n 1, 1) := by decide +kernel
theorem dX8_signed_19 : decode cX8_signed 19 = .ok (.ireturn, 1) := by decide +kernel
theorem dX8_isThere_0 : decode cX8_isThere 0 = .ok (.iload_n 1, 1) := by decide +kernel
theorem dX8_isThere_1 : decode cX8_isThere 1 = .ok (.ifCond .lt 17, 3) := by decide +kernel
theorem dX8_isThere_4 : decode cX8_isThere 4 = .ok (.iload_n 1, 1) := by decide +kernel
theorem dX8_isThere_5 : decode cX8_isThere 5 = .ok (.i2l, 1) := by decide +kernel
theorem dX8_isThere_6 : decode cX8_isThere 6 = .ok (.iload_n 2, 1) := by decide +kernel
theorem dX8_isThere_7 : decode cX8_isThere 7 = .ok (.i2l, 1) := by decide +kernel
theorem dX8_isThere_8 : decode cX8_isThere 8 = .ok (.ladd, 1) := by decide +kernel
theorem dX8_isThere_9 : decode cX8_isThere 9 = .ok (.aload_n 0, 1) := by decide +kernel
theorem dX8_isThere_10 : decode cX8_isThere 10 = .ok (.getfield 78, 3) := by decide +kernel
theorem dX8_isThere_13 : decode cX8_isThere 13 = .ok (.i2l, 1) := by decide +kernel
theorem dX8_isThere_14 : decode cX8_isThere 14 = .ok (.lcmp, 1) := by decide +kernel
theorem dX8_isThere_15 : decode cX8_isThere 15 = .ok (.ifCond .le 10, 3) := by decide +kernel
theorem dX8_isThere_18 : decode cX8_isThere 18 = .ok (.aload_n 0, 1) := by decide +kernel
theorem dX8_isThere_19 : decode cX8_isThere 19 = .ok (.iconst 2, 1) := by decide +kernel
theorem dX8_isThere_20 : decode cX8_isThere 20 = .ok (.putfield 81, 3) := by decide +kernel
theorem dX8_isThere_23 : decode cX8_isThere 23 = .ok (.iconst 0, 1) := by decide +kernel
theorem dX8_isThere_24 : decode cX8_isThere 24 = .ok (.ireturn, 1) := by decide +kernel
theorem dX8_isThere_25 : decode cX8_isThere 25 = .ok (.iconst 1, 1) := by decide +kernel
theorem dX8_isThere_26 : decode cX8_isThere 26 = .ok (.ireturn, 1) := by decide +kernel
theorem dX8_read_0 : decode cX8_read 0 = .ok (.aload_n 0, 1) := by decide +kernel
theorem dX8_read_1 : decode cX8_read 1 = .ok (.iload_n 1, 1) := by decide +kernel
theorem dX8_read_2 : decode cX8_read 2 = .ok (.iload_n 2, 1) := by decide +kernel
theorem dX8_read_3 : decode cX8_read 3 = .ok (.ifCond .eq 7, 3) := by decide +kernel
theorem dX8_read_6 : decode cX8_read 6 = .ok (.iconst 2, 1) := by decide +kernel
theorem dX8_read_7 : decode cX8_read 7 = .ok (.goto 4, 3) := by decide +kernel
theorem dX8_read_10 : decode cX8_read 10 = .ok (.iconst 1, 1) := by decide +kernel
theorem dX8_read_11 : decode cX8_read 11 = .ok (.invokevirtual 84, 3) := by decide +kernel
theorem dX8_read_14 : decode cX8_read 14 = .ok (.ifCond .ne 5, 3) := by decide +kernel
theorem dX8_read_17 : decode cX8_read 17 = .ok (.iconst 0, 1) := by decide +kernel
theorem dX8_read_18 : decode cX8_read 18 = .ok (.ireturn, 1) := by decide +kernel
theorem dX8_read_19 : decode cX8_read 19 = .ok (.iload_n 2, 1) := by decide +kernel
theorem dX8_read_20 : decode cX8_read 20 = .ok (.ifCond .eq 25, 3) := by decide +kernel
theorem dX8_read_23 : decode cX8_read 23 = .ok (.aload_n 0, 1) := by decide +kernel
theorem dX8_read_24 : decode cX8_read 24 = .ok (.getfield 7, 3) := by decide +kernel
theorem dX8_read_27 : decode cX8_read 27 = .ok (.iload_n 1, 1) := by decide +kernel
theorem dX8_read_28 : decode cX8_read 28 = .ok (.iaload, 1) := by decide +kernel
theorem dX8_read_29 : decode cX8_read 29 = .ok (.sipush 256, 3) := by decide +kernel
theorem dX8_read_32 : decode cX8_read 32 = .ok (.imul, 1) := by decide +kernel
theorem dX8_read_33 : decode cX8_read 33 = .ok (.aload_n 0, 1) := by decide +kernel
theorem dX8_read_34 : decode cX8_read 34 = .ok (.getfield 7, 3) := by decide +kernel
theorem dX8_read_37 : decode cX8_read 37 = .ok (.iload_n 1, 1) := by decide +kernel
theorem dX8_read_38 : decode cX8_read 38 = .ok (.iconst 1, 1) := by decide +kernel
theorem dX8_read_39 : decode cX8_read 39 = .ok (.iadd, 1) := by decide +kernel
theorem dX8_read_40 : decode cX8_read 40 = .ok (.iaload, 1) := by decide +kernel
theorem dX8_read_41 : decode cX8_read 41 = .ok (.iadd, 1) := by decide +kernel
theorem dX8_read_42 : decode cX8_read 42 = .ok (.goto 9, 3) := by decide +kernel
theorem dX8_read_45 : decode cX8_read 45 = .ok (.aload_n 0, 1) := by decide +kernel
theorem dX8_read_46 : decode cX8_read 46 = .ok (.getfield 7, 3) := by decide +kernel
theorem dX8_read_49 : decode cX8_read 49 = .ok (.iload_n 1, 1) := by decide +kernel
theorem dX8_read_50 : decode cX8_read 50 = .ok (.iaload, 1) := by decide +kernel
theorem dX8_read_51 : decode cX8_read 51 = .ok (.ireturn, 1) := by decide +kernel
theorem dX8_write_0 : decode cX8_write 0 = .ok (.aload_n 0, 1) := by decide +kernel
theorem dX8_write_1 : decode cX8_write 1 = .ok (.iload_n 1, 1) := by decide +kernel
theorem dX8_write_2 : decode cX8_write 2 = .ok (.iload_n 3, 1) := by decide +kernel
theorem dX8_write_3 : decode cX8_write 3 = .ok (.ifCond .eq 7, 3) := by decide +kernel
theorem dX8_write_6 : decode cX8_write 6 = .ok (.iconst 2, 1) := by decide +kernel
theorem dX8_write_7 : decode cX8_write 7 = .ok (.goto 4, 3) := by decide +kernel
theorem dX8_write_10 : decode cX8_write 10 = .ok (.iconst 1, 1) := by decide +kernel
theorem dX8_write_11 : decode cX8_write 11 = .ok (.invokevirtual 84, 3) := by decide +kernel
theorem dX8_write_14 : decode cX8_write 14 = .ok (.ifCond .ne 4, 3) := by decide +kernel
theorem dX8_write_17 : decode cX8_write 17 = .ok (.return_, 1) := by decide +kernel
theorem dX8_write_18 : decode cX8_write 18 = .ok (.iload 4, 2) := by decide +kernel
theorem dX8_write_20 : decode cX8_write 20 = .ok (.ifCond .ne 27, 3) := by decide +kernel
theorem dX8_write_23 : decode cX8_write 23 = .ok (.iload_n 1, 1) := by decide +kernel
theorem dX8_write_24 : decode cX8_write 24 = .ok (.iload_n 3, 1) := by decide +kernel
theorem dX8_write_25 : decode cX8_write 25 = .ok (.ifCond .eq 7, 3) := by decide +kernel
theorem dX8_write_28 : decode cX8_write 28 = .ok (.iconst 1, 1) := by decide +kernel
theorem dX8_write_29 : decode cX8_write 29 = .ok (.goto 4, 3) := by decide +kernel
theorem dX8_write_32 : decode cX8_write 32 = .ok (.iconst 0, 1) := by decide +kernel
theorem dX8_write_33 : decode cX8_write 33 = .ok (.iadd, 1) := by decide +kernel
theorem dX8_write_34 : decode cX8_write 34 = .ok (.aload_n 0, 1) := by decide +kernel
theorem dX8_write_35 : decode cX8_write 35 = .ok (.getfield 88, 3) := by decide +kernel
theorem dX8_write_38 : decode cX8_write 38 = .ok (.if_icmp .lt 9, 3) := by decide +kernel
theorem dX8_write_41 : decode cX8_write 41 = .ok (.aload_n 0, 1) := by decide +kernel
theorem dX8_write_42 : decode cX8_write 42 = .ok (.iconst 3, 1) := by decide +kernel
theorem dX8_write_43 : decode cX8_write 43 = .ok (.putfield 81, 3) := by decide +kernel
theorem dX8_write_46 : decode cX8_write 46 = .ok (.return_, 1) := by decide +kernel
theorem dX8_write_47 : decode cX8_write 47 = .ok (.iload_n 3, 1) := by decide +kernel
theorem dX8_write_48 : decode cX8_write 48 = .ok (.ifCond .eq 33, 3) := by decide +kernel
theorem dX8_write_51 : decode cX8_write 51 = .ok (.aload_n 0, 1) := by decide +kernel
theorem dX8_write_52 : decode cX8_write 52 = .ok (.getfield 7, 3) := by decide +kernel
theorem dX8_write_55 : decode cX8_write 55 = .ok (.iload_n 1, 1) := by decide +kernel
theorem dX8_write_56 : decode cX8_write 56 = .ok (.iload_n 2, 1) := by decide +kernel
theorem dX8_write_57 : decode cX8_write 57 = .ok (.bipush 8, 2) := by decide +kernel
theorem dX8_write_59 : decode cX8_write 59 = .ok (.ishr, 1) := by decide +kernel
theorem dX8_write_60 : decode cX8_write 60 = .ok (.sipush 255, 3) := by decide +kernel
theorem dX8_write_63 : decode cX8_write 63 = .ok (.iand, 1) := by decide +kernel
theorem dX8_write_64 : decode cX8_write 64 = .ok (.iastore, 1) := by decide +kernel
theorem dX8_write_65 : decode cX8_write 65 = .ok (.aload_n 0, 1) := by decide +kernel
theorem dX8_write_66 : decode cX8_write 66 = .ok (.getfield 7, 3) := by decide +kernel
theorem dX8_write_69 : decode cX8_write 69 = .ok (.iload_n 1, 1) := by decide +kernel
theorem dX8_write_70 : decode cX8_write 70 = .ok (.iconst 1, 1) := by decide +kernel
theorem dX8_write_71 : decode cX8_write 71 = .ok (.iadd, 1) := by decide +kernel
theorem dX8_write_72 : decode cX8_write 72 = .ok (.iload_n 2, 1) := by decide +kernel
theorem dX8_write_73 : decode cX8_write 73 = .ok (.sipush 255, 3) := by decide +kernel
theorem dX8_write_76 : decode cX8_write 76 = .ok (.iand, 1) := by decide +kernel
theorem dX8_write_77 : decode cX8_write 77 = .ok (.iastore, 1) := by decide +kernel
theorem dX8_write_78 : decode cX8_write 78 = .ok (.goto 14, 3) := by decide +kernel
theorem dX8_write_81 : decode cX8_write 81 = .ok (.aload_n 0, 1) := by decide +kernel
theorem dX8_write_82 : decode cX8_write 82 = .ok (.getfield 7, 3) := by decide +kernel
theorem dX8_write_85 : decode cX8_write 85 = .ok (.iload_n 1, 1) := by decide +kernel
theorem dX8_write_86 : decode cX8_write 86 = .ok (.iload_n 2, 1) := by decide +kernel
theorem dX8_write_87 : decode cX8_write 87 = .ok (.sipush 255, 3) := by decide +kernel
theorem dX8_write_90 : decode cX8_write 90 = .ok (.iand, 1) := by decide +kernel
theorem dX8_write_91 : decode cX8_write 91 = .ok (.iastore, 1) := by decide +kernel
theorem dX8_write_92 : decode cX8_write 92 = .ok (.return_, 1) := by decide +kernel
theorem dX8_size_0 : decode cX8_size 0 = .ok (.aload_n 0, 1) := by decide +kernel
theorem dX8_size_1 : decode cX8_size 1 = .ok (.iconst 0, 1) := by decide +kernel
theorem dX8_size_2 : decode cX8_size 2 = .ok (.putfield 72, 3) := by decide +kernel
theorem dX8_size_5 : decode cX8_size 5 = .ok (.iload_n 1, 1) := by decide +kernel
theorem dX8_size_6 : decode cX8_size 6 = .ok (.ifCond .lt 19, 3) := by decide +kernel
theorem dX8_size_9 : decode cX8_size 9 = .ok (.iload_n 1, 1) := by decide +kernel
theorem dX8_size_10 : decode cX8_size 10 = .ok (.sipush 2000, 3) := by decide +kernel
theorem dX8_size_13 : decode cX8_size 13 = .ok (.if_icmp .gt 12, 3) := by decide +kernel
theorem dX8_size_16 : decode cX8_size 16 = .ok (.iload_n 2, 1) := by decide +kernel
theorem dX8_size_17 : decode cX8_size 17 = .ok (.ifCond .lt 8, 3) := by decide +kernel
theorem dX8_size_20 : decode cX8_size 20 = .ok (.iload_n 2, 1) := by decide +kernel
theorem dX8_size_21 : decode cX8_size 21 = .ok (.iload_n 1, 1) := by decide +kernel
theorem dX8_size_22 : decode cX8_size 22 = .ok (.if_icmp .le 6, 3) := by decide +kernel
theorem dX8_size_25 : decode cX8_size 25 = .ok (.bipush (-2), 2) := by decide +kernel
theorem dX8_size_27 : decode cX8_size 27 = .ok (.ireturn, 1) := by decide +kernel
theorem dX8_size_28 : decode cX8_size 28 = .ok (.aload_n 0, 1) := by decide +kernel
theorem dX8_size_29 : decode cX8_size 29 = .ok (.iload_n 1, 1) := by decide +kernel
theorem dX8_size_30 : decode cX8_size 30 = .ok (.putfield 78, 3) := by decide +kernel
theorem dX8_size_33 : decode cX8_size 33 = .ok (.aload_n 0, 1) := by decide +kernel
theorem dX8_size_34 : decode cX8_size 34 = .ok (.iload_n 2, 1) := by decide +kernel
theorem dX8_size_35 : decode cX8_size 35 = .ok (.putfield 88, 3) := by decide +kernel
theorem dX8_size_38 : decode cX8_size 38 = .ok (.iconst 0, 1) := by decide +kernel
theorem dX8_size_39 : decode cX8_size 39 = .ok (.istore_n 3, 1) := by decide +kernel
theorem dX8_size_40 : decode cX8_size 40 = .ok (.iload_n 3, 1) := by decide +kernel
theorem dX8_size_41 : decode cX8_size 41 = .ok (.sipush 2000, 3) := by decide +kernel
theorem dX8_size_44 : decode cX8_size 44 = .ok (.if_icmp .ge 16, 3) := by decide +kernel
theorem dX8_size_47 : decode cX8_size 47 = .ok (.aload_n 0, 1) := by decide +kernel
theorem dX8_size_48 : decode cX8_size 48 = .ok (.getfield 7, 3) := by decide +kernel
theorem dX8_size_51 : decode cX8_size 51 = .ok (.iload_n 3, 1) := by decide +kernel
theorem dX8_size_52 : decode cX8_size 52 = .ok (.iconst 0, 1) := by decide +kernel
theorem dX8_size_53 : decode cX8_size 53 = .ok (.iastore, 1) := by decide +kernel
theorem dX8_size_54 : decode cX8_size 54 = .ok (.iinc 3 1, 3) := by decide +kernel
theorem dX8_size_57 : decode cX8_size 57 = .ok (.goto (-17), 3) := by decide +kernel
theorem dX8_size_60 : decode cX8_size 60 = .ok (.iconst 1, 1) := by decide +kernel
theorem dX8_size_61 : decode cX8_size 61 = .ok (.ireturn, 1) := by decide +kernel
theorem dX8_get_0 : decode cX8_get 0 = .ok (.aload_n 0, 1) := by decide +kernel
theorem dX8_get_1 : decode cX8_get 1 = .ok (.iconst 0, 1) := by decide +kernel
theorem dX8_get_2 : decode cX8_get 2 = .ok (.putfield 72, 3) := by decide +kernel
theorem dX8_get_5 : decode cX8_get 5 = .ok (.aload_n 0, 1) := by decide +kernel
theorem dX8_get_6 : decode cX8_get 6 = .ok (.iconst 0, 1) := by decide +kernel
theorem dX8_get_7 : decode cX8_get 7 = .ok (.putfield 81, 3) := by decide +kernel
theorem dX8_get_10 : decode cX8_get 10 = .ok (.aload_n 0, 1) := by decide +kernel
theorem dX8_get_11 : decode cX8_get 11 = .ok (.iload_n 1, 1) := by decide +kernel
theorem dX8_get_12 : decode cX8_get 12 = .ok (.iload_n 2, 1) := by decide +kernel
theorem dX8_get_13 : decode cX8_get 13 = .ok (.invokevirtual 91, 3) := by decide +kernel
theorem dX8_get_16 : decode cX8_get 16 = .ok (.istore_n 3, 1) := by decide +kernel
theorem dX8_get_17 : decode cX8_get 17 = .ok (.aload_n 0, 1) := by decide +kernel
theorem dX8_get_18 : decode cX8_get 18 = .ok (.getfield 81, 3) := by decide +kernel
theorem dX8_get_21 : decode cX8_get 21 = .ok (.ifCond .ne 7, 3) := by decide +kernel
theorem dX8_get_24 : decode cX8_get 24 = .ok (.iload_n 3, 1) := by decide +kernel
theorem dX8_get_25 : decode cX8_get 25 = .ok (.goto 10, 3) := by decide +kernel
theorem dX8_get_28 : decode cX8_get 28 = .ok (.bipush (-10), 2) := by decide +kernel
theorem dX8_get_30 : decode cX8_get 30 = .ok (.aload_n 0, 1) := by decide +kernel
theorem dX8_get_31 : decode cX8_get 31 = .ok (.getfield 81, 3) := by decide +kernel
theorem dX8_get_34 : decode cX8_get 34 = .ok (.isub, 1) := by decide +kernel
theorem dX8_get_35 : decode cX8_get 35 = .ok (.ireturn, 1) := by decide +kernel
theorem dX8_put_0 : decode cX8_put 0 = .ok (.aload_n 0, 1) := by decide +kernel
theorem dX8_put_1 : decode cX8_put 1 = .ok (.iconst 0, 1) := by decide +kernel
theorem dX8_put_2 : decode cX8_put 2 = .ok (.putfield 72, 3) := by decide +kernel
theorem dX8_put_5 : decode cX8_put 5 = .ok (.aload_n 0, 1) := by decide +kernel
theorem dX8_put_6 : decode cX8_put 6 = .ok (.iconst 0, 1) := by decide +kernel
theorem dX8_put_7 : decode cX8_put 7 = .ok (.putfield 81, 3) := by decide +kernel
theorem dX8_put_10 : decode cX8_put 10 = .ok (.aload_n 0, 1) := by decide +kernel
theorem dX8_put_11 : decode cX8_put 11 = .ok (.iload_n 1, 1) := by decide +kernel
theorem dX8_put_12 : decode cX8_put 12 = .ok (.iload_n 2, 1) := by decide +kernel
theorem dX8_put_13 : decode cX8_put 13 = .ok (.iload_n 3, 1) := by decide +kernel
theorem dX8_put_14 : decode cX8_put 14 = .ok (.iload 4, 2) := by decide +kernel
theorem dX8_put_16 : decode cX8_put 16 = .ok (.invokevirtual 95, 3) := by decide +kernel
theorem dX8_put_19 : decode cX8_put 19 = .ok (.aload_n 0, 1) := by decide +kernel
theorem dX8_put_20 : decode cX8_put 20 = .ok (.getfield 81, 3) := by decide +kernel
theorem dX8_put_23 : decode cX8_put 23 = .ok (.ifCond .ne 7, 3) := by decide +kernel
theorem dX8_put_26 : decode cX8_put 26 = .ok (.iconst 1, 1) := by decide +kernel
theorem dX8_put_27 : decode cX8_put 27 = .ok (.goto 10, 3) := by decide +kernel
theorem dX8_put_30 : decode cX8_put 30 = .ok (.bipush (-10), 2) := by decide +kernel
theorem dX8_put_32 : decode cX8_put 32 = .ok (.aload_n 0, 1) := by decide +kernel
theorem dX8_put_33 : decode cX8_put 33 = .ok (.getfield 81, 3) := by decide +kernel
theorem dX8_put_36 : decode cX8_put 36 = .ok (.isub, 1) := by decide +kernel
theorem dX8_put_37 : decode cX8_put 37 = .ok (.ireturn, 1) := by decide +kernel
theorem dX8_worked_0 : decode cX8_worked 0 = .ok (.iload_n 1, 1) := by decide +kernel
theorem dX8_worked_1 : decode cX8_worked 1 = .ok (.tableswitch 113 0 7 #[47, 54, 61, 68, 68, 101, 105, 109], 47) := by decide +kernel
theorem dX8_worked_48 : decode cX8_worked 48 = .ok (.iload_n 2, 1) := by decide +kernel
theorem dX8_worked_49 : decode cX8_worked 49 = .ok (.iload_n 3, 1) := by decide +kernel
theorem dX8_worked_50 : decode cX8_worked 50 = .ok (.iadd, 1) := by decide +kernel
theorem dX8_worked_51 : decode cX8_worked 51 = .ok (.invokestatic 99, 3) := by decide +kernel
theorem dX8_worked_54 : decode cX8_worked 54 = .ok (.ireturn, 1) := by decide +kernel
theorem dX8_worked_55 : decode cX8_worked 55 = .ok (.iload_n 2, 1) := by decide +kernel
theorem dX8_worked_56 : decode cX8_worked 56 = .ok (.iload_n 3, 1) := by decide +kernel
theorem dX8_worked_57 : decode cX8_worked 57 = .ok (.isub, 1) := by decide +kernel
theorem dX8_worked_58 : decode cX8_worked 58 = .ok (.invokestatic 99, 3) := by decide +kernel
theorem dX8_worked_61 : decode cX8_worked 61 = .ok (.ireturn, 1) := by decide +kernel
theorem dX8_worked_62 : decode cX8_worked 62 = .ok (.iload_n 2, 1) := by decide +kernel
theorem dX8_worked_63 : decode cX8_worked 63 = .ok (.iload_n 3, 1) := by decide +kernel
theorem dX8_worked_64 : decode cX8_worked 64 = .ok (.imul, 1) := by decide +kernel
theorem dX8_worked_65 : decode cX8_worked 65 = .ok (.invokestatic 99, 3) := by decide +kernel
theorem dX8_worked_68 : decode cX8_worked 68 = .ok (.ireturn, 1) := by decide +kernel
theorem dX8_worked_69 : decode cX8_worked 69 = .ok (.iload_n 3, 1) := by decide +kernel
theorem dX8_worked_70 : decode cX8_worked 70 = .ok (.ifCond .ne 10, 3) := by decide +kernel
theorem dX8_worked_73 : decode cX8_worked 73 = .ok (.aload_n 0, 1) := by decide +kernel
theorem dX8_worked_74 : decode cX8_worked 74 = .ok (.iconst 1, 1) := by decide +kernel
theorem dX8_worked_75 : decode cX8_worked 75 = .ok (.putfield 81, 3) := by decide +kernel
theorem dX8_worked_78 : decode cX8_worked 78 = .ok (.iconst 0, 1) := by decide +kernel
theorem dX8_worked_79 : decode cX8_worked 79 = .ok (.ireturn, 1) := by decide +kernel
theorem dX8_worked_80 : decode cX8_worked 80 = .ok (.iload_n 1, 1) := by decide +kernel
theorem dX8_worked_81 : decode cX8_worked 81 = .ok (.iconst 3, 1) := by decide +kernel
theorem dX8_worked_82 : decode cX8_worked 82 = .ok (.if_icmp .ne 9, 3) := by decide +kernel
theorem dX8_worked_85 : decode cX8_worked 85 = .ok (.iload_n 2, 1) := by decide +kernel
theorem dX8_worked_86 : decode cX8_worked 86 = .ok (.iload_n 3, 1) := by decide +kernel
theorem dX8_worked_87 : decode cX8_worked 87 = .ok (.idiv, 1) := by decide +kernel
theorem dX8_worked_88 : decode cX8_worked 88 = .ok (.goto 10, 3) := by decide +kernel
theorem dX8_worked_91 : decode cX8_worked 91 = .ok (.iload_n 2, 1) := by decide +kernel
theorem dX8_worked_92 : decode cX8_worked 92 = .ok (.iload_n 2, 1) := by decide +kernel
theorem dX8_worked_93 : decode cX8_worked 93 = .ok (.iload_n 3, 1) := by decide +kernel
theorem dX8_worked_94 : decode cX8_worked 94 = .ok (.idiv, 1) := by decide +kernel
theorem dX8_worked_95 : decode cX8_worked 95 = .ok (.iload_n 3, 1) := by decide +kernel
theorem dX8_worked_96 : decode cX8_worked 96 = .ok (.imul, 1) := by decide +kernel
theorem dX8_worked_97 : decode cX8_worked 97 = .ok (.isub, 1) := by decide +kernel
theorem dX8_worked_98 : decode cX8_worked 98 = .ok (.invokestatic 99, 3) := by decide +kernel
theorem dX8_worked_101 : decode cX8_worked 101 = .ok (.ireturn, 1) := by decide +kernel
theorem dX8_worked_102 : decode cX8_worked 102 = .ok (.iload_n 2, 1) := by decide +kernel
theorem dX8_worked_103 : decode cX8_worked 103 = .ok (.iload_n 3, 1) := by decide +kernel
theorem dX8_worked_104 : decode cX8_worked 104 = .ok (.iand, 1) := by decide +kernel
theorem dX8_worked_105 : decode cX8_worked 105 = .ok (.ireturn, 1) := by decide +kernel
theorem dX8_worked_106 : decode cX8_worked 106 = .ok (.iload_n 2, 1) := by decide +kernel
theorem dX8_worked_107 : decode cX8_worked 107 = .ok (.iload_n 3, 1) := by decide +kernel
theorem dX8_worked_108 : decode cX8_worked 108 = .ok (.ior, 1) := by decide +kernel
theorem dX8_worked_109 : decode cX8_worked 109 = .ok (.ireturn, 1) := by decide +kernel
theorem dX8_worked_110 : decode cX8_worked 110 = .ok (.iconst (-1), 1) := by decide +kernel
theorem dX8_worked_111 : decode cX8_worked 111 = .ok (.iload_n 2, 1) := by decide +kernel
theorem dX8_worked_112 : decode cX8_worked 112 = .ok (.isub, 1) := by decide +kernel
theorem dX8_worked_113 : decode cX8_worked 113 = .ok (.ireturn, 1) := by decide +kernel
theorem dX8_worked_114 : decode cX8_worked 114 = .ok (.iload_n 1, 1) := by decide +kernel
theorem dX8_worked_115 : decode cX8_worked 115 = .ok (.bipush 8, 2) := by decide +kernel
theorem dX8_worked_117 : decode cX8_worked 117 = .ok (.if_icmp .ne 7, 3) := by decide +kernel
theorem dX8_worked_120 : decode cX8_worked 120 = .ok (.iconst 1, 1) := by decide +kernel
theorem dX8_worked_121 : decode cX8_worked 121 = .ok (.goto 4, 3) := by decide +kernel
theorem dX8_worked_124 : decode cX8_worked 124 = .ok (.iconst 0, 1) := by decide +kernel
theorem dX8_worked_125 : decode cX8_worked 125 = .ok (.iload_n 2, 1) := by decide +kernel
theorem dX8_worked_126 : decode cX8_worked 126 = .ok (.iload_n 3, 1) := by decide +kernel
theorem dX8_worked_127 : decode cX8_worked 127 = .ok (.invokestatic 103, 3) := by decide +kernel
theorem dX8_worked_130 : decode cX8_worked 130 = .ok (.ireturn, 1) := by decide +kernel
theorem dX8_shifted_0 : decode cX8_shifted 0 = .ok (.iload_n 2, 1) := by decide +kernel
theorem dX8_shifted_1 : decode cX8_shifted 1 = .ok (.ifCond .ge 8, 3) := by decide +kernel
theorem dX8_shifted_4 : decode cX8_shifted 4 = .ok (.iload_n 2, 1) := by decide +kernel
theorem dX8_shifted_5 : decode cX8_shifted 5 = .ok (.ineg, 1) := by decide +kernel
theorem dX8_shifted_6 : decode cX8_shifted 6 = .ok (.goto 4, 3) := by decide +kernel
theorem dX8_shifted_9 : decode cX8_shifted 9 = .ok (.iload_n 2, 1) := by decide +kernel
theorem dX8_shifted_10 : decode cX8_shifted 10 = .ok (.istore_n 3, 1) := by decide +kernel
theorem dX8_shifted_11 : decode cX8_shifted 11 = .ok (.iload_n 3, 1) := by decide +kernel
theorem dX8_shifted_12 : decode cX8_shifted 12 = .ok (.bipush 15, 2) := by decide +kernel
theorem dX8_shifted_14 : decode cX8_shifted 14 = .ok (.if_icmp .le 12, 3) := by decide +kernel
theorem dX8_shifted_17 : decode cX8_shifted 17 = .ok (.iload_n 0, 1) := by decide +kernel
theorem dX8_shifted_18 : decode cX8_shifted 18 = .ok (.ifCond .ne 5, 3) := by decide +kernel
theorem dX8_shifted_21 : decode cX8_shifted 21 = .ok (.iconst 0, 1) := by decide +kernel
theorem dX8_shifted_22 : decode cX8_shifted 22 = .ok (.ireturn, 1) := by decide +kernel
theorem dX8_shifted_23 : decode cX8_shifted 23 = .ok (.bipush 15, 2) := by decide +kernel
theorem dX8_shifted_25 : decode cX8_shifted 25 = .ok (.istore_n 3, 1) := by decide +kernel
theorem dX8_shifted_26 : decode cX8_shifted 26 = .ok (.iload_n 0, 1) := by decide +kernel
theorem dX8_shifted_27 : decode cX8_shifted 27 = .ok (.ifCond .eq 7, 3) := by decide +kernel
theorem dX8_shifted_30 : decode cX8_shifted 30 = .ok (.iload_n 1, 1) := by decide +kernel
theorem dX8_shifted_31 : decode cX8_shifted 31 = .ok (.goto 7, 3) := by decide +kernel
theorem dX8_shifted_34 : decode cX8_shifted 34 = .ok (.iload_n 1, 1) := by decide +kernel
theorem dX8_shifted_35 : decode cX8_shifted 35 = .ok (.ldc 75, 2) := by decide +kernel
theorem dX8_shifted_37 : decode cX8_shifted 37 = .ok (.iand, 1) := by decide +kernel
theorem dX8_shifted_38 : decode cX8_shifted 38 = .ok (.istore 4, 2) := by decide +kernel
theorem dX8_shifted_40 : decode cX8_shifted 40 = .ok (.iconst 0, 1) := by decide +kernel
theorem dX8_shifted_41 : decode cX8_shifted 41 = .ok (.istore 5, 2) := by decide +kernel
theorem dX8_shifted_43 : decode cX8_shifted 43 = .ok (.iload 5, 2) := by decide +kernel
theorem dX8_shifted_45 : decode cX8_shifted 45 = .ok (.iload_n 3, 1) := by decide +kernel
theorem dX8_shifted_46 : decode cX8_shifted 46 = .ok (.if_icmp .ge 26, 3) := by decide +kernel
theorem dX8_shifted_49 : decode cX8_shifted 49 = .ok (.iload_n 2, 1) := by decide +kernel
theorem dX8_shifted_50 : decode cX8_shifted 50 = .ok (.ifCond .le 10, 3) := by decide +kernel
theorem dX8_shifted_53 : decode cX8_shifted 53 = .ok (.iload 4, 2) := by decide +kernel
theorem dX8_shifted_55 : decode cX8_shifted 55 = .ok (.iconst 2, 1) := by decide +kernel
theorem dX8_shifted_56 : decode cX8_shifted 56 = .ok (.imul, 1) := by decide +kernel
theorem dX8_shifted_57 : decode cX8_shifted 57 = .ok (.goto 7, 3) := by decide +kernel
theorem dX8_shifted_60 : decode cX8_shifted 60 = .ok (.iload 4, 2) := by decide +kernel
theorem dX8_shifted_62 : decode cX8_shifted 62 = .ok (.iconst 1, 1) := by decide +kernel
theorem dX8_shifted_63 : decode cX8_shifted 63 = .ok (.ishr, 1) := by decide +kernel
theorem dX8_shifted_64 : decode cX8_shifted 64 = .ok (.istore 4, 2) := by decide +kernel
theorem dX8_shifted_66 : decode cX8_shifted 66 = .ok (.iinc 5 1, 3) := by decide +kernel
theorem dX8_shifted_69 : decode cX8_shifted 69 = .ok (.goto (-26), 3) := by decide +kernel
theorem dX8_shifted_72 : decode cX8_shifted 72 = .ok (.iload 4, 2) := by decide +kernel
theorem dX8_shifted_74 : decode cX8_shifted 74 = .ok (.invokestatic 99, 3) := by decide +kernel
theorem dX8_shifted_77 : decode cX8_shifted 77 = .ok (.ireturn, 1) := by decide +kernel
theorem dX8_work_0 : decode cX8_work 0 = .ok (.aload_n 0, 1) := by decide +kernel
theorem dX8_work_1 : decode cX8_work 1 = .ok (.iconst 0, 1) := by decide +kernel
theorem dX8_work_2 : decode cX8_work 2 = .ok (.putfield 72, 3) := by decide +kernel
theorem dX8_work_5 : decode cX8_work 5 = .ok (.aload_n 0, 1) := by decide +kernel
theorem dX8_work_6 : decode cX8_work 6 = .ok (.iconst 0, 1) := by decide +kernel
theorem dX8_work_7 : decode cX8_work 7 = .ok (.putfield 81, 3) := by decide +kernel
theorem dX8_work_10 : decode cX8_work 10 = .ok (.iload_n 1, 1) := by decide +kernel
theorem dX8_work_11 : decode cX8_work 11 = .ok (.ifCond .lt 9, 3) := by decide +kernel
theorem dX8_work_14 : decode cX8_work 14 = .ok (.iload_n 1, 1) := by decide +kernel
theorem dX8_work_15 : decode cX8_work 15 = .ok (.bipush 9, 2) := by decide +kernel
theorem dX8_work_17 : decode cX8_work 17 = .ok (.if_icmp .le 10, 3) := by decide +kernel
theorem dX8_work_20 : decode cX8_work 20 = .ok (.aload_n 0, 1) := by decide +kernel
theorem dX8_work_21 : decode cX8_work 21 = .ok (.iconst 1, 1) := by decide +kernel
theorem dX8_work_22 : decode cX8_work 22 = .ok (.putfield 72, 3) := by decide +kernel
theorem dX8_work_25 : decode cX8_work 25 = .ok (.iconst 0, 1) := by decide +kernel
theorem dX8_work_26 : decode cX8_work 26 = .ok (.ireturn, 1) := by decide +kernel
theorem dX8_work_27 : decode cX8_work 27 = .ok (.aload_n 0, 1) := by decide +kernel
theorem dX8_work_28 : decode cX8_work 28 = .ok (.iload_n 1, 1) := by decide +kernel
theorem dX8_work_29 : decode cX8_work 29 = .ok (.iload_n 2, 1) := by decide +kernel
theorem dX8_work_30 : decode cX8_work 30 = .ok (.invokestatic 99, 3) := by decide +kernel
theorem dX8_work_33 : decode cX8_work 33 = .ok (.iload_n 3, 1) := by decide +kernel
theorem dX8_work_34 : decode cX8_work 34 = .ok (.invokestatic 99, 3) := by decide +kernel
theorem dX8_work_37 : decode cX8_work 37 = .ok (.invokevirtual 107, 3) := by decide +kernel
theorem dX8_work_40 : decode cX8_work 40 = .ok (.istore 4, 2) := by decide +kernel
theorem dX8_work_42 : decode cX8_work 42 = .ok (.aload_n 0, 1) := by decide +kernel
theorem dX8_work_43 : decode cX8_work 43 = .ok (.aload_n 0, 1) := by decide +kernel
theorem dX8_work_44 : decode cX8_work 44 = .ok (.getfield 81, 3) := by decide +kernel
theorem dX8_work_47 : decode cX8_work 47 = .ok (.ifCond .ne 7, 3) := by decide +kernel
theorem dX8_work_50 : decode cX8_work 50 = .ok (.iconst 0, 1) := by decide +kernel
theorem dX8_work_51 : decode cX8_work 51 = .ok (.goto 4, 3) := by decide +kernel
theorem dX8_work_54 : decode cX8_work 54 = .ok (.iconst 2, 1) := by decide +kernel
theorem dX8_work_55 : decode cX8_work 55 = .ok (.putfield 72, 3) := by decide +kernel
theorem dX8_work_58 : decode cX8_work 58 = .ok (.iload 4, 2) := by decide +kernel
theorem dX8_work_60 : decode cX8_work 60 = .ok (.ireturn, 1) := by decide +kernel
theorem dX8_copied_0 : decode cX8_copied 0 = .ok (.iload_n 3, 1) := by decide +kernel
theorem dX8_copied_1 : decode cX8_copied 1 = .ok (.ifCond .ge 8, 3) := by decide +kernel
theorem dX8_copied_4 : decode cX8_copied 4 = .ok (.iload_n 3, 1) := by decide +kernel
theorem dX8_copied_5 : decode cX8_copied 5 = .ok (.ineg, 1) := by decide +kernel
theorem dX8_copied_6 : decode cX8_copied 6 = .ok (.goto 4, 3) := by decide +kernel
theorem dX8_copied_9 : decode cX8_copied 9 = .ok (.iload_n 3, 1) := by decide +kernel
theorem dX8_copied_10 : decode cX8_copied 10 = .ok (.istore 4, 2) := by decide +kernel
theorem dX8_copied_12 : decode cX8_copied 12 = .ok (.iload 4, 2) := by decide +kernel
theorem dX8_copied_14 : decode cX8_copied 14 = .ok (.ifCond .ne 4, 3) := by decide +kernel
theorem dX8_copied_17 : decode cX8_copied 17 = .ok (.return_, 1) := by decide +kernel
theorem dX8_copied_18 : decode cX8_copied 18 = .ok (.iload_n 2, 1) := by decide +kernel
theorem dX8_copied_19 : decode cX8_copied 19 = .ok (.ifCond .ne 63, 3) := by decide +kernel
theorem dX8_copied_22 : decode cX8_copied 22 = .ok (.aload_n 0, 1) := by decide +kernel
theorem dX8_copied_23 : decode cX8_copied 23 = .ok (.iload_n 1, 1) := by decide +kernel
theorem dX8_copied_24 : decode cX8_copied 24 = .ok (.iload 4, 2) := by decide +kernel
theorem dX8_copied_26 : decode cX8_copied 26 = .ok (.invokevirtual 84, 3) := by decide +kernel
theorem dX8_copied_29 : decode cX8_copied 29 = .ok (.ifCond .eq 19, 3) := by decide +kernel
theorem dX8_copied_32 : decode cX8_copied 32 = .ok (.iload_n 1, 1) := by decide +kernel
theorem dX8_copied_33 : decode cX8_copied 33 = .ok (.iload 4, 2) := by decide +kernel
theorem dX8_copied_35 : decode cX8_copied 35 = .ok (.iadd, 1) := by decide +kernel
theorem dX8_copied_36 : decode cX8_copied 36 = .ok (.aload_n 0, 1) := by decide +kernel
theorem dX8_copied_37 : decode cX8_copied 37 = .ok (.getfield 88, 3) := by decide +kernel
theorem dX8_copied_40 : decode cX8_copied 40 = .ok (.if_icmp .le 8, 3) := by decide +kernel
theorem dX8_copied_43 : decode cX8_copied 43 = .ok (.aload_n 0, 1) := by decide +kernel
theorem dX8_copied_44 : decode cX8_copied 44 = .ok (.iconst 3, 1) := by decide +kernel
theorem dX8_copied_45 : decode cX8_copied 45 = .ok (.putfield 81, 3) := by decide +kernel
theorem dX8_copied_48 : decode cX8_copied 48 = .ok (.iconst 0, 1) := by decide +kernel
theorem dX8_copied_49 : decode cX8_copied 49 = .ok (.istore 5, 2) := by decide +kernel
theorem dX8_copied_51 : decode cX8_copied 51 = .ok (.iload 5, 2) := by decide +kernel
theorem dX8_copied_53 : decode cX8_copied 53 = .ok (.iload 4, 2) := by decide +kernel
theorem dX8_copied_55 : decode cX8_copied 55 = .ok (.if_icmp .ge 26, 3) := by decide +kernel
theorem dX8_copied_58 : decode cX8_copied 58 = .ok (.aload_n 0, 1) := by decide +kernel
theorem dX8_copied_59 : decode cX8_copied 59 = .ok (.getfield 81, 3) := by decide +kernel
theorem dX8_copied_62 : decode cX8_copied 62 = .ok (.ifCond .ne 19, 3) := by decide +kernel
theorem dX8_copied_65 : decode cX8_copied 65 = .ok (.aload_n 0, 1) := by decide +kernel
theorem dX8_copied_66 : decode cX8_copied 66 = .ok (.getfield 7, 3) := by decide +kernel
theorem dX8_copied_69 : decode cX8_copied 69 = .ok (.iload_n 1, 1) := by decide +kernel
theorem dX8_copied_70 : decode cX8_copied 70 = .ok (.iload 5, 2) := by decide +kernel
theorem dX8_copied_72 : decode cX8_copied 72 = .ok (.iadd, 1) := by decide +kernel
theorem dX8_copied_73 : decode cX8_copied 73 = .ok (.iconst 0, 1) := by decide +kernel
theorem dX8_copied_74 : decode cX8_copied 74 = .ok (.iastore, 1) := by decide +kernel
theorem dX8_copied_75 : decode cX8_copied 75 = .ok (.iinc 5 1, 3) := by decide +kernel
theorem dX8_copied_78 : decode cX8_copied 78 = .ok (.goto (-27), 3) := by decide +kernel
theorem dX8_copied_81 : decode cX8_copied 81 = .ok (.return_, 1) := by decide +kernel
theorem dX8_copied_82 : decode cX8_copied 82 = .ok (.iload_n 3, 1) := by decide +kernel
theorem dX8_copied_83 : decode cX8_copied 83 = .ok (.ifCond .ge 57, 3) := by decide +kernel
theorem dX8_copied_86 : decode cX8_copied 86 = .ok (.iconst 0, 1) := by decide +kernel
theorem dX8_copied_87 : decode cX8_copied 87 = .ok (.istore 5, 2) := by decide +kernel
theorem dX8_copied_89 : decode cX8_copied 89 = .ok (.iload 5, 2) := by decide +kernel
theorem dX8_copied_91 : decode cX8_copied 91 = .ok (.iload 4, 2) := by decide +kernel
theorem dX8_copied_93 : decode cX8_copied 93 = .ok (.if_icmp .ge 46, 3) := by decide +kernel
theorem dX8_copied_96 : decode cX8_copied 96 = .ok (.aload_n 0, 1) := by decide +kernel
theorem dX8_copied_97 : decode cX8_copied 97 = .ok (.getfield 81, 3) := by decide +kernel
theorem dX8_copied_100 : decode cX8_copied 100 = .ok (.ifCond .ne 39, 3) := by decide +kernel
theorem dX8_copied_103 : decode cX8_copied 103 = .ok (.aload_n 0, 1) := by decide +kernel
theorem dX8_copied_104 : decode cX8_copied 104 = .ok (.iload_n 1, 1) := by decide +kernel
theorem dX8_copied_105 : decode cX8_copied 105 = .ok (.iload 5, 2) := by decide +kernel
theorem dX8_copied_107 : decode cX8_copied 107 = .ok (.iadd, 1) := by decide +kernel
theorem dX8_copied_108 : decode cX8_copied 108 = .ok (.iconst 0, 1) := by decide +kernel
theorem dX8_copied_109 : decode cX8_copied 109 = .ok (.invokevirtual 91, 3) := by decide +kernel
theorem dX8_copied_112 : decode cX8_copied 112 = .ok (.istore 6, 2) := by decide +kernel
theorem dX8_copied_114 : decode cX8_copied 114 = .ok (.aload_n 0, 1) := by decide +kernel
theorem dX8_copied_115 : decode cX8_copied 115 = .ok (.getfield 81, 3) := by decide +kernel
theorem dX8_copied_118 : decode cX8_copied 118 = .ok (.ifCond .ne 15, 3) := by decide +kernel
theorem dX8_copied_121 : decode cX8_copied 121 = .ok (.aload_n 0, 1) := by decide +kernel
theorem dX8_copied_122 : decode cX8_copied 122 = .ok (.iload_n 2, 1) := by decide +kernel
theorem dX8_copied_123 : decode cX8_copied 123 = .ok (.iload 5, 2) := by decide +kernel
theorem dX8_copied_125 : decode cX8_copied 125 = .ok (.iadd, 1) := by decide +kernel
theorem dX8_copied_126 : decode cX8_copied 126 = .ok (.iload 6, 2) := by decide +kernel
theorem dX8_copied_128 : decode cX8_copied 128 = .ok (.iconst 0, 1) := by decide +kernel
theorem dX8_copied_129 : decode cX8_copied 129 = .ok (.iconst 0, 1) := by decide +kernel
theorem dX8_copied_130 : decode cX8_copied 130 = .ok (.invokevirtual 95, 3) := by decide +kernel
theorem dX8_copied_133 : decode cX8_copied 133 = .ok (.iinc 5 1, 3) := by decide +kernel
theorem dX8_copied_136 : decode cX8_copied 136 = .ok (.goto (-47), 3) := by decide +kernel
theorem dX8_copied_139 : decode cX8_copied 139 = .ok (.return_, 1) := by decide +kernel
theorem dX8_copied_140 : decode cX8_copied 140 = .ok (.aload_n 0, 1) := by decide +kernel
theorem dX8_copied_141 : decode cX8_copied 141 = .ok (.iload_n 1, 1) := by decide +kernel
theorem dX8_copied_142 : decode cX8_copied 142 = .ok (.iload 4, 2) := by decide +kernel
theorem dX8_copied_144 : decode cX8_copied 144 = .ok (.invokevirtual 84, 3) := by decide +kernel
theorem dX8_copied_147 : decode cX8_copied 147 = .ok (.ifCond .eq 29, 3) := by decide +kernel
theorem dX8_copied_150 : decode cX8_copied 150 = .ok (.aload_n 0, 1) := by decide +kernel
theorem dX8_copied_151 : decode cX8_copied 151 = .ok (.iload_n 2, 1) := by decide +kernel
theorem dX8_copied_152 : decode cX8_copied 152 = .ok (.iload 4, 2) := by decide +kernel
theorem dX8_copied_154 : decode cX8_copied 154 = .ok (.invokevirtual 84, 3) := by decide +kernel
theorem dX8_copied_157 : decode cX8_copied 157 = .ok (.ifCond .eq 19, 3) := by decide +kernel
theorem dX8_copied_160 : decode cX8_copied 160 = .ok (.iload_n 2, 1) := by decide +kernel
theorem dX8_copied_161 : decode cX8_copied 161 = .ok (.iload 4, 2) := by decide +kernel
theorem dX8_copied_163 : decode cX8_copied 163 = .ok (.iadd, 1) := by decide +kernel
theorem dX8_copied_164 : decode cX8_copied 164 = .ok (.aload_n 0, 1) := by decide +kernel
theorem dX8_copied_165 : decode cX8_copied 165 = .ok (.getfield 88, 3) := by decide +kernel
theorem dX8_copied_168 : decode cX8_copied 168 = .ok (.if_icmp .le 8, 3) := by decide +kernel
theorem dX8_copied_171 : decode cX8_copied 171 = .ok (.aload_n 0, 1) := by decide +kernel
theorem dX8_copied_172 : decode cX8_copied 172 = .ok (.iconst 3, 1) := by decide +kernel
theorem dX8_copied_173 : decode cX8_copied 173 = .ok (.putfield 81, 3) := by decide +kernel
theorem dX8_copied_176 : decode cX8_copied 176 = .ok (.iconst 0, 1) := by decide +kernel
theorem dX8_copied_177 : decode cX8_copied 177 = .ok (.istore 5, 2) := by decide +kernel
theorem dX8_copied_179 : decode cX8_copied 179 = .ok (.iload 5, 2) := by decide +kernel
theorem dX8_copied_181 : decode cX8_copied 181 = .ok (.iload 4, 2) := by decide +kernel
theorem dX8_copied_183 : decode cX8_copied 183 = .ok (.if_icmp .ge 32, 3) := by decide +kernel
theorem dX8_copied_186 : decode cX8_copied 186 = .ok (.aload_n 0, 1) := by decide +kernel
theorem dX8_copied_187 : decode cX8_copied 187 = .ok (.getfield 81, 3) := by decide +kernel
theorem dX8_copied_190 : decode cX8_copied 190 = .ok (.ifCond .ne 25, 3) := by decide +kernel
theorem dX8_copied_193 : decode cX8_copied 193 = .ok (.aload_n 0, 1) := by decide +kernel
theorem dX8_copied_194 : decode cX8_copied 194 = .ok (.getfield 23, 3) := by decide +kernel
theorem dX8_copied_197 : decode cX8_copied 197 = .ok (.iload 5, 2) := by decide +kernel
theorem dX8_copied_199 : decode cX8_copied 199 = .ok (.aload_n 0, 1) := by decide +kernel
theorem dX8_copied_200 : decode cX8_copied 200 = .ok (.getfield 7, 3) := by decide +kernel
theorem dX8_copied_203 : decode cX8_copied 203 = .ok (.iload_n 1, 1) := by decide +kernel
theorem dX8_copied_204 : decode cX8_copied 204 = .ok (.iload 5, 2) := by decide +kernel
theorem dX8_copied_206 : decode cX8_copied 206 = .ok (.iadd, 1) := by decide +kernel
theorem dX8_copied_207 : decode cX8_copied 207 = .ok (.iaload, 1) := by decide +kernel
theorem dX8_copied_208 : decode cX8_copied 208 = .ok (.iastore, 1) := by decide +kernel
theorem dX8_copied_209 : decode cX8_copied 209 = .ok (.iinc 5 1, 3) := by decide +kernel
theorem dX8_copied_212 : decode cX8_copied 212 = .ok (.goto (-33), 3) := by decide +kernel
theorem dX8_copied_215 : decode cX8_copied 215 = .ok (.iconst 0, 1) := by decide +kernel
theorem dX8_copied_216 : decode cX8_copied 216 = .ok (.istore 5, 2) := by decide +kernel
theorem dX8_copied_218 : decode cX8_copied 218 = .ok (.iload 5, 2) := by decide +kernel
theorem dX8_copied_220 : decode cX8_copied 220 = .ok (.iload 4, 2) := by decide +kernel
theorem dX8_copied_222 : decode cX8_copied 222 = .ok (.if_icmp .ge 32, 3) := by decide +kernel
theorem dX8_copied_225 : decode cX8_copied 225 = .ok (.aload_n 0, 1) := by decide +kernel
theorem dX8_copied_226 : decode cX8_copied 226 = .ok (.getfield 81, 3) := by decide +kernel
theorem dX8_copied_229 : decode cX8_copied 229 = .ok (.ifCond .ne 25, 3) := by decide +kernel
theorem dX8_copied_232 : decode cX8_copied 232 = .ok (.aload_n 0, 1) := by decide +kernel
theorem dX8_copied_233 : decode cX8_copied 233 = .ok (.getfield 7, 3) := by decide +kernel
theorem dX8_copied_236 : decode cX8_copied 236 = .ok (.iload_n 2, 1) := by decide +kernel
theorem dX8_copied_237 : decode cX8_copied 237 = .ok (.iload 5, 2) := by decide +kernel
theorem dX8_copied_239 : decode cX8_copied 239 = .ok (.iadd, 1) := by decide +kernel
theorem dX8_copied_240 : decode cX8_copied 240 = .ok (.aload_n 0, 1) := by decide +kernel
theorem dX8_copied_241 : decode cX8_copied 241 = .ok (.getfield 23, 3) := by decide +kernel
theorem dX8_copied_244 : decode cX8_copied 244 = .ok (.iload 5, 2) := by decide +kernel
theorem dX8_copied_246 : decode cX8_copied 246 = .ok (.iaload, 1) := by decide +kernel
theorem dX8_copied_247 : decode cX8_copied 247 = .ok (.iastore, 1) := by decide +kernel
theorem dX8_copied_248 : decode cX8_copied 248 = .ok (.iinc 5 1, 3) := by decide +kernel
theorem dX8_copied_251 : decode cX8_copied 251 = .ok (.goto (-33), 3) := by decide +kernel
theorem dX8_copied_254 : decode cX8_copied 254 = .ok (.return_, 1) := by decide +kernel
theorem dX8_copy_0 : decode cX8_copy 0 = .ok (.aload_n 0, 1) := by decide +kernel
theorem dX8_copy_1 : decode cX8_copy 1 = .ok (.iconst 0, 1) := by decide +kernel
theorem dX8_copy_2 : decode cX8_copy 2 = .ok (.putfield 72, 3) := by decide +kernel
theorem dX8_copy_5 : decode cX8_copy 5 = .ok (.aload_n 0, 1) := by decide +kernel
theorem dX8_copy_6 : decode cX8_copy 6 = .ok (.iconst 0, 1) := by decide +kernel
theorem dX8_copy_7 : decode cX8_copy 7 = .ok (.putfield 81, 3) := by decide +kernel
theorem dX8_copy_10 : decode cX8_copy 10 = .ok (.aload_n 0, 1) := by decide +kernel
theorem dX8_copy_11 : decode cX8_copy 11 = .ok (.iload_n 1, 1) := by decide +kernel
theorem dX8_copy_12 : decode cX8_copy 12 = .ok (.ldc 75, 2) := by decide +kernel
theorem dX8_copy_14 : decode cX8_copy 14 = .ok (.iand, 1) := by decide +kernel
theorem dX8_copy_15 : decode cX8_copy 15 = .ok (.iload_n 2, 1) := by decide +kernel
theorem dX8_copy_16 : decode cX8_copy 16 = .ok (.ldc 75, 2) := by decide +kernel
theorem dX8_copy_18 : decode cX8_copy 18 = .ok (.iand, 1) := by decide +kernel
theorem dX8_copy_19 : decode cX8_copy 19 = .ok (.iload_n 3, 1) := by decide +kernel
theorem dX8_copy_20 : decode cX8_copy 20 = .ok (.invokestatic 99, 3) := by decide +kernel
theorem dX8_copy_23 : decode cX8_copy 23 = .ok (.invokevirtual 111, 3) := by decide +kernel
theorem dX8_copy_26 : decode cX8_copy 26 = .ok (.aload_n 0, 1) := by decide +kernel
theorem dX8_copy_27 : decode cX8_copy 27 = .ok (.getfield 81, 3) := by decide +kernel
theorem dX8_copy_30 : decode cX8_copy 30 = .ok (.ifCond .ne 7, 3) := by decide +kernel
theorem dX8_copy_33 : decode cX8_copy 33 = .ok (.iconst 1, 1) := by decide +kernel
theorem dX8_copy_34 : decode cX8_copy 34 = .ok (.goto 10, 3) := by decide +kernel
theorem dX8_copy_37 : decode cX8_copy 37 = .ok (.bipush (-10), 2) := by decide +kernel
theorem dX8_copy_39 : decode cX8_copy 39 = .ok (.aload_n 0, 1) := by decide +kernel
theorem dX8_copy_40 : decode cX8_copy 40 = .ok (.getfield 81, 3) := by decide +kernel
theorem dX8_copy_43 : decode cX8_copy 43 = .ok (.isub, 1) := by decide +kernel
theorem dX8_copy_44 : decode cX8_copy 44 = .ok (.ireturn, 1) := by decide +kernel
theorem dX8_looked_0 : decode cX8_looked 0 = .ok (.iload 4, 2) := by decide +kernel
theorem dX8_looked_2 : decode cX8_looked 2 = .ok (.bipush 127, 2) := by decide +kernel
theorem dX8_looked_4 : decode cX8_looked 4 = .ok (.iand, 1) := by decide +kernel
theorem dX8_looked_5 : decode cX8_looked 5 = .ok (.istore 5, 2) := by decide +kernel
theorem dX8_looked_7 : decode cX8_looked 7 = .ok (.iload_n 2, 1) := by decide +kernel
theorem dX8_looked_8 : decode cX8_looked 8 = .ok (.istore 6, 2) := by decide +kernel
theorem dX8_looked_10 : decode cX8_looked 10 = .ok (.iconst 0, 1) := by decide +kernel
theorem dX8_looked_11 : decode cX8_looked 11 = .ok (.istore 7, 2) := by decide +kernel
theorem dX8_looked_13 : decode cX8_looked 13 = .ok (.iload 7, 2) := by decide +kernel
theorem dX8_looked_15 : decode cX8_looked 15 = .ok (.iload_n 3, 1) := by decide +kernel
theorem dX8_looked_16 : decode cX8_looked 16 = .ok (.if_icmp .ge 55, 3) := by decide +kernel
theorem dX8_looked_19 : decode cX8_looked 19 = .ok (.aload_n 0, 1) := by decide +kernel
theorem dX8_looked_20 : decode cX8_looked 20 = .ok (.iload 6, 2) := by decide +kernel
theorem dX8_looked_22 : decode cX8_looked 22 = .ok (.iload 4, 2) := by decide +kernel
theorem dX8_looked_24 : decode cX8_looked 24 = .ok (.sipush 128, 3) := by decide +kernel
theorem dX8_looked_27 : decode cX8_looked 27 = .ok (.if_icmp .lt 7, 3) := by decide +kernel
theorem dX8_looked_30 : decode cX8_looked 30 = .ok (.iconst 1, 1) := by decide +kernel
theorem dX8_looked_31 : decode cX8_looked 31 = .ok (.goto 4, 3) := by decide +kernel
theorem dX8_looked_34 : decode cX8_looked 34 = .ok (.iconst 0, 1) := by decide +kernel
theorem dX8_looked_35 : decode cX8_looked 35 = .ok (.invokevirtual 91, 3) := by decide +kernel
theorem dX8_looked_38 : decode cX8_looked 38 = .ok (.istore 8, 2) := by decide +kernel
theorem dX8_looked_40 : decode cX8_looked 40 = .ok (.aload_n 0, 1) := by decide +kernel
theorem dX8_looked_41 : decode cX8_looked 41 = .ok (.getfield 81, 3) := by decide +kernel
theorem dX8_looked_44 : decode cX8_looked 44 = .ok (.ifCond .eq 5, 3) := by decide +kernel
theorem dX8_looked_47 : decode cX8_looked 47 = .ok (.iconst 0, 1) := by decide +kernel
theorem dX8_looked_48 : decode cX8_looked 48 = .ok (.ireturn, 1) := by decide +kernel
theorem dX8_looked_49 : decode cX8_looked 49 = .ok (.iload 8, 2) := by decide +kernel
theorem dX8_looked_51 : decode cX8_looked 51 = .ok (.iload_n 1, 1) := by decide +kernel
theorem dX8_looked_52 : decode cX8_looked 52 = .ok (.if_icmp .ne 6, 3) := by decide +kernel
theorem dX8_looked_55 : decode cX8_looked 55 = .ok (.iload 6, 2) := by decide +kernel
theorem dX8_looked_57 : decode cX8_looked 57 = .ok (.ireturn, 1) := by decide +kernel
theorem dX8_looked_58 : decode cX8_looked 58 = .ok (.iload 6, 2) := by decide +kernel
theorem dX8_looked_60 : decode cX8_looked 60 = .ok (.iload 5, 2) := by decide +kernel
theorem dX8_looked_62 : decode cX8_looked 62 = .ok (.iadd, 1) := by decide +kernel
theorem dX8_looked_63 : decode cX8_looked 63 = .ok (.istore 6, 2) := by decide +kernel
theorem dX8_looked_65 : decode cX8_looked 65 = .ok (.iinc 7 1, 3) := by decide +kernel
theorem dX8_looked_68 : decode cX8_looked 68 = .ok (.goto (-55), 3) := by decide +kernel
theorem dX8_looked_71 : decode cX8_looked 71 = .ok (.iconst 0, 1) := by decide +kernel
theorem dX8_looked_72 : decode cX8_looked 72 = .ok (.ireturn, 1) := by decide +kernel
theorem dX8_look_0 : decode cX8_look 0 = .ok (.aload_n 0, 1) := by decide +kernel
theorem dX8_look_1 : decode cX8_look 1 = .ok (.iconst 0, 1) := by decide +kernel
theorem dX8_look_2 : decode cX8_look 2 = .ok (.putfield 72, 3) := by decide +kernel
theorem dX8_look_5 : decode cX8_look 5 = .ok (.iload 4, 2) := by decide +kernel
theorem dX8_look_7 : decode cX8_look 7 = .ok (.ifCond .lt 11, 3) := by decide +kernel
theorem dX8_look_10 : decode cX8_look 10 = .ok (.iload 4, 2) := by decide +kernel
theorem dX8_look_12 : decode cX8_look 12 = .ok (.sipush 255, 3) := by decide +kernel
theorem dX8_look_15 : decode cX8_look 15 = .ok (.if_icmp .le 6, 3) := by decide +kernel
theorem dX8_look_18 : decode cX8_look 18 = .ok (.bipush (-2), 2) := by decide +kernel
theorem dX8_look_20 : decode cX8_look 20 = .ok (.ireturn, 1) := by decide +kernel
theorem dX8_look_21 : decode cX8_look 21 = .ok (.aload_n 0, 1) := by decide +kernel
theorem dX8_look_22 : decode cX8_look 22 = .ok (.iconst 0, 1) := by decide +kernel
theorem dX8_look_23 : decode cX8_look 23 = .ok (.putfield 81, 3) := by decide +kernel
theorem dX8_look_26 : decode cX8_look 26 = .ok (.aload_n 0, 1) := by decide +kernel
theorem dX8_look_27 : decode cX8_look 27 = .ok (.iload_n 1, 1) := by decide +kernel
theorem dX8_look_28 : decode cX8_look 28 = .ok (.ldc 75, 2) := by decide +kernel
theorem dX8_look_30 : decode cX8_look 30 = .ok (.iand, 1) := by decide +kernel
theorem dX8_look_31 : decode cX8_look 31 = .ok (.iload_n 2, 1) := by decide +kernel
theorem dX8_look_32 : decode cX8_look 32 = .ok (.ldc 75, 2) := by decide +kernel
theorem dX8_look_34 : decode cX8_look 34 = .ok (.iand, 1) := by decide +kernel
theorem dX8_look_35 : decode cX8_look 35 = .ok (.iload_n 3, 1) := by decide +kernel
theorem dX8_look_36 : decode cX8_look 36 = .ok (.invokestatic 99, 3) := by decide +kernel
theorem dX8_look_39 : decode cX8_look 39 = .ok (.iload 4, 2) := by decide +kernel
theorem dX8_look_41 : decode cX8_look 41 = .ok (.invokevirtual 115, 3) := by decide +kernel
theorem dX8_look_44 : decode cX8_look 44 = .ok (.istore 5, 2) := by decide +kernel
theorem dX8_look_46 : decode cX8_look 46 = .ok (.aload_n 0, 1) := by decide +kernel
theorem dX8_look_47 : decode cX8_look 47 = .ok (.getfield 81, 3) := by decide +kernel
theorem dX8_look_50 : decode cX8_look 50 = .ok (.ifCond .ne 8, 3) := by decide +kernel
theorem dX8_look_53 : decode cX8_look 53 = .ok (.iload 5, 2) := by decide +kernel
theorem dX8_look_55 : decode cX8_look 55 = .ok (.goto 10, 3) := by decide +kernel
theorem dX8_look_58 : decode cX8_look 58 = .ok (.bipush (-10), 2) := by decide +kernel
theorem dX8_look_60 : decode cX8_look 60 = .ok (.aload_n 0, 1) := by decide +kernel
theorem dX8_look_61 : decode cX8_look 61 = .ok (.getfield 81, 3) := by decide +kernel
theorem dX8_look_64 : decode cX8_look 64 = .ok (.isub, 1) := by decide +kernel
theorem dX8_look_65 : decode cX8_look 65 = .ok (.ireturn, 1) := by decide +kernel
theorem dX8_drawn_0 : decode cX8_drawn 0 = .ok (.iload_n 1, 1) := by decide +kernel
theorem dX8_drawn_1 : decode cX8_drawn 1 = .ok (.ifCond .le 147, 3) := by decide +kernel
theorem dX8_drawn_4 : decode cX8_drawn 4 = .ok (.aload_n 0, 1) := by decide +kernel
theorem dX8_drawn_5 : decode cX8_drawn 5 = .ok (.getfield 119, 3) := by decide +kernel
theorem dX8_drawn_8 : decode cX8_drawn 8 = .ok (.iconst 1, 1) := by decide +kernel
theorem dX8_drawn_9 : decode cX8_drawn 9 = .ok (.if_icmp .ne 41, 3) := by decide +kernel
theorem dX8_drawn_12 : decode cX8_drawn 12 = .ok (.aload_n 0, 1) := by decide +kernel
theorem dX8_drawn_13 : decode cX8_drawn 13 = .ok (.getfield 122, 3) := by decide +kernel
theorem dX8_drawn_16 : decode cX8_drawn 16 = .ok (.iconst 1, 1) := by decide +kernel
theorem dX8_drawn_17 : decode cX8_drawn 17 = .ok (.isub, 1) := by decide +kernel
theorem dX8_drawn_18 : decode cX8_drawn 18 = .ok (.iload_n 1, 1) := by decide +kernel
theorem dX8_drawn_19 : decode cX8_drawn 19 = .ok (.irem, 1) := by decide +kernel
theorem dX8_drawn_20 : decode cX8_drawn 20 = .ok (.iconst 1, 1) := by decide +kernel
theorem dX8_drawn_21 : decode cX8_drawn 21 = .ok (.iadd, 1) := by decide +kernel
theorem dX8_drawn_22 : decode cX8_drawn 22 = .ok (.istore_n 2, 1) := by decide +kernel
theorem dX8_drawn_23 : decode cX8_drawn 23 = .ok (.aload_n 0, 1) := by decide +kernel
theorem dX8_drawn_24 : decode cX8_drawn 24 = .ok (.aload_n 0, 1) := by decide +kernel
theorem dX8_drawn_25 : decode cX8_drawn 25 = .ok (.getfield 122, 3) := by decide +kernel
theorem dX8_drawn_28 : decode cX8_drawn 28 = .ok (.aload_n 0, 1) := by decide +kernel
theorem dX8_drawn_29 : decode cX8_drawn 29 = .ok (.getfield 125, 3) := by decide +kernel
theorem dX8_drawn_32 : decode cX8_drawn 32 = .ok (.if_icmp .ne 7, 3) := by decide +kernel
theorem dX8_drawn_35 : decode cX8_drawn 35 = .ok (.iconst 1, 1) := by decide +kernel
theorem dX8_drawn_36 : decode cX8_drawn 36 = .ok (.goto 9, 3) := by decide +kernel
theorem dX8_drawn_39 : decode cX8_drawn 39 = .ok (.aload_n 0, 1) := by decide +kernel
theorem dX8_drawn_40 : decode cX8_drawn 40 = .ok (.getfield 122, 3) := by decide +kernel
theorem dX8_drawn_43 : decode cX8_drawn 43 = .ok (.iconst 1, 1) := by decide +kernel
theorem dX8_drawn_44 : decode cX8_drawn 44 = .ok (.iadd, 1) := by decide +kernel
theorem dX8_drawn_45 : decode cX8_drawn 45 = .ok (.putfield 122, 3) := by decide +kernel
theorem dX8_drawn_48 : decode cX8_drawn 48 = .ok (.iload_n 2, 1) := by decide +kernel
theorem dX8_drawn_49 : decode cX8_drawn 49 = .ok (.ireturn, 1) := by decide +kernel
theorem dX8_drawn_50 : decode cX8_drawn 50 = .ok (.aload_n 0, 1) := by decide +kernel
theorem dX8_drawn_51 : decode cX8_drawn 51 = .ok (.getfield 119, 3) := by decide +kernel
theorem dX8_drawn_54 : decode cX8_drawn 54 = .ok (.iconst 2, 1) := by decide +kernel
theorem dX8_drawn_55 : decode cX8_drawn 55 = .ok (.if_icmp .ne 63, 3) := by decide +kernel
theorem dX8_drawn_58 : decode cX8_drawn 58 = .ok (.aload_n 0, 1) := by decide +kernel
theorem dX8_drawn_59 : decode cX8_drawn 59 = .ok (.getfield 128, 3) := by decide +kernel
theorem dX8_drawn_62 : decode cX8_drawn 62 = .ok (.ifCond .le 56, 3) := by decide +kernel
theorem dX8_drawn_65 : decode cX8_drawn 65 = .ok (.aload_n 0, 1) := by decide +kernel
theorem dX8_drawn_66 : decode cX8_drawn 66 = .ok (.getfield 20, 3) := by decide +kernel
theorem dX8_drawn_69 : decode cX8_drawn 69 = .ok (.iconst 0, 1) := by decide +kernel
theorem dX8_drawn_70 : decode cX8_drawn 70 = .ok (.iaload, 1) := by decide +kernel
theorem dX8_drawn_71 : decode cX8_drawn 71 = .ok (.istore_n 2, 1) := by decide +kernel
theorem dX8_drawn_72 : decode cX8_drawn 72 = .ok (.aload_n 0, 1) := by decide +kernel
theorem dX8_drawn_73 : decode cX8_drawn 73 = .ok (.dup, 1) := by decide +kernel
theorem dX8_drawn_74 : decode cX8_drawn 74 = .ok (.getfield 128, 3) := by decide +kernel
theorem dX8_drawn_77 : decode cX8_drawn 77 = .ok (.iconst 1, 1) := by decide +kernel
theorem dX8_drawn_78 : decode cX8_drawn 78 = .ok (.isub, 1) := by decide +kernel
theorem dX8_drawn_79 : decode cX8_drawn 79 = .ok (.putfield 128, 3) := by decide +kernel
theorem dX8_drawn_82 : decode cX8_drawn 82 = .ok (.iconst 0, 1) := by decide +kernel
theorem dX8_drawn_83 : decode cX8_drawn 83 = .ok (.istore_n 3, 1) := by decide +kernel
theorem dX8_drawn_84 : decode cX8_drawn 84 = .ok (.iload_n 3, 1) := by decide +kernel
theorem dX8_drawn_85 : decode cX8_drawn 85 = .ok (.aload_n 0, 1) := by decide +kernel
theorem dX8_drawn_86 : decode cX8_drawn 86 = .ok (.getfield 128, 3) := by decide +kernel
theorem dX8_drawn_89 : decode cX8_drawn 89 = .ok (.if_icmp .ge 23, 3) := by decide +kernel
theorem dX8_drawn_92 : decode cX8_drawn 92 = .ok (.aload_n 0, 1) := by decide +kernel
theorem dX8_drawn_93 : decode cX8_drawn 93 = .ok (.getfield 20, 3) := by decide +kernel
theorem dX8_drawn_96 : decode cX8_drawn 96 = .ok (.iload_n 3, 1) := by decide +kernel
theorem dX8_drawn_97 : decode cX8_drawn 97 = .ok (.aload_n 0, 1) := by decide +kernel
theorem dX8_drawn_98 : decode cX8_drawn 98 = .ok (.getfield 20, 3) := by decide +kernel
theorem dX8_drawn_101 : decode cX8_drawn 101 = .ok (.iload_n 3, 1) := by decide +kernel
theorem dX8_drawn_102 : decode cX8_drawn 102 = .ok (.iconst 1, 1) := by decide +kernel
theorem dX8_drawn_103 : decode cX8_drawn 103 = .ok (.iadd, 1) := by decide +kernel
theorem dX8_drawn_104 : decode cX8_drawn 104 = .ok (.iaload, 1) := by decide +kernel
theorem dX8_drawn_105 : decode cX8_drawn 105 = .ok (.iastore, 1) := by decide +kernel
theorem dX8_drawn_106 : decode cX8_drawn 106 = .ok (.iinc 3 1, 3) := by decide +kernel
theorem dX8_drawn_109 : decode cX8_drawn 109 = .ok (.goto (-25), 3) := by decide +kernel
theorem dX8_drawn_112 : decode cX8_drawn 112 = .ok (.iload_n 2, 1) := by decide +kernel
theorem dX8_drawn_113 : decode cX8_drawn 113 = .ok (.iload_n 1, 1) := by decide +kernel
theorem dX8_drawn_114 : decode cX8_drawn 114 = .ok (.irem, 1) := by decide +kernel
theorem dX8_drawn_115 : decode cX8_drawn 115 = .ok (.iconst 1, 1) := by decide +kernel
theorem dX8_drawn_116 : decode cX8_drawn 116 = .ok (.iadd, 1) := by decide +kernel
theorem dX8_drawn_117 : decode cX8_drawn 117 = .ok (.ireturn, 1) := by decide +kernel
theorem dX8_drawn_118 : decode cX8_drawn 118 = .ok (.aload_n 0, 1) := by decide +kernel
theorem dX8_drawn_119 : decode cX8_drawn 119 = .ok (.aload_n 0, 1) := by decide +kernel
theorem dX8_drawn_120 : decode cX8_drawn 120 = .ok (.getfield 17, 3) := by decide +kernel
theorem dX8_drawn_123 : decode cX8_drawn 123 = .ok (.ldc 131, 2) := by decide +kernel
theorem dX8_drawn_125 : decode cX8_drawn 125 = .ok (.imul, 1) := by decide +kernel
theorem dX8_drawn_126 : decode cX8_drawn 126 = .ok (.sipush 12345, 3) := by decide +kernel
theorem dX8_drawn_129 : decode cX8_drawn 129 = .ok (.iadd, 1) := by decide +kernel
theorem dX8_drawn_130 : decode cX8_drawn 130 = .ok (.ldc 132, 2) := by decide +kernel
theorem dX8_drawn_132 : decode cX8_drawn 132 = .ok (.iand, 1) := by decide +kernel
theorem dX8_drawn_133 : decode cX8_drawn 133 = .ok (.putfield 17, 3) := by decide +kernel
theorem dX8_drawn_136 : decode cX8_drawn 136 = .ok (.aload_n 0, 1) := by decide +kernel
theorem dX8_drawn_137 : decode cX8_drawn 137 = .ok (.getfield 17, 3) := by decide +kernel
theorem dX8_drawn_140 : decode cX8_drawn 140 = .ok (.bipush 16, 2) := by decide +kernel
theorem dX8_drawn_142 : decode cX8_drawn 142 = .ok (.iushr, 1) := by decide +kernel
theorem dX8_drawn_143 : decode cX8_drawn 143 = .ok (.iload_n 1, 1) := by decide +kernel
theorem dX8_drawn_144 : decode cX8_drawn 144 = .ok (.irem, 1) := by decide +kernel
theorem dX8_drawn_145 : decode cX8_drawn 145 = .ok (.iconst 1, 1) := by decide +kernel
theorem dX8_drawn_146 : decode cX8_drawn 146 = .ok (.iadd, 1) := by decide +kernel
theorem dX8_drawn_147 : decode cX8_drawn 147 = .ok (.ireturn, 1) := by decide +kernel
theorem dX8_drawn_148 : decode cX8_drawn 148 = .ok (.iload_n 1, 1) := by decide +kernel
theorem dX8_drawn_149 : decode cX8_drawn 149 = .ok (.ifCond .ne 11, 3) := by decide +kernel
theorem dX8_drawn_152 : decode cX8_drawn 152 = .ok (.aload_n 0, 1) := by decide +kernel
theorem dX8_drawn_153 : decode cX8_drawn 153 = .ok (.iconst 2, 1) := by decide +kernel
theorem dX8_drawn_154 : decode cX8_drawn 154 = .ok (.putfield 119, 3) := by decide +kernel
theorem dX8_drawn_157 : decode cX8_drawn 157 = .ok (.goto 41, 3) := by decide +kernel
theorem dX8_drawn_160 : decode cX8_drawn 160 = .ok (.iload_n 1, 1) := by decide +kernel
theorem dX8_drawn_161 : decode cX8_drawn 161 = .ok (.ineg, 1) := by decide +kernel
theorem dX8_drawn_162 : decode cX8_drawn 162 = .ok (.sipush 1000, 3) := by decide +kernel
theorem dX8_drawn_165 : decode cX8_drawn 165 = .ok (.if_icmp .ge 22, 3) := by decide +kernel
theorem dX8_drawn_168 : decode cX8_drawn 168 = .ok (.aload_n 0, 1) := by decide +kernel
theorem dX8_drawn_169 : decode cX8_drawn 169 = .ok (.iconst 1, 1) := by decide +kernel
theorem dX8_drawn_170 : decode cX8_drawn 170 = .ok (.putfield 119, 3) := by decide +kernel
theorem dX8_drawn_173 : decode cX8_drawn 173 = .ok (.aload_n 0, 1) := by decide +kernel
theorem dX8_drawn_174 : decode cX8_drawn 174 = .ok (.iload_n 1, 1) := by decide +kernel
theorem dX8_drawn_175 : decode cX8_drawn 175 = .ok (.ineg, 1) := by decide +kernel
theorem dX8_drawn_176 : decode cX8_drawn 176 = .ok (.putfield 125, 3) := by decide +kernel
theorem dX8_drawn_179 : decode cX8_drawn 179 = .ok (.aload_n 0, 1) := by decide +kernel
theorem dX8_drawn_180 : decode cX8_drawn 180 = .ok (.iconst 1, 1) := by decide +kernel
theorem dX8_drawn_181 : decode cX8_drawn 181 = .ok (.putfield 122, 3) := by decide +kernel
theorem dX8_drawn_184 : decode cX8_drawn 184 = .ok (.goto 14, 3) := by decide +kernel
theorem dX8_drawn_187 : decode cX8_drawn 187 = .ok (.aload_n 0, 1) := by decide +kernel
theorem dX8_drawn_188 : decode cX8_drawn 188 = .ok (.iconst 0, 1) := by decide +kernel
theorem dX8_drawn_189 : decode cX8_drawn 189 = .ok (.putfield 119, 3) := by decide +kernel
theorem dX8_drawn_192 : decode cX8_drawn 192 = .ok (.aload_n 0, 1) := by decide +kernel
theorem dX8_drawn_193 : decode cX8_drawn 193 = .ok (.iload_n 1, 1) := by decide +kernel
theorem dX8_drawn_194 : decode cX8_drawn 194 = .ok (.ineg, 1) := by decide +kernel
theorem dX8_drawn_195 : decode cX8_drawn 195 = .ok (.putfield 17, 3) := by decide +kernel
theorem dX8_drawn_198 : decode cX8_drawn 198 = .ok (.iconst 0, 1) := by decide +kernel
theorem dX8_drawn_199 : decode cX8_drawn 199 = .ok (.ireturn, 1) := by decide +kernel
theorem dX8_random_0 : decode cX8_random 0 = .ok (.aload_n 0, 1) := by decide +kernel
theorem dX8_random_1 : decode cX8_random 1 = .ok (.iconst 0, 1) := by decide +kernel
theorem dX8_random_2 : decode cX8_random 2 = .ok (.putfield 72, 3) := by decide +kernel
theorem dX8_random_5 : decode cX8_random 5 = .ok (.aload_n 0, 1) := by decide +kernel
theorem dX8_random_6 : decode cX8_random 6 = .ok (.iload_n 1, 1) := by decide +kernel
theorem dX8_random_7 : decode cX8_random 7 = .ok (.invokestatic 99, 3) := by decide +kernel
theorem dX8_random_10 : decode cX8_random 10 = .ok (.invokevirtual 133, 3) := by decide +kernel
theorem dX8_random_13 : decode cX8_random 13 = .ok (.ireturn, 1) := by decide +kernel
theorem dX8_tape_0 : decode cX8_tape 0 = .ok (.aload_n 0, 1) := by decide +kernel
theorem dX8_tape_1 : decode cX8_tape 1 = .ok (.iconst 0, 1) := by decide +kernel
theorem dX8_tape_2 : decode cX8_tape 2 = .ok (.putfield 72, 3) := by decide +kernel
theorem dX8_tape_5 : decode cX8_tape 5 = .ok (.iload_n 1, 1) := by decide +kernel
theorem dX8_tape_6 : decode cX8_tape 6 = .ok (.ifCond .lt 9, 3) := by decide +kernel
theorem dX8_tape_9 : decode cX8_tape 9 = .ok (.iload_n 1, 1) := by decide +kernel
theorem dX8_tape_10 : decode cX8_tape 10 = .ok (.ldc 75, 2) := by decide +kernel
theorem dX8_tape_12 : decode cX8_tape 12 = .ok (.if_icmp .le 6, 3) := by decide +kernel
theorem dX8_tape_15 : decode cX8_tape 15 = .ok (.bipush (-2), 2) := by decide +kernel
theorem dX8_tape_17 : decode cX8_tape 17 = .ok (.ireturn, 1) := by decide +kernel
theorem dX8_tape_18 : decode cX8_tape 18 = .ok (.aload_n 0, 1) := by decide +kernel
theorem dX8_tape_19 : decode cX8_tape 19 = .ok (.getfield 128, 3) := by decide +kernel
theorem dX8_tape_22 : decode cX8_tape 22 = .ok (.bipush 50, 2) := by decide +kernel
theorem dX8_tape_24 : decode cX8_tape 24 = .ok (.if_icmp .ne 6, 3) := by decide +kernel
theorem dX8_tape_27 : decode cX8_tape 27 = .ok (.bipush (-3), 2) := by decide +kernel
theorem dX8_tape_29 : decode cX8_tape 29 = .ok (.ireturn, 1) := by decide +kernel
theorem dX8_tape_30 : decode cX8_tape 30 = .ok (.aload_n 0, 1) := by decide +kernel
theorem dX8_tape_31 : decode cX8_tape 31 = .ok (.getfield 20, 3) := by decide +kernel
theorem dX8_tape_34 : decode cX8_tape 34 = .ok (.aload_n 0, 1) := by decide +kernel
theorem dX8_tape_35 : decode cX8_tape 35 = .ok (.getfield 128, 3) := by decide +kernel
theorem dX8_tape_38 : decode cX8_tape 38 = .ok (.iload_n 1, 1) := by decide +kernel
theorem dX8_tape_39 : decode cX8_tape 39 = .ok (.iastore, 1) := by decide +kernel
theorem dX8_tape_40 : decode cX8_tape 40 = .ok (.aload_n 0, 1) := by decide +kernel
theorem dX8_tape_41 : decode cX8_tape 41 = .ok (.dup, 1) := by decide +kernel
theorem dX8_tape_42 : decode cX8_tape 42 = .ok (.getfield 128, 3) := by decide +kernel
theorem dX8_tape_45 : decode cX8_tape 45 = .ok (.iconst 1, 1) := by decide +kernel
theorem dX8_tape_46 : decode cX8_tape 46 = .ok (.iadd, 1) := by decide +kernel
theorem dX8_tape_47 : decode cX8_tape 47 = .ok (.putfield 128, 3) := by decide +kernel
theorem dX8_tape_50 : decode cX8_tape 50 = .ok (.aload_n 0, 1) := by decide +kernel
theorem dX8_tape_51 : decode cX8_tape 51 = .ok (.getfield 128, 3) := by decide +kernel
theorem dX8_tape_54 : decode cX8_tape 54 = .ok (.ireturn, 1) := by decide +kernel
theorem dX8_globe_0 : decode cX8_globe 0 = .ok (.aload_n 0, 1) := by decide +kernel
theorem dX8_globe_1 : decode cX8_globe 1 = .ok (.iconst 0, 1) := by decide +kernel
theorem dX8_globe_2 : decode cX8_globe 2 = .ok (.putfield 72, 3) := by decide +kernel
theorem dX8_globe_5 : decode cX8_globe 5 = .ok (.iload_n 1, 1) := by decide +kernel
theorem dX8_globe_6 : decode cX8_globe 6 = .ok (.ifCond .lt 9, 3) := by decide +kernel
theorem dX8_globe_9 : decode cX8_globe 9 = .ok (.iload_n 1, 1) := by decide +kernel
theorem dX8_globe_10 : decode cX8_globe 10 = .ok (.ldc 75, 2) := by decide +kernel
theorem dX8_globe_12 : decode cX8_globe 12 = .ok (.if_icmp .le 6, 3) := by decide +kernel
theorem dX8_globe_15 : decode cX8_globe 15 = .ok (.bipush (-2), 2) := by decide +kernel
theorem dX8_globe_17 : decode cX8_globe 17 = .ok (.ireturn, 1) := by decide +kernel
theorem dX8_globe_18 : decode cX8_globe 18 = .ok (.aload_n 0, 1) := by decide +kernel
theorem dX8_globe_19 : decode cX8_globe 19 = .ok (.getfield 136, 3) := by decide +kernel
theorem dX8_globe_22 : decode cX8_globe 22 = .ok (.istore_n 2, 1) := by decide +kernel
theorem dX8_globe_23 : decode cX8_globe 23 = .ok (.aload_n 0, 1) := by decide +kernel
theorem dX8_globe_24 : decode cX8_globe 24 = .ok (.iload_n 1, 1) := by decide +kernel
theorem dX8_globe_25 : decode cX8_globe 25 = .ok (.putfield 136, 3) := by decide +kernel
theorem dX8_globe_28 : decode cX8_globe 28 = .ok (.iload_n 2, 1) := by decide +kernel
theorem dX8_globe_29 : decode cX8_globe 29 = .ok (.ireturn, 1) := by decide +kernel
theorem dX8_form_0 : decode cX8_form 0 = .ok (.aload_n 0, 1) := by decide +kernel
theorem dX8_form_1 : decode cX8_form 1 = .ok (.iconst 0, 1) := by decide +kernel
theorem dX8_form_2 : decode cX8_form 2 = .ok (.putfield 72, 3) := by decide +kernel
theorem dX8_form_5 : decode cX8_form 5 = .ok (.iload_n 1, 1) := by decide +kernel
theorem dX8_form_6 : decode cX8_form 6 = .ok (.ifCond .lt 10, 3) := by decide +kernel
theorem dX8_form_9 : decode cX8_form 9 = .ok (.iload_n 1, 1) := by decide +kernel
theorem dX8_form_10 : decode cX8_form 10 = .ok (.sipush 255, 3) := by decide +kernel
theorem dX8_form_13 : decode cX8_form 13 = .ok (.if_icmp .le 6, 3) := by decide +kernel
theorem dX8_form_16 : decode cX8_form 16 = .ok (.bipush (-2), 2) := by decide +kernel
theorem dX8_form_18 : decode cX8_form 18 = .ok (.ireturn, 1) := by decide +kernel
theorem dX8_form_19 : decode cX8_form 19 = .ok (.aload_n 0, 1) := by decide +kernel
theorem dX8_form_20 : decode cX8_form 20 = .ok (.getfield 13, 3) := by decide +kernel
theorem dX8_form_23 : decode cX8_form 23 = .ok (.istore_n 2, 1) := by decide +kernel
theorem dX8_form_24 : decode cX8_form 24 = .ok (.aload_n 0, 1) := by decide +kernel
theorem dX8_form_25 : decode cX8_form 25 = .ok (.iload_n 1, 1) := by decide +kernel
theorem dX8_form_26 : decode cX8_form 26 = .ok (.putfield 13, 3) := by decide +kernel
theorem dX8_form_29 : decode cX8_form 29 = .ok (.iload_n 2, 1) := by decide +kernel
theorem dX8_form_30 : decode cX8_form 30 = .ok (.ireturn, 1) := by decide +kernel
theorem dX8_instruction_0 : decode cX8_instruction 0 = .ok (.aload_n 0, 1) := by decide +kernel
theorem dX8_instruction_1 : decode cX8_instruction 1 = .ok (.iconst 0, 1) := by decide +kernel
theorem dX8_instruction_2 : decode cX8_instruction 2 = .ok (.putfield 72, 3) := by decide +kernel
theorem dX8_instruction_5 : decode cX8_instruction 5 = .ok (.iload_n 2, 1) := by decide +kernel
theorem dX8_instruction_6 : decode cX8_instruction 6 = .ok (.sipush (-256), 3) := by decide +kernel
theorem dX8_instruction_9 : decode cX8_instruction 9 = .ok (.if_icmp .lt 55, 3) := by decide +kernel
theorem dX8_instruction_12 : decode cX8_instruction 12 = .ok (.iload_n 2, 1) := by decide +kernel
theorem dX8_instruction_13 : decode cX8_instruction 13 = .ok (.ldc 75, 2) := by decide +kernel
theorem dX8_instruction_15 : decode cX8_instruction 15 = .ok (.if_icmp .gt 49, 3) := by decide +kernel
theorem dX8_instruction_18 : decode cX8_instruction 18 = .ok (.iload_n 3, 1) := by decide +kernel
theorem dX8_instruction_19 : decode cX8_instruction 19 = .ok (.sipush (-256), 3) := by decide +kernel
theorem dX8_instruction_22 : decode cX8_instruction 22 = .ok (.if_icmp .lt 42, 3) := by decide +kernel
theorem dX8_instruction_25 : decode cX8_instruction 25 = .ok (.iload_n 3, 1) := by decide +kernel
theorem dX8_instruction_26 : decode cX8_instruction 26 = .ok (.ldc 75, 2) := by decide +kernel
theorem dX8_instruction_28 : decode cX8_instruction 28 = .ok (.if_icmp .gt 36, 3) := by decide +kernel
theorem dX8_instruction_31 : decode cX8_instruction 31 = .ok (.iload 4, 2) := by decide +kernel
theorem dX8_instruction_33 : decode cX8_instruction 33 = .ok (.sipush (-256), 3) := by decide +kernel
theorem dX8_instruction_36 : decode cX8_instruction 36 = .ok (.if_icmp .lt 28, 3) := by decide +kernel
theorem dX8_instruction_39 : decode cX8_instruction 39 = .ok (.iload 4, 2) := by decide +kernel
theorem dX8_instruction_41 : decode cX8_instruction 41 = .ok (.ldc 75, 2) := by decide +kernel
theorem dX8_instruction_43 : decode cX8_instruction 43 = .ok (.if_icmp .gt 21, 3) := by decide +kernel
theorem dX8_instruction_46 : decode cX8_instruction 46 = .ok (.iload 5, 2) := by decide +kernel
theorem dX8_instruction_48 : decode cX8_instruction 48 = .ok (.iconst (-1), 1) := by decide +kernel
theorem dX8_instruction_49 : decode cX8_instruction 49 = .ok (.if_icmp .lt 15, 3) := by decide +kernel
theorem dX8_instruction_52 : decode cX8_instruction 52 = .ok (.iload 5, 2) := by decide +kernel
theorem dX8_instruction_54 : decode cX8_instruction 54 = .ok (.sipush 255, 3) := by decide +kernel
theorem dX8_instruction_57 : decode cX8_instruction 57 = .ok (.if_icmp .gt 7, 3) := by decide +kernel
theorem dX8_instruction_60 : decode cX8_instruction 60 = .ok (.iconst 1, 1) := by decide +kernel
theorem dX8_instruction_61 : decode cX8_instruction 61 = .ok (.goto 4, 3) := by decide +kernel
theorem dX8_instruction_64 : decode cX8_instruction 64 = .ok (.iconst 0, 1) := by decide +kernel
theorem dX8_instruction_65 : decode cX8_instruction 65 = .ok (.istore 6, 2) := by decide +kernel
theorem dX8_instruction_67 : decode cX8_instruction 67 = .ok (.iload 6, 2) := by decide +kernel
theorem dX8_instruction_69 : decode cX8_instruction 69 = .ok (.ifCond .ne 6, 3) := by decide +kernel
theorem dX8_instruction_72 : decode cX8_instruction 72 = .ok (.bipush (-2), 2) := by decide +kernel
theorem dX8_instruction_74 : decode cX8_instruction 74 = .ok (.ireturn, 1) := by decide +kernel
theorem dX8_instruction_75 : decode cX8_instruction 75 = .ok (.aload_n 0, 1) := by decide +kernel
theorem dX8_instruction_76 : decode cX8_instruction 76 = .ok (.getfield 139, 3) := by decide +kernel
theorem dX8_instruction_79 : decode cX8_instruction 79 = .ok (.bipush 100, 2) := by decide +kernel
theorem dX8_instruction_81 : decode cX8_instruction 81 = .ok (.if_icmp .ne 6, 3) := by decide +kernel
theorem dX8_instruction_84 : decode cX8_instruction 84 = .ok (.bipush (-3), 2) := by decide +kernel
theorem dX8_instruction_86 : decode cX8_instruction 86 = .ok (.ireturn, 1) := by decide +kernel
theorem dX8_instruction_87 : decode cX8_instruction 87 = .ok (.aload_n 0, 1) := by decide +kernel
theorem dX8_instruction_88 : decode cX8_instruction 88 = .ok (.getfield 26, 3) := by decide +kernel
theorem dX8_instruction_91 : decode cX8_instruction 91 = .ok (.aload_n 0, 1) := by decide +kernel
theorem dX8_instruction_92 : decode cX8_instruction 92 = .ok (.getfield 139, 3) := by decide +kernel
theorem dX8_instruction_95 : decode cX8_instruction 95 = .ok (.iload_n 1, 1) := by decide +kernel
theorem dX8_instruction_96 : decode cX8_instruction 96 = .ok (.iastore, 1) := by decide +kernel
theorem dX8_instruction_97 : decode cX8_instruction 97 = .ok (.aload_n 0, 1) := by decide +kernel
theorem dX8_instruction_98 : decode cX8_instruction 98 = .ok (.getfield 29, 3) := by decide +kernel
theorem dX8_instruction_101 : decode cX8_instruction 101 = .ok (.iconst 3, 1) := by decide +kernel
theorem dX8_instruction_102 : decode cX8_instruction 102 = .ok (.aload_n 0, 1) := by decide +kernel
theorem dX8_instruction_103 : decode cX8_instruction 103 = .ok (.getfield 139, 3) := by decide +kernel
theorem dX8_instruction_106 : decode cX8_instruction 106 = .ok (.imul, 1) := by decide +kernel
theorem dX8_instruction_107 : decode cX8_instruction 107 = .ok (.iload_n 2, 1) := by decide +kernel
theorem dX8_instruction_108 : decode cX8_instruction 108 = .ok (.iastore, 1) := by decide +kernel
theorem dX8_instruction_109 : decode cX8_instruction 109 = .ok (.aload_n 0, 1) := by decide +kernel
theorem dX8_instruction_110 : decode cX8_instruction 110 = .ok (.getfield 29, 3) := by decide +kernel
theorem dX8_instruction_113 : decode cX8_instruction 113 = .ok (.iconst 3, 1) := by decide +kernel
theorem dX8_instruction_114 : decode cX8_instruction 114 = .ok (.aload_n 0, 1) := by decide +kernel
theorem dX8_instruction_115 : decode cX8_instruction 115 = .ok (.getfield 139, 3) := by decide +kernel
theorem dX8_instruction_118 : decode cX8_instruction 118 = .ok (.imul, 1) := by decide +kernel
theorem dX8_instruction_119 : decode cX8_instruction 119 = .ok (.iconst 1, 1) := by decide +kernel
theorem dX8_instruction_120 : decode cX8_instruction 120 = .ok (.iadd, 1) := by decide +kernel
theorem dX8_instruction_121 : decode cX8_instruction 121 = .ok (.iload_n 3, 1) := by decide +kernel
theorem dX8_instruction_122 : decode cX8_instruction 122 = .ok (.iastore, 1) := by decide +kernel
theorem dX8_instruction_123 : decode cX8_instruction 123 = .ok (.aload_n 0, 1) := by decide +kernel
theorem dX8_instruction_124 : decode cX8_instruction 124 = .ok (.getfield 29, 3) := by decide +kernel
theorem dX8_instruction_127 : decode cX8_instruction 127 = .ok (.iconst 3, 1) := by decide +kernel
theorem dX8_instruction_128 : decode cX8_instruction 128 = .ok (.aload_n 0, 1) := by decide +kernel
theorem dX8_instruction_129 : decode cX8_instruction 129 = .ok (.getfield 139, 3) := by decide +kernel
theorem dX8_instruction_132 : decode cX8_instruction 132 = .ok (.imul, 1) := by decide +kernel
theorem dX8_instruction_133 : decode cX8_instruction 133 = .ok (.iconst 2, 1) := by decide +kernel
theorem dX8_instruction_134 : decode cX8_instruction 134 = .ok (.iadd, 1) := by decide +kernel
theorem dX8_instruction_135 : decode cX8_instruction 135 = .ok (.iload 4, 2) := by decide +kernel
theorem dX8_instruction_137 : decode cX8_instruction 137 = .ok (.iastore, 1) := by decide +kernel
theorem dX8_instruction_138 : decode cX8_instruction 138 = .ok (.aload_n 0, 1) := by decide +kernel
theorem dX8_instruction_139 : decode cX8_instruction 139 = .ok (.getfield 32, 3) := by decide +kernel
theorem dX8_instruction_142 : decode cX8_instruction 142 = .ok (.aload_n 0, 1) := by decide +kernel
theorem dX8_instruction_143 : decode cX8_instruction 143 = .ok (.getfield 139, 3) := by decide +kernel
theorem dX8_instruction_146 : decode cX8_instruction 146 = .ok (.iload 5, 2) := by decide +kernel
theorem dX8_instruction_148 : decode cX8_instruction 148 = .ok (.iastore, 1) := by decide +kernel
theorem dX8_instruction_149 : decode cX8_instruction 149 = .ok (.aload_n 0, 1) := by decide +kernel
theorem dX8_instruction_150 : decode cX8_instruction 150 = .ok (.dup, 1) := by decide +kernel
theorem dX8_instruction_151 : decode cX8_instruction 151 = .ok (.getfield 139, 3) := by decide +kernel
theorem dX8_instruction_154 : decode cX8_instruction 154 = .ok (.iconst 1, 1) := by decide +kernel
theorem dX8_instruction_155 : decode cX8_instruction 155 = .ok (.iadd, 1) := by decide +kernel
theorem dX8_instruction_156 : decode cX8_instruction 156 = .ok (.putfield 139, 3) := by decide +kernel
theorem dX8_instruction_159 : decode cX8_instruction 159 = .ok (.aload_n 0, 1) := by decide +kernel
theorem dX8_instruction_160 : decode cX8_instruction 160 = .ok (.getfield 139, 3) := by decide +kernel
theorem dX8_instruction_163 : decode cX8_instruction 163 = .ok (.iconst 1, 1) := by decide +kernel
theorem dX8_instruction_164 : decode cX8_instruction 164 = .ok (.isub, 1) := by decide +kernel
theorem dX8_instruction_165 : decode cX8_instruction 165 = .ok (.ireturn, 1) := by decide +kernel
theorem dX8_routine_0 : decode cX8_routine 0 = .ok (.aload_n 0, 1) := by decide +kernel
theorem dX8_routine_1 : decode cX8_routine 1 = .ok (.iconst 0, 1) := by decide +kernel
theorem dX8_routine_2 : decode cX8_routine 2 = .ok (.putfield 72, 3) := by decide +kernel
theorem dX8_routine_5 : decode cX8_routine 5 = .ok (.iload_n 1, 1) := by decide +kernel
theorem dX8_routine_6 : decode cX8_routine 6 = .ok (.ifCond .lt 9, 3) := by decide +kernel
theorem dX8_routine_9 : decode cX8_routine 9 = .ok (.iload_n 1, 1) := by decide +kernel
theorem dX8_routine_10 : decode cX8_routine 10 = .ok (.bipush 7, 2) := by decide +kernel
theorem dX8_routine_12 : decode cX8_routine 12 = .ok (.if_icmp .le 5, 3) := by decide +kernel
theorem dX8_routine_15 : decode cX8_routine 15 = .ok (.iconst (-1), 1) := by decide +kernel
theorem dX8_routine_16 : decode cX8_routine 16 = .ok (.ireturn, 1) := by decide +kernel
theorem dX8_routine_17 : decode cX8_routine 17 = .ok (.iload_n 2, 1) := by decide +kernel
theorem dX8_routine_18 : decode cX8_routine 18 = .ok (.ifCond .lt 19, 3) := by decide +kernel
theorem dX8_routine_21 : decode cX8_routine 21 = .ok (.iload_n 2, 1) := by decide +kernel
theorem dX8_routine_22 : decode cX8_routine 22 = .ok (.bipush 99, 2) := by decide +kernel
theorem dX8_routine_24 : decode cX8_routine 24 = .ok (.if_icmp .gt 13, 3) := by decide +kernel
theorem dX8_routine_27 : decode cX8_routine 27 = .ok (.iload_n 3, 1) := by decide +kernel
theorem dX8_routine_28 : decode cX8_routine 28 = .ok (.ifCond .lt 9, 3) := by decide +kernel
theorem dX8_routine_31 : decode cX8_routine 31 = .ok (.iload_n 3, 1) := by decide +kernel
theorem dX8_routine_32 : decode cX8_routine 32 = .ok (.bipush 15, 2) := by decide +kernel
theorem dX8_routine_34 : decode cX8_routine 34 = .ok (.if_icmp .le 6, 3) := by decide +kernel
theorem dX8_routine_37 : decode cX8_routine 37 = .ok (.bipush (-2), 2) := by decide +kernel
theorem dX8_routine_39 : decode cX8_routine 39 = .ok (.ireturn, 1) := by decide +kernel
theorem dX8_routine_40 : decode cX8_routine 40 = .ok (.aload_n 0, 1) := by decide +kernel
theorem dX8_routine_41 : decode cX8_routine 41 = .ok (.getfield 35, 3) := by decide +kernel
theorem dX8_routine_44 : decode cX8_routine 44 = .ok (.iload_n 1, 1) := by decide +kernel
theorem dX8_routine_45 : decode cX8_routine 45 = .ok (.iconst 1, 1) := by decide +kernel
theorem dX8_routine_46 : decode cX8_routine 46 = .ok (.bastore, 1) := by decide +kernel
theorem dX8_routine_47 : decode cX8_routine 47 = .ok (.aload_n 0, 1) := by decide +kernel
theorem dX8_routine_48 : decode cX8_routine 48 = .ok (.getfield 39, 3) := by decide +kernel
theorem dX8_routine_51 : decode cX8_routine 51 = .ok (.iload_n 1, 1) := by decide +kernel
theorem dX8_routine_52 : decode cX8_routine 52 = .ok (.iload_n 2, 1) := by decide +kernel
theorem dX8_routine_53 : decode cX8_routine 53 = .ok (.iastore, 1) := by decide +kernel
theorem dX8_routine_54 : decode cX8_routine 54 = .ok (.aload_n 0, 1) := by decide +kernel
theorem dX8_routine_55 : decode cX8_routine 55 = .ok (.getfield 42, 3) := by decide +kernel
theorem dX8_routine_58 : decode cX8_routine 58 = .ok (.iload_n 1, 1) := by decide +kernel
theorem dX8_routine_59 : decode cX8_routine 59 = .ok (.iload_n 3, 1) := by decide +kernel
theorem dX8_routine_60 : decode cX8_routine 60 = .ok (.iastore, 1) := by decide +kernel
theorem dX8_routine_61 : decode cX8_routine 61 = .ok (.aload_n 0, 1) := by decide +kernel
theorem dX8_routine_62 : decode cX8_routine 62 = .ok (.getfield 45, 3) := by decide +kernel
theorem dX8_routine_65 : decode cX8_routine 65 = .ok (.iload_n 1, 1) := by decide +kernel
theorem dX8_routine_66 : decode cX8_routine 66 = .ok (.iload 4, 2) := by decide +kernel
theorem dX8_routine_68 : decode cX8_routine 68 = .ok (.bastore, 1) := by decide +kernel
theorem dX8_routine_69 : decode cX8_routine 69 = .ok (.iconst 1, 1) := by decide +kernel
theorem dX8_routine_70 : decode cX8_routine 70 = .ok (.ireturn, 1) := by decide +kernel
theorem dX8_clear_0 : decode cX8_clear 0 = .ok (.aload_n 0, 1) := by decide +kernel
theorem dX8_clear_1 : decode cX8_clear 1 = .ok (.iconst 0, 1) := by decide +kernel
theorem dX8_clear_2 : decode cX8_clear 2 = .ok (.putfield 72, 3) := by decide +kernel
theorem dX8_clear_5 : decode cX8_clear 5 = .ok (.aload_n 0, 1) := by decide +kernel
theorem dX8_clear_6 : decode cX8_clear 6 = .ok (.getfield 139, 3) := by decide +kernel
theorem dX8_clear_9 : decode cX8_clear 9 = .ok (.istore_n 1, 1) := by decide +kernel
theorem dX8_clear_10 : decode cX8_clear 10 = .ok (.aload_n 0, 1) := by decide +kernel
theorem dX8_clear_11 : decode cX8_clear 11 = .ok (.iconst 0, 1) := by decide +kernel
theorem dX8_clear_12 : decode cX8_clear 12 = .ok (.putfield 139, 3) := by decide +kernel
theorem dX8_clear_15 : decode cX8_clear 15 = .ok (.iconst 0, 1) := by decide +kernel
theorem dX8_clear_16 : decode cX8_clear 16 = .ok (.istore_n 2, 1) := by decide +kernel
theorem dX8_clear_17 : decode cX8_clear 17 = .ok (.iload_n 2, 1) := by decide +kernel
theorem dX8_clear_18 : decode cX8_clear 18 = .ok (.bipush 8, 2) := by decide +kernel
theorem dX8_clear_20 : decode cX8_clear 20 = .ok (.if_icmp .ge 16, 3) := by decide +kernel
theorem dX8_clear_23 : decode cX8_clear 23 = .ok (.aload_n 0, 1) := by decide +kernel
theorem dX8_clear_24 : decode cX8_clear 24 = .ok (.getfield 35, 3) := by decide +kernel
theorem dX8_clear_27 : decode cX8_clear 27 = .ok (.iload_n 2, 1) := by decide +kernel
theorem dX8_clear_28 : decode cX8_clear 28 = .ok (.iconst 0, 1) := by decide +kernel
theorem dX8_clear_29 : decode cX8_clear 29 = .ok (.bastore, 1) := by decide +kernel
theorem dX8_clear_30 : decode cX8_clear 30 = .ok (.iinc 2 1, 3) := by decide +kernel
theorem dX8_clear_33 : decode cX8_clear 33 = .ok (.goto (-16), 3) := by decide +kernel
theorem dX8_clear_36 : decode cX8_clear 36 = .ok (.iload_n 1, 1) := by decide +kernel
theorem dX8_clear_37 : decode cX8_clear 37 = .ok (.ireturn, 1) := by decide +kernel
theorem dX8_top_0 : decode cX8_top 0 = .ok (.aload_n 0, 1) := by decide +kernel
theorem dX8_top_1 : decode cX8_top 1 = .ok (.getfield 142, 3) := by decide +kernel
theorem dX8_top_4 : decode cX8_top 4 = .ok (.iconst 1, 1) := by decide +kernel
theorem dX8_top_5 : decode cX8_top 5 = .ok (.isub, 1) := by decide +kernel
theorem dX8_top_6 : decode cX8_top 6 = .ok (.ireturn, 1) := by decide +kernel
theorem dX8_pop_0 : decode cX8_pop 0 = .ok (.aload_n 0, 1) := by decide +kernel
theorem dX8_pop_1 : decode cX8_pop 1 = .ok (.getfield 145, 3) := by decide +kernel
theorem dX8_pop_4 : decode cX8_pop 4 = .ok (.aload_n 0, 1) := by decide +kernel
theorem dX8_pop_5 : decode cX8_pop 5 = .ok (.getfield 57, 3) := by decide +kernel
theorem dX8_pop_8 : decode cX8_pop 8 = .ok (.aload_n 0, 1) := by decide +kernel
theorem dX8_pop_9 : decode cX8_pop 9 = .ok (.invokevirtual 148, 3) := by decide +kernel
theorem dX8_pop_12 : decode cX8_pop 12 = .ok (.iaload, 1) := by decide +kernel
theorem dX8_pop_13 : decode cX8_pop 13 = .ok (.if_icmp .ne 10, 3) := by decide +kernel
theorem dX8_pop_16 : decode cX8_pop 16 = .ok (.aload_n 0, 1) := by decide +kernel
theorem dX8_pop_17 : decode cX8_pop 17 = .ok (.iconst 4, 1) := by decide +kernel
theorem dX8_pop_18 : decode cX8_pop 18 = .ok (.putfield 81, 3) := by decide +kernel
theorem dX8_pop_21 : decode cX8_pop 21 = .ok (.iconst 0, 1) := by decide +kernel
theorem dX8_pop_22 : decode cX8_pop 22 = .ok (.ireturn, 1) := by decide +kernel
theorem dX8_pop_23 : decode cX8_pop 23 = .ok (.aload_n 0, 1) := by decide +kernel
theorem dX8_pop_24 : decode cX8_pop 24 = .ok (.dup, 1) := by decide +kernel
theorem dX8_pop_25 : decode cX8_pop 25 = .ok (.getfield 145, 3) := by decide +kernel
theorem dX8_pop_28 : decode cX8_pop 28 = .ok (.iconst 1, 1) := by decide +kernel
theorem dX8_pop_29 : decode cX8_pop 29 = .ok (.isub, 1) := by decide +kernel
theorem dX8_pop_30 : decode cX8_pop 30 = .ok (.putfield 145, 3) := by decide +kernel
theorem dX8_pop_33 : decode cX8_pop 33 = .ok (.aload_n 0, 1) := by decide +kernel
theorem dX8_pop_34 : decode cX8_pop 34 = .ok (.getfield 63, 3) := by decide +kernel
theorem dX8_pop_37 : decode cX8_pop 37 = .ok (.aload_n 0, 1) := by decide +kernel
theorem dX8_pop_38 : decode cX8_pop 38 = .ok (.getfield 145, 3) := by decide +kernel
theorem dX8_pop_41 : decode cX8_pop 41 = .ok (.iaload, 1) := by decide +kernel
theorem dX8_pop_42 : decode cX8_pop 42 = .ok (.ireturn, 1) := by decide +kernel
theorem dX8_push_0 : decode cX8_push 0 = .ok (.aload_n 0, 1) := by decide +kernel
theorem dX8_push_1 : decode cX8_push 1 = .ok (.getfield 145, 3) := by decide +kernel
theorem dX8_push_4 : decode cX8_push 4 = .ok (.bipush 100, 2) := by decide +kernel
theorem dX8_push_6 : decode cX8_push 6 = .ok (.if_icmp .ne 9, 3) := by decide +kernel
theorem dX8_push_9 : decode cX8_push 9 = .ok (.aload_n 0, 1) := by decide +kernel
theorem dX8_push_10 : decode cX8_push 10 = .ok (.iconst 5, 1) := by decide +kernel
theorem dX8_push_11 : decode cX8_push 11 = .ok (.putfield 81, 3) := by decide +kernel
theorem dX8_push_14 : decode cX8_push 14 = .ok (.return_, 1) := by decide +kernel
theorem dX8_push_15 : decode cX8_push 15 = .ok (.aload_n 0, 1) := by decide +kernel
theorem dX8_push_16 : decode cX8_push 16 = .ok (.getfield 63, 3) := by decide +kernel
theorem dX8_push_19 : decode cX8_push 19 = .ok (.aload_n 0, 1) := by decide +kernel
theorem dX8_push_20 : decode cX8_push 20 = .ok (.getfield 145, 3) := by decide +kernel
theorem dX8_push_23 : decode cX8_push 23 = .ok (.iload_n 1, 1) := by decide +kernel
theorem dX8_push_24 : decode cX8_push 24 = .ok (.ldc 75, 2) := by decide +kernel
theorem dX8_push_26 : decode cX8_push 26 = .ok (.iand, 1) := by decide +kernel
theorem dX8_push_27 : decode cX8_push 27 = .ok (.iastore, 1) := by decide +kernel
theorem dX8_push_28 : decode cX8_push 28 = .ok (.aload_n 0, 1) := by decide +kernel
theorem dX8_push_29 : decode cX8_push 29 = .ok (.dup, 1) := by decide +kernel
theorem dX8_push_30 : decode cX8_push 30 = .ok (.getfield 145, 3) := by decide +kernel
theorem dX8_push_33 : decode cX8_push 33 = .ok (.iconst 1, 1) := by decide +kernel
theorem dX8_push_34 : decode cX8_push 34 = .ok (.iadd, 1) := by decide +kernel
theorem dX8_push_35 : decode cX8_push 35 = .ok (.putfield 145, 3) := by decide +kernel
theorem dX8_push_38 : decode cX8_push 38 = .ok (.return_, 1) := by decide +kernel
theorem dX8_isLocal_0 : decode cX8_isLocal 0 = .ok (.iload_n 1, 1) := by decide +kernel
theorem dX8_isLocal_1 : decode cX8_isLocal 1 = .ok (.aload_n 0, 1) := by decide +kernel
theorem dX8_isLocal_2 : decode cX8_isLocal 2 = .ok (.getfield 42, 3) := by decide +kernel
theorem dX8_isLocal_5 : decode cX8_isLocal 5 = .ok (.aload_n 0, 1) := by decide +kernel
theorem dX8_isLocal_6 : decode cX8_isLocal 6 = .ok (.getfield 48, 3) := by decide +kernel
theorem dX8_isLocal_9 : decode cX8_isLocal 9 = .ok (.aload_n 0, 1) := by decide +kernel
theorem dX8_isLocal_10 : decode cX8_isLocal 10 = .ok (.invokevirtual 148, 3) := by decide +kernel
theorem dX8_isLocal_13 : decode cX8_isLocal 13 = .ok (.iaload, 1) := by decide +kernel
theorem dX8_isLocal_14 : decode cX8_isLocal 14 = .ok (.iaload, 1) := by decide +kernel
theorem dX8_isLocal_15 : decode cX8_isLocal 15 = .ok (.if_icmp .le 11, 3) := by decide +kernel
theorem dX8_isLocal_18 : decode cX8_isLocal 18 = .ok (.aload_n 0, 1) := by decide +kernel
theorem dX8_isLocal_19 : decode cX8_isLocal 19 = .ok (.bipush 7, 2) := by decide +kernel
theorem dX8_isLocal_21 : decode cX8_isLocal 21 = .ok (.putfield 81, 3) := by decide +kernel
theorem dX8_isLocal_24 : decode cX8_isLocal 24 = .ok (.iconst 0, 1) := by decide +kernel
theorem dX8_isLocal_25 : decode cX8_isLocal 25 = .ok (.ireturn, 1) := by decide +kernel
theorem dX8_isLocal_26 : decode cX8_isLocal 26 = .ok (.iconst 1, 1) := by decide +kernel
theorem dX8_isLocal_27 : decode cX8_isLocal 27 = .ok (.ireturn, 1) := by decide +kernel
theorem dX8_ask_0 : decode cX8_ask 0 = .ok (.iload_n 1, 1) := by decide +kernel
theorem dX8_ask_1 : decode cX8_ask 1 = .ok (.ifCond .ne 8, 3) := by decide +kernel
theorem dX8_ask_4 : decode cX8_ask 4 = .ok (.aload_n 0, 1) := by decide +kernel
theorem dX8_ask_5 : decode cX8_ask 5 = .ok (.invokevirtual 152, 3) := by decide +kernel
theorem dX8_ask_8 : decode cX8_ask 8 = .ok (.ireturn, 1) := by decide +kernel
theorem dX8_ask_9 : decode cX8_ask 9 = .ok (.iload_n 1, 1) := by decide +kernel
theorem dX8_ask_10 : decode cX8_ask 10 = .ok (.bipush 16, 2) := by decide +kernel
theorem dX8_ask_12 : decode cX8_ask 12 = .ok (.if_icmp .ge 32, 3) := by decide +kernel
theorem dX8_ask_15 : decode cX8_ask 15 = .ok (.aload_n 0, 1) := by decide +kernel
theorem dX8_ask_16 : decode cX8_ask 16 = .ok (.iload_n 1, 1) := by decide +kernel
theorem dX8_ask_17 : decode cX8_ask 17 = .ok (.invokevirtual 155, 3) := by decide +kernel
theorem dX8_ask_20 : decode cX8_ask 20 = .ok (.ifCond .eq 22, 3) := by decide +kernel
theorem dX8_ask_23 : decode cX8_ask 23 = .ok (.aload_n 0, 1) := by decide +kernel
theorem dX8_ask_24 : decode cX8_ask 24 = .ok (.getfield 60, 3) := by decide +kernel
theorem dX8_ask_27 : decode cX8_ask 27 = .ok (.bipush 15, 2) := by decide +kernel
theorem dX8_ask_29 : decode cX8_ask 29 = .ok (.aload_n 0, 1) := by decide +kernel
theorem dX8_ask_30 : decode cX8_ask 30 = .ok (.invokevirtual 148, 3) := by decide +kernel
theorem dX8_ask_33 : decode cX8_ask 33 = .ok (.imul, 1) := by decide +kernel
theorem dX8_ask_34 : decode cX8_ask 34 = .ok (.iload_n 1, 1) := by decide +kernel
theorem dX8_ask_35 : decode cX8_ask 35 = .ok (.iadd, 1) := by decide +kernel
theorem dX8_ask_36 : decode cX8_ask 36 = .ok (.iconst 1, 1) := by decide +kernel
theorem dX8_ask_37 : decode cX8_ask 37 = .ok (.isub, 1) := by decide +kernel
theorem dX8_ask_38 : decode cX8_ask 38 = .ok (.iaload, 1) := by decide +kernel
theorem dX8_ask_39 : decode cX8_ask 39 = .ok (.goto 4, 3) := by decide +kernel
theorem dX8_ask_42 : decode cX8_ask 42 = .ok (.iconst 0, 1) := by decide +kernel
theorem dX8_ask_43 : decode cX8_ask 43 = .ok (.ireturn, 1) := by decide +kernel
theorem dX8_ask_44 : decode cX8_ask 44 = .ok (.aload_n 0, 1) := by decide +kernel
theorem dX8_ask_45 : decode cX8_ask 45 = .ok (.aload_n 0, 1) := by decide +kernel
theorem dX8_ask_46 : decode cX8_ask 46 = .ok (.getfield 136, 3) := by decide +kernel
theorem dX8_ask_49 : decode cX8_ask 49 = .ok (.iconst 2, 1) := by decide +kernel
theorem dX8_ask_50 : decode cX8_ask 50 = .ok (.iload_n 1, 1) := by decide +kernel
theorem dX8_ask_51 : decode cX8_ask 51 = .ok (.bipush 16, 2) := by decide +kernel
theorem dX8_ask_53 : decode cX8_ask 53 = .ok (.isub, 1) := by decide +kernel
theorem dX8_ask_54 : decode cX8_ask 54 = .ok (.imul, 1) := by decide +kernel
theorem dX8_ask_55 : decode cX8_ask 55 = .ok (.iadd, 1) := by decide +kernel
theorem dX8_ask_56 : decode cX8_ask 56 = .ok (.iconst 1, 1) := by decide +kernel
theorem dX8_ask_57 : decode cX8_ask 57 = .ok (.invokevirtual 91, 3) := by decide +kernel
theorem dX8_ask_60 : decode cX8_ask 60 = .ok (.ireturn, 1) := by decide +kernel
theorem dX8_set_0 : decode cX8_set 0 = .ok (.iload_n 1, 1) := by decide +kernel
theorem dX8_set_1 : decode cX8_set 1 = .ok (.ifCond .ne 11, 3) := by decide +kernel
theorem dX8_set_4 : decode cX8_set 4 = .ok (.aload_n 0, 1) := by decide +kernel
theorem dX8_set_5 : decode cX8_set 5 = .ok (.iload_n 2, 1) := by decide +kernel
theorem dX8_set_6 : decode cX8_set 6 = .ok (.invokevirtual 159, 3) := by decide +kernel
theorem dX8_set_9 : decode cX8_set 9 = .ok (.goto 58, 3) := by decide +kernel
theorem dX8_set_12 : decode cX8_set 12 = .ok (.iload_n 1, 1) := by decide +kernel
theorem dX8_set_13 : decode cX8_set 13 = .ok (.bipush 16, 2) := by decide +kernel
theorem dX8_set_15 : decode cX8_set 15 = .ok (.if_icmp .ge 34, 3) := by decide +kernel
theorem dX8_set_18 : decode cX8_set 18 = .ok (.aload_n 0, 1) := by decide +kernel
theorem dX8_set_19 : decode cX8_set 19 = .ok (.iload_n 1, 1) := by decide +kernel
theorem dX8_set_20 : decode cX8_set 20 = .ok (.invokevirtual 155, 3) := by decide +kernel
theorem dX8_set_23 : decode cX8_set 23 = .ok (.ifCond .eq 44, 3) := by decide +kernel
theorem dX8_set_26 : decode cX8_set 26 = .ok (.aload_n 0, 1) := by decide +kernel
theorem dX8_set_27 : decode cX8_set 27 = .ok (.getfield 60, 3) := by decide +kernel
theorem dX8_set_30 : decode cX8_set 30 = .ok (.bipush 15, 2) := by decide +kernel
theorem dX8_set_32 : decode cX8_set 32 = .ok (.aload_n 0, 1) := by decide +kernel
theorem dX8_set_33 : decode cX8_set 33 = .ok (.invokevirtual 148, 3) := by decide +kernel
theorem dX8_set_36 : decode cX8_set 36 = .ok (.imul, 1) := by decide +kernel
theorem dX8_set_37 : decode cX8_set 37 = .ok (.iload_n 1, 1) := by decide +kernel
theorem dX8_set_38 : decode cX8_set 38 = .ok (.iadd, 1) := by decide +kernel
theorem dX8_set_39 : decode cX8_set 39 = .ok (.iconst 1, 1) := by decide +kernel
theorem dX8_set_40 : decode cX8_set 40 = .ok (.isub, 1) := by decide +kernel
theorem dX8_set_41 : decode cX8_set 41 = .ok (.iload_n 2, 1) := by decide +kernel
theorem dX8_set_42 : decode cX8_set 42 = .ok (.ldc 75, 2) := by decide +kernel
theorem dX8_set_44 : decode cX8_set 44 = .ok (.iand, 1) := by decide +kernel
theorem dX8_set_45 : decode cX8_set 45 = .ok (.iastore, 1) := by decide +kernel
theorem dX8_set_46 : decode cX8_set 46 = .ok (.goto 21, 3) := by decide +kernel
theorem dX8_set_49 : decode cX8_set 49 = .ok (.aload_n 0, 1) := by decide +kernel
theorem dX8_set_50 : decode cX8_set 50 = .ok (.aload_n 0, 1) := by decide +kernel
theorem dX8_set_51 : decode cX8_set 51 = .ok (.getfield 136, 3) := by decide +kernel
theorem dX8_set_54 : decode cX8_set 54 = .ok (.iconst 2, 1) := by decide +kernel
theorem dX8_set_55 : decode cX8_set 55 = .ok (.iload_n 1, 1) := by decide +kernel
theorem dX8_set_56 : decode cX8_set 56 = .ok (.bipush 16, 2) := by decide +kernel
theorem dX8_set_58 : decode cX8_set 58 = .ok (.isub, 1) := by decide +kernel
theorem dX8_set_59 : decode cX8_set 59 = .ok (.imul, 1) := by decide +kernel
theorem dX8_set_60 : decode cX8_set 60 = .ok (.iadd, 1) := by decide +kernel
theorem dX8_set_61 : decode cX8_set 61 = .ok (.iload_n 2, 1) := by decide +kernel
theorem dX8_set_62 : decode cX8_set 62 = .ok (.iconst 1, 1) := by decide +kernel
theorem dX8_set_63 : decode cX8_set 63 = .ok (.iconst 0, 1) := by decide +kernel
theorem dX8_set_64 : decode cX8_set 64 = .ok (.invokevirtual 95, 3) := by decide +kernel
theorem dX8_set_67 : decode cX8_set 67 = .ok (.return_, 1) := by decide +kernel
theorem dX8_more_0 : decode cX8_more 0 = .ok (.iload_n 1, 1) := by decide +kernel
theorem dX8_more_1 : decode cX8_more 1 = .ok (.ifCond .ne 55, 3) := by decide +kernel
theorem dX8_more_4 : decode cX8_more 4 = .ok (.aload_n 0, 1) := by decide +kernel
theorem dX8_more_5 : decode cX8_more 5 = .ok (.getfield 145, 3) := by decide +kernel
theorem dX8_more_8 : decode cX8_more 8 = .ok (.aload_n 0, 1) := by decide +kernel
theorem dX8_more_9 : decode cX8_more 9 = .ok (.getfield 57, 3) := by decide +kernel
theorem dX8_more_12 : decode cX8_more 12 = .ok (.aload_n 0, 1) := by decide +kernel
theorem dX8_more_13 : decode cX8_more 13 = .ok (.invokevirtual 148, 3) := by decide +kernel
theorem dX8_more_16 : decode cX8_more 16 = .ok (.iaload, 1) := by decide +kernel
theorem dX8_more_17 : decode cX8_more 17 = .ok (.if_icmp .ne 11, 3) := by decide +kernel
theorem dX8_more_20 : decode cX8_more 20 = .ok (.aload_n 0, 1) := by decide +kernel
theorem dX8_more_21 : decode cX8_more 21 = .ok (.iconst 4, 1) := by decide +kernel
theorem dX8_more_22 : decode cX8_more 22 = .ok (.putfield 81, 3) := by decide +kernel
theorem dX8_more_25 : decode cX8_more 25 = .ok (.goto 30, 3) := by decide +kernel
theorem dX8_more_28 : decode cX8_more 28 = .ok (.aload_n 0, 1) := by decide +kernel
theorem dX8_more_29 : decode cX8_more 29 = .ok (.getfield 63, 3) := by decide +kernel
theorem dX8_more_32 : decode cX8_more 32 = .ok (.aload_n 0, 1) := by decide +kernel
theorem dX8_more_33 : decode cX8_more 33 = .ok (.getfield 145, 3) := by decide +kernel
theorem dX8_more_36 : decode cX8_more 36 = .ok (.iconst 1, 1) := by decide +kernel
theorem dX8_more_37 : decode cX8_more 37 = .ok (.isub, 1) := by decide +kernel
theorem dX8_more_38 : decode cX8_more 38 = .ok (.aload_n 0, 1) := by decide +kernel
theorem dX8_more_39 : decode cX8_more 39 = .ok (.getfield 63, 3) := by decide +kernel
theorem dX8_more_42 : decode cX8_more 42 = .ok (.aload_n 0, 1) := by decide +kernel
theorem dX8_more_43 : decode cX8_more 43 = .ok (.getfield 145, 3) := by decide +kernel
theorem dX8_more_46 : decode cX8_more 46 = .ok (.iconst 1, 1) := by decide +kernel
theorem dX8_more_47 : decode cX8_more 47 = .ok (.isub, 1) := by decide +kernel
theorem dX8_more_48 : decode cX8_more 48 = .ok (.iaload, 1) := by decide +kernel
theorem dX8_more_49 : decode cX8_more 49 = .ok (.iload_n 2, 1) := by decide +kernel
theorem dX8_more_50 : decode cX8_more 50 = .ok (.iadd, 1) := by decide +kernel
theorem dX8_more_51 : decode cX8_more 51 = .ok (.ldc 75, 2) := by decide +kernel
theorem dX8_more_53 : decode cX8_more 53 = .ok (.iand, 1) := by decide +kernel
theorem dX8_more_54 : decode cX8_more 54 = .ok (.iastore, 1) := by decide +kernel
theorem dX8_more_55 : decode cX8_more 55 = .ok (.return_, 1) := by decide +kernel
theorem dX8_more_56 : decode cX8_more 56 = .ok (.aload_n 0, 1) := by decide +kernel
theorem dX8_more_57 : decode cX8_more 57 = .ok (.iload_n 1, 1) := by decide +kernel
theorem dX8_more_58 : decode cX8_more 58 = .ok (.invokevirtual 163, 3) := by decide +kernel
theorem dX8_more_61 : decode cX8_more 61 = .ok (.istore_n 3, 1) := by decide +kernel
theorem dX8_more_62 : decode cX8_more 62 = .ok (.aload_n 0, 1) := by decide +kernel
theorem dX8_more_63 : decode cX8_more 63 = .ok (.getfield 81, 3) := by decide +kernel
theorem dX8_more_66 : decode cX8_more 66 = .ok (.ifCond .ne 11, 3) := by decide +kernel
theorem dX8_more_69 : decode cX8_more 69 = .ok (.aload_n 0, 1) := by decide +kernel
theorem dX8_more_70 : decode cX8_more 70 = .ok (.iload_n 1, 1) := by decide +kernel
theorem dX8_more_71 : decode cX8_more 71 = .ok (.iload_n 3, 1) := by decide +kernel
theorem dX8_more_72 : decode cX8_more 72 = .ok (.iload_n 2, 1) := by decide +kernel
theorem dX8_more_73 : decode cX8_more 73 = .ok (.iadd, 1) := by decide +kernel
theorem dX8_more_74 : decode cX8_more 74 = .ok (.invokevirtual 166, 3) := by decide +kernel
theorem dX8_more_77 : decode cX8_more 77 = .ok (.return_, 1) := by decide +kernel
theorem dX8_wants_0 : decode cX8_wants 0 = .ok (.iload_n 0, 1) := by decide +kernel
theorem dX8_wants_1 : decode cX8_wants 1 = .ok (.tableswitch 125 7 32 #[119, 125, 125, 123, 123, 123, 119, 119, 119, 125, 125, 123, 123, 123, 119, 119, 119, 121, 125, 123, 123, 119, 119, 119, 123, 121], 119) := by decide +kernel
theorem dX8_wants_120 : decode cX8_wants 120 = .ok (.iconst 1, 1) := by decide +kernel
theorem dX8_wants_121 : decode cX8_wants 121 = .ok (.ireturn, 1) := by decide +kernel
theorem dX8_wants_122 : decode cX8_wants 122 = .ok (.iconst 0, 1) := by decide +kernel
theorem dX8_wants_123 : decode cX8_wants 123 = .ok (.ireturn, 1) := by decide +kernel
theorem dX8_wants_124 : decode cX8_wants 124 = .ok (.iconst 3, 1) := by decide +kernel
theorem dX8_wants_125 : decode cX8_wants 125 = .ok (.ireturn, 1) := by decide +kernel
theorem dX8_wants_126 : decode cX8_wants 126 = .ok (.iconst 2, 1) := by decide +kernel
theorem dX8_wants_127 : decode cX8_wants 127 = .ok (.ireturn, 1) := by decide +kernel
theorem dX8_print_0 : decode cX8_print 0 = .ok (.aload_n 0, 1) := by decide +kernel
theorem dX8_print_1 : decode cX8_print 1 = .ok (.getfield 170, 3) := by decide +kernel
theorem dX8_print_4 : decode cX8_print 4 = .ok (.bipush 120, 2) := by decide +kernel
theorem dX8_print_6 : decode cX8_print 6 = .ok (.if_icmp .ne 10, 3) := by decide +kernel
theorem dX8_print_9 : decode cX8_print 9 = .ok (.aload_n 0, 1) := by decide +kernel
theorem dX8_print_10 : decode cX8_print 10 = .ok (.bipush 11, 2) := by decide +kernel
theorem dX8_print_12 : decode cX8_print 12 = .ok (.putfield 81, 3) := by decide +kernel
theorem dX8_print_15 : decode cX8_print 15 = .ok (.return_, 1) := by decide +kernel
theorem dX8_print_16 : decode cX8_print 16 = .ok (.aload_n 0, 1) := by decide +kernel
theorem dX8_print_17 : decode cX8_print 17 = .ok (.getfield 66, 3) := by decide +kernel
theorem dX8_print_20 : decode cX8_print 20 = .ok (.aload_n 0, 1) := by decide +kernel
theorem dX8_print_21 : decode cX8_print 21 = .ok (.getfield 170, 3) := by decide +kernel
theorem dX8_print_24 : decode cX8_print 24 = .ok (.iload_n 1, 1) := by decide +kernel
theorem dX8_print_25 : decode cX8_print 25 = .ok (.sipush 255, 3) := by decide +kernel
theorem dX8_print_28 : decode cX8_print 28 = .ok (.iand, 1) := by decide +kernel
theorem dX8_print_29 : decode cX8_print 29 = .ok (.iastore, 1) := by decide +kernel
theorem dX8_print_30 : decode cX8_print 30 = .ok (.aload_n 0, 1) := by decide +kernel
theorem dX8_print_31 : decode cX8_print 31 = .ok (.dup, 1) := by decide +kernel
theorem dX8_print_32 : decode cX8_print 32 = .ok (.getfield 170, 3) := by decide +kernel
theorem dX8_print_35 : decode cX8_print 35 = .ok (.iconst 1, 1) := by decide +kernel
theorem dX8_print_36 : decode cX8_print 36 = .ok (.iadd, 1) := by decide +kernel
theorem dX8_print_37 : decode cX8_print 37 = .ok (.putfield 170, 3) := by decide +kernel
theorem dX8_print_40 : decode cX8_print 40 = .ok (.return_, 1) := by decide +kernel
theorem dX8_printNumber_0 : decode cX8_printNumber 0 = .ok (.iload_n 1, 1) := by decide +kernel
theorem dX8_printNumber_1 : decode cX8_printNumber 1 = .ok (.ifCond .ge 9, 3) := by decide +kernel
theorem dX8_printNumber_4 : decode cX8_printNumber 4 = .ok (.aload_n 0, 1) := by decide +kernel
theorem dX8_printNumber_5 : decode cX8_printNumber 5 = .ok (.bipush 45, 2) := by decide +kernel
theorem dX8_printNumber_7 : decode cX8_printNumber 7 = .ok (.invokevirtual 173, 3) := by decide +kernel
theorem dX8_printNumber_10 : decode cX8_printNumber 10 = .ok (.iload_n 1, 1) := by decide +kernel
theorem dX8_printNumber_11 : decode cX8_printNumber 11 = .ok (.ifCond .ge 8, 3) := by decide +kernel
theorem dX8_printNumber_14 : decode cX8_printNumber 14 = .ok (.iload_n 1, 1) := by decide +kernel
theorem dX8_printNumber_15 : decode cX8_printNumber 15 = .ok (.ineg, 1) := by decide +kernel
theorem dX8_printNumber_16 : decode cX8_printNumber 16 = .ok (.goto 4, 3) := by decide +kernel
theorem dX8_printNumber_19 : decode cX8_printNumber 19 = .ok (.iload_n 1, 1) := by decide +kernel
theorem dX8_printNumber_20 : decode cX8_printNumber 20 = .ok (.istore_n 2, 1) := by decide +kernel
theorem dX8_printNumber_21 : decode cX8_printNumber 21 = .ok (.iconst 1, 1) := by decide +kernel
theorem dX8_printNumber_22 : decode cX8_printNumber 22 = .ok (.istore_n 3, 1) := by decide +kernel
theorem dX8_printNumber_23 : decode cX8_printNumber 23 = .ok (.iload_n 2, 1) := by decide +kernel
theorem dX8_printNumber_24 : decode cX8_printNumber 24 = .ok (.iload_n 3, 1) := by decide +kernel
theorem dX8_printNumber_25 : decode cX8_printNumber 25 = .ok (.idiv, 1) := by decide +kernel
theorem dX8_printNumber_26 : decode cX8_printNumber 26 = .ok (.bipush 10, 2) := by decide +kernel
theorem dX8_printNumber_28 : decode cX8_printNumber 28 = .ok (.if_icmp .lt 11, 3) := by decide +kernel
theorem dX8_printNumber_31 : decode cX8_printNumber 31 = .ok (.iload_n 3, 1) := by decide +kernel
theorem dX8_printNumber_32 : decode cX8_printNumber 32 = .ok (.bipush 10, 2) := by decide +kernel
theorem dX8_printNumber_34 : decode cX8_printNumber 34 = .ok (.imul, 1) := by decide +kernel
theorem dX8_printNumber_35 : decode cX8_printNumber 35 = .ok (.istore_n 3, 1) := by decide +kernel
theorem dX8_printNumber_36 : decode cX8_printNumber 36 = .ok (.goto (-13), 3) := by decide +kernel
theorem dX8_printNumber_39 : decode cX8_printNumber 39 = .ok (.iload_n 3, 1) := by decide +kernel
theorem dX8_printNumber_40 : decode cX8_printNumber 40 = .ok (.ifCond .le 31, 3) := by decide +kernel
theorem dX8_printNumber_43 : decode cX8_printNumber 43 = .ok (.aload_n 0, 1) := by decide +kernel
theorem dX8_printNumber_44 : decode cX8_printNumber 44 = .ok (.getfield 81, 3) := by decide +kernel
theorem dX8_printNumber_47 : decode cX8_printNumber 47 = .ok (.ifCond .ne 24, 3) := by decide +kernel
theorem dX8_printNumber_50 : decode cX8_printNumber 50 = .ok (.aload_n 0, 1) := by decide +kernel
theorem dX8_printNumber_51 : decode cX8_printNumber 51 = .ok (.bipush 48, 2) := by decide +kernel
theorem dX8_printNumber_53 : decode cX8_printNumber 53 = .ok (.iload_n 2, 1) := by decide +kernel
theorem dX8_printNumber_54 : decode cX8_printNumber 54 = .ok (.iload_n 3, 1) := by decide +kernel
theorem dX8_printNumber_55 : decode cX8_printNumber 55 = .ok (.idiv, 1) := by decide +kernel
theorem dX8_printNumber_56 : decode cX8_printNumber 56 = .ok (.bipush 10, 2) := by decide +kernel
theorem dX8_printNumber_58 : decode cX8_printNumber 58 = .ok (.irem, 1) := by decide +kernel
theorem dX8_printNumber_59 : decode cX8_printNumber 59 = .ok (.iadd, 1) := by decide +kernel
theorem dX8_printNumber_60 : decode cX8_printNumber 60 = .ok (.invokevirtual 173, 3) := by decide +kernel
theorem dX8_printNumber_63 : decode cX8_printNumber 63 = .ok (.iload_n 3, 1) := by decide +kernel
theorem dX8_printNumber_64 : decode cX8_printNumber 64 = .ok (.bipush 10, 2) := by decide +kernel
theorem dX8_printNumber_66 : decode cX8_printNumber 66 = .ok (.idiv, 1) := by decide +kernel
theorem dX8_printNumber_67 : decode cX8_printNumber 67 = .ok (.istore_n 3, 1) := by decide +kernel
theorem dX8_printNumber_68 : decode cX8_printNumber 68 = .ok (.goto (-29), 3) := by decide +kernel
theorem dX8_printNumber_71 : decode cX8_printNumber 71 = .ok (.return_, 1) := by decide +kernel
theorem dX8_printRows_0 : decode cX8_printRows 0 = .ok (.iconst 0, 1) := by decide +kernel
theorem dX8_printRows_1 : decode cX8_printRows 1 = .ok (.istore 4, 2) := by decide +kernel
theorem dX8_printRows_3 : decode cX8_printRows 3 = .ok (.iload 4, 2) := by decide +kernel
theorem dX8_printRows_5 : decode cX8_printRows 5 = .ok (.iload_n 3, 1) := by decide +kernel
theorem dX8_printRows_6 : decode cX8_printRows 6 = .ok (.if_icmp .ge 82, 3) := by decide +kernel
theorem dX8_printRows_9 : decode cX8_printRows 9 = .ok (.iload_n 2, 1) := by decide +kernel
theorem dX8_printRows_10 : decode cX8_printRows 10 = .ok (.ifCond .lt 78, 3) := by decide +kernel
theorem dX8_printRows_13 : decode cX8_printRows 13 = .ok (.aload_n 0, 1) := by decide +kernel
theorem dX8_printRows_14 : decode cX8_printRows 14 = .ok (.getfield 81, 3) := by decide +kernel
theorem dX8_printRows_17 : decode cX8_printRows 17 = .ok (.ifCond .ne 71, 3) := by decide +kernel
theorem dX8_printRows_20 : decode cX8_printRows 20 = .ok (.iload 4, 2) := by decide +kernel
theorem dX8_printRows_22 : decode cX8_printRows 22 = .ok (.ifCond .le 9, 3) := by decide +kernel
theorem dX8_printRows_25 : decode cX8_printRows 25 = .ok (.aload_n 0, 1) := by decide +kernel
theorem dX8_printRows_26 : decode cX8_printRows 26 = .ok (.bipush 10, 2) := by decide +kernel
theorem dX8_printRows_28 : decode cX8_printRows 28 = .ok (.invokevirtual 173, 3) := by decide +kernel
theorem dX8_printRows_31 : decode cX8_printRows 31 = .ok (.iconst 0, 1) := by decide +kernel
theorem dX8_printRows_32 : decode cX8_printRows 32 = .ok (.istore 5, 2) := by decide +kernel
theorem dX8_printRows_34 : decode cX8_printRows 34 = .ok (.iload 5, 2) := by decide +kernel
theorem dX8_printRows_36 : decode cX8_printRows 36 = .ok (.iload_n 2, 1) := by decide +kernel
theorem dX8_printRows_37 : decode cX8_printRows 37 = .ok (.if_icmp .ge 45, 3) := by decide +kernel
theorem dX8_printRows_40 : decode cX8_printRows 40 = .ok (.aload_n 0, 1) := by decide +kernel
theorem dX8_printRows_41 : decode cX8_printRows 41 = .ok (.getfield 81, 3) := by decide +kernel
theorem dX8_printRows_44 : decode cX8_printRows 44 = .ok (.ifCond .ne 38, 3) := by decide +kernel
theorem dX8_printRows_47 : decode cX8_printRows 47 = .ok (.aload_n 0, 1) := by decide +kernel
theorem dX8_printRows_48 : decode cX8_printRows 48 = .ok (.iload_n 1, 1) := by decide +kernel
theorem dX8_printRows_49 : decode cX8_printRows 49 = .ok (.iload 4, 2) := by decide +kernel
theorem dX8_printRows_51 : decode cX8_printRows 51 = .ok (.iload_n 2, 1) := by decide +kernel
theorem dX8_printRows_52 : decode cX8_printRows 52 = .ok (.imul, 1) := by decide +kernel
theorem dX8_printRows_53 : decode cX8_printRows 53 = .ok (.iadd, 1) := by decide +kernel
theorem dX8_printRows_54 : decode cX8_printRows 54 = .ok (.iload 5, 2) := by decide +kernel
theorem dX8_printRows_56 : decode cX8_printRows 56 = .ok (.iadd, 1) := by decide +kernel
theorem dX8_printRows_57 : decode cX8_printRows 57 = .ok (.iconst 0, 1) := by decide +kernel
theorem dX8_printRows_58 : decode cX8_printRows 58 = .ok (.invokevirtual 91, 3) := by decide +kernel
theorem dX8_printRows_61 : decode cX8_printRows 61 = .ok (.istore 6, 2) := by decide +kernel
theorem dX8_printRows_63 : decode cX8_printRows 63 = .ok (.aload_n 0, 1) := by decide +kernel
theorem dX8_printRows_64 : decode cX8_printRows 64 = .ok (.getfield 81, 3) := by decide +kernel
theorem dX8_printRows_67 : decode cX8_printRows 67 = .ok (.ifCond .ne 9, 3) := by decide +kernel
theorem dX8_printRows_70 : decode cX8_printRows 70 = .ok (.aload_n 0, 1) := by decide +kernel
theorem dX8_printRows_71 : decode cX8_printRows 71 = .ok (.iload 6, 2) := by decide +kernel
theorem dX8_printRows_73 : decode cX8_printRows 73 = .ok (.invokevirtual 173, 3) := by decide +kernel
theorem dX8_printRows_76 : decode cX8_printRows 76 = .ok (.iinc 5 1, 3) := by decide +kernel
theorem dX8_printRows_79 : decode cX8_printRows 79 = .ok (.goto (-45), 3) := by decide +kernel
theorem dX8_printRows_82 : decode cX8_printRows 82 = .ok (.iinc 4 1, 3) := by decide +kernel
theorem dX8_printRows_85 : decode cX8_printRows 85 = .ok (.goto (-82), 3) := by decide +kernel
theorem dX8_printRows_88 : decode cX8_printRows 88 = .ok (.return_, 1) := by decide +kernel
theorem dX8_enter_0 : decode cX8_enter 0 = .ok (.iload_n 1, 1) := by decide +kernel
theorem dX8_enter_1 : decode cX8_enter 1 = .ok (.ifCond .lt 18, 3) := by decide +kernel
theorem dX8_enter_4 : decode cX8_enter 4 = .ok (.iload_n 1, 1) := by decide +kernel
theorem dX8_enter_5 : decode cX8_enter 5 = .ok (.bipush 7, 2) := by decide +kernel
theorem dX8_enter_7 : decode cX8_enter 7 = .ok (.if_icmp .gt 12, 3) := by decide +kernel
theorem dX8_enter_10 : decode cX8_enter 10 = .ok (.aload_n 0, 1) := by decide +kernel
theorem dX8_enter_11 : decode cX8_enter 11 = .ok (.getfield 35, 3) := by decide +kernel
theorem dX8_enter_14 : decode cX8_enter 14 = .ok (.iload_n 1, 1) := by decide +kernel
theorem dX8_enter_15 : decode cX8_enter 15 = .ok (.baload, 1) := by decide +kernel
theorem dX8_enter_16 : decode cX8_enter 16 = .ok (.ifCond .ne 10, 3) := by decide +kernel
theorem dX8_enter_19 : decode cX8_enter 19 = .ok (.aload_n 0, 1) := by decide +kernel
theorem dX8_enter_20 : decode cX8_enter 20 = .ok (.bipush 9, 2) := by decide +kernel
theorem dX8_enter_22 : decode cX8_enter 22 = .ok (.putfield 81, 3) := by decide +kernel
theorem dX8_enter_25 : decode cX8_enter 25 = .ok (.return_, 1) := by decide +kernel
theorem dX8_enter_26 : decode cX8_enter 26 = .ok (.aload_n 0, 1) := by decide +kernel
theorem dX8_enter_27 : decode cX8_enter 27 = .ok (.getfield 142, 3) := by decide +kernel
theorem dX8_enter_30 : decode cX8_enter 30 = .ok (.bipush 12, 2) := by decide +kernel
theorem dX8_enter_32 : decode cX8_enter 32 = .ok (.if_icmp .ne 10, 3) := by decide +kernel
theorem dX8_enter_35 : decode cX8_enter 35 = .ok (.aload_n 0, 1) := by decide +kernel
theorem dX8_enter_36 : decode cX8_enter 36 = .ok (.bipush 6, 2) := by decide +kernel
theorem dX8_enter_38 : decode cX8_enter 38 = .ok (.putfield 81, 3) := by decide +kernel
theorem dX8_enter_41 : decode cX8_enter 41 = .ok (.return_, 1) := by decide +kernel
theorem dX8_enter_42 : decode cX8_enter 42 = .ok (.aload_n 0, 1) := by decide +kernel
theorem dX8_enter_43 : decode cX8_enter 43 = .ok (.getfield 48, 3) := by decide +kernel
theorem dX8_enter_46 : decode cX8_enter 46 = .ok (.aload_n 0, 1) := by decide +kernel
theorem dX8_enter_47 : decode cX8_enter 47 = .ok (.getfield 142, 3) := by decide +kernel
theorem dX8_enter_50 : decode cX8_enter 50 = .ok (.iload_n 1, 1) := by decide +kernel
theorem dX8_enter_51 : decode cX8_enter 51 = .ok (.iastore, 1) := by decide +kernel
theorem dX8_enter_52 : decode cX8_enter 52 = .ok (.aload_n 0, 1) := by decide +kernel
theorem dX8_enter_53 : decode cX8_enter 53 = .ok (.getfield 51, 3) := by decide +kernel
theorem dX8_enter_56 : decode cX8_enter 56 = .ok (.aload_n 0, 1) := by decide +kernel
theorem dX8_enter_57 : decode cX8_enter 57 = .ok (.getfield 142, 3) := by decide +kernel
theorem dX8_enter_60 : decode cX8_enter 60 = .ok (.aload_n 0, 1) := by decide +kernel
theorem dX8_enter_61 : decode cX8_enter 61 = .ok (.getfield 39, 3) := by decide +kernel
theorem dX8_enter_64 : decode cX8_enter 64 = .ok (.iload_n 1, 1) := by decide +kernel
theorem dX8_enter_65 : decode cX8_enter 65 = .ok (.iaload, 1) := by decide +kernel
theorem dX8_enter_66 : decode cX8_enter 66 = .ok (.iastore, 1) := by decide +kernel
theorem dX8_enter_67 : decode cX8_enter 67 = .ok (.aload_n 0, 1) := by decide +kernel
theorem dX8_enter_68 : decode cX8_enter 68 = .ok (.getfield 54, 3) := by decide +kernel
theorem dX8_enter_71 : decode cX8_enter 71 = .ok (.aload_n 0, 1) := by decide +kernel
theorem dX8_enter_72 : decode cX8_enter 72 = .ok (.getfield 142, 3) := by decide +kernel
theorem dX8_enter_75 : decode cX8_enter 75 = .ok (.iload 4, 2) := by decide +kernel
theorem dX8_enter_77 : decode cX8_enter 77 = .ok (.iastore, 1) := by decide +kernel
theorem dX8_enter_78 : decode cX8_enter 78 = .ok (.aload_n 0, 1) := by decide +kernel
theorem dX8_enter_79 : decode cX8_enter 79 = .ok (.getfield 57, 3) := by decide +kernel
theorem dX8_enter_82 : decode cX8_enter 82 = .ok (.aload_n 0, 1) := by decide +kernel
theorem dX8_enter_83 : decode cX8_enter 83 = .ok (.getfield 142, 3) := by decide +kernel
theorem dX8_enter_86 : decode cX8_enter 86 = .ok (.aload_n 0, 1) := by decide +kernel
theorem dX8_enter_87 : decode cX8_enter 87 = .ok (.getfield 145, 3) := by decide +kernel
theorem dX8_enter_90 : decode cX8_enter 90 = .ok (.iastore, 1) := by decide +kernel
theorem dX8_enter_91 : decode cX8_enter 91 = .ok (.iconst 0, 1) := by decide +kernel
theorem dX8_enter_92 : decode cX8_enter 92 = .ok (.istore 5, 2) := by decide +kernel
theorem dX8_enter_94 : decode cX8_enter 94 = .ok (.iload 5, 2) := by decide +kernel
theorem dX8_enter_96 : decode cX8_enter 96 = .ok (.bipush 15, 2) := by decide +kernel
theorem dX8_enter_98 : decode cX8_enter 98 = .ok (.if_icmp .ge 50, 3) := by decide +kernel
theorem dX8_enter_101 : decode cX8_enter 101 = .ok (.aload_n 0, 1) := by decide +kernel
theorem dX8_enter_102 : decode cX8_enter 102 = .ok (.getfield 60, 3) := by decide +kernel
theorem dX8_enter_105 : decode cX8_enter 105 = .ok (.bipush 15, 2) := by decide +kernel
theorem dX8_enter_107 : decode cX8_enter 107 = .ok (.aload_n 0, 1) := by decide +kernel
theorem dX8_enter_108 : decode cX8_enter 108 = .ok (.getfield 142, 3) := by decide +kernel
theorem dX8_enter_111 : decode cX8_enter 111 = .ok (.imul, 1) := by decide +kernel
theorem dX8_enter_112 : decode cX8_enter 112 = .ok (.iload 5, 2) := by decide +kernel
theorem dX8_enter_114 : decode cX8_enter 114 = .ok (.iadd, 1) := by decide +kernel
theorem dX8_enter_115 : decode cX8_enter 115 = .ok (.iload 5, 2) := by decide +kernel
theorem dX8_enter_117 : decode cX8_enter 117 = .ok (.ifCond .ne 10, 3) := by decide +kernel
theorem dX8_enter_120 : decode cX8_enter 120 = .ok (.iload_n 2, 1) := by decide +kernel
theorem dX8_enter_121 : decode cX8_enter 121 = .ok (.ldc 75, 2) := by decide +kernel
theorem dX8_enter_123 : decode cX8_enter 123 = .ok (.iand, 1) := by decide +kernel
theorem dX8_enter_124 : decode cX8_enter 124 = .ok (.goto 17, 3) := by decide +kernel
theorem dX8_enter_127 : decode cX8_enter 127 = .ok (.iload 5, 2) := by decide +kernel
theorem dX8_enter_129 : decode cX8_enter 129 = .ok (.iconst 1, 1) := by decide +kernel
theorem dX8_enter_130 : decode cX8_enter 130 = .ok (.if_icmp .ne 10, 3) := by decide +kernel
theorem dX8_enter_133 : decode cX8_enter 133 = .ok (.iload_n 3, 1) := by decide +kernel
theorem dX8_enter_134 : decode cX8_enter 134 = .ok (.ldc 75, 2) := by decide +kernel
theorem dX8_enter_136 : decode cX8_enter 136 = .ok (.iand, 1) := by decide +kernel
theorem dX8_enter_137 : decode cX8_enter 137 = .ok (.goto 4, 3) := by decide +kernel
theorem dX8_enter_140 : decode cX8_enter 140 = .ok (.iconst 0, 1) := by decide +kernel
theorem dX8_enter_141 : decode cX8_enter 141 = .ok (.iastore, 1) := by decide +kernel
theorem dX8_enter_142 : decode cX8_enter 142 = .ok (.iinc 5 1, 3) := by decide +kernel
theorem dX8_enter_145 : decode cX8_enter 145 = .ok (.goto (-51), 3) := by decide +kernel
theorem dX8_enter_148 : decode cX8_enter 148 = .ok (.aload_n 0, 1) := by decide +kernel
theorem dX8_enter_149 : decode cX8_enter 149 = .ok (.dup, 1) := by decide +kernel
theorem dX8_enter_150 : decode cX8_enter 150 = .ok (.getfield 142, 3) := by decide +kernel
theorem dX8_enter_153 : decode cX8_enter 153 = .ok (.iconst 1, 1) := by decide +kernel
theorem dX8_enter_154 : decode cX8_enter 154 = .ok (.iadd, 1) := by decide +kernel
theorem dX8_enter_155 : decode cX8_enter 155 = .ok (.putfield 142, 3) := by decide +kernel
theorem dX8_enter_158 : decode cX8_enter 158 = .ok (.aload_n 0, 1) := by decide +kernel
theorem dX8_enter_159 : decode cX8_enter 159 = .ok (.aload_n 0, 1) := by decide +kernel
theorem dX8_enter_160 : decode cX8_enter 160 = .ok (.getfield 142, 3) := by decide +kernel
theorem dX8_enter_163 : decode cX8_enter 163 = .ok (.aload_n 0, 1) := by decide +kernel
theorem dX8_enter_164 : decode cX8_enter 164 = .ok (.getfield 176, 3) := by decide +kernel
theorem dX8_enter_167 : decode cX8_enter 167 = .ok (.if_icmp .le 10, 3) := by decide +kernel
theorem dX8_enter_170 : decode cX8_enter 170 = .ok (.aload_n 0, 1) := by decide +kernel
theorem dX8_enter_171 : decode cX8_enter 171 = .ok (.getfield 142, 3) := by decide +kernel
theorem dX8_enter_174 : decode cX8_enter 174 = .ok (.goto 7, 3) := by decide +kernel
theorem dX8_enter_177 : decode cX8_enter 177 = .ok (.aload_n 0, 1) := by decide +kernel
theorem dX8_enter_178 : decode cX8_enter 178 = .ok (.getfield 176, 3) := by decide +kernel
theorem dX8_enter_181 : decode cX8_enter 181 = .ok (.putfield 176, 3) := by decide +kernel
theorem dX8_enter_184 : decode cX8_enter 184 = .ok (.return_, 1) := by decide +kernel
theorem dX8_leave_0 : decode cX8_leave 0 = .ok (.aload_n 0, 1) := by decide +kernel
theorem dX8_leave_1 : decode cX8_leave 1 = .ok (.dup, 1) := by decide +kernel
theorem dX8_leave_2 : decode cX8_leave 2 = .ok (.getfield 142, 3) := by decide +kernel
theorem dX8_leave_5 : decode cX8_leave 5 = .ok (.iconst 1, 1) := by decide +kernel
theorem dX8_leave_6 : decode cX8_leave 6 = .ok (.isub, 1) := by decide +kernel
theorem dX8_leave_7 : decode cX8_leave 7 = .ok (.putfield 142, 3) := by decide +kernel
theorem dX8_leave_10 : decode cX8_leave 10 = .ok (.aload_n 0, 1) := by decide +kernel
theorem dX8_leave_11 : decode cX8_leave 11 = .ok (.aload_n 0, 1) := by decide +kernel
theorem dX8_leave_12 : decode cX8_leave 12 = .ok (.getfield 57, 3) := by decide +kernel
theorem dX8_leave_15 : decode cX8_leave 15 = .ok (.aload_n 0, 1) := by decide +kernel
theorem dX8_leave_16 : decode cX8_leave 16 = .ok (.getfield 142, 3) := by decide +kernel
theorem dX8_leave_19 : decode cX8_leave 19 = .ok (.iaload, 1) := by decide +kernel
theorem dX8_leave_20 : decode cX8_leave 20 = .ok (.putfield 145, 3) := by decide +kernel
theorem dX8_leave_23 : decode cX8_leave 23 = .ok (.aload_n 0, 1) := by decide +kernel
theorem dX8_leave_24 : decode cX8_leave 24 = .ok (.getfield 69, 3) := by decide +kernel
theorem dX8_leave_27 : decode cX8_leave 27 = .ok (.aload_n 0, 1) := by decide +kernel
theorem dX8_leave_28 : decode cX8_leave 28 = .ok (.getfield 48, 3) := by decide +kernel
theorem dX8_leave_31 : decode cX8_leave 31 = .ok (.aload_n 0, 1) := by decide +kernel
theorem dX8_leave_32 : decode cX8_leave 32 = .ok (.getfield 142, 3) := by decide +kernel
theorem dX8_leave_35 : decode cX8_leave 35 = .ok (.iaload, 1) := by decide +kernel
theorem dX8_leave_36 : decode cX8_leave 36 = .ok (.dup2, 1) := by decide +kernel
theorem dX8_leave_37 : decode cX8_leave 37 = .ok (.iaload, 1) := by decide +kernel
theorem dX8_leave_38 : decode cX8_leave 38 = .ok (.iconst 1, 1) := by decide +kernel
theorem dX8_leave_39 : decode cX8_leave 39 = .ok (.iadd, 1) := by decide +kernel
theorem dX8_leave_40 : decode cX8_leave 40 = .ok (.iastore, 1) := by decide +kernel
theorem dX8_leave_41 : decode cX8_leave 41 = .ok (.return_, 1) := by decide +kernel
theorem dX8_back_0 : decode cX8_back 0 = .ok (.aload_n 0, 1) := by decide +kernel
theorem dX8_back_1 : decode cX8_back 1 = .ok (.invokevirtual 179, 3) := by decide +kernel
theorem dX8_back_4 : decode cX8_back 4 = .ok (.aload_n 0, 1) := by decide +kernel
theorem dX8_back_5 : decode cX8_back 5 = .ok (.getfield 142, 3) := by decide +kernel
theorem dX8_back_8 : decode cX8_back 8 = .ok (.ifCond .ne 17, 3) := by decide +kernel
theorem dX8_back_11 : decode cX8_back 11 = .ok (.aload_n 0, 1) := by decide +kernel
theorem dX8_back_12 : decode cX8_back 12 = .ok (.iload_n 1, 1) := by decide +kernel
theorem dX8_back_13 : decode cX8_back 13 = .ok (.invokestatic 99, 3) := by decide +kernel
theorem dX8_back_16 : decode cX8_back 16 = .ok (.putfield 182, 3) := by decide +kernel
theorem dX8_back_19 : decode cX8_back 19 = .ok (.aload_n 0, 1) := by decide +kernel
theorem dX8_back_20 : decode cX8_back 20 = .ok (.iconst 0, 1) := by decide +kernel
theorem dX8_back_21 : decode cX8_back 21 = .ok (.putfield 185, 3) := by decide +kernel
theorem dX8_back_24 : decode cX8_back 24 = .ok (.return_, 1) := by decide +kernel
theorem dX8_back_25 : decode cX8_back 25 = .ok (.aload_n 0, 1) := by decide +kernel
theorem dX8_back_26 : decode cX8_back 26 = .ok (.getfield 54, 3) := by decide +kernel
theorem dX8_back_29 : decode cX8_back 29 = .ok (.aload_n 0, 1) := by decide +kernel
theorem dX8_back_30 : decode cX8_back 30 = .ok (.getfield 142, 3) := by decide +kernel
theorem dX8_back_33 : decode cX8_back 33 = .ok (.iaload, 1) := by decide +kernel
theorem dX8_back_34 : decode cX8_back 34 = .ok (.istore_n 2, 1) := by decide +kernel
theorem dX8_back_35 : decode cX8_back 35 = .ok (.iload_n 2, 1) := by decide +kernel
theorem dX8_back_36 : decode cX8_back 36 = .ok (.ifCond .lt 9, 3) := by decide +kernel
theorem dX8_back_39 : decode cX8_back 39 = .ok (.aload_n 0, 1) := by decide +kernel
theorem dX8_back_40 : decode cX8_back 40 = .ok (.iload_n 2, 1) := by decide +kernel
theorem dX8_back_41 : decode cX8_back 41 = .ok (.iload_n 1, 1) := by decide +kernel
theorem dX8_back_42 : decode cX8_back 42 = .ok (.invokevirtual 166, 3) := by decide +kernel
theorem dX8_back_45 : decode cX8_back 45 = .ok (.return_, 1) := by decide +kernel
theorem dX8_act_0 : decode cX8_act 0 = .ok (.iconst (-1), 1) := by decide +kernel
theorem dX8_act_1 : decode cX8_act 1 = .ok (.istore 6, 2) := by decide +kernel
theorem dX8_act_3 : decode cX8_act 3 = .ok (.iload_n 1, 1) := by decide +kernel
theorem dX8_act_4 : decode cX8_act 4 = .ok (.tableswitch 443 10 32 #[108, 108, 108, 199, 210, 221, 232, 250, 266, 283, 298, 309, 315, 321, 346, 355, 362, 374, 394, 407, 416, 422, 437], 108) := by decide +kernel
theorem dX8_act_112 : decode cX8_act 112 = .ok (.iload_n 1, 1) := by decide +kernel
theorem dX8_act_113 : decode cX8_act 113 = .ok (.bipush 10, 2) := by decide +kernel
theorem dX8_act_115 : decode cX8_act 115 = .ok (.if_icmp .ne 16, 3) := by decide +kernel
theorem dX8_act_118 : decode cX8_act 118 = .ok (.iload_n 2, 1) := by decide +kernel
theorem dX8_act_119 : decode cX8_act 119 = .ok (.iload_n 3, 1) := by decide +kernel
theorem dX8_act_120 : decode cX8_act 120 = .ok (.if_icmp .ne 7, 3) := by decide +kernel
theorem dX8_act_123 : decode cX8_act 123 = .ok (.iconst 1, 1) := by decide +kernel
theorem dX8_act_124 : decode cX8_act 124 = .ok (.goto 48, 3) := by decide +kernel
theorem dX8_act_127 : decode cX8_act 127 = .ok (.iconst 0, 1) := by decide +kernel
theorem dX8_act_128 : decode cX8_act 128 = .ok (.goto 44, 3) := by decide +kernel
theorem dX8_act_131 : decode cX8_act 131 = .ok (.iload_n 1, 1) := by decide +kernel
theorem dX8_act_132 : decode cX8_act 132 = .ok (.bipush 11, 2) := by decide +kernel
theorem dX8_act_134 : decode cX8_act 134 = .ok (.if_icmp .ne 22, 3) := by decide +kernel
theorem dX8_act_137 : decode cX8_act 137 = .ok (.iload_n 2, 1) := by decide +kernel
theorem dX8_act_138 : decode cX8_act 138 = .ok (.invokestatic 99, 3) := by decide +kernel
theorem dX8_act_141 : decode cX8_act 141 = .ok (.iload_n 3, 1) := by decide +kernel
theorem dX8_act_142 : decode cX8_act 142 = .ok (.invokestatic 99, 3) := by decide +kernel
theorem dX8_act_145 : decode cX8_act 145 = .ok (.if_icmp .ge 7, 3) := by decide +kernel
theorem dX8_act_148 : decode cX8_act 148 = .ok (.iconst 1, 1) := by decide +kernel
theorem dX8_act_149 : decode cX8_act 149 = .ok (.goto 23, 3) := by decide +kernel
theorem dX8_act_152 : decode cX8_act 152 = .ok (.iconst 0, 1) := by decide +kernel
theorem dX8_act_153 : decode cX8_act 153 = .ok (.goto 19, 3) := by decide +kernel
theorem dX8_act_156 : decode cX8_act 156 = .ok (.iload_n 2, 1) := by decide +kernel
theorem dX8_act_157 : decode cX8_act 157 = .ok (.invokestatic 99, 3) := by decide +kernel
theorem dX8_act_160 : decode cX8_act 160 = .ok (.iload_n 3, 1) := by decide +kernel
theorem dX8_act_161 : decode cX8_act 161 = .ok (.invokestatic 99, 3) := by decide +kernel
theorem dX8_act_164 : decode cX8_act 164 = .ok (.if_icmp .le 7, 3) := by decide +kernel
theorem dX8_act_167 : decode cX8_act 167 = .ok (.iconst 1, 1) := by decide +kernel
theorem dX8_act_168 : decode cX8_act 168 = .ok (.goto 4, 3) := by decide +kernel
theorem dX8_act_171 : decode cX8_act 171 = .ok (.iconst 0, 1) := by decide +kernel
theorem dX8_act_172 : decode cX8_act 172 = .ok (.istore 7, 2) := by decide +kernel
theorem dX8_act_174 : decode cX8_act 174 = .ok (.aload_n 0, 1) := by decide +kernel
theorem dX8_act_175 : decode cX8_act 175 = .ok (.getfield 51, 3) := by decide +kernel
theorem dX8_act_178 : decode cX8_act 178 = .ok (.aload_n 0, 1) := by decide +kernel
theorem dX8_act_179 : decode cX8_act 179 = .ok (.invokevirtual 148, 3) := by decide +kernel
theorem dX8_act_182 : decode cX8_act 182 = .ok (.iload 7, 2) := by decide +kernel
theorem dX8_act_184 : decode cX8_act 184 = .ok (.ifCond .eq 8, 3) := by decide +kernel
theorem dX8_act_187 : decode cX8_act 187 = .ok (.iload 4, 2) := by decide +kernel
theorem dX8_act_189 : decode cX8_act 189 = .ok (.goto 12, 3) := by decide +kernel
theorem dX8_act_192 : decode cX8_act 192 = .ok (.aload_n 0, 1) := by decide +kernel
theorem dX8_act_193 : decode cX8_act 193 = .ok (.getfield 51, 3) := by decide +kernel
theorem dX8_act_196 : decode cX8_act 196 = .ok (.aload_n 0, 1) := by decide +kernel
theorem dX8_act_197 : decode cX8_act 197 = .ok (.invokevirtual 148, 3) := by decide +kernel
theorem dX8_act_200 : decode cX8_act 200 = .ok (.iaload, 1) := by decide +kernel
theorem dX8_act_201 : decode cX8_act 201 = .ok (.iastore, 1) := by decide +kernel
theorem dX8_act_202 : decode cX8_act 202 = .ok (.return_, 1) := by decide +kernel
theorem dX8_act_203 : decode cX8_act 203 = .ok (.aload_n 0, 1) := by decide +kernel
theorem dX8_act_204 : decode cX8_act 204 = .ok (.getfield 51, 3) := by decide +kernel
theorem dX8_act_207 : decode cX8_act 207 = .ok (.aload_n 0, 1) := by decide +kernel
theorem dX8_act_208 : decode cX8_act 208 = .ok (.invokevirtual 148, 3) := by decide +kernel
theorem dX8_act_211 : decode cX8_act 211 = .ok (.iload_n 2, 1) := by decide +kernel
theorem dX8_act_212 : decode cX8_act 212 = .ok (.iastore, 1) := by decide +kernel
theorem dX8_act_213 : decode cX8_act 213 = .ok (.return_, 1) := by decide +kernel
theorem dX8_act_214 : decode cX8_act 214 = .ok (.aload_n 0, 1) := by decide +kernel
theorem dX8_act_215 : decode cX8_act 215 = .ok (.iload_n 2, 1) := by decide +kernel
theorem dX8_act_216 : decode cX8_act 216 = .ok (.sipush 255, 3) := by decide +kernel
theorem dX8_act_219 : decode cX8_act 219 = .ok (.iand, 1) := by decide +kernel
theorem dX8_act_220 : decode cX8_act 220 = .ok (.iconst 1, 1) := by decide +kernel
theorem dX8_act_221 : decode cX8_act 221 = .ok (.invokevirtual 188, 3) := by decide +kernel
theorem dX8_act_224 : decode cX8_act 224 = .ok (.return_, 1) := by decide +kernel
theorem dX8_act_225 : decode cX8_act 225 = .ok (.aload_n 0, 1) := by decide +kernel
theorem dX8_act_226 : decode cX8_act 226 = .ok (.iload_n 2, 1) := by decide +kernel
theorem dX8_act_227 : decode cX8_act 227 = .ok (.sipush 255, 3) := by decide +kernel
theorem dX8_act_230 : decode cX8_act 230 = .ok (.iand, 1) := by decide +kernel
theorem dX8_act_231 : decode cX8_act 231 = .ok (.iconst (-1), 1) := by decide +kernel
theorem dX8_act_232 : decode cX8_act 232 = .ok (.invokevirtual 188, 3) := by decide +kernel
theorem dX8_act_235 : decode cX8_act 235 = .ok (.return_, 1) := by decide +kernel
theorem dX8_act_236 : decode cX8_act 236 = .ok (.aload_n 0, 1) := by decide +kernel
theorem dX8_act_237 : decode cX8_act 237 = .ok (.iload_n 2, 1) := by decide +kernel
theorem dX8_act_238 : decode cX8_act 238 = .ok (.iconst 2, 1) := by decide +kernel
theorem dX8_act_239 : decode cX8_act 239 = .ok (.iload_n 3, 1) := by decide +kernel
theorem dX8_act_240 : decode cX8_act 240 = .ok (.invokestatic 99, 3) := by decide +kernel
theorem dX8_act_243 : decode cX8_act 243 = .ok (.imul, 1) := by decide +kernel
theorem dX8_act_244 : decode cX8_act 244 = .ok (.iadd, 1) := by decide +kernel
theorem dX8_act_245 : decode cX8_act 245 = .ok (.iconst 1, 1) := by decide +kernel
theorem dX8_act_246 : decode cX8_act 246 = .ok (.invokevirtual 91, 3) := by decide +kernel
theorem dX8_act_249 : decode cX8_act 249 = .ok (.istore 6, 2) := by decide +kernel
theorem dX8_act_251 : decode cX8_act 251 = .ok (.goto 211, 3) := by decide +kernel
theorem dX8_act_254 : decode cX8_act 254 = .ok (.aload_n 0, 1) := by decide +kernel
theorem dX8_act_255 : decode cX8_act 255 = .ok (.iload_n 2, 1) := by decide +kernel
theorem dX8_act_256 : decode cX8_act 256 = .ok (.iload_n 3, 1) := by decide +kernel
theorem dX8_act_257 : decode cX8_act 257 = .ok (.invokestatic 99, 3) := by decide +kernel
theorem dX8_act_260 : decode cX8_act 260 = .ok (.iadd, 1) := by decide +kernel
theorem dX8_act_261 : decode cX8_act 261 = .ok (.iconst 0, 1) := by decide +kernel
theorem dX8_act_262 : decode cX8_act 262 = .ok (.invokevirtual 91, 3) := by decide +kernel
theorem dX8_act_265 : decode cX8_act 265 = .ok (.istore 6, 2) := by decide +kernel
theorem dX8_act_267 : decode cX8_act 267 = .ok (.goto 195, 3) := by decide +kernel
theorem dX8_act_270 : decode cX8_act 270 = .ok (.aload_n 0, 1) := by decide +kernel
theorem dX8_act_271 : decode cX8_act 271 = .ok (.iload_n 2, 1) := by decide +kernel
theorem dX8_act_272 : decode cX8_act 272 = .ok (.iconst 2, 1) := by decide +kernel
theorem dX8_act_273 : decode cX8_act 273 = .ok (.iload_n 3, 1) := by decide +kernel
theorem dX8_act_274 : decode cX8_act 274 = .ok (.invokestatic 99, 3) := by decide +kernel
theorem dX8_act_277 : decode cX8_act 277 = .ok (.imul, 1) := by decide +kernel
theorem dX8_act_278 : decode cX8_act 278 = .ok (.iadd, 1) := by decide +kernel
theorem dX8_act_279 : decode cX8_act 279 = .ok (.iload 4, 2) := by decide +kernel
theorem dX8_act_281 : decode cX8_act 281 = .ok (.iconst 1, 1) := by decide +kernel
theorem dX8_act_282 : decode cX8_act 282 = .ok (.iconst 0, 1) := by decide +kernel
theorem dX8_act_283 : decode cX8_act 283 = .ok (.invokevirtual 95, 3) := by decide +kernel
theorem dX8_act_286 : decode cX8_act 286 = .ok (.return_, 1) := by decide +kernel
theorem dX8_act_287 : decode cX8_act 287 = .ok (.aload_n 0, 1) := by decide +kernel
theorem dX8_act_288 : decode cX8_act 288 = .ok (.iload_n 2, 1) := by decide +kernel
theorem dX8_act_289 : decode cX8_act 289 = .ok (.iload_n 3, 1) := by decide +kernel
theorem dX8_act_290 : decode cX8_act 290 = .ok (.invokestatic 99, 3) := by decide +kernel
theorem dX8_act_293 : decode cX8_act 293 = .ok (.iadd, 1) := by decide +kernel
theorem dX8_act_294 : decode cX8_act 294 = .ok (.iload 4, 2) := by decide +kernel
theorem dX8_act_296 : decode cX8_act 296 = .ok (.iconst 0, 1) := by decide +kernel
theorem dX8_act_297 : decode cX8_act 297 = .ok (.iconst 0, 1) := by decide +kernel
theorem dX8_act_298 : decode cX8_act 298 = .ok (.invokevirtual 95, 3) := by decide +kernel
theorem dX8_act_301 : decode cX8_act 301 = .ok (.return_, 1) := by decide +kernel
theorem dX8_act_302 : decode cX8_act 302 = .ok (.aload_n 0, 1) := by decide +kernel
theorem dX8_act_303 : decode cX8_act 303 = .ok (.iload_n 2, 1) := by decide +kernel
theorem dX8_act_304 : decode cX8_act 304 = .ok (.iload_n 3, 1) := by decide +kernel
theorem dX8_act_305 : decode cX8_act 305 = .ok (.iload 4, 2) := by decide +kernel
theorem dX8_act_307 : decode cX8_act 307 = .ok (.iload 5, 2) := by decide +kernel
theorem dX8_act_309 : decode cX8_act 309 = .ok (.invokevirtual 191, 3) := by decide +kernel
theorem dX8_act_312 : decode cX8_act 312 = .ok (.return_, 1) := by decide +kernel
theorem dX8_act_313 : decode cX8_act 313 = .ok (.aload_n 0, 1) := by decide +kernel
theorem dX8_act_314 : decode cX8_act 314 = .ok (.iload_n 2, 1) := by decide +kernel
theorem dX8_act_315 : decode cX8_act 315 = .ok (.invokevirtual 195, 3) := by decide +kernel
theorem dX8_act_318 : decode cX8_act 318 = .ok (.return_, 1) := by decide +kernel
theorem dX8_act_319 : decode cX8_act 319 = .ok (.aload_n 0, 1) := by decide +kernel
theorem dX8_act_320 : decode cX8_act 320 = .ok (.iload_n 2, 1) := by decide +kernel
theorem dX8_act_321 : decode cX8_act 321 = .ok (.invokevirtual 159, 3) := by decide +kernel
theorem dX8_act_324 : decode cX8_act 324 = .ok (.return_, 1) := by decide +kernel
theorem dX8_act_325 : decode cX8_act 325 = .ok (.aload_n 0, 1) := by decide +kernel
theorem dX8_act_326 : decode cX8_act 326 = .ok (.invokevirtual 152, 3) := by decide +kernel
theorem dX8_act_329 : decode cX8_act 329 = .ok (.istore 8, 2) := by decide +kernel
theorem dX8_act_331 : decode cX8_act 331 = .ok (.aload_n 0, 1) := by decide +kernel
theorem dX8_act_332 : decode cX8_act 332 = .ok (.getfield 81, 3) := by decide +kernel
theorem dX8_act_335 : decode cX8_act 335 = .ok (.ifCond .ne 14, 3) := by decide +kernel
theorem dX8_act_338 : decode cX8_act 338 = .ok (.aload_n 0, 1) := by decide +kernel
theorem dX8_act_339 : decode cX8_act 339 = .ok (.iload_n 2, 1) := by decide +kernel
theorem dX8_act_340 : decode cX8_act 340 = .ok (.sipush 255, 3) := by decide +kernel
theorem dX8_act_343 : decode cX8_act 343 = .ok (.iand, 1) := by decide +kernel
theorem dX8_act_344 : decode cX8_act 344 = .ok (.iload 8, 2) := by decide +kernel
theorem dX8_act_346 : decode cX8_act 346 = .ok (.invokevirtual 166, 3) := by decide +kernel
theorem dX8_act_349 : decode cX8_act 349 = .ok (.return_, 1) := by decide +kernel
theorem dX8_act_350 : decode cX8_act 350 = .ok (.aload_n 0, 1) := by decide +kernel
theorem dX8_act_351 : decode cX8_act 351 = .ok (.invokevirtual 148, 3) := by decide +kernel
theorem dX8_act_354 : decode cX8_act 354 = .ok (.istore 6, 2) := by decide +kernel
theorem dX8_act_356 : decode cX8_act 356 = .ok (.goto 106, 3) := by decide +kernel
theorem dX8_act_359 : decode cX8_act 359 = .ok (.aload_n 0, 1) := by decide +kernel
theorem dX8_act_360 : decode cX8_act 360 = .ok (.iload_n 2, 1) := by decide +kernel
theorem dX8_act_361 : decode cX8_act 361 = .ok (.iload_n 3, 1) := by decide +kernel
theorem dX8_act_362 : decode cX8_act 362 = .ok (.invokevirtual 198, 3) := by decide +kernel
theorem dX8_act_365 : decode cX8_act 365 = .ok (.return_, 1) := by decide +kernel
theorem dX8_act_366 : decode cX8_act 366 = .ok (.aload_n 0, 1) := by decide +kernel
theorem dX8_act_367 : decode cX8_act 367 = .ok (.iload_n 2, 1) := by decide +kernel
theorem dX8_act_368 : decode cX8_act 368 = .ok (.iload_n 3, 1) := by decide +kernel
theorem dX8_act_369 : decode cX8_act 369 = .ok (.iload 4, 2) := by decide +kernel
theorem dX8_act_371 : decode cX8_act 371 = .ok (.invokestatic 99, 3) := by decide +kernel
theorem dX8_act_374 : decode cX8_act 374 = .ok (.invokevirtual 111, 3) := by decide +kernel
theorem dX8_act_377 : decode cX8_act 377 = .ok (.return_, 1) := by decide +kernel
theorem dX8_act_378 : decode cX8_act 378 = .ok (.aload_n 0, 1) := by decide +kernel
theorem dX8_act_379 : decode cX8_act 379 = .ok (.iload_n 2, 1) := by decide +kernel
theorem dX8_act_380 : decode cX8_act 380 = .ok (.iload_n 3, 1) := by decide +kernel
theorem dX8_act_381 : decode cX8_act 381 = .ok (.iload 4, 2) := by decide +kernel
theorem dX8_act_383 : decode cX8_act 383 = .ok (.invokestatic 99, 3) := by decide +kernel
theorem dX8_act_386 : decode cX8_act 386 = .ok (.aload_n 0, 1) := by decide +kernel
theorem dX8_act_387 : decode cX8_act 387 = .ok (.getfield 13, 3) := by decide +kernel
theorem dX8_act_390 : decode cX8_act 390 = .ok (.invokevirtual 115, 3) := by decide +kernel
theorem dX8_act_393 : decode cX8_act 393 = .ok (.istore 6, 2) := by decide +kernel
theorem dX8_act_395 : decode cX8_act 395 = .ok (.goto 67, 3) := by decide +kernel
theorem dX8_act_398 : decode cX8_act 398 = .ok (.aload_n 0, 1) := by decide +kernel
theorem dX8_act_399 : decode cX8_act 399 = .ok (.iload_n 2, 1) := by decide +kernel
theorem dX8_act_400 : decode cX8_act 400 = .ok (.invokestatic 99, 3) := by decide +kernel
theorem dX8_act_403 : decode cX8_act 403 = .ok (.invokevirtual 133, 3) := by decide +kernel
theorem dX8_act_406 : decode cX8_act 406 = .ok (.istore 6, 2) := by decide +kernel
theorem dX8_act_408 : decode cX8_act 408 = .ok (.goto 54, 3) := by decide +kernel
theorem dX8_act_411 : decode cX8_act 411 = .ok (.aload_n 0, 1) := by decide +kernel
theorem dX8_act_412 : decode cX8_act 412 = .ok (.iload_n 2, 1) := by decide +kernel
theorem dX8_act_413 : decode cX8_act 413 = .ok (.invokestatic 99, 3) := by decide +kernel
theorem dX8_act_416 : decode cX8_act 416 = .ok (.invokevirtual 201, 3) := by decide +kernel
theorem dX8_act_419 : decode cX8_act 419 = .ok (.return_, 1) := by decide +kernel
theorem dX8_act_420 : decode cX8_act 420 = .ok (.aload_n 0, 1) := by decide +kernel
theorem dX8_act_421 : decode cX8_act 421 = .ok (.iload_n 2, 1) := by decide +kernel
theorem dX8_act_422 : decode cX8_act 422 = .ok (.invokevirtual 173, 3) := by decide +kernel
theorem dX8_act_425 : decode cX8_act 425 = .ok (.return_, 1) := by decide +kernel
theorem dX8_act_426 : decode cX8_act 426 = .ok (.aload_n 0, 1) := by decide +kernel
theorem dX8_act_427 : decode cX8_act 427 = .ok (.iload_n 2, 1) := by decide +kernel
theorem dX8_act_428 : decode cX8_act 428 = .ok (.iload_n 3, 1) := by decide +kernel
theorem dX8_act_429 : decode cX8_act 429 = .ok (.invokestatic 99, 3) := by decide +kernel
theorem dX8_act_432 : decode cX8_act 432 = .ok (.iload 4, 2) := by decide +kernel
theorem dX8_act_434 : decode cX8_act 434 = .ok (.invokestatic 99, 3) := by decide +kernel
theorem dX8_act_437 : decode cX8_act 437 = .ok (.invokevirtual 204, 3) := by decide +kernel
theorem dX8_act_440 : decode cX8_act 440 = .ok (.return_, 1) := by decide +kernel
theorem dX8_act_441 : decode cX8_act 441 = .ok (.aload_n 0, 1) := by decide +kernel
theorem dX8_act_442 : decode cX8_act 442 = .ok (.iconst 1, 1) := by decide +kernel
theorem dX8_act_443 : decode cX8_act 443 = .ok (.putfield 185, 3) := by decide +kernel
theorem dX8_act_446 : decode cX8_act 446 = .ok (.return_, 1) := by decide +kernel
theorem dX8_act_447 : decode cX8_act 447 = .ok (.aload_n 0, 1) := by decide +kernel
theorem dX8_act_448 : decode cX8_act 448 = .ok (.iload_n 1, 1) := by decide +kernel
theorem dX8_act_449 : decode cX8_act 449 = .ok (.iload_n 2, 1) := by decide +kernel
theorem dX8_act_450 : decode cX8_act 450 = .ok (.invokestatic 99, 3) := by decide +kernel
theorem dX8_act_453 : decode cX8_act 453 = .ok (.iload_n 3, 1) := by decide +kernel
theorem dX8_act_454 : decode cX8_act 454 = .ok (.invokestatic 99, 3) := by decide +kernel
theorem dX8_act_457 : decode cX8_act 457 = .ok (.invokevirtual 107, 3) := by decide +kernel
theorem dX8_act_460 : decode cX8_act 460 = .ok (.istore 6, 2) := by decide +kernel
theorem dX8_act_462 : decode cX8_act 462 = .ok (.aload_n 0, 1) := by decide +kernel
theorem dX8_act_463 : decode cX8_act 463 = .ok (.getfield 81, 3) := by decide +kernel
theorem dX8_act_466 : decode cX8_act 466 = .ok (.ifCond .ne 16, 3) := by decide +kernel
theorem dX8_act_469 : decode cX8_act 469 = .ok (.iload 5, 2) := by decide +kernel
theorem dX8_act_471 : decode cX8_act 471 = .ok (.ifCond .lt 11, 3) := by decide +kernel
theorem dX8_act_474 : decode cX8_act 474 = .ok (.aload_n 0, 1) := by decide +kernel
theorem dX8_act_475 : decode cX8_act 475 = .ok (.iload 5, 2) := by decide +kernel
theorem dX8_act_477 : decode cX8_act 477 = .ok (.iload 6, 2) := by decide +kernel
theorem dX8_act_479 : decode cX8_act 479 = .ok (.invokevirtual 166, 3) := by decide +kernel
theorem dX8_act_482 : decode cX8_act 482 = .ok (.return_, 1) := by decide +kernel
theorem dX8_throwTo_0 : decode cX8_throwTo 0 = .ok (.iload_n 2, 1) := by decide +kernel
theorem dX8_throwTo_1 : decode cX8_throwTo 1 = .ok (.aload_n 0, 1) := by decide +kernel
theorem dX8_throwTo_2 : decode cX8_throwTo 2 = .ok (.getfield 142, 3) := by decide +kernel
theorem dX8_throwTo_5 : decode cX8_throwTo 5 = .ok (.if_icmp .lt 10, 3) := by decide +kernel
theorem dX8_throwTo_8 : decode cX8_throwTo 8 = .ok (.aload_n 0, 1) := by decide +kernel
theorem dX8_throwTo_9 : decode cX8_throwTo 9 = .ok (.bipush 8, 2) := by decide +kernel
theorem dX8_throwTo_11 : decode cX8_throwTo 11 = .ok (.putfield 81, 3) := by decide +kernel
theorem dX8_throwTo_14 : decode cX8_throwTo 14 = .ok (.return_, 1) := by decide +kernel
theorem dX8_throwTo_15 : decode cX8_throwTo 15 = .ok (.aload_n 0, 1) := by decide +kernel
theorem dX8_throwTo_16 : decode cX8_throwTo 16 = .ok (.getfield 207, 3) := by decide +kernel
theorem dX8_throwTo_19 : decode cX8_throwTo 19 = .ok (.bipush 12, 2) := by decide +kernel
theorem dX8_throwTo_21 : decode cX8_throwTo 21 = .ok (.if_icmp .ne 9, 3) := by decide +kernel
theorem dX8_throwTo_24 : decode cX8_throwTo 24 = .ok (.aload_n 0, 1) := by decide +kernel
theorem dX8_throwTo_25 : decode cX8_throwTo 25 = .ok (.iconst 3, 1) := by decide +kernel
theorem dX8_throwTo_26 : decode cX8_throwTo 26 = .ok (.putfield 185, 3) := by decide +kernel
theorem dX8_throwTo_29 : decode cX8_throwTo 29 = .ok (.return_, 1) := by decide +kernel
theorem dX8_throwTo_30 : decode cX8_throwTo 30 = .ok (.aload_n 0, 1) := by decide +kernel
theorem dX8_throwTo_31 : decode cX8_throwTo 31 = .ok (.dup, 1) := by decide +kernel
theorem dX8_throwTo_32 : decode cX8_throwTo 32 = .ok (.getfield 207, 3) := by decide +kernel
theorem dX8_throwTo_35 : decode cX8_throwTo 35 = .ok (.iconst 1, 1) := by decide +kernel
theorem dX8_throwTo_36 : decode cX8_throwTo 36 = .ok (.iadd, 1) := by decide +kernel
theorem dX8_throwTo_37 : decode cX8_throwTo 37 = .ok (.putfield 207, 3) := by decide +kernel
theorem dX8_throwTo_40 : decode cX8_throwTo 40 = .ok (.aload_n 0, 1) := by decide +kernel
theorem dX8_throwTo_41 : decode cX8_throwTo 41 = .ok (.dup, 1) := by decide +kernel
theorem dX8_throwTo_42 : decode cX8_throwTo 42 = .ok (.getfield 210, 3) := by decide +kernel
theorem dX8_throwTo_45 : decode cX8_throwTo 45 = .ok (.iconst 1, 1) := by decide +kernel
theorem dX8_throwTo_46 : decode cX8_throwTo 46 = .ok (.iadd, 1) := by decide +kernel
theorem dX8_throwTo_47 : decode cX8_throwTo 47 = .ok (.putfield 210, 3) := by decide +kernel
theorem dX8_throwTo_50 : decode cX8_throwTo 50 = .ok (.aload_n 0, 1) := by decide +kernel
theorem dX8_throwTo_51 : decode cX8_throwTo 51 = .ok (.getfield 142, 3) := by decide +kernel
theorem dX8_throwTo_54 : decode cX8_throwTo 54 = .ok (.iload_n 2, 1) := by decide +kernel
theorem dX8_throwTo_55 : decode cX8_throwTo 55 = .ok (.iconst 1, 1) := by decide +kernel
theorem dX8_throwTo_56 : decode cX8_throwTo 56 = .ok (.iadd, 1) := by decide +kernel
theorem dX8_throwTo_57 : decode cX8_throwTo 57 = .ok (.if_icmp .le 10, 3) := by decide +kernel
theorem dX8_throwTo_60 : decode cX8_throwTo 60 = .ok (.aload_n 0, 1) := by decide +kernel
theorem dX8_throwTo_61 : decode cX8_throwTo 61 = .ok (.invokevirtual 179, 3) := by decide +kernel
theorem dX8_throwTo_64 : decode cX8_throwTo 64 = .ok (.goto (-14), 3) := by decide +kernel
theorem dX8_throwTo_67 : decode cX8_throwTo 67 = .ok (.aload_n 0, 1) := by decide +kernel
theorem dX8_throwTo_68 : decode cX8_throwTo 68 = .ok (.iload_n 1, 1) := by decide +kernel
theorem dX8_throwTo_69 : decode cX8_throwTo 69 = .ok (.invokevirtual 195, 3) := by decide +kernel
theorem dX8_throwTo_72 : decode cX8_throwTo 72 = .ok (.return_, 1) := by decide +kernel
theorem dX8_step_0 : decode cX8_step 0 = .ok (.aload_n 0, 1) := by decide +kernel
theorem dX8_step_1 : decode cX8_step 1 = .ok (.getfield 51, 3) := by decide +kernel
theorem dX8_step_4 : decode cX8_step 4 = .ok (.aload_n 0, 1) := by decide +kernel
theorem dX8_step_5 : decode cX8_step 5 = .ok (.invokevirtual 148, 3) := by decide +kernel
theorem dX8_step_8 : decode cX8_step 8 = .ok (.iaload, 1) := by decide +kernel
theorem dX8_step_9 : decode cX8_step 9 = .ok (.istore_n 1, 1) := by decide +kernel
theorem dX8_step_10 : decode cX8_step 10 = .ok (.aload_n 0, 1) := by decide +kernel
theorem dX8_step_11 : decode cX8_step 11 = .ok (.getfield 51, 3) := by decide +kernel
theorem dX8_step_14 : decode cX8_step 14 = .ok (.aload_n 0, 1) := by decide +kernel
theorem dX8_step_15 : decode cX8_step 15 = .ok (.invokevirtual 148, 3) := by decide +kernel
theorem dX8_step_18 : decode cX8_step 18 = .ok (.dup2, 1) := by decide +kernel
theorem dX8_step_19 : decode cX8_step 19 = .ok (.iaload, 1) := by decide +kernel
theorem dX8_step_20 : decode cX8_step 20 = .ok (.iconst 1, 1) := by decide +kernel
theorem dX8_step_21 : decode cX8_step 21 = .ok (.iadd, 1) := by decide +kernel
theorem dX8_step_22 : decode cX8_step 22 = .ok (.iastore, 1) := by decide +kernel
theorem dX8_step_23 : decode cX8_step 23 = .ok (.iload_n 1, 1) := by decide +kernel
theorem dX8_step_24 : decode cX8_step 24 = .ok (.aload_n 0, 1) := by decide +kernel
theorem dX8_step_25 : decode cX8_step 25 = .ok (.getfield 139, 3) := by decide +kernel
theorem dX8_step_28 : decode cX8_step 28 = .ok (.if_icmp .ge 23, 3) := by decide +kernel
theorem dX8_step_31 : decode cX8_step 31 = .ok (.aload_n 0, 1) := by decide +kernel
theorem dX8_step_32 : decode cX8_step 32 = .ok (.getfield 26, 3) := by decide +kernel
theorem dX8_step_35 : decode cX8_step 35 = .ok (.iload_n 1, 1) := by decide +kernel
theorem dX8_step_36 : decode cX8_step 36 = .ok (.iaload, 1) := by decide +kernel
theorem dX8_step_37 : decode cX8_step 37 = .ok (.ifCond .lt 14, 3) := by decide +kernel
theorem dX8_step_40 : decode cX8_step 40 = .ok (.aload_n 0, 1) := by decide +kernel
theorem dX8_step_41 : decode cX8_step 41 = .ok (.getfield 26, 3) := by decide +kernel
theorem dX8_step_44 : decode cX8_step 44 = .ok (.iload_n 1, 1) := by decide +kernel
theorem dX8_step_45 : decode cX8_step 45 = .ok (.iaload, 1) := by decide +kernel
theorem dX8_step_46 : decode cX8_step 46 = .ok (.bipush 32, 2) := by decide +kernel
theorem dX8_step_48 : decode cX8_step 48 = .ok (.if_icmp .le 10, 3) := by decide +kernel
theorem dX8_step_51 : decode cX8_step 51 = .ok (.aload_n 0, 1) := by decide +kernel
theorem dX8_step_52 : decode cX8_step 52 = .ok (.bipush 10, 2) := by decide +kernel
theorem dX8_step_54 : decode cX8_step 54 = .ok (.putfield 81, 3) := by decide +kernel
theorem dX8_step_57 : decode cX8_step 57 = .ok (.return_, 1) := by decide +kernel
theorem dX8_step_58 : decode cX8_step 58 = .ok (.iconst 0, 1) := by decide +kernel
theorem dX8_step_59 : decode cX8_step 59 = .ok (.istore_n 2, 1) := by decide +kernel
theorem dX8_step_60 : decode cX8_step 60 = .ok (.iconst 0, 1) := by decide +kernel
theorem dX8_step_61 : decode cX8_step 61 = .ok (.istore_n 3, 1) := by decide +kernel
theorem dX8_step_62 : decode cX8_step 62 = .ok (.iconst 0, 1) := by decide +kernel
theorem dX8_step_63 : decode cX8_step 63 = .ok (.istore 4, 2) := by decide +kernel
theorem dX8_step_65 : decode cX8_step 65 = .ok (.aload_n 0, 1) := by decide +kernel
theorem dX8_step_66 : decode cX8_step 66 = .ok (.getfield 26, 3) := by decide +kernel
theorem dX8_step_69 : decode cX8_step 69 = .ok (.iload_n 1, 1) := by decide +kernel
theorem dX8_step_70 : decode cX8_step 70 = .ok (.iaload, 1) := by decide +kernel
theorem dX8_step_71 : decode cX8_step 71 = .ok (.invokestatic 213, 3) := by decide +kernel
theorem dX8_step_74 : decode cX8_step 74 = .ok (.istore 5, 2) := by decide +kernel
theorem dX8_step_76 : decode cX8_step 76 = .ok (.iconst 0, 1) := by decide +kernel
theorem dX8_step_77 : decode cX8_step 77 = .ok (.istore 6, 2) := by decide +kernel
theorem dX8_step_79 : decode cX8_step 79 = .ok (.iload 6, 2) := by decide +kernel
theorem dX8_step_81 : decode cX8_step 81 = .ok (.iload 5, 2) := by decide +kernel
theorem dX8_step_83 : decode cX8_step 83 = .ok (.if_icmp .ge 89, 3) := by decide +kernel
theorem dX8_step_86 : decode cX8_step 86 = .ok (.aload_n 0, 1) := by decide +kernel
theorem dX8_step_87 : decode cX8_step 87 = .ok (.getfield 81, 3) := by decide +kernel
theorem dX8_step_90 : decode cX8_step 90 = .ok (.ifCond .ne 82, 3) := by decide +kernel
theorem dX8_step_93 : decode cX8_step 93 = .ok (.aload_n 0, 1) := by decide +kernel
theorem dX8_step_94 : decode cX8_step 94 = .ok (.getfield 29, 3) := by decide +kernel
theorem dX8_step_97 : decode cX8_step 97 = .ok (.iconst 3, 1) := by decide +kernel
theorem dX8_step_98 : decode cX8_step 98 = .ok (.iload_n 1, 1) := by decide +kernel
theorem dX8_step_99 : decode cX8_step 99 = .ok (.imul, 1) := by decide +kernel
theorem dX8_step_100 : decode cX8_step 100 = .ok (.iload 6, 2) := by decide +kernel
theorem dX8_step_102 : decode cX8_step 102 = .ok (.iadd, 1) := by decide +kernel
theorem dX8_step_103 : decode cX8_step 103 = .ok (.iaload, 1) := by decide +kernel
theorem dX8_step_104 : decode cX8_step 104 = .ok (.istore 7, 2) := by decide +kernel
theorem dX8_step_106 : decode cX8_step 106 = .ok (.iload 7, 2) := by decide +kernel
theorem dX8_step_108 : decode cX8_step 108 = .ok (.ifCond .lt 8, 3) := by decide +kernel
theorem dX8_step_111 : decode cX8_step 111 = .ok (.iload 7, 2) := by decide +kernel
theorem dX8_step_113 : decode cX8_step 113 = .ok (.goto 11, 3) := by decide +kernel
theorem dX8_step_116 : decode cX8_step 116 = .ok (.aload_n 0, 1) := by decide +kernel
theorem dX8_step_117 : decode cX8_step 117 = .ok (.iconst (-1), 1) := by decide +kernel
theorem dX8_step_118 : decode cX8_step 118 = .ok (.iload 7, 2) := by decide +kernel
theorem dX8_step_120 : decode cX8_step 120 = .ok (.isub, 1) := by decide +kernel
theorem dX8_step_121 : decode cX8_step 121 = .ok (.invokevirtual 163, 3) := by decide +kernel
theorem dX8_step_124 : decode cX8_step 124 = .ok (.istore 8, 2) := by decide +kernel
theorem dX8_step_126 : decode cX8_step 126 = .ok (.iload 6, 2) := by decide +kernel
theorem dX8_step_128 : decode cX8_step 128 = .ok (.ifCond .ne 8, 3) := by decide +kernel
theorem dX8_step_131 : decode cX8_step 131 = .ok (.iload 8, 2) := by decide +kernel
theorem dX8_step_133 : decode cX8_step 133 = .ok (.goto 4, 3) := by decide +kernel
theorem dX8_step_136 : decode cX8_step 136 = .ok (.iload_n 2, 1) := by decide +kernel
theorem dX8_step_137 : decode cX8_step 137 = .ok (.istore_n 2, 1) := by decide +kernel
theorem dX8_step_138 : decode cX8_step 138 = .ok (.iload 6, 2) := by decide +kernel
theorem dX8_step_140 : decode cX8_step 140 = .ok (.iconst 1, 1) := by decide +kernel
theorem dX8_step_141 : decode cX8_step 141 = .ok (.if_icmp .ne 8, 3) := by decide +kernel
theorem dX8_step_144 : decode cX8_step 144 = .ok (.iload 8, 2) := by decide +kernel
theorem dX8_step_146 : decode cX8_step 146 = .ok (.goto 4, 3) := by decide +kernel
theorem dX8_step_149 : decode cX8_step 149 = .ok (.iload_n 3, 1) := by decide +kernel
theorem dX8_step_150 : decode cX8_step 150 = .ok (.istore_n 3, 1) := by decide +kernel
theorem dX8_step_151 : decode cX8_step 151 = .ok (.iload 6, 2) := by decide +kernel
theorem dX8_step_153 : decode cX8_step 153 = .ok (.iconst 2, 1) := by decide +kernel
theorem dX8_step_154 : decode cX8_step 154 = .ok (.if_icmp .ne 8, 3) := by decide +kernel
theorem dX8_step_157 : decode cX8_step 157 = .ok (.iload 8, 2) := by decide +kernel
theorem dX8_step_159 : decode cX8_step 159 = .ok (.goto 5, 3) := by decide +kernel
theorem dX8_step_162 : decode cX8_step 162 = .ok (.iload 4, 2) := by decide +kernel
theorem dX8_step_164 : decode cX8_step 164 = .ok (.istore 4, 2) := by decide +kernel
theorem dX8_step_166 : decode cX8_step 166 = .ok (.iinc 6 1, 3) := by decide +kernel
theorem dX8_step_169 : decode cX8_step 169 = .ok (.goto (-90), 3) := by decide +kernel
theorem dX8_step_172 : decode cX8_step 172 = .ok (.aload_n 0, 1) := by decide +kernel
theorem dX8_step_173 : decode cX8_step 173 = .ok (.getfield 81, 3) := by decide +kernel
theorem dX8_step_176 : decode cX8_step 176 = .ok (.ifCond .ne 23, 3) := by decide +kernel
theorem dX8_step_179 : decode cX8_step 179 = .ok (.aload_n 0, 1) := by decide +kernel
theorem dX8_step_180 : decode cX8_step 180 = .ok (.aload_n 0, 1) := by decide +kernel
theorem dX8_step_181 : decode cX8_step 181 = .ok (.getfield 26, 3) := by decide +kernel
theorem dX8_step_184 : decode cX8_step 184 = .ok (.iload_n 1, 1) := by decide +kernel
theorem dX8_step_185 : decode cX8_step 185 = .ok (.iaload, 1) := by decide +kernel
theorem dX8_step_186 : decode cX8_step 186 = .ok (.iload_n 2, 1) := by decide +kernel
theorem dX8_step_187 : decode cX8_step 187 = .ok (.iload_n 3, 1) := by decide +kernel
theorem dX8_step_188 : decode cX8_step 188 = .ok (.iload 4, 2) := by decide +kernel
theorem dX8_step_190 : decode cX8_step 190 = .ok (.aload_n 0, 1) := by decide +kernel
theorem dX8_step_191 : decode cX8_step 191 = .ok (.getfield 32, 3) := by decide +kernel
theorem dX8_step_194 : decode cX8_step 194 = .ok (.iload_n 1, 1) := by decide +kernel
theorem dX8_step_195 : decode cX8_step 195 = .ok (.iaload, 1) := by decide +kernel
theorem dX8_step_196 : decode cX8_step 196 = .ok (.invokevirtual 216, 3) := by decide +kernel
theorem dX8_step_199 : decode cX8_step 199 = .ok (.return_, 1) := by decide +kernel
theorem dX8_up_0 : decode cX8_up 0 = .ok (.aload_n 0, 1) := by decide +kernel
theorem dX8_up_1 : decode cX8_up 1 = .ok (.getfield 81, 3) := by decide +kernel
theorem dX8_up_4 : decode cX8_up 4 = .ok (.ifCond .eq 112, 3) := by decide +kernel
theorem dX8_up_7 : decode cX8_up 7 = .ok (.aload_n 0, 1) := by decide +kernel
theorem dX8_up_8 : decode cX8_up 8 = .ok (.getfield 185, 3) := by decide +kernel
theorem dX8_up_11 : decode cX8_up 11 = .ok (.ifCond .ge 105, 3) := by decide +kernel
theorem dX8_up_14 : decode cX8_up 14 = .ok (.aload_n 0, 1) := by decide +kernel
theorem dX8_up_15 : decode cX8_up 15 = .ok (.getfield 207, 3) := by decide +kernel
theorem dX8_up_18 : decode cX8_up 18 = .ok (.bipush 12, 2) := by decide +kernel
theorem dX8_up_20 : decode cX8_up 20 = .ok (.if_icmp .ne 9, 3) := by decide +kernel
theorem dX8_up_23 : decode cX8_up 23 = .ok (.aload_n 0, 1) := by decide +kernel
theorem dX8_up_24 : decode cX8_up 24 = .ok (.iconst 3, 1) := by decide +kernel
theorem dX8_up_25 : decode cX8_up 25 = .ok (.putfield 185, 3) := by decide +kernel
theorem dX8_up_28 : decode cX8_up 28 = .ok (.return_, 1) := by decide +kernel
theorem dX8_up_29 : decode cX8_up 29 = .ok (.aload_n 0, 1) := by decide +kernel
theorem dX8_up_30 : decode cX8_up 30 = .ok (.dup, 1) := by decide +kernel
theorem dX8_up_31 : decode cX8_up 31 = .ok (.getfield 207, 3) := by decide +kernel
theorem dX8_up_34 : decode cX8_up 34 = .ok (.iconst 1, 1) := by decide +kernel
theorem dX8_up_35 : decode cX8_up 35 = .ok (.iadd, 1) := by decide +kernel
theorem dX8_up_36 : decode cX8_up 36 = .ok (.putfield 207, 3) := by decide +kernel
theorem dX8_up_39 : decode cX8_up 39 = .ok (.aload_n 0, 1) := by decide +kernel
theorem dX8_up_40 : decode cX8_up 40 = .ok (.getfield 81, 3) := by decide +kernel
theorem dX8_up_43 : decode cX8_up 43 = .ok (.istore_n 1, 1) := by decide +kernel
theorem dX8_up_44 : decode cX8_up 44 = .ok (.aload_n 0, 1) := by decide +kernel
theorem dX8_up_45 : decode cX8_up 45 = .ok (.iconst 0, 1) := by decide +kernel
theorem dX8_up_46 : decode cX8_up 46 = .ok (.putfield 81, 3) := by decide +kernel
theorem dX8_up_49 : decode cX8_up 49 = .ok (.aload_n 0, 1) := by decide +kernel
theorem dX8_up_50 : decode cX8_up 50 = .ok (.getfield 142, 3) := by decide +kernel
theorem dX8_up_53 : decode cX8_up 53 = .ok (.ifCond .le 27, 3) := by decide +kernel
theorem dX8_up_56 : decode cX8_up 56 = .ok (.aload_n 0, 1) := by decide +kernel
theorem dX8_up_57 : decode cX8_up 57 = .ok (.getfield 45, 3) := by decide +kernel
theorem dX8_up_60 : decode cX8_up 60 = .ok (.aload_n 0, 1) := by decide +kernel
theorem dX8_up_61 : decode cX8_up 61 = .ok (.getfield 48, 3) := by decide +kernel
theorem dX8_up_64 : decode cX8_up 64 = .ok (.aload_n 0, 1) := by decide +kernel
theorem dX8_up_65 : decode cX8_up 65 = .ok (.invokevirtual 148, 3) := by decide +kernel
theorem dX8_up_68 : decode cX8_up 68 = .ok (.iaload, 1) := by decide +kernel
theorem dX8_up_69 : decode cX8_up 69 = .ok (.baload, 1) := by decide +kernel
theorem dX8_up_70 : decode cX8_up 70 = .ok (.ifCond .ne 10, 3) := by decide +kernel
theorem dX8_up_73 : decode cX8_up 73 = .ok (.aload_n 0, 1) := by decide +kernel
theorem dX8_up_74 : decode cX8_up 74 = .ok (.invokevirtual 179, 3) := by decide +kernel
theorem dX8_up_77 : decode cX8_up 77 = .ok (.goto (-28), 3) := by decide +kernel
theorem dX8_up_80 : decode cX8_up 80 = .ok (.aload_n 0, 1) := by decide +kernel
theorem dX8_up_81 : decode cX8_up 81 = .ok (.getfield 142, 3) := by decide +kernel
theorem dX8_up_84 : decode cX8_up 84 = .ok (.ifCond .ne 14, 3) := by decide +kernel
theorem dX8_up_87 : decode cX8_up 87 = .ok (.aload_n 0, 1) := by decide +kernel
theorem dX8_up_88 : decode cX8_up 88 = .ok (.iload_n 1, 1) := by decide +kernel
theorem dX8_up_89 : decode cX8_up 89 = .ok (.putfield 220, 3) := by decide +kernel
theorem dX8_up_92 : decode cX8_up 92 = .ok (.aload_n 0, 1) := by decide +kernel
theorem dX8_up_93 : decode cX8_up 93 = .ok (.iconst 2, 1) := by decide +kernel
theorem dX8_up_94 : decode cX8_up 94 = .ok (.putfield 185, 3) := by decide +kernel
theorem dX8_up_97 : decode cX8_up 97 = .ok (.return_, 1) := by decide +kernel
theorem dX8_up_98 : decode cX8_up 98 = .ok (.aload_n 0, 1) := by decide +kernel
theorem dX8_up_99 : decode cX8_up 99 = .ok (.dup, 1) := by decide +kernel
theorem dX8_up_100 : decode cX8_up 100 = .ok (.getfield 223, 3) := by decide +kernel
theorem dX8_up_103 : decode cX8_up 103 = .ok (.iconst 1, 1) := by decide +kernel
theorem dX8_up_104 : decode cX8_up 104 = .ok (.iadd, 1) := by decide +kernel
theorem dX8_up_105 : decode cX8_up 105 = .ok (.putfield 223, 3) := by decide +kernel
theorem dX8_up_108 : decode cX8_up 108 = .ok (.aload_n 0, 1) := by decide +kernel
theorem dX8_up_109 : decode cX8_up 109 = .ok (.iload_n 1, 1) := by decide +kernel
theorem dX8_up_110 : decode cX8_up 110 = .ok (.invokevirtual 195, 3) := by decide +kernel
theorem dX8_up_113 : decode cX8_up 113 = .ok (.goto (-113), 3) := by decide +kernel
theorem dX8_up_116 : decode cX8_up 116 = .ok (.return_, 1) := by decide +kernel
theorem dX8_run_0 : decode cX8_run 0 = .ok (.aload_n 0, 1) := by decide +kernel
theorem dX8_run_1 : decode cX8_run 1 = .ok (.iconst 0, 1) := by decide +kernel
theorem dX8_run_2 : decode cX8_run 2 = .ok (.putfield 72, 3) := by decide +kernel
theorem dX8_run_5 : decode cX8_run 5 = .ok (.iload_n 1, 1) := by decide +kernel
theorem dX8_run_6 : decode cX8_run 6 = .ok (.ifCond .lt 18, 3) := by decide +kernel
theorem dX8_run_9 : decode cX8_run 9 = .ok (.iload_n 1, 1) := by decide +kernel
theorem dX8_run_10 : decode cX8_run 10 = .ok (.bipush 7, 2) := by decide +kernel
theorem dX8_run_12 : decode cX8_run 12 = .ok (.if_icmp .gt 12, 3) := by decide +kernel
theorem dX8_run_15 : decode cX8_run 15 = .ok (.aload_n 0, 1) := by decide +kernel
theorem dX8_run_16 : decode cX8_run 16 = .ok (.getfield 35, 3) := by decide +kernel
theorem dX8_run_19 : decode cX8_run 19 = .ok (.iload_n 1, 1) := by decide +kernel
theorem dX8_run_20 : decode cX8_run 20 = .ok (.baload, 1) := by decide +kernel
theorem dX8_run_21 : decode cX8_run 21 = .ok (.ifCond .ne 5, 3) := by decide +kernel
theorem dX8_run_24 : decode cX8_run 24 = .ok (.iconst (-1), 1) := by decide +kernel
theorem dX8_run_25 : decode cX8_run 25 = .ok (.ireturn, 1) := by decide +kernel
theorem dX8_run_26 : decode cX8_run 26 = .ok (.aload_n 0, 1) := by decide +kernel
theorem dX8_run_27 : decode cX8_run 27 = .ok (.iconst 0, 1) := by decide +kernel
theorem dX8_run_28 : decode cX8_run 28 = .ok (.putfield 142, 3) := by decide +kernel
theorem dX8_run_31 : decode cX8_run 31 = .ok (.aload_n 0, 1) := by decide +kernel
theorem dX8_run_32 : decode cX8_run 32 = .ok (.iconst 0, 1) := by decide +kernel
theorem dX8_run_33 : decode cX8_run 33 = .ok (.putfield 145, 3) := by decide +kernel
theorem dX8_run_36 : decode cX8_run 36 = .ok (.aload_n 0, 1) := by decide +kernel
theorem dX8_run_37 : decode cX8_run 37 = .ok (.iconst 0, 1) := by decide +kernel
theorem dX8_run_38 : decode cX8_run 38 = .ok (.putfield 170, 3) := by decide +kernel
theorem dX8_run_41 : decode cX8_run 41 = .ok (.aload_n 0, 1) := by decide +kernel
theorem dX8_run_42 : decode cX8_run 42 = .ok (.iconst 0, 1) := by decide +kernel
theorem dX8_run_43 : decode cX8_run 43 = .ok (.putfield 226, 3) := by decide +kernel
theorem dX8_run_46 : decode cX8_run 46 = .ok (.aload_n 0, 1) := by decide +kernel
theorem dX8_run_47 : decode cX8_run 47 = .ok (.iconst 0, 1) := by decide +kernel
theorem dX8_run_48 : decode cX8_run 48 = .ok (.putfield 182, 3) := by decide +kernel
theorem dX8_run_51 : decode cX8_run 51 = .ok (.aload_n 0, 1) := by decide +kernel
theorem dX8_run_52 : decode cX8_run 52 = .ok (.iconst 0, 1) := by decide +kernel
theorem dX8_run_53 : decode cX8_run 53 = .ok (.putfield 220, 3) := by decide +kernel
theorem dX8_run_56 : decode cX8_run 56 = .ok (.aload_n 0, 1) := by decide +kernel
theorem dX8_run_57 : decode cX8_run 57 = .ok (.iconst 0, 1) := by decide +kernel
theorem dX8_run_58 : decode cX8_run 58 = .ok (.putfield 223, 3) := by decide +kernel
theorem dX8_run_61 : decode cX8_run 61 = .ok (.aload_n 0, 1) := by decide +kernel
theorem dX8_run_62 : decode cX8_run 62 = .ok (.iconst 0, 1) := by decide +kernel
theorem dX8_run_63 : decode cX8_run 63 = .ok (.putfield 210, 3) := by decide +kernel
theorem dX8_run_66 : decode cX8_run 66 = .ok (.aload_n 0, 1) := by decide +kernel
theorem dX8_run_67 : decode cX8_run 67 = .ok (.iconst 0, 1) := by decide +kernel
theorem dX8_run_68 : decode cX8_run 68 = .ok (.putfield 176, 3) := by decide +kernel
theorem dX8_run_71 : decode cX8_run 71 = .ok (.aload_n 0, 1) := by decide +kernel
theorem dX8_run_72 : decode cX8_run 72 = .ok (.iconst 0, 1) := by decide +kernel
theorem dX8_run_73 : decode cX8_run 73 = .ok (.putfield 207, 3) := by decide +kernel
theorem dX8_run_76 : decode cX8_run 76 = .ok (.aload_n 0, 1) := by decide +kernel
theorem dX8_run_77 : decode cX8_run 77 = .ok (.iconst 0, 1) := by decide +kernel
theorem dX8_run_78 : decode cX8_run 78 = .ok (.putfield 81, 3) := by decide +kernel
theorem dX8_run_81 : decode cX8_run 81 = .ok (.aload_n 0, 1) := by decide +kernel
theorem dX8_run_82 : decode cX8_run 82 = .ok (.iconst (-1), 1) := by decide +kernel
theorem dX8_run_83 : decode cX8_run 83 = .ok (.putfield 185, 3) := by decide +kernel
theorem dX8_run_86 : decode cX8_run 86 = .ok (.iconst 0, 1) := by decide +kernel
theorem dX8_run_87 : decode cX8_run 87 = .ok (.istore 4, 2) := by decide +kernel
theorem dX8_run_89 : decode cX8_run 89 = .ok (.iload 4, 2) := by decide +kernel
theorem dX8_run_91 : decode cX8_run 91 = .ok (.bipush 8, 2) := by decide +kernel
theorem dX8_run_93 : decode cX8_run 93 = .ok (.if_icmp .ge 17, 3) := by decide +kernel
theorem dX8_run_96 : decode cX8_run 96 = .ok (.aload_n 0, 1) := by decide +kernel
theorem dX8_run_97 : decode cX8_run 97 = .ok (.getfield 69, 3) := by decide +kernel
theorem dX8_run_100 : decode cX8_run 100 = .ok (.iload 4, 2) := by decide +kernel
theorem dX8_run_102 : decode cX8_run 102 = .ok (.iconst 0, 1) := by decide +kernel
theorem dX8_run_103 : decode cX8_run 103 = .ok (.iastore, 1) := by decide +kernel
theorem dX8_run_104 : decode cX8_run 104 = .ok (.iinc 4 1, 3) := by decide +kernel
theorem dX8_run_107 : decode cX8_run 107 = .ok (.goto (-18), 3) := by decide +kernel
theorem dX8_run_110 : decode cX8_run 110 = .ok (.aload_n 0, 1) := by decide +kernel
theorem dX8_run_111 : decode cX8_run 111 = .ok (.iload_n 1, 1) := by decide +kernel
theorem dX8_run_112 : decode cX8_run 112 = .ok (.iload_n 2, 1) := by decide +kernel
theorem dX8_run_113 : decode cX8_run 113 = .ok (.iload_n 3, 1) := by decide +kernel
theorem dX8_run_114 : decode cX8_run 114 = .ok (.iconst (-1), 1) := by decide +kernel
theorem dX8_run_115 : decode cX8_run 115 = .ok (.invokevirtual 191, 3) := by decide +kernel
theorem dX8_run_118 : decode cX8_run 118 = .ok (.aload_n 0, 1) := by decide +kernel
theorem dX8_run_119 : decode cX8_run 119 = .ok (.getfield 185, 3) := by decide +kernel
theorem dX8_run_122 : decode cX8_run 122 = .ok (.ifCond .ge 42, 3) := by decide +kernel
theorem dX8_run_125 : decode cX8_run 125 = .ok (.aload_n 0, 1) := by decide +kernel
theorem dX8_run_126 : decode cX8_run 126 = .ok (.getfield 226, 3) := by decide +kernel
theorem dX8_run_129 : decode cX8_run 129 = .ok (.sipush 300, 3) := by decide +kernel
theorem dX8_run_132 : decode cX8_run 132 = .ok (.if_icmp .ne 11, 3) := by decide +kernel
theorem dX8_run_135 : decode cX8_run 135 = .ok (.aload_n 0, 1) := by decide +kernel
theorem dX8_run_136 : decode cX8_run 136 = .ok (.iconst 3, 1) := by decide +kernel
theorem dX8_run_137 : decode cX8_run 137 = .ok (.putfield 185, 3) := by decide +kernel
theorem dX8_run_140 : decode cX8_run 140 = .ok (.goto (-22), 3) := by decide +kernel
theorem dX8_run_143 : decode cX8_run 143 = .ok (.aload_n 0, 1) := by decide +kernel
theorem dX8_run_144 : decode cX8_run 144 = .ok (.dup, 1) := by decide +kernel
theorem dX8_run_145 : decode cX8_run 145 = .ok (.getfield 226, 3) := by decide +kernel
theorem dX8_run_148 : decode cX8_run 148 = .ok (.iconst 1, 1) := by decide +kernel
theorem dX8_run_149 : decode cX8_run 149 = .ok (.iadd, 1) := by decide +kernel
theorem dX8_run_150 : decode cX8_run 150 = .ok (.putfield 226, 3) := by decide +kernel
theorem dX8_run_153 : decode cX8_run 153 = .ok (.aload_n 0, 1) := by decide +kernel
theorem dX8_run_154 : decode cX8_run 154 = .ok (.invokevirtual 229, 3) := by decide +kernel
theorem dX8_run_157 : decode cX8_run 157 = .ok (.aload_n 0, 1) := by decide +kernel
theorem dX8_run_158 : decode cX8_run 158 = .ok (.invokevirtual 232, 3) := by decide +kernel
theorem dX8_run_161 : decode cX8_run 161 = .ok (.goto (-43), 3) := by decide +kernel
theorem dX8_run_164 : decode cX8_run 164 = .ok (.aload_n 0, 1) := by decide +kernel
theorem dX8_run_165 : decode cX8_run 165 = .ok (.getfield 142, 3) := by decide +kernel
theorem dX8_run_168 : decode cX8_run 168 = .ok (.ifCond .le 10, 3) := by decide +kernel
theorem dX8_run_171 : decode cX8_run 171 = .ok (.aload_n 0, 1) := by decide +kernel
theorem dX8_run_172 : decode cX8_run 172 = .ok (.invokevirtual 179, 3) := by decide +kernel
theorem dX8_run_175 : decode cX8_run 175 = .ok (.goto (-11), 3) := by decide +kernel
theorem dX8_run_178 : decode cX8_run 178 = .ok (.aload_n 0, 1) := by decide +kernel
theorem dX8_run_179 : decode cX8_run 179 = .ok (.getfield 185, 3) := by decide +kernel
theorem dX8_run_182 : decode cX8_run 182 = .ok (.ireturn, 1) := by decide +kernel
theorem dX8_told_0 : decode cX8_told 0 = .ok (.aload_n 0, 1) := by decide +kernel
theorem dX8_told_1 : decode cX8_told 1 = .ok (.iconst 0, 1) := by decide +kernel
theorem dX8_told_2 : decode cX8_told 2 = .ok (.putfield 72, 3) := by decide +kernel
theorem dX8_told_5 : decode cX8_told 5 = .ok (.iload_n 1, 1) := by decide +kernel
theorem dX8_told_6 : decode cX8_told 6 = .ok (.tableswitch 95 0 8 #[50, 55, 60, 65, 70, 75, 80, 85, 90], 50) := by decide +kernel
theorem dX8_told_56 : decode cX8_told 56 = .ok (.aload_n 0, 1) := by decide +kernel
theorem dX8_told_57 : decode cX8_told 57 = .ok (.getfield 226, 3) := by decide +kernel
theorem dX8_told_60 : decode cX8_told 60 = .ok (.ireturn, 1) := by decide +kernel
theorem dX8_told_61 : decode cX8_told 61 = .ok (.aload_n 0, 1) := by decide +kernel
theorem dX8_told_62 : decode cX8_told 62 = .ok (.getfield 182, 3) := by decide +kernel
theorem dX8_told_65 : decode cX8_told 65 = .ok (.ireturn, 1) := by decide +kernel
theorem dX8_told_66 : decode cX8_told 66 = .ok (.aload_n 0, 1) := by decide +kernel
theorem dX8_told_67 : decode cX8_told 67 = .ok (.getfield 220, 3) := by decide +kernel
theorem dX8_told_70 : decode cX8_told 70 = .ok (.ireturn, 1) := by decide +kernel
theorem dX8_told_71 : decode cX8_told 71 = .ok (.aload_n 0, 1) := by decide +kernel
theorem dX8_told_72 : decode cX8_told 72 = .ok (.getfield 223, 3) := by decide +kernel
theorem dX8_told_75 : decode cX8_told 75 = .ok (.ireturn, 1) := by decide +kernel
theorem dX8_told_76 : decode cX8_told 76 = .ok (.aload_n 0, 1) := by decide +kernel
theorem dX8_told_77 : decode cX8_told 77 = .ok (.getfield 210, 3) := by decide +kernel
theorem dX8_told_80 : decode cX8_told 80 = .ok (.ireturn, 1) := by decide +kernel
theorem dX8_told_81 : decode cX8_told 81 = .ok (.aload_n 0, 1) := by decide +kernel
theorem dX8_told_82 : decode cX8_told 82 = .ok (.getfield 170, 3) := by decide +kernel
theorem dX8_told_85 : decode cX8_told 85 = .ok (.ireturn, 1) := by decide +kernel
theorem dX8_told_86 : decode cX8_told 86 = .ok (.aload_n 0, 1) := by decide +kernel
theorem dX8_told_87 : decode cX8_told 87 = .ok (.getfield 176, 3) := by decide +kernel
theorem dX8_told_90 : decode cX8_told 90 = .ok (.ireturn, 1) := by decide +kernel
theorem dX8_told_91 : decode cX8_told 91 = .ok (.aload_n 0, 1) := by decide +kernel
theorem dX8_told_92 : decode cX8_told 92 = .ok (.getfield 139, 3) := by decide +kernel
theorem dX8_told_95 : decode cX8_told 95 = .ok (.ireturn, 1) := by decide +kernel
theorem dX8_told_96 : decode cX8_told 96 = .ok (.aload_n 0, 1) := by decide +kernel
theorem dX8_told_97 : decode cX8_told 97 = .ok (.getfield 128, 3) := by decide +kernel
theorem dX8_told_100 : decode cX8_told 100 = .ok (.ireturn, 1) := by decide +kernel
theorem dX8_told_101 : decode cX8_told 101 = .ok (.bipush (-2), 2) := by decide +kernel
theorem dX8_told_103 : decode cX8_told 103 = .ok (.ireturn, 1) := by decide +kernel
theorem dX8_printed_0 : decode cX8_printed 0 = .ok (.aload_n 0, 1) := by decide +kernel
theorem dX8_printed_1 : decode cX8_printed 1 = .ok (.iconst 0, 1) := by decide +kernel
theorem dX8_printed_2 : decode cX8_printed 2 = .ok (.putfield 72, 3) := by decide +kernel
theorem dX8_printed_5 : decode cX8_printed 5 = .ok (.iload_n 1, 1) := by decide +kernel
theorem dX8_printed_6 : decode cX8_printed 6 = .ok (.ifCond .lt 11, 3) := by decide +kernel
theorem dX8_printed_9 : decode cX8_printed 9 = .ok (.iload_n 1, 1) := by decide +kernel
theorem dX8_printed_10 : decode cX8_printed 10 = .ok (.aload_n 0, 1) := by decide +kernel
theorem dX8_printed_11 : decode cX8_printed 11 = .ok (.getfield 170, 3) := by decide +kernel
theorem dX8_printed_14 : decode cX8_printed 14 = .ok (.if_icmp .lt 10, 3) := by decide +kernel
theorem dX8_printed_17 : decode cX8_printed 17 = .ok (.aload_n 0, 1) := by decide +kernel
theorem dX8_printed_18 : decode cX8_printed 18 = .ok (.iconst 1, 1) := by decide +kernel
theorem dX8_printed_19 : decode cX8_printed 19 = .ok (.putfield 72, 3) := by decide +kernel
theorem dX8_printed_22 : decode cX8_printed 22 = .ok (.iconst 0, 1) := by decide +kernel
theorem dX8_printed_23 : decode cX8_printed 23 = .ok (.ireturn, 1) := by decide +kernel
theorem dX8_printed_24 : decode cX8_printed 24 = .ok (.aload_n 0, 1) := by decide +kernel
theorem dX8_printed_25 : decode cX8_printed 25 = .ok (.getfield 66, 3) := by decide +kernel
theorem dX8_printed_28 : decode cX8_printed 28 = .ok (.iload_n 1, 1) := by decide +kernel
theorem dX8_printed_29 : decode cX8_printed 29 = .ok (.iaload, 1) := by decide +kernel
theorem dX8_printed_30 : decode cX8_printed 30 = .ok (.ireturn, 1) := by decide +kernel
theorem dX8_left_0 : decode cX8_left 0 = .ok (.aload_n 0, 1) := by decide +kernel
theorem dX8_left_1 : decode cX8_left 1 = .ok (.iconst 0, 1) := by decide +kernel
theorem dX8_left_2 : decode cX8_left 2 = .ok (.putfield 72, 3) := by decide +kernel
theorem dX8_left_5 : decode cX8_left 5 = .ok (.iload_n 1, 1) := by decide +kernel
theorem dX8_left_6 : decode cX8_left 6 = .ok (.ifCond .lt 9, 3) := by decide +kernel
theorem dX8_left_9 : decode cX8_left 9 = .ok (.iload_n 1, 1) := by decide +kernel
theorem dX8_left_10 : decode cX8_left 10 = .ok (.bipush 7, 2) := by decide +kernel
theorem dX8_left_12 : decode cX8_left 12 = .ok (.if_icmp .le 7, 3) := by decide +kernel
theorem dX8_left_15 : decode cX8_left 15 = .ok (.iconst (-1), 1) := by decide +kernel
theorem dX8_left_16 : decode cX8_left 16 = .ok (.goto 9, 3) := by decide +kernel
theorem dX8_left_19 : decode cX8_left 19 = .ok (.aload_n 0, 1) := by decide +kernel
theorem dX8_left_20 : decode cX8_left 20 = .ok (.getfield 69, 3) := by decide +kernel
theorem dX8_left_23 : decode cX8_left 23 = .ok (.iload_n 1, 1) := by decide +kernel
theorem dX8_left_24 : decode cX8_left 24 = .ok (.iaload, 1) := by decide +kernel
theorem dX8_left_25 : decode cX8_left 25 = .ok (.ireturn, 1) := by decide +kernel
theorem dL_work_0 : decode cL_work 0 = .ok (.aload 4, 2) := by decide +kernel
theorem dL_work_2 : decode cL_work 2 = .ok (.iconst 0, 1) := by decide +kernel
theorem dL_work_3 : decode cL_work 3 = .ok (.aload_n 0, 1) := by decide +kernel
theorem dL_work_4 : decode cL_work 4 = .ok (.iload_n 1, 1) := by decide +kernel
theorem dL_work_5 : decode cL_work 5 = .ok (.iload_n 2, 1) := by decide +kernel
theorem dL_work_6 : decode cL_work 6 = .ok (.iload_n 3, 1) := by decide +kernel
theorem dL_work_7 : decode cL_work 7 = .ok (.invokevirtual 7, 3) := by decide +kernel
theorem dL_work_10 : decode cL_work 10 = .ok (.i2l, 1) := by decide +kernel
theorem dL_work_11 : decode cL_work 11 = .ok (.lastore, 1) := by decide +kernel
theorem dL_work_12 : decode cL_work 12 = .ok (.goto 11, 3) := by decide +kernel
theorem dL_work_15 : decode cL_work 15 = .ok (.astore 5, 2) := by decide +kernel
theorem dL_work_17 : decode cL_work 17 = .ok (.iconst 1, 1) := by decide +kernel
theorem dL_work_18 : decode cL_work 18 = .ok (.ireturn, 1) := by decide +kernel
theorem dL_work_19 : decode cL_work 19 = .ok (.astore 5, 2) := by decide +kernel
theorem dL_work_21 : decode cL_work 21 = .ok (.iconst 2, 1) := by decide +kernel
theorem dL_work_22 : decode cL_work 22 = .ok (.ireturn, 1) := by decide +kernel
theorem dL_work_23 : decode cL_work 23 = .ok (.iconst 0, 1) := by decide +kernel
theorem dL_work_24 : decode cL_work 24 = .ok (.ireturn, 1) := by decide +kernel
theorem dL_printed_0 : decode cL_printed 0 = .ok (.aload_n 2, 1) := by decide +kernel
theorem dL_printed_1 : decode cL_printed 1 = .ok (.iconst 0, 1) := by decide +kernel
theorem dL_printed_2 : decode cL_printed 2 = .ok (.aload_n 0, 1) := by decide +kernel
theorem dL_printed_3 : decode cL_printed 3 = .ok (.iload_n 1, 1) := by decide +kernel
theorem dL_printed_4 : decode cL_printed 4 = .ok (.invokevirtual 17, 3) := by decide +kernel
theorem dL_printed_7 : decode cL_printed 7 = .ok (.i2l, 1) := by decide +kernel
theorem dL_printed_8 : decode cL_printed 8 = .ok (.lastore, 1) := by decide +kernel
theorem dL_printed_9 : decode cL_printed 9 = .ok (.goto 6, 3) := by decide +kernel
theorem dL_printed_12 : decode cL_printed 12 = .ok (.astore_n 3, 1) := by decide +kernel
theorem dL_printed_13 : decode cL_printed 13 = .ok (.iconst 1, 1) := by decide +kernel
theorem dL_printed_14 : decode cL_printed 14 = .ok (.ireturn, 1) := by decide +kernel
theorem dL_printed_15 : decode cL_printed 15 = .ok (.iconst 0, 1) := by decide +kernel
theorem dL_printed_16 : decode cL_printed 16 = .ok (.ireturn, 1) := by decide +kernel
theorem dL_law_0 : decode cL_law 0 = .ok (.new 8, 3) := by decide +kernel
theorem dL_law_3 : decode cL_law 3 = .ok (.dup, 1) := by decide +kernel
theorem dL_law_4 : decode cL_law 4 = .ok (.invokespecial 23, 3) := by decide +kernel
theorem dL_law_7 : decode cL_law 7 = .ok (.astore_n 1, 1) := by decide +kernel
theorem dL_law_8 : decode cL_law 8 = .ok (.new 24, 3) := by decide +kernel
theorem dL_law_11 : decode cL_law 11 = .ok (.dup, 1) := by decide +kernel
theorem dL_law_12 : decode cL_law 12 = .ok (.invokespecial 26, 3) := by decide +kernel
theorem dL_law_15 : decode cL_law 15 = .ok (.astore_n 2, 1) := by decide +kernel
theorem dL_law_16 : decode cL_law 16 = .ok (.iconst 1, 1) := by decide +kernel
theorem dL_law_17 : decode cL_law 17 = .ok (.newarray .long, 2) := by decide +kernel
theorem dL_law_19 : decode cL_law 19 = .ok (.astore_n 3, 1) := by decide +kernel
theorem dL_law_20 : decode cL_law 20 = .ok (.iconst 0, 1) := by decide +kernel
theorem dL_law_21 : decode cL_law 21 = .ok (.istore 4, 2) := by decide +kernel
theorem dL_law_23 : decode cL_law 23 = .ok (.iload 4, 2) := by decide +kernel
theorem dL_law_25 : decode cL_law 25 = .ok (.aload_n 0, 1) := by decide +kernel
theorem dL_law_26 : decode cL_law 26 = .ok (.arraylength, 1) := by decide +kernel
theorem dL_law_27 : decode cL_law 27 = .ok (.bipush 6, 2) := by decide +kernel
theorem dL_law_29 : decode cL_law 29 = .ok (.isub, 1) := by decide +kernel
theorem dL_law_30 : decode cL_law 30 = .ok (.if_icmp .gt 835, 3) := by decide +kernel
theorem dL_law_33 : decode cL_law 33 = .ok (.aload_n 0, 1) := by decide +kernel
theorem dL_law_34 : decode cL_law 34 = .ok (.iload 4, 2) := by decide +kernel
theorem dL_law_36 : decode cL_law 36 = .ok (.iaload, 1) := by decide +kernel
theorem dL_law_37 : decode cL_law 37 = .ok (.bipush 31, 2) := by decide +kernel
theorem dL_law_39 : decode cL_law 39 = .ok (.iand, 1) := by decide +kernel
theorem dL_law_40 : decode cL_law 40 = .ok (.tableswitch 819 0 16 #[84, 121, 174, 267, 319, 368, 429, 454, 479, 504, 529, 602, 679, 692, 741, 766, 794], 84) := by decide +kernel
theorem dL_law_124 : decode cL_law 124 = .ok (.aload_n 1, 1) := by decide +kernel
theorem dL_law_125 : decode cL_law 125 = .ok (.aload_n 0, 1) := by decide +kernel
theorem dL_law_126 : decode cL_law 126 = .ok (.iload 4, 2) := by decide +kernel
theorem dL_law_128 : decode cL_law 128 = .ok (.iconst 1, 1) := by decide +kernel
theorem dL_law_129 : decode cL_law 129 = .ok (.iadd, 1) := by decide +kernel
theorem dL_law_130 : decode cL_law 130 = .ok (.iaload, 1) := by decide +kernel
theorem dL_law_131 : decode cL_law 131 = .ok (.aload_n 0, 1) := by decide +kernel
theorem dL_law_132 : decode cL_law 132 = .ok (.iload 4, 2) := by decide +kernel
theorem dL_law_134 : decode cL_law 134 = .ok (.iconst 2, 1) := by decide +kernel
theorem dL_law_135 : decode cL_law 135 = .ok (.iadd, 1) := by decide +kernel
theorem dL_law_136 : decode cL_law 136 = .ok (.iaload, 1) := by decide +kernel
theorem dL_law_137 : decode cL_law 137 = .ok (.invokevirtual 27, 3) := by decide +kernel
theorem dL_law_140 : decode cL_law 140 = .ok (.pop, 1) := by decide +kernel
theorem dL_law_141 : decode cL_law 141 = .ok (.aload_n 2, 1) := by decide +kernel
theorem dL_law_142 : decode cL_law 142 = .ok (.aload_n 0, 1) := by decide +kernel
theorem dL_law_143 : decode cL_law 143 = .ok (.iload 4, 2) := by decide +kernel
theorem dL_law_145 : decode cL_law 145 = .ok (.iconst 1, 1) := by decide +kernel
theorem dL_law_146 : decode cL_law 146 = .ok (.iadd, 1) := by decide +kernel
theorem dL_law_147 : decode cL_law 147 = .ok (.iaload, 1) := by decide +kernel
theorem dL_law_148 : decode cL_law 148 = .ok (.aload_n 0, 1) := by decide +kernel
theorem dL_law_149 : decode cL_law 149 = .ok (.iload 4, 2) := by decide +kernel
theorem dL_law_151 : decode cL_law 151 = .ok (.iconst 2, 1) := by decide +kernel
theorem dL_law_152 : decode cL_law 152 = .ok (.iadd, 1) := by decide +kernel
theorem dL_law_153 : decode cL_law 153 = .ok (.iaload, 1) := by decide +kernel
theorem dL_law_154 : decode cL_law 154 = .ok (.invokevirtual 31, 3) := by decide +kernel
theorem dL_law_157 : decode cL_law 157 = .ok (.pop, 1) := by decide +kernel
theorem dL_law_158 : decode cL_law 158 = .ok (.goto 701, 3) := by decide +kernel
theorem dL_law_161 : decode cL_law 161 = .ok (.aload_n 1, 1) := by decide +kernel
theorem dL_law_162 : decode cL_law 162 = .ok (.aload_n 0, 1) := by decide +kernel
theorem dL_law_163 : decode cL_law 163 = .ok (.iload 4, 2) := by decide +kernel
theorem dL_law_165 : decode cL_law 165 = .ok (.iconst 1, 1) := by decide +kernel
theorem dL_law_166 : decode cL_law 166 = .ok (.iadd, 1) := by decide +kernel
theorem dL_law_167 : decode cL_law 167 = .ok (.iaload, 1) := by decide +kernel
theorem dL_law_168 : decode cL_law 168 = .ok (.aload_n 0, 1) := by decide +kernel
theorem dL_law_169 : decode cL_law 169 = .ok (.iload 4, 2) := by decide +kernel
theorem dL_law_171 : decode cL_law 171 = .ok (.iconst 2, 1) := by decide +kernel
theorem dL_law_172 : decode cL_law 172 = .ok (.iadd, 1) := by decide +kernel
theorem dL_law_173 : decode cL_law 173 = .ok (.iaload, 1) := by decide +kernel
theorem dL_law_174 : decode cL_law 174 = .ok (.ifCond .eq 7, 3) := by decide +kernel
theorem dL_law_177 : decode cL_law 177 = .ok (.iconst 1, 1) := by decide +kernel
theorem dL_law_178 : decode cL_law 178 = .ok (.goto 4, 3) := by decide +kernel
theorem dL_law_181 : decode cL_law 181 = .ok (.iconst 0, 1) := by decide +kernel
theorem dL_law_182 : decode cL_law 182 = .ok (.invokevirtual 32, 3) := by decide +kernel
theorem dL_law_185 : decode cL_law 185 = .ok (.pop, 1) := by decide +kernel
theorem dL_law_186 : decode cL_law 186 = .ok (.aload_n 2, 1) := by decide +kernel
theorem dL_law_187 : decode cL_law 187 = .ok (.aload_n 0, 1) := by decide +kernel
theorem dL_law_188 : decode cL_law 188 = .ok (.iload 4, 2) := by decide +kernel
theorem dL_law_190 : decode cL_law 190 = .ok (.iconst 1, 1) := by decide +kernel
theorem dL_law_191 : decode cL_law 191 = .ok (.iadd, 1) := by decide +kernel
theorem dL_law_192 : decode cL_law 192 = .ok (.iaload, 1) := by decide +kernel
theorem dL_law_193 : decode cL_law 193 = .ok (.aload_n 0, 1) := by decide +kernel
theorem dL_law_194 : decode cL_law 194 = .ok (.iload 4, 2) := by decide +kernel
theorem dL_law_196 : decode cL_law 196 = .ok (.iconst 2, 1) := by decide +kernel
theorem dL_law_197 : decode cL_law 197 = .ok (.iadd, 1) := by decide +kernel
theorem dL_law_198 : decode cL_law 198 = .ok (.iaload, 1) := by decide +kernel
theorem dL_law_199 : decode cL_law 199 = .ok (.ifCond .eq 7, 3) := by decide +kernel
theorem dL_law_202 : decode cL_law 202 = .ok (.iconst 1, 1) := by decide +kernel
theorem dL_law_203 : decode cL_law 203 = .ok (.goto 4, 3) := by decide +kernel
theorem dL_law_206 : decode cL_law 206 = .ok (.iconst 0, 1) := by decide +kernel
theorem dL_law_207 : decode cL_law 207 = .ok (.invokevirtual 36, 3) := by decide +kernel
theorem dL_law_210 : decode cL_law 210 = .ok (.pop, 1) := by decide +kernel
theorem dL_law_211 : decode cL_law 211 = .ok (.goto 648, 3) := by decide +kernel
theorem dL_law_214 : decode cL_law 214 = .ok (.aload_n 1, 1) := by decide +kernel
theorem dL_law_215 : decode cL_law 215 = .ok (.aload_n 0, 1) := by decide +kernel
theorem dL_law_216 : decode cL_law 216 = .ok (.iload 4, 2) := by decide +kernel
theorem dL_law_218 : decode cL_law 218 = .ok (.iconst 1, 1) := by decide +kernel
theorem dL_law_219 : decode cL_law 219 = .ok (.iadd, 1) := by decide +kernel
theorem dL_law_220 : decode cL_law 220 = .ok (.iaload, 1) := by decide +kernel
theorem dL_law_221 : decode cL_law 221 = .ok (.aload_n 0, 1) := by decide +kernel
theorem dL_law_222 : decode cL_law 222 = .ok (.iload 4, 2) := by decide +kernel
theorem dL_law_224 : decode cL_law 224 = .ok (.iconst 2, 1) := by decide +kernel
theorem dL_law_225 : decode cL_law 225 = .ok (.iadd, 1) := by decide +kernel
theorem dL_law_226 : decode cL_law 226 = .ok (.iaload, 1) := by decide +kernel
theorem dL_law_227 : decode cL_law 227 = .ok (.aload_n 0, 1) := by decide +kernel
theorem dL_law_228 : decode cL_law 228 = .ok (.iload 4, 2) := by decide +kernel
theorem dL_law_230 : decode cL_law 230 = .ok (.iconst 3, 1) := by decide +kernel
theorem dL_law_231 : decode cL_law 231 = .ok (.iadd, 1) := by decide +kernel
theorem dL_law_232 : decode cL_law 232 = .ok (.iaload, 1) := by decide +kernel
theorem dL_law_233 : decode cL_law 233 = .ok (.ifCond .eq 7, 3) := by decide +kernel
theorem dL_law_236 : decode cL_law 236 = .ok (.iconst 1, 1) := by decide +kernel
theorem dL_law_237 : decode cL_law 237 = .ok (.goto 4, 3) := by decide +kernel
theorem dL_law_240 : decode cL_law 240 = .ok (.iconst 0, 1) := by decide +kernel
theorem dL_law_241 : decode cL_law 241 = .ok (.aload_n 0, 1) := by decide +kernel
theorem dL_law_242 : decode cL_law 242 = .ok (.iload 4, 2) := by decide +kernel
theorem dL_law_244 : decode cL_law 244 = .ok (.iconst 4, 1) := by decide +kernel
theorem dL_law_245 : decode cL_law 245 = .ok (.iadd, 1) := by decide +kernel
theorem dL_law_246 : decode cL_law 246 = .ok (.iaload, 1) := by decide +kernel
theorem dL_law_247 : decode cL_law 247 = .ok (.ifCond .eq 7, 3) := by decide +kernel
theorem dL_law_250 : decode cL_law 250 = .ok (.iconst 1, 1) := by decide +kernel
theorem dL_law_251 : decode cL_law 251 = .ok (.goto 4, 3) := by decide +kernel
theorem dL_law_254 : decode cL_law 254 = .ok (.iconst 0, 1) := by decide +kernel
theorem dL_law_255 : decode cL_law 255 = .ok (.invokevirtual 37, 3) := by decide +kernel
theorem dL_law_258 : decode cL_law 258 = .ok (.pop, 1) := by decide +kernel
theorem dL_law_259 : decode cL_law 259 = .ok (.aload_n 2, 1) := by decide +kernel
theorem dL_law_260 : decode cL_law 260 = .ok (.aload_n 0, 1) := by decide +kernel
theorem dL_law_261 : decode cL_law 261 = .ok (.iload 4, 2) := by decide +kernel
theorem dL_law_263 : decode cL_law 263 = .ok (.iconst 1, 1) := by decide +kernel
theorem dL_law_264 : decode cL_law 264 = .ok (.iadd, 1) := by decide +kernel
theorem dL_law_265 : decode cL_law 265 = .ok (.iaload, 1) := by decide +kernel
theorem dL_law_266 : decode cL_law 266 = .ok (.aload_n 0, 1) := by decide +kernel
theorem dL_law_267 : decode cL_law 267 = .ok (.iload 4, 2) := by decide +kernel
theorem dL_law_269 : decode cL_law 269 = .ok (.iconst 2, 1) := by decide +kernel
theorem dL_law_270 : decode cL_law 270 = .ok (.iadd, 1) := by decide +kernel
theorem dL_law_271 : decode cL_law 271 = .ok (.iaload, 1) := by decide +kernel
theorem dL_law_272 : decode cL_law 272 = .ok (.aload_n 0, 1) := by decide +kernel
theorem dL_law_273 : decode cL_law 273 = .ok (.iload 4, 2) := by decide +kernel
theorem dL_law_275 : decode cL_law 275 = .ok (.iconst 3, 1) := by decide +kernel
theorem dL_law_276 : decode cL_law 276 = .ok (.iadd, 1) := by decide +kernel
theorem dL_law_277 : decode cL_law 277 = .ok (.iaload, 1) := by decide +kernel
theorem dL_law_278 : decode cL_law 278 = .ok (.ifCond .eq 7, 3) := by decide +kernel
theorem dL_law_281 : decode cL_law 281 = .ok (.iconst 1, 1) := by decide +kernel
theorem dL_law_282 : decode cL_law 282 = .ok (.goto 4, 3) := by decide +kernel
theorem dL_law_285 : decode cL_law 285 = .ok (.iconst 0, 1) := by decide +kernel
theorem dL_law_286 : decode cL_law 286 = .ok (.aload_n 0, 1) := by decide +kernel
theorem dL_law_287 : decode cL_law 287 = .ok (.iload 4, 2) := by decide +kernel
theorem dL_law_289 : decode cL_law 289 = .ok (.iconst 4, 1) := by decide +kernel
theorem dL_law_290 : decode cL_law 290 = .ok (.iadd, 1) := by decide +kernel
theorem dL_law_291 : decode cL_law 291 = .ok (.iaload, 1) := by decide +kernel
theorem dL_law_292 : decode cL_law 292 = .ok (.ifCond .eq 7, 3) := by decide +kernel
theorem dL_law_295 : decode cL_law 295 = .ok (.iconst 1, 1) := by decide +kernel
theorem dL_law_296 : decode cL_law 296 = .ok (.goto 4, 3) := by decide +kernel
theorem dL_law_299 : decode cL_law 299 = .ok (.iconst 0, 1) := by decide +kernel
theorem dL_law_300 : decode cL_law 300 = .ok (.invokevirtual 41, 3) := by decide +kernel
theorem dL_law_303 : decode cL_law 303 = .ok (.pop, 1) := by decide +kernel
theorem dL_law_304 : decode cL_law 304 = .ok (.goto 555, 3) := by decide +kernel
theorem dL_law_307 : decode cL_law 307 = .ok (.aload_n 1, 1) := by decide +kernel
theorem dL_law_308 : decode cL_law 308 = .ok (.aload_n 0, 1) := by decide +kernel
theorem dL_law_309 : decode cL_law 309 = .ok (.iload 4, 2) := by decide +kernel
theorem dL_law_311 : decode cL_law 311 = .ok (.iconst 1, 1) := by decide +kernel
theorem dL_law_312 : decode cL_law 312 = .ok (.iadd, 1) := by decide +kernel
theorem dL_law_313 : decode cL_law 313 = .ok (.iaload, 1) := by decide +kernel
theorem dL_law_314 : decode cL_law 314 = .ok (.aload_n 0, 1) := by decide +kernel
theorem dL_law_315 : decode cL_law 315 = .ok (.iload 4, 2) := by decide +kernel
theorem dL_law_317 : decode cL_law 317 = .ok (.iconst 2, 1) := by decide +kernel
theorem dL_law_318 : decode cL_law 318 = .ok (.iadd, 1) := by decide +kernel
theorem dL_law_319 : decode cL_law 319 = .ok (.iaload, 1) := by decide +kernel
theorem dL_law_320 : decode cL_law 320 = .ok (.aload_n 0, 1) := by decide +kernel
theorem dL_law_321 : decode cL_law 321 = .ok (.iload 4, 2) := by decide +kernel
theorem dL_law_323 : decode cL_law 323 = .ok (.iconst 3, 1) := by decide +kernel
theorem dL_law_324 : decode cL_law 324 = .ok (.iadd, 1) := by decide +kernel
theorem dL_law_325 : decode cL_law 325 = .ok (.iaload, 1) := by decide +kernel
theorem dL_law_326 : decode cL_law 326 = .ok (.aload_n 3, 1) := by decide +kernel
theorem dL_law_327 : decode cL_law 327 = .ok (.invokestatic 42, 3) := by decide +kernel
theorem dL_law_330 : decode cL_law 330 = .ok (.istore 5, 2) := by decide +kernel
theorem dL_law_332 : decode cL_law 332 = .ok (.aload_n 2, 1) := by decide +kernel
theorem dL_law_333 : decode cL_law 333 = .ok (.aload_n 0, 1) := by decide +kernel
theorem dL_law_334 : decode cL_law 334 = .ok (.iload 4, 2) := by decide +kernel
theorem dL_law_336 : decode cL_law 336 = .ok (.iconst 1, 1) := by decide +kernel
theorem dL_law_337 : decode cL_law 337 = .ok (.iadd, 1) := by decide +kernel
theorem dL_law_338 : decode cL_law 338 = .ok (.iaload, 1) := by decide +kernel
theorem dL_law_339 : decode cL_law 339 = .ok (.aload_n 0, 1) := by decide +kernel
theorem dL_law_340 : decode cL_law 340 = .ok (.iload 4, 2) := by decide +kernel
theorem dL_law_342 : decode cL_law 342 = .ok (.iconst 2, 1) := by decide +kernel
theorem dL_law_343 : decode cL_law 343 = .ok (.iadd, 1) := by decide +kernel
theorem dL_law_344 : decode cL_law 344 = .ok (.iaload, 1) := by decide +kernel
theorem dL_law_345 : decode cL_law 345 = .ok (.aload_n 0, 1) := by decide +kernel
theorem dL_law_346 : decode cL_law 346 = .ok (.iload 4, 2) := by decide +kernel
theorem dL_law_348 : decode cL_law 348 = .ok (.iconst 3, 1) := by decide +kernel
theorem dL_law_349 : decode cL_law 349 = .ok (.iadd, 1) := by decide +kernel
theorem dL_law_350 : decode cL_law 350 = .ok (.iaload, 1) := by decide +kernel
theorem dL_law_351 : decode cL_law 351 = .ok (.invokevirtual 47, 3) := by decide +kernel
theorem dL_law_354 : decode cL_law 354 = .ok (.istore 6, 2) := by decide +kernel
theorem dL_law_356 : decode cL_law 356 = .ok (.goto 503, 3) := by decide +kernel
theorem dL_law_359 : decode cL_law 359 = .ok (.aload_n 1, 1) := by decide +kernel
theorem dL_law_360 : decode cL_law 360 = .ok (.aload_n 0, 1) := by decide +kernel
theorem dL_law_361 : decode cL_law 361 = .ok (.iload 4, 2) := by decide +kernel
theorem dL_law_363 : decode cL_law 363 = .ok (.iconst 1, 1) := by decide +kernel
theorem dL_law_364 : decode cL_law 364 = .ok (.iadd, 1) := by decide +kernel
theorem dL_law_365 : decode cL_law 365 = .ok (.iaload, 1) := by decide +kernel
theorem dL_law_366 : decode cL_law 366 = .ok (.aload_n 0, 1) := by decide +kernel
theorem dL_law_367 : decode cL_law 367 = .ok (.iload 4, 2) := by decide +kernel
theorem dL_law_369 : decode cL_law 369 = .ok (.iconst 2, 1) := by decide +kernel
theorem dL_law_370 : decode cL_law 370 = .ok (.iadd, 1) := by decide +kernel
theorem dL_law_371 : decode cL_law 371 = .ok (.iaload, 1) := by decide +kernel
theorem dL_law_372 : decode cL_law 372 = .ok (.aload_n 0, 1) := by decide +kernel
theorem dL_law_373 : decode cL_law 373 = .ok (.iload 4, 2) := by decide +kernel
theorem dL_law_375 : decode cL_law 375 = .ok (.iconst 3, 1) := by decide +kernel
theorem dL_law_376 : decode cL_law 376 = .ok (.iadd, 1) := by decide +kernel
theorem dL_law_377 : decode cL_law 377 = .ok (.iaload, 1) := by decide +kernel
theorem dL_law_378 : decode cL_law 378 = .ok (.invokevirtual 48, 3) := by decide +kernel
theorem dL_law_381 : decode cL_law 381 = .ok (.aload_n 2, 1) := by decide +kernel
theorem dL_law_382 : decode cL_law 382 = .ok (.aload_n 0, 1) := by decide +kernel
theorem dL_law_383 : decode cL_law 383 = .ok (.iload 4, 2) := by decide +kernel
theorem dL_law_385 : decode cL_law 385 = .ok (.iconst 1, 1) := by decide +kernel
theorem dL_law_386 : decode cL_law 386 = .ok (.iadd, 1) := by decide +kernel
theorem dL_law_387 : decode cL_law 387 = .ok (.iaload, 1) := by decide +kernel
theorem dL_law_388 : decode cL_law 388 = .ok (.aload_n 0, 1) := by decide +kernel
theorem dL_law_389 : decode cL_law 389 = .ok (.iload 4, 2) := by decide +kernel
theorem dL_law_391 : decode cL_law 391 = .ok (.iconst 2, 1) := by decide +kernel
theorem dL_law_392 : decode cL_law 392 = .ok (.iadd, 1) := by decide +kernel
theorem dL_law_393 : decode cL_law 393 = .ok (.iaload, 1) := by decide +kernel
theorem dL_law_394 : decode cL_law 394 = .ok (.aload_n 0, 1) := by decide +kernel
theorem dL_law_395 : decode cL_law 395 = .ok (.iload 4, 2) := by decide +kernel
theorem dL_law_397 : decode cL_law 397 = .ok (.iconst 3, 1) := by decide +kernel
theorem dL_law_398 : decode cL_law 398 = .ok (.iadd, 1) := by decide +kernel
theorem dL_law_399 : decode cL_law 399 = .ok (.iaload, 1) := by decide +kernel
theorem dL_law_400 : decode cL_law 400 = .ok (.invokevirtual 51, 3) := by decide +kernel
theorem dL_law_403 : decode cL_law 403 = .ok (.if_icmp .eq 456, 3) := by decide +kernel
theorem dL_law_406 : decode cL_law 406 = .ok (.iconst 0, 1) := by decide +kernel
theorem dL_law_407 : decode cL_law 407 = .ok (.ireturn, 1) := by decide +kernel
theorem dL_law_408 : decode cL_law 408 = .ok (.aload_n 1, 1) := by decide +kernel
theorem dL_law_409 : decode cL_law 409 = .ok (.aload_n 0, 1) := by decide +kernel
theorem dL_law_410 : decode cL_law 410 = .ok (.iload 4, 2) := by decide +kernel
theorem dL_law_412 : decode cL_law 412 = .ok (.iconst 1, 1) := by decide +kernel
theorem dL_law_413 : decode cL_law 413 = .ok (.iadd, 1) := by decide +kernel
theorem dL_law_414 : decode cL_law 414 = .ok (.iaload, 1) := by decide +kernel
theorem dL_law_415 : decode cL_law 415 = .ok (.aload_n 0, 1) := by decide +kernel
theorem dL_law_416 : decode cL_law 416 = .ok (.iload 4, 2) := by decide +kernel
theorem dL_law_418 : decode cL_law 418 = .ok (.iconst 2, 1) := by decide +kernel
theorem dL_law_419 : decode cL_law 419 = .ok (.iadd, 1) := by decide +kernel
theorem dL_law_420 : decode cL_law 420 = .ok (.iaload, 1) := by decide +kernel
theorem dL_law_421 : decode cL_law 421 = .ok (.aload_n 0, 1) := by decide +kernel
theorem dL_law_422 : decode cL_law 422 = .ok (.iload 4, 2) := by decide +kernel
theorem dL_law_424 : decode cL_law 424 = .ok (.iconst 3, 1) := by decide +kernel
theorem dL_law_425 : decode cL_law 425 = .ok (.iadd, 1) := by decide +kernel
theorem dL_law_426 : decode cL_law 426 = .ok (.iaload, 1) := by decide +kernel
theorem dL_law_427 : decode cL_law 427 = .ok (.aload_n 0, 1) := by decide +kernel
theorem dL_law_428 : decode cL_law 428 = .ok (.iload 4, 2) := by decide +kernel
theorem dL_law_430 : decode cL_law 430 = .ok (.iconst 4, 1) := by decide +kernel
theorem dL_law_431 : decode cL_law 431 = .ok (.iadd, 1) := by decide +kernel
theorem dL_law_432 : decode cL_law 432 = .ok (.iaload, 1) := by decide +kernel
theorem dL_law_433 : decode cL_law 433 = .ok (.invokevirtual 52, 3) := by decide +kernel
theorem dL_law_436 : decode cL_law 436 = .ok (.pop, 1) := by decide +kernel
theorem dL_law_437 : decode cL_law 437 = .ok (.aload_n 2, 1) := by decide +kernel
theorem dL_law_438 : decode cL_law 438 = .ok (.aload_n 0, 1) := by decide +kernel
theorem dL_law_439 : decode cL_law 439 = .ok (.iload 4, 2) := by decide +kernel
theorem dL_law_441 : decode cL_law 441 = .ok (.iconst 1, 1) := by decide +kernel
theorem dL_law_442 : decode cL_law 442 = .ok (.iadd, 1) := by decide +kernel
theorem dL_law_443 : decode cL_law 443 = .ok (.iaload, 1) := by decide +kernel
theorem dL_law_444 : decode cL_law 444 = .ok (.aload_n 0, 1) := by decide +kernel
theorem dL_law_445 : decode cL_law 445 = .ok (.iload 4, 2) := by decide +kernel
theorem dL_law_447 : decode cL_law 447 = .ok (.iconst 2, 1) := by decide +kernel
theorem dL_law_448 : decode cL_law 448 = .ok (.iadd, 1) := by decide +kernel
theorem dL_law_449 : decode cL_law 449 = .ok (.iaload, 1) := by decide +kernel
theorem dL_law_450 : decode cL_law 450 = .ok (.aload_n 0, 1) := by decide +kernel
theorem dL_law_451 : decode cL_law 451 = .ok (.iload 4, 2) := by decide +kernel
theorem dL_law_453 : decode cL_law 453 = .ok (.iconst 3, 1) := by decide +kernel
theorem dL_law_454 : decode cL_law 454 = .ok (.iadd, 1) := by decide +kernel
theorem dL_law_455 : decode cL_law 455 = .ok (.iaload, 1) := by decide +kernel
theorem dL_law_456 : decode cL_law 456 = .ok (.aload_n 0, 1) := by decide +kernel
theorem dL_law_457 : decode cL_law 457 = .ok (.iload 4, 2) := by decide +kernel
theorem dL_law_459 : decode cL_law 459 = .ok (.iconst 4, 1) := by decide +kernel
theorem dL_law_460 : decode cL_law 460 = .ok (.iadd, 1) := by decide +kernel
theorem dL_law_461 : decode cL_law 461 = .ok (.iaload, 1) := by decide +kernel
theorem dL_law_462 : decode cL_law 462 = .ok (.invokevirtual 56, 3) := by decide +kernel
theorem dL_law_465 : decode cL_law 465 = .ok (.pop, 1) := by decide +kernel
theorem dL_law_466 : decode cL_law 466 = .ok (.goto 393, 3) := by decide +kernel
theorem dL_law_469 : decode cL_law 469 = .ok (.aload_n 1, 1) := by decide +kernel
theorem dL_law_470 : decode cL_law 470 = .ok (.aload_n 0, 1) := by decide +kernel
theorem dL_law_471 : decode cL_law 471 = .ok (.iload 4, 2) := by decide +kernel
theorem dL_law_473 : decode cL_law 473 = .ok (.iconst 1, 1) := by decide +kernel
theorem dL_law_474 : decode cL_law 474 = .ok (.iadd, 1) := by decide +kernel
theorem dL_law_475 : decode cL_law 475 = .ok (.iaload, 1) := by decide +kernel
theorem dL_law_476 : decode cL_law 476 = .ok (.invokevirtual 57, 3) := by decide +kernel
theorem dL_law_479 : decode cL_law 479 = .ok (.pop, 1) := by decide +kernel
theorem dL_law_480 : decode cL_law 480 = .ok (.aload_n 2, 1) := by decide +kernel
theorem dL_law_481 : decode cL_law 481 = .ok (.aload_n 0, 1) := by decide +kernel
theorem dL_law_482 : decode cL_law 482 = .ok (.iload 4, 2) := by decide +kernel
theorem dL_law_484 : decode cL_law 484 = .ok (.iconst 1, 1) := by decide +kernel
theorem dL_law_485 : decode cL_law 485 = .ok (.iadd, 1) := by decide +kernel
theorem dL_law_486 : decode cL_law 486 = .ok (.iaload, 1) := by decide +kernel
theorem dL_law_487 : decode cL_law 487 = .ok (.invokevirtual 60, 3) := by decide +kernel
theorem dL_law_490 : decode cL_law 490 = .ok (.pop, 1) := by decide +kernel
theorem dL_law_491 : decode cL_law 491 = .ok (.goto 368, 3) := by decide +kernel
theorem dL_law_494 : decode cL_law 494 = .ok (.aload_n 1, 1) := by decide +kernel
theorem dL_law_495 : decode cL_law 495 = .ok (.aload_n 0, 1) := by decide +kernel
theorem dL_law_496 : decode cL_law 496 = .ok (.iload 4, 2) := by decide +kernel
theorem dL_law_498 : decode cL_law 498 = .ok (.iconst 1, 1) := by decide +kernel
theorem dL_law_499 : decode cL_law 499 = .ok (.iadd, 1) := by decide +kernel
theorem dL_law_500 : decode cL_law 500 = .ok (.iaload, 1) := by decide +kernel
theorem dL_law_501 : decode cL_law 501 = .ok (.invokevirtual 61, 3) := by decide +kernel
theorem dL_law_504 : decode cL_law 504 = .ok (.pop, 1) := by decide +kernel
theorem dL_law_505 : decode cL_law 505 = .ok (.aload_n 2, 1) := by decide +kernel
theorem dL_law_506 : decode cL_law 506 = .ok (.aload_n 0, 1) := by decide +kernel
theorem dL_law_507 : decode cL_law 507 = .ok (.iload 4, 2) := by decide +kernel
theorem dL_law_509 : decode cL_law 509 = .ok (.iconst 1, 1) := by decide +kernel
theorem dL_law_510 : decode cL_law 510 = .ok (.iadd, 1) := by decide +kernel
theorem dL_law_511 : decode cL_law 511 = .ok (.iaload, 1) := by decide +kernel
theorem dL_law_512 : decode cL_law 512 = .ok (.invokevirtual 64, 3) := by decide +kernel
theorem dL_law_515 : decode cL_law 515 = .ok (.pop, 1) := by decide +kernel
theorem dL_law_516 : decode cL_law 516 = .ok (.goto 343, 3) := by decide +kernel
theorem dL_law_519 : decode cL_law 519 = .ok (.aload_n 1, 1) := by decide +kernel
theorem dL_law_520 : decode cL_law 520 = .ok (.aload_n 0, 1) := by decide +kernel
theorem dL_law_521 : decode cL_law 521 = .ok (.iload 4, 2) := by decide +kernel
theorem dL_law_523 : decode cL_law 523 = .ok (.iconst 1, 1) := by decide +kernel
theorem dL_law_524 : decode cL_law 524 = .ok (.iadd, 1) := by decide +kernel
theorem dL_law_525 : decode cL_law 525 = .ok (.iaload, 1) := by decide +kernel
theorem dL_law_526 : decode cL_law 526 = .ok (.invokevirtual 65, 3) := by decide +kernel
theorem dL_law_529 : decode cL_law 529 = .ok (.pop, 1) := by decide +kernel
theorem dL_law_530 : decode cL_law 530 = .ok (.aload_n 2, 1) := by decide +kernel
theorem dL_law_531 : decode cL_law 531 = .ok (.aload_n 0, 1) := by decide +kernel
theorem dL_law_532 : decode cL_law 532 = .ok (.iload 4, 2) := by decide +kernel
theorem dL_law_534 : decode cL_law 534 = .ok (.iconst 1, 1) := by decide +kernel
theorem dL_law_535 : decode cL_law 535 = .ok (.iadd, 1) := by decide +kernel
theorem dL_law_536 : decode cL_law 536 = .ok (.iaload, 1) := by decide +kernel
theorem dL_law_537 : decode cL_law 537 = .ok (.invokevirtual 68, 3) := by decide +kernel
theorem dL_law_540 : decode cL_law 540 = .ok (.pop, 1) := by decide +kernel
theorem dL_law_541 : decode cL_law 541 = .ok (.goto 318, 3) := by decide +kernel
theorem dL_law_544 : decode cL_law 544 = .ok (.aload_n 1, 1) := by decide +kernel
theorem dL_law_545 : decode cL_law 545 = .ok (.aload_n 0, 1) := by decide +kernel
theorem dL_law_546 : decode cL_law 546 = .ok (.iload 4, 2) := by decide +kernel
theorem dL_law_548 : decode cL_law 548 = .ok (.iconst 1, 1) := by decide +kernel
theorem dL_law_549 : decode cL_law 549 = .ok (.iadd, 1) := by decide +kernel
theorem dL_law_550 : decode cL_law 550 = .ok (.iaload, 1) := by decide +kernel
theorem dL_law_551 : decode cL_law 551 = .ok (.invokevirtual 69, 3) := by decide +kernel
theorem dL_law_554 : decode cL_law 554 = .ok (.pop, 1) := by decide +kernel
theorem dL_law_555 : decode cL_law 555 = .ok (.aload_n 2, 1) := by decide +kernel
theorem dL_law_556 : decode cL_law 556 = .ok (.aload_n 0, 1) := by decide +kernel
theorem dL_law_557 : decode cL_law 557 = .ok (.iload 4, 2) := by decide +kernel
theorem dL_law_559 : decode cL_law 559 = .ok (.iconst 1, 1) := by decide +kernel
theorem dL_law_560 : decode cL_law 560 = .ok (.iadd, 1) := by decide +kernel
theorem dL_law_561 : decode cL_law 561 = .ok (.iaload, 1) := by decide +kernel
theorem dL_law_562 : decode cL_law 562 = .ok (.invokevirtual 72, 3) := by decide +kernel
theorem dL_law_565 : decode cL_law 565 = .ok (.pop, 1) := by decide +kernel
theorem dL_law_566 : decode cL_law 566 = .ok (.goto 293, 3) := by decide +kernel
theorem dL_law_569 : decode cL_law 569 = .ok (.aload_n 1, 1) := by decide +kernel
theorem dL_law_570 : decode cL_law 570 = .ok (.aload_n 0, 1) := by decide +kernel
theorem dL_law_571 : decode cL_law 571 = .ok (.iload 4, 2) := by decide +kernel
theorem dL_law_573 : decode cL_law 573 = .ok (.iconst 1, 1) := by decide +kernel
theorem dL_law_574 : decode cL_law 574 = .ok (.iadd, 1) := by decide +kernel
theorem dL_law_575 : decode cL_law 575 = .ok (.iaload, 1) := by decide +kernel
theorem dL_law_576 : decode cL_law 576 = .ok (.aload_n 0, 1) := by decide +kernel
theorem dL_law_577 : decode cL_law 577 = .ok (.iload 4, 2) := by decide +kernel
theorem dL_law_579 : decode cL_law 579 = .ok (.iconst 2, 1) := by decide +kernel
theorem dL_law_580 : decode cL_law 580 = .ok (.iadd, 1) := by decide +kernel
theorem dL_law_581 : decode cL_law 581 = .ok (.iaload, 1) := by decide +kernel
theorem dL_law_582 : decode cL_law 582 = .ok (.aload_n 0, 1) := by decide +kernel
theorem dL_law_583 : decode cL_law 583 = .ok (.iload 4, 2) := by decide +kernel
theorem dL_law_585 : decode cL_law 585 = .ok (.iconst 3, 1) := by decide +kernel
theorem dL_law_586 : decode cL_law 586 = .ok (.iadd, 1) := by decide +kernel
theorem dL_law_587 : decode cL_law 587 = .ok (.iaload, 1) := by decide +kernel
theorem dL_law_588 : decode cL_law 588 = .ok (.aload_n 0, 1) := by decide +kernel
theorem dL_law_589 : decode cL_law 589 = .ok (.iload 4, 2) := by decide +kernel
theorem dL_law_591 : decode cL_law 591 = .ok (.iconst 4, 1) := by decide +kernel
theorem dL_law_592 : decode cL_law 592 = .ok (.iadd, 1) := by decide +kernel
theorem dL_law_593 : decode cL_law 593 = .ok (.iaload, 1) := by decide +kernel
theorem dL_law_594 : decode cL_law 594 = .ok (.aload_n 0, 1) := by decide +kernel
theorem dL_law_595 : decode cL_law 595 = .ok (.iload 4, 2) := by decide +kernel
theorem dL_law_597 : decode cL_law 597 = .ok (.iconst 5, 1) := by decide +kernel
theorem dL_law_598 : decode cL_law 598 = .ok (.iadd, 1) := by decide +kernel
theorem dL_law_599 : decode cL_law 599 = .ok (.iaload, 1) := by decide +kernel
theorem dL_law_600 : decode cL_law 600 = .ok (.invokevirtual 73, 3) := by decide +kernel
theorem dL_law_603 : decode cL_law 603 = .ok (.pop, 1) := by decide +kernel
theorem dL_law_604 : decode cL_law 604 = .ok (.aload_n 2, 1) := by decide +kernel
theorem dL_law_605 : decode cL_law 605 = .ok (.aload_n 0, 1) := by decide +kernel
theorem dL_law_606 : decode cL_law 606 = .ok (.iload 4, 2) := by decide +kernel
theorem dL_law_608 : decode cL_law 608 = .ok (.iconst 1, 1) := by decide +kernel
theorem dL_law_609 : decode cL_law 609 = .ok (.iadd, 1) := by decide +kernel
theorem dL_law_610 : decode cL_law 610 = .ok (.iaload, 1) := by decide +kernel
theorem dL_law_611 : decode cL_law 611 = .ok (.aload_n 0, 1) := by decide +kernel
theorem dL_law_612 : decode cL_law 612 = .ok (.iload 4, 2) := by decide +kernel
theorem dL_law_614 : decode cL_law 614 = .ok (.iconst 2, 1) := by decide +kernel
theorem dL_law_615 : decode cL_law 615 = .ok (.iadd, 1) := by decide +kernel
theorem dL_law_616 : decode cL_law 616 = .ok (.iaload, 1) := by decide +kernel
theorem dL_law_617 : decode cL_law 617 = .ok (.aload_n 0, 1) := by decide +kernel
theorem dL_law_618 : decode cL_law 618 = .ok (.iload 4, 2) := by decide +kernel
theorem dL_law_620 : decode cL_law 620 = .ok (.iconst 3, 1) := by decide +kernel
theorem dL_law_621 : decode cL_law 621 = .ok (.iadd, 1) := by decide +kernel
theorem dL_law_622 : decode cL_law 622 = .ok (.iaload, 1) := by decide +kernel
theorem dL_law_623 : decode cL_law 623 = .ok (.aload_n 0, 1) := by decide +kernel
theorem dL_law_624 : decode cL_law 624 = .ok (.iload 4, 2) := by decide +kernel
theorem dL_law_626 : decode cL_law 626 = .ok (.iconst 4, 1) := by decide +kernel
theorem dL_law_627 : decode cL_law 627 = .ok (.iadd, 1) := by decide +kernel
theorem dL_law_628 : decode cL_law 628 = .ok (.iaload, 1) := by decide +kernel
theorem dL_law_629 : decode cL_law 629 = .ok (.aload_n 0, 1) := by decide +kernel
theorem dL_law_630 : decode cL_law 630 = .ok (.iload 4, 2) := by decide +kernel
theorem dL_law_632 : decode cL_law 632 = .ok (.iconst 5, 1) := by decide +kernel
theorem dL_law_633 : decode cL_law 633 = .ok (.iadd, 1) := by decide +kernel
theorem dL_law_634 : decode cL_law 634 = .ok (.iaload, 1) := by decide +kernel
theorem dL_law_635 : decode cL_law 635 = .ok (.invokevirtual 77, 3) := by decide +kernel
theorem dL_law_638 : decode cL_law 638 = .ok (.pop, 1) := by decide +kernel
theorem dL_law_639 : decode cL_law 639 = .ok (.goto 220, 3) := by decide +kernel
theorem dL_law_642 : decode cL_law 642 = .ok (.aload_n 1, 1) := by decide +kernel
theorem dL_law_643 : decode cL_law 643 = .ok (.aload_n 0, 1) := by decide +kernel
theorem dL_law_644 : decode cL_law 644 = .ok (.iload 4, 2) := by decide +kernel
theorem dL_law_646 : decode cL_law 646 = .ok (.iconst 1, 1) := by decide +kernel
theorem dL_law_647 : decode cL_law 647 = .ok (.iadd, 1) := by decide +kernel
theorem dL_law_648 : decode cL_law 648 = .ok (.iaload, 1) := by decide +kernel
theorem dL_law_649 : decode cL_law 649 = .ok (.aload_n 0, 1) := by decide +kernel
theorem dL_law_650 : decode cL_law 650 = .ok (.iload 4, 2) := by decide +kernel
theorem dL_law_652 : decode cL_law 652 = .ok (.iconst 2, 1) := by decide +kernel
theorem dL_law_653 : decode cL_law 653 = .ok (.iadd, 1) := by decide +kernel
theorem dL_law_654 : decode cL_law 654 = .ok (.iaload, 1) := by decide +kernel
theorem dL_law_655 : decode cL_law 655 = .ok (.aload_n 0, 1) := by decide +kernel
theorem dL_law_656 : decode cL_law 656 = .ok (.iload 4, 2) := by decide +kernel
theorem dL_law_658 : decode cL_law 658 = .ok (.iconst 3, 1) := by decide +kernel
theorem dL_law_659 : decode cL_law 659 = .ok (.iadd, 1) := by decide +kernel
theorem dL_law_660 : decode cL_law 660 = .ok (.iaload, 1) := by decide +kernel
theorem dL_law_661 : decode cL_law 661 = .ok (.aload_n 0, 1) := by decide +kernel
theorem dL_law_662 : decode cL_law 662 = .ok (.iload 4, 2) := by decide +kernel
theorem dL_law_664 : decode cL_law 664 = .ok (.iconst 4, 1) := by decide +kernel
theorem dL_law_665 : decode cL_law 665 = .ok (.iadd, 1) := by decide +kernel
theorem dL_law_666 : decode cL_law 666 = .ok (.iaload, 1) := by decide +kernel
theorem dL_law_667 : decode cL_law 667 = .ok (.ifCond .eq 7, 3) := by decide +kernel
theorem dL_law_670 : decode cL_law 670 = .ok (.iconst 1, 1) := by decide +kernel
theorem dL_law_671 : decode cL_law 671 = .ok (.goto 4, 3) := by decide +kernel
theorem dL_law_674 : decode cL_law 674 = .ok (.iconst 0, 1) := by decide +kernel
theorem dL_law_675 : decode cL_law 675 = .ok (.invokevirtual 78, 3) := by decide +kernel
theorem dL_law_678 : decode cL_law 678 = .ok (.pop, 1) := by decide +kernel
theorem dL_law_679 : decode cL_law 679 = .ok (.aload_n 2, 1) := by decide +kernel
theorem dL_law_680 : decode cL_law 680 = .ok (.aload_n 0, 1) := by decide +kernel
theorem dL_law_681 : decode cL_law 681 = .ok (.iload 4, 2) := by decide +kernel
theorem dL_law_683 : decode cL_law 683 = .ok (.iconst 1, 1) := by decide +kernel
theorem dL_law_684 : decode cL_law 684 = .ok (.iadd, 1) := by decide +kernel
theorem dL_law_685 : decode cL_law 685 = .ok (.iaload, 1) := by decide +kernel
theorem dL_law_686 : decode cL_law 686 = .ok (.aload_n 0, 1) := by decide +kernel
theorem dL_law_687 : decode cL_law 687 = .ok (.iload 4, 2) := by decide +kernel
theorem dL_law_689 : decode cL_law 689 = .ok (.iconst 2, 1) := by decide +kernel
theorem dL_law_690 : decode cL_law 690 = .ok (.iadd, 1) := by decide +kernel
theorem dL_law_691 : decode cL_law 691 = .ok (.iaload, 1) := by decide +kernel
theorem dL_law_692 : decode cL_law 692 = .ok (.aload_n 0, 1) := by decide +kernel
theorem dL_law_693 : decode cL_law 693 = .ok (.iload 4, 2) := by decide +kernel
theorem dL_law_695 : decode cL_law 695 = .ok (.iconst 3, 1) := by decide +kernel
theorem dL_law_696 : decode cL_law 696 = .ok (.iadd, 1) := by decide +kernel
theorem dL_law_697 : decode cL_law 697 = .ok (.iaload, 1) := by decide +kernel
theorem dL_law_698 : decode cL_law 698 = .ok (.aload_n 0, 1) := by decide +kernel
theorem dL_law_699 : decode cL_law 699 = .ok (.iload 4, 2) := by decide +kernel
theorem dL_law_701 : decode cL_law 701 = .ok (.iconst 4, 1) := by decide +kernel
theorem dL_law_702 : decode cL_law 702 = .ok (.iadd, 1) := by decide +kernel
theorem dL_law_703 : decode cL_law 703 = .ok (.iaload, 1) := by decide +kernel
theorem dL_law_704 : decode cL_law 704 = .ok (.ifCond .eq 7, 3) := by decide +kernel
theorem dL_law_707 : decode cL_law 707 = .ok (.iconst 1, 1) := by decide +kernel
theorem dL_law_708 : decode cL_law 708 = .ok (.goto 4, 3) := by decide +kernel
theorem dL_law_711 : decode cL_law 711 = .ok (.iconst 0, 1) := by decide +kernel
theorem dL_law_712 : decode cL_law 712 = .ok (.invokevirtual 82, 3) := by decide +kernel
theorem dL_law_715 : decode cL_law 715 = .ok (.pop, 1) := by decide +kernel
theorem dL_law_716 : decode cL_law 716 = .ok (.goto 143, 3) := by decide +kernel
theorem dL_law_719 : decode cL_law 719 = .ok (.aload_n 1, 1) := by decide +kernel
theorem dL_law_720 : decode cL_law 720 = .ok (.invokevirtual 83, 3) := by decide +kernel
theorem dL_law_723 : decode cL_law 723 = .ok (.pop, 1) := by decide +kernel
theorem dL_law_724 : decode cL_law 724 = .ok (.aload_n 2, 1) := by decide +kernel
theorem dL_law_725 : decode cL_law 725 = .ok (.invokevirtual 87, 3) := by decide +kernel
theorem dL_law_728 : decode cL_law 728 = .ok (.pop, 1) := by decide +kernel
theorem dL_law_729 : decode cL_law 729 = .ok (.goto 130, 3) := by decide +kernel
theorem dL_law_732 : decode cL_law 732 = .ok (.aload_n 1, 1) := by decide +kernel
theorem dL_law_733 : decode cL_law 733 = .ok (.aload_n 0, 1) := by decide +kernel
theorem dL_law_734 : decode cL_law 734 = .ok (.iload 4, 2) := by decide +kernel
theorem dL_law_736 : decode cL_law 736 = .ok (.iconst 1, 1) := by decide +kernel
theorem dL_law_737 : decode cL_law 737 = .ok (.iadd, 1) := by decide +kernel
theorem dL_law_738 : decode cL_law 738 = .ok (.iaload, 1) := by decide +kernel
theorem dL_law_739 : decode cL_law 739 = .ok (.aload_n 0, 1) := by decide +kernel
theorem dL_law_740 : decode cL_law 740 = .ok (.iload 4, 2) := by decide +kernel
theorem dL_law_742 : decode cL_law 742 = .ok (.iconst 2, 1) := by decide +kernel
theorem dL_law_743 : decode cL_law 743 = .ok (.iadd, 1) := by decide +kernel
theorem dL_law_744 : decode cL_law 744 = .ok (.iaload, 1) := by decide +kernel
theorem dL_law_745 : decode cL_law 745 = .ok (.aload_n 0, 1) := by decide +kernel
theorem dL_law_746 : decode cL_law 746 = .ok (.iload 4, 2) := by decide +kernel
theorem dL_law_748 : decode cL_law 748 = .ok (.iconst 3, 1) := by decide +kernel
theorem dL_law_749 : decode cL_law 749 = .ok (.iadd, 1) := by decide +kernel
theorem dL_law_750 : decode cL_law 750 = .ok (.iaload, 1) := by decide +kernel
theorem dL_law_751 : decode cL_law 751 = .ok (.invokevirtual 88, 3) := by decide +kernel
theorem dL_law_754 : decode cL_law 754 = .ok (.pop, 1) := by decide +kernel
theorem dL_law_755 : decode cL_law 755 = .ok (.aload_n 2, 1) := by decide +kernel
theorem dL_law_756 : decode cL_law 756 = .ok (.aload_n 0, 1) := by decide +kernel
theorem dL_law_757 : decode cL_law 757 = .ok (.iload 4, 2) := by decide +kernel
theorem dL_law_759 : decode cL_law 759 = .ok (.iconst 1, 1) := by decide +kernel
theorem dL_law_760 : decode cL_law 760 = .ok (.iadd, 1) := by decide +kernel
theorem dL_law_761 : decode cL_law 761 = .ok (.iaload, 1) := by decide +kernel
theorem dL_law_762 : decode cL_law 762 = .ok (.aload_n 0, 1) := by decide +kernel
theorem dL_law_763 : decode cL_law 763 = .ok (.iload 4, 2) := by decide +kernel
theorem dL_law_765 : decode cL_law 765 = .ok (.iconst 2, 1) := by decide +kernel
theorem dL_law_766 : decode cL_law 766 = .ok (.iadd, 1) := by decide +kernel
theorem dL_law_767 : decode cL_law 767 = .ok (.iaload, 1) := by decide +kernel
theorem dL_law_768 : decode cL_law 768 = .ok (.aload_n 0, 1) := by decide +kernel
theorem dL_law_769 : decode cL_law 769 = .ok (.iload 4, 2) := by decide +kernel
theorem dL_law_771 : decode cL_law 771 = .ok (.iconst 3, 1) := by decide +kernel
theorem dL_law_772 : decode cL_law 772 = .ok (.iadd, 1) := by decide +kernel
theorem dL_law_773 : decode cL_law 773 = .ok (.iaload, 1) := by decide +kernel
theorem dL_law_774 : decode cL_law 774 = .ok (.invokevirtual 91, 3) := by decide +kernel
theorem dL_law_777 : decode cL_law 777 = .ok (.pop, 1) := by decide +kernel
theorem dL_law_778 : decode cL_law 778 = .ok (.goto 81, 3) := by decide +kernel
theorem dL_law_781 : decode cL_law 781 = .ok (.aload_n 1, 1) := by decide +kernel
theorem dL_law_782 : decode cL_law 782 = .ok (.aload_n 0, 1) := by decide +kernel
theorem dL_law_783 : decode cL_law 783 = .ok (.iload 4, 2) := by decide +kernel
theorem dL_law_785 : decode cL_law 785 = .ok (.iconst 1, 1) := by decide +kernel
theorem dL_law_786 : decode cL_law 786 = .ok (.iadd, 1) := by decide +kernel
theorem dL_law_787 : decode cL_law 787 = .ok (.iaload, 1) := by decide +kernel
theorem dL_law_788 : decode cL_law 788 = .ok (.invokevirtual 92, 3) := by decide +kernel
theorem dL_law_791 : decode cL_law 791 = .ok (.pop, 1) := by decide +kernel
theorem dL_law_792 : decode cL_law 792 = .ok (.aload_n 2, 1) := by decide +kernel
theorem dL_law_793 : decode cL_law 793 = .ok (.aload_n 0, 1) := by decide +kernel
theorem dL_law_794 : decode cL_law 794 = .ok (.iload 4, 2) := by decide +kernel
theorem dL_law_796 : decode cL_law 796 = .ok (.iconst 1, 1) := by decide +kernel
theorem dL_law_797 : decode cL_law 797 = .ok (.iadd, 1) := by decide +kernel
theorem dL_law_798 : decode cL_law 798 = .ok (.iaload, 1) := by decide +kernel
theorem dL_law_799 : decode cL_law 799 = .ok (.invokevirtual 95, 3) := by decide +kernel
theorem dL_law_802 : decode cL_law 802 = .ok (.pop, 1) := by decide +kernel
theorem dL_law_803 : decode cL_law 803 = .ok (.goto 56, 3) := by decide +kernel
theorem dL_law_806 : decode cL_law 806 = .ok (.aload_n 1, 1) := by decide +kernel
theorem dL_law_807 : decode cL_law 807 = .ok (.aload_n 0, 1) := by decide +kernel
theorem dL_law_808 : decode cL_law 808 = .ok (.iload 4, 2) := by decide +kernel
theorem dL_law_810 : decode cL_law 810 = .ok (.iconst 1, 1) := by decide +kernel
theorem dL_law_811 : decode cL_law 811 = .ok (.iadd, 1) := by decide +kernel
theorem dL_law_812 : decode cL_law 812 = .ok (.iaload, 1) := by decide +kernel
theorem dL_law_813 : decode cL_law 813 = .ok (.aload_n 3, 1) := by decide +kernel
theorem dL_law_814 : decode cL_law 814 = .ok (.invokestatic 96, 3) := by decide +kernel
theorem dL_law_817 : decode cL_law 817 = .ok (.istore 5, 2) := by decide +kernel
theorem dL_law_819 : decode cL_law 819 = .ok (.aload_n 2, 1) := by decide +kernel
theorem dL_law_820 : decode cL_law 820 = .ok (.aload_n 0, 1) := by decide +kernel
theorem dL_law_821 : decode cL_law 821 = .ok (.iload 4, 2) := by decide +kernel
theorem dL_law_823 : decode cL_law 823 = .ok (.iconst 1, 1) := by decide +kernel
theorem dL_law_824 : decode cL_law 824 = .ok (.iadd, 1) := by decide +kernel
theorem dL_law_825 : decode cL_law 825 = .ok (.iaload, 1) := by decide +kernel
theorem dL_law_826 : decode cL_law 826 = .ok (.invokevirtual 99, 3) := by decide +kernel
theorem dL_law_829 : decode cL_law 829 = .ok (.istore 6, 2) := by decide +kernel
theorem dL_law_831 : decode cL_law 831 = .ok (.goto 28, 3) := by decide +kernel
theorem dL_law_834 : decode cL_law 834 = .ok (.aload_n 1, 1) := by decide +kernel
theorem dL_law_835 : decode cL_law 835 = .ok (.aload_n 0, 1) := by decide +kernel
theorem dL_law_836 : decode cL_law 836 = .ok (.iload 4, 2) := by decide +kernel
theorem dL_law_838 : decode cL_law 838 = .ok (.iconst 1, 1) := by decide +kernel
theorem dL_law_839 : decode cL_law 839 = .ok (.iadd, 1) := by decide +kernel
theorem dL_law_840 : decode cL_law 840 = .ok (.iaload, 1) := by decide +kernel
theorem dL_law_841 : decode cL_law 841 = .ok (.invokevirtual 100, 3) := by decide +kernel
theorem dL_law_844 : decode cL_law 844 = .ok (.pop, 1) := by decide +kernel
theorem dL_law_845 : decode cL_law 845 = .ok (.aload_n 2, 1) := by decide +kernel
theorem dL_law_846 : decode cL_law 846 = .ok (.aload_n 0, 1) := by decide +kernel
theorem dL_law_847 : decode cL_law 847 = .ok (.iload 4, 2) := by decide +kernel
theorem dL_law_849 : decode cL_law 849 = .ok (.iconst 1, 1) := by decide +kernel
theorem dL_law_850 : decode cL_law 850 = .ok (.iadd, 1) := by decide +kernel
theorem dL_law_851 : decode cL_law 851 = .ok (.iaload, 1) := by decide +kernel
theorem dL_law_852 : decode cL_law 852 = .ok (.invokevirtual 103, 3) := by decide +kernel
theorem dL_law_855 : decode cL_law 855 = .ok (.pop, 1) := by decide +kernel
theorem dL_law_856 : decode cL_law 856 = .ok (.goto 3, 3) := by decide +kernel
theorem dL_law_859 : decode cL_law 859 = .ok (.iinc 4 6, 3) := by decide +kernel
theorem dL_law_862 : decode cL_law 862 = .ok (.goto (-839), 3) := by decide +kernel
theorem dL_law_865 : decode cL_law 865 = .ok (.iconst 1, 1) := by decide +kernel
theorem dL_law_866 : decode cL_law 866 = .ok (.ireturn, 1) := by decide +kernel
theorem dJ7_fill_53178_0 : decode cJ7_fill_53178 0 = .ok (.iconst 0, 1) := by decide +kernel
theorem dJ7_fill_53178_1 : decode cJ7_fill_53178 1 = .ok (.istore_n 2, 1) := by decide +kernel
theorem dJ7_fill_53178_2 : decode cJ7_fill_53178 2 = .ok (.aload_n 0, 1) := by decide +kernel
theorem dJ7_fill_53178_3 : decode cJ7_fill_53178 3 = .ok (.arraylength, 1) := by decide +kernel
theorem dJ7_fill_53178_4 : decode cJ7_fill_53178 4 = .ok (.istore_n 3, 1) := by decide +kernel
theorem dJ7_fill_53178_5 : decode cJ7_fill_53178 5 = .ok (.iload_n 2, 1) := by decide +kernel
theorem dJ7_fill_53178_6 : decode cJ7_fill_53178 6 = .ok (.iload_n 3, 1) := by decide +kernel
theorem dJ7_fill_53178_7 : decode cJ7_fill_53178 7 = .ok (.if_icmp .ge 13, 3) := by decide +kernel
theorem dJ7_fill_53178_10 : decode cJ7_fill_53178 10 = .ok (.aload_n 0, 1) := by decide +kernel
theorem dJ7_fill_53178_11 : decode cJ7_fill_53178 11 = .ok (.iload_n 2, 1) := by decide +kernel
theorem dJ7_fill_53178_12 : decode cJ7_fill_53178 12 = .ok (.iload_n 1, 1) := by decide +kernel
theorem dJ7_fill_53178_13 : decode cJ7_fill_53178 13 = .ok (.iastore, 1) := by decide +kernel
theorem dJ7_fill_53178_14 : decode cJ7_fill_53178 14 = .ok (.iinc 2 1, 3) := by decide +kernel
theorem dJ7_fill_53178_17 : decode cJ7_fill_53178 17 = .ok (.goto (-12), 3) := by decide +kernel
theorem dJ7_fill_53178_20 : decode cJ7_fill_53178 20 = .ok (.return_, 1) := by decide +kernel
