theorem aX0_init : am_m nX0_init = mX0_init := rfl
theorem eX0_init_0 : (0, Instr.aload_n 0, 1, 0, 0, 0) ∈ kX0_init := List.mem_of_getElem? (i := 0) rfl
theorem eX0_init_1 : (1, Instr.invokespecial 3, 3, 999, 0, 67) ∈ kX0_init := List.mem_of_getElem? (i := 1) rfl
theorem eX0_init_4 : (4, Instr.aload_n 0, 1, 0, 0, 0) ∈ kX0_init := List.mem_of_getElem? (i := 2) rfl
theorem eX0_init_5 : (5, Instr.iconst 5, 1, 0, 0, 0) ∈ kX0_init := List.mem_of_getElem? (i := 3) rfl
theorem eX0_init_6 : (6, Instr.anewarray 9, 3, 10, 0, 68) ∈ kX0_init := List.mem_of_getElem? (i := 4) rfl
theorem eX0_init_9 : (9, Instr.putfield 11, 3, 0, 0, 69) ∈ kX0_init := List.mem_of_getElem? (i := 5) rfl
theorem eX0_init_12 : (12, Instr.aload_n 0, 1, 0, 0, 0) ∈ kX0_init := List.mem_of_getElem? (i := 6) rfl
theorem eX0_init_13 : (13, Instr.bipush 32, 2, 0, 0, 0) ∈ kX0_init := List.mem_of_getElem? (i := 7) rfl
theorem eX0_init_15 : (15, Instr.newarray .int, 2, 7, 0, 0) ∈ kX0_init := List.mem_of_getElem? (i := 8) rfl
theorem eX0_init_17 : (17, Instr.putfield 17, 3, 0, 1, 70) ∈ kX0_init := List.mem_of_getElem? (i := 9) rfl
theorem eX0_init_20 : (20, Instr.return_, 1, 0, 0, 0) ∈ kX0_init := List.mem_of_getElem? (i := 10) rfl
theorem aX0_clear : am_m nX0_clear = mX0_clear := rfl
theorem eX0_clear_0 : (0, Instr.aload_n 0, 1, 0, 0, 0) ∈ kX0_clear := List.mem_of_getElem? (i := 0) rfl
theorem eX0_clear_1 : (1, Instr.iconst 0, 1, 0, 0, 0) ∈ kX0_clear := List.mem_of_getElem? (i := 1) rfl
theorem eX0_clear_2 : (2, Instr.putfield 21, 3, 0, 2, 71) ∈ kX0_clear := List.mem_of_getElem? (i := 2) rfl
theorem eX0_clear_5 : (5, Instr.aload_n 0, 1, 0, 0, 0) ∈ kX0_clear := List.mem_of_getElem? (i := 3) rfl
theorem eX0_clear_6 : (6, Instr.getfield 17, 3, 0, 1, 70) ∈ kX0_clear := List.mem_of_getElem? (i := 4) rfl
theorem eX0_clear_9 : (9, Instr.iconst 0, 1, 0, 0, 0) ∈ kX0_clear := List.mem_of_getElem? (i := 5) rfl
theorem eX0_clear_10 : (10, Instr.iconst 0, 1, 0, 0, 0) ∈ kX0_clear := List.mem_of_getElem? (i := 6) rfl
theorem eX0_clear_11 : (11, Instr.iastore, 1, 0, 0, 0) ∈ kX0_clear := List.mem_of_getElem? (i := 7) rfl
theorem eX0_clear_12 : (12, Instr.iconst 1, 1, 0, 0, 0) ∈ kX0_clear := List.mem_of_getElem? (i := 8) rfl
theorem eX0_clear_13 : (13, Instr.istore_n 1, 1, 0, 0, 0) ∈ kX0_clear := List.mem_of_getElem? (i := 9) rfl
theorem eX0_clear_14 : (14, Instr.iload_n 1, 1, 0, 0, 0) ∈ kX0_clear := List.mem_of_getElem? (i := 10) rfl
theorem eX0_clear_15 : (15, Instr.aload_n 0, 1, 0, 0, 0) ∈ kX0_clear := List.mem_of_getElem? (i := 11) rfl
theorem eX0_clear_16 : (16, Instr.getfield 17, 3, 0, 1, 70) ∈ kX0_clear := List.mem_of_getElem? (i := 12) rfl
theorem eX0_clear_19 : (19, Instr.arraylength, 1, 0, 0, 0) ∈ kX0_clear := List.mem_of_getElem? (i := 13) rfl
theorem eX0_clear_20 : (20, Instr.if_icmp .ge 17, 3, 37, 0, 0) ∈ kX0_clear := List.mem_of_getElem? (i := 14) rfl
theorem eX0_clear_23 : (23, Instr.aload_n 0, 1, 0, 0, 0) ∈ kX0_clear := List.mem_of_getElem? (i := 15) rfl
theorem eX0_clear_24 : (24, Instr.getfield 17, 3, 0, 1, 70) ∈ kX0_clear := List.mem_of_getElem? (i := 16) rfl
theorem eX0_clear_27 : (27, Instr.iload_n 1, 1, 0, 0, 0) ∈ kX0_clear := List.mem_of_getElem? (i := 17) rfl
theorem eX0_clear_28 : (28, Instr.ldc 25, 2, 1000000, 0, 486) ∈ kX0_clear := List.mem_of_getElem? (i := 18) rfl
theorem eX0_clear_30 : (30, Instr.iastore, 1, 0, 0, 0) ∈ kX0_clear := List.mem_of_getElem? (i := 19) rfl
theorem eX0_clear_31 : (31, Instr.iinc 1 1, 3, 0, 0, 0) ∈ kX0_clear := List.mem_of_getElem? (i := 20) rfl
theorem eX0_clear_34 : (34, Instr.goto (-20), 3, 14, 0, 0) ∈ kX0_clear := List.mem_of_getElem? (i := 21) rfl
theorem eX0_clear_37 : (37, Instr.return_, 1, 0, 0, 0) ∈ kX0_clear := List.mem_of_getElem? (i := 22) rfl
theorem aX0_add : am_m nX0_add = mX0_add := rfl
theorem eX0_add_0 : (0, Instr.aload_n 0, 1, 0, 0, 0) ∈ kX0_add := List.mem_of_getElem? (i := 0) rfl
theorem eX0_add_1 : (1, Instr.getfield 21, 3, 0, 2, 71) ∈ kX0_add := List.mem_of_getElem? (i := 1) rfl
theorem eX0_add_4 : (4, Instr.iconst 5, 1, 0, 0, 0) ∈ kX0_add := List.mem_of_getElem? (i := 2) rfl
theorem eX0_add_5 : (5, Instr.if_icmp .lt 5, 3, 10, 0, 0) ∈ kX0_add := List.mem_of_getElem? (i := 3) rfl
theorem eX0_add_8 : (8, Instr.iconst 0, 1, 0, 0, 0) ∈ kX0_add := List.mem_of_getElem? (i := 4) rfl
theorem eX0_add_9 : (9, Instr.ireturn, 1, 1, 0, 0) ∈ kX0_add := List.mem_of_getElem? (i := 5) rfl
theorem eX0_add_10 : (10, Instr.aload_n 0, 1, 0, 0, 0) ∈ kX0_add := List.mem_of_getElem? (i := 6) rfl
theorem eX0_add_11 : (11, Instr.getfield 11, 3, 0, 0, 69) ∈ kX0_add := List.mem_of_getElem? (i := 7) rfl
theorem eX0_add_14 : (14, Instr.aload_n 0, 1, 0, 0, 0) ∈ kX0_add := List.mem_of_getElem? (i := 8) rfl
theorem eX0_add_15 : (15, Instr.getfield 21, 3, 0, 2, 71) ∈ kX0_add := List.mem_of_getElem? (i := 9) rfl
theorem eX0_add_18 : (18, Instr.aload_n 1, 1, 0, 0, 0) ∈ kX0_add := List.mem_of_getElem? (i := 10) rfl
theorem eX0_add_19 : (19, Instr.aastore, 1, 0, 0, 0) ∈ kX0_add := List.mem_of_getElem? (i := 11) rfl
theorem eX0_add_20 : (20, Instr.aload_n 0, 1, 0, 0, 0) ∈ kX0_add := List.mem_of_getElem? (i := 12) rfl
theorem eX0_add_21 : (21, Instr.dup, 1, 0, 0, 0) ∈ kX0_add := List.mem_of_getElem? (i := 13) rfl
theorem eX0_add_22 : (22, Instr.getfield 21, 3, 0, 2, 71) ∈ kX0_add := List.mem_of_getElem? (i := 14) rfl
theorem eX0_add_25 : (25, Instr.iconst 1, 1, 0, 0, 0) ∈ kX0_add := List.mem_of_getElem? (i := 15) rfl
theorem eX0_add_26 : (26, Instr.iadd, 1, 0, 0, 0) ∈ kX0_add := List.mem_of_getElem? (i := 16) rfl
theorem eX0_add_27 : (27, Instr.putfield 21, 3, 0, 2, 71) ∈ kX0_add := List.mem_of_getElem? (i := 17) rfl
theorem eX0_add_30 : (30, Instr.iconst 1, 1, 0, 0, 0) ∈ kX0_add := List.mem_of_getElem? (i := 18) rfl
theorem eX0_add_31 : (31, Instr.ireturn, 1, 1, 0, 0) ∈ kX0_add := List.mem_of_getElem? (i := 19) rfl
theorem aX0_offer : am_m nX0_offer = mX0_offer := rfl
theorem eX0_offer_0 : (0, Instr.aload_n 0, 1, 0, 0, 0) ∈ kX0_offer := List.mem_of_getElem? (i := 0) rfl
theorem eX0_offer_1 : (1, Instr.invokevirtual 26, 3, 5, 0, 495) ∈ kX0_offer := List.mem_of_getElem? (i := 1) rfl
theorem eX0_offer_4 : (4, Instr.istore_n 3, 1, 0, 0, 0) ∈ kX0_offer := List.mem_of_getElem? (i := 2) rfl
theorem eX0_offer_5 : (5, Instr.iload_n 3, 1, 0, 0, 0) ∈ kX0_offer := List.mem_of_getElem? (i := 3) rfl
theorem eX0_offer_6 : (6, Instr.ifCond .le 70, 3, 76, 0, 0) ∈ kX0_offer := List.mem_of_getElem? (i := 4) rfl
theorem eX0_offer_9 : (9, Instr.iconst 1, 1, 0, 0, 0) ∈ kX0_offer := List.mem_of_getElem? (i := 5) rfl
theorem eX0_offer_10 : (10, Instr.istore 4, 2, 0, 0, 0) ∈ kX0_offer := List.mem_of_getElem? (i := 6) rfl
theorem eX0_offer_12 : (12, Instr.iload 4, 2, 0, 0, 0) ∈ kX0_offer := List.mem_of_getElem? (i := 7) rfl
theorem eX0_offer_14 : (14, Instr.iload_n 3, 1, 0, 0, 0) ∈ kX0_offer := List.mem_of_getElem? (i := 8) rfl
theorem eX0_offer_15 : (15, Instr.if_icmp .gt 55, 3, 70, 0, 0) ∈ kX0_offer := List.mem_of_getElem? (i := 9) rfl
theorem eX0_offer_18 : (18, Instr.iload 4, 2, 0, 0, 0) ∈ kX0_offer := List.mem_of_getElem? (i := 10) rfl
theorem eX0_offer_20 : (20, Instr.iload_n 3, 1, 0, 0, 0) ∈ kX0_offer := List.mem_of_getElem? (i := 11) rfl
theorem eX0_offer_21 : (21, Instr.iand, 1, 0, 0, 0) ∈ kX0_offer := List.mem_of_getElem? (i := 12) rfl
theorem eX0_offer_22 : (22, Instr.iload 4, 2, 0, 0, 0) ∈ kX0_offer := List.mem_of_getElem? (i := 13) rfl
theorem eX0_offer_24 : (24, Instr.if_icmp .ne 40, 3, 64, 0, 0) ∈ kX0_offer := List.mem_of_getElem? (i := 14) rfl
theorem eX0_offer_27 : (27, Instr.aload_n 0, 1, 0, 0, 0) ∈ kX0_offer := List.mem_of_getElem? (i := 15) rfl
theorem eX0_offer_28 : (28, Instr.getfield 17, 3, 0, 1, 70) ∈ kX0_offer := List.mem_of_getElem? (i := 16) rfl
theorem eX0_offer_31 : (31, Instr.iload_n 3, 1, 0, 0, 0) ∈ kX0_offer := List.mem_of_getElem? (i := 17) rfl
theorem eX0_offer_32 : (32, Instr.iload 4, 2, 0, 0, 0) ∈ kX0_offer := List.mem_of_getElem? (i := 18) rfl
theorem eX0_offer_34 : (34, Instr.isub, 1, 0, 0, 0) ∈ kX0_offer := List.mem_of_getElem? (i := 19) rfl
theorem eX0_offer_35 : (35, Instr.iaload, 1, 0, 0, 0) ∈ kX0_offer := List.mem_of_getElem? (i := 20) rfl
theorem eX0_offer_36 : (36, Instr.aload_n 0, 1, 0, 0, 0) ∈ kX0_offer := List.mem_of_getElem? (i := 21) rfl
theorem eX0_offer_37 : (37, Instr.iload 4, 2, 0, 0, 0) ∈ kX0_offer := List.mem_of_getElem? (i := 22) rfl
theorem eX0_offer_39 : (39, Instr.aload_n 1, 1, 0, 0, 0) ∈ kX0_offer := List.mem_of_getElem? (i := 23) rfl
theorem eX0_offer_40 : (40, Instr.iload_n 2, 1, 0, 0, 0) ∈ kX0_offer := List.mem_of_getElem? (i := 24) rfl
theorem eX0_offer_41 : (41, Instr.invokevirtual 30, 3, 6, 3, 499) ∈ kX0_offer := List.mem_of_getElem? (i := 25) rfl
theorem eX0_offer_44 : (44, Instr.iadd, 1, 0, 0, 0) ∈ kX0_offer := List.mem_of_getElem? (i := 26) rfl
theorem eX0_offer_45 : (45, Instr.istore 5, 2, 0, 0, 0) ∈ kX0_offer := List.mem_of_getElem? (i := 27) rfl
theorem eX0_offer_47 : (47, Instr.aload_n 0, 1, 0, 0, 0) ∈ kX0_offer := List.mem_of_getElem? (i := 28) rfl
theorem eX0_offer_48 : (48, Instr.getfield 17, 3, 0, 1, 70) ∈ kX0_offer := List.mem_of_getElem? (i := 29) rfl
theorem eX0_offer_51 : (51, Instr.iload_n 3, 1, 0, 0, 0) ∈ kX0_offer := List.mem_of_getElem? (i := 30) rfl
theorem eX0_offer_52 : (52, Instr.aload_n 0, 1, 0, 0, 0) ∈ kX0_offer := List.mem_of_getElem? (i := 31) rfl
theorem eX0_offer_53 : (53, Instr.getfield 17, 3, 0, 1, 70) ∈ kX0_offer := List.mem_of_getElem? (i := 32) rfl
theorem eX0_offer_56 : (56, Instr.iload_n 3, 1, 0, 0, 0) ∈ kX0_offer := List.mem_of_getElem? (i := 33) rfl
theorem eX0_offer_57 : (57, Instr.iaload, 1, 0, 0, 0) ∈ kX0_offer := List.mem_of_getElem? (i := 34) rfl
theorem eX0_offer_58 : (58, Instr.iload 5, 2, 0, 0, 0) ∈ kX0_offer := List.mem_of_getElem? (i := 35) rfl
theorem eX0_offer_60 : (60, Instr.invokestatic 34, 3, 121, 2, 505) ∈ kX0_offer := List.mem_of_getElem? (i := 36) rfl
theorem eX0_offer_63 : (63, Instr.iastore, 1, 0, 0, 0) ∈ kX0_offer := List.mem_of_getElem? (i := 37) rfl
theorem eX0_offer_64 : (64, Instr.iinc 4 1, 3, 0, 0, 0) ∈ kX0_offer := List.mem_of_getElem? (i := 38) rfl
theorem eX0_offer_67 : (67, Instr.goto (-55), 3, 12, 0, 0) ∈ kX0_offer := List.mem_of_getElem? (i := 39) rfl
theorem eX0_offer_70 : (70, Instr.iinc 3 (-1), 3, 0, 0, 0) ∈ kX0_offer := List.mem_of_getElem? (i := 40) rfl
theorem eX0_offer_73 : (73, Instr.goto (-68), 3, 5, 0, 0) ∈ kX0_offer := List.mem_of_getElem? (i := 41) rfl
theorem eX0_offer_76 : (76, Instr.return_, 1, 0, 0, 0) ∈ kX0_offer := List.mem_of_getElem? (i := 42) rfl
theorem aX0_leastSum : am_m nX0_leastSum = mX0_leastSum := rfl
theorem eX0_leastSum_0 : (0, Instr.aload_n 0, 1, 0, 0, 0) ∈ kX0_leastSum := List.mem_of_getElem? (i := 0) rfl
theorem eX0_leastSum_1 : (1, Instr.getfield 17, 3, 0, 1, 70) ∈ kX0_leastSum := List.mem_of_getElem? (i := 1) rfl
theorem eX0_leastSum_4 : (4, Instr.aload_n 0, 1, 0, 0, 0) ∈ kX0_leastSum := List.mem_of_getElem? (i := 2) rfl
theorem eX0_leastSum_5 : (5, Instr.invokevirtual 26, 3, 5, 0, 495) ∈ kX0_leastSum := List.mem_of_getElem? (i := 3) rfl
theorem eX0_leastSum_8 : (8, Instr.iaload, 1, 0, 0, 0) ∈ kX0_leastSum := List.mem_of_getElem? (i := 4) rfl
theorem eX0_leastSum_9 : (9, Instr.ireturn, 1, 0, 0, 0) ∈ kX0_leastSum := List.mem_of_getElem? (i := 5) rfl
theorem aX0_fullSet : am_m nX0_fullSet = mX0_fullSet := rfl
theorem eX0_fullSet_0 : (0, Instr.iconst 1, 1, 0, 0, 0) ∈ kX0_fullSet := List.mem_of_getElem? (i := 0) rfl
theorem eX0_fullSet_1 : (1, Instr.aload_n 0, 1, 0, 0, 0) ∈ kX0_fullSet := List.mem_of_getElem? (i := 1) rfl
theorem eX0_fullSet_2 : (2, Instr.getfield 21, 3, 0, 2, 71) ∈ kX0_fullSet := List.mem_of_getElem? (i := 2) rfl
theorem eX0_fullSet_5 : (5, Instr.ishl, 1, 0, 0, 0) ∈ kX0_fullSet := List.mem_of_getElem? (i := 3) rfl
theorem eX0_fullSet_6 : (6, Instr.iconst 1, 1, 0, 0, 0) ∈ kX0_fullSet := List.mem_of_getElem? (i := 4) rfl
theorem eX0_fullSet_7 : (7, Instr.isub, 1, 0, 0, 0) ∈ kX0_fullSet := List.mem_of_getElem? (i := 5) rfl
theorem eX0_fullSet_8 : (8, Instr.ireturn, 1, 0, 0, 0) ∈ kX0_fullSet := List.mem_of_getElem? (i := 6) rfl
theorem aX0_partSum : am_m nX0_partSum = mX0_partSum := rfl
theorem eX0_partSum_0 : (0, Instr.iconst 0, 1, 0, 0, 0) ∈ kX0_partSum := List.mem_of_getElem? (i := 0) rfl
theorem eX0_partSum_1 : (1, Instr.istore 4, 2, 0, 0, 0) ∈ kX0_partSum := List.mem_of_getElem? (i := 1) rfl
theorem eX0_partSum_3 : (3, Instr.aload_n 2, 1, 0, 0, 0) ∈ kX0_partSum := List.mem_of_getElem? (i := 2) rfl
theorem eX0_partSum_4 : (4, Instr.getfield 40, 3, 3, 1, 195) ∈ kX0_partSum := List.mem_of_getElem? (i := 3) rfl
theorem eX0_partSum_7 : (7, Instr.istore 5, 2, 0, 0, 0) ∈ kX0_partSum := List.mem_of_getElem? (i := 4) rfl
theorem eX0_partSum_9 : (9, Instr.iconst 0, 1, 0, 0, 0) ∈ kX0_partSum := List.mem_of_getElem? (i := 5) rfl
theorem eX0_partSum_10 : (10, Instr.istore 6, 2, 0, 0, 0) ∈ kX0_partSum := List.mem_of_getElem? (i := 6) rfl
theorem eX0_partSum_12 : (12, Instr.iload 6, 2, 0, 0, 0) ∈ kX0_partSum := List.mem_of_getElem? (i := 7) rfl
theorem eX0_partSum_14 : (14, Instr.aload_n 0, 1, 0, 0, 0) ∈ kX0_partSum := List.mem_of_getElem? (i := 8) rfl
theorem eX0_partSum_15 : (15, Instr.getfield 21, 3, 0, 2, 71) ∈ kX0_partSum := List.mem_of_getElem? (i := 9) rfl
theorem eX0_partSum_18 : (18, Instr.if_icmp .ge 74, 3, 92, 0, 0) ∈ kX0_partSum := List.mem_of_getElem? (i := 10) rfl
theorem eX0_partSum_21 : (21, Instr.aload_n 0, 1, 0, 0, 0) ∈ kX0_partSum := List.mem_of_getElem? (i := 11) rfl
theorem eX0_partSum_22 : (22, Instr.getfield 11, 3, 0, 0, 69) ∈ kX0_partSum := List.mem_of_getElem? (i := 12) rfl
theorem eX0_partSum_25 : (25, Instr.iload 6, 2, 0, 0, 0) ∈ kX0_partSum := List.mem_of_getElem? (i := 13) rfl
theorem eX0_partSum_27 : (27, Instr.aaload, 1, 0, 0, 0) ∈ kX0_partSum := List.mem_of_getElem? (i := 14) rfl
theorem eX0_partSum_28 : (28, Instr.astore 7, 2, 0, 0, 0) ∈ kX0_partSum := List.mem_of_getElem? (i := 15) rfl
theorem eX0_partSum_30 : (30, Instr.iload_n 1, 1, 0, 0, 0) ∈ kX0_partSum := List.mem_of_getElem? (i := 16) rfl
theorem eX0_partSum_31 : (31, Instr.iload 6, 2, 0, 0, 0) ∈ kX0_partSum := List.mem_of_getElem? (i := 17) rfl
theorem eX0_partSum_33 : (33, Instr.ishr, 1, 0, 0, 0) ∈ kX0_partSum := List.mem_of_getElem? (i := 18) rfl
theorem eX0_partSum_34 : (34, Instr.iconst 1, 1, 0, 0, 0) ∈ kX0_partSum := List.mem_of_getElem? (i := 19) rfl
theorem eX0_partSum_35 : (35, Instr.iand, 1, 0, 0, 0) ∈ kX0_partSum := List.mem_of_getElem? (i := 20) rfl
theorem eX0_partSum_36 : (36, Instr.ifCond .eq 50, 3, 86, 0, 0) ∈ kX0_partSum := List.mem_of_getElem? (i := 21) rfl
theorem eX0_partSum_39 : (39, Instr.aload 7, 2, 0, 0, 0) ∈ kX0_partSum := List.mem_of_getElem? (i := 22) rfl
theorem eX0_partSum_41 : (41, Instr.ifnonnull 6, 3, 47, 0, 0) ∈ kX0_partSum := List.mem_of_getElem? (i := 23) rfl
theorem eX0_partSum_44 : (44, Instr.goto 42, 3, 86, 0, 0) ∈ kX0_partSum := List.mem_of_getElem? (i := 24) rfl
theorem eX0_partSum_47 : (47, Instr.iload 5, 2, 0, 0, 0) ∈ kX0_partSum := List.mem_of_getElem? (i := 25) rfl
theorem eX0_partSum_49 : (49, Instr.aload 7, 2, 0, 0, 0) ∈ kX0_partSum := List.mem_of_getElem? (i := 26) rfl
theorem eX0_partSum_51 : (51, Instr.getfield 45, 3, 4, 0, 245) ∈ kX0_partSum := List.mem_of_getElem? (i := 27) rfl
theorem eX0_partSum_54 : (54, Instr.isub, 1, 0, 0, 0) ∈ kX0_partSum := List.mem_of_getElem? (i := 28) rfl
theorem eX0_partSum_55 : (55, Instr.istore 5, 2, 0, 0, 0) ∈ kX0_partSum := List.mem_of_getElem? (i := 29) rfl
theorem eX0_partSum_57 : (57, Instr.iload 5, 2, 0, 0, 0) ∈ kX0_partSum := List.mem_of_getElem? (i := 30) rfl
theorem eX0_partSum_59 : (59, Instr.ifCond .lt 12, 3, 71, 0, 0) ∈ kX0_partSum := List.mem_of_getElem? (i := 31) rfl
theorem eX0_partSum_62 : (62, Instr.aload_n 2, 1, 0, 0, 0) ∈ kX0_partSum := List.mem_of_getElem? (i := 32) rfl
theorem eX0_partSum_63 : (63, Instr.aload 7, 2, 0, 0, 0) ∈ kX0_partSum := List.mem_of_getElem? (i := 33) rfl
theorem eX0_partSum_65 : (65, Instr.invokevirtual 46, 3, 13, 1, 503) ∈ kX0_partSum := List.mem_of_getElem? (i := 34) rfl
theorem eX0_partSum_68 : (68, Instr.ifCond .ne 6, 3, 74, 0, 0) ∈ kX0_partSum := List.mem_of_getElem? (i := 35) rfl
theorem eX0_partSum_71 : (71, Instr.ldc 25, 2, 1000000, 0, 486) ∈ kX0_partSum := List.mem_of_getElem? (i := 36) rfl
theorem eX0_partSum_73 : (73, Instr.ireturn, 1, 0, 0, 0) ∈ kX0_partSum := List.mem_of_getElem? (i := 37) rfl
theorem eX0_partSum_74 : (74, Instr.iload 4, 2, 0, 0, 0) ∈ kX0_partSum := List.mem_of_getElem? (i := 38) rfl
theorem eX0_partSum_76 : (76, Instr.aload 7, 2, 0, 0, 0) ∈ kX0_partSum := List.mem_of_getElem? (i := 39) rfl
theorem eX0_partSum_78 : (78, Instr.aload_n 2, 1, 0, 0, 0) ∈ kX0_partSum := List.mem_of_getElem? (i := 40) rfl
theorem eX0_partSum_79 : (79, Instr.iload_n 3, 1, 0, 0, 0) ∈ kX0_partSum := List.mem_of_getElem? (i := 41) rfl
theorem eX0_partSum_80 : (80, Instr.invokevirtual 50, 3, 21, 2, 504) ∈ kX0_partSum := List.mem_of_getElem? (i := 42) rfl
theorem eX0_partSum_83 : (83, Instr.iadd, 1, 0, 0, 0) ∈ kX0_partSum := List.mem_of_getElem? (i := 43) rfl
theorem eX0_partSum_84 : (84, Instr.istore 4, 2, 0, 0, 0) ∈ kX0_partSum := List.mem_of_getElem? (i := 44) rfl
theorem eX0_partSum_86 : (86, Instr.iinc 6 1, 3, 0, 0, 0) ∈ kX0_partSum := List.mem_of_getElem? (i := 45) rfl
theorem eX0_partSum_89 : (89, Instr.goto (-77), 3, 12, 0, 0) ∈ kX0_partSum := List.mem_of_getElem? (i := 46) rfl
theorem eX0_partSum_92 : (92, Instr.iload 4, 2, 0, 0, 0) ∈ kX0_partSum := List.mem_of_getElem? (i := 47) rfl
theorem eX0_partSum_94 : (94, Instr.ireturn, 1, 0, 0, 0) ∈ kX0_partSum := List.mem_of_getElem? (i := 48) rfl
theorem aX1_init : am_m nX1_init = mX1_init := rfl
theorem eX1_init_0 : (0, Instr.aload_n 0, 1, 0, 0, 0) ∈ kX1_init := List.mem_of_getElem? (i := 0) rfl
theorem eX1_init_1 : (1, Instr.invokespecial 3, 3, 999, 0, 390) ∈ kX1_init := List.mem_of_getElem? (i := 1) rfl
theorem eX1_init_4 : (4, Instr.aload_n 0, 1, 0, 0, 0) ∈ kX1_init := List.mem_of_getElem? (i := 2) rfl
theorem eX1_init_5 : (5, Instr.iconst 4, 1, 0, 0, 0) ∈ kX1_init := List.mem_of_getElem? (i := 3) rfl
theorem eX1_init_6 : (6, Instr.newarray .int, 2, 7, 0, 0) ∈ kX1_init := List.mem_of_getElem? (i := 4) rfl
theorem eX1_init_8 : (8, Instr.putfield 9, 3, 1, 0, 391) ∈ kX1_init := List.mem_of_getElem? (i := 5) rfl
theorem eX1_init_11 : (11, Instr.iconst 0, 1, 0, 0, 0) ∈ kX1_init := List.mem_of_getElem? (i := 6) rfl
theorem eX1_init_12 : (12, Instr.istore_n 1, 1, 0, 0, 0) ∈ kX1_init := List.mem_of_getElem? (i := 7) rfl
theorem eX1_init_13 : (13, Instr.iload_n 1, 1, 0, 0, 0) ∈ kX1_init := List.mem_of_getElem? (i := 8) rfl
theorem eX1_init_14 : (14, Instr.iconst 4, 1, 0, 0, 0) ∈ kX1_init := List.mem_of_getElem? (i := 9) rfl
theorem eX1_init_15 : (15, Instr.if_icmp .ge 16, 3, 31, 0, 0) ∈ kX1_init := List.mem_of_getElem? (i := 10) rfl
theorem eX1_init_18 : (18, Instr.aload_n 0, 1, 0, 0, 0) ∈ kX1_init := List.mem_of_getElem? (i := 11) rfl
theorem eX1_init_19 : (19, Instr.getfield 9, 3, 1, 0, 391) ∈ kX1_init := List.mem_of_getElem? (i := 12) rfl
theorem eX1_init_22 : (22, Instr.iload_n 1, 1, 0, 0, 0) ∈ kX1_init := List.mem_of_getElem? (i := 13) rfl
theorem eX1_init_23 : (23, Instr.iconst (-1), 1, 0, 0, 0) ∈ kX1_init := List.mem_of_getElem? (i := 14) rfl
theorem eX1_init_24 : (24, Instr.iastore, 1, 0, 0, 0) ∈ kX1_init := List.mem_of_getElem? (i := 15) rfl
theorem eX1_init_25 : (25, Instr.iinc 1 1, 3, 0, 0, 0) ∈ kX1_init := List.mem_of_getElem? (i := 16) rfl
theorem eX1_init_28 : (28, Instr.goto (-15), 3, 13, 0, 0) ∈ kX1_init := List.mem_of_getElem? (i := 17) rfl
theorem eX1_init_31 : (31, Instr.aload_n 0, 1, 0, 0, 0) ∈ kX1_init := List.mem_of_getElem? (i := 18) rfl
theorem eX1_init_32 : (32, Instr.iconst (-1), 1, 0, 0, 0) ∈ kX1_init := List.mem_of_getElem? (i := 19) rfl
theorem eX1_init_33 : (33, Instr.putfield 15, 3, 1, 2, 394) ∈ kX1_init := List.mem_of_getElem? (i := 20) rfl
theorem eX1_init_36 : (36, Instr.return_, 1, 0, 0, 0) ∈ kX1_init := List.mem_of_getElem? (i := 21) rfl
theorem aX1_toldCount : am_m nX1_toldCount = mX1_toldCount := rfl
theorem eX1_toldCount_0 : (0, Instr.iconst 0, 1, 0, 0, 0) ∈ kX1_toldCount := List.mem_of_getElem? (i := 0) rfl
theorem eX1_toldCount_1 : (1, Instr.istore_n 1, 1, 0, 0, 0) ∈ kX1_toldCount := List.mem_of_getElem? (i := 1) rfl
theorem eX1_toldCount_2 : (2, Instr.iconst 0, 1, 0, 0, 0) ∈ kX1_toldCount := List.mem_of_getElem? (i := 2) rfl
theorem eX1_toldCount_3 : (3, Instr.istore_n 2, 1, 0, 0, 0) ∈ kX1_toldCount := List.mem_of_getElem? (i := 3) rfl
theorem eX1_toldCount_4 : (4, Instr.iload_n 2, 1, 0, 0, 0) ∈ kX1_toldCount := List.mem_of_getElem? (i := 4) rfl
theorem eX1_toldCount_5 : (5, Instr.iconst 4, 1, 0, 0, 0) ∈ kX1_toldCount := List.mem_of_getElem? (i := 5) rfl
theorem eX1_toldCount_6 : (6, Instr.if_icmp .ge 22, 3, 28, 0, 0) ∈ kX1_toldCount := List.mem_of_getElem? (i := 6) rfl
theorem eX1_toldCount_9 : (9, Instr.aload_n 0, 1, 0, 0, 0) ∈ kX1_toldCount := List.mem_of_getElem? (i := 7) rfl
theorem eX1_toldCount_10 : (10, Instr.getfield 9, 3, 1, 0, 391) ∈ kX1_toldCount := List.mem_of_getElem? (i := 8) rfl
theorem eX1_toldCount_13 : (13, Instr.iload_n 2, 1, 0, 0, 0) ∈ kX1_toldCount := List.mem_of_getElem? (i := 9) rfl
theorem eX1_toldCount_14 : (14, Instr.iaload, 1, 0, 0, 0) ∈ kX1_toldCount := List.mem_of_getElem? (i := 10) rfl
theorem eX1_toldCount_15 : (15, Instr.iconst (-1), 1, 0, 0, 0) ∈ kX1_toldCount := List.mem_of_getElem? (i := 11) rfl
theorem eX1_toldCount_16 : (16, Instr.if_icmp .eq 6, 3, 22, 0, 0) ∈ kX1_toldCount := List.mem_of_getElem? (i := 12) rfl
theorem eX1_toldCount_19 : (19, Instr.iinc 1 1, 3, 0, 0, 0) ∈ kX1_toldCount := List.mem_of_getElem? (i := 13) rfl
theorem eX1_toldCount_22 : (22, Instr.iinc 2 1, 3, 0, 0, 0) ∈ kX1_toldCount := List.mem_of_getElem? (i := 14) rfl
theorem eX1_toldCount_25 : (25, Instr.goto (-21), 3, 4, 0, 0) ∈ kX1_toldCount := List.mem_of_getElem? (i := 15) rfl
theorem eX1_toldCount_28 : (28, Instr.iload_n 1, 1, 0, 0, 0) ∈ kX1_toldCount := List.mem_of_getElem? (i := 16) rfl
theorem eX1_toldCount_29 : (29, Instr.ireturn, 1, 0, 0, 0) ∈ kX1_toldCount := List.mem_of_getElem? (i := 17) rfl
theorem aX1_isAbout : am_m nX1_isAbout = mX1_isAbout := rfl
theorem eX1_isAbout_0 : (0, Instr.aload_n 1, 1, 0, 0, 0) ∈ kX1_isAbout := List.mem_of_getElem? (i := 0) rfl
theorem eX1_isAbout_1 : (1, Instr.getfield 19, 3, 4, 7, 263) ∈ kX1_isAbout := List.mem_of_getElem? (i := 1) rfl
theorem eX1_isAbout_4 : (4, Instr.ifCond .eq 5, 3, 9, 0, 0) ∈ kX1_isAbout := List.mem_of_getElem? (i := 2) rfl
theorem eX1_isAbout_7 : (7, Instr.iconst 0, 1, 0, 0, 0) ∈ kX1_isAbout := List.mem_of_getElem? (i := 3) rfl
theorem eX1_isAbout_8 : (8, Instr.ireturn, 1, 1, 0, 0) ∈ kX1_isAbout := List.mem_of_getElem? (i := 4) rfl
theorem eX1_isAbout_9 : (9, Instr.iconst 0, 1, 0, 0, 0) ∈ kX1_isAbout := List.mem_of_getElem? (i := 5) rfl
theorem eX1_isAbout_10 : (10, Instr.istore_n 2, 1, 0, 0, 0) ∈ kX1_isAbout := List.mem_of_getElem? (i := 6) rfl
theorem eX1_isAbout_11 : (11, Instr.iload_n 2, 1, 0, 0, 0) ∈ kX1_isAbout := List.mem_of_getElem? (i := 7) rfl
theorem eX1_isAbout_12 : (12, Instr.iconst 4, 1, 0, 0, 0) ∈ kX1_isAbout := List.mem_of_getElem? (i := 8) rfl
theorem eX1_isAbout_13 : (13, Instr.if_icmp .ge 35, 3, 48, 0, 0) ∈ kX1_isAbout := List.mem_of_getElem? (i := 9) rfl
theorem eX1_isAbout_16 : (16, Instr.aload_n 0, 1, 0, 0, 0) ∈ kX1_isAbout := List.mem_of_getElem? (i := 10) rfl
theorem eX1_isAbout_17 : (17, Instr.getfield 9, 3, 1, 0, 391) ∈ kX1_isAbout := List.mem_of_getElem? (i := 11) rfl
theorem eX1_isAbout_20 : (20, Instr.iload_n 2, 1, 0, 0, 0) ∈ kX1_isAbout := List.mem_of_getElem? (i := 12) rfl
theorem eX1_isAbout_21 : (21, Instr.iaload, 1, 0, 0, 0) ∈ kX1_isAbout := List.mem_of_getElem? (i := 13) rfl
theorem eX1_isAbout_22 : (22, Instr.iconst (-1), 1, 0, 0, 0) ∈ kX1_isAbout := List.mem_of_getElem? (i := 14) rfl
theorem eX1_isAbout_23 : (23, Instr.if_icmp .eq 19, 3, 42, 0, 0) ∈ kX1_isAbout := List.mem_of_getElem? (i := 15) rfl
theorem eX1_isAbout_26 : (26, Instr.aload_n 0, 1, 0, 0, 0) ∈ kX1_isAbout := List.mem_of_getElem? (i := 16) rfl
theorem eX1_isAbout_27 : (27, Instr.getfield 9, 3, 1, 0, 391) ∈ kX1_isAbout := List.mem_of_getElem? (i := 17) rfl
theorem eX1_isAbout_30 : (30, Instr.iload_n 2, 1, 0, 0, 0) ∈ kX1_isAbout := List.mem_of_getElem? (i := 18) rfl
theorem eX1_isAbout_31 : (31, Instr.iaload, 1, 0, 0, 0) ∈ kX1_isAbout := List.mem_of_getElem? (i := 19) rfl
theorem eX1_isAbout_32 : (32, Instr.aload_n 1, 1, 0, 0, 0) ∈ kX1_isAbout := List.mem_of_getElem? (i := 20) rfl
theorem eX1_isAbout_33 : (33, Instr.iload_n 2, 1, 0, 0, 0) ∈ kX1_isAbout := List.mem_of_getElem? (i := 21) rfl
theorem eX1_isAbout_34 : (34, Instr.invokevirtual 24, 3, 19, 1, 419) ∈ kX1_isAbout := List.mem_of_getElem? (i := 22) rfl
theorem eX1_isAbout_37 : (37, Instr.if_icmp .eq 5, 3, 42, 0, 0) ∈ kX1_isAbout := List.mem_of_getElem? (i := 23) rfl
theorem eX1_isAbout_40 : (40, Instr.iconst 0, 1, 0, 0, 0) ∈ kX1_isAbout := List.mem_of_getElem? (i := 24) rfl
theorem eX1_isAbout_41 : (41, Instr.ireturn, 1, 1, 0, 0) ∈ kX1_isAbout := List.mem_of_getElem? (i := 25) rfl
theorem eX1_isAbout_42 : (42, Instr.iinc 2 1, 3, 0, 0, 0) ∈ kX1_isAbout := List.mem_of_getElem? (i := 26) rfl
theorem eX1_isAbout_45 : (45, Instr.goto (-34), 3, 11, 0, 0) ∈ kX1_isAbout := List.mem_of_getElem? (i := 27) rfl
theorem eX1_isAbout_48 : (48, Instr.iconst 1, 1, 0, 0, 0) ∈ kX1_isAbout := List.mem_of_getElem? (i := 28) rfl
theorem eX1_isAbout_49 : (49, Instr.ireturn, 1, 1, 0, 0) ∈ kX1_isAbout := List.mem_of_getElem? (i := 29) rfl
theorem aX2_init : am_m nX2_init = mX2_init := rfl
theorem eX2_init_0 : (0, Instr.aload_n 0, 1, 0, 0, 0) ∈ kX2_init := List.mem_of_getElem? (i := 0) rfl
theorem eX2_init_1 : (1, Instr.invokespecial 1, 3, 999, 0, 164) ∈ kX2_init := List.mem_of_getElem? (i := 1) rfl
theorem eX2_init_4 : (4, Instr.aload_n 0, 1, 0, 0, 0) ∈ kX2_init := List.mem_of_getElem? (i := 2) rfl
theorem eX2_init_5 : (5, Instr.iload_n 1, 1, 0, 0, 0) ∈ kX2_init := List.mem_of_getElem? (i := 3) rfl
theorem eX2_init_6 : (6, Instr.putfield 7, 3, 2, 0, 165) ∈ kX2_init := List.mem_of_getElem? (i := 4) rfl
theorem eX2_init_9 : (9, Instr.aload_n 0, 1, 0, 0, 0) ∈ kX2_init := List.mem_of_getElem? (i := 5) rfl
theorem eX2_init_10 : (10, Instr.iload_n 2, 1, 0, 0, 0) ∈ kX2_init := List.mem_of_getElem? (i := 6) rfl
theorem eX2_init_11 : (11, Instr.putfield 13, 3, 2, 1, 167) ∈ kX2_init := List.mem_of_getElem? (i := 7) rfl
theorem eX2_init_14 : (14, Instr.aload_n 0, 1, 0, 0, 0) ∈ kX2_init := List.mem_of_getElem? (i := 8) rfl
theorem eX2_init_15 : (15, Instr.iload_n 3, 1, 0, 0, 0) ∈ kX2_init := List.mem_of_getElem? (i := 9) rfl
theorem eX2_init_16 : (16, Instr.putfield 16, 3, 2, 2, 169) ∈ kX2_init := List.mem_of_getElem? (i := 10) rfl
theorem eX2_init_19 : (19, Instr.aload_n 0, 1, 0, 0, 0) ∈ kX2_init := List.mem_of_getElem? (i := 11) rfl
theorem eX2_init_20 : (20, Instr.iload 4, 2, 0, 0, 0) ∈ kX2_init := List.mem_of_getElem? (i := 12) rfl
theorem eX2_init_22 : (22, Instr.putfield 19, 3, 2, 3, 170) ∈ kX2_init := List.mem_of_getElem? (i := 13) rfl
theorem eX2_init_25 : (25, Instr.aload_n 0, 1, 0, 0, 0) ∈ kX2_init := List.mem_of_getElem? (i := 14) rfl
theorem eX2_init_26 : (26, Instr.iload 5, 2, 0, 0, 0) ∈ kX2_init := List.mem_of_getElem? (i := 15) rfl
theorem eX2_init_28 : (28, Instr.putfield 22, 3, 2, 4, 171) ∈ kX2_init := List.mem_of_getElem? (i := 16) rfl
theorem eX2_init_31 : (31, Instr.return_, 1, 0, 0, 0) ∈ kX2_init := List.mem_of_getElem? (i := 17) rfl
theorem aX2_dayPrice : am_m nX2_dayPrice = mX2_dayPrice := rfl
theorem eX2_dayPrice_0 : (0, Instr.aload_n 0, 1, 0, 0, 0) ∈ kX2_dayPrice := List.mem_of_getElem? (i := 0) rfl
theorem eX2_dayPrice_1 : (1, Instr.getfield 16, 3, 2, 2, 169) ∈ kX2_dayPrice := List.mem_of_getElem? (i := 1) rfl
theorem eX2_dayPrice_4 : (4, Instr.aload_n 0, 1, 0, 0, 0) ∈ kX2_dayPrice := List.mem_of_getElem? (i := 2) rfl
theorem eX2_dayPrice_5 : (5, Instr.getfield 19, 3, 2, 3, 170) ∈ kX2_dayPrice := List.mem_of_getElem? (i := 3) rfl
theorem eX2_dayPrice_8 : (8, Instr.aload_n 1, 1, 0, 0, 0) ∈ kX2_dayPrice := List.mem_of_getElem? (i := 4) rfl
theorem eX2_dayPrice_9 : (9, Instr.getfield 25, 3, 4, 0, 243) ∈ kX2_dayPrice := List.mem_of_getElem? (i := 5) rfl
theorem eX2_dayPrice_12 : (12, Instr.imul, 1, 0, 0, 0) ∈ kX2_dayPrice := List.mem_of_getElem? (i := 6) rfl
theorem eX2_dayPrice_13 : (13, Instr.iadd, 1, 0, 0, 0) ∈ kX2_dayPrice := List.mem_of_getElem? (i := 7) rfl
theorem eX2_dayPrice_14 : (14, Instr.istore_n 2, 1, 0, 0, 0) ∈ kX2_dayPrice := List.mem_of_getElem? (i := 8) rfl
theorem eX2_dayPrice_15 : (15, Instr.aload_n 1, 1, 0, 0, 0) ∈ kX2_dayPrice := List.mem_of_getElem? (i := 9) rfl
theorem eX2_dayPrice_16 : (16, Instr.getfield 30, 3, 4, 2, 252) ∈ kX2_dayPrice := List.mem_of_getElem? (i := 10) rfl
theorem eX2_dayPrice_19 : (19, Instr.ifCond .eq 12, 3, 31, 0, 0) ∈ kX2_dayPrice := List.mem_of_getElem? (i := 11) rfl
theorem eX2_dayPrice_22 : (22, Instr.iload_n 2, 1, 0, 0, 0) ∈ kX2_dayPrice := List.mem_of_getElem? (i := 12) rfl
theorem eX2_dayPrice_23 : (23, Instr.aload_n 0, 1, 0, 0, 0) ∈ kX2_dayPrice := List.mem_of_getElem? (i := 13) rfl
theorem eX2_dayPrice_24 : (24, Instr.getfield 22, 3, 2, 4, 171) ∈ kX2_dayPrice := List.mem_of_getElem? (i := 14) rfl
theorem eX2_dayPrice_27 : (27, Instr.iadd, 1, 0, 0, 0) ∈ kX2_dayPrice := List.mem_of_getElem? (i := 15) rfl
theorem eX2_dayPrice_28 : (28, Instr.goto 4, 3, 32, 0, 0) ∈ kX2_dayPrice := List.mem_of_getElem? (i := 16) rfl
theorem eX2_dayPrice_31 : (31, Instr.iload_n 2, 1, 0, 0, 0) ∈ kX2_dayPrice := List.mem_of_getElem? (i := 17) rfl
theorem eX2_dayPrice_32 : (32, Instr.ireturn, 1, 0, 0, 0) ∈ kX2_dayPrice := List.mem_of_getElem? (i := 18) rfl
theorem aX3_init : am_m nX3_init = mX3_init := rfl
theorem eX3_init_0 : (0, Instr.aload_n 0, 1, 0, 0, 0) ∈ kX3_init := List.mem_of_getElem? (i := 0) rfl
theorem eX3_init_1 : (1, Instr.invokespecial 1, 3, 999, 0, 191) ∈ kX3_init := List.mem_of_getElem? (i := 1) rfl
theorem eX3_init_4 : (4, Instr.aload_n 0, 1, 0, 0, 0) ∈ kX3_init := List.mem_of_getElem? (i := 2) rfl
theorem eX3_init_5 : (5, Instr.iload_n 1, 1, 0, 0, 0) ∈ kX3_init := List.mem_of_getElem? (i := 3) rfl
theorem eX3_init_6 : (6, Instr.putfield 7, 3, 3, 0, 192) ∈ kX3_init := List.mem_of_getElem? (i := 4) rfl
theorem eX3_init_9 : (9, Instr.aload_n 0, 1, 0, 0, 0) ∈ kX3_init := List.mem_of_getElem? (i := 5) rfl
theorem eX3_init_10 : (10, Instr.iload_n 2, 1, 0, 0, 0) ∈ kX3_init := List.mem_of_getElem? (i := 6) rfl
theorem eX3_init_11 : (11, Instr.putfield 13, 3, 3, 1, 194) ∈ kX3_init := List.mem_of_getElem? (i := 7) rfl
theorem eX3_init_14 : (14, Instr.aload_n 0, 1, 0, 0, 0) ∈ kX3_init := List.mem_of_getElem? (i := 8) rfl
theorem eX3_init_15 : (15, Instr.iload_n 3, 1, 0, 0, 0) ∈ kX3_init := List.mem_of_getElem? (i := 9) rfl
theorem eX3_init_16 : (16, Instr.putfield 16, 3, 3, 2, 197) ∈ kX3_init := List.mem_of_getElem? (i := 10) rfl
theorem eX3_init_19 : (19, Instr.aload_n 0, 1, 0, 0, 0) ∈ kX3_init := List.mem_of_getElem? (i := 11) rfl
theorem eX3_init_20 : (20, Instr.iload 4, 2, 0, 0, 0) ∈ kX3_init := List.mem_of_getElem? (i := 12) rfl
theorem eX3_init_22 : (22, Instr.putfield 19, 3, 3, 3, 199) ∈ kX3_init := List.mem_of_getElem? (i := 13) rfl
theorem eX3_init_25 : (25, Instr.aload_n 0, 1, 0, 0, 0) ∈ kX3_init := List.mem_of_getElem? (i := 14) rfl
theorem eX3_init_26 : (26, Instr.iload 5, 2, 0, 0, 0) ∈ kX3_init := List.mem_of_getElem? (i := 15) rfl
theorem eX3_init_28 : (28, Instr.putfield 23, 3, 3, 4, 201) ∈ kX3_init := List.mem_of_getElem? (i := 16) rfl
theorem eX3_init_31 : (31, Instr.aload_n 0, 1, 0, 0, 0) ∈ kX3_init := List.mem_of_getElem? (i := 17) rfl
theorem eX3_init_32 : (32, Instr.iload_n 2, 1, 0, 0, 0) ∈ kX3_init := List.mem_of_getElem? (i := 18) rfl
theorem eX3_init_33 : (33, Instr.putfield 26, 3, 3, 5, 204) ∈ kX3_init := List.mem_of_getElem? (i := 19) rfl
theorem eX3_init_36 : (36, Instr.return_, 1, 0, 0, 0) ∈ kX3_init := List.mem_of_getElem? (i := 20) rfl
theorem aX3_suits : am_m nX3_suits = mX3_suits := rfl
theorem eX3_suits_0 : (0, Instr.aload_n 0, 1, 0, 0, 0) ∈ kX3_suits := List.mem_of_getElem? (i := 0) rfl
theorem eX3_suits_1 : (1, Instr.getfield 16, 3, 3, 2, 197) ∈ kX3_suits := List.mem_of_getElem? (i := 1) rfl
theorem eX3_suits_4 : (4, Instr.aload_n 1, 1, 0, 0, 0) ∈ kX3_suits := List.mem_of_getElem? (i := 2) rfl
theorem eX3_suits_5 : (5, Instr.getfield 29, 3, 4, 1, 248) ∈ kX3_suits := List.mem_of_getElem? (i := 3) rfl
theorem eX3_suits_8 : (8, Instr.if_icmp .lt 18, 3, 26, 0, 0) ∈ kX3_suits := List.mem_of_getElem? (i := 4) rfl
theorem eX3_suits_11 : (11, Instr.aload_n 0, 1, 0, 0, 0) ∈ kX3_suits := List.mem_of_getElem? (i := 5) rfl
theorem eX3_suits_12 : (12, Instr.getfield 19, 3, 3, 3, 199) ∈ kX3_suits := List.mem_of_getElem? (i := 6) rfl
theorem eX3_suits_15 : (15, Instr.aload_n 1, 1, 0, 0, 0) ∈ kX3_suits := List.mem_of_getElem? (i := 7) rfl
theorem eX3_suits_16 : (16, Instr.getfield 32, 3, 4, 2, 251) ∈ kX3_suits := List.mem_of_getElem? (i := 8) rfl
theorem eX3_suits_19 : (19, Instr.if_icmp .ne 7, 3, 26, 0, 0) ∈ kX3_suits := List.mem_of_getElem? (i := 9) rfl
theorem eX3_suits_22 : (22, Instr.iconst 1, 1, 0, 0, 0) ∈ kX3_suits := List.mem_of_getElem? (i := 10) rfl
theorem eX3_suits_23 : (23, Instr.goto 4, 3, 27, 0, 0) ∈ kX3_suits := List.mem_of_getElem? (i := 11) rfl
theorem eX3_suits_26 : (26, Instr.iconst 0, 1, 0, 0, 0) ∈ kX3_suits := List.mem_of_getElem? (i := 12) rfl
theorem eX3_suits_27 : (27, Instr.ireturn, 1, 1, 0, 0) ∈ kX3_suits := List.mem_of_getElem? (i := 13) rfl
theorem aX3_fits : am_m nX3_fits = mX3_fits := rfl
theorem eX3_fits_0 : (0, Instr.aload_n 0, 1, 0, 0, 0) ∈ kX3_fits := List.mem_of_getElem? (i := 0) rfl
theorem eX3_fits_1 : (1, Instr.getfield 33, 3, 3, 7, 208) ∈ kX3_fits := List.mem_of_getElem? (i := 1) rfl
theorem eX3_fits_4 : (4, Instr.ifCond .ne 26, 3, 30, 0, 0) ∈ kX3_fits := List.mem_of_getElem? (i := 2) rfl
theorem eX3_fits_7 : (7, Instr.aload_n 0, 1, 0, 0, 0) ∈ kX3_fits := List.mem_of_getElem? (i := 3) rfl
theorem eX3_fits_8 : (8, Instr.aload_n 1, 1, 0, 0, 0) ∈ kX3_fits := List.mem_of_getElem? (i := 4) rfl
theorem eX3_fits_9 : (9, Instr.invokevirtual 36, 3, 13, 1, 302) ∈ kX3_fits := List.mem_of_getElem? (i := 5) rfl
theorem eX3_fits_12 : (12, Instr.ifCond .eq 18, 3, 30, 0, 0) ∈ kX3_fits := List.mem_of_getElem? (i := 6) rfl
theorem eX3_fits_15 : (15, Instr.aload_n 0, 1, 0, 0, 0) ∈ kX3_fits := List.mem_of_getElem? (i := 7) rfl
theorem eX3_fits_16 : (16, Instr.getfield 26, 3, 3, 5, 204) ∈ kX3_fits := List.mem_of_getElem? (i := 8) rfl
theorem eX3_fits_19 : (19, Instr.aload_n 1, 1, 0, 0, 0) ∈ kX3_fits := List.mem_of_getElem? (i := 9) rfl
theorem eX3_fits_20 : (20, Instr.getfield 40, 3, 4, 0, 244) ∈ kX3_fits := List.mem_of_getElem? (i := 10) rfl
theorem eX3_fits_23 : (23, Instr.if_icmp .lt 7, 3, 30, 0, 0) ∈ kX3_fits := List.mem_of_getElem? (i := 11) rfl
theorem eX3_fits_26 : (26, Instr.iconst 1, 1, 0, 0, 0) ∈ kX3_fits := List.mem_of_getElem? (i := 12) rfl
theorem eX3_fits_27 : (27, Instr.goto 4, 3, 31, 0, 0) ∈ kX3_fits := List.mem_of_getElem? (i := 13) rfl
theorem eX3_fits_30 : (30, Instr.iconst 0, 1, 0, 0, 0) ∈ kX3_fits := List.mem_of_getElem? (i := 14) rfl
theorem eX3_fits_31 : (31, Instr.ireturn, 1, 1, 0, 0) ∈ kX3_fits := List.mem_of_getElem? (i := 15) rfl
theorem aX3_take : am_m nX3_take = mX3_take := rfl
theorem eX3_take_0 : (0, Instr.aload_n 0, 1, 0, 0, 0) ∈ kX3_take := List.mem_of_getElem? (i := 0) rfl
theorem eX3_take_1 : (1, Instr.dup, 1, 0, 0, 0) ∈ kX3_take := List.mem_of_getElem? (i := 1) rfl
theorem eX3_take_2 : (2, Instr.getfield 26, 3, 3, 5, 204) ∈ kX3_take := List.mem_of_getElem? (i := 2) rfl
theorem eX3_take_5 : (5, Instr.aload_n 1, 1, 0, 0, 0) ∈ kX3_take := List.mem_of_getElem? (i := 3) rfl
theorem eX3_take_6 : (6, Instr.getfield 40, 3, 4, 0, 244) ∈ kX3_take := List.mem_of_getElem? (i := 4) rfl
theorem eX3_take_9 : (9, Instr.isub, 1, 0, 0, 0) ∈ kX3_take := List.mem_of_getElem? (i := 5) rfl
theorem eX3_take_10 : (10, Instr.putfield 26, 3, 3, 5, 204) ∈ kX3_take := List.mem_of_getElem? (i := 6) rfl
theorem eX3_take_13 : (13, Instr.aload_n 0, 1, 0, 0, 0) ∈ kX3_take := List.mem_of_getElem? (i := 7) rfl
theorem eX3_take_14 : (14, Instr.dup, 1, 0, 0, 0) ∈ kX3_take := List.mem_of_getElem? (i := 8) rfl
theorem eX3_take_15 : (15, Instr.getfield 43, 3, 3, 6, 206) ∈ kX3_take := List.mem_of_getElem? (i := 9) rfl
theorem eX3_take_18 : (18, Instr.iconst 1, 1, 0, 0, 0) ∈ kX3_take := List.mem_of_getElem? (i := 10) rfl
theorem eX3_take_19 : (19, Instr.iadd, 1, 0, 0, 0) ∈ kX3_take := List.mem_of_getElem? (i := 11) rfl
theorem eX3_take_20 : (20, Instr.putfield 43, 3, 3, 6, 206) ∈ kX3_take := List.mem_of_getElem? (i := 12) rfl
theorem eX3_take_23 : (23, Instr.aload_n 1, 1, 0, 0, 0) ∈ kX3_take := List.mem_of_getElem? (i := 13) rfl
theorem eX3_take_24 : (24, Instr.aload_n 0, 1, 0, 0, 0) ∈ kX3_take := List.mem_of_getElem? (i := 14) rfl
theorem eX3_take_25 : (25, Instr.putfield 46, 3, 4, 8, 265) ∈ kX3_take := List.mem_of_getElem? (i := 15) rfl
theorem eX3_take_28 : (28, Instr.return_, 1, 0, 0, 0) ∈ kX3_take := List.mem_of_getElem? (i := 16) rfl
theorem aX3_release : am_m nX3_release = mX3_release := rfl
theorem eX3_release_0 : (0, Instr.aload_n 0, 1, 0, 0, 0) ∈ kX3_release := List.mem_of_getElem? (i := 0) rfl
theorem eX3_release_1 : (1, Instr.dup, 1, 0, 0, 0) ∈ kX3_release := List.mem_of_getElem? (i := 1) rfl
theorem eX3_release_2 : (2, Instr.getfield 26, 3, 3, 5, 204) ∈ kX3_release := List.mem_of_getElem? (i := 2) rfl
theorem eX3_release_5 : (5, Instr.aload_n 1, 1, 0, 0, 0) ∈ kX3_release := List.mem_of_getElem? (i := 3) rfl
theorem eX3_release_6 : (6, Instr.getfield 40, 3, 4, 0, 244) ∈ kX3_release := List.mem_of_getElem? (i := 4) rfl
theorem eX3_release_9 : (9, Instr.iadd, 1, 0, 0, 0) ∈ kX3_release := List.mem_of_getElem? (i := 5) rfl
theorem eX3_release_10 : (10, Instr.putfield 26, 3, 3, 5, 204) ∈ kX3_release := List.mem_of_getElem? (i := 6) rfl
theorem eX3_release_13 : (13, Instr.aload_n 0, 1, 0, 0, 0) ∈ kX3_release := List.mem_of_getElem? (i := 7) rfl
theorem eX3_release_14 : (14, Instr.dup, 1, 0, 0, 0) ∈ kX3_release := List.mem_of_getElem? (i := 8) rfl
theorem eX3_release_15 : (15, Instr.getfield 43, 3, 3, 6, 206) ∈ kX3_release := List.mem_of_getElem? (i := 9) rfl
theorem eX3_release_18 : (18, Instr.iconst 1, 1, 0, 0, 0) ∈ kX3_release := List.mem_of_getElem? (i := 10) rfl
theorem eX3_release_19 : (19, Instr.isub, 1, 0, 0, 0) ∈ kX3_release := List.mem_of_getElem? (i := 11) rfl
theorem eX3_release_20 : (20, Instr.putfield 43, 3, 3, 6, 206) ∈ kX3_release := List.mem_of_getElem? (i := 12) rfl
theorem eX3_release_23 : (23, Instr.aload_n 1, 1, 0, 0, 0) ∈ kX3_release := List.mem_of_getElem? (i := 13) rfl
theorem eX3_release_24 : (24, Instr.aconst_null, 1, 0, 0, 0) ∈ kX3_release := List.mem_of_getElem? (i := 14) rfl
theorem eX3_release_25 : (25, Instr.putfield 46, 3, 4, 8, 265) ∈ kX3_release := List.mem_of_getElem? (i := 15) rfl
theorem eX3_release_28 : (28, Instr.return_, 1, 0, 0, 0) ∈ kX3_release := List.mem_of_getElem? (i := 16) rfl
theorem aX4_init : am_m nX4_init = mX4_init := rfl
theorem eX4_init_0 : (0, Instr.aload_n 0, 1, 0, 0, 0) ∈ kX4_init := List.mem_of_getElem? (i := 0) rfl
theorem eX4_init_1 : (1, Instr.invokespecial 3, 3, 999, 0, 241) ∈ kX4_init := List.mem_of_getElem? (i := 1) rfl
theorem eX4_init_4 : (4, Instr.aload_n 0, 1, 0, 0, 0) ∈ kX4_init := List.mem_of_getElem? (i := 2) rfl
theorem eX4_init_5 : (5, Instr.iload_n 1, 1, 0, 0, 0) ∈ kX4_init := List.mem_of_getElem? (i := 3) rfl
theorem eX4_init_6 : (6, Instr.putfield 9, 3, 4, 0, 242) ∈ kX4_init := List.mem_of_getElem? (i := 4) rfl
theorem eX4_init_9 : (9, Instr.aload_n 0, 1, 0, 0, 0) ∈ kX4_init := List.mem_of_getElem? (i := 5) rfl
theorem eX4_init_10 : (10, Instr.iload_n 2, 1, 0, 0, 0) ∈ kX4_init := List.mem_of_getElem? (i := 6) rfl
theorem eX4_init_11 : (11, Instr.putfield 15, 3, 4, 1, 247) ∈ kX4_init := List.mem_of_getElem? (i := 7) rfl
theorem eX4_init_14 : (14, Instr.aload_n 0, 1, 0, 0, 0) ∈ kX4_init := List.mem_of_getElem? (i := 8) rfl
theorem eX4_init_15 : (15, Instr.iload_n 3, 1, 0, 0, 0) ∈ kX4_init := List.mem_of_getElem? (i := 9) rfl
theorem eX4_init_16 : (16, Instr.putfield 18, 3, 4, 2, 250) ∈ kX4_init := List.mem_of_getElem? (i := 10) rfl
theorem eX4_init_19 : (19, Instr.aload_n 0, 1, 0, 0, 0) ∈ kX4_init := List.mem_of_getElem? (i := 11) rfl
theorem eX4_init_20 : (20, Instr.iload 4, 2, 0, 0, 0) ∈ kX4_init := List.mem_of_getElem? (i := 12) rfl
theorem eX4_init_22 : (22, Instr.putfield 22, 3, 4, 3, 254) ∈ kX4_init := List.mem_of_getElem? (i := 13) rfl
theorem eX4_init_25 : (25, Instr.aload_n 0, 1, 0, 0, 0) ∈ kX4_init := List.mem_of_getElem? (i := 14) rfl
theorem eX4_init_26 : (26, Instr.iload 5, 2, 0, 0, 0) ∈ kX4_init := List.mem_of_getElem? (i := 15) rfl
theorem eX4_init_28 : (28, Instr.putfield 25, 3, 4, 4, 256) ∈ kX4_init := List.mem_of_getElem? (i := 16) rfl
theorem eX4_init_31 : (31, Instr.aload_n 0, 1, 0, 0, 0) ∈ kX4_init := List.mem_of_getElem? (i := 17) rfl
theorem eX4_init_32 : (32, Instr.iload 6, 2, 0, 0, 0) ∈ kX4_init := List.mem_of_getElem? (i := 18) rfl
theorem eX4_init_34 : (34, Instr.putfield 28, 3, 4, 5, 258) ∈ kX4_init := List.mem_of_getElem? (i := 19) rfl
theorem eX4_init_37 : (37, Instr.aload_n 0, 1, 0, 0, 0) ∈ kX4_init := List.mem_of_getElem? (i := 20) rfl
theorem eX4_init_38 : (38, Instr.iload 7, 2, 0, 0, 0) ∈ kX4_init := List.mem_of_getElem? (i := 21) rfl
theorem eX4_init_40 : (40, Instr.putfield 31, 3, 4, 6, 260) ∈ kX4_init := List.mem_of_getElem? (i := 22) rfl
theorem eX4_init_43 : (43, Instr.aload_n 0, 1, 0, 0, 0) ∈ kX4_init := List.mem_of_getElem? (i := 23) rfl
theorem eX4_init_44 : (44, Instr.iconst 0, 1, 0, 0, 0) ∈ kX4_init := List.mem_of_getElem? (i := 24) rfl
theorem eX4_init_45 : (45, Instr.putfield 34, 3, 4, 7, 262) ∈ kX4_init := List.mem_of_getElem? (i := 25) rfl
theorem eX4_init_48 : (48, Instr.aload_n 0, 1, 0, 0, 0) ∈ kX4_init := List.mem_of_getElem? (i := 26) rfl
theorem eX4_init_49 : (49, Instr.iconst (-1), 1, 0, 0, 0) ∈ kX4_init := List.mem_of_getElem? (i := 27) rfl
theorem eX4_init_50 : (50, Instr.putfield 37, 3, 4, 10, 269) ∈ kX4_init := List.mem_of_getElem? (i := 28) rfl
theorem eX4_init_53 : (53, Instr.return_, 1, 0, 0, 0) ∈ kX4_init := List.mem_of_getElem? (i := 29) rfl
theorem aX4_dueDay : am_m nX4_dueDay = mX4_dueDay := rfl
theorem eX4_dueDay_0 : (0, Instr.aload_n 0, 1, 0, 0, 0) ∈ kX4_dueDay := List.mem_of_getElem? (i := 0) rfl
theorem eX4_dueDay_1 : (1, Instr.getfield 28, 3, 4, 5, 258) ∈ kX4_dueDay := List.mem_of_getElem? (i := 1) rfl
theorem eX4_dueDay_4 : (4, Instr.invokestatic 40, 3, 52, 1, 9999) ∈ kX4_dueDay := List.mem_of_getElem? (i := 2) rfl
theorem eX4_dueDay_7 : (7, Instr.ireturn, 1, 0, 0, 0) ∈ kX4_dueDay := List.mem_of_getElem? (i := 3) rfl
theorem aX4_markAt : am_m nX4_markAt = mX4_markAt := rfl
theorem eX4_markAt_0 : (0, Instr.aload_n 0, 1, 0, 0, 0) ∈ kX4_markAt := List.mem_of_getElem? (i := 0) rfl
theorem eX4_markAt_1 : (1, Instr.getfield 25, 3, 4, 4, 256) ∈ kX4_markAt := List.mem_of_getElem? (i := 1) rfl
theorem eX4_markAt_4 : (4, Instr.iconst 4, 1, 0, 0, 0) ∈ kX4_markAt := List.mem_of_getElem? (i := 2) rfl
theorem eX4_markAt_5 : (5, Instr.iload_n 1, 1, 0, 0, 0) ∈ kX4_markAt := List.mem_of_getElem? (i := 3) rfl
theorem eX4_markAt_6 : (6, Instr.imul, 1, 0, 0, 0) ∈ kX4_markAt := List.mem_of_getElem? (i := 4) rfl
theorem eX4_markAt_7 : (7, Instr.ishr, 1, 0, 0, 0) ∈ kX4_markAt := List.mem_of_getElem? (i := 5) rfl
theorem eX4_markAt_8 : (8, Instr.bipush 15, 2, 0, 0, 0) ∈ kX4_markAt := List.mem_of_getElem? (i := 6) rfl
theorem eX4_markAt_10 : (10, Instr.iand, 1, 0, 0, 0) ∈ kX4_markAt := List.mem_of_getElem? (i := 7) rfl
theorem eX4_markAt_11 : (11, Instr.ireturn, 1, 0, 0, 0) ∈ kX4_markAt := List.mem_of_getElem? (i := 8) rfl
theorem aX4_wanted : am_m nX4_wanted = mX4_wanted := rfl
theorem eX4_wanted_0 : (0, Instr.aload_n 0, 1, 0, 0, 0) ∈ kX4_wanted := List.mem_of_getElem? (i := 0) rfl
theorem eX4_wanted_1 : (1, Instr.getfield 28, 3, 4, 5, 258) ∈ kX4_wanted := List.mem_of_getElem? (i := 1) rfl
theorem eX4_wanted_4 : (4, Instr.iload_n 1, 1, 0, 0, 0) ∈ kX4_wanted := List.mem_of_getElem? (i := 2) rfl
theorem eX4_wanted_5 : (5, Instr.isub, 1, 0, 0, 0) ∈ kX4_wanted := List.mem_of_getElem? (i := 3) rfl
theorem eX4_wanted_6 : (6, Instr.iconst 0, 1, 0, 0, 0) ∈ kX4_wanted := List.mem_of_getElem? (i := 4) rfl
theorem eX4_wanted_7 : (7, Instr.invokestatic 44, 3, 120, 2, 318) ∈ kX4_wanted := List.mem_of_getElem? (i := 5) rfl
theorem eX4_wanted_10 : (10, Instr.bipush 60, 2, 0, 0, 0) ∈ kX4_wanted := List.mem_of_getElem? (i := 6) rfl
theorem eX4_wanted_12 : (12, Instr.idiv, 1, 0, 0, 0) ∈ kX4_wanted := List.mem_of_getElem? (i := 7) rfl
theorem eX4_wanted_13 : (13, Instr.istore_n 2, 1, 0, 0, 0) ∈ kX4_wanted := List.mem_of_getElem? (i := 8) rfl
theorem eX4_wanted_14 : (14, Instr.iconst 1, 1, 0, 0, 0) ∈ kX4_wanted := List.mem_of_getElem? (i := 9) rfl
theorem eX4_wanted_15 : (15, Instr.iload_n 2, 1, 0, 0, 0) ∈ kX4_wanted := List.mem_of_getElem? (i := 10) rfl
theorem eX4_wanted_16 : (16, Instr.iadd, 1, 0, 0, 0) ∈ kX4_wanted := List.mem_of_getElem? (i := 11) rfl
theorem eX4_wanted_17 : (17, Instr.bipush 99, 2, 0, 0, 0) ∈ kX4_wanted := List.mem_of_getElem? (i := 12) rfl
theorem eX4_wanted_19 : (19, Instr.invokestatic 50, 3, 121, 2, 321) ∈ kX4_wanted := List.mem_of_getElem? (i := 13) rfl
theorem eX4_wanted_22 : (22, Instr.ireturn, 1, 0, 0, 0) ∈ kX4_wanted := List.mem_of_getElem? (i := 14) rfl
theorem aX4_misfitOn : am_m nX4_misfitOn = mX4_misfitOn := rfl
theorem eX4_misfitOn_0 : (0, Instr.aload_n 1, 1, 0, 0, 0) ∈ kX4_misfitOn := List.mem_of_getElem? (i := 0) rfl
theorem eX4_misfitOn_1 : (1, Instr.getfield 53, 3, 3, 4, 202) ∈ kX4_misfitOn := List.mem_of_getElem? (i := 1) rfl
theorem eX4_misfitOn_4 : (4, Instr.aload_n 0, 1, 0, 0, 0) ∈ kX4_misfitOn := List.mem_of_getElem? (i := 2) rfl
theorem eX4_misfitOn_5 : (5, Instr.iload_n 2, 1, 0, 0, 0) ∈ kX4_misfitOn := List.mem_of_getElem? (i := 3) rfl
theorem eX4_misfitOn_6 : (6, Instr.invokevirtual 58, 3, 20, 1, 314) ∈ kX4_misfitOn := List.mem_of_getElem? (i := 4) rfl
theorem eX4_misfitOn_9 : (9, Instr.isub, 1, 0, 0, 0) ∈ kX4_misfitOn := List.mem_of_getElem? (i := 5) rfl
theorem eX4_misfitOn_10 : (10, Instr.invokestatic 61, 3, 119, 1, 324) ∈ kX4_misfitOn := List.mem_of_getElem? (i := 6) rfl
theorem eX4_misfitOn_13 : (13, Instr.ireturn, 1, 0, 0, 0) ∈ kX4_misfitOn := List.mem_of_getElem? (i := 7) rfl
theorem aX4_misfitHere : am_m nX4_misfitHere = mX4_misfitHere := rfl
theorem eX4_misfitHere_0 : (0, Instr.aload_n 0, 1, 0, 0, 0) ∈ kX4_misfitHere := List.mem_of_getElem? (i := 0) rfl
theorem eX4_misfitHere_1 : (1, Instr.getfield 64, 3, 4, 8, 266) ∈ kX4_misfitHere := List.mem_of_getElem? (i := 1) rfl
theorem eX4_misfitHere_4 : (4, Instr.ifnonnull 7, 3, 11, 0, 0) ∈ kX4_misfitHere := List.mem_of_getElem? (i := 2) rfl
theorem eX4_misfitHere_7 : (7, Instr.iconst (-1), 1, 0, 0, 0) ∈ kX4_misfitHere := List.mem_of_getElem? (i := 3) rfl
theorem eX4_misfitHere_8 : (8, Instr.goto 12, 3, 20, 0, 0) ∈ kX4_misfitHere := List.mem_of_getElem? (i := 4) rfl
theorem eX4_misfitHere_11 : (11, Instr.aload_n 0, 1, 0, 0, 0) ∈ kX4_misfitHere := List.mem_of_getElem? (i := 5) rfl
theorem eX4_misfitHere_12 : (12, Instr.aload_n 0, 1, 0, 0, 0) ∈ kX4_misfitHere := List.mem_of_getElem? (i := 6) rfl
theorem eX4_misfitHere_13 : (13, Instr.getfield 64, 3, 4, 8, 266) ∈ kX4_misfitHere := List.mem_of_getElem? (i := 7) rfl
theorem eX4_misfitHere_16 : (16, Instr.iload_n 1, 1, 0, 0, 0) ∈ kX4_misfitHere := List.mem_of_getElem? (i := 8) rfl
theorem eX4_misfitHere_17 : (17, Instr.invokevirtual 68, 3, 21, 2, 461) ∈ kX4_misfitHere := List.mem_of_getElem? (i := 9) rfl
theorem eX4_misfitHere_20 : (20, Instr.ireturn, 1, 0, 0, 0) ∈ kX4_misfitHere := List.mem_of_getElem? (i := 10) rfl
theorem aX4_placeNumber : am_m nX4_placeNumber = mX4_placeNumber := rfl
theorem eX4_placeNumber_0 : (0, Instr.aload_n 0, 1, 0, 0, 0) ∈ kX4_placeNumber := List.mem_of_getElem? (i := 0) rfl
theorem eX4_placeNumber_1 : (1, Instr.getfield 64, 3, 4, 8, 266) ∈ kX4_placeNumber := List.mem_of_getElem? (i := 1) rfl
theorem eX4_placeNumber_4 : (4, Instr.ifnonnull 7, 3, 11, 0, 0) ∈ kX4_placeNumber := List.mem_of_getElem? (i := 2) rfl
theorem eX4_placeNumber_7 : (7, Instr.iconst (-1), 1, 0, 0, 0) ∈ kX4_placeNumber := List.mem_of_getElem? (i := 3) rfl
theorem eX4_placeNumber_8 : (8, Instr.goto 10, 3, 18, 0, 0) ∈ kX4_placeNumber := List.mem_of_getElem? (i := 4) rfl
theorem eX4_placeNumber_11 : (11, Instr.aload_n 0, 1, 0, 0, 0) ∈ kX4_placeNumber := List.mem_of_getElem? (i := 5) rfl
theorem eX4_placeNumber_12 : (12, Instr.getfield 64, 3, 4, 8, 266) ∈ kX4_placeNumber := List.mem_of_getElem? (i := 6) rfl
theorem eX4_placeNumber_15 : (15, Instr.getfield 72, 3, 3, 0, 193) ∈ kX4_placeNumber := List.mem_of_getElem? (i := 7) rfl
theorem eX4_placeNumber_18 : (18, Instr.ireturn, 1, 0, 0, 0) ∈ kX4_placeNumber := List.mem_of_getElem? (i := 8) rfl
theorem aX4_isStuck : am_m nX4_isStuck = mX4_isStuck := rfl
theorem eX4_isStuck_0 : (0, Instr.aload_n 0, 1, 0, 0, 0) ∈ kX4_isStuck := List.mem_of_getElem? (i := 0) rfl
theorem eX4_isStuck_1 : (1, Instr.getfield 64, 3, 4, 8, 266) ∈ kX4_isStuck := List.mem_of_getElem? (i := 1) rfl
theorem eX4_isStuck_4 : (4, Instr.ifnull 17, 3, 21, 0, 0) ∈ kX4_isStuck := List.mem_of_getElem? (i := 2) rfl
theorem eX4_isStuck_7 : (7, Instr.aload_n 0, 1, 0, 0, 0) ∈ kX4_isStuck := List.mem_of_getElem? (i := 3) rfl
theorem eX4_isStuck_8 : (8, Instr.getfield 64, 3, 4, 8, 266) ∈ kX4_isStuck := List.mem_of_getElem? (i := 4) rfl
theorem eX4_isStuck_11 : (11, Instr.getfield 75, 3, 3, 7, 209) ∈ kX4_isStuck := List.mem_of_getElem? (i := 5) rfl
theorem eX4_isStuck_14 : (14, Instr.ifCond .eq 7, 3, 21, 0, 0) ∈ kX4_isStuck := List.mem_of_getElem? (i := 6) rfl
theorem eX4_isStuck_17 : (17, Instr.iconst 1, 1, 0, 0, 0) ∈ kX4_isStuck := List.mem_of_getElem? (i := 7) rfl
theorem eX4_isStuck_18 : (18, Instr.goto 4, 3, 22, 0, 0) ∈ kX4_isStuck := List.mem_of_getElem? (i := 8) rfl
theorem eX4_isStuck_21 : (21, Instr.iconst 0, 1, 0, 0, 0) ∈ kX4_isStuck := List.mem_of_getElem? (i := 9) rfl
theorem eX4_isStuck_22 : (22, Instr.ireturn, 1, 1, 0, 0) ∈ kX4_isStuck := List.mem_of_getElem? (i := 10) rfl
theorem aX5_init : am_m nX5_init = mX5_init := rfl
theorem eX5_init_0 : (0, Instr.aload_n 0, 1, 0, 0, 0) ∈ kX5_init := List.mem_of_getElem? (i := 0) rfl
theorem eX5_init_1 : (1, Instr.invokespecial 1, 3, 999, 0, 51) ∈ kX5_init := List.mem_of_getElem? (i := 1) rfl
theorem eX5_init_4 : (4, Instr.aload_n 0, 1, 0, 0, 0) ∈ kX5_init := List.mem_of_getElem? (i := 2) rfl
theorem eX5_init_5 : (5, Instr.bipush 16, 2, 0, 0, 0) ∈ kX5_init := List.mem_of_getElem? (i := 3) rfl
theorem eX5_init_7 : (7, Instr.anewarray 9, 3, 9, 0, 54) ∈ kX5_init := List.mem_of_getElem? (i := 4) rfl
theorem eX5_init_10 : (10, Instr.putfield 11, 3, 5, 0, 80) ∈ kX5_init := List.mem_of_getElem? (i := 5) rfl
theorem eX5_init_13 : (13, Instr.aload_n 0, 1, 0, 0, 0) ∈ kX5_init := List.mem_of_getElem? (i := 6) rfl
theorem eX5_init_14 : (14, Instr.bipush 120, 2, 0, 0, 0) ∈ kX5_init := List.mem_of_getElem? (i := 7) rfl
theorem eX5_init_16 : (16, Instr.anewarray 15, 3, 10, 0, 56) ∈ kX5_init := List.mem_of_getElem? (i := 8) rfl
theorem eX5_init_19 : (19, Instr.putfield 17, 3, 5, 2, 82) ∈ kX5_init := List.mem_of_getElem? (i := 9) rfl
theorem eX5_init_22 : (22, Instr.aload_n 0, 1, 0, 0, 0) ∈ kX5_init := List.mem_of_getElem? (i := 10) rfl
theorem eX5_init_23 : (23, Instr.bipush 40, 2, 0, 0, 0) ∈ kX5_init := List.mem_of_getElem? (i := 11) rfl
theorem eX5_init_25 : (25, Instr.anewarray 21, 3, 11, 0, 58) ∈ kX5_init := List.mem_of_getElem? (i := 12) rfl
theorem eX5_init_28 : (28, Instr.putfield 23, 3, 5, 4, 84) ∈ kX5_init := List.mem_of_getElem? (i := 13) rfl
theorem eX5_init_31 : (31, Instr.aload_n 0, 1, 0, 0, 0) ∈ kX5_init := List.mem_of_getElem? (i := 14) rfl
theorem eX5_init_32 : (32, Instr.bipush 12, 2, 0, 0, 0) ∈ kX5_init := List.mem_of_getElem? (i := 15) rfl
theorem eX5_init_34 : (34, Instr.anewarray 27, 3, 12, 0, 60) ∈ kX5_init := List.mem_of_getElem? (i := 16) rfl
theorem eX5_init_37 : (37, Instr.putfield 29, 3, 5, 6, 86) ∈ kX5_init := List.mem_of_getElem? (i := 17) rfl
theorem eX5_init_40 : (40, Instr.aload_n 0, 1, 0, 0, 0) ∈ kX5_init := List.mem_of_getElem? (i := 18) rfl
theorem eX5_init_41 : (41, Instr.bipush 16, 2, 0, 0, 0) ∈ kX5_init := List.mem_of_getElem? (i := 19) rfl
theorem eX5_init_43 : (43, Instr.newarray .int, 2, 7, 0, 0) ∈ kX5_init := List.mem_of_getElem? (i := 20) rfl
theorem eX5_init_45 : (45, Instr.putfield 33, 3, 5, 8, 88) ∈ kX5_init := List.mem_of_getElem? (i := 21) rfl
theorem eX5_init_48 : (48, Instr.aload_n 0, 1, 0, 0, 0) ∈ kX5_init := List.mem_of_getElem? (i := 22) rfl
theorem eX5_init_49 : (49, Instr.new 37, 3, 0, 0, 62) ∈ kX5_init := List.mem_of_getElem? (i := 23) rfl
theorem eX5_init_52 : (52, Instr.dup, 1, 0, 0, 0) ∈ kX5_init := List.mem_of_getElem? (i := 24) rfl
theorem eX5_init_53 : (53, Instr.invokespecial 39, 3, 0, 0, 64) ∈ kX5_init := List.mem_of_getElem? (i := 25) rfl
theorem eX5_init_56 : (56, Instr.putfield 40, 3, 5, 9, 89) ∈ kX5_init := List.mem_of_getElem? (i := 26) rfl
theorem eX5_init_59 : (59, Instr.aload_n 0, 1, 0, 0, 0) ∈ kX5_init := List.mem_of_getElem? (i := 27) rfl
theorem eX5_init_60 : (60, Instr.sipush 1440, 3, 0, 0, 0) ∈ kX5_init := List.mem_of_getElem? (i := 28) rfl
theorem eX5_init_63 : (63, Instr.putfield 44, 3, 5, 12, 92) ∈ kX5_init := List.mem_of_getElem? (i := 29) rfl
theorem eX5_init_66 : (66, Instr.return_, 1, 0, 0, 0) ∈ kX5_init := List.mem_of_getElem? (i := 30) rfl
theorem aX5_clock : am_m nX5_clock = mX5_clock := rfl
theorem eX5_clock_0 : (0, Instr.iload_n 1, 1, 0, 0, 0) ∈ kX5_clock := List.mem_of_getElem? (i := 0) rfl
theorem eX5_clock_1 : (1, Instr.iconst 1, 1, 0, 0, 0) ∈ kX5_clock := List.mem_of_getElem? (i := 1) rfl
theorem eX5_clock_2 : (2, Instr.if_icmp .lt 14, 3, 16, 0, 0) ∈ kX5_clock := List.mem_of_getElem? (i := 2) rfl
theorem eX5_clock_5 : (5, Instr.iload_n 1, 1, 0, 0, 0) ∈ kX5_clock := List.mem_of_getElem? (i := 3) rfl
theorem eX5_clock_6 : (6, Instr.ldc 48, 2, 100000, 0, 130) ∈ kX5_clock := List.mem_of_getElem? (i := 4) rfl
theorem eX5_clock_8 : (8, Instr.aload_n 0, 1, 0, 0, 0) ∈ kX5_clock := List.mem_of_getElem? (i := 5) rfl
theorem eX5_clock_9 : (9, Instr.getfield 49, 3, 5, 10, 90) ∈ kX5_clock := List.mem_of_getElem? (i := 6) rfl
theorem eX5_clock_12 : (12, Instr.isub, 1, 0, 0, 0) ∈ kX5_clock := List.mem_of_getElem? (i := 7) rfl
theorem eX5_clock_13 : (13, Instr.if_icmp .le 5, 3, 18, 0, 0) ∈ kX5_clock := List.mem_of_getElem? (i := 8) rfl
theorem eX5_clock_16 : (16, Instr.iconst (-1), 1, 0, 0, 0) ∈ kX5_clock := List.mem_of_getElem? (i := 9) rfl
theorem eX5_clock_17 : (17, Instr.ireturn, 1, 0, 0, 0) ∈ kX5_clock := List.mem_of_getElem? (i := 10) rfl
theorem eX5_clock_18 : (18, Instr.aload_n 0, 1, 0, 0, 0) ∈ kX5_clock := List.mem_of_getElem? (i := 11) rfl
theorem eX5_clock_19 : (19, Instr.dup, 1, 0, 0, 0) ∈ kX5_clock := List.mem_of_getElem? (i := 12) rfl
theorem eX5_clock_20 : (20, Instr.getfield 49, 3, 5, 10, 90) ∈ kX5_clock := List.mem_of_getElem? (i := 13) rfl
theorem eX5_clock_23 : (23, Instr.iload_n 1, 1, 0, 0, 0) ∈ kX5_clock := List.mem_of_getElem? (i := 14) rfl
theorem eX5_clock_24 : (24, Instr.iadd, 1, 0, 0, 0) ∈ kX5_clock := List.mem_of_getElem? (i := 15) rfl
theorem eX5_clock_25 : (25, Instr.putfield 49, 3, 5, 10, 90) ∈ kX5_clock := List.mem_of_getElem? (i := 16) rfl
theorem eX5_clock_28 : (28, Instr.aload_n 0, 1, 0, 0, 0) ∈ kX5_clock := List.mem_of_getElem? (i := 17) rfl
theorem eX5_clock_29 : (29, Instr.invokevirtual 52, 3, 64, 0, 131) ∈ kX5_clock := List.mem_of_getElem? (i := 18) rfl
theorem eX5_clock_32 : (32, Instr.aload_n 0, 1, 0, 0, 0) ∈ kX5_clock := List.mem_of_getElem? (i := 19) rfl
theorem eX5_clock_33 : (33, Instr.getfield 49, 3, 5, 10, 90) ∈ kX5_clock := List.mem_of_getElem? (i := 20) rfl
theorem eX5_clock_36 : (36, Instr.ireturn, 1, 0, 0, 0) ∈ kX5_clock := List.mem_of_getElem? (i := 21) rfl
theorem aX5_hours : am_m nX5_hours = mX5_hours := rfl
theorem eX5_hours_0 : (0, Instr.iload_n 1, 1, 0, 0, 0) ∈ kX5_hours := List.mem_of_getElem? (i := 0) rfl
theorem eX5_hours_1 : (1, Instr.ifCond .lt 15, 3, 16, 0, 0) ∈ kX5_hours := List.mem_of_getElem? (i := 1) rfl
theorem eX5_hours_4 : (4, Instr.iload_n 2, 1, 0, 0, 0) ∈ kX5_hours := List.mem_of_getElem? (i := 2) rfl
theorem eX5_hours_5 : (5, Instr.sipush 1440, 3, 0, 0, 0) ∈ kX5_hours := List.mem_of_getElem? (i := 3) rfl
theorem eX5_hours_8 : (8, Instr.if_icmp .gt 8, 3, 16, 0, 0) ∈ kX5_hours := List.mem_of_getElem? (i := 4) rfl
theorem eX5_hours_11 : (11, Instr.iload_n 1, 1, 0, 0, 0) ∈ kX5_hours := List.mem_of_getElem? (i := 5) rfl
theorem eX5_hours_12 : (12, Instr.iload_n 2, 1, 0, 0, 0) ∈ kX5_hours := List.mem_of_getElem? (i := 6) rfl
theorem eX5_hours_13 : (13, Instr.if_icmp .lt 5, 3, 18, 0, 0) ∈ kX5_hours := List.mem_of_getElem? (i := 7) rfl
theorem eX5_hours_16 : (16, Instr.iconst 0, 1, 0, 0, 0) ∈ kX5_hours := List.mem_of_getElem? (i := 8) rfl
theorem eX5_hours_17 : (17, Instr.ireturn, 1, 1, 0, 0) ∈ kX5_hours := List.mem_of_getElem? (i := 9) rfl
theorem eX5_hours_18 : (18, Instr.aload_n 0, 1, 0, 0, 0) ∈ kX5_hours := List.mem_of_getElem? (i := 10) rfl
theorem eX5_hours_19 : (19, Instr.iload_n 1, 1, 0, 0, 0) ∈ kX5_hours := List.mem_of_getElem? (i := 11) rfl
theorem eX5_hours_20 : (20, Instr.putfield 55, 3, 5, 11, 91) ∈ kX5_hours := List.mem_of_getElem? (i := 12) rfl
theorem eX5_hours_23 : (23, Instr.aload_n 0, 1, 0, 0, 0) ∈ kX5_hours := List.mem_of_getElem? (i := 13) rfl
theorem eX5_hours_24 : (24, Instr.iload_n 2, 1, 0, 0, 0) ∈ kX5_hours := List.mem_of_getElem? (i := 14) rfl
theorem eX5_hours_25 : (25, Instr.putfield 44, 3, 5, 12, 92) ∈ kX5_hours := List.mem_of_getElem? (i := 15) rfl
theorem eX5_hours_28 : (28, Instr.iconst 1, 1, 0, 0, 0) ∈ kX5_hours := List.mem_of_getElem? (i := 16) rfl
theorem eX5_hours_29 : (29, Instr.ireturn, 1, 1, 0, 0) ∈ kX5_hours := List.mem_of_getElem? (i := 17) rfl
theorem aX5_prices : am_m nX5_prices = mX5_prices := rfl
theorem eX5_prices_0 : (0, Instr.iload_n 2, 1, 0, 0, 0) ∈ kX5_prices := List.mem_of_getElem? (i := 0) rfl
theorem eX5_prices_1 : (1, Instr.invokestatic 58, 3, 50, 1, 150) ∈ kX5_prices := List.mem_of_getElem? (i := 1) rfl
theorem eX5_prices_4 : (4, Instr.ifCond .eq 26, 3, 30, 0, 0) ∈ kX5_prices := List.mem_of_getElem? (i := 2) rfl
theorem eX5_prices_7 : (7, Instr.iload_n 3, 1, 0, 0, 0) ∈ kX5_prices := List.mem_of_getElem? (i := 3) rfl
theorem eX5_prices_8 : (8, Instr.invokestatic 58, 3, 50, 1, 150) ∈ kX5_prices := List.mem_of_getElem? (i := 4) rfl
theorem eX5_prices_11 : (11, Instr.ifCond .eq 19, 3, 30, 0, 0) ∈ kX5_prices := List.mem_of_getElem? (i := 5) rfl
theorem eX5_prices_14 : (14, Instr.iload 4, 2, 0, 0, 0) ∈ kX5_prices := List.mem_of_getElem? (i := 6) rfl
theorem eX5_prices_16 : (16, Instr.invokestatic 58, 3, 50, 1, 150) ∈ kX5_prices := List.mem_of_getElem? (i := 7) rfl
theorem eX5_prices_19 : (19, Instr.ifCond .eq 11, 3, 30, 0, 0) ∈ kX5_prices := List.mem_of_getElem? (i := 8) rfl
theorem eX5_prices_22 : (22, Instr.iload 5, 2, 0, 0, 0) ∈ kX5_prices := List.mem_of_getElem? (i := 9) rfl
theorem eX5_prices_24 : (24, Instr.invokestatic 58, 3, 50, 1, 150) ∈ kX5_prices := List.mem_of_getElem? (i := 10) rfl
theorem eX5_prices_27 : (27, Instr.ifCond .ne 5, 3, 32, 0, 0) ∈ kX5_prices := List.mem_of_getElem? (i := 11) rfl
theorem eX5_prices_30 : (30, Instr.iconst 0, 1, 0, 0, 0) ∈ kX5_prices := List.mem_of_getElem? (i := 12) rfl
theorem eX5_prices_31 : (31, Instr.ireturn, 1, 1, 0, 0) ∈ kX5_prices := List.mem_of_getElem? (i := 13) rfl
theorem eX5_prices_32 : (32, Instr.aload_n 0, 1, 0, 0, 0) ∈ kX5_prices := List.mem_of_getElem? (i := 14) rfl
theorem eX5_prices_33 : (33, Instr.getfield 62, 3, 5, 7, 87) ∈ kX5_prices := List.mem_of_getElem? (i := 15) rfl
theorem eX5_prices_36 : (36, Instr.bipush 12, 2, 0, 0, 0) ∈ kX5_prices := List.mem_of_getElem? (i := 16) rfl
theorem eX5_prices_38 : (38, Instr.if_icmp .ge 11, 3, 49, 0, 0) ∈ kX5_prices := List.mem_of_getElem? (i := 17) rfl
theorem eX5_prices_41 : (41, Instr.iload_n 1, 1, 0, 0, 0) ∈ kX5_prices := List.mem_of_getElem? (i := 18) rfl
theorem eX5_prices_42 : (42, Instr.aload_n 0, 1, 0, 0, 0) ∈ kX5_prices := List.mem_of_getElem? (i := 19) rfl
theorem eX5_prices_43 : (43, Instr.invokevirtual 65, 3, 61, 0, 156) ∈ kX5_prices := List.mem_of_getElem? (i := 20) rfl
theorem eX5_prices_46 : (46, Instr.if_icmp .gt 5, 3, 51, 0, 0) ∈ kX5_prices := List.mem_of_getElem? (i := 21) rfl
theorem eX5_prices_49 : (49, Instr.iconst 0, 1, 0, 0, 0) ∈ kX5_prices := List.mem_of_getElem? (i := 22) rfl
theorem eX5_prices_50 : (50, Instr.ireturn, 1, 1, 0, 0) ∈ kX5_prices := List.mem_of_getElem? (i := 23) rfl
theorem eX5_prices_51 : (51, Instr.aload_n 0, 1, 0, 0, 0) ∈ kX5_prices := List.mem_of_getElem? (i := 24) rfl
theorem eX5_prices_52 : (52, Instr.getfield 29, 3, 5, 6, 86) ∈ kX5_prices := List.mem_of_getElem? (i := 25) rfl
theorem eX5_prices_55 : (55, Instr.aload_n 0, 1, 0, 0, 0) ∈ kX5_prices := List.mem_of_getElem? (i := 26) rfl
theorem eX5_prices_56 : (56, Instr.getfield 62, 3, 5, 7, 87) ∈ kX5_prices := List.mem_of_getElem? (i := 27) rfl
theorem eX5_prices_59 : (59, Instr.new 27, 3, 2, 0, 60) ∈ kX5_prices := List.mem_of_getElem? (i := 28) rfl
theorem eX5_prices_62 : (62, Instr.dup, 1, 0, 0, 0) ∈ kX5_prices := List.mem_of_getElem? (i := 29) rfl
theorem eX5_prices_63 : (63, Instr.iload_n 1, 1, 0, 0, 0) ∈ kX5_prices := List.mem_of_getElem? (i := 30) rfl
theorem eX5_prices_64 : (64, Instr.iload_n 2, 1, 0, 0, 0) ∈ kX5_prices := List.mem_of_getElem? (i := 31) rfl
theorem eX5_prices_65 : (65, Instr.iload_n 3, 1, 0, 0, 0) ∈ kX5_prices := List.mem_of_getElem? (i := 32) rfl
theorem eX5_prices_66 : (66, Instr.iload 4, 2, 0, 0, 0) ∈ kX5_prices := List.mem_of_getElem? (i := 33) rfl
theorem eX5_prices_68 : (68, Instr.iload 5, 2, 0, 0, 0) ∈ kX5_prices := List.mem_of_getElem? (i := 34) rfl
theorem eX5_prices_70 : (70, Instr.invokespecial 69, 3, 10, 5, 161) ∈ kX5_prices := List.mem_of_getElem? (i := 35) rfl
theorem eX5_prices_73 : (73, Instr.aastore, 1, 0, 0, 0) ∈ kX5_prices := List.mem_of_getElem? (i := 36) rfl
theorem eX5_prices_74 : (74, Instr.aload_n 0, 1, 0, 0, 0) ∈ kX5_prices := List.mem_of_getElem? (i := 37) rfl
theorem eX5_prices_75 : (75, Instr.dup, 1, 0, 0, 0) ∈ kX5_prices := List.mem_of_getElem? (i := 38) rfl
theorem eX5_prices_76 : (76, Instr.getfield 62, 3, 5, 7, 87) ∈ kX5_prices := List.mem_of_getElem? (i := 39) rfl
theorem eX5_prices_79 : (79, Instr.iconst 1, 1, 0, 0, 0) ∈ kX5_prices := List.mem_of_getElem? (i := 40) rfl
theorem eX5_prices_80 : (80, Instr.iadd, 1, 0, 0, 0) ∈ kX5_prices := List.mem_of_getElem? (i := 41) rfl
theorem eX5_prices_81 : (81, Instr.putfield 62, 3, 5, 7, 87) ∈ kX5_prices := List.mem_of_getElem? (i := 42) rfl
theorem eX5_prices_84 : (84, Instr.iconst 1, 1, 0, 0, 0) ∈ kX5_prices := List.mem_of_getElem? (i := 43) rfl
theorem eX5_prices_85 : (85, Instr.ireturn, 1, 1, 0, 0) ∈ kX5_prices := List.mem_of_getElem? (i := 44) rfl
theorem aX5_shelf : am_m nX5_shelf = mX5_shelf := rfl
theorem eX5_shelf_0 : (0, Instr.iload_n 1, 1, 0, 0, 0) ∈ kX5_shelf := List.mem_of_getElem? (i := 0) rfl
theorem eX5_shelf_1 : (1, Instr.iconst 1, 1, 0, 0, 0) ∈ kX5_shelf := List.mem_of_getElem? (i := 1) rfl
theorem eX5_shelf_2 : (2, Instr.bipush 60, 2, 0, 0, 0) ∈ kX5_shelf := List.mem_of_getElem? (i := 2) rfl
theorem eX5_shelf_4 : (4, Instr.invokestatic 72, 3, 49, 3, 153) ∈ kX5_shelf := List.mem_of_getElem? (i := 3) rfl
theorem eX5_shelf_7 : (7, Instr.ifCond .eq 32, 3, 39, 0, 0) ∈ kX5_shelf := List.mem_of_getElem? (i := 4) rfl
theorem eX5_shelf_10 : (10, Instr.iload_n 2, 1, 0, 0, 0) ∈ kX5_shelf := List.mem_of_getElem? (i := 5) rfl
theorem eX5_shelf_11 : (11, Instr.iconst 0, 1, 0, 0, 0) ∈ kX5_shelf := List.mem_of_getElem? (i := 6) rfl
theorem eX5_shelf_12 : (12, Instr.iconst 2, 1, 0, 0, 0) ∈ kX5_shelf := List.mem_of_getElem? (i := 7) rfl
theorem eX5_shelf_13 : (13, Instr.invokestatic 72, 3, 49, 3, 153) ∈ kX5_shelf := List.mem_of_getElem? (i := 8) rfl
theorem eX5_shelf_16 : (16, Instr.ifCond .eq 23, 3, 39, 0, 0) ∈ kX5_shelf := List.mem_of_getElem? (i := 9) rfl
theorem eX5_shelf_19 : (19, Instr.iload 4, 2, 0, 0, 0) ∈ kX5_shelf := List.mem_of_getElem? (i := 10) rfl
theorem eX5_shelf_21 : (21, Instr.iconst 1, 1, 0, 0, 0) ∈ kX5_shelf := List.mem_of_getElem? (i := 11) rfl
theorem eX5_shelf_22 : (22, Instr.bipush 99, 2, 0, 0, 0) ∈ kX5_shelf := List.mem_of_getElem? (i := 12) rfl
theorem eX5_shelf_24 : (24, Instr.invokestatic 72, 3, 49, 3, 153) ∈ kX5_shelf := List.mem_of_getElem? (i := 13) rfl
theorem eX5_shelf_27 : (27, Instr.ifCond .eq 12, 3, 39, 0, 0) ∈ kX5_shelf := List.mem_of_getElem? (i := 14) rfl
theorem eX5_shelf_30 : (30, Instr.aload_n 0, 1, 0, 0, 0) ∈ kX5_shelf := List.mem_of_getElem? (i := 15) rfl
theorem eX5_shelf_31 : (31, Instr.getfield 76, 3, 5, 1, 81) ∈ kX5_shelf := List.mem_of_getElem? (i := 16) rfl
theorem eX5_shelf_34 : (34, Instr.bipush 16, 2, 0, 0, 0) ∈ kX5_shelf := List.mem_of_getElem? (i := 17) rfl
theorem eX5_shelf_36 : (36, Instr.if_icmp .lt 5, 3, 41, 0, 0) ∈ kX5_shelf := List.mem_of_getElem? (i := 18) rfl
theorem eX5_shelf_39 : (39, Instr.iconst (-1), 1, 0, 0, 0) ∈ kX5_shelf := List.mem_of_getElem? (i := 19) rfl
theorem eX5_shelf_40 : (40, Instr.ireturn, 1, 0, 0, 0) ∈ kX5_shelf := List.mem_of_getElem? (i := 20) rfl
theorem eX5_shelf_41 : (41, Instr.aload_n 0, 1, 0, 0, 0) ∈ kX5_shelf := List.mem_of_getElem? (i := 21) rfl
theorem eX5_shelf_42 : (42, Instr.getfield 76, 3, 5, 1, 81) ∈ kX5_shelf := List.mem_of_getElem? (i := 22) rfl
theorem eX5_shelf_45 : (45, Instr.istore 5, 2, 0, 0, 0) ∈ kX5_shelf := List.mem_of_getElem? (i := 23) rfl
theorem eX5_shelf_47 : (47, Instr.aload_n 0, 1, 0, 0, 0) ∈ kX5_shelf := List.mem_of_getElem? (i := 24) rfl
theorem eX5_shelf_48 : (48, Instr.getfield 11, 3, 5, 0, 80) ∈ kX5_shelf := List.mem_of_getElem? (i := 25) rfl
theorem eX5_shelf_51 : (51, Instr.iload 5, 2, 0, 0, 0) ∈ kX5_shelf := List.mem_of_getElem? (i := 26) rfl
theorem eX5_shelf_53 : (53, Instr.new 9, 3, 3, 0, 54) ∈ kX5_shelf := List.mem_of_getElem? (i := 27) rfl
theorem eX5_shelf_56 : (56, Instr.dup, 1, 0, 0, 0) ∈ kX5_shelf := List.mem_of_getElem? (i := 28) rfl
theorem eX5_shelf_57 : (57, Instr.iload 5, 2, 0, 0, 0) ∈ kX5_shelf := List.mem_of_getElem? (i := 29) rfl
theorem eX5_shelf_59 : (59, Instr.iload_n 1, 1, 0, 0, 0) ∈ kX5_shelf := List.mem_of_getElem? (i := 30) rfl
theorem eX5_shelf_60 : (60, Instr.iload_n 2, 1, 0, 0, 0) ∈ kX5_shelf := List.mem_of_getElem? (i := 31) rfl
theorem eX5_shelf_61 : (61, Instr.iload_n 3, 1, 0, 0, 0) ∈ kX5_shelf := List.mem_of_getElem? (i := 32) rfl
theorem eX5_shelf_62 : (62, Instr.iload 4, 2, 0, 0, 0) ∈ kX5_shelf := List.mem_of_getElem? (i := 33) rfl
theorem eX5_shelf_64 : (64, Instr.invokespecial 79, 3, 12, 5, 188) ∈ kX5_shelf := List.mem_of_getElem? (i := 34) rfl
theorem eX5_shelf_67 : (67, Instr.aastore, 1, 0, 0, 0) ∈ kX5_shelf := List.mem_of_getElem? (i := 35) rfl
theorem eX5_shelf_68 : (68, Instr.aload_n 0, 1, 0, 0, 0) ∈ kX5_shelf := List.mem_of_getElem? (i := 36) rfl
theorem eX5_shelf_69 : (69, Instr.dup, 1, 0, 0, 0) ∈ kX5_shelf := List.mem_of_getElem? (i := 37) rfl
theorem eX5_shelf_70 : (70, Instr.getfield 76, 3, 5, 1, 81) ∈ kX5_shelf := List.mem_of_getElem? (i := 38) rfl
theorem eX5_shelf_73 : (73, Instr.iconst 1, 1, 0, 0, 0) ∈ kX5_shelf := List.mem_of_getElem? (i := 39) rfl
theorem eX5_shelf_74 : (74, Instr.iadd, 1, 0, 0, 0) ∈ kX5_shelf := List.mem_of_getElem? (i := 40) rfl
theorem eX5_shelf_75 : (75, Instr.putfield 76, 3, 5, 1, 81) ∈ kX5_shelf := List.mem_of_getElem? (i := 41) rfl
theorem eX5_shelf_78 : (78, Instr.iload 5, 2, 0, 0, 0) ∈ kX5_shelf := List.mem_of_getElem? (i := 42) rfl
theorem eX5_shelf_80 : (80, Instr.ireturn, 1, 0, 0, 0) ∈ kX5_shelf := List.mem_of_getElem? (i := 43) rfl
theorem aX5_put : am_m nX5_put = mX5_put := rfl
theorem eX5_put_0 : (0, Instr.iload_n 1, 1, 0, 0, 0) ∈ kX5_put := List.mem_of_getElem? (i := 0) rfl
theorem eX5_put_1 : (1, Instr.iconst 1, 1, 0, 0, 0) ∈ kX5_put := List.mem_of_getElem? (i := 1) rfl
theorem eX5_put_2 : (2, Instr.bipush 20, 2, 0, 0, 0) ∈ kX5_put := List.mem_of_getElem? (i := 2) rfl
theorem eX5_put_4 : (4, Instr.invokestatic 72, 3, 49, 3, 153) ∈ kX5_put := List.mem_of_getElem? (i := 3) rfl
theorem eX5_put_7 : (7, Instr.ifCond .eq 34, 3, 41, 0, 0) ∈ kX5_put := List.mem_of_getElem? (i := 4) rfl
theorem eX5_put_10 : (10, Instr.iload_n 2, 1, 0, 0, 0) ∈ kX5_put := List.mem_of_getElem? (i := 5) rfl
theorem eX5_put_11 : (11, Instr.iconst 0, 1, 0, 0, 0) ∈ kX5_put := List.mem_of_getElem? (i := 6) rfl
theorem eX5_put_12 : (12, Instr.iconst 2, 1, 0, 0, 0) ∈ kX5_put := List.mem_of_getElem? (i := 7) rfl
theorem eX5_put_13 : (13, Instr.invokestatic 72, 3, 49, 3, 153) ∈ kX5_put := List.mem_of_getElem? (i := 8) rfl
theorem eX5_put_16 : (16, Instr.ifCond .eq 25, 3, 41, 0, 0) ∈ kX5_put := List.mem_of_getElem? (i := 9) rfl
theorem eX5_put_19 : (19, Instr.iload 5, 2, 0, 0, 0) ∈ kX5_put := List.mem_of_getElem? (i := 10) rfl
theorem eX5_put_21 : (21, Instr.iconst 0, 1, 0, 0, 0) ∈ kX5_put := List.mem_of_getElem? (i := 11) rfl
theorem eX5_put_22 : (22, Instr.ldc 82, 2, 65535, 0, 232) ∈ kX5_put := List.mem_of_getElem? (i := 12) rfl
theorem eX5_put_24 : (24, Instr.invokestatic 72, 3, 49, 3, 153) ∈ kX5_put := List.mem_of_getElem? (i := 13) rfl
theorem eX5_put_27 : (27, Instr.ifCond .eq 14, 3, 41, 0, 0) ∈ kX5_put := List.mem_of_getElem? (i := 14) rfl
theorem eX5_put_30 : (30, Instr.iload 6, 2, 0, 0, 0) ∈ kX5_put := List.mem_of_getElem? (i := 15) rfl
theorem eX5_put_32 : (32, Instr.iconst 0, 1, 0, 0, 0) ∈ kX5_put := List.mem_of_getElem? (i := 16) rfl
theorem eX5_put_33 : (33, Instr.ldc 48, 2, 100000, 0, 130) ∈ kX5_put := List.mem_of_getElem? (i := 17) rfl
theorem eX5_put_35 : (35, Instr.invokestatic 72, 3, 49, 3, 153) ∈ kX5_put := List.mem_of_getElem? (i := 18) rfl
theorem eX5_put_38 : (38, Instr.ifCond .ne 6, 3, 44, 0, 0) ∈ kX5_put := List.mem_of_getElem? (i := 19) rfl
theorem eX5_put_41 : (41, Instr.bipush (-2), 2, 0, 0, 0) ∈ kX5_put := List.mem_of_getElem? (i := 20) rfl
theorem eX5_put_43 : (43, Instr.ireturn, 1, 0, 0, 0) ∈ kX5_put := List.mem_of_getElem? (i := 21) rfl
theorem eX5_put_44 : (44, Instr.aload_n 0, 1, 0, 0, 0) ∈ kX5_put := List.mem_of_getElem? (i := 22) rfl
theorem eX5_put_45 : (45, Instr.invokevirtual 83, 3, 54, 0, 233) ∈ kX5_put := List.mem_of_getElem? (i := 23) rfl
theorem eX5_put_48 : (48, Instr.ifCond .ne 6, 3, 54, 0, 0) ∈ kX5_put := List.mem_of_getElem? (i := 24) rfl
theorem eX5_put_51 : (51, Instr.bipush (-3), 2, 0, 0, 0) ∈ kX5_put := List.mem_of_getElem? (i := 25) rfl
theorem eX5_put_53 : (53, Instr.ireturn, 1, 0, 0, 0) ∈ kX5_put := List.mem_of_getElem? (i := 26) rfl
theorem eX5_put_54 : (54, Instr.aload_n 0, 1, 0, 0, 0) ∈ kX5_put := List.mem_of_getElem? (i := 27) rfl
theorem eX5_put_55 : (55, Instr.getfield 87, 3, 5, 3, 83) ∈ kX5_put := List.mem_of_getElem? (i := 28) rfl
theorem eX5_put_58 : (58, Instr.bipush 120, 2, 0, 0, 0) ∈ kX5_put := List.mem_of_getElem? (i := 29) rfl
theorem eX5_put_60 : (60, Instr.if_icmp .lt 6, 3, 66, 0, 0) ∈ kX5_put := List.mem_of_getElem? (i := 30) rfl
theorem eX5_put_63 : (63, Instr.bipush (-4), 2, 0, 0, 0) ∈ kX5_put := List.mem_of_getElem? (i := 31) rfl
theorem eX5_put_65 : (65, Instr.ireturn, 1, 0, 0, 0) ∈ kX5_put := List.mem_of_getElem? (i := 32) rfl
theorem eX5_put_66 : (66, Instr.new 15, 3, 4, 0, 56) ∈ kX5_put := List.mem_of_getElem? (i := 33) rfl
theorem eX5_put_69 : (69, Instr.dup, 1, 0, 0, 0) ∈ kX5_put := List.mem_of_getElem? (i := 34) rfl
theorem eX5_put_70 : (70, Instr.iload_n 1, 1, 0, 0, 0) ∈ kX5_put := List.mem_of_getElem? (i := 35) rfl
theorem eX5_put_71 : (71, Instr.iload_n 2, 1, 0, 0, 0) ∈ kX5_put := List.mem_of_getElem? (i := 36) rfl
theorem eX5_put_72 : (72, Instr.iload_n 3, 1, 0, 0, 0) ∈ kX5_put := List.mem_of_getElem? (i := 37) rfl
theorem eX5_put_73 : (73, Instr.iload 4, 2, 0, 0, 0) ∈ kX5_put := List.mem_of_getElem? (i := 38) rfl
theorem eX5_put_75 : (75, Instr.iload 5, 2, 0, 0, 0) ∈ kX5_put := List.mem_of_getElem? (i := 39) rfl
theorem eX5_put_77 : (77, Instr.iload 6, 2, 0, 0, 0) ∈ kX5_put := List.mem_of_getElem? (i := 40) rfl
theorem eX5_put_79 : (79, Instr.aload_n 0, 1, 0, 0, 0) ∈ kX5_put := List.mem_of_getElem? (i := 41) rfl
theorem eX5_put_80 : (80, Instr.getfield 49, 3, 5, 10, 90) ∈ kX5_put := List.mem_of_getElem? (i := 42) rfl
theorem eX5_put_83 : (83, Instr.invokespecial 90, 3, 17, 7, 238) ∈ kX5_put := List.mem_of_getElem? (i := 43) rfl
theorem eX5_put_86 : (86, Instr.astore 7, 2, 0, 0, 0) ∈ kX5_put := List.mem_of_getElem? (i := 44) rfl
theorem eX5_put_88 : (88, Instr.aload_n 0, 1, 0, 0, 0) ∈ kX5_put := List.mem_of_getElem? (i := 45) rfl
theorem eX5_put_89 : (89, Instr.aload 7, 2, 0, 0, 0) ∈ kX5_put := List.mem_of_getElem? (i := 46) rfl
theorem eX5_put_91 : (91, Instr.invokevirtual 93, 3, 65, 1, 294) ∈ kX5_put := List.mem_of_getElem? (i := 47) rfl
theorem eX5_put_94 : (94, Instr.astore 8, 2, 0, 0, 0) ∈ kX5_put := List.mem_of_getElem? (i := 48) rfl
theorem eX5_put_96 : (96, Instr.aload 8, 2, 0, 0, 0) ∈ kX5_put := List.mem_of_getElem? (i := 49) rfl
theorem eX5_put_98 : (98, Instr.ifnonnull 6, 3, 104, 0, 0) ∈ kX5_put := List.mem_of_getElem? (i := 50) rfl
theorem eX5_put_101 : (101, Instr.bipush (-5), 2, 0, 0, 0) ∈ kX5_put := List.mem_of_getElem? (i := 51) rfl
theorem eX5_put_103 : (103, Instr.ireturn, 1, 0, 0, 0) ∈ kX5_put := List.mem_of_getElem? (i := 52) rfl
theorem eX5_put_104 : (104, Instr.aload_n 0, 1, 0, 0, 0) ∈ kX5_put := List.mem_of_getElem? (i := 53) rfl
theorem eX5_put_105 : (105, Instr.getfield 87, 3, 5, 3, 83) ∈ kX5_put := List.mem_of_getElem? (i := 54) rfl
theorem eX5_put_108 : (108, Instr.istore 9, 2, 0, 0, 0) ∈ kX5_put := List.mem_of_getElem? (i := 55) rfl
theorem eX5_put_110 : (110, Instr.aload_n 0, 1, 0, 0, 0) ∈ kX5_put := List.mem_of_getElem? (i := 56) rfl
theorem eX5_put_111 : (111, Instr.getfield 17, 3, 5, 2, 82) ∈ kX5_put := List.mem_of_getElem? (i := 57) rfl
theorem eX5_put_114 : (114, Instr.iload 9, 2, 0, 0, 0) ∈ kX5_put := List.mem_of_getElem? (i := 58) rfl
theorem eX5_put_116 : (116, Instr.aload 7, 2, 0, 0, 0) ∈ kX5_put := List.mem_of_getElem? (i := 59) rfl
theorem eX5_put_118 : (118, Instr.aastore, 1, 0, 0, 0) ∈ kX5_put := List.mem_of_getElem? (i := 60) rfl
theorem eX5_put_119 : (119, Instr.aload_n 0, 1, 0, 0, 0) ∈ kX5_put := List.mem_of_getElem? (i := 61) rfl
theorem eX5_put_120 : (120, Instr.dup, 1, 0, 0, 0) ∈ kX5_put := List.mem_of_getElem? (i := 62) rfl
theorem eX5_put_121 : (121, Instr.getfield 87, 3, 5, 3, 83) ∈ kX5_put := List.mem_of_getElem? (i := 63) rfl
theorem eX5_put_124 : (124, Instr.iconst 1, 1, 0, 0, 0) ∈ kX5_put := List.mem_of_getElem? (i := 64) rfl
theorem eX5_put_125 : (125, Instr.iadd, 1, 0, 0, 0) ∈ kX5_put := List.mem_of_getElem? (i := 65) rfl
theorem eX5_put_126 : (126, Instr.putfield 87, 3, 5, 3, 83) ∈ kX5_put := List.mem_of_getElem? (i := 66) rfl
theorem eX5_put_129 : (129, Instr.aload 8, 2, 0, 0, 0) ∈ kX5_put := List.mem_of_getElem? (i := 67) rfl
theorem eX5_put_131 : (131, Instr.aload 7, 2, 0, 0, 0) ∈ kX5_put := List.mem_of_getElem? (i := 68) rfl
theorem eX5_put_133 : (133, Instr.invokevirtual 97, 3, 15, 1, 327) ∈ kX5_put := List.mem_of_getElem? (i := 69) rfl
theorem eX5_put_136 : (136, Instr.aload_n 0, 1, 0, 0, 0) ∈ kX5_put := List.mem_of_getElem? (i := 70) rfl
theorem eX5_put_137 : (137, Instr.dup, 1, 0, 0, 0) ∈ kX5_put := List.mem_of_getElem? (i := 71) rfl
theorem eX5_put_138 : (138, Instr.getfield 101, 3, 5, 14, 94) ∈ kX5_put := List.mem_of_getElem? (i := 72) rfl
theorem eX5_put_141 : (141, Instr.iconst 2, 1, 0, 0, 0) ∈ kX5_put := List.mem_of_getElem? (i := 73) rfl
theorem eX5_put_142 : (142, Instr.aload 8, 2, 0, 0, 0) ∈ kX5_put := List.mem_of_getElem? (i := 74) rfl
theorem eX5_put_144 : (144, Instr.getfield 104, 3, 3, 4, 203) ∈ kX5_put := List.mem_of_getElem? (i := 75) rfl
theorem eX5_put_147 : (147, Instr.imul, 1, 0, 0, 0) ∈ kX5_put := List.mem_of_getElem? (i := 76) rfl
theorem eX5_put_148 : (148, Instr.iadd, 1, 0, 0, 0) ∈ kX5_put := List.mem_of_getElem? (i := 77) rfl
theorem eX5_put_149 : (149, Instr.putfield 101, 3, 5, 14, 94) ∈ kX5_put := List.mem_of_getElem? (i := 78) rfl
theorem eX5_put_152 : (152, Instr.iload 9, 2, 0, 0, 0) ∈ kX5_put := List.mem_of_getElem? (i := 79) rfl
theorem eX5_put_154 : (154, Instr.invokestatic 107, 3, 58, 1, 331) ∈ kX5_put := List.mem_of_getElem? (i := 80) rfl
theorem eX5_put_157 : (157, Instr.ireturn, 1, 0, 0, 0) ∈ kX5_put := List.mem_of_getElem? (i := 81) rfl
theorem aX5_fee : am_m nX5_fee = mX5_fee := rfl
theorem eX5_fee_0 : (0, Instr.iload_n 1, 1, 0, 0, 0) ∈ kX5_fee := List.mem_of_getElem? (i := 0) rfl
theorem eX5_fee_1 : (1, Instr.invokestatic 111, 3, 60, 1, 341) ∈ kX5_fee := List.mem_of_getElem? (i := 1) rfl
theorem eX5_fee_4 : (4, Instr.ifCond .ne 6, 3, 10, 0, 0) ∈ kX5_fee := List.mem_of_getElem? (i := 2) rfl
theorem eX5_fee_7 : (7, Instr.bipush (-2), 2, 0, 0, 0) ∈ kX5_fee := List.mem_of_getElem? (i := 3) rfl
theorem eX5_fee_9 : (9, Instr.ireturn, 1, 0, 0, 0) ∈ kX5_fee := List.mem_of_getElem? (i := 4) rfl
theorem eX5_fee_10 : (10, Instr.aload_n 0, 1, 0, 0, 0) ∈ kX5_fee := List.mem_of_getElem? (i := 5) rfl
theorem eX5_fee_11 : (11, Instr.iload_n 1, 1, 0, 0, 0) ∈ kX5_fee := List.mem_of_getElem? (i := 6) rfl
theorem eX5_fee_12 : (12, Instr.bipush 100, 2, 0, 0, 0) ∈ kX5_fee := List.mem_of_getElem? (i := 7) rfl
theorem eX5_fee_14 : (14, Instr.idiv, 1, 0, 0, 0) ∈ kX5_fee := List.mem_of_getElem? (i := 8) rfl
theorem eX5_fee_15 : (15, Instr.invokevirtual 114, 3, 56, 1, 344) ∈ kX5_fee := List.mem_of_getElem? (i := 9) rfl
theorem eX5_fee_18 : (18, Instr.astore_n 2, 1, 0, 0, 0) ∈ kX5_fee := List.mem_of_getElem? (i := 10) rfl
theorem eX5_fee_19 : (19, Instr.aload_n 2, 1, 0, 0, 0) ∈ kX5_fee := List.mem_of_getElem? (i := 11) rfl
theorem eX5_fee_20 : (20, Instr.ifnonnull 6, 3, 26, 0, 0) ∈ kX5_fee := List.mem_of_getElem? (i := 12) rfl
theorem eX5_fee_23 : (23, Instr.bipush (-3), 2, 0, 0, 0) ∈ kX5_fee := List.mem_of_getElem? (i := 13) rfl
theorem eX5_fee_25 : (25, Instr.ireturn, 1, 0, 0, 0) ∈ kX5_fee := List.mem_of_getElem? (i := 14) rfl
theorem eX5_fee_26 : (26, Instr.aload_n 2, 1, 0, 0, 0) ∈ kX5_fee := List.mem_of_getElem? (i := 15) rfl
theorem eX5_fee_27 : (27, Instr.getfield 118, 3, 4, 7, 264) ∈ kX5_fee := List.mem_of_getElem? (i := 16) rfl
theorem eX5_fee_30 : (30, Instr.ifCond .eq 14, 3, 44, 0, 0) ∈ kX5_fee := List.mem_of_getElem? (i := 17) rfl
theorem eX5_fee_33 : (33, Instr.aload_n 2, 1, 0, 0, 0) ∈ kX5_fee := List.mem_of_getElem? (i := 18) rfl
theorem eX5_fee_34 : (34, Instr.getfield 118, 3, 4, 7, 264) ∈ kX5_fee := List.mem_of_getElem? (i := 19) rfl
theorem eX5_fee_37 : (37, Instr.iconst 2, 1, 0, 0, 0) ∈ kX5_fee := List.mem_of_getElem? (i := 20) rfl
theorem eX5_fee_38 : (38, Instr.if_icmp .eq 6, 3, 44, 0, 0) ∈ kX5_fee := List.mem_of_getElem? (i := 21) rfl
theorem eX5_fee_41 : (41, Instr.bipush (-4), 2, 0, 0, 0) ∈ kX5_fee := List.mem_of_getElem? (i := 22) rfl
theorem eX5_fee_43 : (43, Instr.ireturn, 1, 0, 0, 0) ∈ kX5_fee := List.mem_of_getElem? (i := 23) rfl
theorem eX5_fee_44 : (44, Instr.aload_n 0, 1, 0, 0, 0) ∈ kX5_fee := List.mem_of_getElem? (i := 24) rfl
theorem eX5_fee_45 : (45, Instr.aload_n 2, 1, 0, 0, 0) ∈ kX5_fee := List.mem_of_getElem? (i := 25) rfl
theorem eX5_fee_46 : (46, Instr.invokevirtual 121, 3, 63, 1, 348) ∈ kX5_fee := List.mem_of_getElem? (i := 26) rfl
theorem eX5_fee_49 : (49, Instr.ireturn, 1, 0, 0, 0) ∈ kX5_fee := List.mem_of_getElem? (i := 27) rfl
theorem aX5_give : am_m nX5_give = mX5_give := rfl
theorem eX5_give_0 : (0, Instr.aload_n 0, 1, 0, 0, 0) ∈ kX5_give := List.mem_of_getElem? (i := 0) rfl
theorem eX5_give_1 : (1, Instr.iload_n 1, 1, 0, 0, 0) ∈ kX5_give := List.mem_of_getElem? (i := 1) rfl
theorem eX5_give_2 : (2, Instr.invokevirtual 125, 3, 31, 1, 369) ∈ kX5_give := List.mem_of_getElem? (i := 2) rfl
theorem eX5_give_5 : (5, Instr.istore_n 2, 1, 0, 0, 0) ∈ kX5_give := List.mem_of_getElem? (i := 3) rfl
theorem eX5_give_6 : (6, Instr.aload_n 0, 1, 0, 0, 0) ∈ kX5_give := List.mem_of_getElem? (i := 4) rfl
theorem eX5_give_7 : (7, Instr.iload_n 1, 1, 0, 0, 0) ∈ kX5_give := List.mem_of_getElem? (i := 5) rfl
theorem eX5_give_8 : (8, Instr.bipush 100, 2, 0, 0, 0) ∈ kX5_give := List.mem_of_getElem? (i := 6) rfl
theorem eX5_give_10 : (10, Instr.idiv, 1, 0, 0, 0) ∈ kX5_give := List.mem_of_getElem? (i := 7) rfl
theorem eX5_give_11 : (11, Instr.invokevirtual 114, 3, 56, 1, 344) ∈ kX5_give := List.mem_of_getElem? (i := 8) rfl
theorem eX5_give_14 : (14, Instr.astore_n 3, 1, 0, 0, 0) ∈ kX5_give := List.mem_of_getElem? (i := 9) rfl
theorem eX5_give_15 : (15, Instr.iload_n 2, 1, 0, 0, 0) ∈ kX5_give := List.mem_of_getElem? (i := 10) rfl
theorem eX5_give_16 : (16, Instr.ifCond .lt 7, 3, 23, 0, 0) ∈ kX5_give := List.mem_of_getElem? (i := 11) rfl
theorem eX5_give_19 : (19, Instr.aload_n 3, 1, 0, 0, 0) ∈ kX5_give := List.mem_of_getElem? (i := 12) rfl
theorem eX5_give_20 : (20, Instr.ifnonnull 5, 3, 25, 0, 0) ∈ kX5_give := List.mem_of_getElem? (i := 13) rfl
theorem eX5_give_23 : (23, Instr.iload_n 2, 1, 0, 0, 0) ∈ kX5_give := List.mem_of_getElem? (i := 14) rfl
theorem eX5_give_24 : (24, Instr.ireturn, 1, 0, 0, 0) ∈ kX5_give := List.mem_of_getElem? (i := 15) rfl
theorem eX5_give_25 : (25, Instr.aload_n 3, 1, 0, 0, 0) ∈ kX5_give := List.mem_of_getElem? (i := 16) rfl
theorem eX5_give_26 : (26, Instr.getfield 118, 3, 4, 7, 264) ∈ kX5_give := List.mem_of_getElem? (i := 17) rfl
theorem eX5_give_29 : (29, Instr.iconst 2, 1, 0, 0, 0) ∈ kX5_give := List.mem_of_getElem? (i := 18) rfl
theorem eX5_give_30 : (30, Instr.if_icmp .ne 6, 3, 36, 0, 0) ∈ kX5_give := List.mem_of_getElem? (i := 19) rfl
theorem eX5_give_33 : (33, Instr.bipush (-5), 2, 0, 0, 0) ∈ kX5_give := List.mem_of_getElem? (i := 20) rfl
theorem eX5_give_35 : (35, Instr.ireturn, 1, 0, 0, 0) ∈ kX5_give := List.mem_of_getElem? (i := 21) rfl
theorem eX5_give_36 : (36, Instr.aload_n 0, 1, 0, 0, 0) ∈ kX5_give := List.mem_of_getElem? (i := 22) rfl
theorem eX5_give_37 : (37, Instr.invokevirtual 83, 3, 54, 0, 233) ∈ kX5_give := List.mem_of_getElem? (i := 23) rfl
theorem eX5_give_40 : (40, Instr.ifCond .ne 6, 3, 46, 0, 0) ∈ kX5_give := List.mem_of_getElem? (i := 24) rfl
theorem eX5_give_43 : (43, Instr.bipush (-6), 2, 0, 0, 0) ∈ kX5_give := List.mem_of_getElem? (i := 25) rfl
theorem eX5_give_45 : (45, Instr.ireturn, 1, 0, 0, 0) ∈ kX5_give := List.mem_of_getElem? (i := 26) rfl
theorem eX5_give_46 : (46, Instr.aload_n 3, 1, 0, 0, 0) ∈ kX5_give := List.mem_of_getElem? (i := 27) rfl
theorem eX5_give_47 : (47, Instr.invokevirtual 128, 3, 24, 0, 370) ∈ kX5_give := List.mem_of_getElem? (i := 28) rfl
theorem eX5_give_50 : (50, Instr.ifCond .eq 6, 3, 56, 0, 0) ∈ kX5_give := List.mem_of_getElem? (i := 29) rfl
theorem eX5_give_53 : (53, Instr.bipush (-7), 2, 0, 0, 0) ∈ kX5_give := List.mem_of_getElem? (i := 30) rfl
theorem eX5_give_55 : (55, Instr.ireturn, 1, 0, 0, 0) ∈ kX5_give := List.mem_of_getElem? (i := 31) rfl
theorem eX5_give_56 : (56, Instr.aload_n 0, 1, 0, 0, 0) ∈ kX5_give := List.mem_of_getElem? (i := 32) rfl
theorem eX5_give_57 : (57, Instr.aload_n 3, 1, 0, 0, 0) ∈ kX5_give := List.mem_of_getElem? (i := 33) rfl
theorem eX5_give_58 : (58, Instr.iconst 1, 1, 0, 0, 0) ∈ kX5_give := List.mem_of_getElem? (i := 34) rfl
theorem eX5_give_59 : (59, Instr.invokevirtual 131, 3, 67, 2, 374) ∈ kX5_give := List.mem_of_getElem? (i := 35) rfl
theorem eX5_give_62 : (62, Instr.aload_n 0, 1, 0, 0, 0) ∈ kX5_give := List.mem_of_getElem? (i := 36) rfl
theorem eX5_give_63 : (63, Instr.dup, 1, 0, 0, 0) ∈ kX5_give := List.mem_of_getElem? (i := 37) rfl
theorem eX5_give_64 : (64, Instr.getfield 135, 3, 5, 13, 93) ∈ kX5_give := List.mem_of_getElem? (i := 38) rfl
theorem eX5_give_67 : (67, Instr.iload_n 2, 1, 0, 0, 0) ∈ kX5_give := List.mem_of_getElem? (i := 39) rfl
theorem eX5_give_68 : (68, Instr.iadd, 1, 0, 0, 0) ∈ kX5_give := List.mem_of_getElem? (i := 40) rfl
theorem eX5_give_69 : (69, Instr.putfield 135, 3, 5, 13, 93) ∈ kX5_give := List.mem_of_getElem? (i := 41) rfl
theorem eX5_give_72 : (72, Instr.iload_n 2, 1, 0, 0, 0) ∈ kX5_give := List.mem_of_getElem? (i := 42) rfl
theorem eX5_give_73 : (73, Instr.ireturn, 1, 0, 0, 0) ∈ kX5_give := List.mem_of_getElem? (i := 43) rfl
theorem aX5_claim : am_m nX5_claim = mX5_claim := rfl
theorem eX5_claim_0 : (0, Instr.aload_n 0, 1, 0, 0, 0) ∈ kX5_claim := List.mem_of_getElem? (i := 0) rfl
theorem eX5_claim_1 : (1, Instr.getfield 138, 3, 5, 5, 85) ∈ kX5_claim := List.mem_of_getElem? (i := 1) rfl
theorem eX5_claim_4 : (4, Instr.bipush 40, 2, 0, 0, 0) ∈ kX5_claim := List.mem_of_getElem? (i := 2) rfl
theorem eX5_claim_6 : (6, Instr.if_icmp .lt 5, 3, 11, 0, 0) ∈ kX5_claim := List.mem_of_getElem? (i := 3) rfl
theorem eX5_claim_9 : (9, Instr.iconst (-1), 1, 0, 0, 0) ∈ kX5_claim := List.mem_of_getElem? (i := 4) rfl
theorem eX5_claim_10 : (10, Instr.ireturn, 1, 0, 0, 0) ∈ kX5_claim := List.mem_of_getElem? (i := 5) rfl
theorem eX5_claim_11 : (11, Instr.aload_n 0, 1, 0, 0, 0) ∈ kX5_claim := List.mem_of_getElem? (i := 6) rfl
theorem eX5_claim_12 : (12, Instr.getfield 138, 3, 5, 5, 85) ∈ kX5_claim := List.mem_of_getElem? (i := 7) rfl
theorem eX5_claim_15 : (15, Instr.istore_n 1, 1, 0, 0, 0) ∈ kX5_claim := List.mem_of_getElem? (i := 8) rfl
theorem eX5_claim_16 : (16, Instr.aload_n 0, 1, 0, 0, 0) ∈ kX5_claim := List.mem_of_getElem? (i := 9) rfl
theorem eX5_claim_17 : (17, Instr.getfield 23, 3, 5, 4, 84) ∈ kX5_claim := List.mem_of_getElem? (i := 10) rfl
theorem eX5_claim_20 : (20, Instr.iload_n 1, 1, 0, 0, 0) ∈ kX5_claim := List.mem_of_getElem? (i := 11) rfl
theorem eX5_claim_21 : (21, Instr.new 21, 3, 1, 0, 58) ∈ kX5_claim := List.mem_of_getElem? (i := 12) rfl
theorem eX5_claim_24 : (24, Instr.dup, 1, 0, 0, 0) ∈ kX5_claim := List.mem_of_getElem? (i := 13) rfl
theorem eX5_claim_25 : (25, Instr.invokespecial 141, 3, 7, 0, 387) ∈ kX5_claim := List.mem_of_getElem? (i := 14) rfl
theorem eX5_claim_28 : (28, Instr.aastore, 1, 0, 0, 0) ∈ kX5_claim := List.mem_of_getElem? (i := 15) rfl
theorem eX5_claim_29 : (29, Instr.aload_n 0, 1, 0, 0, 0) ∈ kX5_claim := List.mem_of_getElem? (i := 16) rfl
theorem eX5_claim_30 : (30, Instr.dup, 1, 0, 0, 0) ∈ kX5_claim := List.mem_of_getElem? (i := 17) rfl
theorem eX5_claim_31 : (31, Instr.getfield 138, 3, 5, 5, 85) ∈ kX5_claim := List.mem_of_getElem? (i := 18) rfl
theorem eX5_claim_34 : (34, Instr.iconst 1, 1, 0, 0, 0) ∈ kX5_claim := List.mem_of_getElem? (i := 19) rfl
theorem eX5_claim_35 : (35, Instr.iadd, 1, 0, 0, 0) ∈ kX5_claim := List.mem_of_getElem? (i := 20) rfl
theorem eX5_claim_36 : (36, Instr.putfield 138, 3, 5, 5, 85) ∈ kX5_claim := List.mem_of_getElem? (i := 21) rfl
theorem eX5_claim_39 : (39, Instr.iload_n 1, 1, 0, 0, 0) ∈ kX5_claim := List.mem_of_getElem? (i := 22) rfl
theorem eX5_claim_40 : (40, Instr.ireturn, 1, 0, 0, 0) ∈ kX5_claim := List.mem_of_getElem? (i := 23) rfl
theorem aX5_mark : am_m nX5_mark = mX5_mark := rfl
theorem eX5_mark_0 : (0, Instr.aload_n 0, 1, 0, 0, 0) ∈ kX5_mark := List.mem_of_getElem? (i := 0) rfl
theorem eX5_mark_1 : (1, Instr.iload_n 1, 1, 0, 0, 0) ∈ kX5_mark := List.mem_of_getElem? (i := 1) rfl
theorem eX5_mark_2 : (2, Instr.invokevirtual 142, 3, 57, 1, 407) ∈ kX5_mark := List.mem_of_getElem? (i := 2) rfl
theorem eX5_mark_5 : (5, Instr.astore 4, 2, 0, 0, 0) ∈ kX5_mark := List.mem_of_getElem? (i := 3) rfl
theorem eX5_mark_7 : (7, Instr.aload 4, 2, 0, 0, 0) ∈ kX5_mark := List.mem_of_getElem? (i := 4) rfl
theorem eX5_mark_9 : (9, Instr.ifnull 20, 3, 29, 0, 0) ∈ kX5_mark := List.mem_of_getElem? (i := 5) rfl
theorem eX5_mark_12 : (12, Instr.aload 4, 2, 0, 0, 0) ∈ kX5_mark := List.mem_of_getElem? (i := 6) rfl
theorem eX5_mark_14 : (14, Instr.getfield 146, 3, 1, 1, 393) ∈ kX5_mark := List.mem_of_getElem? (i := 7) rfl
theorem eX5_mark_17 : (17, Instr.ifCond .ne 12, 3, 29, 0, 0) ∈ kX5_mark := List.mem_of_getElem? (i := 8) rfl
theorem eX5_mark_20 : (20, Instr.iload_n 2, 1, 0, 0, 0) ∈ kX5_mark := List.mem_of_getElem? (i := 9) rfl
theorem eX5_mark_21 : (21, Instr.iconst 0, 1, 0, 0, 0) ∈ kX5_mark := List.mem_of_getElem? (i := 10) rfl
theorem eX5_mark_22 : (22, Instr.iconst 3, 1, 0, 0, 0) ∈ kX5_mark := List.mem_of_getElem? (i := 11) rfl
theorem eX5_mark_23 : (23, Instr.invokestatic 72, 3, 49, 3, 153) ∈ kX5_mark := List.mem_of_getElem? (i := 12) rfl
theorem eX5_mark_26 : (26, Instr.ifCond .ne 5, 3, 31, 0, 0) ∈ kX5_mark := List.mem_of_getElem? (i := 13) rfl
theorem eX5_mark_29 : (29, Instr.iconst (-1), 1, 0, 0, 0) ∈ kX5_mark := List.mem_of_getElem? (i := 14) rfl
theorem eX5_mark_30 : (30, Instr.ireturn, 1, 0, 0, 0) ∈ kX5_mark := List.mem_of_getElem? (i := 15) rfl
theorem eX5_mark_31 : (31, Instr.iload_n 3, 1, 0, 0, 0) ∈ kX5_mark := List.mem_of_getElem? (i := 16) rfl
theorem eX5_mark_32 : (32, Instr.iconst (-1), 1, 0, 0, 0) ∈ kX5_mark := List.mem_of_getElem? (i := 17) rfl
theorem eX5_mark_33 : (33, Instr.if_icmp .eq 15, 3, 48, 0, 0) ∈ kX5_mark := List.mem_of_getElem? (i := 18) rfl
theorem eX5_mark_36 : (36, Instr.iload_n 3, 1, 0, 0, 0) ∈ kX5_mark := List.mem_of_getElem? (i := 19) rfl
theorem eX5_mark_37 : (37, Instr.iconst 0, 1, 0, 0, 0) ∈ kX5_mark := List.mem_of_getElem? (i := 20) rfl
theorem eX5_mark_38 : (38, Instr.bipush 15, 2, 0, 0, 0) ∈ kX5_mark := List.mem_of_getElem? (i := 21) rfl
theorem eX5_mark_40 : (40, Instr.invokestatic 72, 3, 49, 3, 153) ∈ kX5_mark := List.mem_of_getElem? (i := 22) rfl
theorem eX5_mark_43 : (43, Instr.ifCond .ne 5, 3, 48, 0, 0) ∈ kX5_mark := List.mem_of_getElem? (i := 23) rfl
theorem eX5_mark_46 : (46, Instr.iconst (-1), 1, 0, 0, 0) ∈ kX5_mark := List.mem_of_getElem? (i := 24) rfl
theorem eX5_mark_47 : (47, Instr.ireturn, 1, 0, 0, 0) ∈ kX5_mark := List.mem_of_getElem? (i := 25) rfl
theorem eX5_mark_48 : (48, Instr.aload 4, 2, 0, 0, 0) ∈ kX5_mark := List.mem_of_getElem? (i := 26) rfl
theorem eX5_mark_50 : (50, Instr.getfield 150, 3, 1, 0, 392) ∈ kX5_mark := List.mem_of_getElem? (i := 27) rfl
theorem eX5_mark_53 : (53, Instr.iload_n 2, 1, 0, 0, 0) ∈ kX5_mark := List.mem_of_getElem? (i := 28) rfl
theorem eX5_mark_54 : (54, Instr.iload_n 3, 1, 0, 0, 0) ∈ kX5_mark := List.mem_of_getElem? (i := 29) rfl
theorem eX5_mark_55 : (55, Instr.iastore, 1, 0, 0, 0) ∈ kX5_mark := List.mem_of_getElem? (i := 30) rfl
theorem eX5_mark_56 : (56, Instr.aload_n 0, 1, 0, 0, 0) ∈ kX5_mark := List.mem_of_getElem? (i := 31) rfl
theorem eX5_mark_57 : (57, Instr.aload 4, 2, 0, 0, 0) ∈ kX5_mark := List.mem_of_getElem? (i := 32) rfl
theorem eX5_mark_59 : (59, Instr.invokevirtual 153, 3, 68, 1, 411) ∈ kX5_mark := List.mem_of_getElem? (i := 33) rfl
theorem eX5_mark_62 : (62, Instr.ireturn, 1, 0, 0, 0) ∈ kX5_mark := List.mem_of_getElem? (i := 34) rfl
theorem aX5_means : am_m nX5_means = mX5_means := rfl
theorem eX5_means_0 : (0, Instr.aload_n 0, 1, 0, 0, 0) ∈ kX5_means := List.mem_of_getElem? (i := 0) rfl
theorem eX5_means_1 : (1, Instr.iload_n 1, 1, 0, 0, 0) ∈ kX5_means := List.mem_of_getElem? (i := 1) rfl
theorem eX5_means_2 : (2, Instr.invokevirtual 142, 3, 57, 1, 407) ∈ kX5_means := List.mem_of_getElem? (i := 2) rfl
theorem eX5_means_5 : (5, Instr.astore_n 2, 1, 0, 0, 0) ∈ kX5_means := List.mem_of_getElem? (i := 3) rfl
theorem eX5_means_6 : (6, Instr.aload_n 2, 1, 0, 0, 0) ∈ kX5_means := List.mem_of_getElem? (i := 4) rfl
theorem eX5_means_7 : (7, Instr.ifnonnull 7, 3, 14, 0, 0) ∈ kX5_means := List.mem_of_getElem? (i := 5) rfl
theorem eX5_means_10 : (10, Instr.iconst (-1), 1, 0, 0, 0) ∈ kX5_means := List.mem_of_getElem? (i := 6) rfl
theorem eX5_means_11 : (11, Instr.goto 8, 3, 19, 0, 0) ∈ kX5_means := List.mem_of_getElem? (i := 7) rfl
theorem eX5_means_14 : (14, Instr.aload_n 0, 1, 0, 0, 0) ∈ kX5_means := List.mem_of_getElem? (i := 8) rfl
theorem eX5_means_15 : (15, Instr.aload_n 2, 1, 0, 0, 0) ∈ kX5_means := List.mem_of_getElem? (i := 9) rfl
theorem eX5_means_16 : (16, Instr.invokevirtual 153, 3, 68, 1, 411) ∈ kX5_means := List.mem_of_getElem? (i := 10) rfl
theorem eX5_means_19 : (19, Instr.ireturn, 1, 0, 0, 0) ∈ kX5_means := List.mem_of_getElem? (i := 11) rfl
theorem aX5_ask : am_m nX5_ask = mX5_ask := rfl
theorem eX5_ask_0 : (0, Instr.aload_n 0, 1, 0, 0, 0) ∈ kX5_ask := List.mem_of_getElem? (i := 0) rfl
theorem eX5_ask_1 : (1, Instr.iload_n 1, 1, 0, 0, 0) ∈ kX5_ask := List.mem_of_getElem? (i := 1) rfl
theorem eX5_ask_2 : (2, Instr.invokevirtual 142, 3, 57, 1, 407) ∈ kX5_ask := List.mem_of_getElem? (i := 2) rfl
theorem eX5_ask_5 : (5, Instr.astore_n 2, 1, 0, 0, 0) ∈ kX5_ask := List.mem_of_getElem? (i := 3) rfl
theorem eX5_ask_6 : (6, Instr.aload_n 2, 1, 0, 0, 0) ∈ kX5_ask := List.mem_of_getElem? (i := 4) rfl
theorem eX5_ask_7 : (7, Instr.ifnull 19, 3, 26, 0, 0) ∈ kX5_ask := List.mem_of_getElem? (i := 5) rfl
theorem eX5_ask_10 : (10, Instr.aload_n 2, 1, 0, 0, 0) ∈ kX5_ask := List.mem_of_getElem? (i := 6) rfl
theorem eX5_ask_11 : (11, Instr.getfield 146, 3, 1, 1, 393) ∈ kX5_ask := List.mem_of_getElem? (i := 7) rfl
theorem eX5_ask_14 : (14, Instr.ifCond .ne 12, 3, 26, 0, 0) ∈ kX5_ask := List.mem_of_getElem? (i := 8) rfl
theorem eX5_ask_17 : (17, Instr.aload_n 0, 1, 0, 0, 0) ∈ kX5_ask := List.mem_of_getElem? (i := 9) rfl
theorem eX5_ask_18 : (18, Instr.aload_n 2, 1, 0, 0, 0) ∈ kX5_ask := List.mem_of_getElem? (i := 10) rfl
theorem eX5_ask_19 : (19, Instr.invokevirtual 153, 3, 68, 1, 411) ∈ kX5_ask := List.mem_of_getElem? (i := 11) rfl
theorem eX5_ask_22 : (22, Instr.iconst 2, 1, 0, 0, 0) ∈ kX5_ask := List.mem_of_getElem? (i := 12) rfl
theorem eX5_ask_23 : (23, Instr.if_icmp .ge 5, 3, 28, 0, 0) ∈ kX5_ask := List.mem_of_getElem? (i := 13) rfl
theorem eX5_ask_26 : (26, Instr.iconst (-1), 1, 0, 0, 0) ∈ kX5_ask := List.mem_of_getElem? (i := 14) rfl
theorem eX5_ask_27 : (27, Instr.ireturn, 1, 0, 0, 0) ∈ kX5_ask := List.mem_of_getElem? (i := 15) rfl
theorem eX5_ask_28 : (28, Instr.iconst (-1), 1, 0, 0, 0) ∈ kX5_ask := List.mem_of_getElem? (i := 16) rfl
theorem eX5_ask_29 : (29, Instr.istore_n 3, 1, 0, 0, 0) ∈ kX5_ask := List.mem_of_getElem? (i := 17) rfl
theorem eX5_ask_30 : (30, Instr.bipush 121, 2, 0, 0, 0) ∈ kX5_ask := List.mem_of_getElem? (i := 18) rfl
theorem eX5_ask_32 : (32, Instr.istore 4, 2, 0, 0, 0) ∈ kX5_ask := List.mem_of_getElem? (i := 19) rfl
theorem eX5_ask_34 : (34, Instr.iconst 0, 1, 0, 0, 0) ∈ kX5_ask := List.mem_of_getElem? (i := 20) rfl
theorem eX5_ask_35 : (35, Instr.istore 5, 2, 0, 0, 0) ∈ kX5_ask := List.mem_of_getElem? (i := 21) rfl
theorem eX5_ask_37 : (37, Instr.iload 5, 2, 0, 0, 0) ∈ kX5_ask := List.mem_of_getElem? (i := 22) rfl
theorem eX5_ask_39 : (39, Instr.iconst 4, 1, 0, 0, 0) ∈ kX5_ask := List.mem_of_getElem? (i := 23) rfl
theorem eX5_ask_40 : (40, Instr.if_icmp .ge 46, 3, 86, 0, 0) ∈ kX5_ask := List.mem_of_getElem? (i := 24) rfl
theorem eX5_ask_43 : (43, Instr.aload_n 2, 1, 0, 0, 0) ∈ kX5_ask := List.mem_of_getElem? (i := 25) rfl
theorem eX5_ask_44 : (44, Instr.getfield 150, 3, 1, 0, 392) ∈ kX5_ask := List.mem_of_getElem? (i := 26) rfl
theorem eX5_ask_47 : (47, Instr.iload 5, 2, 0, 0, 0) ∈ kX5_ask := List.mem_of_getElem? (i := 27) rfl
theorem eX5_ask_49 : (49, Instr.iaload, 1, 0, 0, 0) ∈ kX5_ask := List.mem_of_getElem? (i := 28) rfl
theorem eX5_ask_50 : (50, Instr.iconst (-1), 1, 0, 0, 0) ∈ kX5_ask := List.mem_of_getElem? (i := 29) rfl
theorem eX5_ask_51 : (51, Instr.if_icmp .eq 6, 3, 57, 0, 0) ∈ kX5_ask := List.mem_of_getElem? (i := 30) rfl
theorem eX5_ask_54 : (54, Instr.goto 26, 3, 80, 0, 0) ∈ kX5_ask := List.mem_of_getElem? (i := 31) rfl
theorem eX5_ask_57 : (57, Instr.aload_n 0, 1, 0, 0, 0) ∈ kX5_ask := List.mem_of_getElem? (i := 32) rfl
theorem eX5_ask_58 : (58, Instr.aload_n 2, 1, 0, 0, 0) ∈ kX5_ask := List.mem_of_getElem? (i := 33) rfl
theorem eX5_ask_59 : (59, Instr.iload 5, 2, 0, 0, 0) ∈ kX5_ask := List.mem_of_getElem? (i := 34) rfl
theorem eX5_ask_61 : (61, Instr.invokevirtual 157, 3, 70, 2, 431) ∈ kX5_ask := List.mem_of_getElem? (i := 35) rfl
theorem eX5_ask_64 : (64, Instr.istore 6, 2, 0, 0, 0) ∈ kX5_ask := List.mem_of_getElem? (i := 36) rfl
theorem eX5_ask_66 : (66, Instr.iload 6, 2, 0, 0, 0) ∈ kX5_ask := List.mem_of_getElem? (i := 37) rfl
theorem eX5_ask_68 : (68, Instr.iload 4, 2, 0, 0, 0) ∈ kX5_ask := List.mem_of_getElem? (i := 38) rfl
theorem eX5_ask_70 : (70, Instr.if_icmp .ge 10, 3, 80, 0, 0) ∈ kX5_ask := List.mem_of_getElem? (i := 39) rfl
theorem eX5_ask_73 : (73, Instr.iload 6, 2, 0, 0, 0) ∈ kX5_ask := List.mem_of_getElem? (i := 40) rfl
theorem eX5_ask_75 : (75, Instr.istore 4, 2, 0, 0, 0) ∈ kX5_ask := List.mem_of_getElem? (i := 41) rfl
theorem eX5_ask_77 : (77, Instr.iload 5, 2, 0, 0, 0) ∈ kX5_ask := List.mem_of_getElem? (i := 42) rfl
theorem eX5_ask_79 : (79, Instr.istore_n 3, 1, 0, 0, 0) ∈ kX5_ask := List.mem_of_getElem? (i := 43) rfl
theorem eX5_ask_80 : (80, Instr.iinc 5 1, 3, 0, 0, 0) ∈ kX5_ask := List.mem_of_getElem? (i := 44) rfl
theorem eX5_ask_83 : (83, Instr.goto (-46), 3, 37, 0, 0) ∈ kX5_ask := List.mem_of_getElem? (i := 45) rfl
theorem eX5_ask_86 : (86, Instr.iload_n 3, 1, 0, 0, 0) ∈ kX5_ask := List.mem_of_getElem? (i := 46) rfl
theorem eX5_ask_87 : (87, Instr.ireturn, 1, 0, 0, 0) ∈ kX5_ask := List.mem_of_getElem? (i := 47) rfl
theorem aX5_settle : am_m nX5_settle = mX5_settle := rfl
theorem eX5_settle_0 : (0, Instr.aload_n 0, 1, 0, 0, 0) ∈ kX5_settle := List.mem_of_getElem? (i := 0) rfl
theorem eX5_settle_1 : (1, Instr.iload_n 1, 1, 0, 0, 0) ∈ kX5_settle := List.mem_of_getElem? (i := 1) rfl
theorem eX5_settle_2 : (2, Instr.invokevirtual 142, 3, 57, 1, 407) ∈ kX5_settle := List.mem_of_getElem? (i := 2) rfl
theorem eX5_settle_5 : (5, Instr.astore_n 2, 1, 0, 0, 0) ∈ kX5_settle := List.mem_of_getElem? (i := 3) rfl
theorem eX5_settle_6 : (6, Instr.aload_n 2, 1, 0, 0, 0) ∈ kX5_settle := List.mem_of_getElem? (i := 4) rfl
theorem eX5_settle_7 : (7, Instr.ifnull 10, 3, 17, 0, 0) ∈ kX5_settle := List.mem_of_getElem? (i := 5) rfl
theorem eX5_settle_10 : (10, Instr.aload_n 2, 1, 0, 0, 0) ∈ kX5_settle := List.mem_of_getElem? (i := 6) rfl
theorem eX5_settle_11 : (11, Instr.getfield 146, 3, 1, 1, 393) ∈ kX5_settle := List.mem_of_getElem? (i := 7) rfl
theorem eX5_settle_14 : (14, Instr.ifCond .eq 6, 3, 20, 0, 0) ∈ kX5_settle := List.mem_of_getElem? (i := 8) rfl
theorem eX5_settle_17 : (17, Instr.bipush (-2), 2, 0, 0, 0) ∈ kX5_settle := List.mem_of_getElem? (i := 9) rfl
theorem eX5_settle_19 : (19, Instr.ireturn, 1, 0, 0, 0) ∈ kX5_settle := List.mem_of_getElem? (i := 10) rfl
theorem eX5_settle_20 : (20, Instr.aload_n 2, 1, 0, 0, 0) ∈ kX5_settle := List.mem_of_getElem? (i := 11) rfl
theorem eX5_settle_21 : (21, Instr.invokevirtual 161, 3, 8, 0, 441) ∈ kX5_settle := List.mem_of_getElem? (i := 12) rfl
theorem eX5_settle_24 : (24, Instr.iconst 3, 1, 0, 0, 0) ∈ kX5_settle := List.mem_of_getElem? (i := 13) rfl
theorem eX5_settle_25 : (25, Instr.if_icmp .ge 6, 3, 31, 0, 0) ∈ kX5_settle := List.mem_of_getElem? (i := 14) rfl
theorem eX5_settle_28 : (28, Instr.bipush (-3), 2, 0, 0, 0) ∈ kX5_settle := List.mem_of_getElem? (i := 15) rfl
theorem eX5_settle_30 : (30, Instr.ireturn, 1, 0, 0, 0) ∈ kX5_settle := List.mem_of_getElem? (i := 16) rfl
theorem eX5_settle_31 : (31, Instr.aload_n 0, 1, 0, 0, 0) ∈ kX5_settle := List.mem_of_getElem? (i := 17) rfl
theorem eX5_settle_32 : (32, Instr.aload_n 2, 1, 0, 0, 0) ∈ kX5_settle := List.mem_of_getElem? (i := 18) rfl
theorem eX5_settle_33 : (33, Instr.invokevirtual 164, 3, 69, 1, 445) ∈ kX5_settle := List.mem_of_getElem? (i := 19) rfl
theorem eX5_settle_36 : (36, Instr.istore_n 3, 1, 0, 0, 0) ∈ kX5_settle := List.mem_of_getElem? (i := 20) rfl
theorem eX5_settle_37 : (37, Instr.aload_n 0, 1, 0, 0, 0) ∈ kX5_settle := List.mem_of_getElem? (i := 21) rfl
theorem eX5_settle_38 : (38, Instr.iload_n 3, 1, 0, 0, 0) ∈ kX5_settle := List.mem_of_getElem? (i := 22) rfl
theorem eX5_settle_39 : (39, Instr.invokevirtual 114, 3, 56, 1, 344) ∈ kX5_settle := List.mem_of_getElem? (i := 23) rfl
theorem eX5_settle_42 : (42, Instr.astore 4, 2, 0, 0, 0) ∈ kX5_settle := List.mem_of_getElem? (i := 24) rfl
theorem eX5_settle_44 : (44, Instr.aload 4, 2, 0, 0, 0) ∈ kX5_settle := List.mem_of_getElem? (i := 25) rfl
theorem eX5_settle_46 : (46, Instr.ifnonnull 6, 3, 52, 0, 0) ∈ kX5_settle := List.mem_of_getElem? (i := 26) rfl
theorem eX5_settle_49 : (49, Instr.bipush (-4), 2, 0, 0, 0) ∈ kX5_settle := List.mem_of_getElem? (i := 27) rfl
theorem eX5_settle_51 : (51, Instr.ireturn, 1, 0, 0, 0) ∈ kX5_settle := List.mem_of_getElem? (i := 28) rfl
theorem eX5_settle_52 : (52, Instr.aload_n 0, 1, 0, 0, 0) ∈ kX5_settle := List.mem_of_getElem? (i := 29) rfl
theorem eX5_settle_53 : (53, Instr.aload_n 2, 1, 0, 0, 0) ∈ kX5_settle := List.mem_of_getElem? (i := 30) rfl
theorem eX5_settle_54 : (54, Instr.invokevirtual 153, 3, 68, 1, 411) ∈ kX5_settle := List.mem_of_getElem? (i := 31) rfl
theorem eX5_settle_57 : (57, Instr.iconst 1, 1, 0, 0, 0) ∈ kX5_settle := List.mem_of_getElem? (i := 32) rfl
theorem eX5_settle_58 : (58, Instr.if_icmp .le 6, 3, 64, 0, 0) ∈ kX5_settle := List.mem_of_getElem? (i := 33) rfl
theorem eX5_settle_61 : (61, Instr.bipush (-5), 2, 0, 0, 0) ∈ kX5_settle := List.mem_of_getElem? (i := 34) rfl
theorem eX5_settle_63 : (63, Instr.ireturn, 1, 0, 0, 0) ∈ kX5_settle := List.mem_of_getElem? (i := 35) rfl
theorem eX5_settle_64 : (64, Instr.aload_n 0, 1, 0, 0, 0) ∈ kX5_settle := List.mem_of_getElem? (i := 36) rfl
theorem eX5_settle_65 : (65, Instr.aload_n 2, 1, 0, 0, 0) ∈ kX5_settle := List.mem_of_getElem? (i := 37) rfl
theorem eX5_settle_66 : (66, Instr.aload 4, 2, 0, 0, 0) ∈ kX5_settle := List.mem_of_getElem? (i := 38) rfl
theorem eX5_settle_68 : (68, Instr.invokevirtual 167, 3, 71, 2, 449) ∈ kX5_settle := List.mem_of_getElem? (i := 39) rfl
theorem eX5_settle_71 : (71, Instr.ifCond .eq 6, 3, 77, 0, 0) ∈ kX5_settle := List.mem_of_getElem? (i := 40) rfl
theorem eX5_settle_74 : (74, Instr.bipush (-6), 2, 0, 0, 0) ∈ kX5_settle := List.mem_of_getElem? (i := 41) rfl
theorem eX5_settle_76 : (76, Instr.ireturn, 1, 0, 0, 0) ∈ kX5_settle := List.mem_of_getElem? (i := 42) rfl
theorem eX5_settle_77 : (77, Instr.aload_n 0, 1, 0, 0, 0) ∈ kX5_settle := List.mem_of_getElem? (i := 43) rfl
theorem eX5_settle_78 : (78, Instr.invokevirtual 83, 3, 54, 0, 233) ∈ kX5_settle := List.mem_of_getElem? (i := 44) rfl
theorem eX5_settle_81 : (81, Instr.ifCond .ne 6, 3, 87, 0, 0) ∈ kX5_settle := List.mem_of_getElem? (i := 45) rfl
theorem eX5_settle_84 : (84, Instr.bipush (-7), 2, 0, 0, 0) ∈ kX5_settle := List.mem_of_getElem? (i := 46) rfl
theorem eX5_settle_86 : (86, Instr.ireturn, 1, 0, 0, 0) ∈ kX5_settle := List.mem_of_getElem? (i := 47) rfl
theorem eX5_settle_87 : (87, Instr.aload 4, 2, 0, 0, 0) ∈ kX5_settle := List.mem_of_getElem? (i := 48) rfl
theorem eX5_settle_89 : (89, Instr.invokevirtual 128, 3, 24, 0, 370) ∈ kX5_settle := List.mem_of_getElem? (i := 49) rfl
theorem eX5_settle_92 : (92, Instr.ifCond .eq 6, 3, 98, 0, 0) ∈ kX5_settle := List.mem_of_getElem? (i := 50) rfl
theorem eX5_settle_95 : (95, Instr.bipush (-8), 2, 0, 0, 0) ∈ kX5_settle := List.mem_of_getElem? (i := 51) rfl
theorem eX5_settle_97 : (97, Instr.ireturn, 1, 0, 0, 0) ∈ kX5_settle := List.mem_of_getElem? (i := 52) rfl
theorem eX5_settle_98 : (98, Instr.aload_n 0, 1, 0, 0, 0) ∈ kX5_settle := List.mem_of_getElem? (i := 53) rfl
theorem eX5_settle_99 : (99, Instr.aload 4, 2, 0, 0, 0) ∈ kX5_settle := List.mem_of_getElem? (i := 54) rfl
theorem eX5_settle_101 : (101, Instr.invokevirtual 121, 3, 63, 1, 348) ∈ kX5_settle := List.mem_of_getElem? (i := 55) rfl
theorem eX5_settle_104 : (104, Instr.sipush 500, 3, 0, 0, 0) ∈ kX5_settle := List.mem_of_getElem? (i := 56) rfl
theorem eX5_settle_107 : (107, Instr.iadd, 1, 0, 0, 0) ∈ kX5_settle := List.mem_of_getElem? (i := 57) rfl
theorem eX5_settle_108 : (108, Instr.istore 5, 2, 0, 0, 0) ∈ kX5_settle := List.mem_of_getElem? (i := 58) rfl
theorem eX5_settle_110 : (110, Instr.aload_n 0, 1, 0, 0, 0) ∈ kX5_settle := List.mem_of_getElem? (i := 59) rfl
theorem eX5_settle_111 : (111, Instr.aload 4, 2, 0, 0, 0) ∈ kX5_settle := List.mem_of_getElem? (i := 60) rfl
theorem eX5_settle_113 : (113, Instr.iconst 1, 1, 0, 0, 0) ∈ kX5_settle := List.mem_of_getElem? (i := 61) rfl
theorem eX5_settle_114 : (114, Instr.invokevirtual 131, 3, 67, 2, 374) ∈ kX5_settle := List.mem_of_getElem? (i := 62) rfl
theorem eX5_settle_117 : (117, Instr.aload_n 0, 1, 0, 0, 0) ∈ kX5_settle := List.mem_of_getElem? (i := 63) rfl
theorem eX5_settle_118 : (118, Instr.dup, 1, 0, 0, 0) ∈ kX5_settle := List.mem_of_getElem? (i := 64) rfl
theorem eX5_settle_119 : (119, Instr.getfield 135, 3, 5, 13, 93) ∈ kX5_settle := List.mem_of_getElem? (i := 65) rfl
theorem eX5_settle_122 : (122, Instr.iload 5, 2, 0, 0, 0) ∈ kX5_settle := List.mem_of_getElem? (i := 66) rfl
theorem eX5_settle_124 : (124, Instr.iadd, 1, 0, 0, 0) ∈ kX5_settle := List.mem_of_getElem? (i := 67) rfl
theorem eX5_settle_125 : (125, Instr.putfield 135, 3, 5, 13, 93) ∈ kX5_settle := List.mem_of_getElem? (i := 68) rfl
theorem eX5_settle_128 : (128, Instr.aload_n 2, 1, 0, 0, 0) ∈ kX5_settle := List.mem_of_getElem? (i := 69) rfl
theorem eX5_settle_129 : (129, Instr.iconst 1, 1, 0, 0, 0) ∈ kX5_settle := List.mem_of_getElem? (i := 70) rfl
theorem eX5_settle_130 : (130, Instr.putfield 146, 3, 1, 1, 393) ∈ kX5_settle := List.mem_of_getElem? (i := 71) rfl
theorem eX5_settle_133 : (133, Instr.aload_n 2, 1, 0, 0, 0) ∈ kX5_settle := List.mem_of_getElem? (i := 72) rfl
theorem eX5_settle_134 : (134, Instr.iload_n 3, 1, 0, 0, 0) ∈ kX5_settle := List.mem_of_getElem? (i := 73) rfl
theorem eX5_settle_135 : (135, Instr.putfield 171, 3, 1, 2, 395) ∈ kX5_settle := List.mem_of_getElem? (i := 74) rfl
theorem eX5_settle_138 : (138, Instr.iload 5, 2, 0, 0, 0) ∈ kX5_settle := List.mem_of_getElem? (i := 75) rfl
theorem eX5_settle_140 : (140, Instr.ireturn, 1, 0, 0, 0) ∈ kX5_settle := List.mem_of_getElem? (i := 76) rfl
theorem aX5_misfit : am_m nX5_misfit = mX5_misfit := rfl
theorem eX5_misfit_0 : (0, Instr.iconst 0, 1, 0, 0, 0) ∈ kX5_misfit := List.mem_of_getElem? (i := 0) rfl
theorem eX5_misfit_1 : (1, Instr.istore_n 1, 1, 0, 0, 0) ∈ kX5_misfit := List.mem_of_getElem? (i := 1) rfl
theorem eX5_misfit_2 : (2, Instr.iconst 0, 1, 0, 0, 0) ∈ kX5_misfit := List.mem_of_getElem? (i := 2) rfl
theorem eX5_misfit_3 : (3, Instr.istore_n 2, 1, 0, 0, 0) ∈ kX5_misfit := List.mem_of_getElem? (i := 3) rfl
theorem eX5_misfit_4 : (4, Instr.iload_n 2, 1, 0, 0, 0) ∈ kX5_misfit := List.mem_of_getElem? (i := 4) rfl
theorem eX5_misfit_5 : (5, Instr.aload_n 0, 1, 0, 0, 0) ∈ kX5_misfit := List.mem_of_getElem? (i := 5) rfl
theorem eX5_misfit_6 : (6, Instr.getfield 87, 3, 5, 3, 83) ∈ kX5_misfit := List.mem_of_getElem? (i := 6) rfl
theorem eX5_misfit_9 : (9, Instr.if_icmp .ge 38, 3, 47, 0, 0) ∈ kX5_misfit := List.mem_of_getElem? (i := 7) rfl
theorem eX5_misfit_12 : (12, Instr.aload_n 0, 1, 0, 0, 0) ∈ kX5_misfit := List.mem_of_getElem? (i := 8) rfl
theorem eX5_misfit_13 : (13, Instr.getfield 17, 3, 5, 2, 82) ∈ kX5_misfit := List.mem_of_getElem? (i := 9) rfl
theorem eX5_misfit_16 : (16, Instr.iload_n 2, 1, 0, 0, 0) ∈ kX5_misfit := List.mem_of_getElem? (i := 10) rfl
theorem eX5_misfit_17 : (17, Instr.aaload, 1, 0, 0, 0) ∈ kX5_misfit := List.mem_of_getElem? (i := 11) rfl
theorem eX5_misfit_18 : (18, Instr.astore_n 3, 1, 0, 0, 0) ∈ kX5_misfit := List.mem_of_getElem? (i := 12) rfl
theorem eX5_misfit_19 : (19, Instr.aload_n 3, 1, 0, 0, 0) ∈ kX5_misfit := List.mem_of_getElem? (i := 13) rfl
theorem eX5_misfit_20 : (20, Instr.ifnull 21, 3, 41, 0, 0) ∈ kX5_misfit := List.mem_of_getElem? (i := 14) rfl
theorem eX5_misfit_23 : (23, Instr.aload_n 3, 1, 0, 0, 0) ∈ kX5_misfit := List.mem_of_getElem? (i := 15) rfl
theorem eX5_misfit_24 : (24, Instr.getfield 118, 3, 4, 7, 264) ∈ kX5_misfit := List.mem_of_getElem? (i := 16) rfl
theorem eX5_misfit_27 : (27, Instr.ifCond .ne 14, 3, 41, 0, 0) ∈ kX5_misfit := List.mem_of_getElem? (i := 17) rfl
theorem eX5_misfit_30 : (30, Instr.iload_n 1, 1, 0, 0, 0) ∈ kX5_misfit := List.mem_of_getElem? (i := 18) rfl
theorem eX5_misfit_31 : (31, Instr.aload_n 3, 1, 0, 0, 0) ∈ kX5_misfit := List.mem_of_getElem? (i := 19) rfl
theorem eX5_misfit_32 : (32, Instr.aload_n 0, 1, 0, 0, 0) ∈ kX5_misfit := List.mem_of_getElem? (i := 20) rfl
theorem eX5_misfit_33 : (33, Instr.getfield 49, 3, 5, 10, 90) ∈ kX5_misfit := List.mem_of_getElem? (i := 21) rfl
theorem eX5_misfit_36 : (36, Instr.invokevirtual 174, 3, 22, 1, 457) ∈ kX5_misfit := List.mem_of_getElem? (i := 22) rfl
theorem eX5_misfit_39 : (39, Instr.iadd, 1, 0, 0, 0) ∈ kX5_misfit := List.mem_of_getElem? (i := 23) rfl
theorem eX5_misfit_40 : (40, Instr.istore_n 1, 1, 0, 0, 0) ∈ kX5_misfit := List.mem_of_getElem? (i := 24) rfl
theorem eX5_misfit_41 : (41, Instr.iinc 2 1, 3, 0, 0, 0) ∈ kX5_misfit := List.mem_of_getElem? (i := 25) rfl
theorem eX5_misfit_44 : (44, Instr.goto (-40), 3, 4, 0, 0) ∈ kX5_misfit := List.mem_of_getElem? (i := 26) rfl
theorem eX5_misfit_47 : (47, Instr.iload_n 1, 1, 0, 0, 0) ∈ kX5_misfit := List.mem_of_getElem? (i := 27) rfl
theorem eX5_misfit_48 : (48, Instr.ireturn, 1, 0, 0, 0) ∈ kX5_misfit := List.mem_of_getElem? (i := 28) rfl
theorem aX5_tidy : am_m nX5_tidy = mX5_tidy := rfl
theorem eX5_tidy_0 : (0, Instr.iload_n 1, 1, 0, 0, 0) ∈ kX5_tidy := List.mem_of_getElem? (i := 0) rfl
theorem eX5_tidy_1 : (1, Instr.iconst 0, 1, 0, 0, 0) ∈ kX5_tidy := List.mem_of_getElem? (i := 1) rfl
theorem eX5_tidy_2 : (2, Instr.bipush 50, 2, 0, 0, 0) ∈ kX5_tidy := List.mem_of_getElem? (i := 2) rfl
theorem eX5_tidy_4 : (4, Instr.invokestatic 72, 3, 49, 3, 153) ∈ kX5_tidy := List.mem_of_getElem? (i := 3) rfl
theorem eX5_tidy_7 : (7, Instr.ifCond .eq 10, 3, 17, 0, 0) ∈ kX5_tidy := List.mem_of_getElem? (i := 4) rfl
theorem eX5_tidy_10 : (10, Instr.aload_n 0, 1, 0, 0, 0) ∈ kX5_tidy := List.mem_of_getElem? (i := 5) rfl
theorem eX5_tidy_11 : (11, Instr.invokevirtual 83, 3, 54, 0, 233) ∈ kX5_tidy := List.mem_of_getElem? (i := 6) rfl
theorem eX5_tidy_14 : (14, Instr.ifCond .eq 5, 3, 19, 0, 0) ∈ kX5_tidy := List.mem_of_getElem? (i := 7) rfl
theorem eX5_tidy_17 : (17, Instr.iconst (-1), 1, 0, 0, 0) ∈ kX5_tidy := List.mem_of_getElem? (i := 8) rfl
theorem eX5_tidy_18 : (18, Instr.ireturn, 1, 0, 0, 0) ∈ kX5_tidy := List.mem_of_getElem? (i := 9) rfl
theorem eX5_tidy_19 : (19, Instr.iconst 0, 1, 0, 0, 0) ∈ kX5_tidy := List.mem_of_getElem? (i := 10) rfl
theorem eX5_tidy_20 : (20, Instr.istore_n 2, 1, 0, 0, 0) ∈ kX5_tidy := List.mem_of_getElem? (i := 11) rfl
theorem eX5_tidy_21 : (21, Instr.iload_n 2, 1, 0, 0, 0) ∈ kX5_tidy := List.mem_of_getElem? (i := 12) rfl
theorem eX5_tidy_22 : (22, Instr.iload_n 1, 1, 0, 0, 0) ∈ kX5_tidy := List.mem_of_getElem? (i := 13) rfl
theorem eX5_tidy_23 : (23, Instr.if_icmp .ge 16, 3, 39, 0, 0) ∈ kX5_tidy := List.mem_of_getElem? (i := 14) rfl
theorem eX5_tidy_26 : (26, Instr.aload_n 0, 1, 0, 0, 0) ∈ kX5_tidy := List.mem_of_getElem? (i := 15) rfl
theorem eX5_tidy_27 : (27, Instr.invokevirtual 177, 3, 72, 0, 466) ∈ kX5_tidy := List.mem_of_getElem? (i := 16) rfl
theorem eX5_tidy_30 : (30, Instr.ifCond .eq 9, 3, 39, 0, 0) ∈ kX5_tidy := List.mem_of_getElem? (i := 17) rfl
theorem eX5_tidy_33 : (33, Instr.iinc 2 1, 3, 0, 0, 0) ∈ kX5_tidy := List.mem_of_getElem? (i := 18) rfl
theorem eX5_tidy_36 : (36, Instr.goto (-15), 3, 21, 0, 0) ∈ kX5_tidy := List.mem_of_getElem? (i := 19) rfl
theorem eX5_tidy_39 : (39, Instr.iload_n 2, 1, 0, 0, 0) ∈ kX5_tidy := List.mem_of_getElem? (i := 20) rfl
theorem eX5_tidy_40 : (40, Instr.ireturn, 1, 0, 0, 0) ∈ kX5_tidy := List.mem_of_getElem? (i := 21) rfl
theorem aX5_least : am_m nX5_least = mX5_least := rfl
theorem eX5_least_0 : (0, Instr.aload_n 0, 1, 0, 0, 0) ∈ kX5_least := List.mem_of_getElem? (i := 0) rfl
theorem eX5_least_1 : (1, Instr.getfield 40, 3, 5, 9, 89) ∈ kX5_least := List.mem_of_getElem? (i := 1) rfl
theorem eX5_least_4 : (4, Instr.invokevirtual 180, 3, 1, 0, 482) ∈ kX5_least := List.mem_of_getElem? (i := 2) rfl
theorem eX5_least_7 : (7, Instr.iconst 0, 1, 0, 0, 0) ∈ kX5_least := List.mem_of_getElem? (i := 3) rfl
theorem eX5_least_8 : (8, Instr.istore_n 1, 1, 0, 0, 0) ∈ kX5_least := List.mem_of_getElem? (i := 4) rfl
theorem eX5_least_9 : (9, Instr.iconst 0, 1, 0, 0, 0) ∈ kX5_least := List.mem_of_getElem? (i := 5) rfl
theorem eX5_least_10 : (10, Instr.istore_n 2, 1, 0, 0, 0) ∈ kX5_least := List.mem_of_getElem? (i := 6) rfl
theorem eX5_least_11 : (11, Instr.iload_n 2, 1, 0, 0, 0) ∈ kX5_least := List.mem_of_getElem? (i := 7) rfl
theorem eX5_least_12 : (12, Instr.aload_n 0, 1, 0, 0, 0) ∈ kX5_least := List.mem_of_getElem? (i := 8) rfl
theorem eX5_least_13 : (13, Instr.getfield 87, 3, 5, 3, 83) ∈ kX5_least := List.mem_of_getElem? (i := 9) rfl
theorem eX5_least_16 : (16, Instr.if_icmp .ge 64, 3, 80, 0, 0) ∈ kX5_least := List.mem_of_getElem? (i := 10) rfl
theorem eX5_least_19 : (19, Instr.aload_n 0, 1, 0, 0, 0) ∈ kX5_least := List.mem_of_getElem? (i := 11) rfl
theorem eX5_least_20 : (20, Instr.getfield 17, 3, 5, 2, 82) ∈ kX5_least := List.mem_of_getElem? (i := 12) rfl
theorem eX5_least_23 : (23, Instr.iload_n 2, 1, 0, 0, 0) ∈ kX5_least := List.mem_of_getElem? (i := 13) rfl
theorem eX5_least_24 : (24, Instr.aaload, 1, 0, 0, 0) ∈ kX5_least := List.mem_of_getElem? (i := 14) rfl
theorem eX5_least_25 : (25, Instr.astore_n 3, 1, 0, 0, 0) ∈ kX5_least := List.mem_of_getElem? (i := 15) rfl
theorem eX5_least_26 : (26, Instr.aload_n 3, 1, 0, 0, 0) ∈ kX5_least := List.mem_of_getElem? (i := 16) rfl
theorem eX5_least_27 : (27, Instr.ifnull 47, 3, 74, 0, 0) ∈ kX5_least := List.mem_of_getElem? (i := 17) rfl
theorem eX5_least_30 : (30, Instr.aload_n 3, 1, 0, 0, 0) ∈ kX5_least := List.mem_of_getElem? (i := 18) rfl
theorem eX5_least_31 : (31, Instr.getfield 118, 3, 4, 7, 264) ∈ kX5_least := List.mem_of_getElem? (i := 19) rfl
theorem eX5_least_34 : (34, Instr.ifCond .eq 6, 3, 40, 0, 0) ∈ kX5_least := List.mem_of_getElem? (i := 20) rfl
theorem eX5_least_37 : (37, Instr.goto 37, 3, 74, 0, 0) ∈ kX5_least := List.mem_of_getElem? (i := 21) rfl
theorem eX5_least_40 : (40, Instr.aload_n 3, 1, 0, 0, 0) ∈ kX5_least := List.mem_of_getElem? (i := 22) rfl
theorem eX5_least_41 : (41, Instr.invokevirtual 128, 3, 24, 0, 370) ∈ kX5_least := List.mem_of_getElem? (i := 23) rfl
theorem eX5_least_44 : (44, Instr.ifCond .eq 17, 3, 61, 0, 0) ∈ kX5_least := List.mem_of_getElem? (i := 24) rfl
theorem eX5_least_47 : (47, Instr.iload_n 1, 1, 0, 0, 0) ∈ kX5_least := List.mem_of_getElem? (i := 25) rfl
theorem eX5_least_48 : (48, Instr.aload_n 3, 1, 0, 0, 0) ∈ kX5_least := List.mem_of_getElem? (i := 26) rfl
theorem eX5_least_49 : (49, Instr.aload_n 0, 1, 0, 0, 0) ∈ kX5_least := List.mem_of_getElem? (i := 27) rfl
theorem eX5_least_50 : (50, Instr.getfield 49, 3, 5, 10, 90) ∈ kX5_least := List.mem_of_getElem? (i := 28) rfl
theorem eX5_least_53 : (53, Instr.invokevirtual 174, 3, 22, 1, 457) ∈ kX5_least := List.mem_of_getElem? (i := 29) rfl
theorem eX5_least_56 : (56, Instr.iadd, 1, 0, 0, 0) ∈ kX5_least := List.mem_of_getElem? (i := 30) rfl
theorem eX5_least_57 : (57, Instr.istore_n 1, 1, 0, 0, 0) ∈ kX5_least := List.mem_of_getElem? (i := 31) rfl
theorem eX5_least_58 : (58, Instr.goto 16, 3, 74, 0, 0) ∈ kX5_least := List.mem_of_getElem? (i := 32) rfl
theorem eX5_least_61 : (61, Instr.aload_n 0, 1, 0, 0, 0) ∈ kX5_least := List.mem_of_getElem? (i := 33) rfl
theorem eX5_least_62 : (62, Instr.getfield 40, 3, 5, 9, 89) ∈ kX5_least := List.mem_of_getElem? (i := 34) rfl
theorem eX5_least_65 : (65, Instr.aload_n 3, 1, 0, 0, 0) ∈ kX5_least := List.mem_of_getElem? (i := 35) rfl
theorem eX5_least_66 : (66, Instr.invokevirtual 183, 3, 2, 1, 487) ∈ kX5_least := List.mem_of_getElem? (i := 36) rfl
theorem eX5_least_69 : (69, Instr.ifCond .ne 5, 3, 74, 0, 0) ∈ kX5_least := List.mem_of_getElem? (i := 37) rfl
theorem eX5_least_72 : (72, Instr.iconst (-1), 1, 0, 0, 0) ∈ kX5_least := List.mem_of_getElem? (i := 38) rfl
theorem eX5_least_73 : (73, Instr.ireturn, 1, 0, 0, 0) ∈ kX5_least := List.mem_of_getElem? (i := 39) rfl
theorem eX5_least_74 : (74, Instr.iinc 2 1, 3, 0, 0, 0) ∈ kX5_least := List.mem_of_getElem? (i := 40) rfl
theorem eX5_least_77 : (77, Instr.goto (-66), 3, 11, 0, 0) ∈ kX5_least := List.mem_of_getElem? (i := 41) rfl
theorem eX5_least_80 : (80, Instr.iconst 0, 1, 0, 0, 0) ∈ kX5_least := List.mem_of_getElem? (i := 42) rfl
theorem eX5_least_81 : (81, Instr.istore_n 2, 1, 0, 0, 0) ∈ kX5_least := List.mem_of_getElem? (i := 43) rfl
theorem eX5_least_82 : (82, Instr.iload_n 2, 1, 0, 0, 0) ∈ kX5_least := List.mem_of_getElem? (i := 44) rfl
theorem eX5_least_83 : (83, Instr.aload_n 0, 1, 0, 0, 0) ∈ kX5_least := List.mem_of_getElem? (i := 45) rfl
theorem eX5_least_84 : (84, Instr.getfield 76, 3, 5, 1, 81) ∈ kX5_least := List.mem_of_getElem? (i := 46) rfl
theorem eX5_least_87 : (87, Instr.if_icmp .ge 39, 3, 126, 0, 0) ∈ kX5_least := List.mem_of_getElem? (i := 47) rfl
theorem eX5_least_90 : (90, Instr.aload_n 0, 1, 0, 0, 0) ∈ kX5_least := List.mem_of_getElem? (i := 48) rfl
theorem eX5_least_91 : (91, Instr.getfield 11, 3, 5, 0, 80) ∈ kX5_least := List.mem_of_getElem? (i := 49) rfl
theorem eX5_least_94 : (94, Instr.iload_n 2, 1, 0, 0, 0) ∈ kX5_least := List.mem_of_getElem? (i := 50) rfl
theorem eX5_least_95 : (95, Instr.aaload, 1, 0, 0, 0) ∈ kX5_least := List.mem_of_getElem? (i := 51) rfl
theorem eX5_least_96 : (96, Instr.astore_n 3, 1, 0, 0, 0) ∈ kX5_least := List.mem_of_getElem? (i := 52) rfl
theorem eX5_least_97 : (97, Instr.aload_n 3, 1, 0, 0, 0) ∈ kX5_least := List.mem_of_getElem? (i := 53) rfl
theorem eX5_least_98 : (98, Instr.ifnull 22, 3, 120, 0, 0) ∈ kX5_least := List.mem_of_getElem? (i := 54) rfl
theorem eX5_least_101 : (101, Instr.aload_n 3, 1, 0, 0, 0) ∈ kX5_least := List.mem_of_getElem? (i := 55) rfl
theorem eX5_least_102 : (102, Instr.getfield 187, 3, 3, 7, 210) ∈ kX5_least := List.mem_of_getElem? (i := 56) rfl
theorem eX5_least_105 : (105, Instr.ifCond .ne 15, 3, 120, 0, 0) ∈ kX5_least := List.mem_of_getElem? (i := 57) rfl
theorem eX5_least_108 : (108, Instr.aload_n 0, 1, 0, 0, 0) ∈ kX5_least := List.mem_of_getElem? (i := 58) rfl
theorem eX5_least_109 : (109, Instr.getfield 40, 3, 5, 9, 89) ∈ kX5_least := List.mem_of_getElem? (i := 59) rfl
theorem eX5_least_112 : (112, Instr.aload_n 3, 1, 0, 0, 0) ∈ kX5_least := List.mem_of_getElem? (i := 60) rfl
theorem eX5_least_113 : (113, Instr.aload_n 0, 1, 0, 0, 0) ∈ kX5_least := List.mem_of_getElem? (i := 61) rfl
theorem eX5_least_114 : (114, Instr.getfield 49, 3, 5, 10, 90) ∈ kX5_least := List.mem_of_getElem? (i := 62) rfl
theorem eX5_least_117 : (117, Instr.invokevirtual 190, 3, 3, 2, 491) ∈ kX5_least := List.mem_of_getElem? (i := 63) rfl
theorem eX5_least_120 : (120, Instr.iinc 2 1, 3, 0, 0, 0) ∈ kX5_least := List.mem_of_getElem? (i := 64) rfl
theorem eX5_least_123 : (123, Instr.goto (-41), 3, 82, 0, 0) ∈ kX5_least := List.mem_of_getElem? (i := 65) rfl
theorem eX5_least_126 : (126, Instr.iload_n 1, 1, 0, 0, 0) ∈ kX5_least := List.mem_of_getElem? (i := 66) rfl
theorem eX5_least_127 : (127, Instr.aload_n 0, 1, 0, 0, 0) ∈ kX5_least := List.mem_of_getElem? (i := 67) rfl
theorem eX5_least_128 : (128, Instr.getfield 40, 3, 5, 9, 89) ∈ kX5_least := List.mem_of_getElem? (i := 68) rfl
theorem eX5_least_131 : (131, Instr.invokevirtual 194, 3, 4, 0, 506) ∈ kX5_least := List.mem_of_getElem? (i := 69) rfl
theorem eX5_least_134 : (134, Instr.iadd, 1, 0, 0, 0) ∈ kX5_least := List.mem_of_getElem? (i := 70) rfl
theorem eX5_least_135 : (135, Instr.ireturn, 1, 0, 0, 0) ∈ kX5_least := List.mem_of_getElem? (i := 71) rfl
theorem aX5_sell : am_m nX5_sell = mX5_sell := rfl
theorem eX5_sell_0 : (0, Instr.aload_n 0, 1, 0, 0, 0) ∈ kX5_sell := List.mem_of_getElem? (i := 0) rfl
theorem eX5_sell_1 : (1, Instr.iload_n 1, 1, 0, 0, 0) ∈ kX5_sell := List.mem_of_getElem? (i := 1) rfl
theorem eX5_sell_2 : (2, Instr.invokevirtual 114, 3, 56, 1, 344) ∈ kX5_sell := List.mem_of_getElem? (i := 2) rfl
theorem eX5_sell_5 : (5, Instr.astore_n 3, 1, 0, 0, 0) ∈ kX5_sell := List.mem_of_getElem? (i := 3) rfl
theorem eX5_sell_6 : (6, Instr.aload_n 3, 1, 0, 0, 0) ∈ kX5_sell := List.mem_of_getElem? (i := 4) rfl
theorem eX5_sell_7 : (7, Instr.ifnull 13, 3, 20, 0, 0) ∈ kX5_sell := List.mem_of_getElem? (i := 5) rfl
theorem eX5_sell_10 : (10, Instr.iload_n 2, 1, 0, 0, 0) ∈ kX5_sell := List.mem_of_getElem? (i := 6) rfl
theorem eX5_sell_11 : (11, Instr.iconst 0, 1, 0, 0, 0) ∈ kX5_sell := List.mem_of_getElem? (i := 7) rfl
theorem eX5_sell_12 : (12, Instr.ldc 48, 2, 100000, 0, 130) ∈ kX5_sell := List.mem_of_getElem? (i := 8) rfl
theorem eX5_sell_14 : (14, Instr.invokestatic 72, 3, 49, 3, 153) ∈ kX5_sell := List.mem_of_getElem? (i := 9) rfl
theorem eX5_sell_17 : (17, Instr.ifCond .ne 6, 3, 23, 0, 0) ∈ kX5_sell := List.mem_of_getElem? (i := 10) rfl
theorem eX5_sell_20 : (20, Instr.bipush (-2), 2, 0, 0, 0) ∈ kX5_sell := List.mem_of_getElem? (i := 11) rfl
theorem eX5_sell_22 : (22, Instr.ireturn, 1, 0, 0, 0) ∈ kX5_sell := List.mem_of_getElem? (i := 12) rfl
theorem eX5_sell_23 : (23, Instr.aload_n 3, 1, 0, 0, 0) ∈ kX5_sell := List.mem_of_getElem? (i := 13) rfl
theorem eX5_sell_24 : (24, Instr.getfield 118, 3, 4, 7, 264) ∈ kX5_sell := List.mem_of_getElem? (i := 14) rfl
theorem eX5_sell_27 : (27, Instr.ifCond .eq 6, 3, 33, 0, 0) ∈ kX5_sell := List.mem_of_getElem? (i := 15) rfl
theorem eX5_sell_30 : (30, Instr.bipush (-3), 2, 0, 0, 0) ∈ kX5_sell := List.mem_of_getElem? (i := 16) rfl
theorem eX5_sell_32 : (32, Instr.ireturn, 1, 0, 0, 0) ∈ kX5_sell := List.mem_of_getElem? (i := 17) rfl
theorem eX5_sell_33 : (33, Instr.aload_n 0, 1, 0, 0, 0) ∈ kX5_sell := List.mem_of_getElem? (i := 18) rfl
theorem eX5_sell_34 : (34, Instr.invokevirtual 197, 3, 53, 0, 135) ∈ kX5_sell := List.mem_of_getElem? (i := 19) rfl
theorem eX5_sell_37 : (37, Instr.aload_n 3, 1, 0, 0, 0) ∈ kX5_sell := List.mem_of_getElem? (i := 20) rfl
theorem eX5_sell_38 : (38, Instr.invokevirtual 200, 3, 18, 0, 356) ∈ kX5_sell := List.mem_of_getElem? (i := 21) rfl
theorem eX5_sell_41 : (41, Instr.isub, 1, 0, 0, 0) ∈ kX5_sell := List.mem_of_getElem? (i := 22) rfl
theorem eX5_sell_42 : (42, Instr.bipush 7, 2, 0, 0, 0) ∈ kX5_sell := List.mem_of_getElem? (i := 23) rfl
theorem eX5_sell_44 : (44, Instr.if_icmp .ge 6, 3, 50, 0, 0) ∈ kX5_sell := List.mem_of_getElem? (i := 24) rfl
theorem eX5_sell_47 : (47, Instr.bipush (-4), 2, 0, 0, 0) ∈ kX5_sell := List.mem_of_getElem? (i := 25) rfl
theorem eX5_sell_49 : (49, Instr.ireturn, 1, 0, 0, 0) ∈ kX5_sell := List.mem_of_getElem? (i := 26) rfl
theorem eX5_sell_50 : (50, Instr.aload_n 3, 1, 0, 0, 0) ∈ kX5_sell := List.mem_of_getElem? (i := 27) rfl
theorem eX5_sell_51 : (51, Instr.invokevirtual 128, 3, 24, 0, 370) ∈ kX5_sell := List.mem_of_getElem? (i := 28) rfl
theorem eX5_sell_54 : (54, Instr.ifCond .eq 6, 3, 60, 0, 0) ∈ kX5_sell := List.mem_of_getElem? (i := 29) rfl
theorem eX5_sell_57 : (57, Instr.bipush (-5), 2, 0, 0, 0) ∈ kX5_sell := List.mem_of_getElem? (i := 30) rfl
theorem eX5_sell_59 : (59, Instr.ireturn, 1, 0, 0, 0) ∈ kX5_sell := List.mem_of_getElem? (i := 31) rfl
theorem eX5_sell_60 : (60, Instr.aload_n 3, 1, 0, 0, 0) ∈ kX5_sell := List.mem_of_getElem? (i := 32) rfl
theorem eX5_sell_61 : (61, Instr.aload_n 0, 1, 0, 0, 0) ∈ kX5_sell := List.mem_of_getElem? (i := 33) rfl
theorem eX5_sell_62 : (62, Instr.invokevirtual 197, 3, 53, 0, 135) ∈ kX5_sell := List.mem_of_getElem? (i := 34) rfl
theorem eX5_sell_65 : (65, Instr.putfield 203, 3, 4, 10, 270) ∈ kX5_sell := List.mem_of_getElem? (i := 35) rfl
theorem eX5_sell_68 : (68, Instr.aload_n 3, 1, 0, 0, 0) ∈ kX5_sell := List.mem_of_getElem? (i := 36) rfl
theorem eX5_sell_69 : (69, Instr.getfield 206, 3, 4, 3, 255) ∈ kX5_sell := List.mem_of_getElem? (i := 37) rfl
theorem eX5_sell_72 : (72, Instr.ifCond .eq 11, 3, 83, 0, 0) ∈ kX5_sell := List.mem_of_getElem? (i := 38) rfl
theorem eX5_sell_75 : (75, Instr.aload_n 0, 1, 0, 0, 0) ∈ kX5_sell := List.mem_of_getElem? (i := 39) rfl
theorem eX5_sell_76 : (76, Instr.aload_n 3, 1, 0, 0, 0) ∈ kX5_sell := List.mem_of_getElem? (i := 40) rfl
theorem eX5_sell_77 : (77, Instr.iconst 5, 1, 0, 0, 0) ∈ kX5_sell := List.mem_of_getElem? (i := 41) rfl
theorem eX5_sell_78 : (78, Instr.invokevirtual 131, 3, 67, 2, 374) ∈ kX5_sell := List.mem_of_getElem? (i := 42) rfl
theorem eX5_sell_81 : (81, Instr.iconst 1, 1, 0, 0, 0) ∈ kX5_sell := List.mem_of_getElem? (i := 43) rfl
theorem eX5_sell_82 : (82, Instr.ireturn, 1, 0, 0, 0) ∈ kX5_sell := List.mem_of_getElem? (i := 44) rfl
theorem eX5_sell_83 : (83, Instr.aload_n 0, 1, 0, 0, 0) ∈ kX5_sell := List.mem_of_getElem? (i := 45) rfl
theorem eX5_sell_84 : (84, Instr.aload_n 3, 1, 0, 0, 0) ∈ kX5_sell := List.mem_of_getElem? (i := 46) rfl
theorem eX5_sell_85 : (85, Instr.iconst 2, 1, 0, 0, 0) ∈ kX5_sell := List.mem_of_getElem? (i := 47) rfl
theorem eX5_sell_86 : (86, Instr.invokevirtual 131, 3, 67, 2, 374) ∈ kX5_sell := List.mem_of_getElem? (i := 48) rfl
theorem eX5_sell_89 : (89, Instr.aload_n 3, 1, 0, 0, 0) ∈ kX5_sell := List.mem_of_getElem? (i := 49) rfl
theorem eX5_sell_90 : (90, Instr.iload_n 2, 1, 0, 0, 0) ∈ kX5_sell := List.mem_of_getElem? (i := 50) rfl
theorem eX5_sell_91 : (91, Instr.putfield 209, 3, 4, 9, 268) ∈ kX5_sell := List.mem_of_getElem? (i := 51) rfl
theorem eX5_sell_94 : (94, Instr.iconst 0, 1, 0, 0, 0) ∈ kX5_sell := List.mem_of_getElem? (i := 52) rfl
theorem eX5_sell_95 : (95, Instr.ireturn, 1, 0, 0, 0) ∈ kX5_sell := List.mem_of_getElem? (i := 53) rfl
theorem aX5_pay : am_m nX5_pay = mX5_pay := rfl
theorem eX5_pay_0 : (0, Instr.iload_n 1, 1, 0, 0, 0) ∈ kX5_pay := List.mem_of_getElem? (i := 0) rfl
theorem eX5_pay_1 : (1, Instr.invokestatic 111, 3, 60, 1, 341) ∈ kX5_pay := List.mem_of_getElem? (i := 1) rfl
theorem eX5_pay_4 : (4, Instr.ifCond .ne 6, 3, 10, 0, 0) ∈ kX5_pay := List.mem_of_getElem? (i := 2) rfl
theorem eX5_pay_7 : (7, Instr.bipush (-2), 2, 0, 0, 0) ∈ kX5_pay := List.mem_of_getElem? (i := 3) rfl
theorem eX5_pay_9 : (9, Instr.ireturn, 1, 0, 0, 0) ∈ kX5_pay := List.mem_of_getElem? (i := 4) rfl
theorem eX5_pay_10 : (10, Instr.aload_n 0, 1, 0, 0, 0) ∈ kX5_pay := List.mem_of_getElem? (i := 5) rfl
theorem eX5_pay_11 : (11, Instr.iload_n 1, 1, 0, 0, 0) ∈ kX5_pay := List.mem_of_getElem? (i := 6) rfl
theorem eX5_pay_12 : (12, Instr.bipush 100, 2, 0, 0, 0) ∈ kX5_pay := List.mem_of_getElem? (i := 7) rfl
theorem eX5_pay_14 : (14, Instr.idiv, 1, 0, 0, 0) ∈ kX5_pay := List.mem_of_getElem? (i := 8) rfl
theorem eX5_pay_15 : (15, Instr.invokevirtual 114, 3, 56, 1, 344) ∈ kX5_pay := List.mem_of_getElem? (i := 9) rfl
theorem eX5_pay_18 : (18, Instr.astore_n 2, 1, 0, 0, 0) ∈ kX5_pay := List.mem_of_getElem? (i := 10) rfl
theorem eX5_pay_19 : (19, Instr.aload_n 2, 1, 0, 0, 0) ∈ kX5_pay := List.mem_of_getElem? (i := 11) rfl
theorem eX5_pay_20 : (20, Instr.ifnonnull 6, 3, 26, 0, 0) ∈ kX5_pay := List.mem_of_getElem? (i := 12) rfl
theorem eX5_pay_23 : (23, Instr.bipush (-3), 2, 0, 0, 0) ∈ kX5_pay := List.mem_of_getElem? (i := 13) rfl
theorem eX5_pay_25 : (25, Instr.ireturn, 1, 0, 0, 0) ∈ kX5_pay := List.mem_of_getElem? (i := 14) rfl
theorem eX5_pay_26 : (26, Instr.aload_n 2, 1, 0, 0, 0) ∈ kX5_pay := List.mem_of_getElem? (i := 15) rfl
theorem eX5_pay_27 : (27, Instr.getfield 118, 3, 4, 7, 264) ∈ kX5_pay := List.mem_of_getElem? (i := 16) rfl
theorem eX5_pay_30 : (30, Instr.iconst 2, 1, 0, 0, 0) ∈ kX5_pay := List.mem_of_getElem? (i := 17) rfl
theorem eX5_pay_31 : (31, Instr.if_icmp .eq 6, 3, 37, 0, 0) ∈ kX5_pay := List.mem_of_getElem? (i := 18) rfl
theorem eX5_pay_34 : (34, Instr.bipush (-4), 2, 0, 0, 0) ∈ kX5_pay := List.mem_of_getElem? (i := 19) rfl
theorem eX5_pay_36 : (36, Instr.ireturn, 1, 0, 0, 0) ∈ kX5_pay := List.mem_of_getElem? (i := 20) rfl
theorem eX5_pay_37 : (37, Instr.aload_n 0, 1, 0, 0, 0) ∈ kX5_pay := List.mem_of_getElem? (i := 21) rfl
theorem eX5_pay_38 : (38, Instr.invokevirtual 83, 3, 54, 0, 233) ∈ kX5_pay := List.mem_of_getElem? (i := 22) rfl
theorem eX5_pay_41 : (41, Instr.ifCond .ne 6, 3, 47, 0, 0) ∈ kX5_pay := List.mem_of_getElem? (i := 23) rfl
theorem eX5_pay_44 : (44, Instr.bipush (-6), 2, 0, 0, 0) ∈ kX5_pay := List.mem_of_getElem? (i := 24) rfl
theorem eX5_pay_46 : (46, Instr.ireturn, 1, 0, 0, 0) ∈ kX5_pay := List.mem_of_getElem? (i := 25) rfl
theorem eX5_pay_47 : (47, Instr.aload_n 0, 1, 0, 0, 0) ∈ kX5_pay := List.mem_of_getElem? (i := 26) rfl
theorem eX5_pay_48 : (48, Instr.aload_n 2, 1, 0, 0, 0) ∈ kX5_pay := List.mem_of_getElem? (i := 27) rfl
theorem eX5_pay_49 : (49, Instr.invokevirtual 121, 3, 63, 1, 348) ∈ kX5_pay := List.mem_of_getElem? (i := 28) rfl
theorem eX5_pay_52 : (52, Instr.aload_n 2, 1, 0, 0, 0) ∈ kX5_pay := List.mem_of_getElem? (i := 29) rfl
theorem eX5_pay_53 : (53, Instr.getfield 209, 3, 4, 9, 268) ∈ kX5_pay := List.mem_of_getElem? (i := 30) rfl
theorem eX5_pay_56 : (56, Instr.invokestatic 212, 3, 121, 2, 518) ∈ kX5_pay := List.mem_of_getElem? (i := 31) rfl
theorem eX5_pay_59 : (59, Instr.istore_n 3, 1, 0, 0, 0) ∈ kX5_pay := List.mem_of_getElem? (i := 32) rfl
theorem eX5_pay_60 : (60, Instr.aload_n 2, 1, 0, 0, 0) ∈ kX5_pay := List.mem_of_getElem? (i := 33) rfl
theorem eX5_pay_61 : (61, Instr.getfield 209, 3, 4, 9, 268) ∈ kX5_pay := List.mem_of_getElem? (i := 34) rfl
theorem eX5_pay_64 : (64, Instr.iload_n 3, 1, 0, 0, 0) ∈ kX5_pay := List.mem_of_getElem? (i := 35) rfl
theorem eX5_pay_65 : (65, Instr.isub, 1, 0, 0, 0) ∈ kX5_pay := List.mem_of_getElem? (i := 36) rfl
theorem eX5_pay_66 : (66, Instr.istore 4, 2, 0, 0, 0) ∈ kX5_pay := List.mem_of_getElem? (i := 37) rfl
theorem eX5_pay_68 : (68, Instr.aload_n 0, 1, 0, 0, 0) ∈ kX5_pay := List.mem_of_getElem? (i := 38) rfl
theorem eX5_pay_69 : (69, Instr.dup, 1, 0, 0, 0) ∈ kX5_pay := List.mem_of_getElem? (i := 39) rfl
theorem eX5_pay_70 : (70, Instr.getfield 135, 3, 5, 13, 93) ∈ kX5_pay := List.mem_of_getElem? (i := 40) rfl
theorem eX5_pay_73 : (73, Instr.iload_n 3, 1, 0, 0, 0) ∈ kX5_pay := List.mem_of_getElem? (i := 41) rfl
theorem eX5_pay_74 : (74, Instr.iadd, 1, 0, 0, 0) ∈ kX5_pay := List.mem_of_getElem? (i := 42) rfl
theorem eX5_pay_75 : (75, Instr.putfield 135, 3, 5, 13, 93) ∈ kX5_pay := List.mem_of_getElem? (i := 43) rfl
theorem eX5_pay_78 : (78, Instr.aload_n 2, 1, 0, 0, 0) ∈ kX5_pay := List.mem_of_getElem? (i := 44) rfl
theorem eX5_pay_79 : (79, Instr.iconst 0, 1, 0, 0, 0) ∈ kX5_pay := List.mem_of_getElem? (i := 45) rfl
theorem eX5_pay_80 : (80, Instr.putfield 209, 3, 4, 9, 268) ∈ kX5_pay := List.mem_of_getElem? (i := 46) rfl
theorem eX5_pay_83 : (83, Instr.aload_n 2, 1, 0, 0, 0) ∈ kX5_pay := List.mem_of_getElem? (i := 47) rfl
theorem eX5_pay_84 : (84, Instr.iconst 3, 1, 0, 0, 0) ∈ kX5_pay := List.mem_of_getElem? (i := 48) rfl
theorem eX5_pay_85 : (85, Instr.putfield 118, 3, 4, 7, 264) ∈ kX5_pay := List.mem_of_getElem? (i := 49) rfl
theorem eX5_pay_88 : (88, Instr.iload 4, 2, 0, 0, 0) ∈ kX5_pay := List.mem_of_getElem? (i := 50) rfl
theorem eX5_pay_90 : (90, Instr.ireturn, 1, 0, 0, 0) ∈ kX5_pay := List.mem_of_getElem? (i := 51) rfl
theorem aX5_tear : am_m nX5_tear = mX5_tear := rfl
theorem eX5_tear_0 : (0, Instr.aload_n 0, 1, 0, 0, 0) ∈ kX5_tear := List.mem_of_getElem? (i := 0) rfl
theorem eX5_tear_1 : (1, Instr.iload_n 1, 1, 0, 0, 0) ∈ kX5_tear := List.mem_of_getElem? (i := 1) rfl
theorem eX5_tear_2 : (2, Instr.invokevirtual 218, 3, 55, 1, 523) ∈ kX5_tear := List.mem_of_getElem? (i := 2) rfl
theorem eX5_tear_5 : (5, Instr.astore_n 2, 1, 0, 0, 0) ∈ kX5_tear := List.mem_of_getElem? (i := 3) rfl
theorem eX5_tear_6 : (6, Instr.aload_n 2, 1, 0, 0, 0) ∈ kX5_tear := List.mem_of_getElem? (i := 4) rfl
theorem eX5_tear_7 : (7, Instr.ifnull 10, 3, 17, 0, 0) ∈ kX5_tear := List.mem_of_getElem? (i := 5) rfl
theorem eX5_tear_10 : (10, Instr.aload_n 2, 1, 0, 0, 0) ∈ kX5_tear := List.mem_of_getElem? (i := 6) rfl
theorem eX5_tear_11 : (11, Instr.getfield 187, 3, 3, 7, 210) ∈ kX5_tear := List.mem_of_getElem? (i := 7) rfl
theorem eX5_tear_14 : (14, Instr.ifCond .eq 5, 3, 19, 0, 0) ∈ kX5_tear := List.mem_of_getElem? (i := 8) rfl
theorem eX5_tear_17 : (17, Instr.iconst 0, 1, 0, 0, 0) ∈ kX5_tear := List.mem_of_getElem? (i := 9) rfl
theorem eX5_tear_18 : (18, Instr.ireturn, 1, 1, 0, 0) ∈ kX5_tear := List.mem_of_getElem? (i := 10) rfl
theorem eX5_tear_19 : (19, Instr.aload_n 2, 1, 0, 0, 0) ∈ kX5_tear := List.mem_of_getElem? (i := 11) rfl
theorem eX5_tear_20 : (20, Instr.iconst 1, 1, 0, 0, 0) ∈ kX5_tear := List.mem_of_getElem? (i := 12) rfl
theorem eX5_tear_21 : (21, Instr.putfield 187, 3, 3, 7, 210) ∈ kX5_tear := List.mem_of_getElem? (i := 13) rfl
theorem eX5_tear_24 : (24, Instr.iconst 1, 1, 0, 0, 0) ∈ kX5_tear := List.mem_of_getElem? (i := 14) rfl
theorem eX5_tear_25 : (25, Instr.ireturn, 1, 1, 0, 0) ∈ kX5_tear := List.mem_of_getElem? (i := 15) rfl
theorem aX5_mend : am_m nX5_mend = mX5_mend := rfl
theorem eX5_mend_0 : (0, Instr.aload_n 0, 1, 0, 0, 0) ∈ kX5_mend := List.mem_of_getElem? (i := 0) rfl
theorem eX5_mend_1 : (1, Instr.iload_n 1, 1, 0, 0, 0) ∈ kX5_mend := List.mem_of_getElem? (i := 1) rfl
theorem eX5_mend_2 : (2, Instr.invokevirtual 218, 3, 55, 1, 523) ∈ kX5_mend := List.mem_of_getElem? (i := 2) rfl
theorem eX5_mend_5 : (5, Instr.astore_n 2, 1, 0, 0, 0) ∈ kX5_mend := List.mem_of_getElem? (i := 3) rfl
theorem eX5_mend_6 : (6, Instr.aload_n 2, 1, 0, 0, 0) ∈ kX5_mend := List.mem_of_getElem? (i := 4) rfl
theorem eX5_mend_7 : (7, Instr.ifnull 10, 3, 17, 0, 0) ∈ kX5_mend := List.mem_of_getElem? (i := 5) rfl
theorem eX5_mend_10 : (10, Instr.aload_n 2, 1, 0, 0, 0) ∈ kX5_mend := List.mem_of_getElem? (i := 6) rfl
theorem eX5_mend_11 : (11, Instr.getfield 187, 3, 3, 7, 210) ∈ kX5_mend := List.mem_of_getElem? (i := 7) rfl
theorem eX5_mend_14 : (14, Instr.ifCond .ne 5, 3, 19, 0, 0) ∈ kX5_mend := List.mem_of_getElem? (i := 8) rfl
theorem eX5_mend_17 : (17, Instr.iconst 0, 1, 0, 0, 0) ∈ kX5_mend := List.mem_of_getElem? (i := 9) rfl
theorem eX5_mend_18 : (18, Instr.ireturn, 1, 1, 0, 0) ∈ kX5_mend := List.mem_of_getElem? (i := 10) rfl
theorem eX5_mend_19 : (19, Instr.aload_n 2, 1, 0, 0, 0) ∈ kX5_mend := List.mem_of_getElem? (i := 11) rfl
theorem eX5_mend_20 : (20, Instr.iconst 0, 1, 0, 0, 0) ∈ kX5_mend := List.mem_of_getElem? (i := 12) rfl
theorem eX5_mend_21 : (21, Instr.putfield 187, 3, 3, 7, 210) ∈ kX5_mend := List.mem_of_getElem? (i := 13) rfl
theorem eX5_mend_24 : (24, Instr.iconst 1, 1, 0, 0, 0) ∈ kX5_mend := List.mem_of_getElem? (i := 14) rfl
theorem eX5_mend_25 : (25, Instr.ireturn, 1, 1, 0, 0) ∈ kX5_mend := List.mem_of_getElem? (i := 15) rfl
theorem aX5_shelfOf : am_m nX5_shelfOf = mX5_shelfOf := rfl
theorem eX5_shelfOf_0 : (0, Instr.aload_n 0, 1, 0, 0, 0) ∈ kX5_shelfOf := List.mem_of_getElem? (i := 0) rfl
theorem eX5_shelfOf_1 : (1, Instr.iload_n 1, 1, 0, 0, 0) ∈ kX5_shelfOf := List.mem_of_getElem? (i := 1) rfl
theorem eX5_shelfOf_2 : (2, Instr.invokevirtual 218, 3, 55, 1, 523) ∈ kX5_shelfOf := List.mem_of_getElem? (i := 2) rfl
theorem eX5_shelfOf_5 : (5, Instr.astore_n 3, 1, 0, 0, 0) ∈ kX5_shelfOf := List.mem_of_getElem? (i := 3) rfl
theorem eX5_shelfOf_6 : (6, Instr.aload_n 3, 1, 0, 0, 0) ∈ kX5_shelfOf := List.mem_of_getElem? (i := 4) rfl
theorem eX5_shelfOf_7 : (7, Instr.ifnonnull 5, 3, 12, 0, 0) ∈ kX5_shelfOf := List.mem_of_getElem? (i := 5) rfl
theorem eX5_shelfOf_10 : (10, Instr.iconst (-1), 1, 0, 0, 0) ∈ kX5_shelfOf := List.mem_of_getElem? (i := 6) rfl
theorem eX5_shelfOf_11 : (11, Instr.ireturn, 1, 0, 0, 0) ∈ kX5_shelfOf := List.mem_of_getElem? (i := 7) rfl
theorem eX5_shelfOf_12 : (12, Instr.iload_n 2, 1, 0, 0, 0) ∈ kX5_shelfOf := List.mem_of_getElem? (i := 8) rfl
theorem eX5_shelfOf_13 : (13, Instr.tableswitch 84 0 6 #[43, 48, 53, 61, 66, 71, 76], 43, 0, 0, 0) ∈ kX5_shelfOf := List.mem_of_getElem? (i := 9) rfl
theorem eX5_shelfOf_56 : (56, Instr.aload_n 3, 1, 0, 0, 0) ∈ kX5_shelfOf := List.mem_of_getElem? (i := 10) rfl
theorem eX5_shelfOf_57 : (57, Instr.getfield 222, 3, 3, 1, 196) ∈ kX5_shelfOf := List.mem_of_getElem? (i := 11) rfl
theorem eX5_shelfOf_60 : (60, Instr.ireturn, 1, 0, 0, 0) ∈ kX5_shelfOf := List.mem_of_getElem? (i := 12) rfl
theorem eX5_shelfOf_61 : (61, Instr.aload_n 3, 1, 0, 0, 0) ∈ kX5_shelfOf := List.mem_of_getElem? (i := 13) rfl
theorem eX5_shelfOf_62 : (62, Instr.getfield 225, 3, 3, 2, 198) ∈ kX5_shelfOf := List.mem_of_getElem? (i := 14) rfl
theorem eX5_shelfOf_65 : (65, Instr.ireturn, 1, 0, 0, 0) ∈ kX5_shelfOf := List.mem_of_getElem? (i := 15) rfl
theorem eX5_shelfOf_66 : (66, Instr.aload_n 3, 1, 0, 0, 0) ∈ kX5_shelfOf := List.mem_of_getElem? (i := 16) rfl
theorem eX5_shelfOf_67 : (67, Instr.getfield 228, 3, 3, 3, 200) ∈ kX5_shelfOf := List.mem_of_getElem? (i := 17) rfl
theorem eX5_shelfOf_70 : (70, Instr.invokestatic 231, 3, 51, 1, 535) ∈ kX5_shelfOf := List.mem_of_getElem? (i := 18) rfl
theorem eX5_shelfOf_73 : (73, Instr.ireturn, 1, 0, 0, 0) ∈ kX5_shelfOf := List.mem_of_getElem? (i := 19) rfl
theorem eX5_shelfOf_74 : (74, Instr.aload_n 3, 1, 0, 0, 0) ∈ kX5_shelfOf := List.mem_of_getElem? (i := 20) rfl
theorem eX5_shelfOf_75 : (75, Instr.getfield 104, 3, 3, 4, 203) ∈ kX5_shelfOf := List.mem_of_getElem? (i := 21) rfl
theorem eX5_shelfOf_78 : (78, Instr.ireturn, 1, 0, 0, 0) ∈ kX5_shelfOf := List.mem_of_getElem? (i := 22) rfl
theorem eX5_shelfOf_79 : (79, Instr.aload_n 3, 1, 0, 0, 0) ∈ kX5_shelfOf := List.mem_of_getElem? (i := 23) rfl
theorem eX5_shelfOf_80 : (80, Instr.getfield 235, 3, 3, 5, 205) ∈ kX5_shelfOf := List.mem_of_getElem? (i := 24) rfl
theorem eX5_shelfOf_83 : (83, Instr.ireturn, 1, 0, 0, 0) ∈ kX5_shelfOf := List.mem_of_getElem? (i := 25) rfl
theorem eX5_shelfOf_84 : (84, Instr.aload_n 3, 1, 0, 0, 0) ∈ kX5_shelfOf := List.mem_of_getElem? (i := 26) rfl
theorem eX5_shelfOf_85 : (85, Instr.getfield 238, 3, 3, 6, 207) ∈ kX5_shelfOf := List.mem_of_getElem? (i := 27) rfl
theorem eX5_shelfOf_88 : (88, Instr.ireturn, 1, 0, 0, 0) ∈ kX5_shelfOf := List.mem_of_getElem? (i := 28) rfl
theorem eX5_shelfOf_89 : (89, Instr.aload_n 3, 1, 0, 0, 0) ∈ kX5_shelfOf := List.mem_of_getElem? (i := 29) rfl
theorem eX5_shelfOf_90 : (90, Instr.getfield 187, 3, 3, 7, 210) ∈ kX5_shelfOf := List.mem_of_getElem? (i := 30) rfl
theorem eX5_shelfOf_93 : (93, Instr.invokestatic 231, 3, 51, 1, 535) ∈ kX5_shelfOf := List.mem_of_getElem? (i := 31) rfl
theorem eX5_shelfOf_96 : (96, Instr.ireturn, 1, 0, 0, 0) ∈ kX5_shelfOf := List.mem_of_getElem? (i := 32) rfl
theorem eX5_shelfOf_97 : (97, Instr.iconst (-1), 1, 0, 0, 0) ∈ kX5_shelfOf := List.mem_of_getElem? (i := 33) rfl
theorem eX5_shelfOf_98 : (98, Instr.ireturn, 1, 0, 0, 0) ∈ kX5_shelfOf := List.mem_of_getElem? (i := 34) rfl
theorem aX5_thing : am_m nX5_thing = mX5_thing := rfl
theorem eX5_thing_0 : (0, Instr.aload_n 0, 1, 0, 0, 0) ∈ kX5_thing := List.mem_of_getElem? (i := 0) rfl
theorem eX5_thing_1 : (1, Instr.iload_n 1, 1, 0, 0, 0) ∈ kX5_thing := List.mem_of_getElem? (i := 1) rfl
theorem eX5_thing_2 : (2, Instr.invokevirtual 114, 3, 56, 1, 344) ∈ kX5_thing := List.mem_of_getElem? (i := 2) rfl
theorem eX5_thing_5 : (5, Instr.astore_n 3, 1, 0, 0, 0) ∈ kX5_thing := List.mem_of_getElem? (i := 3) rfl
theorem eX5_thing_6 : (6, Instr.aload_n 3, 1, 0, 0, 0) ∈ kX5_thing := List.mem_of_getElem? (i := 4) rfl
theorem eX5_thing_7 : (7, Instr.ifnonnull 5, 3, 12, 0, 0) ∈ kX5_thing := List.mem_of_getElem? (i := 5) rfl
theorem eX5_thing_10 : (10, Instr.iconst (-1), 1, 0, 0, 0) ∈ kX5_thing := List.mem_of_getElem? (i := 6) rfl
theorem eX5_thing_11 : (11, Instr.ireturn, 1, 0, 0, 0) ∈ kX5_thing := List.mem_of_getElem? (i := 7) rfl
theorem eX5_thing_12 : (12, Instr.iload_n 2, 1, 0, 0, 0) ∈ kX5_thing := List.mem_of_getElem? (i := 8) rfl
theorem eX5_thing_13 : (13, Instr.tableswitch 146 0 12 #[67, 72, 77, 85, 93, 98, 103, 108, 113, 118, 127, 136, 141], 67, 0, 0, 0) ∈ kX5_thing := List.mem_of_getElem? (i := 9) rfl
theorem eX5_thing_80 : (80, Instr.aload_n 3, 1, 0, 0, 0) ∈ kX5_thing := List.mem_of_getElem? (i := 10) rfl
theorem eX5_thing_81 : (81, Instr.getfield 241, 3, 4, 0, 246) ∈ kX5_thing := List.mem_of_getElem? (i := 11) rfl
theorem eX5_thing_84 : (84, Instr.ireturn, 1, 0, 0, 0) ∈ kX5_thing := List.mem_of_getElem? (i := 12) rfl
theorem eX5_thing_85 : (85, Instr.aload_n 3, 1, 0, 0, 0) ∈ kX5_thing := List.mem_of_getElem? (i := 13) rfl
theorem eX5_thing_86 : (86, Instr.getfield 244, 3, 4, 1, 249) ∈ kX5_thing := List.mem_of_getElem? (i := 14) rfl
theorem eX5_thing_89 : (89, Instr.ireturn, 1, 0, 0, 0) ∈ kX5_thing := List.mem_of_getElem? (i := 15) rfl
theorem eX5_thing_90 : (90, Instr.aload_n 3, 1, 0, 0, 0) ∈ kX5_thing := List.mem_of_getElem? (i := 16) rfl
theorem eX5_thing_91 : (91, Instr.getfield 245, 3, 4, 2, 253) ∈ kX5_thing := List.mem_of_getElem? (i := 17) rfl
theorem eX5_thing_94 : (94, Instr.invokestatic 231, 3, 51, 1, 535) ∈ kX5_thing := List.mem_of_getElem? (i := 18) rfl
theorem eX5_thing_97 : (97, Instr.ireturn, 1, 0, 0, 0) ∈ kX5_thing := List.mem_of_getElem? (i := 19) rfl
theorem eX5_thing_98 : (98, Instr.aload_n 3, 1, 0, 0, 0) ∈ kX5_thing := List.mem_of_getElem? (i := 20) rfl
theorem eX5_thing_99 : (99, Instr.getfield 206, 3, 4, 3, 255) ∈ kX5_thing := List.mem_of_getElem? (i := 21) rfl
theorem eX5_thing_102 : (102, Instr.invokestatic 231, 3, 51, 1, 535) ∈ kX5_thing := List.mem_of_getElem? (i := 22) rfl
theorem eX5_thing_105 : (105, Instr.ireturn, 1, 0, 0, 0) ∈ kX5_thing := List.mem_of_getElem? (i := 23) rfl
theorem eX5_thing_106 : (106, Instr.aload_n 3, 1, 0, 0, 0) ∈ kX5_thing := List.mem_of_getElem? (i := 24) rfl
theorem eX5_thing_107 : (107, Instr.getfield 246, 3, 4, 4, 257) ∈ kX5_thing := List.mem_of_getElem? (i := 25) rfl
theorem eX5_thing_110 : (110, Instr.ireturn, 1, 0, 0, 0) ∈ kX5_thing := List.mem_of_getElem? (i := 26) rfl
theorem eX5_thing_111 : (111, Instr.aload_n 3, 1, 0, 0, 0) ∈ kX5_thing := List.mem_of_getElem? (i := 27) rfl
theorem eX5_thing_112 : (112, Instr.getfield 249, 3, 4, 5, 259) ∈ kX5_thing := List.mem_of_getElem? (i := 28) rfl
theorem eX5_thing_115 : (115, Instr.ireturn, 1, 0, 0, 0) ∈ kX5_thing := List.mem_of_getElem? (i := 29) rfl
theorem eX5_thing_116 : (116, Instr.aload_n 3, 1, 0, 0, 0) ∈ kX5_thing := List.mem_of_getElem? (i := 30) rfl
theorem eX5_thing_117 : (117, Instr.getfield 252, 3, 4, 6, 261) ∈ kX5_thing := List.mem_of_getElem? (i := 31) rfl
theorem eX5_thing_120 : (120, Instr.ireturn, 1, 0, 0, 0) ∈ kX5_thing := List.mem_of_getElem? (i := 32) rfl
theorem eX5_thing_121 : (121, Instr.aload_n 3, 1, 0, 0, 0) ∈ kX5_thing := List.mem_of_getElem? (i := 33) rfl
theorem eX5_thing_122 : (122, Instr.getfield 118, 3, 4, 7, 264) ∈ kX5_thing := List.mem_of_getElem? (i := 34) rfl
theorem eX5_thing_125 : (125, Instr.ireturn, 1, 0, 0, 0) ∈ kX5_thing := List.mem_of_getElem? (i := 35) rfl
theorem eX5_thing_126 : (126, Instr.aload_n 3, 1, 0, 0, 0) ∈ kX5_thing := List.mem_of_getElem? (i := 36) rfl
theorem eX5_thing_127 : (127, Instr.invokevirtual 255, 3, 23, 0, 542) ∈ kX5_thing := List.mem_of_getElem? (i := 37) rfl
theorem eX5_thing_130 : (130, Instr.ireturn, 1, 0, 0, 0) ∈ kX5_thing := List.mem_of_getElem? (i := 38) rfl
theorem eX5_thing_131 : (131, Instr.aload_n 3, 1, 0, 0, 0) ∈ kX5_thing := List.mem_of_getElem? (i := 39) rfl
theorem eX5_thing_132 : (132, Instr.aload_n 0, 1, 0, 0, 0) ∈ kX5_thing := List.mem_of_getElem? (i := 40) rfl
theorem eX5_thing_133 : (133, Instr.getfield 49, 3, 5, 10, 90) ∈ kX5_thing := List.mem_of_getElem? (i := 41) rfl
theorem eX5_thing_136 : (136, Instr.invokevirtual 258, 3, 20, 1, 546) ∈ kX5_thing := List.mem_of_getElem? (i := 42) rfl
theorem eX5_thing_139 : (139, Instr.ireturn, 1, 0, 0, 0) ∈ kX5_thing := List.mem_of_getElem? (i := 43) rfl
theorem eX5_thing_140 : (140, Instr.aload_n 3, 1, 0, 0, 0) ∈ kX5_thing := List.mem_of_getElem? (i := 44) rfl
theorem eX5_thing_141 : (141, Instr.aload_n 0, 1, 0, 0, 0) ∈ kX5_thing := List.mem_of_getElem? (i := 45) rfl
theorem eX5_thing_142 : (142, Instr.getfield 49, 3, 5, 10, 90) ∈ kX5_thing := List.mem_of_getElem? (i := 46) rfl
theorem eX5_thing_145 : (145, Instr.invokevirtual 174, 3, 22, 1, 457) ∈ kX5_thing := List.mem_of_getElem? (i := 47) rfl
theorem eX5_thing_148 : (148, Instr.ireturn, 1, 0, 0, 0) ∈ kX5_thing := List.mem_of_getElem? (i := 48) rfl
theorem eX5_thing_149 : (149, Instr.aload_n 3, 1, 0, 0, 0) ∈ kX5_thing := List.mem_of_getElem? (i := 49) rfl
theorem eX5_thing_150 : (150, Instr.getfield 209, 3, 4, 9, 268) ∈ kX5_thing := List.mem_of_getElem? (i := 50) rfl
theorem eX5_thing_153 : (153, Instr.ireturn, 1, 0, 0, 0) ∈ kX5_thing := List.mem_of_getElem? (i := 51) rfl
theorem eX5_thing_154 : (154, Instr.aload_n 3, 1, 0, 0, 0) ∈ kX5_thing := List.mem_of_getElem? (i := 52) rfl
theorem eX5_thing_155 : (155, Instr.getfield 203, 3, 4, 10, 270) ∈ kX5_thing := List.mem_of_getElem? (i := 53) rfl
theorem eX5_thing_158 : (158, Instr.ireturn, 1, 0, 0, 0) ∈ kX5_thing := List.mem_of_getElem? (i := 54) rfl
theorem eX5_thing_159 : (159, Instr.iconst (-1), 1, 0, 0, 0) ∈ kX5_thing := List.mem_of_getElem? (i := 55) rfl
theorem eX5_thing_160 : (160, Instr.ireturn, 1, 0, 0, 0) ∈ kX5_thing := List.mem_of_getElem? (i := 56) rfl
theorem aX5_claimOf : am_m nX5_claimOf = mX5_claimOf := rfl
theorem eX5_claimOf_0 : (0, Instr.aload_n 0, 1, 0, 0, 0) ∈ kX5_claimOf := List.mem_of_getElem? (i := 0) rfl
theorem eX5_claimOf_1 : (1, Instr.iload_n 1, 1, 0, 0, 0) ∈ kX5_claimOf := List.mem_of_getElem? (i := 1) rfl
theorem eX5_claimOf_2 : (2, Instr.invokevirtual 142, 3, 57, 1, 407) ∈ kX5_claimOf := List.mem_of_getElem? (i := 2) rfl
theorem eX5_claimOf_5 : (5, Instr.astore_n 3, 1, 0, 0, 0) ∈ kX5_claimOf := List.mem_of_getElem? (i := 3) rfl
theorem eX5_claimOf_6 : (6, Instr.aload_n 3, 1, 0, 0, 0) ∈ kX5_claimOf := List.mem_of_getElem? (i := 4) rfl
theorem eX5_claimOf_7 : (7, Instr.ifnonnull 5, 3, 12, 0, 0) ∈ kX5_claimOf := List.mem_of_getElem? (i := 5) rfl
theorem eX5_claimOf_10 : (10, Instr.iconst (-1), 1, 0, 0, 0) ∈ kX5_claimOf := List.mem_of_getElem? (i := 6) rfl
theorem eX5_claimOf_11 : (11, Instr.ireturn, 1, 0, 0, 0) ∈ kX5_claimOf := List.mem_of_getElem? (i := 7) rfl
theorem eX5_claimOf_12 : (12, Instr.iload_n 2, 1, 0, 0, 0) ∈ kX5_claimOf := List.mem_of_getElem? (i := 8) rfl
theorem eX5_claimOf_13 : (13, Instr.bipush 10, 2, 0, 0, 0) ∈ kX5_claimOf := List.mem_of_getElem? (i := 9) rfl
theorem eX5_claimOf_15 : (15, Instr.bipush 13, 2, 0, 0, 0) ∈ kX5_claimOf := List.mem_of_getElem? (i := 10) rfl
theorem eX5_claimOf_17 : (17, Instr.invokestatic 72, 3, 49, 3, 153) ∈ kX5_claimOf := List.mem_of_getElem? (i := 11) rfl
theorem eX5_claimOf_20 : (20, Instr.ifCond .eq 13, 3, 33, 0, 0) ∈ kX5_claimOf := List.mem_of_getElem? (i := 12) rfl
theorem eX5_claimOf_23 : (23, Instr.aload_n 3, 1, 0, 0, 0) ∈ kX5_claimOf := List.mem_of_getElem? (i := 13) rfl
theorem eX5_claimOf_24 : (24, Instr.getfield 150, 3, 1, 0, 392) ∈ kX5_claimOf := List.mem_of_getElem? (i := 14) rfl
theorem eX5_claimOf_27 : (27, Instr.iload_n 2, 1, 0, 0, 0) ∈ kX5_claimOf := List.mem_of_getElem? (i := 15) rfl
theorem eX5_claimOf_28 : (28, Instr.bipush 10, 2, 0, 0, 0) ∈ kX5_claimOf := List.mem_of_getElem? (i := 16) rfl
theorem eX5_claimOf_30 : (30, Instr.isub, 1, 0, 0, 0) ∈ kX5_claimOf := List.mem_of_getElem? (i := 17) rfl
theorem eX5_claimOf_31 : (31, Instr.iaload, 1, 0, 0, 0) ∈ kX5_claimOf := List.mem_of_getElem? (i := 18) rfl
theorem eX5_claimOf_32 : (32, Instr.ireturn, 1, 0, 0, 0) ∈ kX5_claimOf := List.mem_of_getElem? (i := 19) rfl
theorem eX5_claimOf_33 : (33, Instr.iload_n 2, 1, 0, 0, 0) ∈ kX5_claimOf := List.mem_of_getElem? (i := 20) rfl
theorem eX5_claimOf_34 : (34, Instr.tableswitch 44 0 2 #[26, 31, 39], 26, 0, 0, 0) ∈ kX5_claimOf := List.mem_of_getElem? (i := 21) rfl
theorem eX5_claimOf_60 : (60, Instr.aload_n 3, 1, 0, 0, 0) ∈ kX5_claimOf := List.mem_of_getElem? (i := 22) rfl
theorem eX5_claimOf_61 : (61, Instr.invokevirtual 161, 3, 8, 0, 441) ∈ kX5_claimOf := List.mem_of_getElem? (i := 23) rfl
theorem eX5_claimOf_64 : (64, Instr.ireturn, 1, 0, 0, 0) ∈ kX5_claimOf := List.mem_of_getElem? (i := 24) rfl
theorem eX5_claimOf_65 : (65, Instr.aload_n 3, 1, 0, 0, 0) ∈ kX5_claimOf := List.mem_of_getElem? (i := 25) rfl
theorem eX5_claimOf_66 : (66, Instr.getfield 146, 3, 1, 1, 393) ∈ kX5_claimOf := List.mem_of_getElem? (i := 26) rfl
theorem eX5_claimOf_69 : (69, Instr.invokestatic 231, 3, 51, 1, 535) ∈ kX5_claimOf := List.mem_of_getElem? (i := 27) rfl
theorem eX5_claimOf_72 : (72, Instr.ireturn, 1, 0, 0, 0) ∈ kX5_claimOf := List.mem_of_getElem? (i := 28) rfl
theorem eX5_claimOf_73 : (73, Instr.aload_n 3, 1, 0, 0, 0) ∈ kX5_claimOf := List.mem_of_getElem? (i := 29) rfl
theorem eX5_claimOf_74 : (74, Instr.getfield 171, 3, 1, 2, 395) ∈ kX5_claimOf := List.mem_of_getElem? (i := 30) rfl
theorem eX5_claimOf_77 : (77, Instr.ireturn, 1, 0, 0, 0) ∈ kX5_claimOf := List.mem_of_getElem? (i := 31) rfl
theorem eX5_claimOf_78 : (78, Instr.iconst (-1), 1, 0, 0, 0) ∈ kX5_claimOf := List.mem_of_getElem? (i := 32) rfl
theorem eX5_claimOf_79 : (79, Instr.ireturn, 1, 0, 0, 0) ∈ kX5_claimOf := List.mem_of_getElem? (i := 33) rfl
theorem aX5_count : am_m nX5_count = mX5_count := rfl
theorem eX5_count_0 : (0, Instr.iload_n 1, 1, 0, 0, 0) ∈ kX5_count := List.mem_of_getElem? (i := 0) rfl
theorem eX5_count_1 : (1, Instr.tableswitch 117 0 10 #[59, 64, 69, 74, 79, 84, 89, 94, 102, 107, 112], 59, 0, 0, 0) ∈ kX5_count := List.mem_of_getElem? (i := 1) rfl
theorem eX5_count_60 : (60, Instr.aload_n 0, 1, 0, 0, 0) ∈ kX5_count := List.mem_of_getElem? (i := 2) rfl
theorem eX5_count_61 : (61, Instr.getfield 76, 3, 5, 1, 81) ∈ kX5_count := List.mem_of_getElem? (i := 3) rfl
theorem eX5_count_64 : (64, Instr.ireturn, 1, 0, 0, 0) ∈ kX5_count := List.mem_of_getElem? (i := 4) rfl
theorem eX5_count_65 : (65, Instr.aload_n 0, 1, 0, 0, 0) ∈ kX5_count := List.mem_of_getElem? (i := 5) rfl
theorem eX5_count_66 : (66, Instr.getfield 87, 3, 5, 3, 83) ∈ kX5_count := List.mem_of_getElem? (i := 6) rfl
theorem eX5_count_69 : (69, Instr.ireturn, 1, 0, 0, 0) ∈ kX5_count := List.mem_of_getElem? (i := 7) rfl
theorem eX5_count_70 : (70, Instr.aload_n 0, 1, 0, 0, 0) ∈ kX5_count := List.mem_of_getElem? (i := 8) rfl
theorem eX5_count_71 : (71, Instr.invokevirtual 261, 3, 75, 0, 555) ∈ kX5_count := List.mem_of_getElem? (i := 9) rfl
theorem eX5_count_74 : (74, Instr.ireturn, 1, 0, 0, 0) ∈ kX5_count := List.mem_of_getElem? (i := 10) rfl
theorem eX5_count_75 : (75, Instr.aload_n 0, 1, 0, 0, 0) ∈ kX5_count := List.mem_of_getElem? (i := 11) rfl
theorem eX5_count_76 : (76, Instr.getfield 138, 3, 5, 5, 85) ∈ kX5_count := List.mem_of_getElem? (i := 12) rfl
theorem eX5_count_79 : (79, Instr.ireturn, 1, 0, 0, 0) ∈ kX5_count := List.mem_of_getElem? (i := 13) rfl
theorem eX5_count_80 : (80, Instr.aload_n 0, 1, 0, 0, 0) ∈ kX5_count := List.mem_of_getElem? (i := 14) rfl
theorem eX5_count_81 : (81, Instr.getfield 62, 3, 5, 7, 87) ∈ kX5_count := List.mem_of_getElem? (i := 15) rfl
theorem eX5_count_84 : (84, Instr.ireturn, 1, 0, 0, 0) ∈ kX5_count := List.mem_of_getElem? (i := 16) rfl
theorem eX5_count_85 : (85, Instr.aload_n 0, 1, 0, 0, 0) ∈ kX5_count := List.mem_of_getElem? (i := 17) rfl
theorem eX5_count_86 : (86, Instr.getfield 49, 3, 5, 10, 90) ∈ kX5_count := List.mem_of_getElem? (i := 18) rfl
theorem eX5_count_89 : (89, Instr.ireturn, 1, 0, 0, 0) ∈ kX5_count := List.mem_of_getElem? (i := 19) rfl
theorem eX5_count_90 : (90, Instr.aload_n 0, 1, 0, 0, 0) ∈ kX5_count := List.mem_of_getElem? (i := 20) rfl
theorem eX5_count_91 : (91, Instr.invokevirtual 197, 3, 53, 0, 135) ∈ kX5_count := List.mem_of_getElem? (i := 21) rfl
theorem eX5_count_94 : (94, Instr.ireturn, 1, 0, 0, 0) ∈ kX5_count := List.mem_of_getElem? (i := 22) rfl
theorem eX5_count_95 : (95, Instr.aload_n 0, 1, 0, 0, 0) ∈ kX5_count := List.mem_of_getElem? (i := 23) rfl
theorem eX5_count_96 : (96, Instr.invokevirtual 83, 3, 54, 0, 233) ∈ kX5_count := List.mem_of_getElem? (i := 24) rfl
theorem eX5_count_99 : (99, Instr.invokestatic 231, 3, 51, 1, 535) ∈ kX5_count := List.mem_of_getElem? (i := 25) rfl
theorem eX5_count_102 : (102, Instr.ireturn, 1, 0, 0, 0) ∈ kX5_count := List.mem_of_getElem? (i := 26) rfl
theorem eX5_count_103 : (103, Instr.aload_n 0, 1, 0, 0, 0) ∈ kX5_count := List.mem_of_getElem? (i := 27) rfl
theorem eX5_count_104 : (104, Instr.getfield 135, 3, 5, 13, 93) ∈ kX5_count := List.mem_of_getElem? (i := 28) rfl
theorem eX5_count_107 : (107, Instr.ireturn, 1, 0, 0, 0) ∈ kX5_count := List.mem_of_getElem? (i := 29) rfl
theorem eX5_count_108 : (108, Instr.aload_n 0, 1, 0, 0, 0) ∈ kX5_count := List.mem_of_getElem? (i := 30) rfl
theorem eX5_count_109 : (109, Instr.invokevirtual 264, 3, 76, 0, 559) ∈ kX5_count := List.mem_of_getElem? (i := 31) rfl
theorem eX5_count_112 : (112, Instr.ireturn, 1, 0, 0, 0) ∈ kX5_count := List.mem_of_getElem? (i := 32) rfl
theorem eX5_count_113 : (113, Instr.aload_n 0, 1, 0, 0, 0) ∈ kX5_count := List.mem_of_getElem? (i := 33) rfl
theorem eX5_count_114 : (114, Instr.getfield 101, 3, 5, 14, 94) ∈ kX5_count := List.mem_of_getElem? (i := 34) rfl
theorem eX5_count_117 : (117, Instr.ireturn, 1, 0, 0, 0) ∈ kX5_count := List.mem_of_getElem? (i := 35) rfl
theorem eX5_count_118 : (118, Instr.iconst (-1), 1, 0, 0, 0) ∈ kX5_count := List.mem_of_getElem? (i := 36) rfl
theorem eX5_count_119 : (119, Instr.ireturn, 1, 0, 0, 0) ∈ kX5_count := List.mem_of_getElem? (i := 37) rfl
theorem aX5_isWithin : am_m nX5_isWithin = mX5_isWithin := rfl
theorem eX5_isWithin_0 : (0, Instr.iload_n 0, 1, 0, 0, 0) ∈ kX5_isWithin := List.mem_of_getElem? (i := 0) rfl
theorem eX5_isWithin_1 : (1, Instr.iload_n 1, 1, 0, 0, 0) ∈ kX5_isWithin := List.mem_of_getElem? (i := 1) rfl
theorem eX5_isWithin_2 : (2, Instr.if_icmp .lt 12, 3, 14, 0, 0) ∈ kX5_isWithin := List.mem_of_getElem? (i := 2) rfl
theorem eX5_isWithin_5 : (5, Instr.iload_n 0, 1, 0, 0, 0) ∈ kX5_isWithin := List.mem_of_getElem? (i := 3) rfl
theorem eX5_isWithin_6 : (6, Instr.iload_n 2, 1, 0, 0, 0) ∈ kX5_isWithin := List.mem_of_getElem? (i := 4) rfl
theorem eX5_isWithin_7 : (7, Instr.if_icmp .gt 7, 3, 14, 0, 0) ∈ kX5_isWithin := List.mem_of_getElem? (i := 5) rfl
theorem eX5_isWithin_10 : (10, Instr.iconst 1, 1, 0, 0, 0) ∈ kX5_isWithin := List.mem_of_getElem? (i := 6) rfl
theorem eX5_isWithin_11 : (11, Instr.goto 4, 3, 15, 0, 0) ∈ kX5_isWithin := List.mem_of_getElem? (i := 7) rfl
theorem eX5_isWithin_14 : (14, Instr.iconst 0, 1, 0, 0, 0) ∈ kX5_isWithin := List.mem_of_getElem? (i := 8) rfl
theorem eX5_isWithin_15 : (15, Instr.ireturn, 1, 1, 0, 0) ∈ kX5_isWithin := List.mem_of_getElem? (i := 9) rfl
theorem aX5_isPrice : am_m nX5_isPrice = mX5_isPrice := rfl
theorem eX5_isPrice_0 : (0, Instr.iload_n 0, 1, 0, 0, 0) ∈ kX5_isPrice := List.mem_of_getElem? (i := 0) rfl
theorem eX5_isPrice_1 : (1, Instr.iconst 0, 1, 0, 0, 0) ∈ kX5_isPrice := List.mem_of_getElem? (i := 1) rfl
theorem eX5_isPrice_2 : (2, Instr.sipush 1000, 3, 0, 0, 0) ∈ kX5_isPrice := List.mem_of_getElem? (i := 2) rfl
theorem eX5_isPrice_5 : (5, Instr.invokestatic 72, 3, 49, 3, 153) ∈ kX5_isPrice := List.mem_of_getElem? (i := 3) rfl
theorem eX5_isPrice_8 : (8, Instr.ireturn, 1, 1, 0, 0) ∈ kX5_isPrice := List.mem_of_getElem? (i := 4) rfl
theorem aX5_asNumber : am_m nX5_asNumber = mX5_asNumber := rfl
theorem eX5_asNumber_0 : (0, Instr.iload_n 0, 1, 0, 0, 0) ∈ kX5_asNumber := List.mem_of_getElem? (i := 0) rfl
theorem eX5_asNumber_1 : (1, Instr.ifCond .eq 7, 3, 8, 0, 0) ∈ kX5_asNumber := List.mem_of_getElem? (i := 1) rfl
theorem eX5_asNumber_4 : (4, Instr.iconst 1, 1, 0, 0, 0) ∈ kX5_asNumber := List.mem_of_getElem? (i := 2) rfl
theorem eX5_asNumber_5 : (5, Instr.goto 4, 3, 9, 0, 0) ∈ kX5_asNumber := List.mem_of_getElem? (i := 3) rfl
theorem eX5_asNumber_8 : (8, Instr.iconst 0, 1, 0, 0, 0) ∈ kX5_asNumber := List.mem_of_getElem? (i := 4) rfl
theorem eX5_asNumber_9 : (9, Instr.ireturn, 1, 0, 0, 0) ∈ kX5_asNumber := List.mem_of_getElem? (i := 5) rfl
theorem aX5_dayOf : am_m nX5_dayOf = mX5_dayOf := rfl
theorem eX5_dayOf_0 : (0, Instr.iload_n 0, 1, 0, 0, 0) ∈ kX5_dayOf := List.mem_of_getElem? (i := 0) rfl
theorem eX5_dayOf_1 : (1, Instr.sipush 1440, 3, 0, 0, 0) ∈ kX5_dayOf := List.mem_of_getElem? (i := 1) rfl
theorem eX5_dayOf_4 : (4, Instr.idiv, 1, 0, 0, 0) ∈ kX5_dayOf := List.mem_of_getElem? (i := 2) rfl
theorem eX5_dayOf_5 : (5, Instr.ireturn, 1, 0, 0, 0) ∈ kX5_dayOf := List.mem_of_getElem? (i := 3) rfl
theorem aX5_today : am_m nX5_today = mX5_today := rfl
theorem eX5_today_0 : (0, Instr.aload_n 0, 1, 0, 0, 0) ∈ kX5_today := List.mem_of_getElem? (i := 0) rfl
theorem eX5_today_1 : (1, Instr.getfield 49, 3, 5, 10, 90) ∈ kX5_today := List.mem_of_getElem? (i := 1) rfl
theorem eX5_today_4 : (4, Instr.invokestatic 267, 3, 52, 1, 139) ∈ kX5_today := List.mem_of_getElem? (i := 2) rfl
theorem eX5_today_7 : (7, Instr.ireturn, 1, 0, 0, 0) ∈ kX5_today := List.mem_of_getElem? (i := 3) rfl
theorem aX5_isOpen : am_m nX5_isOpen = mX5_isOpen := rfl
theorem eX5_isOpen_0 : (0, Instr.aload_n 0, 1, 0, 0, 0) ∈ kX5_isOpen := List.mem_of_getElem? (i := 0) rfl
theorem eX5_isOpen_1 : (1, Instr.getfield 49, 3, 5, 10, 90) ∈ kX5_isOpen := List.mem_of_getElem? (i := 1) rfl
theorem eX5_isOpen_4 : (4, Instr.sipush 1440, 3, 0, 0, 0) ∈ kX5_isOpen := List.mem_of_getElem? (i := 2) rfl
theorem eX5_isOpen_7 : (7, Instr.irem, 1, 0, 0, 0) ∈ kX5_isOpen := List.mem_of_getElem? (i := 3) rfl
theorem eX5_isOpen_8 : (8, Instr.istore_n 1, 1, 0, 0, 0) ∈ kX5_isOpen := List.mem_of_getElem? (i := 4) rfl
theorem eX5_isOpen_9 : (9, Instr.iload_n 1, 1, 0, 0, 0) ∈ kX5_isOpen := List.mem_of_getElem? (i := 5) rfl
theorem eX5_isOpen_10 : (10, Instr.aload_n 0, 1, 0, 0, 0) ∈ kX5_isOpen := List.mem_of_getElem? (i := 6) rfl
theorem eX5_isOpen_11 : (11, Instr.getfield 55, 3, 5, 11, 91) ∈ kX5_isOpen := List.mem_of_getElem? (i := 7) rfl
theorem eX5_isOpen_14 : (14, Instr.if_icmp .lt 15, 3, 29, 0, 0) ∈ kX5_isOpen := List.mem_of_getElem? (i := 8) rfl
theorem eX5_isOpen_17 : (17, Instr.iload_n 1, 1, 0, 0, 0) ∈ kX5_isOpen := List.mem_of_getElem? (i := 9) rfl
theorem eX5_isOpen_18 : (18, Instr.aload_n 0, 1, 0, 0, 0) ∈ kX5_isOpen := List.mem_of_getElem? (i := 10) rfl
theorem eX5_isOpen_19 : (19, Instr.getfield 44, 3, 5, 12, 92) ∈ kX5_isOpen := List.mem_of_getElem? (i := 11) rfl
theorem eX5_isOpen_22 : (22, Instr.if_icmp .ge 7, 3, 29, 0, 0) ∈ kX5_isOpen := List.mem_of_getElem? (i := 12) rfl
theorem eX5_isOpen_25 : (25, Instr.iconst 1, 1, 0, 0, 0) ∈ kX5_isOpen := List.mem_of_getElem? (i := 13) rfl
theorem eX5_isOpen_26 : (26, Instr.goto 4, 3, 30, 0, 0) ∈ kX5_isOpen := List.mem_of_getElem? (i := 14) rfl
theorem eX5_isOpen_29 : (29, Instr.iconst 0, 1, 0, 0, 0) ∈ kX5_isOpen := List.mem_of_getElem? (i := 15) rfl
theorem eX5_isOpen_30 : (30, Instr.ireturn, 1, 1, 0, 0) ∈ kX5_isOpen := List.mem_of_getElem? (i := 16) rfl
theorem aX5_shelfAt : am_m nX5_shelfAt = mX5_shelfAt := rfl
theorem eX5_shelfAt_0 : (0, Instr.iload_n 1, 1, 0, 0, 0) ∈ kX5_shelfAt := List.mem_of_getElem? (i := 0) rfl
theorem eX5_shelfAt_1 : (1, Instr.iconst 0, 1, 0, 0, 0) ∈ kX5_shelfAt := List.mem_of_getElem? (i := 1) rfl
theorem eX5_shelfAt_2 : (2, Instr.aload_n 0, 1, 0, 0, 0) ∈ kX5_shelfAt := List.mem_of_getElem? (i := 2) rfl
theorem eX5_shelfAt_3 : (3, Instr.getfield 76, 3, 5, 1, 81) ∈ kX5_shelfAt := List.mem_of_getElem? (i := 3) rfl
theorem eX5_shelfAt_6 : (6, Instr.iconst 1, 1, 0, 0, 0) ∈ kX5_shelfAt := List.mem_of_getElem? (i := 4) rfl
theorem eX5_shelfAt_7 : (7, Instr.isub, 1, 0, 0, 0) ∈ kX5_shelfAt := List.mem_of_getElem? (i := 5) rfl
theorem eX5_shelfAt_8 : (8, Instr.invokestatic 72, 3, 49, 3, 153) ∈ kX5_shelfAt := List.mem_of_getElem? (i := 6) rfl
theorem eX5_shelfAt_11 : (11, Instr.ifCond .eq 12, 3, 23, 0, 0) ∈ kX5_shelfAt := List.mem_of_getElem? (i := 7) rfl
theorem eX5_shelfAt_14 : (14, Instr.aload_n 0, 1, 0, 0, 0) ∈ kX5_shelfAt := List.mem_of_getElem? (i := 8) rfl
theorem eX5_shelfAt_15 : (15, Instr.getfield 11, 3, 5, 0, 80) ∈ kX5_shelfAt := List.mem_of_getElem? (i := 9) rfl
theorem eX5_shelfAt_18 : (18, Instr.iload_n 1, 1, 0, 0, 0) ∈ kX5_shelfAt := List.mem_of_getElem? (i := 10) rfl
theorem eX5_shelfAt_19 : (19, Instr.aaload, 1, 0, 0, 0) ∈ kX5_shelfAt := List.mem_of_getElem? (i := 11) rfl
theorem eX5_shelfAt_20 : (20, Instr.goto 4, 3, 24, 0, 0) ∈ kX5_shelfAt := List.mem_of_getElem? (i := 12) rfl
theorem eX5_shelfAt_23 : (23, Instr.aconst_null, 1, 0, 0, 0) ∈ kX5_shelfAt := List.mem_of_getElem? (i := 13) rfl
theorem eX5_shelfAt_24 : (24, Instr.areturn, 1, 0, 0, 0) ∈ kX5_shelfAt := List.mem_of_getElem? (i := 14) rfl
theorem aX5_thingAt : am_m nX5_thingAt = mX5_thingAt := rfl
theorem eX5_thingAt_0 : (0, Instr.iload_n 1, 1, 0, 0, 0) ∈ kX5_thingAt := List.mem_of_getElem? (i := 0) rfl
theorem eX5_thingAt_1 : (1, Instr.iconst 0, 1, 0, 0, 0) ∈ kX5_thingAt := List.mem_of_getElem? (i := 1) rfl
theorem eX5_thingAt_2 : (2, Instr.aload_n 0, 1, 0, 0, 0) ∈ kX5_thingAt := List.mem_of_getElem? (i := 2) rfl
theorem eX5_thingAt_3 : (3, Instr.getfield 87, 3, 5, 3, 83) ∈ kX5_thingAt := List.mem_of_getElem? (i := 3) rfl
theorem eX5_thingAt_6 : (6, Instr.iconst 1, 1, 0, 0, 0) ∈ kX5_thingAt := List.mem_of_getElem? (i := 4) rfl
theorem eX5_thingAt_7 : (7, Instr.isub, 1, 0, 0, 0) ∈ kX5_thingAt := List.mem_of_getElem? (i := 5) rfl
theorem eX5_thingAt_8 : (8, Instr.invokestatic 72, 3, 49, 3, 153) ∈ kX5_thingAt := List.mem_of_getElem? (i := 6) rfl
theorem eX5_thingAt_11 : (11, Instr.ifCond .eq 12, 3, 23, 0, 0) ∈ kX5_thingAt := List.mem_of_getElem? (i := 7) rfl
theorem eX5_thingAt_14 : (14, Instr.aload_n 0, 1, 0, 0, 0) ∈ kX5_thingAt := List.mem_of_getElem? (i := 8) rfl
theorem eX5_thingAt_15 : (15, Instr.getfield 17, 3, 5, 2, 82) ∈ kX5_thingAt := List.mem_of_getElem? (i := 9) rfl
theorem eX5_thingAt_18 : (18, Instr.iload_n 1, 1, 0, 0, 0) ∈ kX5_thingAt := List.mem_of_getElem? (i := 10) rfl
theorem eX5_thingAt_19 : (19, Instr.aaload, 1, 0, 0, 0) ∈ kX5_thingAt := List.mem_of_getElem? (i := 11) rfl
theorem eX5_thingAt_20 : (20, Instr.goto 4, 3, 24, 0, 0) ∈ kX5_thingAt := List.mem_of_getElem? (i := 12) rfl
theorem eX5_thingAt_23 : (23, Instr.aconst_null, 1, 0, 0, 0) ∈ kX5_thingAt := List.mem_of_getElem? (i := 13) rfl
theorem eX5_thingAt_24 : (24, Instr.areturn, 1, 0, 0, 0) ∈ kX5_thingAt := List.mem_of_getElem? (i := 14) rfl
theorem aX5_claimAt : am_m nX5_claimAt = mX5_claimAt := rfl
theorem eX5_claimAt_0 : (0, Instr.iload_n 1, 1, 0, 0, 0) ∈ kX5_claimAt := List.mem_of_getElem? (i := 0) rfl
theorem eX5_claimAt_1 : (1, Instr.iconst 0, 1, 0, 0, 0) ∈ kX5_claimAt := List.mem_of_getElem? (i := 1) rfl
theorem eX5_claimAt_2 : (2, Instr.aload_n 0, 1, 0, 0, 0) ∈ kX5_claimAt := List.mem_of_getElem? (i := 2) rfl
theorem eX5_claimAt_3 : (3, Instr.getfield 138, 3, 5, 5, 85) ∈ kX5_claimAt := List.mem_of_getElem? (i := 3) rfl
theorem eX5_claimAt_6 : (6, Instr.iconst 1, 1, 0, 0, 0) ∈ kX5_claimAt := List.mem_of_getElem? (i := 4) rfl
theorem eX5_claimAt_7 : (7, Instr.isub, 1, 0, 0, 0) ∈ kX5_claimAt := List.mem_of_getElem? (i := 5) rfl
theorem eX5_claimAt_8 : (8, Instr.invokestatic 72, 3, 49, 3, 153) ∈ kX5_claimAt := List.mem_of_getElem? (i := 6) rfl
theorem eX5_claimAt_11 : (11, Instr.ifCond .eq 12, 3, 23, 0, 0) ∈ kX5_claimAt := List.mem_of_getElem? (i := 7) rfl
theorem eX5_claimAt_14 : (14, Instr.aload_n 0, 1, 0, 0, 0) ∈ kX5_claimAt := List.mem_of_getElem? (i := 8) rfl
theorem eX5_claimAt_15 : (15, Instr.getfield 23, 3, 5, 4, 84) ∈ kX5_claimAt := List.mem_of_getElem? (i := 9) rfl
theorem eX5_claimAt_18 : (18, Instr.iload_n 1, 1, 0, 0, 0) ∈ kX5_claimAt := List.mem_of_getElem? (i := 10) rfl
theorem eX5_claimAt_19 : (19, Instr.aaload, 1, 0, 0, 0) ∈ kX5_claimAt := List.mem_of_getElem? (i := 11) rfl
theorem eX5_claimAt_20 : (20, Instr.goto 4, 3, 24, 0, 0) ∈ kX5_claimAt := List.mem_of_getElem? (i := 12) rfl
theorem eX5_claimAt_23 : (23, Instr.aconst_null, 1, 0, 0, 0) ∈ kX5_claimAt := List.mem_of_getElem? (i := 13) rfl
theorem eX5_claimAt_24 : (24, Instr.areturn, 1, 0, 0, 0) ∈ kX5_claimAt := List.mem_of_getElem? (i := 14) rfl
theorem aX5_ticketOf : am_m nX5_ticketOf = mX5_ticketOf := rfl
theorem eX5_ticketOf_0 : (0, Instr.bipush 100, 2, 0, 0, 0) ∈ kX5_ticketOf := List.mem_of_getElem? (i := 0) rfl
theorem eX5_ticketOf_2 : (2, Instr.iload_n 0, 1, 0, 0, 0) ∈ kX5_ticketOf := List.mem_of_getElem? (i := 1) rfl
theorem eX5_ticketOf_3 : (3, Instr.imul, 1, 0, 0, 0) ∈ kX5_ticketOf := List.mem_of_getElem? (i := 2) rfl
theorem eX5_ticketOf_4 : (4, Instr.iload_n 0, 1, 0, 0, 0) ∈ kX5_ticketOf := List.mem_of_getElem? (i := 3) rfl
theorem eX5_ticketOf_5 : (5, Instr.invokestatic 270, 3, 59, 1, 334) ∈ kX5_ticketOf := List.mem_of_getElem? (i := 4) rfl
theorem eX5_ticketOf_8 : (8, Instr.iadd, 1, 0, 0, 0) ∈ kX5_ticketOf := List.mem_of_getElem? (i := 5) rfl
theorem eX5_ticketOf_9 : (9, Instr.ireturn, 1, 0, 0, 0) ∈ kX5_ticketOf := List.mem_of_getElem? (i := 6) rfl
theorem aX5_checkOf : am_m nX5_checkOf = mX5_checkOf := rfl
theorem eX5_checkOf_0 : (0, Instr.bipush 37, 2, 0, 0, 0) ∈ kX5_checkOf := List.mem_of_getElem? (i := 0) rfl
theorem eX5_checkOf_2 : (2, Instr.iload_n 0, 1, 0, 0, 0) ∈ kX5_checkOf := List.mem_of_getElem? (i := 1) rfl
theorem eX5_checkOf_3 : (3, Instr.imul, 1, 0, 0, 0) ∈ kX5_checkOf := List.mem_of_getElem? (i := 2) rfl
theorem eX5_checkOf_4 : (4, Instr.bipush 11, 2, 0, 0, 0) ∈ kX5_checkOf := List.mem_of_getElem? (i := 3) rfl
theorem eX5_checkOf_6 : (6, Instr.iadd, 1, 0, 0, 0) ∈ kX5_checkOf := List.mem_of_getElem? (i := 4) rfl
theorem eX5_checkOf_7 : (7, Instr.bipush 97, 2, 0, 0, 0) ∈ kX5_checkOf := List.mem_of_getElem? (i := 5) rfl
theorem eX5_checkOf_9 : (9, Instr.irem, 1, 0, 0, 0) ∈ kX5_checkOf := List.mem_of_getElem? (i := 6) rfl
theorem eX5_checkOf_10 : (10, Instr.ireturn, 1, 0, 0, 0) ∈ kX5_checkOf := List.mem_of_getElem? (i := 7) rfl
theorem aX5_isTicket : am_m nX5_isTicket = mX5_isTicket := rfl
theorem eX5_isTicket_0 : (0, Instr.iload_n 0, 1, 0, 0, 0) ∈ kX5_isTicket := List.mem_of_getElem? (i := 0) rfl
theorem eX5_isTicket_1 : (1, Instr.ifCond .lt 21, 3, 22, 0, 0) ∈ kX5_isTicket := List.mem_of_getElem? (i := 1) rfl
theorem eX5_isTicket_4 : (4, Instr.iload_n 0, 1, 0, 0, 0) ∈ kX5_isTicket := List.mem_of_getElem? (i := 2) rfl
theorem eX5_isTicket_5 : (5, Instr.bipush 100, 2, 0, 0, 0) ∈ kX5_isTicket := List.mem_of_getElem? (i := 3) rfl
theorem eX5_isTicket_7 : (7, Instr.irem, 1, 0, 0, 0) ∈ kX5_isTicket := List.mem_of_getElem? (i := 4) rfl
theorem eX5_isTicket_8 : (8, Instr.iload_n 0, 1, 0, 0, 0) ∈ kX5_isTicket := List.mem_of_getElem? (i := 5) rfl
theorem eX5_isTicket_9 : (9, Instr.bipush 100, 2, 0, 0, 0) ∈ kX5_isTicket := List.mem_of_getElem? (i := 6) rfl
theorem eX5_isTicket_11 : (11, Instr.idiv, 1, 0, 0, 0) ∈ kX5_isTicket := List.mem_of_getElem? (i := 7) rfl
theorem eX5_isTicket_12 : (12, Instr.invokestatic 270, 3, 59, 1, 334) ∈ kX5_isTicket := List.mem_of_getElem? (i := 8) rfl
theorem eX5_isTicket_15 : (15, Instr.if_icmp .ne 7, 3, 22, 0, 0) ∈ kX5_isTicket := List.mem_of_getElem? (i := 9) rfl
theorem eX5_isTicket_18 : (18, Instr.iconst 1, 1, 0, 0, 0) ∈ kX5_isTicket := List.mem_of_getElem? (i := 10) rfl
theorem eX5_isTicket_19 : (19, Instr.goto 4, 3, 23, 0, 0) ∈ kX5_isTicket := List.mem_of_getElem? (i := 11) rfl
theorem eX5_isTicket_22 : (22, Instr.iconst 0, 1, 0, 0, 0) ∈ kX5_isTicket := List.mem_of_getElem? (i := 12) rfl
theorem eX5_isTicket_23 : (23, Instr.ireturn, 1, 1, 0, 0) ∈ kX5_isTicket := List.mem_of_getElem? (i := 13) rfl
theorem aX5_lastRowDay : am_m nX5_lastRowDay = mX5_lastRowDay := rfl
theorem eX5_lastRowDay_0 : (0, Instr.aload_n 0, 1, 0, 0, 0) ∈ kX5_lastRowDay := List.mem_of_getElem? (i := 0) rfl
theorem eX5_lastRowDay_1 : (1, Instr.getfield 62, 3, 5, 7, 87) ∈ kX5_lastRowDay := List.mem_of_getElem? (i := 1) rfl
theorem eX5_lastRowDay_4 : (4, Instr.ifCond .le 17, 3, 21, 0, 0) ∈ kX5_lastRowDay := List.mem_of_getElem? (i := 2) rfl
theorem eX5_lastRowDay_7 : (7, Instr.aload_n 0, 1, 0, 0, 0) ∈ kX5_lastRowDay := List.mem_of_getElem? (i := 3) rfl
theorem eX5_lastRowDay_8 : (8, Instr.getfield 29, 3, 5, 6, 86) ∈ kX5_lastRowDay := List.mem_of_getElem? (i := 4) rfl
theorem eX5_lastRowDay_11 : (11, Instr.aload_n 0, 1, 0, 0, 0) ∈ kX5_lastRowDay := List.mem_of_getElem? (i := 5) rfl
theorem eX5_lastRowDay_12 : (12, Instr.getfield 62, 3, 5, 7, 87) ∈ kX5_lastRowDay := List.mem_of_getElem? (i := 6) rfl
theorem eX5_lastRowDay_15 : (15, Instr.iconst 1, 1, 0, 0, 0) ∈ kX5_lastRowDay := List.mem_of_getElem? (i := 7) rfl
theorem eX5_lastRowDay_16 : (16, Instr.isub, 1, 0, 0, 0) ∈ kX5_lastRowDay := List.mem_of_getElem? (i := 8) rfl
theorem eX5_lastRowDay_17 : (17, Instr.aaload, 1, 0, 0, 0) ∈ kX5_lastRowDay := List.mem_of_getElem? (i := 9) rfl
theorem eX5_lastRowDay_18 : (18, Instr.goto 4, 3, 22, 0, 0) ∈ kX5_lastRowDay := List.mem_of_getElem? (i := 10) rfl
theorem eX5_lastRowDay_21 : (21, Instr.aconst_null, 1, 0, 0, 0) ∈ kX5_lastRowDay := List.mem_of_getElem? (i := 11) rfl
theorem eX5_lastRowDay_22 : (22, Instr.astore_n 1, 1, 0, 0, 0) ∈ kX5_lastRowDay := List.mem_of_getElem? (i := 12) rfl
theorem eX5_lastRowDay_23 : (23, Instr.aload_n 1, 1, 0, 0, 0) ∈ kX5_lastRowDay := List.mem_of_getElem? (i := 13) rfl
theorem eX5_lastRowDay_24 : (24, Instr.ifnonnull 7, 3, 31, 0, 0) ∈ kX5_lastRowDay := List.mem_of_getElem? (i := 14) rfl
theorem eX5_lastRowDay_27 : (27, Instr.iconst (-1), 1, 0, 0, 0) ∈ kX5_lastRowDay := List.mem_of_getElem? (i := 15) rfl
theorem eX5_lastRowDay_28 : (28, Instr.goto 7, 3, 35, 0, 0) ∈ kX5_lastRowDay := List.mem_of_getElem? (i := 16) rfl
theorem eX5_lastRowDay_31 : (31, Instr.aload_n 1, 1, 0, 0, 0) ∈ kX5_lastRowDay := List.mem_of_getElem? (i := 17) rfl
theorem eX5_lastRowDay_32 : (32, Instr.getfield 273, 3, 2, 0, 166) ∈ kX5_lastRowDay := List.mem_of_getElem? (i := 18) rfl
theorem eX5_lastRowDay_35 : (35, Instr.ireturn, 1, 0, 0, 0) ∈ kX5_lastRowDay := List.mem_of_getElem? (i := 19) rfl
theorem aX5_rowOn : am_m nX5_rowOn = mX5_rowOn := rfl
theorem eX5_rowOn_0 : (0, Instr.aconst_null, 1, 0, 0, 0) ∈ kX5_rowOn := List.mem_of_getElem? (i := 0) rfl
theorem eX5_rowOn_1 : (1, Instr.astore_n 2, 1, 0, 0, 0) ∈ kX5_rowOn := List.mem_of_getElem? (i := 1) rfl
theorem eX5_rowOn_2 : (2, Instr.iconst 0, 1, 0, 0, 0) ∈ kX5_rowOn := List.mem_of_getElem? (i := 2) rfl
theorem eX5_rowOn_3 : (3, Instr.istore_n 3, 1, 0, 0, 0) ∈ kX5_rowOn := List.mem_of_getElem? (i := 3) rfl
theorem eX5_rowOn_4 : (4, Instr.iload_n 3, 1, 0, 0, 0) ∈ kX5_rowOn := List.mem_of_getElem? (i := 4) rfl
theorem eX5_rowOn_5 : (5, Instr.aload_n 0, 1, 0, 0, 0) ∈ kX5_rowOn := List.mem_of_getElem? (i := 5) rfl
theorem eX5_rowOn_6 : (6, Instr.getfield 62, 3, 5, 7, 87) ∈ kX5_rowOn := List.mem_of_getElem? (i := 6) rfl
theorem eX5_rowOn_9 : (9, Instr.if_icmp .ge 34, 3, 43, 0, 0) ∈ kX5_rowOn := List.mem_of_getElem? (i := 7) rfl
theorem eX5_rowOn_12 : (12, Instr.aload_n 0, 1, 0, 0, 0) ∈ kX5_rowOn := List.mem_of_getElem? (i := 8) rfl
theorem eX5_rowOn_13 : (13, Instr.getfield 29, 3, 5, 6, 86) ∈ kX5_rowOn := List.mem_of_getElem? (i := 9) rfl
theorem eX5_rowOn_16 : (16, Instr.iload_n 3, 1, 0, 0, 0) ∈ kX5_rowOn := List.mem_of_getElem? (i := 10) rfl
theorem eX5_rowOn_17 : (17, Instr.aaload, 1, 0, 0, 0) ∈ kX5_rowOn := List.mem_of_getElem? (i := 11) rfl
theorem eX5_rowOn_18 : (18, Instr.astore 4, 2, 0, 0, 0) ∈ kX5_rowOn := List.mem_of_getElem? (i := 12) rfl
theorem eX5_rowOn_20 : (20, Instr.aload 4, 2, 0, 0, 0) ∈ kX5_rowOn := List.mem_of_getElem? (i := 13) rfl
theorem eX5_rowOn_22 : (22, Instr.ifnull 15, 3, 37, 0, 0) ∈ kX5_rowOn := List.mem_of_getElem? (i := 14) rfl
theorem eX5_rowOn_25 : (25, Instr.aload 4, 2, 0, 0, 0) ∈ kX5_rowOn := List.mem_of_getElem? (i := 15) rfl
theorem eX5_rowOn_27 : (27, Instr.getfield 273, 3, 2, 0, 166) ∈ kX5_rowOn := List.mem_of_getElem? (i := 16) rfl
theorem eX5_rowOn_30 : (30, Instr.iload_n 1, 1, 0, 0, 0) ∈ kX5_rowOn := List.mem_of_getElem? (i := 17) rfl
theorem eX5_rowOn_31 : (31, Instr.if_icmp .gt 6, 3, 37, 0, 0) ∈ kX5_rowOn := List.mem_of_getElem? (i := 18) rfl
theorem eX5_rowOn_34 : (34, Instr.aload 4, 2, 0, 0, 0) ∈ kX5_rowOn := List.mem_of_getElem? (i := 19) rfl
theorem eX5_rowOn_36 : (36, Instr.astore_n 2, 1, 0, 0, 0) ∈ kX5_rowOn := List.mem_of_getElem? (i := 20) rfl
theorem eX5_rowOn_37 : (37, Instr.iinc 3 1, 3, 0, 0, 0) ∈ kX5_rowOn := List.mem_of_getElem? (i := 21) rfl
theorem eX5_rowOn_40 : (40, Instr.goto (-36), 3, 4, 0, 0) ∈ kX5_rowOn := List.mem_of_getElem? (i := 22) rfl
theorem eX5_rowOn_43 : (43, Instr.aload_n 2, 1, 0, 0, 0) ∈ kX5_rowOn := List.mem_of_getElem? (i := 23) rfl
theorem eX5_rowOn_44 : (44, Instr.areturn, 1, 0, 0, 0) ∈ kX5_rowOn := List.mem_of_getElem? (i := 24) rfl
theorem aX5_feeOf : am_m nX5_feeOf = mX5_feeOf := rfl
theorem eX5_feeOf_0 : (0, Instr.aload_n 1, 1, 0, 0, 0) ∈ kX5_feeOf := List.mem_of_getElem? (i := 0) rfl
theorem eX5_feeOf_1 : (1, Instr.getfield 252, 3, 4, 6, 261) ∈ kX5_feeOf := List.mem_of_getElem? (i := 1) rfl
theorem eX5_feeOf_4 : (4, Instr.invokestatic 267, 3, 52, 1, 139) ∈ kX5_feeOf := List.mem_of_getElem? (i := 2) rfl
theorem eX5_feeOf_7 : (7, Instr.istore_n 2, 1, 0, 0, 0) ∈ kX5_feeOf := List.mem_of_getElem? (i := 3) rfl
theorem eX5_feeOf_8 : (8, Instr.aload_n 1, 1, 0, 0, 0) ∈ kX5_feeOf := List.mem_of_getElem? (i := 4) rfl
theorem eX5_feeOf_9 : (9, Instr.getfield 203, 3, 4, 10, 270) ∈ kX5_feeOf := List.mem_of_getElem? (i := 5) rfl
theorem eX5_feeOf_12 : (12, Instr.iconst (-1), 1, 0, 0, 0) ∈ kX5_feeOf := List.mem_of_getElem? (i := 6) rfl
theorem eX5_feeOf_13 : (13, Instr.if_icmp .ne 10, 3, 23, 0, 0) ∈ kX5_feeOf := List.mem_of_getElem? (i := 7) rfl
theorem eX5_feeOf_16 : (16, Instr.aload_n 0, 1, 0, 0, 0) ∈ kX5_feeOf := List.mem_of_getElem? (i := 8) rfl
theorem eX5_feeOf_17 : (17, Instr.invokevirtual 197, 3, 53, 0, 135) ∈ kX5_feeOf := List.mem_of_getElem? (i := 9) rfl
theorem eX5_feeOf_20 : (20, Instr.goto 7, 3, 27, 0, 0) ∈ kX5_feeOf := List.mem_of_getElem? (i := 10) rfl
theorem eX5_feeOf_23 : (23, Instr.aload_n 1, 1, 0, 0, 0) ∈ kX5_feeOf := List.mem_of_getElem? (i := 11) rfl
theorem eX5_feeOf_24 : (24, Instr.getfield 203, 3, 4, 10, 270) ∈ kX5_feeOf := List.mem_of_getElem? (i := 12) rfl
theorem eX5_feeOf_27 : (27, Instr.istore_n 3, 1, 0, 0, 0) ∈ kX5_feeOf := List.mem_of_getElem? (i := 13) rfl
theorem eX5_feeOf_28 : (28, Instr.aload_n 0, 1, 0, 0, 0) ∈ kX5_feeOf := List.mem_of_getElem? (i := 14) rfl
theorem eX5_feeOf_29 : (29, Instr.iload_n 2, 1, 0, 0, 0) ∈ kX5_feeOf := List.mem_of_getElem? (i := 15) rfl
theorem eX5_feeOf_30 : (30, Instr.invokevirtual 276, 3, 62, 1, 352) ∈ kX5_feeOf := List.mem_of_getElem? (i := 16) rfl
theorem eX5_feeOf_33 : (33, Instr.astore 4, 2, 0, 0, 0) ∈ kX5_feeOf := List.mem_of_getElem? (i := 17) rfl
theorem eX5_feeOf_35 : (35, Instr.aload 4, 2, 0, 0, 0) ∈ kX5_feeOf := List.mem_of_getElem? (i := 18) rfl
theorem eX5_feeOf_37 : (37, Instr.ifnonnull 7, 3, 44, 0, 0) ∈ kX5_feeOf := List.mem_of_getElem? (i := 19) rfl
theorem eX5_feeOf_40 : (40, Instr.iconst 0, 1, 0, 0, 0) ∈ kX5_feeOf := List.mem_of_getElem? (i := 20) rfl
theorem eX5_feeOf_41 : (41, Instr.goto 8, 3, 49, 0, 0) ∈ kX5_feeOf := List.mem_of_getElem? (i := 21) rfl
theorem eX5_feeOf_44 : (44, Instr.aload 4, 2, 0, 0, 0) ∈ kX5_feeOf := List.mem_of_getElem? (i := 22) rfl
theorem eX5_feeOf_46 : (46, Instr.getfield 280, 3, 2, 1, 168) ∈ kX5_feeOf := List.mem_of_getElem? (i := 23) rfl
theorem eX5_feeOf_49 : (49, Instr.istore 5, 2, 0, 0, 0) ∈ kX5_feeOf := List.mem_of_getElem? (i := 24) rfl
theorem eX5_feeOf_51 : (51, Instr.iload_n 2, 1, 0, 0, 0) ∈ kX5_feeOf := List.mem_of_getElem? (i := 25) rfl
theorem eX5_feeOf_52 : (52, Instr.istore 6, 2, 0, 0, 0) ∈ kX5_feeOf := List.mem_of_getElem? (i := 26) rfl
theorem eX5_feeOf_54 : (54, Instr.iload 6, 2, 0, 0, 0) ∈ kX5_feeOf := List.mem_of_getElem? (i := 27) rfl
theorem eX5_feeOf_56 : (56, Instr.iload_n 3, 1, 0, 0, 0) ∈ kX5_feeOf := List.mem_of_getElem? (i := 28) rfl
theorem eX5_feeOf_57 : (57, Instr.if_icmp .gt 53, 3, 110, 0, 0) ∈ kX5_feeOf := List.mem_of_getElem? (i := 29) rfl
theorem eX5_feeOf_60 : (60, Instr.aload_n 0, 1, 0, 0, 0) ∈ kX5_feeOf := List.mem_of_getElem? (i := 30) rfl
theorem eX5_feeOf_61 : (61, Instr.iload 6, 2, 0, 0, 0) ∈ kX5_feeOf := List.mem_of_getElem? (i := 31) rfl
theorem eX5_feeOf_63 : (63, Instr.invokevirtual 276, 3, 62, 1, 352) ∈ kX5_feeOf := List.mem_of_getElem? (i := 32) rfl
theorem eX5_feeOf_66 : (66, Instr.astore 7, 2, 0, 0, 0) ∈ kX5_feeOf := List.mem_of_getElem? (i := 33) rfl
theorem eX5_feeOf_68 : (68, Instr.aload 7, 2, 0, 0, 0) ∈ kX5_feeOf := List.mem_of_getElem? (i := 34) rfl
theorem eX5_feeOf_70 : (70, Instr.ifnull 34, 3, 104, 0, 0) ∈ kX5_feeOf := List.mem_of_getElem? (i := 35) rfl
theorem eX5_feeOf_73 : (73, Instr.iload 5, 2, 0, 0, 0) ∈ kX5_feeOf := List.mem_of_getElem? (i := 36) rfl
theorem eX5_feeOf_75 : (75, Instr.iload 6, 2, 0, 0, 0) ∈ kX5_feeOf := List.mem_of_getElem? (i := 37) rfl
theorem eX5_feeOf_77 : (77, Instr.aload_n 1, 1, 0, 0, 0) ∈ kX5_feeOf := List.mem_of_getElem? (i := 38) rfl
theorem eX5_feeOf_78 : (78, Instr.invokevirtual 200, 3, 18, 0, 356) ∈ kX5_feeOf := List.mem_of_getElem? (i := 39) rfl
theorem eX5_feeOf_81 : (81, Instr.if_icmp .le 14, 3, 95, 0, 0) ∈ kX5_feeOf := List.mem_of_getElem? (i := 40) rfl
theorem eX5_feeOf_84 : (84, Instr.iconst 2, 1, 0, 0, 0) ∈ kX5_feeOf := List.mem_of_getElem? (i := 41) rfl
theorem eX5_feeOf_85 : (85, Instr.aload 7, 2, 0, 0, 0) ∈ kX5_feeOf := List.mem_of_getElem? (i := 42) rfl
theorem eX5_feeOf_87 : (87, Instr.aload_n 1, 1, 0, 0, 0) ∈ kX5_feeOf := List.mem_of_getElem? (i := 43) rfl
theorem eX5_feeOf_88 : (88, Instr.invokevirtual 283, 3, 11, 1, 361) ∈ kX5_feeOf := List.mem_of_getElem? (i := 44) rfl
theorem eX5_feeOf_91 : (91, Instr.imul, 1, 0, 0, 0) ∈ kX5_feeOf := List.mem_of_getElem? (i := 45) rfl
theorem eX5_feeOf_92 : (92, Instr.goto 9, 3, 101, 0, 0) ∈ kX5_feeOf := List.mem_of_getElem? (i := 46) rfl
theorem eX5_feeOf_95 : (95, Instr.aload 7, 2, 0, 0, 0) ∈ kX5_feeOf := List.mem_of_getElem? (i := 47) rfl
theorem eX5_feeOf_97 : (97, Instr.aload_n 1, 1, 0, 0, 0) ∈ kX5_feeOf := List.mem_of_getElem? (i := 48) rfl
theorem eX5_feeOf_98 : (98, Instr.invokevirtual 283, 3, 11, 1, 361) ∈ kX5_feeOf := List.mem_of_getElem? (i := 49) rfl
theorem eX5_feeOf_101 : (101, Instr.iadd, 1, 0, 0, 0) ∈ kX5_feeOf := List.mem_of_getElem? (i := 50) rfl
theorem eX5_feeOf_102 : (102, Instr.istore 5, 2, 0, 0, 0) ∈ kX5_feeOf := List.mem_of_getElem? (i := 51) rfl
theorem eX5_feeOf_104 : (104, Instr.iinc 6 1, 3, 0, 0, 0) ∈ kX5_feeOf := List.mem_of_getElem? (i := 52) rfl
theorem eX5_feeOf_107 : (107, Instr.goto (-53), 3, 54, 0, 0) ∈ kX5_feeOf := List.mem_of_getElem? (i := 53) rfl
theorem eX5_feeOf_110 : (110, Instr.iload 5, 2, 0, 0, 0) ∈ kX5_feeOf := List.mem_of_getElem? (i := 54) rfl
theorem eX5_feeOf_112 : (112, Instr.ireturn, 1, 0, 0, 0) ∈ kX5_feeOf := List.mem_of_getElem? (i := 55) rfl
theorem aX5_letOldCoinsFall : am_m nX5_letOldCoinsFall = mX5_letOldCoinsFall := rfl
theorem eX5_letOldCoinsFall_0 : (0, Instr.iconst 0, 1, 0, 0, 0) ∈ kX5_letOldCoinsFall := List.mem_of_getElem? (i := 0) rfl
theorem eX5_letOldCoinsFall_1 : (1, Instr.istore_n 1, 1, 0, 0, 0) ∈ kX5_letOldCoinsFall := List.mem_of_getElem? (i := 1) rfl
theorem eX5_letOldCoinsFall_2 : (2, Instr.iload_n 1, 1, 0, 0, 0) ∈ kX5_letOldCoinsFall := List.mem_of_getElem? (i := 2) rfl
theorem eX5_letOldCoinsFall_3 : (3, Instr.aload_n 0, 1, 0, 0, 0) ∈ kX5_letOldCoinsFall := List.mem_of_getElem? (i := 3) rfl
theorem eX5_letOldCoinsFall_4 : (4, Instr.getfield 87, 3, 5, 3, 83) ∈ kX5_letOldCoinsFall := List.mem_of_getElem? (i := 4) rfl
theorem eX5_letOldCoinsFall_7 : (7, Instr.if_icmp .ge 65, 3, 72, 0, 0) ∈ kX5_letOldCoinsFall := List.mem_of_getElem? (i := 5) rfl
theorem eX5_letOldCoinsFall_10 : (10, Instr.aload_n 0, 1, 0, 0, 0) ∈ kX5_letOldCoinsFall := List.mem_of_getElem? (i := 6) rfl
theorem eX5_letOldCoinsFall_11 : (11, Instr.getfield 17, 3, 5, 2, 82) ∈ kX5_letOldCoinsFall := List.mem_of_getElem? (i := 7) rfl
theorem eX5_letOldCoinsFall_14 : (14, Instr.iload_n 1, 1, 0, 0, 0) ∈ kX5_letOldCoinsFall := List.mem_of_getElem? (i := 8) rfl
theorem eX5_letOldCoinsFall_15 : (15, Instr.aaload, 1, 0, 0, 0) ∈ kX5_letOldCoinsFall := List.mem_of_getElem? (i := 9) rfl
theorem eX5_letOldCoinsFall_16 : (16, Instr.astore_n 2, 1, 0, 0, 0) ∈ kX5_letOldCoinsFall := List.mem_of_getElem? (i := 10) rfl
theorem eX5_letOldCoinsFall_17 : (17, Instr.aload_n 2, 1, 0, 0, 0) ∈ kX5_letOldCoinsFall := List.mem_of_getElem? (i := 11) rfl
theorem eX5_letOldCoinsFall_18 : (18, Instr.ifnull 48, 3, 66, 0, 0) ∈ kX5_letOldCoinsFall := List.mem_of_getElem? (i := 12) rfl
theorem eX5_letOldCoinsFall_21 : (21, Instr.aload_n 2, 1, 0, 0, 0) ∈ kX5_letOldCoinsFall := List.mem_of_getElem? (i := 13) rfl
theorem eX5_letOldCoinsFall_22 : (22, Instr.getfield 118, 3, 4, 7, 264) ∈ kX5_letOldCoinsFall := List.mem_of_getElem? (i := 14) rfl
theorem eX5_letOldCoinsFall_25 : (25, Instr.iconst 2, 1, 0, 0, 0) ∈ kX5_letOldCoinsFall := List.mem_of_getElem? (i := 15) rfl
theorem eX5_letOldCoinsFall_26 : (26, Instr.if_icmp .ne 40, 3, 66, 0, 0) ∈ kX5_letOldCoinsFall := List.mem_of_getElem? (i := 16) rfl
theorem eX5_letOldCoinsFall_29 : (29, Instr.aload_n 0, 1, 0, 0, 0) ∈ kX5_letOldCoinsFall := List.mem_of_getElem? (i := 17) rfl
theorem eX5_letOldCoinsFall_30 : (30, Instr.invokevirtual 197, 3, 53, 0, 135) ∈ kX5_letOldCoinsFall := List.mem_of_getElem? (i := 18) rfl
theorem eX5_letOldCoinsFall_33 : (33, Instr.aload_n 2, 1, 0, 0, 0) ∈ kX5_letOldCoinsFall := List.mem_of_getElem? (i := 19) rfl
theorem eX5_letOldCoinsFall_34 : (34, Instr.getfield 203, 3, 4, 10, 270) ∈ kX5_letOldCoinsFall := List.mem_of_getElem? (i := 20) rfl
theorem eX5_letOldCoinsFall_37 : (37, Instr.isub, 1, 0, 0, 0) ∈ kX5_letOldCoinsFall := List.mem_of_getElem? (i := 21) rfl
theorem eX5_letOldCoinsFall_38 : (38, Instr.bipush 30, 2, 0, 0, 0) ∈ kX5_letOldCoinsFall := List.mem_of_getElem? (i := 22) rfl
theorem eX5_letOldCoinsFall_40 : (40, Instr.if_icmp .le 26, 3, 66, 0, 0) ∈ kX5_letOldCoinsFall := List.mem_of_getElem? (i := 23) rfl
theorem eX5_letOldCoinsFall_43 : (43, Instr.aload_n 0, 1, 0, 0, 0) ∈ kX5_letOldCoinsFall := List.mem_of_getElem? (i := 24) rfl
theorem eX5_letOldCoinsFall_44 : (44, Instr.dup, 1, 0, 0, 0) ∈ kX5_letOldCoinsFall := List.mem_of_getElem? (i := 25) rfl
theorem eX5_letOldCoinsFall_45 : (45, Instr.getfield 135, 3, 5, 13, 93) ∈ kX5_letOldCoinsFall := List.mem_of_getElem? (i := 26) rfl
theorem eX5_letOldCoinsFall_48 : (48, Instr.aload_n 2, 1, 0, 0, 0) ∈ kX5_letOldCoinsFall := List.mem_of_getElem? (i := 27) rfl
theorem eX5_letOldCoinsFall_49 : (49, Instr.getfield 209, 3, 4, 9, 268) ∈ kX5_letOldCoinsFall := List.mem_of_getElem? (i := 28) rfl
theorem eX5_letOldCoinsFall_52 : (52, Instr.iadd, 1, 0, 0, 0) ∈ kX5_letOldCoinsFall := List.mem_of_getElem? (i := 29) rfl
theorem eX5_letOldCoinsFall_53 : (53, Instr.putfield 135, 3, 5, 13, 93) ∈ kX5_letOldCoinsFall := List.mem_of_getElem? (i := 30) rfl
theorem eX5_letOldCoinsFall_56 : (56, Instr.aload_n 2, 1, 0, 0, 0) ∈ kX5_letOldCoinsFall := List.mem_of_getElem? (i := 31) rfl
theorem eX5_letOldCoinsFall_57 : (57, Instr.iconst 0, 1, 0, 0, 0) ∈ kX5_letOldCoinsFall := List.mem_of_getElem? (i := 32) rfl
theorem eX5_letOldCoinsFall_58 : (58, Instr.putfield 209, 3, 4, 9, 268) ∈ kX5_letOldCoinsFall := List.mem_of_getElem? (i := 33) rfl
theorem eX5_letOldCoinsFall_61 : (61, Instr.aload_n 2, 1, 0, 0, 0) ∈ kX5_letOldCoinsFall := List.mem_of_getElem? (i := 34) rfl
theorem eX5_letOldCoinsFall_62 : (62, Instr.iconst 4, 1, 0, 0, 0) ∈ kX5_letOldCoinsFall := List.mem_of_getElem? (i := 35) rfl
theorem eX5_letOldCoinsFall_63 : (63, Instr.putfield 118, 3, 4, 7, 264) ∈ kX5_letOldCoinsFall := List.mem_of_getElem? (i := 36) rfl
theorem eX5_letOldCoinsFall_66 : (66, Instr.iinc 1 1, 3, 0, 0, 0) ∈ kX5_letOldCoinsFall := List.mem_of_getElem? (i := 37) rfl
theorem eX5_letOldCoinsFall_69 : (69, Instr.goto (-67), 3, 2, 0, 0) ∈ kX5_letOldCoinsFall := List.mem_of_getElem? (i := 38) rfl
theorem eX5_letOldCoinsFall_72 : (72, Instr.return_, 1, 0, 0, 0) ∈ kX5_letOldCoinsFall := List.mem_of_getElem? (i := 39) rfl
theorem aX5_shelfForNew : am_m nX5_shelfForNew = mX5_shelfForNew := rfl
theorem eX5_shelfForNew_0 : (0, Instr.aconst_null, 1, 0, 0, 0) ∈ kX5_shelfForNew := List.mem_of_getElem? (i := 0) rfl
theorem eX5_shelfForNew_1 : (1, Instr.astore_n 2, 1, 0, 0, 0) ∈ kX5_shelfForNew := List.mem_of_getElem? (i := 1) rfl
theorem eX5_shelfForNew_2 : (2, Instr.iconst 0, 1, 0, 0, 0) ∈ kX5_shelfForNew := List.mem_of_getElem? (i := 2) rfl
theorem eX5_shelfForNew_3 : (3, Instr.istore_n 3, 1, 0, 0, 0) ∈ kX5_shelfForNew := List.mem_of_getElem? (i := 3) rfl
theorem eX5_shelfForNew_4 : (4, Instr.iload_n 3, 1, 0, 0, 0) ∈ kX5_shelfForNew := List.mem_of_getElem? (i := 4) rfl
theorem eX5_shelfForNew_5 : (5, Instr.aload_n 0, 1, 0, 0, 0) ∈ kX5_shelfForNew := List.mem_of_getElem? (i := 5) rfl
theorem eX5_shelfForNew_6 : (6, Instr.getfield 76, 3, 5, 1, 81) ∈ kX5_shelfForNew := List.mem_of_getElem? (i := 6) rfl
theorem eX5_shelfForNew_9 : (9, Instr.if_icmp .ge 49, 3, 58, 0, 0) ∈ kX5_shelfForNew := List.mem_of_getElem? (i := 7) rfl
theorem eX5_shelfForNew_12 : (12, Instr.aload_n 0, 1, 0, 0, 0) ∈ kX5_shelfForNew := List.mem_of_getElem? (i := 8) rfl
theorem eX5_shelfForNew_13 : (13, Instr.getfield 11, 3, 5, 0, 80) ∈ kX5_shelfForNew := List.mem_of_getElem? (i := 9) rfl
theorem eX5_shelfForNew_16 : (16, Instr.iload_n 3, 1, 0, 0, 0) ∈ kX5_shelfForNew := List.mem_of_getElem? (i := 10) rfl
theorem eX5_shelfForNew_17 : (17, Instr.aaload, 1, 0, 0, 0) ∈ kX5_shelfForNew := List.mem_of_getElem? (i := 11) rfl
theorem eX5_shelfForNew_18 : (18, Instr.astore 4, 2, 0, 0, 0) ∈ kX5_shelfForNew := List.mem_of_getElem? (i := 12) rfl
theorem eX5_shelfForNew_20 : (20, Instr.aload 4, 2, 0, 0, 0) ∈ kX5_shelfForNew := List.mem_of_getElem? (i := 13) rfl
theorem eX5_shelfForNew_22 : (22, Instr.ifnull 30, 3, 52, 0, 0) ∈ kX5_shelfForNew := List.mem_of_getElem? (i := 14) rfl
theorem eX5_shelfForNew_25 : (25, Instr.aload 4, 2, 0, 0, 0) ∈ kX5_shelfForNew := List.mem_of_getElem? (i := 15) rfl
theorem eX5_shelfForNew_27 : (27, Instr.aload_n 1, 1, 0, 0, 0) ∈ kX5_shelfForNew := List.mem_of_getElem? (i := 16) rfl
theorem eX5_shelfForNew_28 : (28, Instr.invokevirtual 286, 3, 14, 1, 298) ∈ kX5_shelfForNew := List.mem_of_getElem? (i := 17) rfl
theorem eX5_shelfForNew_31 : (31, Instr.ifCond .eq 21, 3, 52, 0, 0) ∈ kX5_shelfForNew := List.mem_of_getElem? (i := 18) rfl
theorem eX5_shelfForNew_34 : (34, Instr.aload_n 2, 1, 0, 0, 0) ∈ kX5_shelfForNew := List.mem_of_getElem? (i := 19) rfl
theorem eX5_shelfForNew_35 : (35, Instr.ifnull 14, 3, 49, 0, 0) ∈ kX5_shelfForNew := List.mem_of_getElem? (i := 20) rfl
theorem eX5_shelfForNew_38 : (38, Instr.aload_n 0, 1, 0, 0, 0) ∈ kX5_shelfForNew := List.mem_of_getElem? (i := 21) rfl
theorem eX5_shelfForNew_39 : (39, Instr.aload 4, 2, 0, 0, 0) ∈ kX5_shelfForNew := List.mem_of_getElem? (i := 22) rfl
theorem eX5_shelfForNew_41 : (41, Instr.aload_n 2, 1, 0, 0, 0) ∈ kX5_shelfForNew := List.mem_of_getElem? (i := 23) rfl
theorem eX5_shelfForNew_42 : (42, Instr.aload_n 1, 1, 0, 0, 0) ∈ kX5_shelfForNew := List.mem_of_getElem? (i := 24) rfl
theorem eX5_shelfForNew_43 : (43, Instr.invokevirtual 289, 3, 66, 3, 306) ∈ kX5_shelfForNew := List.mem_of_getElem? (i := 25) rfl
theorem eX5_shelfForNew_46 : (46, Instr.ifCond .eq 6, 3, 52, 0, 0) ∈ kX5_shelfForNew := List.mem_of_getElem? (i := 26) rfl
theorem eX5_shelfForNew_49 : (49, Instr.aload 4, 2, 0, 0, 0) ∈ kX5_shelfForNew := List.mem_of_getElem? (i := 27) rfl
theorem eX5_shelfForNew_51 : (51, Instr.astore_n 2, 1, 0, 0, 0) ∈ kX5_shelfForNew := List.mem_of_getElem? (i := 28) rfl
theorem eX5_shelfForNew_52 : (52, Instr.iinc 3 1, 3, 0, 0, 0) ∈ kX5_shelfForNew := List.mem_of_getElem? (i := 29) rfl
theorem eX5_shelfForNew_55 : (55, Instr.goto (-51), 3, 4, 0, 0) ∈ kX5_shelfForNew := List.mem_of_getElem? (i := 30) rfl
theorem eX5_shelfForNew_58 : (58, Instr.aload_n 2, 1, 0, 0, 0) ∈ kX5_shelfForNew := List.mem_of_getElem? (i := 31) rfl
theorem eX5_shelfForNew_59 : (59, Instr.areturn, 1, 0, 0, 0) ∈ kX5_shelfForNew := List.mem_of_getElem? (i := 32) rfl
theorem aX5_isNearer : am_m nX5_isNearer = mX5_isNearer := rfl
theorem eX5_isNearer_0 : (0, Instr.aload_n 3, 1, 0, 0, 0) ∈ kX5_isNearer := List.mem_of_getElem? (i := 0) rfl
theorem eX5_isNearer_1 : (1, Instr.aload_n 1, 1, 0, 0, 0) ∈ kX5_isNearer := List.mem_of_getElem? (i := 1) rfl
theorem eX5_isNearer_2 : (2, Instr.aload_n 0, 1, 0, 0, 0) ∈ kX5_isNearer := List.mem_of_getElem? (i := 2) rfl
theorem eX5_isNearer_3 : (3, Instr.getfield 49, 3, 5, 10, 90) ∈ kX5_isNearer := List.mem_of_getElem? (i := 3) rfl
theorem eX5_isNearer_6 : (6, Instr.invokevirtual 293, 3, 21, 2, 310) ∈ kX5_isNearer := List.mem_of_getElem? (i := 4) rfl
theorem eX5_isNearer_9 : (9, Instr.istore 4, 2, 0, 0, 0) ∈ kX5_isNearer := List.mem_of_getElem? (i := 5) rfl
theorem eX5_isNearer_11 : (11, Instr.aload_n 3, 1, 0, 0, 0) ∈ kX5_isNearer := List.mem_of_getElem? (i := 6) rfl
theorem eX5_isNearer_12 : (12, Instr.aload_n 2, 1, 0, 0, 0) ∈ kX5_isNearer := List.mem_of_getElem? (i := 7) rfl
theorem eX5_isNearer_13 : (13, Instr.aload_n 0, 1, 0, 0, 0) ∈ kX5_isNearer := List.mem_of_getElem? (i := 8) rfl
theorem eX5_isNearer_14 : (14, Instr.getfield 49, 3, 5, 10, 90) ∈ kX5_isNearer := List.mem_of_getElem? (i := 9) rfl
theorem eX5_isNearer_17 : (17, Instr.invokevirtual 293, 3, 21, 2, 310) ∈ kX5_isNearer := List.mem_of_getElem? (i := 10) rfl
theorem eX5_isNearer_20 : (20, Instr.istore 5, 2, 0, 0, 0) ∈ kX5_isNearer := List.mem_of_getElem? (i := 11) rfl
theorem eX5_isNearer_22 : (22, Instr.iload 4, 2, 0, 0, 0) ∈ kX5_isNearer := List.mem_of_getElem? (i := 12) rfl
theorem eX5_isNearer_24 : (24, Instr.iload 5, 2, 0, 0, 0) ∈ kX5_isNearer := List.mem_of_getElem? (i := 13) rfl
theorem eX5_isNearer_26 : (26, Instr.if_icmp .lt 21, 3, 47, 0, 0) ∈ kX5_isNearer := List.mem_of_getElem? (i := 14) rfl
theorem eX5_isNearer_29 : (29, Instr.iload 4, 2, 0, 0, 0) ∈ kX5_isNearer := List.mem_of_getElem? (i := 15) rfl
theorem eX5_isNearer_31 : (31, Instr.iload 5, 2, 0, 0, 0) ∈ kX5_isNearer := List.mem_of_getElem? (i := 16) rfl
theorem eX5_isNearer_33 : (33, Instr.if_icmp .ne 18, 3, 51, 0, 0) ∈ kX5_isNearer := List.mem_of_getElem? (i := 17) rfl
theorem eX5_isNearer_36 : (36, Instr.aload_n 1, 1, 0, 0, 0) ∈ kX5_isNearer := List.mem_of_getElem? (i := 18) rfl
theorem eX5_isNearer_37 : (37, Instr.getfield 104, 3, 3, 4, 203) ∈ kX5_isNearer := List.mem_of_getElem? (i := 19) rfl
theorem eX5_isNearer_40 : (40, Instr.aload_n 2, 1, 0, 0, 0) ∈ kX5_isNearer := List.mem_of_getElem? (i := 20) rfl
theorem eX5_isNearer_41 : (41, Instr.getfield 104, 3, 3, 4, 203) ∈ kX5_isNearer := List.mem_of_getElem? (i := 21) rfl
theorem eX5_isNearer_44 : (44, Instr.if_icmp .ge 7, 3, 51, 0, 0) ∈ kX5_isNearer := List.mem_of_getElem? (i := 22) rfl
theorem eX5_isNearer_47 : (47, Instr.iconst 1, 1, 0, 0, 0) ∈ kX5_isNearer := List.mem_of_getElem? (i := 23) rfl
theorem eX5_isNearer_48 : (48, Instr.goto 4, 3, 52, 0, 0) ∈ kX5_isNearer := List.mem_of_getElem? (i := 24) rfl
theorem eX5_isNearer_51 : (51, Instr.iconst 0, 1, 0, 0, 0) ∈ kX5_isNearer := List.mem_of_getElem? (i := 25) rfl
theorem eX5_isNearer_52 : (52, Instr.ireturn, 1, 1, 0, 0) ∈ kX5_isNearer := List.mem_of_getElem? (i := 26) rfl
theorem aX5_takeAway : am_m nX5_takeAway = mX5_takeAway := rfl
theorem eX5_takeAway_0 : (0, Instr.aload_n 1, 1, 0, 0, 0) ∈ kX5_takeAway := List.mem_of_getElem? (i := 0) rfl
theorem eX5_takeAway_1 : (1, Instr.getfield 297, 3, 4, 8, 267) ∈ kX5_takeAway := List.mem_of_getElem? (i := 1) rfl
theorem eX5_takeAway_4 : (4, Instr.astore_n 3, 1, 0, 0, 0) ∈ kX5_takeAway := List.mem_of_getElem? (i := 2) rfl
theorem eX5_takeAway_5 : (5, Instr.aload_n 3, 1, 0, 0, 0) ∈ kX5_takeAway := List.mem_of_getElem? (i := 3) rfl
theorem eX5_takeAway_6 : (6, Instr.ifnull 23, 3, 29, 0, 0) ∈ kX5_takeAway := List.mem_of_getElem? (i := 4) rfl
theorem eX5_takeAway_9 : (9, Instr.aload_n 0, 1, 0, 0, 0) ∈ kX5_takeAway := List.mem_of_getElem? (i := 5) rfl
theorem eX5_takeAway_10 : (10, Instr.dup, 1, 0, 0, 0) ∈ kX5_takeAway := List.mem_of_getElem? (i := 6) rfl
theorem eX5_takeAway_11 : (11, Instr.getfield 101, 3, 5, 14, 94) ∈ kX5_takeAway := List.mem_of_getElem? (i := 7) rfl
theorem eX5_takeAway_14 : (14, Instr.iconst 2, 1, 0, 0, 0) ∈ kX5_takeAway := List.mem_of_getElem? (i := 8) rfl
theorem eX5_takeAway_15 : (15, Instr.aload_n 3, 1, 0, 0, 0) ∈ kX5_takeAway := List.mem_of_getElem? (i := 9) rfl
theorem eX5_takeAway_16 : (16, Instr.getfield 104, 3, 3, 4, 203) ∈ kX5_takeAway := List.mem_of_getElem? (i := 10) rfl
theorem eX5_takeAway_19 : (19, Instr.imul, 1, 0, 0, 0) ∈ kX5_takeAway := List.mem_of_getElem? (i := 11) rfl
theorem eX5_takeAway_20 : (20, Instr.iadd, 1, 0, 0, 0) ∈ kX5_takeAway := List.mem_of_getElem? (i := 12) rfl
theorem eX5_takeAway_21 : (21, Instr.putfield 101, 3, 5, 14, 94) ∈ kX5_takeAway := List.mem_of_getElem? (i := 13) rfl
theorem eX5_takeAway_24 : (24, Instr.aload_n 3, 1, 0, 0, 0) ∈ kX5_takeAway := List.mem_of_getElem? (i := 14) rfl
theorem eX5_takeAway_25 : (25, Instr.aload_n 1, 1, 0, 0, 0) ∈ kX5_takeAway := List.mem_of_getElem? (i := 15) rfl
theorem eX5_takeAway_26 : (26, Instr.invokevirtual 301, 3, 16, 1, 378) ∈ kX5_takeAway := List.mem_of_getElem? (i := 16) rfl
theorem eX5_takeAway_29 : (29, Instr.aload_n 1, 1, 0, 0, 0) ∈ kX5_takeAway := List.mem_of_getElem? (i := 17) rfl
theorem eX5_takeAway_30 : (30, Instr.iload_n 2, 1, 0, 0, 0) ∈ kX5_takeAway := List.mem_of_getElem? (i := 18) rfl
theorem eX5_takeAway_31 : (31, Instr.putfield 118, 3, 4, 7, 264) ∈ kX5_takeAway := List.mem_of_getElem? (i := 19) rfl
theorem eX5_takeAway_34 : (34, Instr.return_, 1, 0, 0, 0) ∈ kX5_takeAway := List.mem_of_getElem? (i := 20) rfl
theorem aX5_meantBy : am_m nX5_meantBy = mX5_meantBy := rfl
theorem eX5_meantBy_0 : (0, Instr.iconst 0, 1, 0, 0, 0) ∈ kX5_meantBy := List.mem_of_getElem? (i := 0) rfl
theorem eX5_meantBy_1 : (1, Instr.istore_n 2, 1, 0, 0, 0) ∈ kX5_meantBy := List.mem_of_getElem? (i := 1) rfl
theorem eX5_meantBy_2 : (2, Instr.iconst 0, 1, 0, 0, 0) ∈ kX5_meantBy := List.mem_of_getElem? (i := 2) rfl
theorem eX5_meantBy_3 : (3, Instr.istore_n 3, 1, 0, 0, 0) ∈ kX5_meantBy := List.mem_of_getElem? (i := 3) rfl
theorem eX5_meantBy_4 : (4, Instr.iload_n 3, 1, 0, 0, 0) ∈ kX5_meantBy := List.mem_of_getElem? (i := 4) rfl
theorem eX5_meantBy_5 : (5, Instr.aload_n 0, 1, 0, 0, 0) ∈ kX5_meantBy := List.mem_of_getElem? (i := 5) rfl
theorem eX5_meantBy_6 : (6, Instr.getfield 87, 3, 5, 3, 83) ∈ kX5_meantBy := List.mem_of_getElem? (i := 6) rfl
theorem eX5_meantBy_9 : (9, Instr.if_icmp .ge 34, 3, 43, 0, 0) ∈ kX5_meantBy := List.mem_of_getElem? (i := 7) rfl
theorem eX5_meantBy_12 : (12, Instr.aload_n 0, 1, 0, 0, 0) ∈ kX5_meantBy := List.mem_of_getElem? (i := 8) rfl
theorem eX5_meantBy_13 : (13, Instr.getfield 17, 3, 5, 2, 82) ∈ kX5_meantBy := List.mem_of_getElem? (i := 9) rfl
theorem eX5_meantBy_16 : (16, Instr.iload_n 3, 1, 0, 0, 0) ∈ kX5_meantBy := List.mem_of_getElem? (i := 10) rfl
theorem eX5_meantBy_17 : (17, Instr.aaload, 1, 0, 0, 0) ∈ kX5_meantBy := List.mem_of_getElem? (i := 11) rfl
theorem eX5_meantBy_18 : (18, Instr.astore 4, 2, 0, 0, 0) ∈ kX5_meantBy := List.mem_of_getElem? (i := 12) rfl
theorem eX5_meantBy_20 : (20, Instr.aload 4, 2, 0, 0, 0) ∈ kX5_meantBy := List.mem_of_getElem? (i := 13) rfl
theorem eX5_meantBy_22 : (22, Instr.ifnull 15, 3, 37, 0, 0) ∈ kX5_meantBy := List.mem_of_getElem? (i := 14) rfl
theorem eX5_meantBy_25 : (25, Instr.aload_n 1, 1, 0, 0, 0) ∈ kX5_meantBy := List.mem_of_getElem? (i := 15) rfl
theorem eX5_meantBy_26 : (26, Instr.aload 4, 2, 0, 0, 0) ∈ kX5_meantBy := List.mem_of_getElem? (i := 16) rfl
theorem eX5_meantBy_28 : (28, Instr.invokevirtual 304, 3, 9, 1, 415) ∈ kX5_meantBy := List.mem_of_getElem? (i := 17) rfl
theorem eX5_meantBy_31 : (31, Instr.ifCond .eq 6, 3, 37, 0, 0) ∈ kX5_meantBy := List.mem_of_getElem? (i := 18) rfl
theorem eX5_meantBy_34 : (34, Instr.iinc 2 1, 3, 0, 0, 0) ∈ kX5_meantBy := List.mem_of_getElem? (i := 19) rfl
theorem eX5_meantBy_37 : (37, Instr.iinc 3 1, 3, 0, 0, 0) ∈ kX5_meantBy := List.mem_of_getElem? (i := 20) rfl
theorem eX5_meantBy_40 : (40, Instr.goto (-36), 3, 4, 0, 0) ∈ kX5_meantBy := List.mem_of_getElem? (i := 21) rfl
theorem eX5_meantBy_43 : (43, Instr.iload_n 2, 1, 0, 0, 0) ∈ kX5_meantBy := List.mem_of_getElem? (i := 22) rfl
theorem eX5_meantBy_44 : (44, Instr.ireturn, 1, 0, 0, 0) ∈ kX5_meantBy := List.mem_of_getElem? (i := 23) rfl
theorem aX5_firstMeantBy : am_m nX5_firstMeantBy = mX5_firstMeantBy := rfl
theorem eX5_firstMeantBy_0 : (0, Instr.iconst 0, 1, 0, 0, 0) ∈ kX5_firstMeantBy := List.mem_of_getElem? (i := 0) rfl
theorem eX5_firstMeantBy_1 : (1, Instr.istore_n 2, 1, 0, 0, 0) ∈ kX5_firstMeantBy := List.mem_of_getElem? (i := 1) rfl
theorem eX5_firstMeantBy_2 : (2, Instr.iload_n 2, 1, 0, 0, 0) ∈ kX5_firstMeantBy := List.mem_of_getElem? (i := 2) rfl
theorem eX5_firstMeantBy_3 : (3, Instr.aload_n 0, 1, 0, 0, 0) ∈ kX5_firstMeantBy := List.mem_of_getElem? (i := 3) rfl
theorem eX5_firstMeantBy_4 : (4, Instr.getfield 87, 3, 5, 3, 83) ∈ kX5_firstMeantBy := List.mem_of_getElem? (i := 4) rfl
theorem eX5_firstMeantBy_7 : (7, Instr.if_icmp .ge 30, 3, 37, 0, 0) ∈ kX5_firstMeantBy := List.mem_of_getElem? (i := 5) rfl
theorem eX5_firstMeantBy_10 : (10, Instr.aload_n 0, 1, 0, 0, 0) ∈ kX5_firstMeantBy := List.mem_of_getElem? (i := 6) rfl
theorem eX5_firstMeantBy_11 : (11, Instr.getfield 17, 3, 5, 2, 82) ∈ kX5_firstMeantBy := List.mem_of_getElem? (i := 7) rfl
theorem eX5_firstMeantBy_14 : (14, Instr.iload_n 2, 1, 0, 0, 0) ∈ kX5_firstMeantBy := List.mem_of_getElem? (i := 8) rfl
theorem eX5_firstMeantBy_15 : (15, Instr.aaload, 1, 0, 0, 0) ∈ kX5_firstMeantBy := List.mem_of_getElem? (i := 9) rfl
theorem eX5_firstMeantBy_16 : (16, Instr.astore_n 3, 1, 0, 0, 0) ∈ kX5_firstMeantBy := List.mem_of_getElem? (i := 10) rfl
theorem eX5_firstMeantBy_17 : (17, Instr.aload_n 3, 1, 0, 0, 0) ∈ kX5_firstMeantBy := List.mem_of_getElem? (i := 11) rfl
theorem eX5_firstMeantBy_18 : (18, Instr.ifnull 13, 3, 31, 0, 0) ∈ kX5_firstMeantBy := List.mem_of_getElem? (i := 12) rfl
theorem eX5_firstMeantBy_21 : (21, Instr.aload_n 1, 1, 0, 0, 0) ∈ kX5_firstMeantBy := List.mem_of_getElem? (i := 13) rfl
theorem eX5_firstMeantBy_22 : (22, Instr.aload_n 3, 1, 0, 0, 0) ∈ kX5_firstMeantBy := List.mem_of_getElem? (i := 14) rfl
theorem eX5_firstMeantBy_23 : (23, Instr.invokevirtual 304, 3, 9, 1, 415) ∈ kX5_firstMeantBy := List.mem_of_getElem? (i := 15) rfl
theorem eX5_firstMeantBy_26 : (26, Instr.ifCond .eq 5, 3, 31, 0, 0) ∈ kX5_firstMeantBy := List.mem_of_getElem? (i := 16) rfl
theorem eX5_firstMeantBy_29 : (29, Instr.iload_n 2, 1, 0, 0, 0) ∈ kX5_firstMeantBy := List.mem_of_getElem? (i := 17) rfl
theorem eX5_firstMeantBy_30 : (30, Instr.ireturn, 1, 0, 0, 0) ∈ kX5_firstMeantBy := List.mem_of_getElem? (i := 18) rfl
theorem eX5_firstMeantBy_31 : (31, Instr.iinc 2 1, 3, 0, 0, 0) ∈ kX5_firstMeantBy := List.mem_of_getElem? (i := 19) rfl
theorem eX5_firstMeantBy_34 : (34, Instr.goto (-32), 3, 2, 0, 0) ∈ kX5_firstMeantBy := List.mem_of_getElem? (i := 20) rfl
theorem eX5_firstMeantBy_37 : (37, Instr.iconst (-1), 1, 0, 0, 0) ∈ kX5_firstMeantBy := List.mem_of_getElem? (i := 21) rfl
theorem eX5_firstMeantBy_38 : (38, Instr.ireturn, 1, 0, 0, 0) ∈ kX5_firstMeantBy := List.mem_of_getElem? (i := 22) rfl
theorem aX5_greatestHeap : am_m nX5_greatestHeap = mX5_greatestHeap := rfl
theorem eX5_greatestHeap_0 : (0, Instr.iconst 0, 1, 0, 0, 0) ∈ kX5_greatestHeap := List.mem_of_getElem? (i := 0) rfl
theorem eX5_greatestHeap_1 : (1, Instr.istore_n 3, 1, 0, 0, 0) ∈ kX5_greatestHeap := List.mem_of_getElem? (i := 1) rfl
theorem eX5_greatestHeap_2 : (2, Instr.iload_n 3, 1, 0, 0, 0) ∈ kX5_greatestHeap := List.mem_of_getElem? (i := 2) rfl
theorem eX5_greatestHeap_3 : (3, Instr.aload_n 0, 1, 0, 0, 0) ∈ kX5_greatestHeap := List.mem_of_getElem? (i := 3) rfl
theorem eX5_greatestHeap_4 : (4, Instr.getfield 33, 3, 5, 8, 88) ∈ kX5_greatestHeap := List.mem_of_getElem? (i := 4) rfl
theorem eX5_greatestHeap_7 : (7, Instr.arraylength, 1, 0, 0, 0) ∈ kX5_greatestHeap := List.mem_of_getElem? (i := 5) rfl
theorem eX5_greatestHeap_8 : (8, Instr.if_icmp .ge 16, 3, 24, 0, 0) ∈ kX5_greatestHeap := List.mem_of_getElem? (i := 6) rfl
theorem eX5_greatestHeap_11 : (11, Instr.aload_n 0, 1, 0, 0, 0) ∈ kX5_greatestHeap := List.mem_of_getElem? (i := 7) rfl
theorem eX5_greatestHeap_12 : (12, Instr.getfield 33, 3, 5, 8, 88) ∈ kX5_greatestHeap := List.mem_of_getElem? (i := 8) rfl
theorem eX5_greatestHeap_15 : (15, Instr.iload_n 3, 1, 0, 0, 0) ∈ kX5_greatestHeap := List.mem_of_getElem? (i := 9) rfl
theorem eX5_greatestHeap_16 : (16, Instr.iconst 0, 1, 0, 0, 0) ∈ kX5_greatestHeap := List.mem_of_getElem? (i := 10) rfl
theorem eX5_greatestHeap_17 : (17, Instr.iastore, 1, 0, 0, 0) ∈ kX5_greatestHeap := List.mem_of_getElem? (i := 11) rfl
theorem eX5_greatestHeap_18 : (18, Instr.iinc 3 1, 3, 0, 0, 0) ∈ kX5_greatestHeap := List.mem_of_getElem? (i := 12) rfl
theorem eX5_greatestHeap_21 : (21, Instr.goto (-19), 3, 2, 0, 0) ∈ kX5_greatestHeap := List.mem_of_getElem? (i := 13) rfl
theorem eX5_greatestHeap_24 : (24, Instr.iconst 0, 1, 0, 0, 0) ∈ kX5_greatestHeap := List.mem_of_getElem? (i := 14) rfl
theorem eX5_greatestHeap_25 : (25, Instr.istore_n 3, 1, 0, 0, 0) ∈ kX5_greatestHeap := List.mem_of_getElem? (i := 15) rfl
theorem eX5_greatestHeap_26 : (26, Instr.iconst 0, 1, 0, 0, 0) ∈ kX5_greatestHeap := List.mem_of_getElem? (i := 16) rfl
theorem eX5_greatestHeap_27 : (27, Instr.istore 4, 2, 0, 0, 0) ∈ kX5_greatestHeap := List.mem_of_getElem? (i := 17) rfl
theorem eX5_greatestHeap_29 : (29, Instr.iload 4, 2, 0, 0, 0) ∈ kX5_greatestHeap := List.mem_of_getElem? (i := 18) rfl
theorem eX5_greatestHeap_31 : (31, Instr.aload_n 0, 1, 0, 0, 0) ∈ kX5_greatestHeap := List.mem_of_getElem? (i := 19) rfl
theorem eX5_greatestHeap_32 : (32, Instr.getfield 87, 3, 5, 3, 83) ∈ kX5_greatestHeap := List.mem_of_getElem? (i := 20) rfl
theorem eX5_greatestHeap_35 : (35, Instr.if_icmp .ge 63, 3, 98, 0, 0) ∈ kX5_greatestHeap := List.mem_of_getElem? (i := 21) rfl
theorem eX5_greatestHeap_38 : (38, Instr.aload_n 0, 1, 0, 0, 0) ∈ kX5_greatestHeap := List.mem_of_getElem? (i := 22) rfl
theorem eX5_greatestHeap_39 : (39, Instr.getfield 17, 3, 5, 2, 82) ∈ kX5_greatestHeap := List.mem_of_getElem? (i := 23) rfl
theorem eX5_greatestHeap_42 : (42, Instr.iload 4, 2, 0, 0, 0) ∈ kX5_greatestHeap := List.mem_of_getElem? (i := 24) rfl
theorem eX5_greatestHeap_44 : (44, Instr.aaload, 1, 0, 0, 0) ∈ kX5_greatestHeap := List.mem_of_getElem? (i := 25) rfl
theorem eX5_greatestHeap_45 : (45, Instr.astore 5, 2, 0, 0, 0) ∈ kX5_greatestHeap := List.mem_of_getElem? (i := 26) rfl
theorem eX5_greatestHeap_47 : (47, Instr.aload 5, 2, 0, 0, 0) ∈ kX5_greatestHeap := List.mem_of_getElem? (i := 27) rfl
theorem eX5_greatestHeap_49 : (49, Instr.ifnull 43, 3, 92, 0, 0) ∈ kX5_greatestHeap := List.mem_of_getElem? (i := 28) rfl
theorem eX5_greatestHeap_52 : (52, Instr.aload_n 1, 1, 0, 0, 0) ∈ kX5_greatestHeap := List.mem_of_getElem? (i := 29) rfl
theorem eX5_greatestHeap_53 : (53, Instr.aload 5, 2, 0, 0, 0) ∈ kX5_greatestHeap := List.mem_of_getElem? (i := 30) rfl
theorem eX5_greatestHeap_55 : (55, Instr.invokevirtual 304, 3, 9, 1, 415) ∈ kX5_greatestHeap := List.mem_of_getElem? (i := 31) rfl
theorem eX5_greatestHeap_58 : (58, Instr.ifCond .eq 34, 3, 92, 0, 0) ∈ kX5_greatestHeap := List.mem_of_getElem? (i := 32) rfl
theorem eX5_greatestHeap_61 : (61, Instr.aload 5, 2, 0, 0, 0) ∈ kX5_greatestHeap := List.mem_of_getElem? (i := 33) rfl
theorem eX5_greatestHeap_63 : (63, Instr.iload_n 2, 1, 0, 0, 0) ∈ kX5_greatestHeap := List.mem_of_getElem? (i := 34) rfl
theorem eX5_greatestHeap_64 : (64, Instr.invokevirtual 307, 3, 19, 1, 435) ∈ kX5_greatestHeap := List.mem_of_getElem? (i := 35) rfl
theorem eX5_greatestHeap_67 : (67, Instr.istore 6, 2, 0, 0, 0) ∈ kX5_greatestHeap := List.mem_of_getElem? (i := 36) rfl
theorem eX5_greatestHeap_69 : (69, Instr.aload_n 0, 1, 0, 0, 0) ∈ kX5_greatestHeap := List.mem_of_getElem? (i := 37) rfl
theorem eX5_greatestHeap_70 : (70, Instr.getfield 33, 3, 5, 8, 88) ∈ kX5_greatestHeap := List.mem_of_getElem? (i := 38) rfl
theorem eX5_greatestHeap_73 : (73, Instr.iload 6, 2, 0, 0, 0) ∈ kX5_greatestHeap := List.mem_of_getElem? (i := 39) rfl
theorem eX5_greatestHeap_75 : (75, Instr.dup2, 1, 0, 0, 0) ∈ kX5_greatestHeap := List.mem_of_getElem? (i := 40) rfl
theorem eX5_greatestHeap_76 : (76, Instr.iaload, 1, 0, 0, 0) ∈ kX5_greatestHeap := List.mem_of_getElem? (i := 41) rfl
theorem eX5_greatestHeap_77 : (77, Instr.iconst 1, 1, 0, 0, 0) ∈ kX5_greatestHeap := List.mem_of_getElem? (i := 42) rfl
theorem eX5_greatestHeap_78 : (78, Instr.iadd, 1, 0, 0, 0) ∈ kX5_greatestHeap := List.mem_of_getElem? (i := 43) rfl
theorem eX5_greatestHeap_79 : (79, Instr.iastore, 1, 0, 0, 0) ∈ kX5_greatestHeap := List.mem_of_getElem? (i := 44) rfl
theorem eX5_greatestHeap_80 : (80, Instr.iload_n 3, 1, 0, 0, 0) ∈ kX5_greatestHeap := List.mem_of_getElem? (i := 45) rfl
theorem eX5_greatestHeap_81 : (81, Instr.aload_n 0, 1, 0, 0, 0) ∈ kX5_greatestHeap := List.mem_of_getElem? (i := 46) rfl
theorem eX5_greatestHeap_82 : (82, Instr.getfield 33, 3, 5, 8, 88) ∈ kX5_greatestHeap := List.mem_of_getElem? (i := 47) rfl
theorem eX5_greatestHeap_85 : (85, Instr.iload 6, 2, 0, 0, 0) ∈ kX5_greatestHeap := List.mem_of_getElem? (i := 48) rfl
theorem eX5_greatestHeap_87 : (87, Instr.iaload, 1, 0, 0, 0) ∈ kX5_greatestHeap := List.mem_of_getElem? (i := 49) rfl
theorem eX5_greatestHeap_88 : (88, Instr.invokestatic 310, 3, 120, 2, 436) ∈ kX5_greatestHeap := List.mem_of_getElem? (i := 50) rfl
theorem eX5_greatestHeap_91 : (91, Instr.istore_n 3, 1, 0, 0, 0) ∈ kX5_greatestHeap := List.mem_of_getElem? (i := 51) rfl
theorem eX5_greatestHeap_92 : (92, Instr.iinc 4 1, 3, 0, 0, 0) ∈ kX5_greatestHeap := List.mem_of_getElem? (i := 52) rfl
theorem eX5_greatestHeap_95 : (95, Instr.goto (-66), 3, 29, 0, 0) ∈ kX5_greatestHeap := List.mem_of_getElem? (i := 53) rfl
theorem eX5_greatestHeap_98 : (98, Instr.iload_n 3, 1, 0, 0, 0) ∈ kX5_greatestHeap := List.mem_of_getElem? (i := 54) rfl
theorem eX5_greatestHeap_99 : (99, Instr.ireturn, 1, 0, 0, 0) ∈ kX5_greatestHeap := List.mem_of_getElem? (i := 55) rfl
theorem aX5_isContested : am_m nX5_isContested = mX5_isContested := rfl
theorem eX5_isContested_0 : (0, Instr.iconst 0, 1, 0, 0, 0) ∈ kX5_isContested := List.mem_of_getElem? (i := 0) rfl
theorem eX5_isContested_1 : (1, Instr.istore_n 3, 1, 0, 0, 0) ∈ kX5_isContested := List.mem_of_getElem? (i := 1) rfl
theorem eX5_isContested_2 : (2, Instr.iload_n 3, 1, 0, 0, 0) ∈ kX5_isContested := List.mem_of_getElem? (i := 2) rfl
theorem eX5_isContested_3 : (3, Instr.aload_n 0, 1, 0, 0, 0) ∈ kX5_isContested := List.mem_of_getElem? (i := 3) rfl
theorem eX5_isContested_4 : (4, Instr.getfield 138, 3, 5, 5, 85) ∈ kX5_isContested := List.mem_of_getElem? (i := 4) rfl
theorem eX5_isContested_7 : (7, Instr.if_icmp .ge 66, 3, 73, 0, 0) ∈ kX5_isContested := List.mem_of_getElem? (i := 5) rfl
theorem eX5_isContested_10 : (10, Instr.aload_n 0, 1, 0, 0, 0) ∈ kX5_isContested := List.mem_of_getElem? (i := 6) rfl
theorem eX5_isContested_11 : (11, Instr.getfield 23, 3, 5, 4, 84) ∈ kX5_isContested := List.mem_of_getElem? (i := 7) rfl
theorem eX5_isContested_14 : (14, Instr.iload_n 3, 1, 0, 0, 0) ∈ kX5_isContested := List.mem_of_getElem? (i := 8) rfl
theorem eX5_isContested_15 : (15, Instr.aaload, 1, 0, 0, 0) ∈ kX5_isContested := List.mem_of_getElem? (i := 9) rfl
theorem eX5_isContested_16 : (16, Instr.astore 4, 2, 0, 0, 0) ∈ kX5_isContested := List.mem_of_getElem? (i := 10) rfl
theorem eX5_isContested_18 : (18, Instr.aload 4, 2, 0, 0, 0) ∈ kX5_isContested := List.mem_of_getElem? (i := 11) rfl
theorem eX5_isContested_20 : (20, Instr.ifnull 47, 3, 67, 0, 0) ∈ kX5_isContested := List.mem_of_getElem? (i := 12) rfl
theorem eX5_isContested_23 : (23, Instr.aload 4, 2, 0, 0, 0) ∈ kX5_isContested := List.mem_of_getElem? (i := 13) rfl
theorem eX5_isContested_25 : (25, Instr.aload_n 1, 1, 0, 0, 0) ∈ kX5_isContested := List.mem_of_getElem? (i := 14) rfl
theorem eX5_isContested_26 : (26, Instr.if_acmp .eq 41, 3, 67, 0, 0) ∈ kX5_isContested := List.mem_of_getElem? (i := 15) rfl
theorem eX5_isContested_29 : (29, Instr.aload 4, 2, 0, 0, 0) ∈ kX5_isContested := List.mem_of_getElem? (i := 16) rfl
theorem eX5_isContested_31 : (31, Instr.getfield 146, 3, 1, 1, 393) ∈ kX5_isContested := List.mem_of_getElem? (i := 17) rfl
theorem eX5_isContested_34 : (34, Instr.ifCond .ne 33, 3, 67, 0, 0) ∈ kX5_isContested := List.mem_of_getElem? (i := 18) rfl
theorem eX5_isContested_37 : (37, Instr.aload 4, 2, 0, 0, 0) ∈ kX5_isContested := List.mem_of_getElem? (i := 19) rfl
theorem eX5_isContested_39 : (39, Instr.invokevirtual 161, 3, 8, 0, 441) ∈ kX5_isContested := List.mem_of_getElem? (i := 20) rfl
theorem eX5_isContested_42 : (42, Instr.iconst 3, 1, 0, 0, 0) ∈ kX5_isContested := List.mem_of_getElem? (i := 21) rfl
theorem eX5_isContested_43 : (43, Instr.if_icmp .lt 24, 3, 67, 0, 0) ∈ kX5_isContested := List.mem_of_getElem? (i := 22) rfl
theorem eX5_isContested_46 : (46, Instr.aload 4, 2, 0, 0, 0) ∈ kX5_isContested := List.mem_of_getElem? (i := 23) rfl
theorem eX5_isContested_48 : (48, Instr.aload_n 2, 1, 0, 0, 0) ∈ kX5_isContested := List.mem_of_getElem? (i := 24) rfl
theorem eX5_isContested_49 : (49, Instr.invokevirtual 304, 3, 9, 1, 415) ∈ kX5_isContested := List.mem_of_getElem? (i := 25) rfl
theorem eX5_isContested_52 : (52, Instr.ifCond .eq 15, 3, 67, 0, 0) ∈ kX5_isContested := List.mem_of_getElem? (i := 26) rfl
theorem eX5_isContested_55 : (55, Instr.aload_n 0, 1, 0, 0, 0) ∈ kX5_isContested := List.mem_of_getElem? (i := 27) rfl
theorem eX5_isContested_56 : (56, Instr.aload 4, 2, 0, 0, 0) ∈ kX5_isContested := List.mem_of_getElem? (i := 28) rfl
theorem eX5_isContested_58 : (58, Instr.invokevirtual 153, 3, 68, 1, 411) ∈ kX5_isContested := List.mem_of_getElem? (i := 29) rfl
theorem eX5_isContested_61 : (61, Instr.iconst 1, 1, 0, 0, 0) ∈ kX5_isContested := List.mem_of_getElem? (i := 30) rfl
theorem eX5_isContested_62 : (62, Instr.if_icmp .ne 5, 3, 67, 0, 0) ∈ kX5_isContested := List.mem_of_getElem? (i := 31) rfl
theorem eX5_isContested_65 : (65, Instr.iconst 1, 1, 0, 0, 0) ∈ kX5_isContested := List.mem_of_getElem? (i := 32) rfl
theorem eX5_isContested_66 : (66, Instr.ireturn, 1, 1, 0, 0) ∈ kX5_isContested := List.mem_of_getElem? (i := 33) rfl
theorem eX5_isContested_67 : (67, Instr.iinc 3 1, 3, 0, 0, 0) ∈ kX5_isContested := List.mem_of_getElem? (i := 34) rfl
theorem eX5_isContested_70 : (70, Instr.goto (-68), 3, 2, 0, 0) ∈ kX5_isContested := List.mem_of_getElem? (i := 35) rfl
theorem eX5_isContested_73 : (73, Instr.iconst 0, 1, 0, 0, 0) ∈ kX5_isContested := List.mem_of_getElem? (i := 36) rfl
theorem eX5_isContested_74 : (74, Instr.ireturn, 1, 1, 0, 0) ∈ kX5_isContested := List.mem_of_getElem? (i := 37) rfl
theorem aX5_makeBestMove : am_m nX5_makeBestMove = mX5_makeBestMove := rfl
theorem eX5_makeBestMove_0 : (0, Instr.aconst_null, 1, 0, 0, 0) ∈ kX5_makeBestMove := List.mem_of_getElem? (i := 0) rfl
theorem eX5_makeBestMove_1 : (1, Instr.astore_n 1, 1, 0, 0, 0) ∈ kX5_makeBestMove := List.mem_of_getElem? (i := 1) rfl
theorem eX5_makeBestMove_2 : (2, Instr.aconst_null, 1, 0, 0, 0) ∈ kX5_makeBestMove := List.mem_of_getElem? (i := 2) rfl
theorem eX5_makeBestMove_3 : (3, Instr.astore_n 2, 1, 0, 0, 0) ∈ kX5_makeBestMove := List.mem_of_getElem? (i := 3) rfl
theorem eX5_makeBestMove_4 : (4, Instr.iconst 0, 1, 0, 0, 0) ∈ kX5_makeBestMove := List.mem_of_getElem? (i := 4) rfl
theorem eX5_makeBestMove_5 : (5, Instr.istore_n 3, 1, 0, 0, 0) ∈ kX5_makeBestMove := List.mem_of_getElem? (i := 5) rfl
theorem eX5_makeBestMove_6 : (6, Instr.iconst 0, 1, 0, 0, 0) ∈ kX5_makeBestMove := List.mem_of_getElem? (i := 6) rfl
theorem eX5_makeBestMove_7 : (7, Instr.istore 4, 2, 0, 0, 0) ∈ kX5_makeBestMove := List.mem_of_getElem? (i := 7) rfl
theorem eX5_makeBestMove_9 : (9, Instr.iload 4, 2, 0, 0, 0) ∈ kX5_makeBestMove := List.mem_of_getElem? (i := 8) rfl
theorem eX5_makeBestMove_11 : (11, Instr.aload_n 0, 1, 0, 0, 0) ∈ kX5_makeBestMove := List.mem_of_getElem? (i := 9) rfl
theorem eX5_makeBestMove_12 : (12, Instr.getfield 87, 3, 5, 3, 83) ∈ kX5_makeBestMove := List.mem_of_getElem? (i := 10) rfl
theorem eX5_makeBestMove_15 : (15, Instr.if_icmp .ge 80, 3, 95, 0, 0) ∈ kX5_makeBestMove := List.mem_of_getElem? (i := 11) rfl
theorem eX5_makeBestMove_18 : (18, Instr.aload_n 0, 1, 0, 0, 0) ∈ kX5_makeBestMove := List.mem_of_getElem? (i := 12) rfl
theorem eX5_makeBestMove_19 : (19, Instr.getfield 17, 3, 5, 2, 82) ∈ kX5_makeBestMove := List.mem_of_getElem? (i := 13) rfl
theorem eX5_makeBestMove_22 : (22, Instr.iload 4, 2, 0, 0, 0) ∈ kX5_makeBestMove := List.mem_of_getElem? (i := 14) rfl
theorem eX5_makeBestMove_24 : (24, Instr.aaload, 1, 0, 0, 0) ∈ kX5_makeBestMove := List.mem_of_getElem? (i := 15) rfl
theorem eX5_makeBestMove_25 : (25, Instr.astore 5, 2, 0, 0, 0) ∈ kX5_makeBestMove := List.mem_of_getElem? (i := 16) rfl
theorem eX5_makeBestMove_27 : (27, Instr.aload 5, 2, 0, 0, 0) ∈ kX5_makeBestMove := List.mem_of_getElem? (i := 17) rfl
theorem eX5_makeBestMove_29 : (29, Instr.ifnonnull 6, 3, 35, 0, 0) ∈ kX5_makeBestMove := List.mem_of_getElem? (i := 18) rfl
theorem eX5_makeBestMove_32 : (32, Instr.goto 57, 3, 89, 0, 0) ∈ kX5_makeBestMove := List.mem_of_getElem? (i := 19) rfl
theorem eX5_makeBestMove_35 : (35, Instr.aload_n 0, 1, 0, 0, 0) ∈ kX5_makeBestMove := List.mem_of_getElem? (i := 20) rfl
theorem eX5_makeBestMove_36 : (36, Instr.aload 5, 2, 0, 0, 0) ∈ kX5_makeBestMove := List.mem_of_getElem? (i := 21) rfl
theorem eX5_makeBestMove_38 : (38, Instr.invokevirtual 313, 3, 73, 1, 470) ∈ kX5_makeBestMove := List.mem_of_getElem? (i := 22) rfl
theorem eX5_makeBestMove_41 : (41, Instr.astore 6, 2, 0, 0, 0) ∈ kX5_makeBestMove := List.mem_of_getElem? (i := 23) rfl
theorem eX5_makeBestMove_43 : (43, Instr.aload 6, 2, 0, 0, 0) ∈ kX5_makeBestMove := List.mem_of_getElem? (i := 24) rfl
theorem eX5_makeBestMove_45 : (45, Instr.ifnonnull 6, 3, 51, 0, 0) ∈ kX5_makeBestMove := List.mem_of_getElem? (i := 25) rfl
theorem eX5_makeBestMove_48 : (48, Instr.goto 41, 3, 89, 0, 0) ∈ kX5_makeBestMove := List.mem_of_getElem? (i := 26) rfl
theorem eX5_makeBestMove_51 : (51, Instr.aload 5, 2, 0, 0, 0) ∈ kX5_makeBestMove := List.mem_of_getElem? (i := 27) rfl
theorem eX5_makeBestMove_53 : (53, Instr.aload_n 0, 1, 0, 0, 0) ∈ kX5_makeBestMove := List.mem_of_getElem? (i := 28) rfl
theorem eX5_makeBestMove_54 : (54, Instr.getfield 49, 3, 5, 10, 90) ∈ kX5_makeBestMove := List.mem_of_getElem? (i := 29) rfl
theorem eX5_makeBestMove_57 : (57, Instr.invokevirtual 174, 3, 22, 1, 457) ∈ kX5_makeBestMove := List.mem_of_getElem? (i := 30) rfl
theorem eX5_makeBestMove_60 : (60, Instr.aload 5, 2, 0, 0, 0) ∈ kX5_makeBestMove := List.mem_of_getElem? (i := 31) rfl
theorem eX5_makeBestMove_62 : (62, Instr.aload 6, 2, 0, 0, 0) ∈ kX5_makeBestMove := List.mem_of_getElem? (i := 32) rfl
theorem eX5_makeBestMove_64 : (64, Instr.aload_n 0, 1, 0, 0, 0) ∈ kX5_makeBestMove := List.mem_of_getElem? (i := 33) rfl
theorem eX5_makeBestMove_65 : (65, Instr.getfield 49, 3, 5, 10, 90) ∈ kX5_makeBestMove := List.mem_of_getElem? (i := 34) rfl
theorem eX5_makeBestMove_68 : (68, Instr.invokevirtual 293, 3, 21, 2, 310) ∈ kX5_makeBestMove := List.mem_of_getElem? (i := 35) rfl
theorem eX5_makeBestMove_71 : (71, Instr.isub, 1, 0, 0, 0) ∈ kX5_makeBestMove := List.mem_of_getElem? (i := 36) rfl
theorem eX5_makeBestMove_72 : (72, Instr.istore 7, 2, 0, 0, 0) ∈ kX5_makeBestMove := List.mem_of_getElem? (i := 37) rfl
theorem eX5_makeBestMove_74 : (74, Instr.iload 7, 2, 0, 0, 0) ∈ kX5_makeBestMove := List.mem_of_getElem? (i := 38) rfl
theorem eX5_makeBestMove_76 : (76, Instr.iload_n 3, 1, 0, 0, 0) ∈ kX5_makeBestMove := List.mem_of_getElem? (i := 39) rfl
theorem eX5_makeBestMove_77 : (77, Instr.if_icmp .le 12, 3, 89, 0, 0) ∈ kX5_makeBestMove := List.mem_of_getElem? (i := 40) rfl
theorem eX5_makeBestMove_80 : (80, Instr.iload 7, 2, 0, 0, 0) ∈ kX5_makeBestMove := List.mem_of_getElem? (i := 41) rfl
theorem eX5_makeBestMove_82 : (82, Instr.istore_n 3, 1, 0, 0, 0) ∈ kX5_makeBestMove := List.mem_of_getElem? (i := 42) rfl
theorem eX5_makeBestMove_83 : (83, Instr.aload 5, 2, 0, 0, 0) ∈ kX5_makeBestMove := List.mem_of_getElem? (i := 43) rfl
theorem eX5_makeBestMove_85 : (85, Instr.astore_n 1, 1, 0, 0, 0) ∈ kX5_makeBestMove := List.mem_of_getElem? (i := 44) rfl
theorem eX5_makeBestMove_86 : (86, Instr.aload 6, 2, 0, 0, 0) ∈ kX5_makeBestMove := List.mem_of_getElem? (i := 45) rfl
theorem eX5_makeBestMove_88 : (88, Instr.astore_n 2, 1, 0, 0, 0) ∈ kX5_makeBestMove := List.mem_of_getElem? (i := 46) rfl
theorem eX5_makeBestMove_89 : (89, Instr.iinc 4 1, 3, 0, 0, 0) ∈ kX5_makeBestMove := List.mem_of_getElem? (i := 47) rfl
theorem eX5_makeBestMove_92 : (92, Instr.goto (-83), 3, 9, 0, 0) ∈ kX5_makeBestMove := List.mem_of_getElem? (i := 48) rfl
theorem eX5_makeBestMove_95 : (95, Instr.aload_n 1, 1, 0, 0, 0) ∈ kX5_makeBestMove := List.mem_of_getElem? (i := 49) rfl
theorem eX5_makeBestMove_96 : (96, Instr.ifnull 7, 3, 103, 0, 0) ∈ kX5_makeBestMove := List.mem_of_getElem? (i := 50) rfl
theorem eX5_makeBestMove_99 : (99, Instr.aload_n 2, 1, 0, 0, 0) ∈ kX5_makeBestMove := List.mem_of_getElem? (i := 51) rfl
theorem eX5_makeBestMove_100 : (100, Instr.ifnonnull 5, 3, 105, 0, 0) ∈ kX5_makeBestMove := List.mem_of_getElem? (i := 52) rfl
theorem eX5_makeBestMove_103 : (103, Instr.iconst 0, 1, 0, 0, 0) ∈ kX5_makeBestMove := List.mem_of_getElem? (i := 53) rfl
theorem eX5_makeBestMove_104 : (104, Instr.ireturn, 1, 1, 0, 0) ∈ kX5_makeBestMove := List.mem_of_getElem? (i := 54) rfl
theorem eX5_makeBestMove_105 : (105, Instr.aload_n 0, 1, 0, 0, 0) ∈ kX5_makeBestMove := List.mem_of_getElem? (i := 55) rfl
theorem eX5_makeBestMove_106 : (106, Instr.aload_n 1, 1, 0, 0, 0) ∈ kX5_makeBestMove := List.mem_of_getElem? (i := 56) rfl
theorem eX5_makeBestMove_107 : (107, Instr.aload_n 2, 1, 0, 0, 0) ∈ kX5_makeBestMove := List.mem_of_getElem? (i := 57) rfl
theorem eX5_makeBestMove_108 : (108, Instr.invokevirtual 316, 3, 74, 2, 474) ∈ kX5_makeBestMove := List.mem_of_getElem? (i := 58) rfl
theorem eX5_makeBestMove_111 : (111, Instr.iconst 1, 1, 0, 0, 0) ∈ kX5_makeBestMove := List.mem_of_getElem? (i := 59) rfl
theorem eX5_makeBestMove_112 : (112, Instr.ireturn, 1, 1, 0, 0) ∈ kX5_makeBestMove := List.mem_of_getElem? (i := 60) rfl
theorem aX5_shelfForMove : am_m nX5_shelfForMove = mX5_shelfForMove := rfl
theorem eX5_shelfForMove_0 : (0, Instr.aload_n 1, 1, 0, 0, 0) ∈ kX5_shelfForMove := List.mem_of_getElem? (i := 0) rfl
theorem eX5_shelfForMove_1 : (1, Instr.getfield 118, 3, 4, 7, 264) ∈ kX5_shelfForMove := List.mem_of_getElem? (i := 1) rfl
theorem eX5_shelfForMove_4 : (4, Instr.ifCond .ne 10, 3, 14, 0, 0) ∈ kX5_shelfForMove := List.mem_of_getElem? (i := 2) rfl
theorem eX5_shelfForMove_7 : (7, Instr.aload_n 1, 1, 0, 0, 0) ∈ kX5_shelfForMove := List.mem_of_getElem? (i := 3) rfl
theorem eX5_shelfForMove_8 : (8, Instr.invokevirtual 128, 3, 24, 0, 370) ∈ kX5_shelfForMove := List.mem_of_getElem? (i := 4) rfl
theorem eX5_shelfForMove_11 : (11, Instr.ifCond .eq 5, 3, 16, 0, 0) ∈ kX5_shelfForMove := List.mem_of_getElem? (i := 5) rfl
theorem eX5_shelfForMove_14 : (14, Instr.aconst_null, 1, 0, 0, 0) ∈ kX5_shelfForMove := List.mem_of_getElem? (i := 6) rfl
theorem eX5_shelfForMove_15 : (15, Instr.areturn, 1, 0, 0, 0) ∈ kX5_shelfForMove := List.mem_of_getElem? (i := 7) rfl
theorem eX5_shelfForMove_16 : (16, Instr.aconst_null, 1, 0, 0, 0) ∈ kX5_shelfForMove := List.mem_of_getElem? (i := 8) rfl
theorem eX5_shelfForMove_17 : (17, Instr.astore_n 2, 1, 0, 0, 0) ∈ kX5_shelfForMove := List.mem_of_getElem? (i := 9) rfl
theorem eX5_shelfForMove_18 : (18, Instr.iconst 0, 1, 0, 0, 0) ∈ kX5_shelfForMove := List.mem_of_getElem? (i := 10) rfl
theorem eX5_shelfForMove_19 : (19, Instr.istore_n 3, 1, 0, 0, 0) ∈ kX5_shelfForMove := List.mem_of_getElem? (i := 11) rfl
theorem eX5_shelfForMove_20 : (20, Instr.iconst 0, 1, 0, 0, 0) ∈ kX5_shelfForMove := List.mem_of_getElem? (i := 12) rfl
theorem eX5_shelfForMove_21 : (21, Instr.istore 4, 2, 0, 0, 0) ∈ kX5_shelfForMove := List.mem_of_getElem? (i := 13) rfl
theorem eX5_shelfForMove_23 : (23, Instr.iload 4, 2, 0, 0, 0) ∈ kX5_shelfForMove := List.mem_of_getElem? (i := 14) rfl
theorem eX5_shelfForMove_25 : (25, Instr.aload_n 0, 1, 0, 0, 0) ∈ kX5_shelfForMove := List.mem_of_getElem? (i := 15) rfl
theorem eX5_shelfForMove_26 : (26, Instr.getfield 76, 3, 5, 1, 81) ∈ kX5_shelfForMove := List.mem_of_getElem? (i := 16) rfl
theorem eX5_shelfForMove_29 : (29, Instr.if_icmp .ge 72, 3, 101, 0, 0) ∈ kX5_shelfForMove := List.mem_of_getElem? (i := 17) rfl
theorem eX5_shelfForMove_32 : (32, Instr.aload_n 0, 1, 0, 0, 0) ∈ kX5_shelfForMove := List.mem_of_getElem? (i := 18) rfl
theorem eX5_shelfForMove_33 : (33, Instr.getfield 11, 3, 5, 0, 80) ∈ kX5_shelfForMove := List.mem_of_getElem? (i := 19) rfl
theorem eX5_shelfForMove_36 : (36, Instr.iload 4, 2, 0, 0, 0) ∈ kX5_shelfForMove := List.mem_of_getElem? (i := 20) rfl
theorem eX5_shelfForMove_38 : (38, Instr.aaload, 1, 0, 0, 0) ∈ kX5_shelfForMove := List.mem_of_getElem? (i := 21) rfl
theorem eX5_shelfForMove_39 : (39, Instr.astore 5, 2, 0, 0, 0) ∈ kX5_shelfForMove := List.mem_of_getElem? (i := 22) rfl
theorem eX5_shelfForMove_41 : (41, Instr.aload 5, 2, 0, 0, 0) ∈ kX5_shelfForMove := List.mem_of_getElem? (i := 23) rfl
theorem eX5_shelfForMove_43 : (43, Instr.ifnull 52, 3, 95, 0, 0) ∈ kX5_shelfForMove := List.mem_of_getElem? (i := 24) rfl
theorem eX5_shelfForMove_46 : (46, Instr.aload 5, 2, 0, 0, 0) ∈ kX5_shelfForMove := List.mem_of_getElem? (i := 25) rfl
theorem eX5_shelfForMove_48 : (48, Instr.aload_n 1, 1, 0, 0, 0) ∈ kX5_shelfForMove := List.mem_of_getElem? (i := 26) rfl
theorem eX5_shelfForMove_49 : (49, Instr.getfield 297, 3, 4, 8, 267) ∈ kX5_shelfForMove := List.mem_of_getElem? (i := 27) rfl
theorem eX5_shelfForMove_52 : (52, Instr.if_acmp .eq 43, 3, 95, 0, 0) ∈ kX5_shelfForMove := List.mem_of_getElem? (i := 28) rfl
theorem eX5_shelfForMove_55 : (55, Instr.aload 5, 2, 0, 0, 0) ∈ kX5_shelfForMove := List.mem_of_getElem? (i := 29) rfl
theorem eX5_shelfForMove_57 : (57, Instr.aload_n 1, 1, 0, 0, 0) ∈ kX5_shelfForMove := List.mem_of_getElem? (i := 30) rfl
theorem eX5_shelfForMove_58 : (58, Instr.invokevirtual 286, 3, 14, 1, 298) ∈ kX5_shelfForMove := List.mem_of_getElem? (i := 31) rfl
theorem eX5_shelfForMove_61 : (61, Instr.ifCond .ne 6, 3, 67, 0, 0) ∈ kX5_shelfForMove := List.mem_of_getElem? (i := 32) rfl
theorem eX5_shelfForMove_64 : (64, Instr.goto 31, 3, 95, 0, 0) ∈ kX5_shelfForMove := List.mem_of_getElem? (i := 33) rfl
theorem eX5_shelfForMove_67 : (67, Instr.aload_n 1, 1, 0, 0, 0) ∈ kX5_shelfForMove := List.mem_of_getElem? (i := 34) rfl
theorem eX5_shelfForMove_68 : (68, Instr.aload 5, 2, 0, 0, 0) ∈ kX5_shelfForMove := List.mem_of_getElem? (i := 35) rfl
theorem eX5_shelfForMove_70 : (70, Instr.aload_n 0, 1, 0, 0, 0) ∈ kX5_shelfForMove := List.mem_of_getElem? (i := 36) rfl
theorem eX5_shelfForMove_71 : (71, Instr.getfield 49, 3, 5, 10, 90) ∈ kX5_shelfForMove := List.mem_of_getElem? (i := 37) rfl
theorem eX5_shelfForMove_74 : (74, Instr.invokevirtual 293, 3, 21, 2, 310) ∈ kX5_shelfForMove := List.mem_of_getElem? (i := 38) rfl
theorem eX5_shelfForMove_77 : (77, Instr.istore 6, 2, 0, 0, 0) ∈ kX5_shelfForMove := List.mem_of_getElem? (i := 39) rfl
theorem eX5_shelfForMove_79 : (79, Instr.aload_n 2, 1, 0, 0, 0) ∈ kX5_shelfForMove := List.mem_of_getElem? (i := 40) rfl
theorem eX5_shelfForMove_80 : (80, Instr.ifnull 9, 3, 89, 0, 0) ∈ kX5_shelfForMove := List.mem_of_getElem? (i := 41) rfl
theorem eX5_shelfForMove_83 : (83, Instr.iload 6, 2, 0, 0, 0) ∈ kX5_shelfForMove := List.mem_of_getElem? (i := 42) rfl
theorem eX5_shelfForMove_85 : (85, Instr.iload_n 3, 1, 0, 0, 0) ∈ kX5_shelfForMove := List.mem_of_getElem? (i := 43) rfl
theorem eX5_shelfForMove_86 : (86, Instr.if_icmp .ge 9, 3, 95, 0, 0) ∈ kX5_shelfForMove := List.mem_of_getElem? (i := 44) rfl
theorem eX5_shelfForMove_89 : (89, Instr.aload 5, 2, 0, 0, 0) ∈ kX5_shelfForMove := List.mem_of_getElem? (i := 45) rfl
theorem eX5_shelfForMove_91 : (91, Instr.astore_n 2, 1, 0, 0, 0) ∈ kX5_shelfForMove := List.mem_of_getElem? (i := 46) rfl
theorem eX5_shelfForMove_92 : (92, Instr.iload 6, 2, 0, 0, 0) ∈ kX5_shelfForMove := List.mem_of_getElem? (i := 47) rfl
theorem eX5_shelfForMove_94 : (94, Instr.istore_n 3, 1, 0, 0, 0) ∈ kX5_shelfForMove := List.mem_of_getElem? (i := 48) rfl
theorem eX5_shelfForMove_95 : (95, Instr.iinc 4 1, 3, 0, 0, 0) ∈ kX5_shelfForMove := List.mem_of_getElem? (i := 49) rfl
theorem eX5_shelfForMove_98 : (98, Instr.goto (-75), 3, 23, 0, 0) ∈ kX5_shelfForMove := List.mem_of_getElem? (i := 50) rfl
theorem eX5_shelfForMove_101 : (101, Instr.aload_n 2, 1, 0, 0, 0) ∈ kX5_shelfForMove := List.mem_of_getElem? (i := 51) rfl
theorem eX5_shelfForMove_102 : (102, Instr.areturn, 1, 0, 0, 0) ∈ kX5_shelfForMove := List.mem_of_getElem? (i := 52) rfl
theorem aX5_move : am_m nX5_move = mX5_move := rfl
theorem eX5_move_0 : (0, Instr.aload_n 1, 1, 0, 0, 0) ∈ kX5_move := List.mem_of_getElem? (i := 0) rfl
theorem eX5_move_1 : (1, Instr.getfield 297, 3, 4, 8, 267) ∈ kX5_move := List.mem_of_getElem? (i := 1) rfl
theorem eX5_move_4 : (4, Instr.astore_n 3, 1, 0, 0, 0) ∈ kX5_move := List.mem_of_getElem? (i := 2) rfl
theorem eX5_move_5 : (5, Instr.aload_n 3, 1, 0, 0, 0) ∈ kX5_move := List.mem_of_getElem? (i := 3) rfl
theorem eX5_move_6 : (6, Instr.ifnonnull 4, 3, 10, 0, 0) ∈ kX5_move := List.mem_of_getElem? (i := 4) rfl
theorem eX5_move_9 : (9, Instr.return_, 1, 0, 0, 0) ∈ kX5_move := List.mem_of_getElem? (i := 5) rfl
theorem eX5_move_10 : (10, Instr.aload_n 0, 1, 0, 0, 0) ∈ kX5_move := List.mem_of_getElem? (i := 6) rfl
theorem eX5_move_11 : (11, Instr.dup, 1, 0, 0, 0) ∈ kX5_move := List.mem_of_getElem? (i := 7) rfl
theorem eX5_move_12 : (12, Instr.getfield 101, 3, 5, 14, 94) ∈ kX5_move := List.mem_of_getElem? (i := 8) rfl
theorem eX5_move_15 : (15, Instr.aload_n 3, 1, 0, 0, 0) ∈ kX5_move := List.mem_of_getElem? (i := 9) rfl
theorem eX5_move_16 : (16, Instr.getfield 104, 3, 3, 4, 203) ∈ kX5_move := List.mem_of_getElem? (i := 10) rfl
theorem eX5_move_19 : (19, Instr.aload_n 2, 1, 0, 0, 0) ∈ kX5_move := List.mem_of_getElem? (i := 11) rfl
theorem eX5_move_20 : (20, Instr.getfield 104, 3, 3, 4, 203) ∈ kX5_move := List.mem_of_getElem? (i := 12) rfl
theorem eX5_move_23 : (23, Instr.iadd, 1, 0, 0, 0) ∈ kX5_move := List.mem_of_getElem? (i := 13) rfl
theorem eX5_move_24 : (24, Instr.iadd, 1, 0, 0, 0) ∈ kX5_move := List.mem_of_getElem? (i := 14) rfl
theorem eX5_move_25 : (25, Instr.putfield 101, 3, 5, 14, 94) ∈ kX5_move := List.mem_of_getElem? (i := 15) rfl
theorem eX5_move_28 : (28, Instr.aload_n 3, 1, 0, 0, 0) ∈ kX5_move := List.mem_of_getElem? (i := 16) rfl
theorem eX5_move_29 : (29, Instr.aload_n 1, 1, 0, 0, 0) ∈ kX5_move := List.mem_of_getElem? (i := 17) rfl
theorem eX5_move_30 : (30, Instr.invokevirtual 301, 3, 16, 1, 378) ∈ kX5_move := List.mem_of_getElem? (i := 18) rfl
theorem eX5_move_33 : (33, Instr.aload_n 2, 1, 0, 0, 0) ∈ kX5_move := List.mem_of_getElem? (i := 19) rfl
theorem eX5_move_34 : (34, Instr.aload_n 1, 1, 0, 0, 0) ∈ kX5_move := List.mem_of_getElem? (i := 20) rfl
theorem eX5_move_35 : (35, Instr.invokevirtual 97, 3, 15, 1, 327) ∈ kX5_move := List.mem_of_getElem? (i := 21) rfl
theorem eX5_move_38 : (38, Instr.return_, 1, 0, 0, 0) ∈ kX5_move := List.mem_of_getElem? (i := 22) rfl
theorem aX5_thingsIn : am_m nX5_thingsIn = mX5_thingsIn := rfl
theorem eX5_thingsIn_0 : (0, Instr.iconst 0, 1, 0, 0, 0) ∈ kX5_thingsIn := List.mem_of_getElem? (i := 0) rfl
theorem eX5_thingsIn_1 : (1, Instr.istore_n 1, 1, 0, 0, 0) ∈ kX5_thingsIn := List.mem_of_getElem? (i := 1) rfl
theorem eX5_thingsIn_2 : (2, Instr.iconst 0, 1, 0, 0, 0) ∈ kX5_thingsIn := List.mem_of_getElem? (i := 2) rfl
theorem eX5_thingsIn_3 : (3, Instr.istore_n 2, 1, 0, 0, 0) ∈ kX5_thingsIn := List.mem_of_getElem? (i := 3) rfl
theorem eX5_thingsIn_4 : (4, Instr.iload_n 2, 1, 0, 0, 0) ∈ kX5_thingsIn := List.mem_of_getElem? (i := 4) rfl
theorem eX5_thingsIn_5 : (5, Instr.aload_n 0, 1, 0, 0, 0) ∈ kX5_thingsIn := List.mem_of_getElem? (i := 5) rfl
theorem eX5_thingsIn_6 : (6, Instr.getfield 76, 3, 5, 1, 81) ∈ kX5_thingsIn := List.mem_of_getElem? (i := 6) rfl
theorem eX5_thingsIn_9 : (9, Instr.if_icmp .ge 27, 3, 36, 0, 0) ∈ kX5_thingsIn := List.mem_of_getElem? (i := 7) rfl
theorem eX5_thingsIn_12 : (12, Instr.aload_n 0, 1, 0, 0, 0) ∈ kX5_thingsIn := List.mem_of_getElem? (i := 8) rfl
theorem eX5_thingsIn_13 : (13, Instr.getfield 11, 3, 5, 0, 80) ∈ kX5_thingsIn := List.mem_of_getElem? (i := 9) rfl
theorem eX5_thingsIn_16 : (16, Instr.iload_n 2, 1, 0, 0, 0) ∈ kX5_thingsIn := List.mem_of_getElem? (i := 10) rfl
theorem eX5_thingsIn_17 : (17, Instr.aaload, 1, 0, 0, 0) ∈ kX5_thingsIn := List.mem_of_getElem? (i := 11) rfl
theorem eX5_thingsIn_18 : (18, Instr.astore_n 3, 1, 0, 0, 0) ∈ kX5_thingsIn := List.mem_of_getElem? (i := 12) rfl
theorem eX5_thingsIn_19 : (19, Instr.aload_n 3, 1, 0, 0, 0) ∈ kX5_thingsIn := List.mem_of_getElem? (i := 13) rfl
theorem eX5_thingsIn_20 : (20, Instr.ifnull 10, 3, 30, 0, 0) ∈ kX5_thingsIn := List.mem_of_getElem? (i := 14) rfl
theorem eX5_thingsIn_23 : (23, Instr.iload_n 1, 1, 0, 0, 0) ∈ kX5_thingsIn := List.mem_of_getElem? (i := 15) rfl
theorem eX5_thingsIn_24 : (24, Instr.aload_n 3, 1, 0, 0, 0) ∈ kX5_thingsIn := List.mem_of_getElem? (i := 16) rfl
theorem eX5_thingsIn_25 : (25, Instr.getfield 238, 3, 3, 6, 207) ∈ kX5_thingsIn := List.mem_of_getElem? (i := 17) rfl
theorem eX5_thingsIn_28 : (28, Instr.iadd, 1, 0, 0, 0) ∈ kX5_thingsIn := List.mem_of_getElem? (i := 18) rfl
theorem eX5_thingsIn_29 : (29, Instr.istore_n 1, 1, 0, 0, 0) ∈ kX5_thingsIn := List.mem_of_getElem? (i := 19) rfl
theorem eX5_thingsIn_30 : (30, Instr.iinc 2 1, 3, 0, 0, 0) ∈ kX5_thingsIn := List.mem_of_getElem? (i := 20) rfl
theorem eX5_thingsIn_33 : (33, Instr.goto (-29), 3, 4, 0, 0) ∈ kX5_thingsIn := List.mem_of_getElem? (i := 21) rfl
theorem eX5_thingsIn_36 : (36, Instr.iload_n 1, 1, 0, 0, 0) ∈ kX5_thingsIn := List.mem_of_getElem? (i := 22) rfl
theorem eX5_thingsIn_37 : (37, Instr.ireturn, 1, 0, 0, 0) ∈ kX5_thingsIn := List.mem_of_getElem? (i := 23) rfl
theorem aX5_coinsKept : am_m nX5_coinsKept = mX5_coinsKept := rfl
theorem eX5_coinsKept_0 : (0, Instr.iconst 0, 1, 0, 0, 0) ∈ kX5_coinsKept := List.mem_of_getElem? (i := 0) rfl
theorem eX5_coinsKept_1 : (1, Instr.istore_n 1, 1, 0, 0, 0) ∈ kX5_coinsKept := List.mem_of_getElem? (i := 1) rfl
theorem eX5_coinsKept_2 : (2, Instr.iconst 0, 1, 0, 0, 0) ∈ kX5_coinsKept := List.mem_of_getElem? (i := 2) rfl
theorem eX5_coinsKept_3 : (3, Instr.istore_n 2, 1, 0, 0, 0) ∈ kX5_coinsKept := List.mem_of_getElem? (i := 3) rfl
theorem eX5_coinsKept_4 : (4, Instr.iload_n 2, 1, 0, 0, 0) ∈ kX5_coinsKept := List.mem_of_getElem? (i := 4) rfl
theorem eX5_coinsKept_5 : (5, Instr.aload_n 0, 1, 0, 0, 0) ∈ kX5_coinsKept := List.mem_of_getElem? (i := 5) rfl
theorem eX5_coinsKept_6 : (6, Instr.getfield 87, 3, 5, 3, 83) ∈ kX5_coinsKept := List.mem_of_getElem? (i := 6) rfl
theorem eX5_coinsKept_9 : (9, Instr.if_icmp .ge 27, 3, 36, 0, 0) ∈ kX5_coinsKept := List.mem_of_getElem? (i := 7) rfl
theorem eX5_coinsKept_12 : (12, Instr.aload_n 0, 1, 0, 0, 0) ∈ kX5_coinsKept := List.mem_of_getElem? (i := 8) rfl
theorem eX5_coinsKept_13 : (13, Instr.getfield 17, 3, 5, 2, 82) ∈ kX5_coinsKept := List.mem_of_getElem? (i := 9) rfl
theorem eX5_coinsKept_16 : (16, Instr.iload_n 2, 1, 0, 0, 0) ∈ kX5_coinsKept := List.mem_of_getElem? (i := 10) rfl
theorem eX5_coinsKept_17 : (17, Instr.aaload, 1, 0, 0, 0) ∈ kX5_coinsKept := List.mem_of_getElem? (i := 11) rfl
theorem eX5_coinsKept_18 : (18, Instr.astore_n 3, 1, 0, 0, 0) ∈ kX5_coinsKept := List.mem_of_getElem? (i := 12) rfl
theorem eX5_coinsKept_19 : (19, Instr.aload_n 3, 1, 0, 0, 0) ∈ kX5_coinsKept := List.mem_of_getElem? (i := 13) rfl
theorem eX5_coinsKept_20 : (20, Instr.ifnull 10, 3, 30, 0, 0) ∈ kX5_coinsKept := List.mem_of_getElem? (i := 14) rfl
theorem eX5_coinsKept_23 : (23, Instr.iload_n 1, 1, 0, 0, 0) ∈ kX5_coinsKept := List.mem_of_getElem? (i := 15) rfl
theorem eX5_coinsKept_24 : (24, Instr.aload_n 3, 1, 0, 0, 0) ∈ kX5_coinsKept := List.mem_of_getElem? (i := 16) rfl
theorem eX5_coinsKept_25 : (25, Instr.getfield 209, 3, 4, 9, 268) ∈ kX5_coinsKept := List.mem_of_getElem? (i := 17) rfl
theorem eX5_coinsKept_28 : (28, Instr.iadd, 1, 0, 0, 0) ∈ kX5_coinsKept := List.mem_of_getElem? (i := 18) rfl
theorem eX5_coinsKept_29 : (29, Instr.istore_n 1, 1, 0, 0, 0) ∈ kX5_coinsKept := List.mem_of_getElem? (i := 19) rfl
theorem eX5_coinsKept_30 : (30, Instr.iinc 2 1, 3, 0, 0, 0) ∈ kX5_coinsKept := List.mem_of_getElem? (i := 20) rfl
theorem eX5_coinsKept_33 : (33, Instr.goto (-29), 3, 4, 0, 0) ∈ kX5_coinsKept := List.mem_of_getElem? (i := 21) rfl
theorem eX5_coinsKept_36 : (36, Instr.iload_n 1, 1, 0, 0, 0) ∈ kX5_coinsKept := List.mem_of_getElem? (i := 22) rfl
theorem eX5_coinsKept_37 : (37, Instr.ireturn, 1, 0, 0, 0) ∈ kX5_coinsKept := List.mem_of_getElem? (i := 23) rfl
theorem aX6_init : am_m nX6_init = mX6_init := rfl
theorem eX6_init_0 : (0, Instr.aload_n 0, 1, 0, 0, 0) ∈ kX6_init := List.mem_of_getElem? (i := 0) rfl
theorem eX6_init_1 : (1, Instr.invokespecial 1, 3, 999, 0, 568) ∈ kX6_init := List.mem_of_getElem? (i := 1) rfl
theorem eX6_init_4 : (4, Instr.aload_n 0, 1, 0, 0, 0) ∈ kX6_init := List.mem_of_getElem? (i := 2) rfl
theorem eX6_init_5 : (5, Instr.sipush 1440, 3, 0, 0, 0) ∈ kX6_init := List.mem_of_getElem? (i := 3) rfl
theorem eX6_init_8 : (8, Instr.putfield 7, 3, 6, 2, 571) ∈ kX6_init := List.mem_of_getElem? (i := 4) rfl
theorem eX6_init_11 : (11, Instr.aload_n 0, 1, 0, 0, 0) ∈ kX6_init := List.mem_of_getElem? (i := 5) rfl
theorem eX6_init_12 : (12, Instr.bipush 12, 2, 0, 0, 0) ∈ kX6_init := List.mem_of_getElem? (i := 6) rfl
theorem eX6_init_14 : (14, Instr.newarray .int, 2, 7, 0, 0) ∈ kX6_init := List.mem_of_getElem? (i := 7) rfl
theorem eX6_init_16 : (16, Instr.putfield 13, 3, 6, 6, 575) ∈ kX6_init := List.mem_of_getElem? (i := 8) rfl
theorem eX6_init_19 : (19, Instr.aload_n 0, 1, 0, 0, 0) ∈ kX6_init := List.mem_of_getElem? (i := 9) rfl
theorem eX6_init_20 : (20, Instr.bipush 12, 2, 0, 0, 0) ∈ kX6_init := List.mem_of_getElem? (i := 10) rfl
theorem eX6_init_22 : (22, Instr.newarray .int, 2, 7, 0, 0) ∈ kX6_init := List.mem_of_getElem? (i := 11) rfl
theorem eX6_init_24 : (24, Instr.putfield 17, 3, 6, 7, 576) ∈ kX6_init := List.mem_of_getElem? (i := 12) rfl
theorem eX6_init_27 : (27, Instr.aload_n 0, 1, 0, 0, 0) ∈ kX6_init := List.mem_of_getElem? (i := 13) rfl
theorem eX6_init_28 : (28, Instr.bipush 12, 2, 0, 0, 0) ∈ kX6_init := List.mem_of_getElem? (i := 14) rfl
theorem eX6_init_30 : (30, Instr.newarray .int, 2, 7, 0, 0) ∈ kX6_init := List.mem_of_getElem? (i := 15) rfl
theorem eX6_init_32 : (32, Instr.putfield 20, 3, 6, 8, 577) ∈ kX6_init := List.mem_of_getElem? (i := 16) rfl
theorem eX6_init_35 : (35, Instr.aload_n 0, 1, 0, 0, 0) ∈ kX6_init := List.mem_of_getElem? (i := 17) rfl
theorem eX6_init_36 : (36, Instr.bipush 12, 2, 0, 0, 0) ∈ kX6_init := List.mem_of_getElem? (i := 18) rfl
theorem eX6_init_38 : (38, Instr.newarray .int, 2, 7, 0, 0) ∈ kX6_init := List.mem_of_getElem? (i := 19) rfl
theorem eX6_init_40 : (40, Instr.putfield 23, 3, 6, 9, 578) ∈ kX6_init := List.mem_of_getElem? (i := 20) rfl
theorem eX6_init_43 : (43, Instr.aload_n 0, 1, 0, 0, 0) ∈ kX6_init := List.mem_of_getElem? (i := 21) rfl
theorem eX6_init_44 : (44, Instr.bipush 12, 2, 0, 0, 0) ∈ kX6_init := List.mem_of_getElem? (i := 22) rfl
theorem eX6_init_46 : (46, Instr.newarray .int, 2, 7, 0, 0) ∈ kX6_init := List.mem_of_getElem? (i := 23) rfl
theorem eX6_init_48 : (48, Instr.putfield 26, 3, 6, 10, 579) ∈ kX6_init := List.mem_of_getElem? (i := 24) rfl
theorem eX6_init_51 : (51, Instr.aload_n 0, 1, 0, 0, 0) ∈ kX6_init := List.mem_of_getElem? (i := 25) rfl
theorem eX6_init_52 : (52, Instr.bipush 16, 2, 0, 0, 0) ∈ kX6_init := List.mem_of_getElem? (i := 26) rfl
theorem eX6_init_54 : (54, Instr.newarray .int, 2, 7, 0, 0) ∈ kX6_init := List.mem_of_getElem? (i := 27) rfl
theorem eX6_init_56 : (56, Instr.putfield 29, 3, 6, 13, 582) ∈ kX6_init := List.mem_of_getElem? (i := 28) rfl
theorem eX6_init_59 : (59, Instr.aload_n 0, 1, 0, 0, 0) ∈ kX6_init := List.mem_of_getElem? (i := 29) rfl
theorem eX6_init_60 : (60, Instr.bipush 16, 2, 0, 0, 0) ∈ kX6_init := List.mem_of_getElem? (i := 30) rfl
theorem eX6_init_62 : (62, Instr.newarray .int, 2, 7, 0, 0) ∈ kX6_init := List.mem_of_getElem? (i := 31) rfl
theorem eX6_init_64 : (64, Instr.putfield 32, 3, 6, 14, 583) ∈ kX6_init := List.mem_of_getElem? (i := 32) rfl
theorem eX6_init_67 : (67, Instr.aload_n 0, 1, 0, 0, 0) ∈ kX6_init := List.mem_of_getElem? (i := 33) rfl
theorem eX6_init_68 : (68, Instr.bipush 16, 2, 0, 0, 0) ∈ kX6_init := List.mem_of_getElem? (i := 34) rfl
theorem eX6_init_70 : (70, Instr.newarray .int, 2, 7, 0, 0) ∈ kX6_init := List.mem_of_getElem? (i := 35) rfl
theorem eX6_init_72 : (72, Instr.putfield 35, 3, 6, 15, 584) ∈ kX6_init := List.mem_of_getElem? (i := 36) rfl
theorem eX6_init_75 : (75, Instr.aload_n 0, 1, 0, 0, 0) ∈ kX6_init := List.mem_of_getElem? (i := 37) rfl
theorem eX6_init_76 : (76, Instr.bipush 16, 2, 0, 0, 0) ∈ kX6_init := List.mem_of_getElem? (i := 38) rfl
theorem eX6_init_78 : (78, Instr.newarray .boolean, 2, 8, 0, 0) ∈ kX6_init := List.mem_of_getElem? (i := 39) rfl
theorem eX6_init_80 : (80, Instr.putfield 38, 3, 6, 16, 585) ∈ kX6_init := List.mem_of_getElem? (i := 40) rfl
theorem eX6_init_83 : (83, Instr.aload_n 0, 1, 0, 0, 0) ∈ kX6_init := List.mem_of_getElem? (i := 41) rfl
theorem eX6_init_84 : (84, Instr.bipush 16, 2, 0, 0, 0) ∈ kX6_init := List.mem_of_getElem? (i := 42) rfl
theorem eX6_init_86 : (86, Instr.newarray .boolean, 2, 8, 0, 0) ∈ kX6_init := List.mem_of_getElem? (i := 43) rfl
theorem eX6_init_88 : (88, Instr.putfield 42, 3, 6, 17, 586) ∈ kX6_init := List.mem_of_getElem? (i := 44) rfl
theorem eX6_init_91 : (91, Instr.aload_n 0, 1, 0, 0, 0) ∈ kX6_init := List.mem_of_getElem? (i := 45) rfl
theorem eX6_init_92 : (92, Instr.bipush 120, 2, 0, 0, 0) ∈ kX6_init := List.mem_of_getElem? (i := 46) rfl
theorem eX6_init_94 : (94, Instr.newarray .int, 2, 7, 0, 0) ∈ kX6_init := List.mem_of_getElem? (i := 47) rfl
theorem eX6_init_96 : (96, Instr.putfield 45, 3, 6, 18, 587) ∈ kX6_init := List.mem_of_getElem? (i := 48) rfl
theorem eX6_init_99 : (99, Instr.aload_n 0, 1, 0, 0, 0) ∈ kX6_init := List.mem_of_getElem? (i := 49) rfl
theorem eX6_init_100 : (100, Instr.bipush 120, 2, 0, 0, 0) ∈ kX6_init := List.mem_of_getElem? (i := 50) rfl
theorem eX6_init_102 : (102, Instr.newarray .int, 2, 7, 0, 0) ∈ kX6_init := List.mem_of_getElem? (i := 51) rfl
theorem eX6_init_104 : (104, Instr.putfield 48, 3, 6, 19, 588) ∈ kX6_init := List.mem_of_getElem? (i := 52) rfl
theorem eX6_init_107 : (107, Instr.aload_n 0, 1, 0, 0, 0) ∈ kX6_init := List.mem_of_getElem? (i := 53) rfl
theorem eX6_init_108 : (108, Instr.bipush 120, 2, 0, 0, 0) ∈ kX6_init := List.mem_of_getElem? (i := 54) rfl
theorem eX6_init_110 : (110, Instr.newarray .int, 2, 7, 0, 0) ∈ kX6_init := List.mem_of_getElem? (i := 55) rfl
theorem eX6_init_112 : (112, Instr.putfield 51, 3, 6, 20, 589) ∈ kX6_init := List.mem_of_getElem? (i := 56) rfl
theorem eX6_init_115 : (115, Instr.aload_n 0, 1, 0, 0, 0) ∈ kX6_init := List.mem_of_getElem? (i := 57) rfl
theorem eX6_init_116 : (116, Instr.bipush 120, 2, 0, 0, 0) ∈ kX6_init := List.mem_of_getElem? (i := 58) rfl
theorem eX6_init_118 : (118, Instr.newarray .int, 2, 7, 0, 0) ∈ kX6_init := List.mem_of_getElem? (i := 59) rfl
theorem eX6_init_120 : (120, Instr.putfield 54, 3, 6, 21, 590) ∈ kX6_init := List.mem_of_getElem? (i := 60) rfl
theorem eX6_init_123 : (123, Instr.aload_n 0, 1, 0, 0, 0) ∈ kX6_init := List.mem_of_getElem? (i := 61) rfl
theorem eX6_init_124 : (124, Instr.bipush 120, 2, 0, 0, 0) ∈ kX6_init := List.mem_of_getElem? (i := 62) rfl
theorem eX6_init_126 : (126, Instr.newarray .int, 2, 7, 0, 0) ∈ kX6_init := List.mem_of_getElem? (i := 63) rfl
theorem eX6_init_128 : (128, Instr.putfield 57, 3, 6, 22, 591) ∈ kX6_init := List.mem_of_getElem? (i := 64) rfl
theorem eX6_init_131 : (131, Instr.aload_n 0, 1, 0, 0, 0) ∈ kX6_init := List.mem_of_getElem? (i := 65) rfl
theorem eX6_init_132 : (132, Instr.bipush 120, 2, 0, 0, 0) ∈ kX6_init := List.mem_of_getElem? (i := 66) rfl
theorem eX6_init_134 : (134, Instr.newarray .int, 2, 7, 0, 0) ∈ kX6_init := List.mem_of_getElem? (i := 67) rfl
theorem eX6_init_136 : (136, Instr.putfield 60, 3, 6, 23, 592) ∈ kX6_init := List.mem_of_getElem? (i := 68) rfl
theorem eX6_init_139 : (139, Instr.aload_n 0, 1, 0, 0, 0) ∈ kX6_init := List.mem_of_getElem? (i := 69) rfl
theorem eX6_init_140 : (140, Instr.bipush 120, 2, 0, 0, 0) ∈ kX6_init := List.mem_of_getElem? (i := 70) rfl
theorem eX6_init_142 : (142, Instr.newarray .int, 2, 7, 0, 0) ∈ kX6_init := List.mem_of_getElem? (i := 71) rfl
theorem eX6_init_144 : (144, Instr.putfield 63, 3, 6, 24, 593) ∈ kX6_init := List.mem_of_getElem? (i := 72) rfl
theorem eX6_init_147 : (147, Instr.aload_n 0, 1, 0, 0, 0) ∈ kX6_init := List.mem_of_getElem? (i := 73) rfl
theorem eX6_init_148 : (148, Instr.bipush 120, 2, 0, 0, 0) ∈ kX6_init := List.mem_of_getElem? (i := 74) rfl
theorem eX6_init_150 : (150, Instr.newarray .int, 2, 7, 0, 0) ∈ kX6_init := List.mem_of_getElem? (i := 75) rfl
theorem eX6_init_152 : (152, Instr.putfield 66, 3, 6, 25, 594) ∈ kX6_init := List.mem_of_getElem? (i := 76) rfl
theorem eX6_init_155 : (155, Instr.aload_n 0, 1, 0, 0, 0) ∈ kX6_init := List.mem_of_getElem? (i := 77) rfl
theorem eX6_init_156 : (156, Instr.bipush 120, 2, 0, 0, 0) ∈ kX6_init := List.mem_of_getElem? (i := 78) rfl
theorem eX6_init_158 : (158, Instr.newarray .int, 2, 7, 0, 0) ∈ kX6_init := List.mem_of_getElem? (i := 79) rfl
theorem eX6_init_160 : (160, Instr.putfield 69, 3, 6, 26, 595) ∈ kX6_init := List.mem_of_getElem? (i := 80) rfl
theorem eX6_init_163 : (163, Instr.aload_n 0, 1, 0, 0, 0) ∈ kX6_init := List.mem_of_getElem? (i := 81) rfl
theorem eX6_init_164 : (164, Instr.bipush 120, 2, 0, 0, 0) ∈ kX6_init := List.mem_of_getElem? (i := 82) rfl
theorem eX6_init_166 : (166, Instr.newarray .boolean, 2, 8, 0, 0) ∈ kX6_init := List.mem_of_getElem? (i := 83) rfl
theorem eX6_init_168 : (168, Instr.putfield 72, 3, 6, 27, 596) ∈ kX6_init := List.mem_of_getElem? (i := 84) rfl
theorem eX6_init_171 : (171, Instr.aload_n 0, 1, 0, 0, 0) ∈ kX6_init := List.mem_of_getElem? (i := 85) rfl
theorem eX6_init_172 : (172, Instr.bipush 120, 2, 0, 0, 0) ∈ kX6_init := List.mem_of_getElem? (i := 86) rfl
theorem eX6_init_174 : (174, Instr.newarray .boolean, 2, 8, 0, 0) ∈ kX6_init := List.mem_of_getElem? (i := 87) rfl
theorem eX6_init_176 : (176, Instr.putfield 75, 3, 6, 28, 597) ∈ kX6_init := List.mem_of_getElem? (i := 88) rfl
theorem eX6_init_179 : (179, Instr.aload_n 0, 1, 0, 0, 0) ∈ kX6_init := List.mem_of_getElem? (i := 89) rfl
theorem eX6_init_180 : (180, Instr.sipush 160, 3, 0, 0, 0) ∈ kX6_init := List.mem_of_getElem? (i := 90) rfl
theorem eX6_init_183 : (183, Instr.newarray .int, 2, 7, 0, 0) ∈ kX6_init := List.mem_of_getElem? (i := 91) rfl
theorem eX6_init_185 : (185, Instr.putfield 78, 3, 6, 30, 599) ∈ kX6_init := List.mem_of_getElem? (i := 92) rfl
theorem eX6_init_188 : (188, Instr.aload_n 0, 1, 0, 0, 0) ∈ kX6_init := List.mem_of_getElem? (i := 93) rfl
theorem eX6_init_189 : (189, Instr.bipush 40, 2, 0, 0, 0) ∈ kX6_init := List.mem_of_getElem? (i := 94) rfl
theorem eX6_init_191 : (191, Instr.newarray .int, 2, 7, 0, 0) ∈ kX6_init := List.mem_of_getElem? (i := 95) rfl
theorem eX6_init_193 : (193, Instr.putfield 81, 3, 6, 31, 600) ∈ kX6_init := List.mem_of_getElem? (i := 96) rfl
theorem eX6_init_196 : (196, Instr.aload_n 0, 1, 0, 0, 0) ∈ kX6_init := List.mem_of_getElem? (i := 97) rfl
theorem eX6_init_197 : (197, Instr.bipush 40, 2, 0, 0, 0) ∈ kX6_init := List.mem_of_getElem? (i := 98) rfl
theorem eX6_init_199 : (199, Instr.newarray .boolean, 2, 8, 0, 0) ∈ kX6_init := List.mem_of_getElem? (i := 99) rfl
theorem eX6_init_201 : (201, Instr.putfield 84, 3, 6, 32, 601) ∈ kX6_init := List.mem_of_getElem? (i := 100) rfl
theorem eX6_init_204 : (204, Instr.aload_n 0, 1, 0, 0, 0) ∈ kX6_init := List.mem_of_getElem? (i := 101) rfl
theorem eX6_init_205 : (205, Instr.bipush 6, 2, 0, 0, 0) ∈ kX6_init := List.mem_of_getElem? (i := 102) rfl
theorem eX6_init_207 : (207, Instr.newarray .int, 2, 7, 0, 0) ∈ kX6_init := List.mem_of_getElem? (i := 103) rfl
theorem eX6_init_209 : (209, Instr.putfield 87, 3, 6, 33, 602) ∈ kX6_init := List.mem_of_getElem? (i := 104) rfl
theorem eX6_init_212 : (212, Instr.aload_n 0, 1, 0, 0, 0) ∈ kX6_init := List.mem_of_getElem? (i := 105) rfl
theorem eX6_init_213 : (213, Instr.bipush 6, 2, 0, 0, 0) ∈ kX6_init := List.mem_of_getElem? (i := 106) rfl
theorem eX6_init_215 : (215, Instr.newarray .int, 2, 7, 0, 0) ∈ kX6_init := List.mem_of_getElem? (i := 107) rfl
theorem eX6_init_217 : (217, Instr.putfield 90, 3, 6, 34, 603) ∈ kX6_init := List.mem_of_getElem? (i := 108) rfl
theorem eX6_init_220 : (220, Instr.aload_n 0, 1, 0, 0, 0) ∈ kX6_init := List.mem_of_getElem? (i := 109) rfl
theorem eX6_init_221 : (221, Instr.bipush 16, 2, 0, 0, 0) ∈ kX6_init := List.mem_of_getElem? (i := 110) rfl
theorem eX6_init_223 : (223, Instr.newarray .int, 2, 7, 0, 0) ∈ kX6_init := List.mem_of_getElem? (i := 111) rfl
theorem eX6_init_225 : (225, Instr.putfield 93, 3, 6, 35, 604) ∈ kX6_init := List.mem_of_getElem? (i := 112) rfl
theorem eX6_init_228 : (228, Instr.return_, 1, 0, 0, 0) ∈ kX6_init := List.mem_of_getElem? (i := 113) rfl
theorem aX6_in : am_m nX6_in = mX6_in := rfl
theorem eX6_in_0 : (0, Instr.iload_n 0, 1, 0, 0, 0) ∈ kX6_in := List.mem_of_getElem? (i := 0) rfl
theorem eX6_in_1 : (1, Instr.iload_n 1, 1, 0, 0, 0) ∈ kX6_in := List.mem_of_getElem? (i := 1) rfl
theorem eX6_in_2 : (2, Instr.if_icmp .lt 12, 3, 14, 0, 0) ∈ kX6_in := List.mem_of_getElem? (i := 2) rfl
theorem eX6_in_5 : (5, Instr.iload_n 0, 1, 0, 0, 0) ∈ kX6_in := List.mem_of_getElem? (i := 3) rfl
theorem eX6_in_6 : (6, Instr.iload_n 2, 1, 0, 0, 0) ∈ kX6_in := List.mem_of_getElem? (i := 4) rfl
theorem eX6_in_7 : (7, Instr.if_icmp .gt 7, 3, 14, 0, 0) ∈ kX6_in := List.mem_of_getElem? (i := 5) rfl
theorem eX6_in_10 : (10, Instr.iconst 1, 1, 0, 0, 0) ∈ kX6_in := List.mem_of_getElem? (i := 6) rfl
theorem eX6_in_11 : (11, Instr.goto 4, 3, 15, 0, 0) ∈ kX6_in := List.mem_of_getElem? (i := 7) rfl
theorem eX6_in_14 : (14, Instr.iconst 0, 1, 0, 0, 0) ∈ kX6_in := List.mem_of_getElem? (i := 8) rfl
theorem eX6_in_15 : (15, Instr.ireturn, 1, 1, 0, 0) ∈ kX6_in := List.mem_of_getElem? (i := 9) rfl
theorem aX6_gap : am_m nX6_gap = mX6_gap := rfl
theorem eX6_gap_0 : (0, Instr.iload_n 0, 1, 0, 0, 0) ∈ kX6_gap := List.mem_of_getElem? (i := 0) rfl
theorem eX6_gap_1 : (1, Instr.iload_n 1, 1, 0, 0, 0) ∈ kX6_gap := List.mem_of_getElem? (i := 1) rfl
theorem eX6_gap_2 : (2, Instr.if_icmp .le 9, 3, 11, 0, 0) ∈ kX6_gap := List.mem_of_getElem? (i := 2) rfl
theorem eX6_gap_5 : (5, Instr.iload_n 0, 1, 0, 0, 0) ∈ kX6_gap := List.mem_of_getElem? (i := 3) rfl
theorem eX6_gap_6 : (6, Instr.iload_n 1, 1, 0, 0, 0) ∈ kX6_gap := List.mem_of_getElem? (i := 4) rfl
theorem eX6_gap_7 : (7, Instr.isub, 1, 0, 0, 0) ∈ kX6_gap := List.mem_of_getElem? (i := 5) rfl
theorem eX6_gap_8 : (8, Instr.goto 6, 3, 14, 0, 0) ∈ kX6_gap := List.mem_of_getElem? (i := 6) rfl
theorem eX6_gap_11 : (11, Instr.iload_n 1, 1, 0, 0, 0) ∈ kX6_gap := List.mem_of_getElem? (i := 7) rfl
theorem eX6_gap_12 : (12, Instr.iload_n 0, 1, 0, 0, 0) ∈ kX6_gap := List.mem_of_getElem? (i := 8) rfl
theorem eX6_gap_13 : (13, Instr.isub, 1, 0, 0, 0) ∈ kX6_gap := List.mem_of_getElem? (i := 9) rfl
theorem eX6_gap_14 : (14, Instr.ireturn, 1, 0, 0, 0) ∈ kX6_gap := List.mem_of_getElem? (i := 10) rfl
theorem aX6_isOpen : am_m nX6_isOpen = mX6_isOpen := rfl
theorem eX6_isOpen_0 : (0, Instr.aload_n 0, 1, 0, 0, 0) ∈ kX6_isOpen := List.mem_of_getElem? (i := 0) rfl
theorem eX6_isOpen_1 : (1, Instr.getfield 96, 3, 6, 0, 569) ∈ kX6_isOpen := List.mem_of_getElem? (i := 1) rfl
theorem eX6_isOpen_4 : (4, Instr.sipush 1440, 3, 0, 0, 0) ∈ kX6_isOpen := List.mem_of_getElem? (i := 2) rfl
theorem eX6_isOpen_7 : (7, Instr.irem, 1, 0, 0, 0) ∈ kX6_isOpen := List.mem_of_getElem? (i := 3) rfl
theorem eX6_isOpen_8 : (8, Instr.aload_n 0, 1, 0, 0, 0) ∈ kX6_isOpen := List.mem_of_getElem? (i := 4) rfl
theorem eX6_isOpen_9 : (9, Instr.getfield 99, 3, 6, 1, 570) ∈ kX6_isOpen := List.mem_of_getElem? (i := 5) rfl
theorem eX6_isOpen_12 : (12, Instr.if_icmp .lt 22, 3, 34, 0, 0) ∈ kX6_isOpen := List.mem_of_getElem? (i := 6) rfl
theorem eX6_isOpen_15 : (15, Instr.aload_n 0, 1, 0, 0, 0) ∈ kX6_isOpen := List.mem_of_getElem? (i := 7) rfl
theorem eX6_isOpen_16 : (16, Instr.getfield 96, 3, 6, 0, 569) ∈ kX6_isOpen := List.mem_of_getElem? (i := 8) rfl
theorem eX6_isOpen_19 : (19, Instr.sipush 1440, 3, 0, 0, 0) ∈ kX6_isOpen := List.mem_of_getElem? (i := 9) rfl
theorem eX6_isOpen_22 : (22, Instr.irem, 1, 0, 0, 0) ∈ kX6_isOpen := List.mem_of_getElem? (i := 10) rfl
theorem eX6_isOpen_23 : (23, Instr.aload_n 0, 1, 0, 0, 0) ∈ kX6_isOpen := List.mem_of_getElem? (i := 11) rfl
theorem eX6_isOpen_24 : (24, Instr.getfield 7, 3, 6, 2, 571) ∈ kX6_isOpen := List.mem_of_getElem? (i := 12) rfl
theorem eX6_isOpen_27 : (27, Instr.if_icmp .ge 7, 3, 34, 0, 0) ∈ kX6_isOpen := List.mem_of_getElem? (i := 13) rfl
theorem eX6_isOpen_30 : (30, Instr.iconst 1, 1, 0, 0, 0) ∈ kX6_isOpen := List.mem_of_getElem? (i := 14) rfl
theorem eX6_isOpen_31 : (31, Instr.goto 4, 3, 35, 0, 0) ∈ kX6_isOpen := List.mem_of_getElem? (i := 15) rfl
theorem eX6_isOpen_34 : (34, Instr.iconst 0, 1, 0, 0, 0) ∈ kX6_isOpen := List.mem_of_getElem? (i := 16) rfl
theorem eX6_isOpen_35 : (35, Instr.ireturn, 1, 1, 0, 0) ∈ kX6_isOpen := List.mem_of_getElem? (i := 17) rfl
theorem aX6_hours : am_m nX6_hours = mX6_hours := rfl
theorem eX6_hours_0 : (0, Instr.iload_n 1, 1, 0, 0, 0) ∈ kX6_hours := List.mem_of_getElem? (i := 0) rfl
theorem eX6_hours_1 : (1, Instr.iconst 0, 1, 0, 0, 0) ∈ kX6_hours := List.mem_of_getElem? (i := 1) rfl
theorem eX6_hours_2 : (2, Instr.sipush 1440, 3, 0, 0, 0) ∈ kX6_hours := List.mem_of_getElem? (i := 2) rfl
theorem eX6_hours_5 : (5, Instr.invokestatic 102, 3, 78, 3, 683) ∈ kX6_hours := List.mem_of_getElem? (i := 3) rfl
theorem eX6_hours_8 : (8, Instr.ifCond .eq 19, 3, 27, 0, 0) ∈ kX6_hours := List.mem_of_getElem? (i := 4) rfl
theorem eX6_hours_11 : (11, Instr.iload_n 2, 1, 0, 0, 0) ∈ kX6_hours := List.mem_of_getElem? (i := 5) rfl
theorem eX6_hours_12 : (12, Instr.iconst 0, 1, 0, 0, 0) ∈ kX6_hours := List.mem_of_getElem? (i := 6) rfl
theorem eX6_hours_13 : (13, Instr.sipush 1440, 3, 0, 0, 0) ∈ kX6_hours := List.mem_of_getElem? (i := 7) rfl
theorem eX6_hours_16 : (16, Instr.invokestatic 102, 3, 78, 3, 683) ∈ kX6_hours := List.mem_of_getElem? (i := 8) rfl
theorem eX6_hours_19 : (19, Instr.ifCond .eq 8, 3, 27, 0, 0) ∈ kX6_hours := List.mem_of_getElem? (i := 9) rfl
theorem eX6_hours_22 : (22, Instr.iload_n 1, 1, 0, 0, 0) ∈ kX6_hours := List.mem_of_getElem? (i := 10) rfl
theorem eX6_hours_23 : (23, Instr.iload_n 2, 1, 0, 0, 0) ∈ kX6_hours := List.mem_of_getElem? (i := 11) rfl
theorem eX6_hours_24 : (24, Instr.if_icmp .lt 5, 3, 29, 0, 0) ∈ kX6_hours := List.mem_of_getElem? (i := 12) rfl
theorem eX6_hours_27 : (27, Instr.iconst 0, 1, 0, 0, 0) ∈ kX6_hours := List.mem_of_getElem? (i := 13) rfl
theorem eX6_hours_28 : (28, Instr.ireturn, 1, 1, 0, 0) ∈ kX6_hours := List.mem_of_getElem? (i := 14) rfl
theorem eX6_hours_29 : (29, Instr.aload_n 0, 1, 0, 0, 0) ∈ kX6_hours := List.mem_of_getElem? (i := 15) rfl
theorem eX6_hours_30 : (30, Instr.iload_n 1, 1, 0, 0, 0) ∈ kX6_hours := List.mem_of_getElem? (i := 16) rfl
theorem eX6_hours_31 : (31, Instr.putfield 99, 3, 6, 1, 570) ∈ kX6_hours := List.mem_of_getElem? (i := 17) rfl
theorem eX6_hours_34 : (34, Instr.aload_n 0, 1, 0, 0, 0) ∈ kX6_hours := List.mem_of_getElem? (i := 18) rfl
theorem eX6_hours_35 : (35, Instr.iload_n 2, 1, 0, 0, 0) ∈ kX6_hours := List.mem_of_getElem? (i := 19) rfl
theorem eX6_hours_36 : (36, Instr.putfield 7, 3, 6, 2, 571) ∈ kX6_hours := List.mem_of_getElem? (i := 20) rfl
theorem eX6_hours_39 : (39, Instr.iconst 1, 1, 0, 0, 0) ∈ kX6_hours := List.mem_of_getElem? (i := 21) rfl
theorem eX6_hours_40 : (40, Instr.ireturn, 1, 1, 0, 0) ∈ kX6_hours := List.mem_of_getElem? (i := 22) rfl
theorem aX6_clock : am_m nX6_clock = mX6_clock := rfl
theorem eX6_clock_0 : (0, Instr.iload_n 1, 1, 0, 0, 0) ∈ kX6_clock := List.mem_of_getElem? (i := 0) rfl
theorem eX6_clock_1 : (1, Instr.iconst 1, 1, 0, 0, 0) ∈ kX6_clock := List.mem_of_getElem? (i := 1) rfl
theorem eX6_clock_2 : (2, Instr.if_icmp .lt 14, 3, 16, 0, 0) ∈ kX6_clock := List.mem_of_getElem? (i := 2) rfl
theorem eX6_clock_5 : (5, Instr.iload_n 1, 1, 0, 0, 0) ∈ kX6_clock := List.mem_of_getElem? (i := 3) rfl
theorem eX6_clock_6 : (6, Instr.ldc 106, 2, 100000, 0, 690) ∈ kX6_clock := List.mem_of_getElem? (i := 4) rfl
theorem eX6_clock_8 : (8, Instr.aload_n 0, 1, 0, 0, 0) ∈ kX6_clock := List.mem_of_getElem? (i := 5) rfl
theorem eX6_clock_9 : (9, Instr.getfield 96, 3, 6, 0, 569) ∈ kX6_clock := List.mem_of_getElem? (i := 6) rfl
theorem eX6_clock_12 : (12, Instr.isub, 1, 0, 0, 0) ∈ kX6_clock := List.mem_of_getElem? (i := 7) rfl
theorem eX6_clock_13 : (13, Instr.if_icmp .le 5, 3, 18, 0, 0) ∈ kX6_clock := List.mem_of_getElem? (i := 8) rfl
theorem eX6_clock_16 : (16, Instr.iconst (-1), 1, 0, 0, 0) ∈ kX6_clock := List.mem_of_getElem? (i := 9) rfl
theorem eX6_clock_17 : (17, Instr.ireturn, 1, 0, 0, 0) ∈ kX6_clock := List.mem_of_getElem? (i := 10) rfl
theorem eX6_clock_18 : (18, Instr.aload_n 0, 1, 0, 0, 0) ∈ kX6_clock := List.mem_of_getElem? (i := 11) rfl
theorem eX6_clock_19 : (19, Instr.dup, 1, 0, 0, 0) ∈ kX6_clock := List.mem_of_getElem? (i := 12) rfl
theorem eX6_clock_20 : (20, Instr.getfield 96, 3, 6, 0, 569) ∈ kX6_clock := List.mem_of_getElem? (i := 13) rfl
theorem eX6_clock_23 : (23, Instr.iload_n 1, 1, 0, 0, 0) ∈ kX6_clock := List.mem_of_getElem? (i := 14) rfl
theorem eX6_clock_24 : (24, Instr.iadd, 1, 0, 0, 0) ∈ kX6_clock := List.mem_of_getElem? (i := 15) rfl
theorem eX6_clock_25 : (25, Instr.putfield 96, 3, 6, 0, 569) ∈ kX6_clock := List.mem_of_getElem? (i := 16) rfl
theorem eX6_clock_28 : (28, Instr.iconst 0, 1, 0, 0, 0) ∈ kX6_clock := List.mem_of_getElem? (i := 17) rfl
theorem eX6_clock_29 : (29, Instr.istore_n 2, 1, 0, 0, 0) ∈ kX6_clock := List.mem_of_getElem? (i := 18) rfl
theorem eX6_clock_30 : (30, Instr.iload_n 2, 1, 0, 0, 0) ∈ kX6_clock := List.mem_of_getElem? (i := 19) rfl
theorem eX6_clock_31 : (31, Instr.aload_n 0, 1, 0, 0, 0) ∈ kX6_clock := List.mem_of_getElem? (i := 20) rfl
theorem eX6_clock_32 : (32, Instr.getfield 107, 3, 6, 12, 581) ∈ kX6_clock := List.mem_of_getElem? (i := 21) rfl
theorem eX6_clock_35 : (35, Instr.if_icmp .ge 71, 3, 106, 0, 0) ∈ kX6_clock := List.mem_of_getElem? (i := 22) rfl
theorem eX6_clock_38 : (38, Instr.aload_n 0, 1, 0, 0, 0) ∈ kX6_clock := List.mem_of_getElem? (i := 23) rfl
theorem eX6_clock_39 : (39, Instr.getfield 60, 3, 6, 23, 592) ∈ kX6_clock := List.mem_of_getElem? (i := 24) rfl
theorem eX6_clock_42 : (42, Instr.iload_n 2, 1, 0, 0, 0) ∈ kX6_clock := List.mem_of_getElem? (i := 25) rfl
theorem eX6_clock_43 : (43, Instr.iaload, 1, 0, 0, 0) ∈ kX6_clock := List.mem_of_getElem? (i := 26) rfl
theorem eX6_clock_44 : (44, Instr.iconst 2, 1, 0, 0, 0) ∈ kX6_clock := List.mem_of_getElem? (i := 27) rfl
theorem eX6_clock_45 : (45, Instr.if_icmp .ne 55, 3, 100, 0, 0) ∈ kX6_clock := List.mem_of_getElem? (i := 28) rfl
theorem eX6_clock_48 : (48, Instr.aload_n 0, 1, 0, 0, 0) ∈ kX6_clock := List.mem_of_getElem? (i := 29) rfl
theorem eX6_clock_49 : (49, Instr.getfield 96, 3, 6, 0, 569) ∈ kX6_clock := List.mem_of_getElem? (i := 30) rfl
theorem eX6_clock_52 : (52, Instr.sipush 1440, 3, 0, 0, 0) ∈ kX6_clock := List.mem_of_getElem? (i := 31) rfl
theorem eX6_clock_55 : (55, Instr.idiv, 1, 0, 0, 0) ∈ kX6_clock := List.mem_of_getElem? (i := 32) rfl
theorem eX6_clock_56 : (56, Instr.aload_n 0, 1, 0, 0, 0) ∈ kX6_clock := List.mem_of_getElem? (i := 33) rfl
theorem eX6_clock_57 : (57, Instr.getfield 69, 3, 6, 26, 595) ∈ kX6_clock := List.mem_of_getElem? (i := 34) rfl
theorem eX6_clock_60 : (60, Instr.iload_n 2, 1, 0, 0, 0) ∈ kX6_clock := List.mem_of_getElem? (i := 35) rfl
theorem eX6_clock_61 : (61, Instr.iaload, 1, 0, 0, 0) ∈ kX6_clock := List.mem_of_getElem? (i := 36) rfl
theorem eX6_clock_62 : (62, Instr.isub, 1, 0, 0, 0) ∈ kX6_clock := List.mem_of_getElem? (i := 37) rfl
theorem eX6_clock_63 : (63, Instr.bipush 30, 2, 0, 0, 0) ∈ kX6_clock := List.mem_of_getElem? (i := 38) rfl
theorem eX6_clock_65 : (65, Instr.if_icmp .gt 6, 3, 71, 0, 0) ∈ kX6_clock := List.mem_of_getElem? (i := 39) rfl
theorem eX6_clock_68 : (68, Instr.goto 32, 3, 100, 0, 0) ∈ kX6_clock := List.mem_of_getElem? (i := 40) rfl
theorem eX6_clock_71 : (71, Instr.aload_n 0, 1, 0, 0, 0) ∈ kX6_clock := List.mem_of_getElem? (i := 41) rfl
theorem eX6_clock_72 : (72, Instr.getfield 60, 3, 6, 23, 592) ∈ kX6_clock := List.mem_of_getElem? (i := 42) rfl
theorem eX6_clock_75 : (75, Instr.iload_n 2, 1, 0, 0, 0) ∈ kX6_clock := List.mem_of_getElem? (i := 43) rfl
theorem eX6_clock_76 : (76, Instr.iconst 4, 1, 0, 0, 0) ∈ kX6_clock := List.mem_of_getElem? (i := 44) rfl
theorem eX6_clock_77 : (77, Instr.iastore, 1, 0, 0, 0) ∈ kX6_clock := List.mem_of_getElem? (i := 45) rfl
theorem eX6_clock_78 : (78, Instr.aload_n 0, 1, 0, 0, 0) ∈ kX6_clock := List.mem_of_getElem? (i := 46) rfl
theorem eX6_clock_79 : (79, Instr.dup, 1, 0, 0, 0) ∈ kX6_clock := List.mem_of_getElem? (i := 47) rfl
theorem eX6_clock_80 : (80, Instr.getfield 110, 3, 6, 3, 572) ∈ kX6_clock := List.mem_of_getElem? (i := 48) rfl
theorem eX6_clock_83 : (83, Instr.aload_n 0, 1, 0, 0, 0) ∈ kX6_clock := List.mem_of_getElem? (i := 49) rfl
theorem eX6_clock_84 : (84, Instr.getfield 66, 3, 6, 25, 594) ∈ kX6_clock := List.mem_of_getElem? (i := 50) rfl
theorem eX6_clock_87 : (87, Instr.iload_n 2, 1, 0, 0, 0) ∈ kX6_clock := List.mem_of_getElem? (i := 51) rfl
theorem eX6_clock_88 : (88, Instr.iaload, 1, 0, 0, 0) ∈ kX6_clock := List.mem_of_getElem? (i := 52) rfl
theorem eX6_clock_89 : (89, Instr.iadd, 1, 0, 0, 0) ∈ kX6_clock := List.mem_of_getElem? (i := 53) rfl
theorem eX6_clock_90 : (90, Instr.putfield 110, 3, 6, 3, 572) ∈ kX6_clock := List.mem_of_getElem? (i := 54) rfl
theorem eX6_clock_93 : (93, Instr.aload_n 0, 1, 0, 0, 0) ∈ kX6_clock := List.mem_of_getElem? (i := 55) rfl
theorem eX6_clock_94 : (94, Instr.getfield 66, 3, 6, 25, 594) ∈ kX6_clock := List.mem_of_getElem? (i := 56) rfl
theorem eX6_clock_97 : (97, Instr.iload_n 2, 1, 0, 0, 0) ∈ kX6_clock := List.mem_of_getElem? (i := 57) rfl
theorem eX6_clock_98 : (98, Instr.iconst 0, 1, 0, 0, 0) ∈ kX6_clock := List.mem_of_getElem? (i := 58) rfl
theorem eX6_clock_99 : (99, Instr.iastore, 1, 0, 0, 0) ∈ kX6_clock := List.mem_of_getElem? (i := 59) rfl
theorem eX6_clock_100 : (100, Instr.iinc 2 1, 3, 0, 0, 0) ∈ kX6_clock := List.mem_of_getElem? (i := 60) rfl
theorem eX6_clock_103 : (103, Instr.goto (-73), 3, 30, 0, 0) ∈ kX6_clock := List.mem_of_getElem? (i := 61) rfl
theorem eX6_clock_106 : (106, Instr.aload_n 0, 1, 0, 0, 0) ∈ kX6_clock := List.mem_of_getElem? (i := 62) rfl
theorem eX6_clock_107 : (107, Instr.getfield 96, 3, 6, 0, 569) ∈ kX6_clock := List.mem_of_getElem? (i := 63) rfl
theorem eX6_clock_110 : (110, Instr.ireturn, 1, 0, 0, 0) ∈ kX6_clock := List.mem_of_getElem? (i := 64) rfl
theorem aX6_prices : am_m nX6_prices = mX6_prices := rfl
theorem eX6_prices_0 : (0, Instr.iload_n 1, 1, 0, 0, 0) ∈ kX6_prices := List.mem_of_getElem? (i := 0) rfl
theorem eX6_prices_1 : (1, Instr.ifCond .lt 80, 3, 81, 0, 0) ∈ kX6_prices := List.mem_of_getElem? (i := 1) rfl
theorem eX6_prices_4 : (4, Instr.aload_n 0, 1, 0, 0, 0) ∈ kX6_prices := List.mem_of_getElem? (i := 2) rfl
theorem eX6_prices_5 : (5, Instr.getfield 113, 3, 6, 5, 574) ∈ kX6_prices := List.mem_of_getElem? (i := 3) rfl
theorem eX6_prices_8 : (8, Instr.bipush 12, 2, 0, 0, 0) ∈ kX6_prices := List.mem_of_getElem? (i := 4) rfl
theorem eX6_prices_10 : (10, Instr.if_icmp .eq 71, 3, 81, 0, 0) ∈ kX6_prices := List.mem_of_getElem? (i := 5) rfl
theorem eX6_prices_13 : (13, Instr.aload_n 0, 1, 0, 0, 0) ∈ kX6_prices := List.mem_of_getElem? (i := 6) rfl
theorem eX6_prices_14 : (14, Instr.getfield 113, 3, 6, 5, 574) ∈ kX6_prices := List.mem_of_getElem? (i := 7) rfl
theorem eX6_prices_17 : (17, Instr.ifCond .le 18, 3, 35, 0, 0) ∈ kX6_prices := List.mem_of_getElem? (i := 8) rfl
theorem eX6_prices_20 : (20, Instr.iload_n 1, 1, 0, 0, 0) ∈ kX6_prices := List.mem_of_getElem? (i := 9) rfl
theorem eX6_prices_21 : (21, Instr.aload_n 0, 1, 0, 0, 0) ∈ kX6_prices := List.mem_of_getElem? (i := 10) rfl
theorem eX6_prices_22 : (22, Instr.getfield 13, 3, 6, 6, 575) ∈ kX6_prices := List.mem_of_getElem? (i := 11) rfl
theorem eX6_prices_25 : (25, Instr.aload_n 0, 1, 0, 0, 0) ∈ kX6_prices := List.mem_of_getElem? (i := 12) rfl
theorem eX6_prices_26 : (26, Instr.getfield 113, 3, 6, 5, 574) ∈ kX6_prices := List.mem_of_getElem? (i := 13) rfl
theorem eX6_prices_29 : (29, Instr.iconst 1, 1, 0, 0, 0) ∈ kX6_prices := List.mem_of_getElem? (i := 14) rfl
theorem eX6_prices_30 : (30, Instr.isub, 1, 0, 0, 0) ∈ kX6_prices := List.mem_of_getElem? (i := 15) rfl
theorem eX6_prices_31 : (31, Instr.iaload, 1, 0, 0, 0) ∈ kX6_prices := List.mem_of_getElem? (i := 16) rfl
theorem eX6_prices_32 : (32, Instr.if_icmp .le 49, 3, 81, 0, 0) ∈ kX6_prices := List.mem_of_getElem? (i := 17) rfl
theorem eX6_prices_35 : (35, Instr.iload_n 2, 1, 0, 0, 0) ∈ kX6_prices := List.mem_of_getElem? (i := 18) rfl
theorem eX6_prices_36 : (36, Instr.iconst 0, 1, 0, 0, 0) ∈ kX6_prices := List.mem_of_getElem? (i := 19) rfl
theorem eX6_prices_37 : (37, Instr.sipush 1000, 3, 0, 0, 0) ∈ kX6_prices := List.mem_of_getElem? (i := 20) rfl
theorem eX6_prices_40 : (40, Instr.invokestatic 102, 3, 78, 3, 683) ∈ kX6_prices := List.mem_of_getElem? (i := 21) rfl
theorem eX6_prices_43 : (43, Instr.ifCond .eq 38, 3, 81, 0, 0) ∈ kX6_prices := List.mem_of_getElem? (i := 22) rfl
theorem eX6_prices_46 : (46, Instr.iload_n 3, 1, 0, 0, 0) ∈ kX6_prices := List.mem_of_getElem? (i := 23) rfl
theorem eX6_prices_47 : (47, Instr.iconst 0, 1, 0, 0, 0) ∈ kX6_prices := List.mem_of_getElem? (i := 24) rfl
theorem eX6_prices_48 : (48, Instr.sipush 1000, 3, 0, 0, 0) ∈ kX6_prices := List.mem_of_getElem? (i := 25) rfl
theorem eX6_prices_51 : (51, Instr.invokestatic 102, 3, 78, 3, 683) ∈ kX6_prices := List.mem_of_getElem? (i := 26) rfl
theorem eX6_prices_54 : (54, Instr.ifCond .eq 27, 3, 81, 0, 0) ∈ kX6_prices := List.mem_of_getElem? (i := 27) rfl
theorem eX6_prices_57 : (57, Instr.iload 4, 2, 0, 0, 0) ∈ kX6_prices := List.mem_of_getElem? (i := 28) rfl
theorem eX6_prices_59 : (59, Instr.iconst 0, 1, 0, 0, 0) ∈ kX6_prices := List.mem_of_getElem? (i := 29) rfl
theorem eX6_prices_60 : (60, Instr.sipush 1000, 3, 0, 0, 0) ∈ kX6_prices := List.mem_of_getElem? (i := 30) rfl
theorem eX6_prices_63 : (63, Instr.invokestatic 102, 3, 78, 3, 683) ∈ kX6_prices := List.mem_of_getElem? (i := 31) rfl
theorem eX6_prices_66 : (66, Instr.ifCond .eq 15, 3, 81, 0, 0) ∈ kX6_prices := List.mem_of_getElem? (i := 32) rfl
theorem eX6_prices_69 : (69, Instr.iload 5, 2, 0, 0, 0) ∈ kX6_prices := List.mem_of_getElem? (i := 33) rfl
theorem eX6_prices_71 : (71, Instr.iconst 0, 1, 0, 0, 0) ∈ kX6_prices := List.mem_of_getElem? (i := 34) rfl
theorem eX6_prices_72 : (72, Instr.sipush 1000, 3, 0, 0, 0) ∈ kX6_prices := List.mem_of_getElem? (i := 35) rfl
theorem eX6_prices_75 : (75, Instr.invokestatic 102, 3, 78, 3, 683) ∈ kX6_prices := List.mem_of_getElem? (i := 36) rfl
theorem eX6_prices_78 : (78, Instr.ifCond .ne 5, 3, 83, 0, 0) ∈ kX6_prices := List.mem_of_getElem? (i := 37) rfl
theorem eX6_prices_81 : (81, Instr.iconst 0, 1, 0, 0, 0) ∈ kX6_prices := List.mem_of_getElem? (i := 38) rfl
theorem eX6_prices_82 : (82, Instr.ireturn, 1, 1, 0, 0) ∈ kX6_prices := List.mem_of_getElem? (i := 39) rfl
theorem eX6_prices_83 : (83, Instr.aload_n 0, 1, 0, 0, 0) ∈ kX6_prices := List.mem_of_getElem? (i := 40) rfl
theorem eX6_prices_84 : (84, Instr.getfield 13, 3, 6, 6, 575) ∈ kX6_prices := List.mem_of_getElem? (i := 41) rfl
theorem eX6_prices_87 : (87, Instr.aload_n 0, 1, 0, 0, 0) ∈ kX6_prices := List.mem_of_getElem? (i := 42) rfl
theorem eX6_prices_88 : (88, Instr.getfield 113, 3, 6, 5, 574) ∈ kX6_prices := List.mem_of_getElem? (i := 43) rfl
theorem eX6_prices_91 : (91, Instr.iload_n 1, 1, 0, 0, 0) ∈ kX6_prices := List.mem_of_getElem? (i := 44) rfl
theorem eX6_prices_92 : (92, Instr.iastore, 1, 0, 0, 0) ∈ kX6_prices := List.mem_of_getElem? (i := 45) rfl
theorem eX6_prices_93 : (93, Instr.aload_n 0, 1, 0, 0, 0) ∈ kX6_prices := List.mem_of_getElem? (i := 46) rfl
theorem eX6_prices_94 : (94, Instr.getfield 17, 3, 6, 7, 576) ∈ kX6_prices := List.mem_of_getElem? (i := 47) rfl
theorem eX6_prices_97 : (97, Instr.aload_n 0, 1, 0, 0, 0) ∈ kX6_prices := List.mem_of_getElem? (i := 48) rfl
theorem eX6_prices_98 : (98, Instr.getfield 113, 3, 6, 5, 574) ∈ kX6_prices := List.mem_of_getElem? (i := 49) rfl
theorem eX6_prices_101 : (101, Instr.iload_n 2, 1, 0, 0, 0) ∈ kX6_prices := List.mem_of_getElem? (i := 50) rfl
theorem eX6_prices_102 : (102, Instr.iastore, 1, 0, 0, 0) ∈ kX6_prices := List.mem_of_getElem? (i := 51) rfl
theorem eX6_prices_103 : (103, Instr.aload_n 0, 1, 0, 0, 0) ∈ kX6_prices := List.mem_of_getElem? (i := 52) rfl
theorem eX6_prices_104 : (104, Instr.getfield 20, 3, 6, 8, 577) ∈ kX6_prices := List.mem_of_getElem? (i := 53) rfl
theorem eX6_prices_107 : (107, Instr.aload_n 0, 1, 0, 0, 0) ∈ kX6_prices := List.mem_of_getElem? (i := 54) rfl
theorem eX6_prices_108 : (108, Instr.getfield 113, 3, 6, 5, 574) ∈ kX6_prices := List.mem_of_getElem? (i := 55) rfl
theorem eX6_prices_111 : (111, Instr.iload_n 3, 1, 0, 0, 0) ∈ kX6_prices := List.mem_of_getElem? (i := 56) rfl
theorem eX6_prices_112 : (112, Instr.iastore, 1, 0, 0, 0) ∈ kX6_prices := List.mem_of_getElem? (i := 57) rfl
theorem eX6_prices_113 : (113, Instr.aload_n 0, 1, 0, 0, 0) ∈ kX6_prices := List.mem_of_getElem? (i := 58) rfl
theorem eX6_prices_114 : (114, Instr.getfield 23, 3, 6, 9, 578) ∈ kX6_prices := List.mem_of_getElem? (i := 59) rfl
theorem eX6_prices_117 : (117, Instr.aload_n 0, 1, 0, 0, 0) ∈ kX6_prices := List.mem_of_getElem? (i := 60) rfl
theorem eX6_prices_118 : (118, Instr.getfield 113, 3, 6, 5, 574) ∈ kX6_prices := List.mem_of_getElem? (i := 61) rfl
theorem eX6_prices_121 : (121, Instr.iload 4, 2, 0, 0, 0) ∈ kX6_prices := List.mem_of_getElem? (i := 62) rfl
theorem eX6_prices_123 : (123, Instr.iastore, 1, 0, 0, 0) ∈ kX6_prices := List.mem_of_getElem? (i := 63) rfl
theorem eX6_prices_124 : (124, Instr.aload_n 0, 1, 0, 0, 0) ∈ kX6_prices := List.mem_of_getElem? (i := 64) rfl
theorem eX6_prices_125 : (125, Instr.getfield 26, 3, 6, 10, 579) ∈ kX6_prices := List.mem_of_getElem? (i := 65) rfl
theorem eX6_prices_128 : (128, Instr.aload_n 0, 1, 0, 0, 0) ∈ kX6_prices := List.mem_of_getElem? (i := 66) rfl
theorem eX6_prices_129 : (129, Instr.getfield 113, 3, 6, 5, 574) ∈ kX6_prices := List.mem_of_getElem? (i := 67) rfl
theorem eX6_prices_132 : (132, Instr.iload 5, 2, 0, 0, 0) ∈ kX6_prices := List.mem_of_getElem? (i := 68) rfl
theorem eX6_prices_134 : (134, Instr.iastore, 1, 0, 0, 0) ∈ kX6_prices := List.mem_of_getElem? (i := 69) rfl
theorem eX6_prices_135 : (135, Instr.aload_n 0, 1, 0, 0, 0) ∈ kX6_prices := List.mem_of_getElem? (i := 70) rfl
theorem eX6_prices_136 : (136, Instr.dup, 1, 0, 0, 0) ∈ kX6_prices := List.mem_of_getElem? (i := 71) rfl
theorem eX6_prices_137 : (137, Instr.getfield 113, 3, 6, 5, 574) ∈ kX6_prices := List.mem_of_getElem? (i := 72) rfl
theorem eX6_prices_140 : (140, Instr.iconst 1, 1, 0, 0, 0) ∈ kX6_prices := List.mem_of_getElem? (i := 73) rfl
theorem eX6_prices_141 : (141, Instr.iadd, 1, 0, 0, 0) ∈ kX6_prices := List.mem_of_getElem? (i := 74) rfl
theorem eX6_prices_142 : (142, Instr.putfield 113, 3, 6, 5, 574) ∈ kX6_prices := List.mem_of_getElem? (i := 75) rfl
theorem eX6_prices_145 : (145, Instr.iconst 1, 1, 0, 0, 0) ∈ kX6_prices := List.mem_of_getElem? (i := 76) rfl
theorem eX6_prices_146 : (146, Instr.ireturn, 1, 1, 0, 0) ∈ kX6_prices := List.mem_of_getElem? (i := 77) rfl
theorem aX6_rowOf : am_m nX6_rowOf = mX6_rowOf := rfl
theorem eX6_rowOf_0 : (0, Instr.iconst (-1), 1, 0, 0, 0) ∈ kX6_rowOf := List.mem_of_getElem? (i := 0) rfl
theorem eX6_rowOf_1 : (1, Instr.istore_n 2, 1, 0, 0, 0) ∈ kX6_rowOf := List.mem_of_getElem? (i := 1) rfl
theorem eX6_rowOf_2 : (2, Instr.iconst 0, 1, 0, 0, 0) ∈ kX6_rowOf := List.mem_of_getElem? (i := 2) rfl
theorem eX6_rowOf_3 : (3, Instr.istore_n 3, 1, 0, 0, 0) ∈ kX6_rowOf := List.mem_of_getElem? (i := 3) rfl
theorem eX6_rowOf_4 : (4, Instr.iload_n 3, 1, 0, 0, 0) ∈ kX6_rowOf := List.mem_of_getElem? (i := 4) rfl
theorem eX6_rowOf_5 : (5, Instr.aload_n 0, 1, 0, 0, 0) ∈ kX6_rowOf := List.mem_of_getElem? (i := 5) rfl
theorem eX6_rowOf_6 : (6, Instr.getfield 113, 3, 6, 5, 574) ∈ kX6_rowOf := List.mem_of_getElem? (i := 6) rfl
theorem eX6_rowOf_9 : (9, Instr.if_icmp .ge 21, 3, 30, 0, 0) ∈ kX6_rowOf := List.mem_of_getElem? (i := 7) rfl
theorem eX6_rowOf_12 : (12, Instr.aload_n 0, 1, 0, 0, 0) ∈ kX6_rowOf := List.mem_of_getElem? (i := 8) rfl
theorem eX6_rowOf_13 : (13, Instr.getfield 13, 3, 6, 6, 575) ∈ kX6_rowOf := List.mem_of_getElem? (i := 9) rfl
theorem eX6_rowOf_16 : (16, Instr.iload_n 3, 1, 0, 0, 0) ∈ kX6_rowOf := List.mem_of_getElem? (i := 10) rfl
theorem eX6_rowOf_17 : (17, Instr.iaload, 1, 0, 0, 0) ∈ kX6_rowOf := List.mem_of_getElem? (i := 11) rfl
theorem eX6_rowOf_18 : (18, Instr.iload_n 1, 1, 0, 0, 0) ∈ kX6_rowOf := List.mem_of_getElem? (i := 12) rfl
theorem eX6_rowOf_19 : (19, Instr.if_icmp .gt 5, 3, 24, 0, 0) ∈ kX6_rowOf := List.mem_of_getElem? (i := 13) rfl
theorem eX6_rowOf_22 : (22, Instr.iload_n 3, 1, 0, 0, 0) ∈ kX6_rowOf := List.mem_of_getElem? (i := 14) rfl
theorem eX6_rowOf_23 : (23, Instr.istore_n 2, 1, 0, 0, 0) ∈ kX6_rowOf := List.mem_of_getElem? (i := 15) rfl
theorem eX6_rowOf_24 : (24, Instr.iinc 3 1, 3, 0, 0, 0) ∈ kX6_rowOf := List.mem_of_getElem? (i := 16) rfl
theorem eX6_rowOf_27 : (27, Instr.goto (-23), 3, 4, 0, 0) ∈ kX6_rowOf := List.mem_of_getElem? (i := 17) rfl
theorem eX6_rowOf_30 : (30, Instr.iload_n 2, 1, 0, 0, 0) ∈ kX6_rowOf := List.mem_of_getElem? (i := 18) rfl
theorem eX6_rowOf_31 : (31, Instr.ireturn, 1, 0, 0, 0) ∈ kX6_rowOf := List.mem_of_getElem? (i := 19) rfl
theorem aX6_shelf : am_m nX6_shelf = mX6_shelf := rfl
theorem eX6_shelf_0 : (0, Instr.iload_n 1, 1, 0, 0, 0) ∈ kX6_shelf := List.mem_of_getElem? (i := 0) rfl
theorem eX6_shelf_1 : (1, Instr.iconst 1, 1, 0, 0, 0) ∈ kX6_shelf := List.mem_of_getElem? (i := 1) rfl
theorem eX6_shelf_2 : (2, Instr.bipush 60, 2, 0, 0, 0) ∈ kX6_shelf := List.mem_of_getElem? (i := 2) rfl
theorem eX6_shelf_4 : (4, Instr.invokestatic 102, 3, 78, 3, 683) ∈ kX6_shelf := List.mem_of_getElem? (i := 3) rfl
theorem eX6_shelf_7 : (7, Instr.ifCond .eq 32, 3, 39, 0, 0) ∈ kX6_shelf := List.mem_of_getElem? (i := 4) rfl
theorem eX6_shelf_10 : (10, Instr.iload_n 2, 1, 0, 0, 0) ∈ kX6_shelf := List.mem_of_getElem? (i := 5) rfl
theorem eX6_shelf_11 : (11, Instr.iconst 0, 1, 0, 0, 0) ∈ kX6_shelf := List.mem_of_getElem? (i := 6) rfl
theorem eX6_shelf_12 : (12, Instr.iconst 2, 1, 0, 0, 0) ∈ kX6_shelf := List.mem_of_getElem? (i := 7) rfl
theorem eX6_shelf_13 : (13, Instr.invokestatic 102, 3, 78, 3, 683) ∈ kX6_shelf := List.mem_of_getElem? (i := 8) rfl
theorem eX6_shelf_16 : (16, Instr.ifCond .eq 23, 3, 39, 0, 0) ∈ kX6_shelf := List.mem_of_getElem? (i := 9) rfl
theorem eX6_shelf_19 : (19, Instr.iload 4, 2, 0, 0, 0) ∈ kX6_shelf := List.mem_of_getElem? (i := 10) rfl
theorem eX6_shelf_21 : (21, Instr.iconst 1, 1, 0, 0, 0) ∈ kX6_shelf := List.mem_of_getElem? (i := 11) rfl
theorem eX6_shelf_22 : (22, Instr.bipush 99, 2, 0, 0, 0) ∈ kX6_shelf := List.mem_of_getElem? (i := 12) rfl
theorem eX6_shelf_24 : (24, Instr.invokestatic 102, 3, 78, 3, 683) ∈ kX6_shelf := List.mem_of_getElem? (i := 13) rfl
theorem eX6_shelf_27 : (27, Instr.ifCond .eq 12, 3, 39, 0, 0) ∈ kX6_shelf := List.mem_of_getElem? (i := 14) rfl
theorem eX6_shelf_30 : (30, Instr.aload_n 0, 1, 0, 0, 0) ∈ kX6_shelf := List.mem_of_getElem? (i := 15) rfl
theorem eX6_shelf_31 : (31, Instr.getfield 116, 3, 6, 11, 580) ∈ kX6_shelf := List.mem_of_getElem? (i := 16) rfl
theorem eX6_shelf_34 : (34, Instr.bipush 16, 2, 0, 0, 0) ∈ kX6_shelf := List.mem_of_getElem? (i := 17) rfl
theorem eX6_shelf_36 : (36, Instr.if_icmp .ne 5, 3, 41, 0, 0) ∈ kX6_shelf := List.mem_of_getElem? (i := 18) rfl
theorem eX6_shelf_39 : (39, Instr.iconst (-1), 1, 0, 0, 0) ∈ kX6_shelf := List.mem_of_getElem? (i := 19) rfl
theorem eX6_shelf_40 : (40, Instr.ireturn, 1, 0, 0, 0) ∈ kX6_shelf := List.mem_of_getElem? (i := 20) rfl
theorem eX6_shelf_41 : (41, Instr.aload_n 0, 1, 0, 0, 0) ∈ kX6_shelf := List.mem_of_getElem? (i := 21) rfl
theorem eX6_shelf_42 : (42, Instr.getfield 29, 3, 6, 13, 582) ∈ kX6_shelf := List.mem_of_getElem? (i := 22) rfl
theorem eX6_shelf_45 : (45, Instr.aload_n 0, 1, 0, 0, 0) ∈ kX6_shelf := List.mem_of_getElem? (i := 23) rfl
theorem eX6_shelf_46 : (46, Instr.getfield 116, 3, 6, 11, 580) ∈ kX6_shelf := List.mem_of_getElem? (i := 24) rfl
theorem eX6_shelf_49 : (49, Instr.iload_n 1, 1, 0, 0, 0) ∈ kX6_shelf := List.mem_of_getElem? (i := 25) rfl
theorem eX6_shelf_50 : (50, Instr.iastore, 1, 0, 0, 0) ∈ kX6_shelf := List.mem_of_getElem? (i := 26) rfl
theorem eX6_shelf_51 : (51, Instr.aload_n 0, 1, 0, 0, 0) ∈ kX6_shelf := List.mem_of_getElem? (i := 27) rfl
theorem eX6_shelf_52 : (52, Instr.getfield 32, 3, 6, 14, 583) ∈ kX6_shelf := List.mem_of_getElem? (i := 28) rfl
theorem eX6_shelf_55 : (55, Instr.aload_n 0, 1, 0, 0, 0) ∈ kX6_shelf := List.mem_of_getElem? (i := 29) rfl
theorem eX6_shelf_56 : (56, Instr.getfield 116, 3, 6, 11, 580) ∈ kX6_shelf := List.mem_of_getElem? (i := 30) rfl
theorem eX6_shelf_59 : (59, Instr.iload_n 2, 1, 0, 0, 0) ∈ kX6_shelf := List.mem_of_getElem? (i := 31) rfl
theorem eX6_shelf_60 : (60, Instr.iastore, 1, 0, 0, 0) ∈ kX6_shelf := List.mem_of_getElem? (i := 32) rfl
theorem eX6_shelf_61 : (61, Instr.aload_n 0, 1, 0, 0, 0) ∈ kX6_shelf := List.mem_of_getElem? (i := 33) rfl
theorem eX6_shelf_62 : (62, Instr.getfield 38, 3, 6, 16, 585) ∈ kX6_shelf := List.mem_of_getElem? (i := 34) rfl
theorem eX6_shelf_65 : (65, Instr.aload_n 0, 1, 0, 0, 0) ∈ kX6_shelf := List.mem_of_getElem? (i := 35) rfl
theorem eX6_shelf_66 : (66, Instr.getfield 116, 3, 6, 11, 580) ∈ kX6_shelf := List.mem_of_getElem? (i := 36) rfl
theorem eX6_shelf_69 : (69, Instr.iload_n 3, 1, 0, 0, 0) ∈ kX6_shelf := List.mem_of_getElem? (i := 37) rfl
theorem eX6_shelf_70 : (70, Instr.bastore, 1, 0, 0, 0) ∈ kX6_shelf := List.mem_of_getElem? (i := 38) rfl
theorem eX6_shelf_71 : (71, Instr.aload_n 0, 1, 0, 0, 0) ∈ kX6_shelf := List.mem_of_getElem? (i := 39) rfl
theorem eX6_shelf_72 : (72, Instr.getfield 35, 3, 6, 15, 584) ∈ kX6_shelf := List.mem_of_getElem? (i := 40) rfl
theorem eX6_shelf_75 : (75, Instr.aload_n 0, 1, 0, 0, 0) ∈ kX6_shelf := List.mem_of_getElem? (i := 41) rfl
theorem eX6_shelf_76 : (76, Instr.getfield 116, 3, 6, 11, 580) ∈ kX6_shelf := List.mem_of_getElem? (i := 42) rfl
theorem eX6_shelf_79 : (79, Instr.iload 4, 2, 0, 0, 0) ∈ kX6_shelf := List.mem_of_getElem? (i := 43) rfl
theorem eX6_shelf_81 : (81, Instr.iastore, 1, 0, 0, 0) ∈ kX6_shelf := List.mem_of_getElem? (i := 44) rfl
theorem eX6_shelf_82 : (82, Instr.aload_n 0, 1, 0, 0, 0) ∈ kX6_shelf := List.mem_of_getElem? (i := 45) rfl
theorem eX6_shelf_83 : (83, Instr.dup, 1, 0, 0, 0) ∈ kX6_shelf := List.mem_of_getElem? (i := 46) rfl
theorem eX6_shelf_84 : (84, Instr.getfield 116, 3, 6, 11, 580) ∈ kX6_shelf := List.mem_of_getElem? (i := 47) rfl
theorem eX6_shelf_87 : (87, Instr.iconst 1, 1, 0, 0, 0) ∈ kX6_shelf := List.mem_of_getElem? (i := 48) rfl
theorem eX6_shelf_88 : (88, Instr.iadd, 1, 0, 0, 0) ∈ kX6_shelf := List.mem_of_getElem? (i := 49) rfl
theorem eX6_shelf_89 : (89, Instr.putfield 116, 3, 6, 11, 580) ∈ kX6_shelf := List.mem_of_getElem? (i := 50) rfl
theorem eX6_shelf_92 : (92, Instr.aload_n 0, 1, 0, 0, 0) ∈ kX6_shelf := List.mem_of_getElem? (i := 51) rfl
theorem eX6_shelf_93 : (93, Instr.getfield 116, 3, 6, 11, 580) ∈ kX6_shelf := List.mem_of_getElem? (i := 52) rfl
theorem eX6_shelf_96 : (96, Instr.iconst 1, 1, 0, 0, 0) ∈ kX6_shelf := List.mem_of_getElem? (i := 53) rfl
theorem eX6_shelf_97 : (97, Instr.isub, 1, 0, 0, 0) ∈ kX6_shelf := List.mem_of_getElem? (i := 54) rfl
theorem eX6_shelf_98 : (98, Instr.ireturn, 1, 0, 0, 0) ∈ kX6_shelf := List.mem_of_getElem? (i := 55) rfl
theorem aX6_free : am_m nX6_free = mX6_free := rfl
theorem eX6_free_0 : (0, Instr.aload_n 0, 1, 0, 0, 0) ∈ kX6_free := List.mem_of_getElem? (i := 0) rfl
theorem eX6_free_1 : (1, Instr.getfield 29, 3, 6, 13, 582) ∈ kX6_free := List.mem_of_getElem? (i := 1) rfl
theorem eX6_free_4 : (4, Instr.iload_n 1, 1, 0, 0, 0) ∈ kX6_free := List.mem_of_getElem? (i := 2) rfl
theorem eX6_free_5 : (5, Instr.iaload, 1, 0, 0, 0) ∈ kX6_free := List.mem_of_getElem? (i := 3) rfl
theorem eX6_free_6 : (6, Instr.istore_n 2, 1, 0, 0, 0) ∈ kX6_free := List.mem_of_getElem? (i := 4) rfl
theorem eX6_free_7 : (7, Instr.iconst 0, 1, 0, 0, 0) ∈ kX6_free := List.mem_of_getElem? (i := 5) rfl
theorem eX6_free_8 : (8, Instr.istore_n 3, 1, 0, 0, 0) ∈ kX6_free := List.mem_of_getElem? (i := 6) rfl
theorem eX6_free_9 : (9, Instr.iload_n 3, 1, 0, 0, 0) ∈ kX6_free := List.mem_of_getElem? (i := 7) rfl
theorem eX6_free_10 : (10, Instr.aload_n 0, 1, 0, 0, 0) ∈ kX6_free := List.mem_of_getElem? (i := 8) rfl
theorem eX6_free_11 : (11, Instr.getfield 107, 3, 6, 12, 581) ∈ kX6_free := List.mem_of_getElem? (i := 9) rfl
theorem eX6_free_14 : (14, Instr.if_icmp .ge 37, 3, 51, 0, 0) ∈ kX6_free := List.mem_of_getElem? (i := 10) rfl
theorem eX6_free_17 : (17, Instr.aload_n 0, 1, 0, 0, 0) ∈ kX6_free := List.mem_of_getElem? (i := 11) rfl
theorem eX6_free_18 : (18, Instr.getfield 60, 3, 6, 23, 592) ∈ kX6_free := List.mem_of_getElem? (i := 12) rfl
theorem eX6_free_21 : (21, Instr.iload_n 3, 1, 0, 0, 0) ∈ kX6_free := List.mem_of_getElem? (i := 13) rfl
theorem eX6_free_22 : (22, Instr.iaload, 1, 0, 0, 0) ∈ kX6_free := List.mem_of_getElem? (i := 14) rfl
theorem eX6_free_23 : (23, Instr.ifCond .ne 22, 3, 45, 0, 0) ∈ kX6_free := List.mem_of_getElem? (i := 15) rfl
theorem eX6_free_26 : (26, Instr.aload_n 0, 1, 0, 0, 0) ∈ kX6_free := List.mem_of_getElem? (i := 16) rfl
theorem eX6_free_27 : (27, Instr.getfield 63, 3, 6, 24, 593) ∈ kX6_free := List.mem_of_getElem? (i := 17) rfl
theorem eX6_free_30 : (30, Instr.iload_n 3, 1, 0, 0, 0) ∈ kX6_free := List.mem_of_getElem? (i := 18) rfl
theorem eX6_free_31 : (31, Instr.iaload, 1, 0, 0, 0) ∈ kX6_free := List.mem_of_getElem? (i := 19) rfl
theorem eX6_free_32 : (32, Instr.iload_n 1, 1, 0, 0, 0) ∈ kX6_free := List.mem_of_getElem? (i := 20) rfl
theorem eX6_free_33 : (33, Instr.if_icmp .ne 12, 3, 45, 0, 0) ∈ kX6_free := List.mem_of_getElem? (i := 21) rfl
theorem eX6_free_36 : (36, Instr.iload_n 2, 1, 0, 0, 0) ∈ kX6_free := List.mem_of_getElem? (i := 22) rfl
theorem eX6_free_37 : (37, Instr.aload_n 0, 1, 0, 0, 0) ∈ kX6_free := List.mem_of_getElem? (i := 23) rfl
theorem eX6_free_38 : (38, Instr.getfield 45, 3, 6, 18, 587) ∈ kX6_free := List.mem_of_getElem? (i := 24) rfl
theorem eX6_free_41 : (41, Instr.iload_n 3, 1, 0, 0, 0) ∈ kX6_free := List.mem_of_getElem? (i := 25) rfl
theorem eX6_free_42 : (42, Instr.iaload, 1, 0, 0, 0) ∈ kX6_free := List.mem_of_getElem? (i := 26) rfl
theorem eX6_free_43 : (43, Instr.isub, 1, 0, 0, 0) ∈ kX6_free := List.mem_of_getElem? (i := 27) rfl
theorem eX6_free_44 : (44, Instr.istore_n 2, 1, 0, 0, 0) ∈ kX6_free := List.mem_of_getElem? (i := 28) rfl
theorem eX6_free_45 : (45, Instr.iinc 3 1, 3, 0, 0, 0) ∈ kX6_free := List.mem_of_getElem? (i := 29) rfl
theorem eX6_free_48 : (48, Instr.goto (-39), 3, 9, 0, 0) ∈ kX6_free := List.mem_of_getElem? (i := 30) rfl
theorem eX6_free_51 : (51, Instr.iload_n 2, 1, 0, 0, 0) ∈ kX6_free := List.mem_of_getElem? (i := 31) rfl
theorem eX6_free_52 : (52, Instr.ireturn, 1, 0, 0, 0) ∈ kX6_free := List.mem_of_getElem? (i := 32) rfl
theorem aX6_suits : am_m nX6_suits = mX6_suits := rfl
theorem eX6_suits_0 : (0, Instr.aload_n 0, 1, 0, 0, 0) ∈ kX6_suits := List.mem_of_getElem? (i := 0) rfl
theorem eX6_suits_1 : (1, Instr.getfield 42, 3, 6, 17, 586) ∈ kX6_suits := List.mem_of_getElem? (i := 1) rfl
theorem eX6_suits_4 : (4, Instr.iload_n 2, 1, 0, 0, 0) ∈ kX6_suits := List.mem_of_getElem? (i := 2) rfl
theorem eX6_suits_5 : (5, Instr.baload, 1, 0, 0, 0) ∈ kX6_suits := List.mem_of_getElem? (i := 3) rfl
theorem eX6_suits_6 : (6, Instr.ifCond .ne 37, 3, 43, 0, 0) ∈ kX6_suits := List.mem_of_getElem? (i := 4) rfl
theorem eX6_suits_9 : (9, Instr.aload_n 0, 1, 0, 0, 0) ∈ kX6_suits := List.mem_of_getElem? (i := 5) rfl
theorem eX6_suits_10 : (10, Instr.getfield 32, 3, 6, 14, 583) ∈ kX6_suits := List.mem_of_getElem? (i := 6) rfl
theorem eX6_suits_13 : (13, Instr.iload_n 2, 1, 0, 0, 0) ∈ kX6_suits := List.mem_of_getElem? (i := 7) rfl
theorem eX6_suits_14 : (14, Instr.iaload, 1, 0, 0, 0) ∈ kX6_suits := List.mem_of_getElem? (i := 8) rfl
theorem eX6_suits_15 : (15, Instr.aload_n 0, 1, 0, 0, 0) ∈ kX6_suits := List.mem_of_getElem? (i := 9) rfl
theorem eX6_suits_16 : (16, Instr.getfield 48, 3, 6, 19, 588) ∈ kX6_suits := List.mem_of_getElem? (i := 10) rfl
theorem eX6_suits_19 : (19, Instr.iload_n 1, 1, 0, 0, 0) ∈ kX6_suits := List.mem_of_getElem? (i := 11) rfl
theorem eX6_suits_20 : (20, Instr.iaload, 1, 0, 0, 0) ∈ kX6_suits := List.mem_of_getElem? (i := 12) rfl
theorem eX6_suits_21 : (21, Instr.if_icmp .lt 22, 3, 43, 0, 0) ∈ kX6_suits := List.mem_of_getElem? (i := 13) rfl
theorem eX6_suits_24 : (24, Instr.aload_n 0, 1, 0, 0, 0) ∈ kX6_suits := List.mem_of_getElem? (i := 14) rfl
theorem eX6_suits_25 : (25, Instr.getfield 38, 3, 6, 16, 585) ∈ kX6_suits := List.mem_of_getElem? (i := 15) rfl
theorem eX6_suits_28 : (28, Instr.iload_n 2, 1, 0, 0, 0) ∈ kX6_suits := List.mem_of_getElem? (i := 16) rfl
theorem eX6_suits_29 : (29, Instr.baload, 1, 0, 0, 0) ∈ kX6_suits := List.mem_of_getElem? (i := 17) rfl
theorem eX6_suits_30 : (30, Instr.aload_n 0, 1, 0, 0, 0) ∈ kX6_suits := List.mem_of_getElem? (i := 18) rfl
theorem eX6_suits_31 : (31, Instr.getfield 72, 3, 6, 27, 596) ∈ kX6_suits := List.mem_of_getElem? (i := 19) rfl
theorem eX6_suits_34 : (34, Instr.iload_n 1, 1, 0, 0, 0) ∈ kX6_suits := List.mem_of_getElem? (i := 20) rfl
theorem eX6_suits_35 : (35, Instr.baload, 1, 0, 0, 0) ∈ kX6_suits := List.mem_of_getElem? (i := 21) rfl
theorem eX6_suits_36 : (36, Instr.if_icmp .ne 7, 3, 43, 0, 0) ∈ kX6_suits := List.mem_of_getElem? (i := 22) rfl
theorem eX6_suits_39 : (39, Instr.iconst 1, 1, 0, 0, 0) ∈ kX6_suits := List.mem_of_getElem? (i := 23) rfl
theorem eX6_suits_40 : (40, Instr.goto 4, 3, 44, 0, 0) ∈ kX6_suits := List.mem_of_getElem? (i := 24) rfl
theorem eX6_suits_43 : (43, Instr.iconst 0, 1, 0, 0, 0) ∈ kX6_suits := List.mem_of_getElem? (i := 25) rfl
theorem eX6_suits_44 : (44, Instr.ireturn, 1, 1, 0, 0) ∈ kX6_suits := List.mem_of_getElem? (i := 26) rfl
theorem aX6_fits : am_m nX6_fits = mX6_fits := rfl
theorem eX6_fits_0 : (0, Instr.aload_n 0, 1, 0, 0, 0) ∈ kX6_fits := List.mem_of_getElem? (i := 0) rfl
theorem eX6_fits_1 : (1, Instr.iload_n 1, 1, 0, 0, 0) ∈ kX6_fits := List.mem_of_getElem? (i := 1) rfl
theorem eX6_fits_2 : (2, Instr.iload_n 2, 1, 0, 0, 0) ∈ kX6_fits := List.mem_of_getElem? (i := 2) rfl
theorem eX6_fits_3 : (3, Instr.invokevirtual 119, 3, 87, 2, 712) ∈ kX6_fits := List.mem_of_getElem? (i := 3) rfl
theorem eX6_fits_6 : (6, Instr.ifCond .eq 21, 3, 27, 0, 0) ∈ kX6_fits := List.mem_of_getElem? (i := 4) rfl
theorem eX6_fits_9 : (9, Instr.aload_n 0, 1, 0, 0, 0) ∈ kX6_fits := List.mem_of_getElem? (i := 5) rfl
theorem eX6_fits_10 : (10, Instr.iload_n 2, 1, 0, 0, 0) ∈ kX6_fits := List.mem_of_getElem? (i := 6) rfl
theorem eX6_fits_11 : (11, Instr.invokevirtual 123, 3, 86, 1, 716) ∈ kX6_fits := List.mem_of_getElem? (i := 7) rfl
theorem eX6_fits_14 : (14, Instr.aload_n 0, 1, 0, 0, 0) ∈ kX6_fits := List.mem_of_getElem? (i := 8) rfl
theorem eX6_fits_15 : (15, Instr.getfield 45, 3, 6, 18, 587) ∈ kX6_fits := List.mem_of_getElem? (i := 9) rfl
theorem eX6_fits_18 : (18, Instr.iload_n 1, 1, 0, 0, 0) ∈ kX6_fits := List.mem_of_getElem? (i := 10) rfl
theorem eX6_fits_19 : (19, Instr.iaload, 1, 0, 0, 0) ∈ kX6_fits := List.mem_of_getElem? (i := 11) rfl
theorem eX6_fits_20 : (20, Instr.if_icmp .lt 7, 3, 27, 0, 0) ∈ kX6_fits := List.mem_of_getElem? (i := 12) rfl
theorem eX6_fits_23 : (23, Instr.iconst 1, 1, 0, 0, 0) ∈ kX6_fits := List.mem_of_getElem? (i := 13) rfl
theorem eX6_fits_24 : (24, Instr.goto 4, 3, 28, 0, 0) ∈ kX6_fits := List.mem_of_getElem? (i := 14) rfl
theorem eX6_fits_27 : (27, Instr.iconst 0, 1, 0, 0, 0) ∈ kX6_fits := List.mem_of_getElem? (i := 15) rfl
theorem eX6_fits_28 : (28, Instr.ireturn, 1, 1, 0, 0) ∈ kX6_fits := List.mem_of_getElem? (i := 16) rfl
theorem aX6_wanted : am_m nX6_wanted = mX6_wanted := rfl
theorem eX6_wanted_0 : (0, Instr.aload_n 0, 1, 0, 0, 0) ∈ kX6_wanted := List.mem_of_getElem? (i := 0) rfl
theorem eX6_wanted_1 : (1, Instr.getfield 54, 3, 6, 21, 590) ∈ kX6_wanted := List.mem_of_getElem? (i := 1) rfl
theorem eX6_wanted_4 : (4, Instr.iload_n 1, 1, 0, 0, 0) ∈ kX6_wanted := List.mem_of_getElem? (i := 2) rfl
theorem eX6_wanted_5 : (5, Instr.iaload, 1, 0, 0, 0) ∈ kX6_wanted := List.mem_of_getElem? (i := 3) rfl
theorem eX6_wanted_6 : (6, Instr.aload_n 0, 1, 0, 0, 0) ∈ kX6_wanted := List.mem_of_getElem? (i := 4) rfl
theorem eX6_wanted_7 : (7, Instr.getfield 96, 3, 6, 0, 569) ∈ kX6_wanted := List.mem_of_getElem? (i := 5) rfl
theorem eX6_wanted_10 : (10, Instr.if_icmp .le 20, 3, 30, 0, 0) ∈ kX6_wanted := List.mem_of_getElem? (i := 6) rfl
theorem eX6_wanted_13 : (13, Instr.aload_n 0, 1, 0, 0, 0) ∈ kX6_wanted := List.mem_of_getElem? (i := 7) rfl
theorem eX6_wanted_14 : (14, Instr.getfield 54, 3, 6, 21, 590) ∈ kX6_wanted := List.mem_of_getElem? (i := 8) rfl
theorem eX6_wanted_17 : (17, Instr.iload_n 1, 1, 0, 0, 0) ∈ kX6_wanted := List.mem_of_getElem? (i := 9) rfl
theorem eX6_wanted_18 : (18, Instr.iaload, 1, 0, 0, 0) ∈ kX6_wanted := List.mem_of_getElem? (i := 10) rfl
theorem eX6_wanted_19 : (19, Instr.aload_n 0, 1, 0, 0, 0) ∈ kX6_wanted := List.mem_of_getElem? (i := 11) rfl
theorem eX6_wanted_20 : (20, Instr.getfield 96, 3, 6, 0, 569) ∈ kX6_wanted := List.mem_of_getElem? (i := 12) rfl
theorem eX6_wanted_23 : (23, Instr.isub, 1, 0, 0, 0) ∈ kX6_wanted := List.mem_of_getElem? (i := 13) rfl
theorem eX6_wanted_24 : (24, Instr.bipush 60, 2, 0, 0, 0) ∈ kX6_wanted := List.mem_of_getElem? (i := 14) rfl
theorem eX6_wanted_26 : (26, Instr.idiv, 1, 0, 0, 0) ∈ kX6_wanted := List.mem_of_getElem? (i := 15) rfl
theorem eX6_wanted_27 : (27, Instr.goto 4, 3, 31, 0, 0) ∈ kX6_wanted := List.mem_of_getElem? (i := 16) rfl
theorem eX6_wanted_30 : (30, Instr.iconst 0, 1, 0, 0, 0) ∈ kX6_wanted := List.mem_of_getElem? (i := 17) rfl
theorem eX6_wanted_31 : (31, Instr.istore_n 2, 1, 0, 0, 0) ∈ kX6_wanted := List.mem_of_getElem? (i := 18) rfl
theorem eX6_wanted_32 : (32, Instr.iload_n 2, 1, 0, 0, 0) ∈ kX6_wanted := List.mem_of_getElem? (i := 19) rfl
theorem eX6_wanted_33 : (33, Instr.bipush 98, 2, 0, 0, 0) ∈ kX6_wanted := List.mem_of_getElem? (i := 20) rfl
theorem eX6_wanted_35 : (35, Instr.if_icmp .le 8, 3, 43, 0, 0) ∈ kX6_wanted := List.mem_of_getElem? (i := 21) rfl
theorem eX6_wanted_38 : (38, Instr.bipush 99, 2, 0, 0, 0) ∈ kX6_wanted := List.mem_of_getElem? (i := 22) rfl
theorem eX6_wanted_40 : (40, Instr.goto 6, 3, 46, 0, 0) ∈ kX6_wanted := List.mem_of_getElem? (i := 23) rfl
theorem eX6_wanted_43 : (43, Instr.iconst 1, 1, 0, 0, 0) ∈ kX6_wanted := List.mem_of_getElem? (i := 24) rfl
theorem eX6_wanted_44 : (44, Instr.iload_n 2, 1, 0, 0, 0) ∈ kX6_wanted := List.mem_of_getElem? (i := 25) rfl
theorem eX6_wanted_45 : (45, Instr.iadd, 1, 0, 0, 0) ∈ kX6_wanted := List.mem_of_getElem? (i := 26) rfl
theorem eX6_wanted_46 : (46, Instr.ireturn, 1, 0, 0, 0) ∈ kX6_wanted := List.mem_of_getElem? (i := 27) rfl
theorem aX6_misfitOn : am_m nX6_misfitOn = mX6_misfitOn := rfl
theorem eX6_misfitOn_0 : (0, Instr.aload_n 0, 1, 0, 0, 0) ∈ kX6_misfitOn := List.mem_of_getElem? (i := 0) rfl
theorem eX6_misfitOn_1 : (1, Instr.getfield 35, 3, 6, 15, 584) ∈ kX6_misfitOn := List.mem_of_getElem? (i := 1) rfl
theorem eX6_misfitOn_4 : (4, Instr.iload_n 2, 1, 0, 0, 0) ∈ kX6_misfitOn := List.mem_of_getElem? (i := 2) rfl
theorem eX6_misfitOn_5 : (5, Instr.iaload, 1, 0, 0, 0) ∈ kX6_misfitOn := List.mem_of_getElem? (i := 3) rfl
theorem eX6_misfitOn_6 : (6, Instr.aload_n 0, 1, 0, 0, 0) ∈ kX6_misfitOn := List.mem_of_getElem? (i := 4) rfl
theorem eX6_misfitOn_7 : (7, Instr.iload_n 1, 1, 0, 0, 0) ∈ kX6_misfitOn := List.mem_of_getElem? (i := 5) rfl
theorem eX6_misfitOn_8 : (8, Instr.invokevirtual 127, 3, 89, 1, 724) ∈ kX6_misfitOn := List.mem_of_getElem? (i := 6) rfl
theorem eX6_misfitOn_11 : (11, Instr.invokestatic 130, 3, 79, 2, 728) ∈ kX6_misfitOn := List.mem_of_getElem? (i := 7) rfl
theorem eX6_misfitOn_14 : (14, Instr.ireturn, 1, 0, 0, 0) ∈ kX6_misfitOn := List.mem_of_getElem? (i := 8) rfl
theorem aX6_ticketOf : am_m nX6_ticketOf = mX6_ticketOf := rfl
theorem eX6_ticketOf_0 : (0, Instr.bipush 100, 2, 0, 0, 0) ∈ kX6_ticketOf := List.mem_of_getElem? (i := 0) rfl
theorem eX6_ticketOf_2 : (2, Instr.iload_n 0, 1, 0, 0, 0) ∈ kX6_ticketOf := List.mem_of_getElem? (i := 1) rfl
theorem eX6_ticketOf_3 : (3, Instr.imul, 1, 0, 0, 0) ∈ kX6_ticketOf := List.mem_of_getElem? (i := 2) rfl
theorem eX6_ticketOf_4 : (4, Instr.bipush 37, 2, 0, 0, 0) ∈ kX6_ticketOf := List.mem_of_getElem? (i := 3) rfl
theorem eX6_ticketOf_6 : (6, Instr.iload_n 0, 1, 0, 0, 0) ∈ kX6_ticketOf := List.mem_of_getElem? (i := 4) rfl
theorem eX6_ticketOf_7 : (7, Instr.imul, 1, 0, 0, 0) ∈ kX6_ticketOf := List.mem_of_getElem? (i := 5) rfl
theorem eX6_ticketOf_8 : (8, Instr.bipush 11, 2, 0, 0, 0) ∈ kX6_ticketOf := List.mem_of_getElem? (i := 6) rfl
theorem eX6_ticketOf_10 : (10, Instr.iadd, 1, 0, 0, 0) ∈ kX6_ticketOf := List.mem_of_getElem? (i := 7) rfl
theorem eX6_ticketOf_11 : (11, Instr.bipush 97, 2, 0, 0, 0) ∈ kX6_ticketOf := List.mem_of_getElem? (i := 8) rfl
theorem eX6_ticketOf_13 : (13, Instr.irem, 1, 0, 0, 0) ∈ kX6_ticketOf := List.mem_of_getElem? (i := 9) rfl
theorem eX6_ticketOf_14 : (14, Instr.iadd, 1, 0, 0, 0) ∈ kX6_ticketOf := List.mem_of_getElem? (i := 10) rfl
theorem eX6_ticketOf_15 : (15, Instr.ireturn, 1, 0, 0, 0) ∈ kX6_ticketOf := List.mem_of_getElem? (i := 11) rfl
theorem aX6_put : am_m nX6_put = mX6_put := rfl
theorem eX6_put_0 : (0, Instr.iload_n 1, 1, 0, 0, 0) ∈ kX6_put := List.mem_of_getElem? (i := 0) rfl
theorem eX6_put_1 : (1, Instr.iconst 1, 1, 0, 0, 0) ∈ kX6_put := List.mem_of_getElem? (i := 1) rfl
theorem eX6_put_2 : (2, Instr.bipush 20, 2, 0, 0, 0) ∈ kX6_put := List.mem_of_getElem? (i := 2) rfl
theorem eX6_put_4 : (4, Instr.invokestatic 102, 3, 78, 3, 683) ∈ kX6_put := List.mem_of_getElem? (i := 3) rfl
theorem eX6_put_7 : (7, Instr.ifCond .eq 34, 3, 41, 0, 0) ∈ kX6_put := List.mem_of_getElem? (i := 4) rfl
theorem eX6_put_10 : (10, Instr.iload_n 2, 1, 0, 0, 0) ∈ kX6_put := List.mem_of_getElem? (i := 5) rfl
theorem eX6_put_11 : (11, Instr.iconst 0, 1, 0, 0, 0) ∈ kX6_put := List.mem_of_getElem? (i := 6) rfl
theorem eX6_put_12 : (12, Instr.iconst 2, 1, 0, 0, 0) ∈ kX6_put := List.mem_of_getElem? (i := 7) rfl
theorem eX6_put_13 : (13, Instr.invokestatic 102, 3, 78, 3, 683) ∈ kX6_put := List.mem_of_getElem? (i := 8) rfl
theorem eX6_put_16 : (16, Instr.ifCond .eq 25, 3, 41, 0, 0) ∈ kX6_put := List.mem_of_getElem? (i := 9) rfl
theorem eX6_put_19 : (19, Instr.iload 5, 2, 0, 0, 0) ∈ kX6_put := List.mem_of_getElem? (i := 10) rfl
theorem eX6_put_21 : (21, Instr.iconst 0, 1, 0, 0, 0) ∈ kX6_put := List.mem_of_getElem? (i := 11) rfl
theorem eX6_put_22 : (22, Instr.ldc 134, 2, 65535, 0, 703) ∈ kX6_put := List.mem_of_getElem? (i := 12) rfl
theorem eX6_put_24 : (24, Instr.invokestatic 102, 3, 78, 3, 683) ∈ kX6_put := List.mem_of_getElem? (i := 13) rfl
theorem eX6_put_27 : (27, Instr.ifCond .eq 14, 3, 41, 0, 0) ∈ kX6_put := List.mem_of_getElem? (i := 14) rfl
theorem eX6_put_30 : (30, Instr.iload 6, 2, 0, 0, 0) ∈ kX6_put := List.mem_of_getElem? (i := 15) rfl
theorem eX6_put_32 : (32, Instr.iconst 0, 1, 0, 0, 0) ∈ kX6_put := List.mem_of_getElem? (i := 16) rfl
theorem eX6_put_33 : (33, Instr.ldc 106, 2, 100000, 0, 690) ∈ kX6_put := List.mem_of_getElem? (i := 17) rfl
theorem eX6_put_35 : (35, Instr.invokestatic 102, 3, 78, 3, 683) ∈ kX6_put := List.mem_of_getElem? (i := 18) rfl
theorem eX6_put_38 : (38, Instr.ifCond .ne 6, 3, 44, 0, 0) ∈ kX6_put := List.mem_of_getElem? (i := 19) rfl
theorem eX6_put_41 : (41, Instr.bipush (-2), 2, 0, 0, 0) ∈ kX6_put := List.mem_of_getElem? (i := 20) rfl
theorem eX6_put_43 : (43, Instr.ireturn, 1, 0, 0, 0) ∈ kX6_put := List.mem_of_getElem? (i := 21) rfl
theorem eX6_put_44 : (44, Instr.aload_n 0, 1, 0, 0, 0) ∈ kX6_put := List.mem_of_getElem? (i := 22) rfl
theorem eX6_put_45 : (45, Instr.invokevirtual 135, 3, 80, 0, 704) ∈ kX6_put := List.mem_of_getElem? (i := 23) rfl
theorem eX6_put_48 : (48, Instr.ifCond .ne 6, 3, 54, 0, 0) ∈ kX6_put := List.mem_of_getElem? (i := 24) rfl
theorem eX6_put_51 : (51, Instr.bipush (-3), 2, 0, 0, 0) ∈ kX6_put := List.mem_of_getElem? (i := 25) rfl
theorem eX6_put_53 : (53, Instr.ireturn, 1, 0, 0, 0) ∈ kX6_put := List.mem_of_getElem? (i := 26) rfl
theorem eX6_put_54 : (54, Instr.aload_n 0, 1, 0, 0, 0) ∈ kX6_put := List.mem_of_getElem? (i := 27) rfl
theorem eX6_put_55 : (55, Instr.getfield 107, 3, 6, 12, 581) ∈ kX6_put := List.mem_of_getElem? (i := 28) rfl
theorem eX6_put_58 : (58, Instr.bipush 120, 2, 0, 0, 0) ∈ kX6_put := List.mem_of_getElem? (i := 29) rfl
theorem eX6_put_60 : (60, Instr.if_icmp .ne 6, 3, 66, 0, 0) ∈ kX6_put := List.mem_of_getElem? (i := 30) rfl
theorem eX6_put_63 : (63, Instr.bipush (-4), 2, 0, 0, 0) ∈ kX6_put := List.mem_of_getElem? (i := 31) rfl
theorem eX6_put_65 : (65, Instr.ireturn, 1, 0, 0, 0) ∈ kX6_put := List.mem_of_getElem? (i := 32) rfl
theorem eX6_put_66 : (66, Instr.aload_n 0, 1, 0, 0, 0) ∈ kX6_put := List.mem_of_getElem? (i := 33) rfl
theorem eX6_put_67 : (67, Instr.getfield 107, 3, 6, 12, 581) ∈ kX6_put := List.mem_of_getElem? (i := 34) rfl
theorem eX6_put_70 : (70, Instr.istore 7, 2, 0, 0, 0) ∈ kX6_put := List.mem_of_getElem? (i := 35) rfl
theorem eX6_put_72 : (72, Instr.aload_n 0, 1, 0, 0, 0) ∈ kX6_put := List.mem_of_getElem? (i := 36) rfl
theorem eX6_put_73 : (73, Instr.getfield 45, 3, 6, 18, 587) ∈ kX6_put := List.mem_of_getElem? (i := 37) rfl
theorem eX6_put_76 : (76, Instr.iload 7, 2, 0, 0, 0) ∈ kX6_put := List.mem_of_getElem? (i := 38) rfl
theorem eX6_put_78 : (78, Instr.iload_n 1, 1, 0, 0, 0) ∈ kX6_put := List.mem_of_getElem? (i := 39) rfl
theorem eX6_put_79 : (79, Instr.iastore, 1, 0, 0, 0) ∈ kX6_put := List.mem_of_getElem? (i := 40) rfl
theorem eX6_put_80 : (80, Instr.aload_n 0, 1, 0, 0, 0) ∈ kX6_put := List.mem_of_getElem? (i := 41) rfl
theorem eX6_put_81 : (81, Instr.getfield 48, 3, 6, 19, 588) ∈ kX6_put := List.mem_of_getElem? (i := 42) rfl
theorem eX6_put_84 : (84, Instr.iload 7, 2, 0, 0, 0) ∈ kX6_put := List.mem_of_getElem? (i := 43) rfl
theorem eX6_put_86 : (86, Instr.iload_n 2, 1, 0, 0, 0) ∈ kX6_put := List.mem_of_getElem? (i := 44) rfl
theorem eX6_put_87 : (87, Instr.iastore, 1, 0, 0, 0) ∈ kX6_put := List.mem_of_getElem? (i := 45) rfl
theorem eX6_put_88 : (88, Instr.aload_n 0, 1, 0, 0, 0) ∈ kX6_put := List.mem_of_getElem? (i := 46) rfl
theorem eX6_put_89 : (89, Instr.getfield 72, 3, 6, 27, 596) ∈ kX6_put := List.mem_of_getElem? (i := 47) rfl
theorem eX6_put_92 : (92, Instr.iload 7, 2, 0, 0, 0) ∈ kX6_put := List.mem_of_getElem? (i := 48) rfl
theorem eX6_put_94 : (94, Instr.iload_n 3, 1, 0, 0, 0) ∈ kX6_put := List.mem_of_getElem? (i := 49) rfl
theorem eX6_put_95 : (95, Instr.bastore, 1, 0, 0, 0) ∈ kX6_put := List.mem_of_getElem? (i := 50) rfl
theorem eX6_put_96 : (96, Instr.aload_n 0, 1, 0, 0, 0) ∈ kX6_put := List.mem_of_getElem? (i := 51) rfl
theorem eX6_put_97 : (97, Instr.getfield 75, 3, 6, 28, 597) ∈ kX6_put := List.mem_of_getElem? (i := 52) rfl
theorem eX6_put_100 : (100, Instr.iload 7, 2, 0, 0, 0) ∈ kX6_put := List.mem_of_getElem? (i := 53) rfl
theorem eX6_put_102 : (102, Instr.iload 4, 2, 0, 0, 0) ∈ kX6_put := List.mem_of_getElem? (i := 54) rfl
theorem eX6_put_104 : (104, Instr.bastore, 1, 0, 0, 0) ∈ kX6_put := List.mem_of_getElem? (i := 55) rfl
theorem eX6_put_105 : (105, Instr.aload_n 0, 1, 0, 0, 0) ∈ kX6_put := List.mem_of_getElem? (i := 56) rfl
theorem eX6_put_106 : (106, Instr.getfield 51, 3, 6, 20, 589) ∈ kX6_put := List.mem_of_getElem? (i := 57) rfl
theorem eX6_put_109 : (109, Instr.iload 7, 2, 0, 0, 0) ∈ kX6_put := List.mem_of_getElem? (i := 58) rfl
theorem eX6_put_111 : (111, Instr.iload 5, 2, 0, 0, 0) ∈ kX6_put := List.mem_of_getElem? (i := 59) rfl
theorem eX6_put_113 : (113, Instr.iastore, 1, 0, 0, 0) ∈ kX6_put := List.mem_of_getElem? (i := 60) rfl
theorem eX6_put_114 : (114, Instr.aload_n 0, 1, 0, 0, 0) ∈ kX6_put := List.mem_of_getElem? (i := 61) rfl
theorem eX6_put_115 : (115, Instr.getfield 54, 3, 6, 21, 590) ∈ kX6_put := List.mem_of_getElem? (i := 62) rfl
theorem eX6_put_118 : (118, Instr.iload 7, 2, 0, 0, 0) ∈ kX6_put := List.mem_of_getElem? (i := 63) rfl
theorem eX6_put_120 : (120, Instr.iload 6, 2, 0, 0, 0) ∈ kX6_put := List.mem_of_getElem? (i := 64) rfl
theorem eX6_put_122 : (122, Instr.iastore, 1, 0, 0, 0) ∈ kX6_put := List.mem_of_getElem? (i := 65) rfl
theorem eX6_put_123 : (123, Instr.iconst (-1), 1, 0, 0, 0) ∈ kX6_put := List.mem_of_getElem? (i := 66) rfl
theorem eX6_put_124 : (124, Instr.istore 8, 2, 0, 0, 0) ∈ kX6_put := List.mem_of_getElem? (i := 67) rfl
theorem eX6_put_126 : (126, Instr.iconst 0, 1, 0, 0, 0) ∈ kX6_put := List.mem_of_getElem? (i := 68) rfl
theorem eX6_put_127 : (127, Instr.istore 9, 2, 0, 0, 0) ∈ kX6_put := List.mem_of_getElem? (i := 69) rfl
theorem eX6_put_129 : (129, Instr.iload 9, 2, 0, 0, 0) ∈ kX6_put := List.mem_of_getElem? (i := 70) rfl
theorem eX6_put_131 : (131, Instr.aload_n 0, 1, 0, 0, 0) ∈ kX6_put := List.mem_of_getElem? (i := 71) rfl
theorem eX6_put_132 : (132, Instr.getfield 116, 3, 6, 11, 580) ∈ kX6_put := List.mem_of_getElem? (i := 72) rfl
theorem eX6_put_135 : (135, Instr.if_icmp .ge 87, 3, 222, 0, 0) ∈ kX6_put := List.mem_of_getElem? (i := 73) rfl
theorem eX6_put_138 : (138, Instr.aload_n 0, 1, 0, 0, 0) ∈ kX6_put := List.mem_of_getElem? (i := 74) rfl
theorem eX6_put_139 : (139, Instr.iload 7, 2, 0, 0, 0) ∈ kX6_put := List.mem_of_getElem? (i := 75) rfl
theorem eX6_put_141 : (141, Instr.iload 9, 2, 0, 0, 0) ∈ kX6_put := List.mem_of_getElem? (i := 76) rfl
theorem eX6_put_143 : (143, Instr.invokevirtual 139, 3, 88, 2, 708) ∈ kX6_put := List.mem_of_getElem? (i := 77) rfl
theorem eX6_put_146 : (146, Instr.ifCond .ne 6, 3, 152, 0, 0) ∈ kX6_put := List.mem_of_getElem? (i := 78) rfl
theorem eX6_put_149 : (149, Instr.goto 67, 3, 216, 0, 0) ∈ kX6_put := List.mem_of_getElem? (i := 79) rfl
theorem eX6_put_152 : (152, Instr.iload 8, 2, 0, 0, 0) ∈ kX6_put := List.mem_of_getElem? (i := 80) rfl
theorem eX6_put_154 : (154, Instr.ifCond .lt 58, 3, 212, 0, 0) ∈ kX6_put := List.mem_of_getElem? (i := 81) rfl
theorem eX6_put_157 : (157, Instr.aload_n 0, 1, 0, 0, 0) ∈ kX6_put := List.mem_of_getElem? (i := 82) rfl
theorem eX6_put_158 : (158, Instr.iload 7, 2, 0, 0, 0) ∈ kX6_put := List.mem_of_getElem? (i := 83) rfl
theorem eX6_put_160 : (160, Instr.iload 9, 2, 0, 0, 0) ∈ kX6_put := List.mem_of_getElem? (i := 84) rfl
theorem eX6_put_162 : (162, Instr.invokevirtual 142, 3, 90, 2, 720) ∈ kX6_put := List.mem_of_getElem? (i := 85) rfl
theorem eX6_put_165 : (165, Instr.aload_n 0, 1, 0, 0, 0) ∈ kX6_put := List.mem_of_getElem? (i := 86) rfl
theorem eX6_put_166 : (166, Instr.iload 7, 2, 0, 0, 0) ∈ kX6_put := List.mem_of_getElem? (i := 87) rfl
theorem eX6_put_168 : (168, Instr.iload 8, 2, 0, 0, 0) ∈ kX6_put := List.mem_of_getElem? (i := 88) rfl
theorem eX6_put_170 : (170, Instr.invokevirtual 142, 3, 90, 2, 720) ∈ kX6_put := List.mem_of_getElem? (i := 89) rfl
theorem eX6_put_173 : (173, Instr.if_icmp .lt 39, 3, 212, 0, 0) ∈ kX6_put := List.mem_of_getElem? (i := 90) rfl
theorem eX6_put_176 : (176, Instr.aload_n 0, 1, 0, 0, 0) ∈ kX6_put := List.mem_of_getElem? (i := 91) rfl
theorem eX6_put_177 : (177, Instr.iload 7, 2, 0, 0, 0) ∈ kX6_put := List.mem_of_getElem? (i := 92) rfl
theorem eX6_put_179 : (179, Instr.iload 9, 2, 0, 0, 0) ∈ kX6_put := List.mem_of_getElem? (i := 93) rfl
theorem eX6_put_181 : (181, Instr.invokevirtual 142, 3, 90, 2, 720) ∈ kX6_put := List.mem_of_getElem? (i := 94) rfl
theorem eX6_put_184 : (184, Instr.aload_n 0, 1, 0, 0, 0) ∈ kX6_put := List.mem_of_getElem? (i := 95) rfl
theorem eX6_put_185 : (185, Instr.iload 7, 2, 0, 0, 0) ∈ kX6_put := List.mem_of_getElem? (i := 96) rfl
theorem eX6_put_187 : (187, Instr.iload 8, 2, 0, 0, 0) ∈ kX6_put := List.mem_of_getElem? (i := 97) rfl
theorem eX6_put_189 : (189, Instr.invokevirtual 142, 3, 90, 2, 720) ∈ kX6_put := List.mem_of_getElem? (i := 98) rfl
theorem eX6_put_192 : (192, Instr.if_icmp .ne 24, 3, 216, 0, 0) ∈ kX6_put := List.mem_of_getElem? (i := 99) rfl
theorem eX6_put_195 : (195, Instr.aload_n 0, 1, 0, 0, 0) ∈ kX6_put := List.mem_of_getElem? (i := 100) rfl
theorem eX6_put_196 : (196, Instr.getfield 35, 3, 6, 15, 584) ∈ kX6_put := List.mem_of_getElem? (i := 101) rfl
theorem eX6_put_199 : (199, Instr.iload 9, 2, 0, 0, 0) ∈ kX6_put := List.mem_of_getElem? (i := 102) rfl
theorem eX6_put_201 : (201, Instr.iaload, 1, 0, 0, 0) ∈ kX6_put := List.mem_of_getElem? (i := 103) rfl
theorem eX6_put_202 : (202, Instr.aload_n 0, 1, 0, 0, 0) ∈ kX6_put := List.mem_of_getElem? (i := 104) rfl
theorem eX6_put_203 : (203, Instr.getfield 35, 3, 6, 15, 584) ∈ kX6_put := List.mem_of_getElem? (i := 105) rfl
theorem eX6_put_206 : (206, Instr.iload 8, 2, 0, 0, 0) ∈ kX6_put := List.mem_of_getElem? (i := 106) rfl
theorem eX6_put_208 : (208, Instr.iaload, 1, 0, 0, 0) ∈ kX6_put := List.mem_of_getElem? (i := 107) rfl
theorem eX6_put_209 : (209, Instr.if_icmp .ge 7, 3, 216, 0, 0) ∈ kX6_put := List.mem_of_getElem? (i := 108) rfl
theorem eX6_put_212 : (212, Instr.iload 9, 2, 0, 0, 0) ∈ kX6_put := List.mem_of_getElem? (i := 109) rfl
theorem eX6_put_214 : (214, Instr.istore 8, 2, 0, 0, 0) ∈ kX6_put := List.mem_of_getElem? (i := 110) rfl
theorem eX6_put_216 : (216, Instr.iinc 9 1, 3, 0, 0, 0) ∈ kX6_put := List.mem_of_getElem? (i := 111) rfl
theorem eX6_put_219 : (219, Instr.goto (-90), 3, 129, 0, 0) ∈ kX6_put := List.mem_of_getElem? (i := 112) rfl
theorem eX6_put_222 : (222, Instr.iload 8, 2, 0, 0, 0) ∈ kX6_put := List.mem_of_getElem? (i := 113) rfl
theorem eX6_put_224 : (224, Instr.ifCond .ge 6, 3, 230, 0, 0) ∈ kX6_put := List.mem_of_getElem? (i := 114) rfl
theorem eX6_put_227 : (227, Instr.bipush (-5), 2, 0, 0, 0) ∈ kX6_put := List.mem_of_getElem? (i := 115) rfl
theorem eX6_put_229 : (229, Instr.ireturn, 1, 0, 0, 0) ∈ kX6_put := List.mem_of_getElem? (i := 116) rfl
theorem eX6_put_230 : (230, Instr.aload_n 0, 1, 0, 0, 0) ∈ kX6_put := List.mem_of_getElem? (i := 117) rfl
theorem eX6_put_231 : (231, Instr.getfield 57, 3, 6, 22, 591) ∈ kX6_put := List.mem_of_getElem? (i := 118) rfl
theorem eX6_put_234 : (234, Instr.iload 7, 2, 0, 0, 0) ∈ kX6_put := List.mem_of_getElem? (i := 119) rfl
theorem eX6_put_236 : (236, Instr.aload_n 0, 1, 0, 0, 0) ∈ kX6_put := List.mem_of_getElem? (i := 120) rfl
theorem eX6_put_237 : (237, Instr.getfield 96, 3, 6, 0, 569) ∈ kX6_put := List.mem_of_getElem? (i := 121) rfl
theorem eX6_put_240 : (240, Instr.iastore, 1, 0, 0, 0) ∈ kX6_put := List.mem_of_getElem? (i := 122) rfl
theorem eX6_put_241 : (241, Instr.aload_n 0, 1, 0, 0, 0) ∈ kX6_put := List.mem_of_getElem? (i := 123) rfl
theorem eX6_put_242 : (242, Instr.getfield 60, 3, 6, 23, 592) ∈ kX6_put := List.mem_of_getElem? (i := 124) rfl
theorem eX6_put_245 : (245, Instr.iload 7, 2, 0, 0, 0) ∈ kX6_put := List.mem_of_getElem? (i := 125) rfl
theorem eX6_put_247 : (247, Instr.iconst 0, 1, 0, 0, 0) ∈ kX6_put := List.mem_of_getElem? (i := 126) rfl
theorem eX6_put_248 : (248, Instr.iastore, 1, 0, 0, 0) ∈ kX6_put := List.mem_of_getElem? (i := 127) rfl
theorem eX6_put_249 : (249, Instr.aload_n 0, 1, 0, 0, 0) ∈ kX6_put := List.mem_of_getElem? (i := 128) rfl
theorem eX6_put_250 : (250, Instr.getfield 63, 3, 6, 24, 593) ∈ kX6_put := List.mem_of_getElem? (i := 129) rfl
theorem eX6_put_253 : (253, Instr.iload 7, 2, 0, 0, 0) ∈ kX6_put := List.mem_of_getElem? (i := 130) rfl
theorem eX6_put_255 : (255, Instr.iload 8, 2, 0, 0, 0) ∈ kX6_put := List.mem_of_getElem? (i := 131) rfl
theorem eX6_put_257 : (257, Instr.iastore, 1, 0, 0, 0) ∈ kX6_put := List.mem_of_getElem? (i := 132) rfl
theorem eX6_put_258 : (258, Instr.aload_n 0, 1, 0, 0, 0) ∈ kX6_put := List.mem_of_getElem? (i := 133) rfl
theorem eX6_put_259 : (259, Instr.getfield 66, 3, 6, 25, 594) ∈ kX6_put := List.mem_of_getElem? (i := 134) rfl
theorem eX6_put_262 : (262, Instr.iload 7, 2, 0, 0, 0) ∈ kX6_put := List.mem_of_getElem? (i := 135) rfl
theorem eX6_put_264 : (264, Instr.iconst 0, 1, 0, 0, 0) ∈ kX6_put := List.mem_of_getElem? (i := 136) rfl
theorem eX6_put_265 : (265, Instr.iastore, 1, 0, 0, 0) ∈ kX6_put := List.mem_of_getElem? (i := 137) rfl
theorem eX6_put_266 : (266, Instr.aload_n 0, 1, 0, 0, 0) ∈ kX6_put := List.mem_of_getElem? (i := 138) rfl
theorem eX6_put_267 : (267, Instr.getfield 69, 3, 6, 26, 595) ∈ kX6_put := List.mem_of_getElem? (i := 139) rfl
theorem eX6_put_270 : (270, Instr.iload 7, 2, 0, 0, 0) ∈ kX6_put := List.mem_of_getElem? (i := 140) rfl
theorem eX6_put_272 : (272, Instr.iconst (-1), 1, 0, 0, 0) ∈ kX6_put := List.mem_of_getElem? (i := 141) rfl
theorem eX6_put_273 : (273, Instr.iastore, 1, 0, 0, 0) ∈ kX6_put := List.mem_of_getElem? (i := 142) rfl
theorem eX6_put_274 : (274, Instr.aload_n 0, 1, 0, 0, 0) ∈ kX6_put := List.mem_of_getElem? (i := 143) rfl
theorem eX6_put_275 : (275, Instr.dup, 1, 0, 0, 0) ∈ kX6_put := List.mem_of_getElem? (i := 144) rfl
theorem eX6_put_276 : (276, Instr.getfield 107, 3, 6, 12, 581) ∈ kX6_put := List.mem_of_getElem? (i := 145) rfl
theorem eX6_put_279 : (279, Instr.iconst 1, 1, 0, 0, 0) ∈ kX6_put := List.mem_of_getElem? (i := 146) rfl
theorem eX6_put_280 : (280, Instr.iadd, 1, 0, 0, 0) ∈ kX6_put := List.mem_of_getElem? (i := 147) rfl
theorem eX6_put_281 : (281, Instr.putfield 107, 3, 6, 12, 581) ∈ kX6_put := List.mem_of_getElem? (i := 148) rfl
theorem eX6_put_284 : (284, Instr.aload_n 0, 1, 0, 0, 0) ∈ kX6_put := List.mem_of_getElem? (i := 149) rfl
theorem eX6_put_285 : (285, Instr.dup, 1, 0, 0, 0) ∈ kX6_put := List.mem_of_getElem? (i := 150) rfl
theorem eX6_put_286 : (286, Instr.getfield 145, 3, 6, 4, 573) ∈ kX6_put := List.mem_of_getElem? (i := 151) rfl
theorem eX6_put_289 : (289, Instr.iconst 2, 1, 0, 0, 0) ∈ kX6_put := List.mem_of_getElem? (i := 152) rfl
theorem eX6_put_290 : (290, Instr.aload_n 0, 1, 0, 0, 0) ∈ kX6_put := List.mem_of_getElem? (i := 153) rfl
theorem eX6_put_291 : (291, Instr.getfield 35, 3, 6, 15, 584) ∈ kX6_put := List.mem_of_getElem? (i := 154) rfl
theorem eX6_put_294 : (294, Instr.iload 8, 2, 0, 0, 0) ∈ kX6_put := List.mem_of_getElem? (i := 155) rfl
theorem eX6_put_296 : (296, Instr.iaload, 1, 0, 0, 0) ∈ kX6_put := List.mem_of_getElem? (i := 156) rfl
theorem eX6_put_297 : (297, Instr.imul, 1, 0, 0, 0) ∈ kX6_put := List.mem_of_getElem? (i := 157) rfl
theorem eX6_put_298 : (298, Instr.iadd, 1, 0, 0, 0) ∈ kX6_put := List.mem_of_getElem? (i := 158) rfl
theorem eX6_put_299 : (299, Instr.putfield 145, 3, 6, 4, 573) ∈ kX6_put := List.mem_of_getElem? (i := 159) rfl
theorem eX6_put_302 : (302, Instr.iload 7, 2, 0, 0, 0) ∈ kX6_put := List.mem_of_getElem? (i := 160) rfl
theorem eX6_put_304 : (304, Instr.invokestatic 148, 3, 91, 1, 731) ∈ kX6_put := List.mem_of_getElem? (i := 161) rfl
theorem eX6_put_307 : (307, Instr.ireturn, 1, 0, 0, 0) ∈ kX6_put := List.mem_of_getElem? (i := 162) rfl
theorem aX6_feeOf : am_m nX6_feeOf = mX6_feeOf := rfl
theorem eX6_feeOf_0 : (0, Instr.aload_n 0, 1, 0, 0, 0) ∈ kX6_feeOf := List.mem_of_getElem? (i := 0) rfl
theorem eX6_feeOf_1 : (1, Instr.getfield 57, 3, 6, 22, 591) ∈ kX6_feeOf := List.mem_of_getElem? (i := 1) rfl
theorem eX6_feeOf_4 : (4, Instr.iload_n 1, 1, 0, 0, 0) ∈ kX6_feeOf := List.mem_of_getElem? (i := 2) rfl
theorem eX6_feeOf_5 : (5, Instr.iaload, 1, 0, 0, 0) ∈ kX6_feeOf := List.mem_of_getElem? (i := 3) rfl
theorem eX6_feeOf_6 : (6, Instr.sipush 1440, 3, 0, 0, 0) ∈ kX6_feeOf := List.mem_of_getElem? (i := 4) rfl
theorem eX6_feeOf_9 : (9, Instr.idiv, 1, 0, 0, 0) ∈ kX6_feeOf := List.mem_of_getElem? (i := 5) rfl
theorem eX6_feeOf_10 : (10, Instr.istore_n 2, 1, 0, 0, 0) ∈ kX6_feeOf := List.mem_of_getElem? (i := 6) rfl
theorem eX6_feeOf_11 : (11, Instr.aload_n 0, 1, 0, 0, 0) ∈ kX6_feeOf := List.mem_of_getElem? (i := 7) rfl
theorem eX6_feeOf_12 : (12, Instr.getfield 69, 3, 6, 26, 595) ∈ kX6_feeOf := List.mem_of_getElem? (i := 8) rfl
theorem eX6_feeOf_15 : (15, Instr.iload_n 1, 1, 0, 0, 0) ∈ kX6_feeOf := List.mem_of_getElem? (i := 9) rfl
theorem eX6_feeOf_16 : (16, Instr.iaload, 1, 0, 0, 0) ∈ kX6_feeOf := List.mem_of_getElem? (i := 10) rfl
theorem eX6_feeOf_17 : (17, Instr.ifCond .lt 12, 3, 29, 0, 0) ∈ kX6_feeOf := List.mem_of_getElem? (i := 11) rfl
theorem eX6_feeOf_20 : (20, Instr.aload_n 0, 1, 0, 0, 0) ∈ kX6_feeOf := List.mem_of_getElem? (i := 12) rfl
theorem eX6_feeOf_21 : (21, Instr.getfield 69, 3, 6, 26, 595) ∈ kX6_feeOf := List.mem_of_getElem? (i := 13) rfl
theorem eX6_feeOf_24 : (24, Instr.iload_n 1, 1, 0, 0, 0) ∈ kX6_feeOf := List.mem_of_getElem? (i := 14) rfl
theorem eX6_feeOf_25 : (25, Instr.iaload, 1, 0, 0, 0) ∈ kX6_feeOf := List.mem_of_getElem? (i := 15) rfl
theorem eX6_feeOf_26 : (26, Instr.goto 11, 3, 37, 0, 0) ∈ kX6_feeOf := List.mem_of_getElem? (i := 16) rfl
theorem eX6_feeOf_29 : (29, Instr.aload_n 0, 1, 0, 0, 0) ∈ kX6_feeOf := List.mem_of_getElem? (i := 17) rfl
theorem eX6_feeOf_30 : (30, Instr.getfield 96, 3, 6, 0, 569) ∈ kX6_feeOf := List.mem_of_getElem? (i := 18) rfl
theorem eX6_feeOf_33 : (33, Instr.sipush 1440, 3, 0, 0, 0) ∈ kX6_feeOf := List.mem_of_getElem? (i := 19) rfl
theorem eX6_feeOf_36 : (36, Instr.idiv, 1, 0, 0, 0) ∈ kX6_feeOf := List.mem_of_getElem? (i := 20) rfl
theorem eX6_feeOf_37 : (37, Instr.istore_n 3, 1, 0, 0, 0) ∈ kX6_feeOf := List.mem_of_getElem? (i := 21) rfl
theorem eX6_feeOf_38 : (38, Instr.aload_n 0, 1, 0, 0, 0) ∈ kX6_feeOf := List.mem_of_getElem? (i := 22) rfl
theorem eX6_feeOf_39 : (39, Instr.iload_n 2, 1, 0, 0, 0) ∈ kX6_feeOf := List.mem_of_getElem? (i := 23) rfl
theorem eX6_feeOf_40 : (40, Instr.invokevirtual 151, 3, 84, 1, 746) ∈ kX6_feeOf := List.mem_of_getElem? (i := 24) rfl
theorem eX6_feeOf_43 : (43, Instr.ifCond .ge 7, 3, 50, 0, 0) ∈ kX6_feeOf := List.mem_of_getElem? (i := 25) rfl
theorem eX6_feeOf_46 : (46, Instr.iconst 0, 1, 0, 0, 0) ∈ kX6_feeOf := List.mem_of_getElem? (i := 26) rfl
theorem eX6_feeOf_47 : (47, Instr.goto 13, 3, 60, 0, 0) ∈ kX6_feeOf := List.mem_of_getElem? (i := 27) rfl
theorem eX6_feeOf_50 : (50, Instr.aload_n 0, 1, 0, 0, 0) ∈ kX6_feeOf := List.mem_of_getElem? (i := 28) rfl
theorem eX6_feeOf_51 : (51, Instr.getfield 17, 3, 6, 7, 576) ∈ kX6_feeOf := List.mem_of_getElem? (i := 29) rfl
theorem eX6_feeOf_54 : (54, Instr.aload_n 0, 1, 0, 0, 0) ∈ kX6_feeOf := List.mem_of_getElem? (i := 30) rfl
theorem eX6_feeOf_55 : (55, Instr.iload_n 2, 1, 0, 0, 0) ∈ kX6_feeOf := List.mem_of_getElem? (i := 31) rfl
theorem eX6_feeOf_56 : (56, Instr.invokevirtual 151, 3, 84, 1, 746) ∈ kX6_feeOf := List.mem_of_getElem? (i := 32) rfl
theorem eX6_feeOf_59 : (59, Instr.iaload, 1, 0, 0, 0) ∈ kX6_feeOf := List.mem_of_getElem? (i := 33) rfl
theorem eX6_feeOf_60 : (60, Instr.istore 4, 2, 0, 0, 0) ∈ kX6_feeOf := List.mem_of_getElem? (i := 34) rfl
theorem eX6_feeOf_62 : (62, Instr.iload_n 2, 1, 0, 0, 0) ∈ kX6_feeOf := List.mem_of_getElem? (i := 35) rfl
theorem eX6_feeOf_63 : (63, Instr.istore 5, 2, 0, 0, 0) ∈ kX6_feeOf := List.mem_of_getElem? (i := 36) rfl
theorem eX6_feeOf_65 : (65, Instr.iload 5, 2, 0, 0, 0) ∈ kX6_feeOf := List.mem_of_getElem? (i := 37) rfl
theorem eX6_feeOf_67 : (67, Instr.iload_n 3, 1, 0, 0, 0) ∈ kX6_feeOf := List.mem_of_getElem? (i := 38) rfl
theorem eX6_feeOf_68 : (68, Instr.if_icmp .gt 99, 3, 167, 0, 0) ∈ kX6_feeOf := List.mem_of_getElem? (i := 39) rfl
theorem eX6_feeOf_71 : (71, Instr.aload_n 0, 1, 0, 0, 0) ∈ kX6_feeOf := List.mem_of_getElem? (i := 40) rfl
theorem eX6_feeOf_72 : (72, Instr.iload 5, 2, 0, 0, 0) ∈ kX6_feeOf := List.mem_of_getElem? (i := 41) rfl
theorem eX6_feeOf_74 : (74, Instr.invokevirtual 151, 3, 84, 1, 746) ∈ kX6_feeOf := List.mem_of_getElem? (i := 42) rfl
theorem eX6_feeOf_77 : (77, Instr.istore 6, 2, 0, 0, 0) ∈ kX6_feeOf := List.mem_of_getElem? (i := 43) rfl
theorem eX6_feeOf_79 : (79, Instr.iload 6, 2, 0, 0, 0) ∈ kX6_feeOf := List.mem_of_getElem? (i := 44) rfl
theorem eX6_feeOf_81 : (81, Instr.ifCond .ge 6, 3, 87, 0, 0) ∈ kX6_feeOf := List.mem_of_getElem? (i := 45) rfl
theorem eX6_feeOf_84 : (84, Instr.goto 77, 3, 161, 0, 0) ∈ kX6_feeOf := List.mem_of_getElem? (i := 46) rfl
theorem eX6_feeOf_87 : (87, Instr.aload_n 0, 1, 0, 0, 0) ∈ kX6_feeOf := List.mem_of_getElem? (i := 47) rfl
theorem eX6_feeOf_88 : (88, Instr.getfield 20, 3, 6, 8, 577) ∈ kX6_feeOf := List.mem_of_getElem? (i := 48) rfl
theorem eX6_feeOf_91 : (91, Instr.iload 6, 2, 0, 0, 0) ∈ kX6_feeOf := List.mem_of_getElem? (i := 49) rfl
theorem eX6_feeOf_93 : (93, Instr.iaload, 1, 0, 0, 0) ∈ kX6_feeOf := List.mem_of_getElem? (i := 50) rfl
theorem eX6_feeOf_94 : (94, Instr.aload_n 0, 1, 0, 0, 0) ∈ kX6_feeOf := List.mem_of_getElem? (i := 51) rfl
theorem eX6_feeOf_95 : (95, Instr.getfield 23, 3, 6, 9, 578) ∈ kX6_feeOf := List.mem_of_getElem? (i := 52) rfl
theorem eX6_feeOf_98 : (98, Instr.iload 6, 2, 0, 0, 0) ∈ kX6_feeOf := List.mem_of_getElem? (i := 53) rfl
theorem eX6_feeOf_100 : (100, Instr.iaload, 1, 0, 0, 0) ∈ kX6_feeOf := List.mem_of_getElem? (i := 54) rfl
theorem eX6_feeOf_101 : (101, Instr.aload_n 0, 1, 0, 0, 0) ∈ kX6_feeOf := List.mem_of_getElem? (i := 55) rfl
theorem eX6_feeOf_102 : (102, Instr.getfield 45, 3, 6, 18, 587) ∈ kX6_feeOf := List.mem_of_getElem? (i := 56) rfl
theorem eX6_feeOf_105 : (105, Instr.iload_n 1, 1, 0, 0, 0) ∈ kX6_feeOf := List.mem_of_getElem? (i := 57) rfl
theorem eX6_feeOf_106 : (106, Instr.iaload, 1, 0, 0, 0) ∈ kX6_feeOf := List.mem_of_getElem? (i := 58) rfl
theorem eX6_feeOf_107 : (107, Instr.imul, 1, 0, 0, 0) ∈ kX6_feeOf := List.mem_of_getElem? (i := 59) rfl
theorem eX6_feeOf_108 : (108, Instr.iadd, 1, 0, 0, 0) ∈ kX6_feeOf := List.mem_of_getElem? (i := 60) rfl
theorem eX6_feeOf_109 : (109, Instr.aload_n 0, 1, 0, 0, 0) ∈ kX6_feeOf := List.mem_of_getElem? (i := 61) rfl
theorem eX6_feeOf_110 : (110, Instr.getfield 72, 3, 6, 27, 596) ∈ kX6_feeOf := List.mem_of_getElem? (i := 62) rfl
theorem eX6_feeOf_113 : (113, Instr.iload_n 1, 1, 0, 0, 0) ∈ kX6_feeOf := List.mem_of_getElem? (i := 63) rfl
theorem eX6_feeOf_114 : (114, Instr.baload, 1, 0, 0, 0) ∈ kX6_feeOf := List.mem_of_getElem? (i := 64) rfl
theorem eX6_feeOf_115 : (115, Instr.ifCond .eq 13, 3, 128, 0, 0) ∈ kX6_feeOf := List.mem_of_getElem? (i := 65) rfl
theorem eX6_feeOf_118 : (118, Instr.aload_n 0, 1, 0, 0, 0) ∈ kX6_feeOf := List.mem_of_getElem? (i := 66) rfl
theorem eX6_feeOf_119 : (119, Instr.getfield 26, 3, 6, 10, 579) ∈ kX6_feeOf := List.mem_of_getElem? (i := 67) rfl
theorem eX6_feeOf_122 : (122, Instr.iload 6, 2, 0, 0, 0) ∈ kX6_feeOf := List.mem_of_getElem? (i := 68) rfl
theorem eX6_feeOf_124 : (124, Instr.iaload, 1, 0, 0, 0) ∈ kX6_feeOf := List.mem_of_getElem? (i := 69) rfl
theorem eX6_feeOf_125 : (125, Instr.goto 4, 3, 129, 0, 0) ∈ kX6_feeOf := List.mem_of_getElem? (i := 70) rfl
theorem eX6_feeOf_128 : (128, Instr.iconst 0, 1, 0, 0, 0) ∈ kX6_feeOf := List.mem_of_getElem? (i := 71) rfl
theorem eX6_feeOf_129 : (129, Instr.iadd, 1, 0, 0, 0) ∈ kX6_feeOf := List.mem_of_getElem? (i := 72) rfl
theorem eX6_feeOf_130 : (130, Instr.istore 7, 2, 0, 0, 0) ∈ kX6_feeOf := List.mem_of_getElem? (i := 73) rfl
theorem eX6_feeOf_132 : (132, Instr.iload 4, 2, 0, 0, 0) ∈ kX6_feeOf := List.mem_of_getElem? (i := 74) rfl
theorem eX6_feeOf_134 : (134, Instr.iload 5, 2, 0, 0, 0) ∈ kX6_feeOf := List.mem_of_getElem? (i := 75) rfl
theorem eX6_feeOf_136 : (136, Instr.aload_n 0, 1, 0, 0, 0) ∈ kX6_feeOf := List.mem_of_getElem? (i := 76) rfl
theorem eX6_feeOf_137 : (137, Instr.getfield 54, 3, 6, 21, 590) ∈ kX6_feeOf := List.mem_of_getElem? (i := 77) rfl
theorem eX6_feeOf_140 : (140, Instr.iload_n 1, 1, 0, 0, 0) ∈ kX6_feeOf := List.mem_of_getElem? (i := 78) rfl
theorem eX6_feeOf_141 : (141, Instr.iaload, 1, 0, 0, 0) ∈ kX6_feeOf := List.mem_of_getElem? (i := 79) rfl
theorem eX6_feeOf_142 : (142, Instr.sipush 1440, 3, 0, 0, 0) ∈ kX6_feeOf := List.mem_of_getElem? (i := 80) rfl
theorem eX6_feeOf_145 : (145, Instr.idiv, 1, 0, 0, 0) ∈ kX6_feeOf := List.mem_of_getElem? (i := 81) rfl
theorem eX6_feeOf_146 : (146, Instr.if_icmp .le 10, 3, 156, 0, 0) ∈ kX6_feeOf := List.mem_of_getElem? (i := 82) rfl
theorem eX6_feeOf_149 : (149, Instr.iconst 2, 1, 0, 0, 0) ∈ kX6_feeOf := List.mem_of_getElem? (i := 83) rfl
theorem eX6_feeOf_150 : (150, Instr.iload 7, 2, 0, 0, 0) ∈ kX6_feeOf := List.mem_of_getElem? (i := 84) rfl
theorem eX6_feeOf_152 : (152, Instr.imul, 1, 0, 0, 0) ∈ kX6_feeOf := List.mem_of_getElem? (i := 85) rfl
theorem eX6_feeOf_153 : (153, Instr.goto 5, 3, 158, 0, 0) ∈ kX6_feeOf := List.mem_of_getElem? (i := 86) rfl
theorem eX6_feeOf_156 : (156, Instr.iload 7, 2, 0, 0, 0) ∈ kX6_feeOf := List.mem_of_getElem? (i := 87) rfl
theorem eX6_feeOf_158 : (158, Instr.iadd, 1, 0, 0, 0) ∈ kX6_feeOf := List.mem_of_getElem? (i := 88) rfl
theorem eX6_feeOf_159 : (159, Instr.istore 4, 2, 0, 0, 0) ∈ kX6_feeOf := List.mem_of_getElem? (i := 89) rfl
theorem eX6_feeOf_161 : (161, Instr.iinc 5 1, 3, 0, 0, 0) ∈ kX6_feeOf := List.mem_of_getElem? (i := 90) rfl
theorem eX6_feeOf_164 : (164, Instr.goto (-99), 3, 65, 0, 0) ∈ kX6_feeOf := List.mem_of_getElem? (i := 91) rfl
theorem eX6_feeOf_167 : (167, Instr.iload 4, 2, 0, 0, 0) ∈ kX6_feeOf := List.mem_of_getElem? (i := 92) rfl
theorem eX6_feeOf_169 : (169, Instr.ireturn, 1, 0, 0, 0) ∈ kX6_feeOf := List.mem_of_getElem? (i := 93) rfl
theorem aX6_thingOf : am_m nX6_thingOf = mX6_thingOf := rfl
theorem eX6_thingOf_0 : (0, Instr.iload_n 1, 1, 0, 0, 0) ∈ kX6_thingOf := List.mem_of_getElem? (i := 0) rfl
theorem eX6_thingOf_1 : (1, Instr.ifCond .lt 23, 3, 24, 0, 0) ∈ kX6_thingOf := List.mem_of_getElem? (i := 1) rfl
theorem eX6_thingOf_4 : (4, Instr.iload_n 1, 1, 0, 0, 0) ∈ kX6_thingOf := List.mem_of_getElem? (i := 2) rfl
theorem eX6_thingOf_5 : (5, Instr.bipush 100, 2, 0, 0, 0) ∈ kX6_thingOf := List.mem_of_getElem? (i := 3) rfl
theorem eX6_thingOf_7 : (7, Instr.irem, 1, 0, 0, 0) ∈ kX6_thingOf := List.mem_of_getElem? (i := 4) rfl
theorem eX6_thingOf_8 : (8, Instr.bipush 37, 2, 0, 0, 0) ∈ kX6_thingOf := List.mem_of_getElem? (i := 5) rfl
theorem eX6_thingOf_10 : (10, Instr.iload_n 1, 1, 0, 0, 0) ∈ kX6_thingOf := List.mem_of_getElem? (i := 6) rfl
theorem eX6_thingOf_11 : (11, Instr.bipush 100, 2, 0, 0, 0) ∈ kX6_thingOf := List.mem_of_getElem? (i := 7) rfl
theorem eX6_thingOf_13 : (13, Instr.idiv, 1, 0, 0, 0) ∈ kX6_thingOf := List.mem_of_getElem? (i := 8) rfl
theorem eX6_thingOf_14 : (14, Instr.imul, 1, 0, 0, 0) ∈ kX6_thingOf := List.mem_of_getElem? (i := 9) rfl
theorem eX6_thingOf_15 : (15, Instr.bipush 11, 2, 0, 0, 0) ∈ kX6_thingOf := List.mem_of_getElem? (i := 10) rfl
theorem eX6_thingOf_17 : (17, Instr.iadd, 1, 0, 0, 0) ∈ kX6_thingOf := List.mem_of_getElem? (i := 11) rfl
theorem eX6_thingOf_18 : (18, Instr.bipush 97, 2, 0, 0, 0) ∈ kX6_thingOf := List.mem_of_getElem? (i := 12) rfl
theorem eX6_thingOf_20 : (20, Instr.irem, 1, 0, 0, 0) ∈ kX6_thingOf := List.mem_of_getElem? (i := 13) rfl
theorem eX6_thingOf_21 : (21, Instr.if_icmp .eq 6, 3, 27, 0, 0) ∈ kX6_thingOf := List.mem_of_getElem? (i := 14) rfl
theorem eX6_thingOf_24 : (24, Instr.bipush (-2), 2, 0, 0, 0) ∈ kX6_thingOf := List.mem_of_getElem? (i := 15) rfl
theorem eX6_thingOf_26 : (26, Instr.ireturn, 1, 0, 0, 0) ∈ kX6_thingOf := List.mem_of_getElem? (i := 16) rfl
theorem eX6_thingOf_27 : (27, Instr.iload_n 1, 1, 0, 0, 0) ∈ kX6_thingOf := List.mem_of_getElem? (i := 17) rfl
theorem eX6_thingOf_28 : (28, Instr.bipush 100, 2, 0, 0, 0) ∈ kX6_thingOf := List.mem_of_getElem? (i := 18) rfl
theorem eX6_thingOf_30 : (30, Instr.idiv, 1, 0, 0, 0) ∈ kX6_thingOf := List.mem_of_getElem? (i := 19) rfl
theorem eX6_thingOf_31 : (31, Instr.aload_n 0, 1, 0, 0, 0) ∈ kX6_thingOf := List.mem_of_getElem? (i := 20) rfl
theorem eX6_thingOf_32 : (32, Instr.getfield 107, 3, 6, 12, 581) ∈ kX6_thingOf := List.mem_of_getElem? (i := 21) rfl
theorem eX6_thingOf_35 : (35, Instr.if_icmp .ge 10, 3, 45, 0, 0) ∈ kX6_thingOf := List.mem_of_getElem? (i := 22) rfl
theorem eX6_thingOf_38 : (38, Instr.iload_n 1, 1, 0, 0, 0) ∈ kX6_thingOf := List.mem_of_getElem? (i := 23) rfl
theorem eX6_thingOf_39 : (39, Instr.bipush 100, 2, 0, 0, 0) ∈ kX6_thingOf := List.mem_of_getElem? (i := 24) rfl
theorem eX6_thingOf_41 : (41, Instr.idiv, 1, 0, 0, 0) ∈ kX6_thingOf := List.mem_of_getElem? (i := 25) rfl
theorem eX6_thingOf_42 : (42, Instr.goto 5, 3, 47, 0, 0) ∈ kX6_thingOf := List.mem_of_getElem? (i := 26) rfl
theorem eX6_thingOf_45 : (45, Instr.bipush (-3), 2, 0, 0, 0) ∈ kX6_thingOf := List.mem_of_getElem? (i := 27) rfl
theorem eX6_thingOf_47 : (47, Instr.ireturn, 1, 0, 0, 0) ∈ kX6_thingOf := List.mem_of_getElem? (i := 28) rfl
theorem aX6_fee : am_m nX6_fee = mX6_fee := rfl
theorem eX6_fee_0 : (0, Instr.aload_n 0, 1, 0, 0, 0) ∈ kX6_fee := List.mem_of_getElem? (i := 0) rfl
theorem eX6_fee_1 : (1, Instr.iload_n 1, 1, 0, 0, 0) ∈ kX6_fee := List.mem_of_getElem? (i := 1) rfl
theorem eX6_fee_2 : (2, Instr.invokevirtual 154, 3, 94, 1, 738) ∈ kX6_fee := List.mem_of_getElem? (i := 2) rfl
theorem eX6_fee_5 : (5, Instr.istore_n 2, 1, 0, 0, 0) ∈ kX6_fee := List.mem_of_getElem? (i := 3) rfl
theorem eX6_fee_6 : (6, Instr.iload_n 2, 1, 0, 0, 0) ∈ kX6_fee := List.mem_of_getElem? (i := 4) rfl
theorem eX6_fee_7 : (7, Instr.ifCond .ge 5, 3, 12, 0, 0) ∈ kX6_fee := List.mem_of_getElem? (i := 5) rfl
theorem eX6_fee_10 : (10, Instr.iload_n 2, 1, 0, 0, 0) ∈ kX6_fee := List.mem_of_getElem? (i := 6) rfl
theorem eX6_fee_11 : (11, Instr.ireturn, 1, 0, 0, 0) ∈ kX6_fee := List.mem_of_getElem? (i := 7) rfl
theorem eX6_fee_12 : (12, Instr.aload_n 0, 1, 0, 0, 0) ∈ kX6_fee := List.mem_of_getElem? (i := 8) rfl
theorem eX6_fee_13 : (13, Instr.getfield 60, 3, 6, 23, 592) ∈ kX6_fee := List.mem_of_getElem? (i := 9) rfl
theorem eX6_fee_16 : (16, Instr.iload_n 2, 1, 0, 0, 0) ∈ kX6_fee := List.mem_of_getElem? (i := 10) rfl
theorem eX6_fee_17 : (17, Instr.iaload, 1, 0, 0, 0) ∈ kX6_fee := List.mem_of_getElem? (i := 11) rfl
theorem eX6_fee_18 : (18, Instr.ifCond .eq 13, 3, 31, 0, 0) ∈ kX6_fee := List.mem_of_getElem? (i := 12) rfl
theorem eX6_fee_21 : (21, Instr.aload_n 0, 1, 0, 0, 0) ∈ kX6_fee := List.mem_of_getElem? (i := 13) rfl
theorem eX6_fee_22 : (22, Instr.getfield 60, 3, 6, 23, 592) ∈ kX6_fee := List.mem_of_getElem? (i := 14) rfl
theorem eX6_fee_25 : (25, Instr.iload_n 2, 1, 0, 0, 0) ∈ kX6_fee := List.mem_of_getElem? (i := 15) rfl
theorem eX6_fee_26 : (26, Instr.iaload, 1, 0, 0, 0) ∈ kX6_fee := List.mem_of_getElem? (i := 16) rfl
theorem eX6_fee_27 : (27, Instr.iconst 2, 1, 0, 0, 0) ∈ kX6_fee := List.mem_of_getElem? (i := 17) rfl
theorem eX6_fee_28 : (28, Instr.if_icmp .ne 11, 3, 39, 0, 0) ∈ kX6_fee := List.mem_of_getElem? (i := 18) rfl
theorem eX6_fee_31 : (31, Instr.aload_n 0, 1, 0, 0, 0) ∈ kX6_fee := List.mem_of_getElem? (i := 19) rfl
theorem eX6_fee_32 : (32, Instr.iload_n 2, 1, 0, 0, 0) ∈ kX6_fee := List.mem_of_getElem? (i := 20) rfl
theorem eX6_fee_33 : (33, Instr.invokevirtual 157, 3, 93, 1, 742) ∈ kX6_fee := List.mem_of_getElem? (i := 21) rfl
theorem eX6_fee_36 : (36, Instr.goto 5, 3, 41, 0, 0) ∈ kX6_fee := List.mem_of_getElem? (i := 22) rfl
theorem eX6_fee_39 : (39, Instr.bipush (-4), 2, 0, 0, 0) ∈ kX6_fee := List.mem_of_getElem? (i := 23) rfl
theorem eX6_fee_41 : (41, Instr.ireturn, 1, 0, 0, 0) ∈ kX6_fee := List.mem_of_getElem? (i := 24) rfl
theorem aX6_leaves : am_m nX6_leaves = mX6_leaves := rfl
theorem eX6_leaves_0 : (0, Instr.aload_n 0, 1, 0, 0, 0) ∈ kX6_leaves := List.mem_of_getElem? (i := 0) rfl
theorem eX6_leaves_1 : (1, Instr.dup, 1, 0, 0, 0) ∈ kX6_leaves := List.mem_of_getElem? (i := 1) rfl
theorem eX6_leaves_2 : (2, Instr.getfield 145, 3, 6, 4, 573) ∈ kX6_leaves := List.mem_of_getElem? (i := 2) rfl
theorem eX6_leaves_5 : (5, Instr.iconst 2, 1, 0, 0, 0) ∈ kX6_leaves := List.mem_of_getElem? (i := 3) rfl
theorem eX6_leaves_6 : (6, Instr.aload_n 0, 1, 0, 0, 0) ∈ kX6_leaves := List.mem_of_getElem? (i := 4) rfl
theorem eX6_leaves_7 : (7, Instr.getfield 35, 3, 6, 15, 584) ∈ kX6_leaves := List.mem_of_getElem? (i := 5) rfl
theorem eX6_leaves_10 : (10, Instr.aload_n 0, 1, 0, 0, 0) ∈ kX6_leaves := List.mem_of_getElem? (i := 6) rfl
theorem eX6_leaves_11 : (11, Instr.getfield 63, 3, 6, 24, 593) ∈ kX6_leaves := List.mem_of_getElem? (i := 7) rfl
theorem eX6_leaves_14 : (14, Instr.iload_n 1, 1, 0, 0, 0) ∈ kX6_leaves := List.mem_of_getElem? (i := 8) rfl
theorem eX6_leaves_15 : (15, Instr.iaload, 1, 0, 0, 0) ∈ kX6_leaves := List.mem_of_getElem? (i := 9) rfl
theorem eX6_leaves_16 : (16, Instr.iaload, 1, 0, 0, 0) ∈ kX6_leaves := List.mem_of_getElem? (i := 10) rfl
theorem eX6_leaves_17 : (17, Instr.imul, 1, 0, 0, 0) ∈ kX6_leaves := List.mem_of_getElem? (i := 11) rfl
theorem eX6_leaves_18 : (18, Instr.iadd, 1, 0, 0, 0) ∈ kX6_leaves := List.mem_of_getElem? (i := 12) rfl
theorem eX6_leaves_19 : (19, Instr.putfield 145, 3, 6, 4, 573) ∈ kX6_leaves := List.mem_of_getElem? (i := 13) rfl
theorem eX6_leaves_22 : (22, Instr.aload_n 0, 1, 0, 0, 0) ∈ kX6_leaves := List.mem_of_getElem? (i := 14) rfl
theorem eX6_leaves_23 : (23, Instr.getfield 60, 3, 6, 23, 592) ∈ kX6_leaves := List.mem_of_getElem? (i := 15) rfl
theorem eX6_leaves_26 : (26, Instr.iload_n 1, 1, 0, 0, 0) ∈ kX6_leaves := List.mem_of_getElem? (i := 16) rfl
theorem eX6_leaves_27 : (27, Instr.iload_n 2, 1, 0, 0, 0) ∈ kX6_leaves := List.mem_of_getElem? (i := 17) rfl
theorem eX6_leaves_28 : (28, Instr.iastore, 1, 0, 0, 0) ∈ kX6_leaves := List.mem_of_getElem? (i := 18) rfl
theorem eX6_leaves_29 : (29, Instr.return_, 1, 0, 0, 0) ∈ kX6_leaves := List.mem_of_getElem? (i := 19) rfl
theorem aX6_give : am_m nX6_give = mX6_give := rfl
theorem eX6_give_0 : (0, Instr.aload_n 0, 1, 0, 0, 0) ∈ kX6_give := List.mem_of_getElem? (i := 0) rfl
theorem eX6_give_1 : (1, Instr.iload_n 1, 1, 0, 0, 0) ∈ kX6_give := List.mem_of_getElem? (i := 1) rfl
theorem eX6_give_2 : (2, Instr.invokevirtual 160, 3, 95, 1, 754) ∈ kX6_give := List.mem_of_getElem? (i := 2) rfl
theorem eX6_give_5 : (5, Instr.istore_n 2, 1, 0, 0, 0) ∈ kX6_give := List.mem_of_getElem? (i := 3) rfl
theorem eX6_give_6 : (6, Instr.iload_n 2, 1, 0, 0, 0) ∈ kX6_give := List.mem_of_getElem? (i := 4) rfl
theorem eX6_give_7 : (7, Instr.ifCond .ge 5, 3, 12, 0, 0) ∈ kX6_give := List.mem_of_getElem? (i := 5) rfl
theorem eX6_give_10 : (10, Instr.iload_n 2, 1, 0, 0, 0) ∈ kX6_give := List.mem_of_getElem? (i := 6) rfl
theorem eX6_give_11 : (11, Instr.ireturn, 1, 0, 0, 0) ∈ kX6_give := List.mem_of_getElem? (i := 7) rfl
theorem eX6_give_12 : (12, Instr.aload_n 0, 1, 0, 0, 0) ∈ kX6_give := List.mem_of_getElem? (i := 8) rfl
theorem eX6_give_13 : (13, Instr.iload_n 1, 1, 0, 0, 0) ∈ kX6_give := List.mem_of_getElem? (i := 9) rfl
theorem eX6_give_14 : (14, Instr.invokevirtual 154, 3, 94, 1, 738) ∈ kX6_give := List.mem_of_getElem? (i := 10) rfl
theorem eX6_give_17 : (17, Instr.istore_n 3, 1, 0, 0, 0) ∈ kX6_give := List.mem_of_getElem? (i := 11) rfl
theorem eX6_give_18 : (18, Instr.aload_n 0, 1, 0, 0, 0) ∈ kX6_give := List.mem_of_getElem? (i := 12) rfl
theorem eX6_give_19 : (19, Instr.getfield 60, 3, 6, 23, 592) ∈ kX6_give := List.mem_of_getElem? (i := 13) rfl
theorem eX6_give_22 : (22, Instr.iload_n 3, 1, 0, 0, 0) ∈ kX6_give := List.mem_of_getElem? (i := 14) rfl
theorem eX6_give_23 : (23, Instr.iaload, 1, 0, 0, 0) ∈ kX6_give := List.mem_of_getElem? (i := 15) rfl
theorem eX6_give_24 : (24, Instr.iconst 2, 1, 0, 0, 0) ∈ kX6_give := List.mem_of_getElem? (i := 16) rfl
theorem eX6_give_25 : (25, Instr.if_icmp .ne 6, 3, 31, 0, 0) ∈ kX6_give := List.mem_of_getElem? (i := 17) rfl
theorem eX6_give_28 : (28, Instr.bipush (-5), 2, 0, 0, 0) ∈ kX6_give := List.mem_of_getElem? (i := 18) rfl
theorem eX6_give_30 : (30, Instr.ireturn, 1, 0, 0, 0) ∈ kX6_give := List.mem_of_getElem? (i := 19) rfl
theorem eX6_give_31 : (31, Instr.aload_n 0, 1, 0, 0, 0) ∈ kX6_give := List.mem_of_getElem? (i := 20) rfl
theorem eX6_give_32 : (32, Instr.invokevirtual 135, 3, 80, 0, 704) ∈ kX6_give := List.mem_of_getElem? (i := 21) rfl
theorem eX6_give_35 : (35, Instr.ifCond .ne 6, 3, 41, 0, 0) ∈ kX6_give := List.mem_of_getElem? (i := 22) rfl
theorem eX6_give_38 : (38, Instr.bipush (-6), 2, 0, 0, 0) ∈ kX6_give := List.mem_of_getElem? (i := 23) rfl
theorem eX6_give_40 : (40, Instr.ireturn, 1, 0, 0, 0) ∈ kX6_give := List.mem_of_getElem? (i := 24) rfl
theorem eX6_give_41 : (41, Instr.aload_n 0, 1, 0, 0, 0) ∈ kX6_give := List.mem_of_getElem? (i := 25) rfl
theorem eX6_give_42 : (42, Instr.getfield 42, 3, 6, 17, 586) ∈ kX6_give := List.mem_of_getElem? (i := 26) rfl
theorem eX6_give_45 : (45, Instr.aload_n 0, 1, 0, 0, 0) ∈ kX6_give := List.mem_of_getElem? (i := 27) rfl
theorem eX6_give_46 : (46, Instr.getfield 63, 3, 6, 24, 593) ∈ kX6_give := List.mem_of_getElem? (i := 28) rfl
theorem eX6_give_49 : (49, Instr.iload_n 3, 1, 0, 0, 0) ∈ kX6_give := List.mem_of_getElem? (i := 29) rfl
theorem eX6_give_50 : (50, Instr.iaload, 1, 0, 0, 0) ∈ kX6_give := List.mem_of_getElem? (i := 30) rfl
theorem eX6_give_51 : (51, Instr.baload, 1, 0, 0, 0) ∈ kX6_give := List.mem_of_getElem? (i := 31) rfl
theorem eX6_give_52 : (52, Instr.ifCond .eq 6, 3, 58, 0, 0) ∈ kX6_give := List.mem_of_getElem? (i := 32) rfl
theorem eX6_give_55 : (55, Instr.bipush (-7), 2, 0, 0, 0) ∈ kX6_give := List.mem_of_getElem? (i := 33) rfl
theorem eX6_give_57 : (57, Instr.ireturn, 1, 0, 0, 0) ∈ kX6_give := List.mem_of_getElem? (i := 34) rfl
theorem eX6_give_58 : (58, Instr.aload_n 0, 1, 0, 0, 0) ∈ kX6_give := List.mem_of_getElem? (i := 35) rfl
theorem eX6_give_59 : (59, Instr.dup, 1, 0, 0, 0) ∈ kX6_give := List.mem_of_getElem? (i := 36) rfl
theorem eX6_give_60 : (60, Instr.getfield 110, 3, 6, 3, 572) ∈ kX6_give := List.mem_of_getElem? (i := 37) rfl
theorem eX6_give_63 : (63, Instr.iload_n 2, 1, 0, 0, 0) ∈ kX6_give := List.mem_of_getElem? (i := 38) rfl
theorem eX6_give_64 : (64, Instr.iadd, 1, 0, 0, 0) ∈ kX6_give := List.mem_of_getElem? (i := 39) rfl
theorem eX6_give_65 : (65, Instr.putfield 110, 3, 6, 3, 572) ∈ kX6_give := List.mem_of_getElem? (i := 40) rfl
theorem eX6_give_68 : (68, Instr.aload_n 0, 1, 0, 0, 0) ∈ kX6_give := List.mem_of_getElem? (i := 41) rfl
theorem eX6_give_69 : (69, Instr.iload_n 3, 1, 0, 0, 0) ∈ kX6_give := List.mem_of_getElem? (i := 42) rfl
theorem eX6_give_70 : (70, Instr.iconst 1, 1, 0, 0, 0) ∈ kX6_give := List.mem_of_getElem? (i := 43) rfl
theorem eX6_give_71 : (71, Instr.invokevirtual 163, 3, 96, 2, 755) ∈ kX6_give := List.mem_of_getElem? (i := 44) rfl
theorem eX6_give_74 : (74, Instr.iload_n 2, 1, 0, 0, 0) ∈ kX6_give := List.mem_of_getElem? (i := 45) rfl
theorem eX6_give_75 : (75, Instr.ireturn, 1, 0, 0, 0) ∈ kX6_give := List.mem_of_getElem? (i := 46) rfl
theorem aX6_claim : am_m nX6_claim = mX6_claim := rfl
theorem eX6_claim_0 : (0, Instr.aload_n 0, 1, 0, 0, 0) ∈ kX6_claim := List.mem_of_getElem? (i := 0) rfl
theorem eX6_claim_1 : (1, Instr.getfield 167, 3, 6, 29, 598) ∈ kX6_claim := List.mem_of_getElem? (i := 1) rfl
theorem eX6_claim_4 : (4, Instr.bipush 40, 2, 0, 0, 0) ∈ kX6_claim := List.mem_of_getElem? (i := 2) rfl
theorem eX6_claim_6 : (6, Instr.if_icmp .ne 5, 3, 11, 0, 0) ∈ kX6_claim := List.mem_of_getElem? (i := 3) rfl
theorem eX6_claim_9 : (9, Instr.iconst (-1), 1, 0, 0, 0) ∈ kX6_claim := List.mem_of_getElem? (i := 4) rfl
theorem eX6_claim_10 : (10, Instr.ireturn, 1, 0, 0, 0) ∈ kX6_claim := List.mem_of_getElem? (i := 5) rfl
theorem eX6_claim_11 : (11, Instr.iconst 0, 1, 0, 0, 0) ∈ kX6_claim := List.mem_of_getElem? (i := 6) rfl
theorem eX6_claim_12 : (12, Instr.istore_n 1, 1, 0, 0, 0) ∈ kX6_claim := List.mem_of_getElem? (i := 7) rfl
theorem eX6_claim_13 : (13, Instr.iload_n 1, 1, 0, 0, 0) ∈ kX6_claim := List.mem_of_getElem? (i := 8) rfl
theorem eX6_claim_14 : (14, Instr.iconst 4, 1, 0, 0, 0) ∈ kX6_claim := List.mem_of_getElem? (i := 9) rfl
theorem eX6_claim_15 : (15, Instr.if_icmp .ge 23, 3, 38, 0, 0) ∈ kX6_claim := List.mem_of_getElem? (i := 10) rfl
theorem eX6_claim_18 : (18, Instr.aload_n 0, 1, 0, 0, 0) ∈ kX6_claim := List.mem_of_getElem? (i := 11) rfl
theorem eX6_claim_19 : (19, Instr.getfield 78, 3, 6, 30, 599) ∈ kX6_claim := List.mem_of_getElem? (i := 12) rfl
theorem eX6_claim_22 : (22, Instr.iconst 4, 1, 0, 0, 0) ∈ kX6_claim := List.mem_of_getElem? (i := 13) rfl
theorem eX6_claim_23 : (23, Instr.aload_n 0, 1, 0, 0, 0) ∈ kX6_claim := List.mem_of_getElem? (i := 14) rfl
theorem eX6_claim_24 : (24, Instr.getfield 167, 3, 6, 29, 598) ∈ kX6_claim := List.mem_of_getElem? (i := 15) rfl
theorem eX6_claim_27 : (27, Instr.imul, 1, 0, 0, 0) ∈ kX6_claim := List.mem_of_getElem? (i := 16) rfl
theorem eX6_claim_28 : (28, Instr.iload_n 1, 1, 0, 0, 0) ∈ kX6_claim := List.mem_of_getElem? (i := 17) rfl
theorem eX6_claim_29 : (29, Instr.iadd, 1, 0, 0, 0) ∈ kX6_claim := List.mem_of_getElem? (i := 18) rfl
theorem eX6_claim_30 : (30, Instr.iconst (-1), 1, 0, 0, 0) ∈ kX6_claim := List.mem_of_getElem? (i := 19) rfl
theorem eX6_claim_31 : (31, Instr.iastore, 1, 0, 0, 0) ∈ kX6_claim := List.mem_of_getElem? (i := 20) rfl
theorem eX6_claim_32 : (32, Instr.iinc 1 1, 3, 0, 0, 0) ∈ kX6_claim := List.mem_of_getElem? (i := 21) rfl
theorem eX6_claim_35 : (35, Instr.goto (-22), 3, 13, 0, 0) ∈ kX6_claim := List.mem_of_getElem? (i := 22) rfl
theorem eX6_claim_38 : (38, Instr.aload_n 0, 1, 0, 0, 0) ∈ kX6_claim := List.mem_of_getElem? (i := 23) rfl
theorem eX6_claim_39 : (39, Instr.getfield 81, 3, 6, 31, 600) ∈ kX6_claim := List.mem_of_getElem? (i := 24) rfl
theorem eX6_claim_42 : (42, Instr.aload_n 0, 1, 0, 0, 0) ∈ kX6_claim := List.mem_of_getElem? (i := 25) rfl
theorem eX6_claim_43 : (43, Instr.getfield 167, 3, 6, 29, 598) ∈ kX6_claim := List.mem_of_getElem? (i := 26) rfl
theorem eX6_claim_46 : (46, Instr.iconst (-1), 1, 0, 0, 0) ∈ kX6_claim := List.mem_of_getElem? (i := 27) rfl
theorem eX6_claim_47 : (47, Instr.iastore, 1, 0, 0, 0) ∈ kX6_claim := List.mem_of_getElem? (i := 28) rfl
theorem eX6_claim_48 : (48, Instr.aload_n 0, 1, 0, 0, 0) ∈ kX6_claim := List.mem_of_getElem? (i := 29) rfl
theorem eX6_claim_49 : (49, Instr.dup, 1, 0, 0, 0) ∈ kX6_claim := List.mem_of_getElem? (i := 30) rfl
theorem eX6_claim_50 : (50, Instr.getfield 167, 3, 6, 29, 598) ∈ kX6_claim := List.mem_of_getElem? (i := 31) rfl
theorem eX6_claim_53 : (53, Instr.iconst 1, 1, 0, 0, 0) ∈ kX6_claim := List.mem_of_getElem? (i := 32) rfl
theorem eX6_claim_54 : (54, Instr.iadd, 1, 0, 0, 0) ∈ kX6_claim := List.mem_of_getElem? (i := 33) rfl
theorem eX6_claim_55 : (55, Instr.putfield 167, 3, 6, 29, 598) ∈ kX6_claim := List.mem_of_getElem? (i := 34) rfl
theorem eX6_claim_58 : (58, Instr.aload_n 0, 1, 0, 0, 0) ∈ kX6_claim := List.mem_of_getElem? (i := 35) rfl
theorem eX6_claim_59 : (59, Instr.getfield 167, 3, 6, 29, 598) ∈ kX6_claim := List.mem_of_getElem? (i := 36) rfl
theorem eX6_claim_62 : (62, Instr.iconst 1, 1, 0, 0, 0) ∈ kX6_claim := List.mem_of_getElem? (i := 37) rfl
theorem eX6_claim_63 : (63, Instr.isub, 1, 0, 0, 0) ∈ kX6_claim := List.mem_of_getElem? (i := 38) rfl
theorem eX6_claim_64 : (64, Instr.ireturn, 1, 0, 0, 0) ∈ kX6_claim := List.mem_of_getElem? (i := 39) rfl
theorem aX6_isClaim : am_m nX6_isClaim = mX6_isClaim := rfl
theorem eX6_isClaim_0 : (0, Instr.iload_n 1, 1, 0, 0, 0) ∈ kX6_isClaim := List.mem_of_getElem? (i := 0) rfl
theorem eX6_isClaim_1 : (1, Instr.iconst 0, 1, 0, 0, 0) ∈ kX6_isClaim := List.mem_of_getElem? (i := 1) rfl
theorem eX6_isClaim_2 : (2, Instr.aload_n 0, 1, 0, 0, 0) ∈ kX6_isClaim := List.mem_of_getElem? (i := 2) rfl
theorem eX6_isClaim_3 : (3, Instr.getfield 167, 3, 6, 29, 598) ∈ kX6_isClaim := List.mem_of_getElem? (i := 3) rfl
theorem eX6_isClaim_6 : (6, Instr.iconst 1, 1, 0, 0, 0) ∈ kX6_isClaim := List.mem_of_getElem? (i := 4) rfl
theorem eX6_isClaim_7 : (7, Instr.isub, 1, 0, 0, 0) ∈ kX6_isClaim := List.mem_of_getElem? (i := 5) rfl
theorem eX6_isClaim_8 : (8, Instr.invokestatic 102, 3, 78, 3, 683) ∈ kX6_isClaim := List.mem_of_getElem? (i := 6) rfl
theorem eX6_isClaim_11 : (11, Instr.ireturn, 1, 1, 0, 0) ∈ kX6_isClaim := List.mem_of_getElem? (i := 7) rfl
theorem aX6_markOf : am_m nX6_markOf = mX6_markOf := rfl
theorem eX6_markOf_0 : (0, Instr.iload_n 0, 1, 0, 0, 0) ∈ kX6_markOf := List.mem_of_getElem? (i := 0) rfl
theorem eX6_markOf_1 : (1, Instr.iconst 4, 1, 0, 0, 0) ∈ kX6_markOf := List.mem_of_getElem? (i := 1) rfl
theorem eX6_markOf_2 : (2, Instr.iload_n 1, 1, 0, 0, 0) ∈ kX6_markOf := List.mem_of_getElem? (i := 2) rfl
theorem eX6_markOf_3 : (3, Instr.imul, 1, 0, 0, 0) ∈ kX6_markOf := List.mem_of_getElem? (i := 3) rfl
theorem eX6_markOf_4 : (4, Instr.ishr, 1, 0, 0, 0) ∈ kX6_markOf := List.mem_of_getElem? (i := 4) rfl
theorem eX6_markOf_5 : (5, Instr.bipush 15, 2, 0, 0, 0) ∈ kX6_markOf := List.mem_of_getElem? (i := 5) rfl
theorem eX6_markOf_7 : (7, Instr.iand, 1, 0, 0, 0) ∈ kX6_markOf := List.mem_of_getElem? (i := 6) rfl
theorem eX6_markOf_8 : (8, Instr.ireturn, 1, 0, 0, 0) ∈ kX6_markOf := List.mem_of_getElem? (i := 7) rfl
theorem aX6_isMeant : am_m nX6_isMeant = mX6_isMeant := rfl
theorem eX6_isMeant_0 : (0, Instr.aload_n 0, 1, 0, 0, 0) ∈ kX6_isMeant := List.mem_of_getElem? (i := 0) rfl
theorem eX6_isMeant_1 : (1, Instr.getfield 60, 3, 6, 23, 592) ∈ kX6_isMeant := List.mem_of_getElem? (i := 1) rfl
theorem eX6_isMeant_4 : (4, Instr.iload_n 2, 1, 0, 0, 0) ∈ kX6_isMeant := List.mem_of_getElem? (i := 2) rfl
theorem eX6_isMeant_5 : (5, Instr.iaload, 1, 0, 0, 0) ∈ kX6_isMeant := List.mem_of_getElem? (i := 3) rfl
theorem eX6_isMeant_6 : (6, Instr.ifCond .eq 5, 3, 11, 0, 0) ∈ kX6_isMeant := List.mem_of_getElem? (i := 4) rfl
theorem eX6_isMeant_9 : (9, Instr.iconst 0, 1, 0, 0, 0) ∈ kX6_isMeant := List.mem_of_getElem? (i := 5) rfl
theorem eX6_isMeant_10 : (10, Instr.ireturn, 1, 1, 0, 0) ∈ kX6_isMeant := List.mem_of_getElem? (i := 6) rfl
theorem eX6_isMeant_11 : (11, Instr.iconst 0, 1, 0, 0, 0) ∈ kX6_isMeant := List.mem_of_getElem? (i := 7) rfl
theorem eX6_isMeant_12 : (12, Instr.istore_n 3, 1, 0, 0, 0) ∈ kX6_isMeant := List.mem_of_getElem? (i := 8) rfl
theorem eX6_isMeant_13 : (13, Instr.iload_n 3, 1, 0, 0, 0) ∈ kX6_isMeant := List.mem_of_getElem? (i := 9) rfl
theorem eX6_isMeant_14 : (14, Instr.iconst 4, 1, 0, 0, 0) ∈ kX6_isMeant := List.mem_of_getElem? (i := 10) rfl
theorem eX6_isMeant_15 : (15, Instr.if_icmp .ge 47, 3, 62, 0, 0) ∈ kX6_isMeant := List.mem_of_getElem? (i := 11) rfl
theorem eX6_isMeant_18 : (18, Instr.aload_n 0, 1, 0, 0, 0) ∈ kX6_isMeant := List.mem_of_getElem? (i := 12) rfl
theorem eX6_isMeant_19 : (19, Instr.getfield 78, 3, 6, 30, 599) ∈ kX6_isMeant := List.mem_of_getElem? (i := 13) rfl
theorem eX6_isMeant_22 : (22, Instr.iconst 4, 1, 0, 0, 0) ∈ kX6_isMeant := List.mem_of_getElem? (i := 14) rfl
theorem eX6_isMeant_23 : (23, Instr.iload_n 1, 1, 0, 0, 0) ∈ kX6_isMeant := List.mem_of_getElem? (i := 15) rfl
theorem eX6_isMeant_24 : (24, Instr.imul, 1, 0, 0, 0) ∈ kX6_isMeant := List.mem_of_getElem? (i := 16) rfl
theorem eX6_isMeant_25 : (25, Instr.iload_n 3, 1, 0, 0, 0) ∈ kX6_isMeant := List.mem_of_getElem? (i := 17) rfl
theorem eX6_isMeant_26 : (26, Instr.iadd, 1, 0, 0, 0) ∈ kX6_isMeant := List.mem_of_getElem? (i := 18) rfl
theorem eX6_isMeant_27 : (27, Instr.iaload, 1, 0, 0, 0) ∈ kX6_isMeant := List.mem_of_getElem? (i := 19) rfl
theorem eX6_isMeant_28 : (28, Instr.ifCond .lt 28, 3, 56, 0, 0) ∈ kX6_isMeant := List.mem_of_getElem? (i := 20) rfl
theorem eX6_isMeant_31 : (31, Instr.aload_n 0, 1, 0, 0, 0) ∈ kX6_isMeant := List.mem_of_getElem? (i := 21) rfl
theorem eX6_isMeant_32 : (32, Instr.getfield 78, 3, 6, 30, 599) ∈ kX6_isMeant := List.mem_of_getElem? (i := 22) rfl
theorem eX6_isMeant_35 : (35, Instr.iconst 4, 1, 0, 0, 0) ∈ kX6_isMeant := List.mem_of_getElem? (i := 23) rfl
theorem eX6_isMeant_36 : (36, Instr.iload_n 1, 1, 0, 0, 0) ∈ kX6_isMeant := List.mem_of_getElem? (i := 24) rfl
theorem eX6_isMeant_37 : (37, Instr.imul, 1, 0, 0, 0) ∈ kX6_isMeant := List.mem_of_getElem? (i := 25) rfl
theorem eX6_isMeant_38 : (38, Instr.iload_n 3, 1, 0, 0, 0) ∈ kX6_isMeant := List.mem_of_getElem? (i := 26) rfl
theorem eX6_isMeant_39 : (39, Instr.iadd, 1, 0, 0, 0) ∈ kX6_isMeant := List.mem_of_getElem? (i := 27) rfl
theorem eX6_isMeant_40 : (40, Instr.iaload, 1, 0, 0, 0) ∈ kX6_isMeant := List.mem_of_getElem? (i := 28) rfl
theorem eX6_isMeant_41 : (41, Instr.aload_n 0, 1, 0, 0, 0) ∈ kX6_isMeant := List.mem_of_getElem? (i := 29) rfl
theorem eX6_isMeant_42 : (42, Instr.getfield 51, 3, 6, 20, 589) ∈ kX6_isMeant := List.mem_of_getElem? (i := 30) rfl
theorem eX6_isMeant_45 : (45, Instr.iload_n 2, 1, 0, 0, 0) ∈ kX6_isMeant := List.mem_of_getElem? (i := 31) rfl
theorem eX6_isMeant_46 : (46, Instr.iaload, 1, 0, 0, 0) ∈ kX6_isMeant := List.mem_of_getElem? (i := 32) rfl
theorem eX6_isMeant_47 : (47, Instr.iload_n 3, 1, 0, 0, 0) ∈ kX6_isMeant := List.mem_of_getElem? (i := 33) rfl
theorem eX6_isMeant_48 : (48, Instr.invokestatic 170, 3, 100, 2, 775) ∈ kX6_isMeant := List.mem_of_getElem? (i := 34) rfl
theorem eX6_isMeant_51 : (51, Instr.if_icmp .eq 5, 3, 56, 0, 0) ∈ kX6_isMeant := List.mem_of_getElem? (i := 35) rfl
theorem eX6_isMeant_54 : (54, Instr.iconst 0, 1, 0, 0, 0) ∈ kX6_isMeant := List.mem_of_getElem? (i := 36) rfl
theorem eX6_isMeant_55 : (55, Instr.ireturn, 1, 1, 0, 0) ∈ kX6_isMeant := List.mem_of_getElem? (i := 37) rfl
theorem eX6_isMeant_56 : (56, Instr.iinc 3 1, 3, 0, 0, 0) ∈ kX6_isMeant := List.mem_of_getElem? (i := 38) rfl
theorem eX6_isMeant_59 : (59, Instr.goto (-46), 3, 13, 0, 0) ∈ kX6_isMeant := List.mem_of_getElem? (i := 39) rfl
theorem eX6_isMeant_62 : (62, Instr.iconst 1, 1, 0, 0, 0) ∈ kX6_isMeant := List.mem_of_getElem? (i := 40) rfl
theorem eX6_isMeant_63 : (63, Instr.ireturn, 1, 1, 0, 0) ∈ kX6_isMeant := List.mem_of_getElem? (i := 41) rfl
theorem aX6_meant : am_m nX6_meant = mX6_meant := rfl
theorem eX6_meant_0 : (0, Instr.iconst (-1), 1, 0, 0, 0) ∈ kX6_meant := List.mem_of_getElem? (i := 0) rfl
theorem eX6_meant_1 : (1, Instr.istore_n 2, 1, 0, 0, 0) ∈ kX6_meant := List.mem_of_getElem? (i := 1) rfl
theorem eX6_meant_2 : (2, Instr.iconst 0, 1, 0, 0, 0) ∈ kX6_meant := List.mem_of_getElem? (i := 2) rfl
theorem eX6_meant_3 : (3, Instr.istore_n 3, 1, 0, 0, 0) ∈ kX6_meant := List.mem_of_getElem? (i := 3) rfl
theorem eX6_meant_4 : (4, Instr.iload_n 3, 1, 0, 0, 0) ∈ kX6_meant := List.mem_of_getElem? (i := 4) rfl
theorem eX6_meant_5 : (5, Instr.aload_n 0, 1, 0, 0, 0) ∈ kX6_meant := List.mem_of_getElem? (i := 5) rfl
theorem eX6_meant_6 : (6, Instr.getfield 107, 3, 6, 12, 581) ∈ kX6_meant := List.mem_of_getElem? (i := 6) rfl
theorem eX6_meant_9 : (9, Instr.if_icmp .ge 20, 3, 29, 0, 0) ∈ kX6_meant := List.mem_of_getElem? (i := 7) rfl
theorem eX6_meant_12 : (12, Instr.aload_n 0, 1, 0, 0, 0) ∈ kX6_meant := List.mem_of_getElem? (i := 8) rfl
theorem eX6_meant_13 : (13, Instr.iload_n 1, 1, 0, 0, 0) ∈ kX6_meant := List.mem_of_getElem? (i := 9) rfl
theorem eX6_meant_14 : (14, Instr.iload_n 3, 1, 0, 0, 0) ∈ kX6_meant := List.mem_of_getElem? (i := 10) rfl
theorem eX6_meant_15 : (15, Instr.invokevirtual 173, 3, 101, 2, 771) ∈ kX6_meant := List.mem_of_getElem? (i := 11) rfl
theorem eX6_meant_18 : (18, Instr.ifCond .eq 5, 3, 23, 0, 0) ∈ kX6_meant := List.mem_of_getElem? (i := 12) rfl
theorem eX6_meant_21 : (21, Instr.iload_n 3, 1, 0, 0, 0) ∈ kX6_meant := List.mem_of_getElem? (i := 13) rfl
theorem eX6_meant_22 : (22, Instr.istore_n 2, 1, 0, 0, 0) ∈ kX6_meant := List.mem_of_getElem? (i := 14) rfl
theorem eX6_meant_23 : (23, Instr.iinc 3 1, 3, 0, 0, 0) ∈ kX6_meant := List.mem_of_getElem? (i := 15) rfl
theorem eX6_meant_26 : (26, Instr.goto (-22), 3, 4, 0, 0) ∈ kX6_meant := List.mem_of_getElem? (i := 16) rfl
theorem eX6_meant_29 : (29, Instr.iload_n 2, 1, 0, 0, 0) ∈ kX6_meant := List.mem_of_getElem? (i := 17) rfl
theorem eX6_meant_30 : (30, Instr.ireturn, 1, 0, 0, 0) ∈ kX6_meant := List.mem_of_getElem? (i := 18) rfl
theorem aX6_manyTold : am_m nX6_manyTold = mX6_manyTold := rfl
theorem eX6_manyTold_0 : (0, Instr.iconst 0, 1, 0, 0, 0) ∈ kX6_manyTold := List.mem_of_getElem? (i := 0) rfl
theorem eX6_manyTold_1 : (1, Instr.istore_n 2, 1, 0, 0, 0) ∈ kX6_manyTold := List.mem_of_getElem? (i := 1) rfl
theorem eX6_manyTold_2 : (2, Instr.iconst 0, 1, 0, 0, 0) ∈ kX6_manyTold := List.mem_of_getElem? (i := 2) rfl
theorem eX6_manyTold_3 : (3, Instr.istore_n 3, 1, 0, 0, 0) ∈ kX6_manyTold := List.mem_of_getElem? (i := 3) rfl
theorem eX6_manyTold_4 : (4, Instr.iload_n 3, 1, 0, 0, 0) ∈ kX6_manyTold := List.mem_of_getElem? (i := 4) rfl
theorem eX6_manyTold_5 : (5, Instr.iconst 4, 1, 0, 0, 0) ∈ kX6_manyTold := List.mem_of_getElem? (i := 5) rfl
theorem eX6_manyTold_6 : (6, Instr.if_icmp .ge 30, 3, 36, 0, 0) ∈ kX6_manyTold := List.mem_of_getElem? (i := 6) rfl
theorem eX6_manyTold_9 : (9, Instr.iload_n 2, 1, 0, 0, 0) ∈ kX6_manyTold := List.mem_of_getElem? (i := 7) rfl
theorem eX6_manyTold_10 : (10, Instr.aload_n 0, 1, 0, 0, 0) ∈ kX6_manyTold := List.mem_of_getElem? (i := 8) rfl
theorem eX6_manyTold_11 : (11, Instr.getfield 78, 3, 6, 30, 599) ∈ kX6_manyTold := List.mem_of_getElem? (i := 9) rfl
theorem eX6_manyTold_14 : (14, Instr.iconst 4, 1, 0, 0, 0) ∈ kX6_manyTold := List.mem_of_getElem? (i := 10) rfl
theorem eX6_manyTold_15 : (15, Instr.iload_n 1, 1, 0, 0, 0) ∈ kX6_manyTold := List.mem_of_getElem? (i := 11) rfl
theorem eX6_manyTold_16 : (16, Instr.imul, 1, 0, 0, 0) ∈ kX6_manyTold := List.mem_of_getElem? (i := 12) rfl
theorem eX6_manyTold_17 : (17, Instr.iload_n 3, 1, 0, 0, 0) ∈ kX6_manyTold := List.mem_of_getElem? (i := 13) rfl
theorem eX6_manyTold_18 : (18, Instr.iadd, 1, 0, 0, 0) ∈ kX6_manyTold := List.mem_of_getElem? (i := 14) rfl
theorem eX6_manyTold_19 : (19, Instr.iaload, 1, 0, 0, 0) ∈ kX6_manyTold := List.mem_of_getElem? (i := 15) rfl
theorem eX6_manyTold_20 : (20, Instr.ifCond .lt 7, 3, 27, 0, 0) ∈ kX6_manyTold := List.mem_of_getElem? (i := 16) rfl
theorem eX6_manyTold_23 : (23, Instr.iconst 1, 1, 0, 0, 0) ∈ kX6_manyTold := List.mem_of_getElem? (i := 17) rfl
theorem eX6_manyTold_24 : (24, Instr.goto 4, 3, 28, 0, 0) ∈ kX6_manyTold := List.mem_of_getElem? (i := 18) rfl
theorem eX6_manyTold_27 : (27, Instr.iconst 0, 1, 0, 0, 0) ∈ kX6_manyTold := List.mem_of_getElem? (i := 19) rfl
theorem eX6_manyTold_28 : (28, Instr.iadd, 1, 0, 0, 0) ∈ kX6_manyTold := List.mem_of_getElem? (i := 20) rfl
theorem eX6_manyTold_29 : (29, Instr.istore_n 2, 1, 0, 0, 0) ∈ kX6_manyTold := List.mem_of_getElem? (i := 21) rfl
theorem eX6_manyTold_30 : (30, Instr.iinc 3 1, 3, 0, 0, 0) ∈ kX6_manyTold := List.mem_of_getElem? (i := 22) rfl
theorem eX6_manyTold_33 : (33, Instr.goto (-29), 3, 4, 0, 0) ∈ kX6_manyTold := List.mem_of_getElem? (i := 23) rfl
theorem eX6_manyTold_36 : (36, Instr.iload_n 2, 1, 0, 0, 0) ∈ kX6_manyTold := List.mem_of_getElem? (i := 24) rfl
theorem eX6_manyTold_37 : (37, Instr.ireturn, 1, 0, 0, 0) ∈ kX6_manyTold := List.mem_of_getElem? (i := 25) rfl
theorem aX6_means : am_m nX6_means = mX6_means := rfl
theorem eX6_means_0 : (0, Instr.aload_n 0, 1, 0, 0, 0) ∈ kX6_means := List.mem_of_getElem? (i := 0) rfl
theorem eX6_means_1 : (1, Instr.iload_n 1, 1, 0, 0, 0) ∈ kX6_means := List.mem_of_getElem? (i := 1) rfl
theorem eX6_means_2 : (2, Instr.invokevirtual 176, 3, 99, 1, 767) ∈ kX6_means := List.mem_of_getElem? (i := 2) rfl
theorem eX6_means_5 : (5, Instr.ifCond .ne 5, 3, 10, 0, 0) ∈ kX6_means := List.mem_of_getElem? (i := 3) rfl
theorem eX6_means_8 : (8, Instr.iconst (-1), 1, 0, 0, 0) ∈ kX6_means := List.mem_of_getElem? (i := 4) rfl
theorem eX6_means_9 : (9, Instr.ireturn, 1, 0, 0, 0) ∈ kX6_means := List.mem_of_getElem? (i := 5) rfl
theorem eX6_means_10 : (10, Instr.iconst 0, 1, 0, 0, 0) ∈ kX6_means := List.mem_of_getElem? (i := 6) rfl
theorem eX6_means_11 : (11, Instr.istore_n 2, 1, 0, 0, 0) ∈ kX6_means := List.mem_of_getElem? (i := 7) rfl
theorem eX6_means_12 : (12, Instr.iconst 0, 1, 0, 0, 0) ∈ kX6_means := List.mem_of_getElem? (i := 8) rfl
theorem eX6_means_13 : (13, Instr.istore_n 3, 1, 0, 0, 0) ∈ kX6_means := List.mem_of_getElem? (i := 9) rfl
theorem eX6_means_14 : (14, Instr.iload_n 3, 1, 0, 0, 0) ∈ kX6_means := List.mem_of_getElem? (i := 10) rfl
theorem eX6_means_15 : (15, Instr.aload_n 0, 1, 0, 0, 0) ∈ kX6_means := List.mem_of_getElem? (i := 11) rfl
theorem eX6_means_16 : (16, Instr.getfield 107, 3, 6, 12, 581) ∈ kX6_means := List.mem_of_getElem? (i := 12) rfl
theorem eX6_means_19 : (19, Instr.if_icmp .ge 26, 3, 45, 0, 0) ∈ kX6_means := List.mem_of_getElem? (i := 13) rfl
theorem eX6_means_22 : (22, Instr.iload_n 2, 1, 0, 0, 0) ∈ kX6_means := List.mem_of_getElem? (i := 14) rfl
theorem eX6_means_23 : (23, Instr.aload_n 0, 1, 0, 0, 0) ∈ kX6_means := List.mem_of_getElem? (i := 15) rfl
theorem eX6_means_24 : (24, Instr.iload_n 1, 1, 0, 0, 0) ∈ kX6_means := List.mem_of_getElem? (i := 16) rfl
theorem eX6_means_25 : (25, Instr.iload_n 3, 1, 0, 0, 0) ∈ kX6_means := List.mem_of_getElem? (i := 17) rfl
theorem eX6_means_26 : (26, Instr.invokevirtual 173, 3, 101, 2, 771) ∈ kX6_means := List.mem_of_getElem? (i := 18) rfl
theorem eX6_means_29 : (29, Instr.ifCond .eq 7, 3, 36, 0, 0) ∈ kX6_means := List.mem_of_getElem? (i := 19) rfl
theorem eX6_means_32 : (32, Instr.iconst 1, 1, 0, 0, 0) ∈ kX6_means := List.mem_of_getElem? (i := 20) rfl
theorem eX6_means_33 : (33, Instr.goto 4, 3, 37, 0, 0) ∈ kX6_means := List.mem_of_getElem? (i := 21) rfl
theorem eX6_means_36 : (36, Instr.iconst 0, 1, 0, 0, 0) ∈ kX6_means := List.mem_of_getElem? (i := 22) rfl
theorem eX6_means_37 : (37, Instr.iadd, 1, 0, 0, 0) ∈ kX6_means := List.mem_of_getElem? (i := 23) rfl
theorem eX6_means_38 : (38, Instr.istore_n 2, 1, 0, 0, 0) ∈ kX6_means := List.mem_of_getElem? (i := 24) rfl
theorem eX6_means_39 : (39, Instr.iinc 3 1, 3, 0, 0, 0) ∈ kX6_means := List.mem_of_getElem? (i := 25) rfl
theorem eX6_means_42 : (42, Instr.goto (-28), 3, 14, 0, 0) ∈ kX6_means := List.mem_of_getElem? (i := 26) rfl
theorem eX6_means_45 : (45, Instr.iload_n 2, 1, 0, 0, 0) ∈ kX6_means := List.mem_of_getElem? (i := 27) rfl
theorem eX6_means_46 : (46, Instr.ireturn, 1, 0, 0, 0) ∈ kX6_means := List.mem_of_getElem? (i := 28) rfl
theorem aX6_mark : am_m nX6_mark = mX6_mark := rfl
theorem eX6_mark_0 : (0, Instr.aload_n 0, 1, 0, 0, 0) ∈ kX6_mark := List.mem_of_getElem? (i := 0) rfl
theorem eX6_mark_1 : (1, Instr.iload_n 1, 1, 0, 0, 0) ∈ kX6_mark := List.mem_of_getElem? (i := 1) rfl
theorem eX6_mark_2 : (2, Instr.invokevirtual 176, 3, 99, 1, 767) ∈ kX6_mark := List.mem_of_getElem? (i := 2) rfl
theorem eX6_mark_5 : (5, Instr.ifCond .eq 31, 3, 36, 0, 0) ∈ kX6_mark := List.mem_of_getElem? (i := 3) rfl
theorem eX6_mark_8 : (8, Instr.aload_n 0, 1, 0, 0, 0) ∈ kX6_mark := List.mem_of_getElem? (i := 4) rfl
theorem eX6_mark_9 : (9, Instr.getfield 84, 3, 6, 32, 601) ∈ kX6_mark := List.mem_of_getElem? (i := 5) rfl
theorem eX6_mark_12 : (12, Instr.iload_n 1, 1, 0, 0, 0) ∈ kX6_mark := List.mem_of_getElem? (i := 6) rfl
theorem eX6_mark_13 : (13, Instr.baload, 1, 0, 0, 0) ∈ kX6_mark := List.mem_of_getElem? (i := 7) rfl
theorem eX6_mark_14 : (14, Instr.ifCond .ne 22, 3, 36, 0, 0) ∈ kX6_mark := List.mem_of_getElem? (i := 8) rfl
theorem eX6_mark_17 : (17, Instr.iload_n 2, 1, 0, 0, 0) ∈ kX6_mark := List.mem_of_getElem? (i := 9) rfl
theorem eX6_mark_18 : (18, Instr.iconst 0, 1, 0, 0, 0) ∈ kX6_mark := List.mem_of_getElem? (i := 10) rfl
theorem eX6_mark_19 : (19, Instr.iconst 3, 1, 0, 0, 0) ∈ kX6_mark := List.mem_of_getElem? (i := 11) rfl
theorem eX6_mark_20 : (20, Instr.invokestatic 102, 3, 78, 3, 683) ∈ kX6_mark := List.mem_of_getElem? (i := 12) rfl
theorem eX6_mark_23 : (23, Instr.ifCond .eq 13, 3, 36, 0, 0) ∈ kX6_mark := List.mem_of_getElem? (i := 13) rfl
theorem eX6_mark_26 : (26, Instr.iload_n 3, 1, 0, 0, 0) ∈ kX6_mark := List.mem_of_getElem? (i := 14) rfl
theorem eX6_mark_27 : (27, Instr.iconst (-1), 1, 0, 0, 0) ∈ kX6_mark := List.mem_of_getElem? (i := 15) rfl
theorem eX6_mark_28 : (28, Instr.bipush 15, 2, 0, 0, 0) ∈ kX6_mark := List.mem_of_getElem? (i := 16) rfl
theorem eX6_mark_30 : (30, Instr.invokestatic 102, 3, 78, 3, 683) ∈ kX6_mark := List.mem_of_getElem? (i := 17) rfl
theorem eX6_mark_33 : (33, Instr.ifCond .ne 5, 3, 38, 0, 0) ∈ kX6_mark := List.mem_of_getElem? (i := 18) rfl
theorem eX6_mark_36 : (36, Instr.iconst (-1), 1, 0, 0, 0) ∈ kX6_mark := List.mem_of_getElem? (i := 19) rfl
theorem eX6_mark_37 : (37, Instr.ireturn, 1, 0, 0, 0) ∈ kX6_mark := List.mem_of_getElem? (i := 20) rfl
theorem eX6_mark_38 : (38, Instr.aload_n 0, 1, 0, 0, 0) ∈ kX6_mark := List.mem_of_getElem? (i := 21) rfl
theorem eX6_mark_39 : (39, Instr.getfield 78, 3, 6, 30, 599) ∈ kX6_mark := List.mem_of_getElem? (i := 22) rfl
theorem eX6_mark_42 : (42, Instr.iconst 4, 1, 0, 0, 0) ∈ kX6_mark := List.mem_of_getElem? (i := 23) rfl
theorem eX6_mark_43 : (43, Instr.iload_n 1, 1, 0, 0, 0) ∈ kX6_mark := List.mem_of_getElem? (i := 24) rfl
theorem eX6_mark_44 : (44, Instr.imul, 1, 0, 0, 0) ∈ kX6_mark := List.mem_of_getElem? (i := 25) rfl
theorem eX6_mark_45 : (45, Instr.iload_n 2, 1, 0, 0, 0) ∈ kX6_mark := List.mem_of_getElem? (i := 26) rfl
theorem eX6_mark_46 : (46, Instr.iadd, 1, 0, 0, 0) ∈ kX6_mark := List.mem_of_getElem? (i := 27) rfl
theorem eX6_mark_47 : (47, Instr.iload_n 3, 1, 0, 0, 0) ∈ kX6_mark := List.mem_of_getElem? (i := 28) rfl
theorem eX6_mark_48 : (48, Instr.iastore, 1, 0, 0, 0) ∈ kX6_mark := List.mem_of_getElem? (i := 29) rfl
theorem eX6_mark_49 : (49, Instr.aload_n 0, 1, 0, 0, 0) ∈ kX6_mark := List.mem_of_getElem? (i := 30) rfl
theorem eX6_mark_50 : (50, Instr.iload_n 1, 1, 0, 0, 0) ∈ kX6_mark := List.mem_of_getElem? (i := 31) rfl
theorem eX6_mark_51 : (51, Instr.invokevirtual 180, 3, 104, 1, 782) ∈ kX6_mark := List.mem_of_getElem? (i := 32) rfl
theorem eX6_mark_54 : (54, Instr.ireturn, 1, 0, 0, 0) ∈ kX6_mark := List.mem_of_getElem? (i := 33) rfl
theorem aX6_ask : am_m nX6_ask = mX6_ask := rfl
theorem eX6_ask_0 : (0, Instr.aload_n 0, 1, 0, 0, 0) ∈ kX6_ask := List.mem_of_getElem? (i := 0) rfl
theorem eX6_ask_1 : (1, Instr.iload_n 1, 1, 0, 0, 0) ∈ kX6_ask := List.mem_of_getElem? (i := 1) rfl
theorem eX6_ask_2 : (2, Instr.invokevirtual 176, 3, 99, 1, 767) ∈ kX6_ask := List.mem_of_getElem? (i := 2) rfl
theorem eX6_ask_5 : (5, Instr.ifCond .eq 21, 3, 26, 0, 0) ∈ kX6_ask := List.mem_of_getElem? (i := 3) rfl
theorem eX6_ask_8 : (8, Instr.aload_n 0, 1, 0, 0, 0) ∈ kX6_ask := List.mem_of_getElem? (i := 4) rfl
theorem eX6_ask_9 : (9, Instr.getfield 84, 3, 6, 32, 601) ∈ kX6_ask := List.mem_of_getElem? (i := 5) rfl
theorem eX6_ask_12 : (12, Instr.iload_n 1, 1, 0, 0, 0) ∈ kX6_ask := List.mem_of_getElem? (i := 6) rfl
theorem eX6_ask_13 : (13, Instr.baload, 1, 0, 0, 0) ∈ kX6_ask := List.mem_of_getElem? (i := 7) rfl
theorem eX6_ask_14 : (14, Instr.ifCond .ne 12, 3, 26, 0, 0) ∈ kX6_ask := List.mem_of_getElem? (i := 8) rfl
theorem eX6_ask_17 : (17, Instr.aload_n 0, 1, 0, 0, 0) ∈ kX6_ask := List.mem_of_getElem? (i := 9) rfl
theorem eX6_ask_18 : (18, Instr.iload_n 1, 1, 0, 0, 0) ∈ kX6_ask := List.mem_of_getElem? (i := 10) rfl
theorem eX6_ask_19 : (19, Instr.invokevirtual 180, 3, 104, 1, 782) ∈ kX6_ask := List.mem_of_getElem? (i := 11) rfl
theorem eX6_ask_22 : (22, Instr.iconst 2, 1, 0, 0, 0) ∈ kX6_ask := List.mem_of_getElem? (i := 12) rfl
theorem eX6_ask_23 : (23, Instr.if_icmp .ge 5, 3, 28, 0, 0) ∈ kX6_ask := List.mem_of_getElem? (i := 13) rfl
theorem eX6_ask_26 : (26, Instr.iconst (-1), 1, 0, 0, 0) ∈ kX6_ask := List.mem_of_getElem? (i := 14) rfl
theorem eX6_ask_27 : (27, Instr.ireturn, 1, 0, 0, 0) ∈ kX6_ask := List.mem_of_getElem? (i := 15) rfl
theorem eX6_ask_28 : (28, Instr.iconst (-1), 1, 0, 0, 0) ∈ kX6_ask := List.mem_of_getElem? (i := 16) rfl
theorem eX6_ask_29 : (29, Instr.istore_n 2, 1, 0, 0, 0) ∈ kX6_ask := List.mem_of_getElem? (i := 17) rfl
theorem eX6_ask_30 : (30, Instr.iconst 0, 1, 0, 0, 0) ∈ kX6_ask := List.mem_of_getElem? (i := 18) rfl
theorem eX6_ask_31 : (31, Instr.istore_n 3, 1, 0, 0, 0) ∈ kX6_ask := List.mem_of_getElem? (i := 19) rfl
theorem eX6_ask_32 : (32, Instr.iconst 0, 1, 0, 0, 0) ∈ kX6_ask := List.mem_of_getElem? (i := 20) rfl
theorem eX6_ask_33 : (33, Instr.istore 4, 2, 0, 0, 0) ∈ kX6_ask := List.mem_of_getElem? (i := 21) rfl
theorem eX6_ask_35 : (35, Instr.iload 4, 2, 0, 0, 0) ∈ kX6_ask := List.mem_of_getElem? (i := 22) rfl
theorem eX6_ask_37 : (37, Instr.iconst 4, 1, 0, 0, 0) ∈ kX6_ask := List.mem_of_getElem? (i := 23) rfl
theorem eX6_ask_38 : (38, Instr.if_icmp .ge 138, 3, 176, 0, 0) ∈ kX6_ask := List.mem_of_getElem? (i := 24) rfl
theorem eX6_ask_41 : (41, Instr.aload_n 0, 1, 0, 0, 0) ∈ kX6_ask := List.mem_of_getElem? (i := 25) rfl
theorem eX6_ask_42 : (42, Instr.getfield 78, 3, 6, 30, 599) ∈ kX6_ask := List.mem_of_getElem? (i := 26) rfl
theorem eX6_ask_45 : (45, Instr.iconst 4, 1, 0, 0, 0) ∈ kX6_ask := List.mem_of_getElem? (i := 27) rfl
theorem eX6_ask_46 : (46, Instr.iload_n 1, 1, 0, 0, 0) ∈ kX6_ask := List.mem_of_getElem? (i := 28) rfl
theorem eX6_ask_47 : (47, Instr.imul, 1, 0, 0, 0) ∈ kX6_ask := List.mem_of_getElem? (i := 29) rfl
theorem eX6_ask_48 : (48, Instr.iload 4, 2, 0, 0, 0) ∈ kX6_ask := List.mem_of_getElem? (i := 30) rfl
theorem eX6_ask_50 : (50, Instr.iadd, 1, 0, 0, 0) ∈ kX6_ask := List.mem_of_getElem? (i := 31) rfl
theorem eX6_ask_51 : (51, Instr.iaload, 1, 0, 0, 0) ∈ kX6_ask := List.mem_of_getElem? (i := 32) rfl
theorem eX6_ask_52 : (52, Instr.ifCond .lt 6, 3, 58, 0, 0) ∈ kX6_ask := List.mem_of_getElem? (i := 33) rfl
theorem eX6_ask_55 : (55, Instr.goto 115, 3, 170, 0, 0) ∈ kX6_ask := List.mem_of_getElem? (i := 34) rfl
theorem eX6_ask_58 : (58, Instr.iconst 0, 1, 0, 0, 0) ∈ kX6_ask := List.mem_of_getElem? (i := 35) rfl
theorem eX6_ask_59 : (59, Instr.istore 5, 2, 0, 0, 0) ∈ kX6_ask := List.mem_of_getElem? (i := 36) rfl
theorem eX6_ask_61 : (61, Instr.iconst 0, 1, 0, 0, 0) ∈ kX6_ask := List.mem_of_getElem? (i := 37) rfl
theorem eX6_ask_62 : (62, Instr.istore 6, 2, 0, 0, 0) ∈ kX6_ask := List.mem_of_getElem? (i := 38) rfl
theorem eX6_ask_64 : (64, Instr.iload 6, 2, 0, 0, 0) ∈ kX6_ask := List.mem_of_getElem? (i := 39) rfl
theorem eX6_ask_66 : (66, Instr.bipush 16, 2, 0, 0, 0) ∈ kX6_ask := List.mem_of_getElem? (i := 40) rfl
theorem eX6_ask_68 : (68, Instr.if_icmp .ge 83, 3, 151, 0, 0) ∈ kX6_ask := List.mem_of_getElem? (i := 41) rfl
theorem eX6_ask_71 : (71, Instr.iconst 0, 1, 0, 0, 0) ∈ kX6_ask := List.mem_of_getElem? (i := 42) rfl
theorem eX6_ask_72 : (72, Instr.istore 7, 2, 0, 0, 0) ∈ kX6_ask := List.mem_of_getElem? (i := 43) rfl
theorem eX6_ask_74 : (74, Instr.iconst 0, 1, 0, 0, 0) ∈ kX6_ask := List.mem_of_getElem? (i := 44) rfl
theorem eX6_ask_75 : (75, Instr.istore 8, 2, 0, 0, 0) ∈ kX6_ask := List.mem_of_getElem? (i := 45) rfl
theorem eX6_ask_77 : (77, Instr.iload 8, 2, 0, 0, 0) ∈ kX6_ask := List.mem_of_getElem? (i := 46) rfl
theorem eX6_ask_79 : (79, Instr.aload_n 0, 1, 0, 0, 0) ∈ kX6_ask := List.mem_of_getElem? (i := 47) rfl
theorem eX6_ask_80 : (80, Instr.getfield 107, 3, 6, 12, 581) ∈ kX6_ask := List.mem_of_getElem? (i := 48) rfl
theorem eX6_ask_83 : (83, Instr.if_icmp .ge 46, 3, 129, 0, 0) ∈ kX6_ask := List.mem_of_getElem? (i := 49) rfl
theorem eX6_ask_86 : (86, Instr.iload 7, 2, 0, 0, 0) ∈ kX6_ask := List.mem_of_getElem? (i := 50) rfl
theorem eX6_ask_88 : (88, Instr.aload_n 0, 1, 0, 0, 0) ∈ kX6_ask := List.mem_of_getElem? (i := 51) rfl
theorem eX6_ask_89 : (89, Instr.iload_n 1, 1, 0, 0, 0) ∈ kX6_ask := List.mem_of_getElem? (i := 52) rfl
theorem eX6_ask_90 : (90, Instr.iload 8, 2, 0, 0, 0) ∈ kX6_ask := List.mem_of_getElem? (i := 53) rfl
theorem eX6_ask_92 : (92, Instr.invokevirtual 173, 3, 101, 2, 771) ∈ kX6_ask := List.mem_of_getElem? (i := 54) rfl
theorem eX6_ask_95 : (95, Instr.ifCond .eq 24, 3, 119, 0, 0) ∈ kX6_ask := List.mem_of_getElem? (i := 55) rfl
theorem eX6_ask_98 : (98, Instr.aload_n 0, 1, 0, 0, 0) ∈ kX6_ask := List.mem_of_getElem? (i := 56) rfl
theorem eX6_ask_99 : (99, Instr.getfield 51, 3, 6, 20, 589) ∈ kX6_ask := List.mem_of_getElem? (i := 57) rfl
theorem eX6_ask_102 : (102, Instr.iload 8, 2, 0, 0, 0) ∈ kX6_ask := List.mem_of_getElem? (i := 58) rfl
theorem eX6_ask_104 : (104, Instr.iaload, 1, 0, 0, 0) ∈ kX6_ask := List.mem_of_getElem? (i := 59) rfl
theorem eX6_ask_105 : (105, Instr.iload 4, 2, 0, 0, 0) ∈ kX6_ask := List.mem_of_getElem? (i := 60) rfl
theorem eX6_ask_107 : (107, Instr.invokestatic 170, 3, 100, 2, 775) ∈ kX6_ask := List.mem_of_getElem? (i := 61) rfl
theorem eX6_ask_110 : (110, Instr.iload 6, 2, 0, 0, 0) ∈ kX6_ask := List.mem_of_getElem? (i := 62) rfl
theorem eX6_ask_112 : (112, Instr.if_icmp .ne 7, 3, 119, 0, 0) ∈ kX6_ask := List.mem_of_getElem? (i := 63) rfl
theorem eX6_ask_115 : (115, Instr.iconst 1, 1, 0, 0, 0) ∈ kX6_ask := List.mem_of_getElem? (i := 64) rfl
theorem eX6_ask_116 : (116, Instr.goto 4, 3, 120, 0, 0) ∈ kX6_ask := List.mem_of_getElem? (i := 65) rfl
theorem eX6_ask_119 : (119, Instr.iconst 0, 1, 0, 0, 0) ∈ kX6_ask := List.mem_of_getElem? (i := 66) rfl
theorem eX6_ask_120 : (120, Instr.iadd, 1, 0, 0, 0) ∈ kX6_ask := List.mem_of_getElem? (i := 67) rfl
theorem eX6_ask_121 : (121, Instr.istore 7, 2, 0, 0, 0) ∈ kX6_ask := List.mem_of_getElem? (i := 68) rfl
theorem eX6_ask_123 : (123, Instr.iinc 8 1, 3, 0, 0, 0) ∈ kX6_ask := List.mem_of_getElem? (i := 69) rfl
theorem eX6_ask_126 : (126, Instr.goto (-49), 3, 77, 0, 0) ∈ kX6_ask := List.mem_of_getElem? (i := 70) rfl
theorem eX6_ask_129 : (129, Instr.iload 7, 2, 0, 0, 0) ∈ kX6_ask := List.mem_of_getElem? (i := 71) rfl
theorem eX6_ask_131 : (131, Instr.iload 5, 2, 0, 0, 0) ∈ kX6_ask := List.mem_of_getElem? (i := 72) rfl
theorem eX6_ask_133 : (133, Instr.if_icmp .le 8, 3, 141, 0, 0) ∈ kX6_ask := List.mem_of_getElem? (i := 73) rfl
theorem eX6_ask_136 : (136, Instr.iload 7, 2, 0, 0, 0) ∈ kX6_ask := List.mem_of_getElem? (i := 74) rfl
theorem eX6_ask_138 : (138, Instr.goto 5, 3, 143, 0, 0) ∈ kX6_ask := List.mem_of_getElem? (i := 75) rfl
theorem eX6_ask_141 : (141, Instr.iload 5, 2, 0, 0, 0) ∈ kX6_ask := List.mem_of_getElem? (i := 76) rfl
theorem eX6_ask_143 : (143, Instr.istore 5, 2, 0, 0, 0) ∈ kX6_ask := List.mem_of_getElem? (i := 77) rfl
theorem eX6_ask_145 : (145, Instr.iinc 6 1, 3, 0, 0, 0) ∈ kX6_ask := List.mem_of_getElem? (i := 78) rfl
theorem eX6_ask_148 : (148, Instr.goto (-84), 3, 64, 0, 0) ∈ kX6_ask := List.mem_of_getElem? (i := 79) rfl
theorem eX6_ask_151 : (151, Instr.iload_n 2, 1, 0, 0, 0) ∈ kX6_ask := List.mem_of_getElem? (i := 80) rfl
theorem eX6_ask_152 : (152, Instr.ifCond .lt 12, 3, 164, 0, 0) ∈ kX6_ask := List.mem_of_getElem? (i := 81) rfl
theorem eX6_ask_155 : (155, Instr.iload 5, 2, 0, 0, 0) ∈ kX6_ask := List.mem_of_getElem? (i := 82) rfl
theorem eX6_ask_157 : (157, Instr.iload_n 3, 1, 0, 0, 0) ∈ kX6_ask := List.mem_of_getElem? (i := 83) rfl
theorem eX6_ask_158 : (158, Instr.if_icmp .lt 6, 3, 164, 0, 0) ∈ kX6_ask := List.mem_of_getElem? (i := 84) rfl
theorem eX6_ask_161 : (161, Instr.goto 9, 3, 170, 0, 0) ∈ kX6_ask := List.mem_of_getElem? (i := 85) rfl
theorem eX6_ask_164 : (164, Instr.iload 4, 2, 0, 0, 0) ∈ kX6_ask := List.mem_of_getElem? (i := 86) rfl
theorem eX6_ask_166 : (166, Instr.istore_n 2, 1, 0, 0, 0) ∈ kX6_ask := List.mem_of_getElem? (i := 87) rfl
theorem eX6_ask_167 : (167, Instr.iload 5, 2, 0, 0, 0) ∈ kX6_ask := List.mem_of_getElem? (i := 88) rfl
theorem eX6_ask_169 : (169, Instr.istore_n 3, 1, 0, 0, 0) ∈ kX6_ask := List.mem_of_getElem? (i := 89) rfl
theorem eX6_ask_170 : (170, Instr.iinc 4 1, 3, 0, 0, 0) ∈ kX6_ask := List.mem_of_getElem? (i := 90) rfl
theorem eX6_ask_173 : (173, Instr.goto (-138), 3, 35, 0, 0) ∈ kX6_ask := List.mem_of_getElem? (i := 91) rfl
theorem eX6_ask_176 : (176, Instr.iload_n 2, 1, 0, 0, 0) ∈ kX6_ask := List.mem_of_getElem? (i := 92) rfl
theorem eX6_ask_177 : (177, Instr.ireturn, 1, 0, 0, 0) ∈ kX6_ask := List.mem_of_getElem? (i := 93) rfl
theorem aX6_settle : am_m nX6_settle = mX6_settle := rfl
theorem eX6_settle_0 : (0, Instr.aload_n 0, 1, 0, 0, 0) ∈ kX6_settle := List.mem_of_getElem? (i := 0) rfl
theorem eX6_settle_1 : (1, Instr.iload_n 1, 1, 0, 0, 0) ∈ kX6_settle := List.mem_of_getElem? (i := 1) rfl
theorem eX6_settle_2 : (2, Instr.invokevirtual 176, 3, 99, 1, 767) ∈ kX6_settle := List.mem_of_getElem? (i := 2) rfl
theorem eX6_settle_5 : (5, Instr.ifCond .eq 12, 3, 17, 0, 0) ∈ kX6_settle := List.mem_of_getElem? (i := 3) rfl
theorem eX6_settle_8 : (8, Instr.aload_n 0, 1, 0, 0, 0) ∈ kX6_settle := List.mem_of_getElem? (i := 4) rfl
theorem eX6_settle_9 : (9, Instr.getfield 84, 3, 6, 32, 601) ∈ kX6_settle := List.mem_of_getElem? (i := 5) rfl
theorem eX6_settle_12 : (12, Instr.iload_n 1, 1, 0, 0, 0) ∈ kX6_settle := List.mem_of_getElem? (i := 6) rfl
theorem eX6_settle_13 : (13, Instr.baload, 1, 0, 0, 0) ∈ kX6_settle := List.mem_of_getElem? (i := 7) rfl
theorem eX6_settle_14 : (14, Instr.ifCond .eq 6, 3, 20, 0, 0) ∈ kX6_settle := List.mem_of_getElem? (i := 8) rfl
theorem eX6_settle_17 : (17, Instr.bipush (-2), 2, 0, 0, 0) ∈ kX6_settle := List.mem_of_getElem? (i := 9) rfl
theorem eX6_settle_19 : (19, Instr.ireturn, 1, 0, 0, 0) ∈ kX6_settle := List.mem_of_getElem? (i := 10) rfl
theorem eX6_settle_20 : (20, Instr.aload_n 0, 1, 0, 0, 0) ∈ kX6_settle := List.mem_of_getElem? (i := 11) rfl
theorem eX6_settle_21 : (21, Instr.iload_n 1, 1, 0, 0, 0) ∈ kX6_settle := List.mem_of_getElem? (i := 12) rfl
theorem eX6_settle_22 : (22, Instr.invokevirtual 183, 3, 103, 1, 791) ∈ kX6_settle := List.mem_of_getElem? (i := 13) rfl
theorem eX6_settle_25 : (25, Instr.iconst 3, 1, 0, 0, 0) ∈ kX6_settle := List.mem_of_getElem? (i := 14) rfl
theorem eX6_settle_26 : (26, Instr.if_icmp .ge 6, 3, 32, 0, 0) ∈ kX6_settle := List.mem_of_getElem? (i := 15) rfl
theorem eX6_settle_29 : (29, Instr.bipush (-3), 2, 0, 0, 0) ∈ kX6_settle := List.mem_of_getElem? (i := 16) rfl
theorem eX6_settle_31 : (31, Instr.ireturn, 1, 0, 0, 0) ∈ kX6_settle := List.mem_of_getElem? (i := 17) rfl
theorem eX6_settle_32 : (32, Instr.aload_n 0, 1, 0, 0, 0) ∈ kX6_settle := List.mem_of_getElem? (i := 18) rfl
theorem eX6_settle_33 : (33, Instr.iload_n 1, 1, 0, 0, 0) ∈ kX6_settle := List.mem_of_getElem? (i := 19) rfl
theorem eX6_settle_34 : (34, Instr.invokevirtual 180, 3, 104, 1, 782) ∈ kX6_settle := List.mem_of_getElem? (i := 20) rfl
theorem eX6_settle_37 : (37, Instr.istore_n 2, 1, 0, 0, 0) ∈ kX6_settle := List.mem_of_getElem? (i := 21) rfl
theorem eX6_settle_38 : (38, Instr.iload_n 2, 1, 0, 0, 0) ∈ kX6_settle := List.mem_of_getElem? (i := 22) rfl
theorem eX6_settle_39 : (39, Instr.iconst 1, 1, 0, 0, 0) ∈ kX6_settle := List.mem_of_getElem? (i := 23) rfl
theorem eX6_settle_40 : (40, Instr.if_icmp .eq 15, 3, 55, 0, 0) ∈ kX6_settle := List.mem_of_getElem? (i := 24) rfl
theorem eX6_settle_43 : (43, Instr.iload_n 2, 1, 0, 0, 0) ∈ kX6_settle := List.mem_of_getElem? (i := 25) rfl
theorem eX6_settle_44 : (44, Instr.ifCond .ne 8, 3, 52, 0, 0) ∈ kX6_settle := List.mem_of_getElem? (i := 26) rfl
theorem eX6_settle_47 : (47, Instr.bipush (-4), 2, 0, 0, 0) ∈ kX6_settle := List.mem_of_getElem? (i := 27) rfl
theorem eX6_settle_49 : (49, Instr.goto 5, 3, 54, 0, 0) ∈ kX6_settle := List.mem_of_getElem? (i := 28) rfl
theorem eX6_settle_52 : (52, Instr.bipush (-5), 2, 0, 0, 0) ∈ kX6_settle := List.mem_of_getElem? (i := 29) rfl
theorem eX6_settle_54 : (54, Instr.ireturn, 1, 0, 0, 0) ∈ kX6_settle := List.mem_of_getElem? (i := 30) rfl
theorem eX6_settle_55 : (55, Instr.aload_n 0, 1, 0, 0, 0) ∈ kX6_settle := List.mem_of_getElem? (i := 31) rfl
theorem eX6_settle_56 : (56, Instr.iload_n 1, 1, 0, 0, 0) ∈ kX6_settle := List.mem_of_getElem? (i := 32) rfl
theorem eX6_settle_57 : (57, Instr.invokevirtual 186, 3, 102, 1, 795) ∈ kX6_settle := List.mem_of_getElem? (i := 33) rfl
theorem eX6_settle_60 : (60, Instr.istore_n 3, 1, 0, 0, 0) ∈ kX6_settle := List.mem_of_getElem? (i := 34) rfl
theorem eX6_settle_61 : (61, Instr.iconst 0, 1, 0, 0, 0) ∈ kX6_settle := List.mem_of_getElem? (i := 35) rfl
theorem eX6_settle_62 : (62, Instr.istore 4, 2, 0, 0, 0) ∈ kX6_settle := List.mem_of_getElem? (i := 36) rfl
theorem eX6_settle_64 : (64, Instr.iload 4, 2, 0, 0, 0) ∈ kX6_settle := List.mem_of_getElem? (i := 37) rfl
theorem eX6_settle_66 : (66, Instr.aload_n 0, 1, 0, 0, 0) ∈ kX6_settle := List.mem_of_getElem? (i := 38) rfl
theorem eX6_settle_67 : (67, Instr.getfield 167, 3, 6, 29, 598) ∈ kX6_settle := List.mem_of_getElem? (i := 39) rfl
theorem eX6_settle_70 : (70, Instr.if_icmp .ge 58, 3, 128, 0, 0) ∈ kX6_settle := List.mem_of_getElem? (i := 40) rfl
theorem eX6_settle_73 : (73, Instr.iload 4, 2, 0, 0, 0) ∈ kX6_settle := List.mem_of_getElem? (i := 41) rfl
theorem eX6_settle_75 : (75, Instr.iload_n 1, 1, 0, 0, 0) ∈ kX6_settle := List.mem_of_getElem? (i := 42) rfl
theorem eX6_settle_76 : (76, Instr.if_icmp .eq 46, 3, 122, 0, 0) ∈ kX6_settle := List.mem_of_getElem? (i := 43) rfl
theorem eX6_settle_79 : (79, Instr.aload_n 0, 1, 0, 0, 0) ∈ kX6_settle := List.mem_of_getElem? (i := 44) rfl
theorem eX6_settle_80 : (80, Instr.getfield 84, 3, 6, 32, 601) ∈ kX6_settle := List.mem_of_getElem? (i := 45) rfl
theorem eX6_settle_83 : (83, Instr.iload 4, 2, 0, 0, 0) ∈ kX6_settle := List.mem_of_getElem? (i := 46) rfl
theorem eX6_settle_85 : (85, Instr.baload, 1, 0, 0, 0) ∈ kX6_settle := List.mem_of_getElem? (i := 47) rfl
theorem eX6_settle_86 : (86, Instr.ifCond .ne 36, 3, 122, 0, 0) ∈ kX6_settle := List.mem_of_getElem? (i := 48) rfl
theorem eX6_settle_89 : (89, Instr.aload_n 0, 1, 0, 0, 0) ∈ kX6_settle := List.mem_of_getElem? (i := 49) rfl
theorem eX6_settle_90 : (90, Instr.iload 4, 2, 0, 0, 0) ∈ kX6_settle := List.mem_of_getElem? (i := 50) rfl
theorem eX6_settle_92 : (92, Instr.invokevirtual 183, 3, 103, 1, 791) ∈ kX6_settle := List.mem_of_getElem? (i := 51) rfl
theorem eX6_settle_95 : (95, Instr.iconst 3, 1, 0, 0, 0) ∈ kX6_settle := List.mem_of_getElem? (i := 52) rfl
theorem eX6_settle_96 : (96, Instr.if_icmp .lt 26, 3, 122, 0, 0) ∈ kX6_settle := List.mem_of_getElem? (i := 53) rfl
theorem eX6_settle_99 : (99, Instr.aload_n 0, 1, 0, 0, 0) ∈ kX6_settle := List.mem_of_getElem? (i := 54) rfl
theorem eX6_settle_100 : (100, Instr.iload 4, 2, 0, 0, 0) ∈ kX6_settle := List.mem_of_getElem? (i := 55) rfl
theorem eX6_settle_102 : (102, Instr.invokevirtual 180, 3, 104, 1, 782) ∈ kX6_settle := List.mem_of_getElem? (i := 56) rfl
theorem eX6_settle_105 : (105, Instr.iconst 1, 1, 0, 0, 0) ∈ kX6_settle := List.mem_of_getElem? (i := 57) rfl
theorem eX6_settle_106 : (106, Instr.if_icmp .ne 16, 3, 122, 0, 0) ∈ kX6_settle := List.mem_of_getElem? (i := 58) rfl
theorem eX6_settle_109 : (109, Instr.aload_n 0, 1, 0, 0, 0) ∈ kX6_settle := List.mem_of_getElem? (i := 59) rfl
theorem eX6_settle_110 : (110, Instr.iload 4, 2, 0, 0, 0) ∈ kX6_settle := List.mem_of_getElem? (i := 60) rfl
theorem eX6_settle_112 : (112, Instr.invokevirtual 186, 3, 102, 1, 795) ∈ kX6_settle := List.mem_of_getElem? (i := 61) rfl
theorem eX6_settle_115 : (115, Instr.iload_n 3, 1, 0, 0, 0) ∈ kX6_settle := List.mem_of_getElem? (i := 62) rfl
theorem eX6_settle_116 : (116, Instr.if_icmp .ne 6, 3, 122, 0, 0) ∈ kX6_settle := List.mem_of_getElem? (i := 63) rfl
theorem eX6_settle_119 : (119, Instr.bipush (-6), 2, 0, 0, 0) ∈ kX6_settle := List.mem_of_getElem? (i := 64) rfl
theorem eX6_settle_121 : (121, Instr.ireturn, 1, 0, 0, 0) ∈ kX6_settle := List.mem_of_getElem? (i := 65) rfl
theorem eX6_settle_122 : (122, Instr.iinc 4 1, 3, 0, 0, 0) ∈ kX6_settle := List.mem_of_getElem? (i := 66) rfl
theorem eX6_settle_125 : (125, Instr.goto (-61), 3, 64, 0, 0) ∈ kX6_settle := List.mem_of_getElem? (i := 67) rfl
theorem eX6_settle_128 : (128, Instr.aload_n 0, 1, 0, 0, 0) ∈ kX6_settle := List.mem_of_getElem? (i := 68) rfl
theorem eX6_settle_129 : (129, Instr.invokevirtual 135, 3, 80, 0, 704) ∈ kX6_settle := List.mem_of_getElem? (i := 69) rfl
theorem eX6_settle_132 : (132, Instr.ifCond .ne 6, 3, 138, 0, 0) ∈ kX6_settle := List.mem_of_getElem? (i := 70) rfl
theorem eX6_settle_135 : (135, Instr.bipush (-7), 2, 0, 0, 0) ∈ kX6_settle := List.mem_of_getElem? (i := 71) rfl
theorem eX6_settle_137 : (137, Instr.ireturn, 1, 0, 0, 0) ∈ kX6_settle := List.mem_of_getElem? (i := 72) rfl
theorem eX6_settle_138 : (138, Instr.aload_n 0, 1, 0, 0, 0) ∈ kX6_settle := List.mem_of_getElem? (i := 73) rfl
theorem eX6_settle_139 : (139, Instr.getfield 42, 3, 6, 17, 586) ∈ kX6_settle := List.mem_of_getElem? (i := 74) rfl
theorem eX6_settle_142 : (142, Instr.aload_n 0, 1, 0, 0, 0) ∈ kX6_settle := List.mem_of_getElem? (i := 75) rfl
theorem eX6_settle_143 : (143, Instr.getfield 63, 3, 6, 24, 593) ∈ kX6_settle := List.mem_of_getElem? (i := 76) rfl
theorem eX6_settle_146 : (146, Instr.iload_n 3, 1, 0, 0, 0) ∈ kX6_settle := List.mem_of_getElem? (i := 77) rfl
theorem eX6_settle_147 : (147, Instr.iaload, 1, 0, 0, 0) ∈ kX6_settle := List.mem_of_getElem? (i := 78) rfl
theorem eX6_settle_148 : (148, Instr.baload, 1, 0, 0, 0) ∈ kX6_settle := List.mem_of_getElem? (i := 79) rfl
theorem eX6_settle_149 : (149, Instr.ifCond .eq 6, 3, 155, 0, 0) ∈ kX6_settle := List.mem_of_getElem? (i := 80) rfl
theorem eX6_settle_152 : (152, Instr.bipush (-8), 2, 0, 0, 0) ∈ kX6_settle := List.mem_of_getElem? (i := 81) rfl
theorem eX6_settle_154 : (154, Instr.ireturn, 1, 0, 0, 0) ∈ kX6_settle := List.mem_of_getElem? (i := 82) rfl
theorem eX6_settle_155 : (155, Instr.aload_n 0, 1, 0, 0, 0) ∈ kX6_settle := List.mem_of_getElem? (i := 83) rfl
theorem eX6_settle_156 : (156, Instr.iload_n 3, 1, 0, 0, 0) ∈ kX6_settle := List.mem_of_getElem? (i := 84) rfl
theorem eX6_settle_157 : (157, Instr.invokevirtual 157, 3, 93, 1, 742) ∈ kX6_settle := List.mem_of_getElem? (i := 85) rfl
theorem eX6_settle_160 : (160, Instr.sipush 500, 3, 0, 0, 0) ∈ kX6_settle := List.mem_of_getElem? (i := 86) rfl
theorem eX6_settle_163 : (163, Instr.iadd, 1, 0, 0, 0) ∈ kX6_settle := List.mem_of_getElem? (i := 87) rfl
theorem eX6_settle_164 : (164, Instr.istore 4, 2, 0, 0, 0) ∈ kX6_settle := List.mem_of_getElem? (i := 88) rfl
theorem eX6_settle_166 : (166, Instr.aload_n 0, 1, 0, 0, 0) ∈ kX6_settle := List.mem_of_getElem? (i := 89) rfl
theorem eX6_settle_167 : (167, Instr.dup, 1, 0, 0, 0) ∈ kX6_settle := List.mem_of_getElem? (i := 90) rfl
theorem eX6_settle_168 : (168, Instr.getfield 110, 3, 6, 3, 572) ∈ kX6_settle := List.mem_of_getElem? (i := 91) rfl
theorem eX6_settle_171 : (171, Instr.iload 4, 2, 0, 0, 0) ∈ kX6_settle := List.mem_of_getElem? (i := 92) rfl
theorem eX6_settle_173 : (173, Instr.iadd, 1, 0, 0, 0) ∈ kX6_settle := List.mem_of_getElem? (i := 93) rfl
theorem eX6_settle_174 : (174, Instr.putfield 110, 3, 6, 3, 572) ∈ kX6_settle := List.mem_of_getElem? (i := 94) rfl
theorem eX6_settle_177 : (177, Instr.aload_n 0, 1, 0, 0, 0) ∈ kX6_settle := List.mem_of_getElem? (i := 95) rfl
theorem eX6_settle_178 : (178, Instr.iload_n 3, 1, 0, 0, 0) ∈ kX6_settle := List.mem_of_getElem? (i := 96) rfl
theorem eX6_settle_179 : (179, Instr.iconst 1, 1, 0, 0, 0) ∈ kX6_settle := List.mem_of_getElem? (i := 97) rfl
theorem eX6_settle_180 : (180, Instr.invokevirtual 163, 3, 96, 2, 755) ∈ kX6_settle := List.mem_of_getElem? (i := 98) rfl
theorem eX6_settle_183 : (183, Instr.aload_n 0, 1, 0, 0, 0) ∈ kX6_settle := List.mem_of_getElem? (i := 99) rfl
theorem eX6_settle_184 : (184, Instr.getfield 84, 3, 6, 32, 601) ∈ kX6_settle := List.mem_of_getElem? (i := 100) rfl
theorem eX6_settle_187 : (187, Instr.iload_n 1, 1, 0, 0, 0) ∈ kX6_settle := List.mem_of_getElem? (i := 101) rfl
theorem eX6_settle_188 : (188, Instr.iconst 1, 1, 0, 0, 0) ∈ kX6_settle := List.mem_of_getElem? (i := 102) rfl
theorem eX6_settle_189 : (189, Instr.bastore, 1, 0, 0, 0) ∈ kX6_settle := List.mem_of_getElem? (i := 103) rfl
theorem eX6_settle_190 : (190, Instr.aload_n 0, 1, 0, 0, 0) ∈ kX6_settle := List.mem_of_getElem? (i := 104) rfl
theorem eX6_settle_191 : (191, Instr.getfield 81, 3, 6, 31, 600) ∈ kX6_settle := List.mem_of_getElem? (i := 105) rfl
theorem eX6_settle_194 : (194, Instr.iload_n 1, 1, 0, 0, 0) ∈ kX6_settle := List.mem_of_getElem? (i := 106) rfl
theorem eX6_settle_195 : (195, Instr.iload_n 3, 1, 0, 0, 0) ∈ kX6_settle := List.mem_of_getElem? (i := 107) rfl
theorem eX6_settle_196 : (196, Instr.iastore, 1, 0, 0, 0) ∈ kX6_settle := List.mem_of_getElem? (i := 108) rfl
theorem eX6_settle_197 : (197, Instr.iload 4, 2, 0, 0, 0) ∈ kX6_settle := List.mem_of_getElem? (i := 109) rfl
theorem eX6_settle_199 : (199, Instr.ireturn, 1, 0, 0, 0) ∈ kX6_settle := List.mem_of_getElem? (i := 110) rfl
theorem aX6_misfit : am_m nX6_misfit = mX6_misfit := rfl
theorem eX6_misfit_0 : (0, Instr.iconst 0, 1, 0, 0, 0) ∈ kX6_misfit := List.mem_of_getElem? (i := 0) rfl
theorem eX6_misfit_1 : (1, Instr.istore_n 1, 1, 0, 0, 0) ∈ kX6_misfit := List.mem_of_getElem? (i := 1) rfl
theorem eX6_misfit_2 : (2, Instr.iconst 0, 1, 0, 0, 0) ∈ kX6_misfit := List.mem_of_getElem? (i := 2) rfl
theorem eX6_misfit_3 : (3, Instr.istore_n 2, 1, 0, 0, 0) ∈ kX6_misfit := List.mem_of_getElem? (i := 3) rfl
theorem eX6_misfit_4 : (4, Instr.iload_n 2, 1, 0, 0, 0) ∈ kX6_misfit := List.mem_of_getElem? (i := 4) rfl
theorem eX6_misfit_5 : (5, Instr.aload_n 0, 1, 0, 0, 0) ∈ kX6_misfit := List.mem_of_getElem? (i := 5) rfl
theorem eX6_misfit_6 : (6, Instr.getfield 107, 3, 6, 12, 581) ∈ kX6_misfit := List.mem_of_getElem? (i := 6) rfl
theorem eX6_misfit_9 : (9, Instr.if_icmp .ge 32, 3, 41, 0, 0) ∈ kX6_misfit := List.mem_of_getElem? (i := 7) rfl
theorem eX6_misfit_12 : (12, Instr.aload_n 0, 1, 0, 0, 0) ∈ kX6_misfit := List.mem_of_getElem? (i := 8) rfl
theorem eX6_misfit_13 : (13, Instr.getfield 60, 3, 6, 23, 592) ∈ kX6_misfit := List.mem_of_getElem? (i := 9) rfl
theorem eX6_misfit_16 : (16, Instr.iload_n 2, 1, 0, 0, 0) ∈ kX6_misfit := List.mem_of_getElem? (i := 10) rfl
theorem eX6_misfit_17 : (17, Instr.iaload, 1, 0, 0, 0) ∈ kX6_misfit := List.mem_of_getElem? (i := 11) rfl
theorem eX6_misfit_18 : (18, Instr.ifCond .ne 17, 3, 35, 0, 0) ∈ kX6_misfit := List.mem_of_getElem? (i := 12) rfl
theorem eX6_misfit_21 : (21, Instr.iload_n 1, 1, 0, 0, 0) ∈ kX6_misfit := List.mem_of_getElem? (i := 13) rfl
theorem eX6_misfit_22 : (22, Instr.aload_n 0, 1, 0, 0, 0) ∈ kX6_misfit := List.mem_of_getElem? (i := 14) rfl
theorem eX6_misfit_23 : (23, Instr.iload_n 2, 1, 0, 0, 0) ∈ kX6_misfit := List.mem_of_getElem? (i := 15) rfl
theorem eX6_misfit_24 : (24, Instr.aload_n 0, 1, 0, 0, 0) ∈ kX6_misfit := List.mem_of_getElem? (i := 16) rfl
theorem eX6_misfit_25 : (25, Instr.getfield 63, 3, 6, 24, 593) ∈ kX6_misfit := List.mem_of_getElem? (i := 17) rfl
theorem eX6_misfit_28 : (28, Instr.iload_n 2, 1, 0, 0, 0) ∈ kX6_misfit := List.mem_of_getElem? (i := 18) rfl
theorem eX6_misfit_29 : (29, Instr.iaload, 1, 0, 0, 0) ∈ kX6_misfit := List.mem_of_getElem? (i := 19) rfl
theorem eX6_misfit_30 : (30, Instr.invokevirtual 142, 3, 90, 2, 720) ∈ kX6_misfit := List.mem_of_getElem? (i := 20) rfl
theorem eX6_misfit_33 : (33, Instr.iadd, 1, 0, 0, 0) ∈ kX6_misfit := List.mem_of_getElem? (i := 21) rfl
theorem eX6_misfit_34 : (34, Instr.istore_n 1, 1, 0, 0, 0) ∈ kX6_misfit := List.mem_of_getElem? (i := 22) rfl
theorem eX6_misfit_35 : (35, Instr.iinc 2 1, 3, 0, 0, 0) ∈ kX6_misfit := List.mem_of_getElem? (i := 23) rfl
theorem eX6_misfit_38 : (38, Instr.goto (-34), 3, 4, 0, 0) ∈ kX6_misfit := List.mem_of_getElem? (i := 24) rfl
theorem eX6_misfit_41 : (41, Instr.iload_n 1, 1, 0, 0, 0) ∈ kX6_misfit := List.mem_of_getElem? (i := 25) rfl
theorem eX6_misfit_42 : (42, Instr.ireturn, 1, 0, 0, 0) ∈ kX6_misfit := List.mem_of_getElem? (i := 26) rfl
theorem aX6_tidy : am_m nX6_tidy = mX6_tidy := rfl
theorem eX6_tidy_0 : (0, Instr.iload_n 1, 1, 0, 0, 0) ∈ kX6_tidy := List.mem_of_getElem? (i := 0) rfl
theorem eX6_tidy_1 : (1, Instr.iconst 0, 1, 0, 0, 0) ∈ kX6_tidy := List.mem_of_getElem? (i := 1) rfl
theorem eX6_tidy_2 : (2, Instr.bipush 50, 2, 0, 0, 0) ∈ kX6_tidy := List.mem_of_getElem? (i := 2) rfl
theorem eX6_tidy_4 : (4, Instr.invokestatic 102, 3, 78, 3, 683) ∈ kX6_tidy := List.mem_of_getElem? (i := 3) rfl
theorem eX6_tidy_7 : (7, Instr.ifCond .eq 10, 3, 17, 0, 0) ∈ kX6_tidy := List.mem_of_getElem? (i := 4) rfl
theorem eX6_tidy_10 : (10, Instr.aload_n 0, 1, 0, 0, 0) ∈ kX6_tidy := List.mem_of_getElem? (i := 5) rfl
theorem eX6_tidy_11 : (11, Instr.invokevirtual 135, 3, 80, 0, 704) ∈ kX6_tidy := List.mem_of_getElem? (i := 6) rfl
theorem eX6_tidy_14 : (14, Instr.ifCond .eq 5, 3, 19, 0, 0) ∈ kX6_tidy := List.mem_of_getElem? (i := 7) rfl
theorem eX6_tidy_17 : (17, Instr.iconst (-1), 1, 0, 0, 0) ∈ kX6_tidy := List.mem_of_getElem? (i := 8) rfl
theorem eX6_tidy_18 : (18, Instr.ireturn, 1, 0, 0, 0) ∈ kX6_tidy := List.mem_of_getElem? (i := 9) rfl
theorem eX6_tidy_19 : (19, Instr.iconst 0, 1, 0, 0, 0) ∈ kX6_tidy := List.mem_of_getElem? (i := 10) rfl
theorem eX6_tidy_20 : (20, Instr.istore_n 2, 1, 0, 0, 0) ∈ kX6_tidy := List.mem_of_getElem? (i := 11) rfl
theorem eX6_tidy_21 : (21, Instr.iconst 1, 1, 0, 0, 0) ∈ kX6_tidy := List.mem_of_getElem? (i := 12) rfl
theorem eX6_tidy_22 : (22, Instr.istore_n 3, 1, 0, 0, 0) ∈ kX6_tidy := List.mem_of_getElem? (i := 13) rfl
theorem eX6_tidy_23 : (23, Instr.iload_n 3, 1, 0, 0, 0) ∈ kX6_tidy := List.mem_of_getElem? (i := 14) rfl
theorem eX6_tidy_24 : (24, Instr.ifCond .eq 212, 3, 236, 0, 0) ∈ kX6_tidy := List.mem_of_getElem? (i := 15) rfl
theorem eX6_tidy_27 : (27, Instr.iload_n 2, 1, 0, 0, 0) ∈ kX6_tidy := List.mem_of_getElem? (i := 16) rfl
theorem eX6_tidy_28 : (28, Instr.iload_n 1, 1, 0, 0, 0) ∈ kX6_tidy := List.mem_of_getElem? (i := 17) rfl
theorem eX6_tidy_29 : (29, Instr.if_icmp .ge 207, 3, 236, 0, 0) ∈ kX6_tidy := List.mem_of_getElem? (i := 18) rfl
theorem eX6_tidy_32 : (32, Instr.iconst 0, 1, 0, 0, 0) ∈ kX6_tidy := List.mem_of_getElem? (i := 19) rfl
theorem eX6_tidy_33 : (33, Instr.istore 4, 2, 0, 0, 0) ∈ kX6_tidy := List.mem_of_getElem? (i := 20) rfl
theorem eX6_tidy_35 : (35, Instr.iconst (-1), 1, 0, 0, 0) ∈ kX6_tidy := List.mem_of_getElem? (i := 21) rfl
theorem eX6_tidy_36 : (36, Instr.istore 5, 2, 0, 0, 0) ∈ kX6_tidy := List.mem_of_getElem? (i := 22) rfl
theorem eX6_tidy_38 : (38, Instr.iconst (-1), 1, 0, 0, 0) ∈ kX6_tidy := List.mem_of_getElem? (i := 23) rfl
theorem eX6_tidy_39 : (39, Instr.istore 6, 2, 0, 0, 0) ∈ kX6_tidy := List.mem_of_getElem? (i := 24) rfl
theorem eX6_tidy_41 : (41, Instr.iconst 0, 1, 0, 0, 0) ∈ kX6_tidy := List.mem_of_getElem? (i := 25) rfl
theorem eX6_tidy_42 : (42, Instr.istore 7, 2, 0, 0, 0) ∈ kX6_tidy := List.mem_of_getElem? (i := 26) rfl
theorem eX6_tidy_44 : (44, Instr.iload 7, 2, 0, 0, 0) ∈ kX6_tidy := List.mem_of_getElem? (i := 27) rfl
theorem eX6_tidy_46 : (46, Instr.aload_n 0, 1, 0, 0, 0) ∈ kX6_tidy := List.mem_of_getElem? (i := 28) rfl
theorem eX6_tidy_47 : (47, Instr.getfield 107, 3, 6, 12, 581) ∈ kX6_tidy := List.mem_of_getElem? (i := 29) rfl
theorem eX6_tidy_50 : (50, Instr.if_icmp .ge 124, 3, 174, 0, 0) ∈ kX6_tidy := List.mem_of_getElem? (i := 30) rfl
theorem eX6_tidy_53 : (53, Instr.aload_n 0, 1, 0, 0, 0) ∈ kX6_tidy := List.mem_of_getElem? (i := 31) rfl
theorem eX6_tidy_54 : (54, Instr.getfield 60, 3, 6, 23, 592) ∈ kX6_tidy := List.mem_of_getElem? (i := 32) rfl
theorem eX6_tidy_57 : (57, Instr.iload 7, 2, 0, 0, 0) ∈ kX6_tidy := List.mem_of_getElem? (i := 33) rfl
theorem eX6_tidy_59 : (59, Instr.iaload, 1, 0, 0, 0) ∈ kX6_tidy := List.mem_of_getElem? (i := 34) rfl
theorem eX6_tidy_60 : (60, Instr.ifCond .ne 108, 3, 168, 0, 0) ∈ kX6_tidy := List.mem_of_getElem? (i := 35) rfl
theorem eX6_tidy_63 : (63, Instr.aload_n 0, 1, 0, 0, 0) ∈ kX6_tidy := List.mem_of_getElem? (i := 36) rfl
theorem eX6_tidy_64 : (64, Instr.getfield 42, 3, 6, 17, 586) ∈ kX6_tidy := List.mem_of_getElem? (i := 37) rfl
theorem eX6_tidy_67 : (67, Instr.aload_n 0, 1, 0, 0, 0) ∈ kX6_tidy := List.mem_of_getElem? (i := 38) rfl
theorem eX6_tidy_68 : (68, Instr.getfield 63, 3, 6, 24, 593) ∈ kX6_tidy := List.mem_of_getElem? (i := 39) rfl
theorem eX6_tidy_71 : (71, Instr.iload 7, 2, 0, 0, 0) ∈ kX6_tidy := List.mem_of_getElem? (i := 40) rfl
theorem eX6_tidy_73 : (73, Instr.iaload, 1, 0, 0, 0) ∈ kX6_tidy := List.mem_of_getElem? (i := 41) rfl
theorem eX6_tidy_74 : (74, Instr.baload, 1, 0, 0, 0) ∈ kX6_tidy := List.mem_of_getElem? (i := 42) rfl
theorem eX6_tidy_75 : (75, Instr.ifCond .eq 6, 3, 81, 0, 0) ∈ kX6_tidy := List.mem_of_getElem? (i := 43) rfl
theorem eX6_tidy_78 : (78, Instr.goto 90, 3, 168, 0, 0) ∈ kX6_tidy := List.mem_of_getElem? (i := 44) rfl
theorem eX6_tidy_81 : (81, Instr.iconst 0, 1, 0, 0, 0) ∈ kX6_tidy := List.mem_of_getElem? (i := 45) rfl
theorem eX6_tidy_82 : (82, Instr.istore 8, 2, 0, 0, 0) ∈ kX6_tidy := List.mem_of_getElem? (i := 46) rfl
theorem eX6_tidy_84 : (84, Instr.iload 8, 2, 0, 0, 0) ∈ kX6_tidy := List.mem_of_getElem? (i := 47) rfl
theorem eX6_tidy_86 : (86, Instr.aload_n 0, 1, 0, 0, 0) ∈ kX6_tidy := List.mem_of_getElem? (i := 48) rfl
theorem eX6_tidy_87 : (87, Instr.getfield 116, 3, 6, 11, 580) ∈ kX6_tidy := List.mem_of_getElem? (i := 49) rfl
theorem eX6_tidy_90 : (90, Instr.if_icmp .ge 78, 3, 168, 0, 0) ∈ kX6_tidy := List.mem_of_getElem? (i := 50) rfl
theorem eX6_tidy_93 : (93, Instr.aload_n 0, 1, 0, 0, 0) ∈ kX6_tidy := List.mem_of_getElem? (i := 51) rfl
theorem eX6_tidy_94 : (94, Instr.iload 7, 2, 0, 0, 0) ∈ kX6_tidy := List.mem_of_getElem? (i := 52) rfl
theorem eX6_tidy_96 : (96, Instr.aload_n 0, 1, 0, 0, 0) ∈ kX6_tidy := List.mem_of_getElem? (i := 53) rfl
theorem eX6_tidy_97 : (97, Instr.getfield 63, 3, 6, 24, 593) ∈ kX6_tidy := List.mem_of_getElem? (i := 54) rfl
theorem eX6_tidy_100 : (100, Instr.iload 7, 2, 0, 0, 0) ∈ kX6_tidy := List.mem_of_getElem? (i := 55) rfl
theorem eX6_tidy_102 : (102, Instr.iaload, 1, 0, 0, 0) ∈ kX6_tidy := List.mem_of_getElem? (i := 56) rfl
theorem eX6_tidy_103 : (103, Instr.invokevirtual 142, 3, 90, 2, 720) ∈ kX6_tidy := List.mem_of_getElem? (i := 57) rfl
theorem eX6_tidy_106 : (106, Instr.aload_n 0, 1, 0, 0, 0) ∈ kX6_tidy := List.mem_of_getElem? (i := 58) rfl
theorem eX6_tidy_107 : (107, Instr.iload 7, 2, 0, 0, 0) ∈ kX6_tidy := List.mem_of_getElem? (i := 59) rfl
theorem eX6_tidy_109 : (109, Instr.iload 8, 2, 0, 0, 0) ∈ kX6_tidy := List.mem_of_getElem? (i := 60) rfl
theorem eX6_tidy_111 : (111, Instr.invokevirtual 142, 3, 90, 2, 720) ∈ kX6_tidy := List.mem_of_getElem? (i := 61) rfl
theorem eX6_tidy_114 : (114, Instr.isub, 1, 0, 0, 0) ∈ kX6_tidy := List.mem_of_getElem? (i := 62) rfl
theorem eX6_tidy_115 : (115, Instr.istore 9, 2, 0, 0, 0) ∈ kX6_tidy := List.mem_of_getElem? (i := 63) rfl
theorem eX6_tidy_117 : (117, Instr.iload 9, 2, 0, 0, 0) ∈ kX6_tidy := List.mem_of_getElem? (i := 64) rfl
theorem eX6_tidy_119 : (119, Instr.iload 4, 2, 0, 0, 0) ∈ kX6_tidy := List.mem_of_getElem? (i := 65) rfl
theorem eX6_tidy_121 : (121, Instr.if_icmp .le 41, 3, 162, 0, 0) ∈ kX6_tidy := List.mem_of_getElem? (i := 66) rfl
theorem eX6_tidy_124 : (124, Instr.iload 8, 2, 0, 0, 0) ∈ kX6_tidy := List.mem_of_getElem? (i := 67) rfl
theorem eX6_tidy_126 : (126, Instr.aload_n 0, 1, 0, 0, 0) ∈ kX6_tidy := List.mem_of_getElem? (i := 68) rfl
theorem eX6_tidy_127 : (127, Instr.getfield 63, 3, 6, 24, 593) ∈ kX6_tidy := List.mem_of_getElem? (i := 69) rfl
theorem eX6_tidy_130 : (130, Instr.iload 7, 2, 0, 0, 0) ∈ kX6_tidy := List.mem_of_getElem? (i := 70) rfl
theorem eX6_tidy_132 : (132, Instr.iaload, 1, 0, 0, 0) ∈ kX6_tidy := List.mem_of_getElem? (i := 71) rfl
theorem eX6_tidy_133 : (133, Instr.if_icmp .eq 29, 3, 162, 0, 0) ∈ kX6_tidy := List.mem_of_getElem? (i := 72) rfl
theorem eX6_tidy_136 : (136, Instr.aload_n 0, 1, 0, 0, 0) ∈ kX6_tidy := List.mem_of_getElem? (i := 73) rfl
theorem eX6_tidy_137 : (137, Instr.iload 7, 2, 0, 0, 0) ∈ kX6_tidy := List.mem_of_getElem? (i := 74) rfl
theorem eX6_tidy_139 : (139, Instr.iload 8, 2, 0, 0, 0) ∈ kX6_tidy := List.mem_of_getElem? (i := 75) rfl
theorem eX6_tidy_141 : (141, Instr.invokevirtual 139, 3, 88, 2, 708) ∈ kX6_tidy := List.mem_of_getElem? (i := 76) rfl
theorem eX6_tidy_144 : (144, Instr.ifCond .ne 6, 3, 150, 0, 0) ∈ kX6_tidy := List.mem_of_getElem? (i := 77) rfl
theorem eX6_tidy_147 : (147, Instr.goto 15, 3, 162, 0, 0) ∈ kX6_tidy := List.mem_of_getElem? (i := 78) rfl
theorem eX6_tidy_150 : (150, Instr.iload 9, 2, 0, 0, 0) ∈ kX6_tidy := List.mem_of_getElem? (i := 79) rfl
theorem eX6_tidy_152 : (152, Instr.istore 4, 2, 0, 0, 0) ∈ kX6_tidy := List.mem_of_getElem? (i := 80) rfl
theorem eX6_tidy_154 : (154, Instr.iload 7, 2, 0, 0, 0) ∈ kX6_tidy := List.mem_of_getElem? (i := 81) rfl
theorem eX6_tidy_156 : (156, Instr.istore 5, 2, 0, 0, 0) ∈ kX6_tidy := List.mem_of_getElem? (i := 82) rfl
theorem eX6_tidy_158 : (158, Instr.iload 8, 2, 0, 0, 0) ∈ kX6_tidy := List.mem_of_getElem? (i := 83) rfl
theorem eX6_tidy_160 : (160, Instr.istore 6, 2, 0, 0, 0) ∈ kX6_tidy := List.mem_of_getElem? (i := 84) rfl
theorem eX6_tidy_162 : (162, Instr.iinc 8 1, 3, 0, 0, 0) ∈ kX6_tidy := List.mem_of_getElem? (i := 85) rfl
theorem eX6_tidy_165 : (165, Instr.goto (-81), 3, 84, 0, 0) ∈ kX6_tidy := List.mem_of_getElem? (i := 86) rfl
theorem eX6_tidy_168 : (168, Instr.iinc 7 1, 3, 0, 0, 0) ∈ kX6_tidy := List.mem_of_getElem? (i := 87) rfl
theorem eX6_tidy_171 : (171, Instr.goto (-127), 3, 44, 0, 0) ∈ kX6_tidy := List.mem_of_getElem? (i := 88) rfl
theorem eX6_tidy_174 : (174, Instr.iload 5, 2, 0, 0, 0) ∈ kX6_tidy := List.mem_of_getElem? (i := 89) rfl
theorem eX6_tidy_176 : (176, Instr.ifCond .lt 7, 3, 183, 0, 0) ∈ kX6_tidy := List.mem_of_getElem? (i := 90) rfl
theorem eX6_tidy_179 : (179, Instr.iconst 1, 1, 0, 0, 0) ∈ kX6_tidy := List.mem_of_getElem? (i := 91) rfl
theorem eX6_tidy_180 : (180, Instr.goto 4, 3, 184, 0, 0) ∈ kX6_tidy := List.mem_of_getElem? (i := 92) rfl
theorem eX6_tidy_183 : (183, Instr.iconst 0, 1, 0, 0, 0) ∈ kX6_tidy := List.mem_of_getElem? (i := 93) rfl
theorem eX6_tidy_184 : (184, Instr.istore_n 3, 1, 0, 0, 0) ∈ kX6_tidy := List.mem_of_getElem? (i := 94) rfl
theorem eX6_tidy_185 : (185, Instr.iload_n 3, 1, 0, 0, 0) ∈ kX6_tidy := List.mem_of_getElem? (i := 95) rfl
theorem eX6_tidy_186 : (186, Instr.ifCond .ne 6, 3, 192, 0, 0) ∈ kX6_tidy := List.mem_of_getElem? (i := 96) rfl
theorem eX6_tidy_189 : (189, Instr.goto (-166), 3, 23, 0, 0) ∈ kX6_tidy := List.mem_of_getElem? (i := 97) rfl
theorem eX6_tidy_192 : (192, Instr.aload_n 0, 1, 0, 0, 0) ∈ kX6_tidy := List.mem_of_getElem? (i := 98) rfl
theorem eX6_tidy_193 : (193, Instr.dup, 1, 0, 0, 0) ∈ kX6_tidy := List.mem_of_getElem? (i := 99) rfl
theorem eX6_tidy_194 : (194, Instr.getfield 145, 3, 6, 4, 573) ∈ kX6_tidy := List.mem_of_getElem? (i := 100) rfl
theorem eX6_tidy_197 : (197, Instr.aload_n 0, 1, 0, 0, 0) ∈ kX6_tidy := List.mem_of_getElem? (i := 101) rfl
theorem eX6_tidy_198 : (198, Instr.getfield 35, 3, 6, 15, 584) ∈ kX6_tidy := List.mem_of_getElem? (i := 102) rfl
theorem eX6_tidy_201 : (201, Instr.aload_n 0, 1, 0, 0, 0) ∈ kX6_tidy := List.mem_of_getElem? (i := 103) rfl
theorem eX6_tidy_202 : (202, Instr.getfield 63, 3, 6, 24, 593) ∈ kX6_tidy := List.mem_of_getElem? (i := 104) rfl
theorem eX6_tidy_205 : (205, Instr.iload 5, 2, 0, 0, 0) ∈ kX6_tidy := List.mem_of_getElem? (i := 105) rfl
theorem eX6_tidy_207 : (207, Instr.iaload, 1, 0, 0, 0) ∈ kX6_tidy := List.mem_of_getElem? (i := 106) rfl
theorem eX6_tidy_208 : (208, Instr.iaload, 1, 0, 0, 0) ∈ kX6_tidy := List.mem_of_getElem? (i := 107) rfl
theorem eX6_tidy_209 : (209, Instr.aload_n 0, 1, 0, 0, 0) ∈ kX6_tidy := List.mem_of_getElem? (i := 108) rfl
theorem eX6_tidy_210 : (210, Instr.getfield 35, 3, 6, 15, 584) ∈ kX6_tidy := List.mem_of_getElem? (i := 109) rfl
theorem eX6_tidy_213 : (213, Instr.iload 6, 2, 0, 0, 0) ∈ kX6_tidy := List.mem_of_getElem? (i := 110) rfl
theorem eX6_tidy_215 : (215, Instr.iaload, 1, 0, 0, 0) ∈ kX6_tidy := List.mem_of_getElem? (i := 111) rfl
theorem eX6_tidy_216 : (216, Instr.iadd, 1, 0, 0, 0) ∈ kX6_tidy := List.mem_of_getElem? (i := 112) rfl
theorem eX6_tidy_217 : (217, Instr.iadd, 1, 0, 0, 0) ∈ kX6_tidy := List.mem_of_getElem? (i := 113) rfl
theorem eX6_tidy_218 : (218, Instr.putfield 145, 3, 6, 4, 573) ∈ kX6_tidy := List.mem_of_getElem? (i := 114) rfl
theorem eX6_tidy_221 : (221, Instr.aload_n 0, 1, 0, 0, 0) ∈ kX6_tidy := List.mem_of_getElem? (i := 115) rfl
theorem eX6_tidy_222 : (222, Instr.getfield 63, 3, 6, 24, 593) ∈ kX6_tidy := List.mem_of_getElem? (i := 116) rfl
theorem eX6_tidy_225 : (225, Instr.iload 5, 2, 0, 0, 0) ∈ kX6_tidy := List.mem_of_getElem? (i := 117) rfl
theorem eX6_tidy_227 : (227, Instr.iload 6, 2, 0, 0, 0) ∈ kX6_tidy := List.mem_of_getElem? (i := 118) rfl
theorem eX6_tidy_229 : (229, Instr.iastore, 1, 0, 0, 0) ∈ kX6_tidy := List.mem_of_getElem? (i := 119) rfl
theorem eX6_tidy_230 : (230, Instr.iinc 2 1, 3, 0, 0, 0) ∈ kX6_tidy := List.mem_of_getElem? (i := 120) rfl
theorem eX6_tidy_233 : (233, Instr.goto (-210), 3, 23, 0, 0) ∈ kX6_tidy := List.mem_of_getElem? (i := 121) rfl
theorem eX6_tidy_236 : (236, Instr.iload_n 2, 1, 0, 0, 0) ∈ kX6_tidy := List.mem_of_getElem? (i := 122) rfl
theorem eX6_tidy_237 : (237, Instr.ireturn, 1, 0, 0, 0) ∈ kX6_tidy := List.mem_of_getElem? (i := 123) rfl
theorem aX6_least : am_m nX6_least = mX6_least := rfl
theorem eX6_least_0 : (0, Instr.iconst 0, 1, 0, 0, 0) ∈ kX6_least := List.mem_of_getElem? (i := 0) rfl
theorem eX6_least_1 : (1, Instr.istore_n 1, 1, 0, 0, 0) ∈ kX6_least := List.mem_of_getElem? (i := 1) rfl
theorem eX6_least_2 : (2, Instr.iconst 0, 1, 0, 0, 0) ∈ kX6_least := List.mem_of_getElem? (i := 2) rfl
theorem eX6_least_3 : (3, Instr.istore_n 2, 1, 0, 0, 0) ∈ kX6_least := List.mem_of_getElem? (i := 3) rfl
theorem eX6_least_4 : (4, Instr.iconst 0, 1, 0, 0, 0) ∈ kX6_least := List.mem_of_getElem? (i := 4) rfl
theorem eX6_least_5 : (5, Instr.istore_n 3, 1, 0, 0, 0) ∈ kX6_least := List.mem_of_getElem? (i := 5) rfl
theorem eX6_least_6 : (6, Instr.iload_n 3, 1, 0, 0, 0) ∈ kX6_least := List.mem_of_getElem? (i := 6) rfl
theorem eX6_least_7 : (7, Instr.aload_n 0, 1, 0, 0, 0) ∈ kX6_least := List.mem_of_getElem? (i := 7) rfl
theorem eX6_least_8 : (8, Instr.getfield 107, 3, 6, 12, 581) ∈ kX6_least := List.mem_of_getElem? (i := 8) rfl
theorem eX6_least_11 : (11, Instr.if_icmp .ge 69, 3, 80, 0, 0) ∈ kX6_least := List.mem_of_getElem? (i := 9) rfl
theorem eX6_least_14 : (14, Instr.aload_n 0, 1, 0, 0, 0) ∈ kX6_least := List.mem_of_getElem? (i := 10) rfl
theorem eX6_least_15 : (15, Instr.getfield 60, 3, 6, 23, 592) ∈ kX6_least := List.mem_of_getElem? (i := 11) rfl
theorem eX6_least_18 : (18, Instr.iload_n 3, 1, 0, 0, 0) ∈ kX6_least := List.mem_of_getElem? (i := 12) rfl
theorem eX6_least_19 : (19, Instr.iaload, 1, 0, 0, 0) ∈ kX6_least := List.mem_of_getElem? (i := 13) rfl
theorem eX6_least_20 : (20, Instr.ifCond .eq 6, 3, 26, 0, 0) ∈ kX6_least := List.mem_of_getElem? (i := 14) rfl
theorem eX6_least_23 : (23, Instr.goto 51, 3, 74, 0, 0) ∈ kX6_least := List.mem_of_getElem? (i := 15) rfl
theorem eX6_least_26 : (26, Instr.aload_n 0, 1, 0, 0, 0) ∈ kX6_least := List.mem_of_getElem? (i := 16) rfl
theorem eX6_least_27 : (27, Instr.getfield 42, 3, 6, 17, 586) ∈ kX6_least := List.mem_of_getElem? (i := 17) rfl
theorem eX6_least_30 : (30, Instr.aload_n 0, 1, 0, 0, 0) ∈ kX6_least := List.mem_of_getElem? (i := 18) rfl
theorem eX6_least_31 : (31, Instr.getfield 63, 3, 6, 24, 593) ∈ kX6_least := List.mem_of_getElem? (i := 19) rfl
theorem eX6_least_34 : (34, Instr.iload_n 3, 1, 0, 0, 0) ∈ kX6_least := List.mem_of_getElem? (i := 20) rfl
theorem eX6_least_35 : (35, Instr.iaload, 1, 0, 0, 0) ∈ kX6_least := List.mem_of_getElem? (i := 21) rfl
theorem eX6_least_36 : (36, Instr.baload, 1, 0, 0, 0) ∈ kX6_least := List.mem_of_getElem? (i := 22) rfl
theorem eX6_least_37 : (37, Instr.ifCond .eq 20, 3, 57, 0, 0) ∈ kX6_least := List.mem_of_getElem? (i := 23) rfl
theorem eX6_least_40 : (40, Instr.iload_n 2, 1, 0, 0, 0) ∈ kX6_least := List.mem_of_getElem? (i := 24) rfl
theorem eX6_least_41 : (41, Instr.aload_n 0, 1, 0, 0, 0) ∈ kX6_least := List.mem_of_getElem? (i := 25) rfl
theorem eX6_least_42 : (42, Instr.iload_n 3, 1, 0, 0, 0) ∈ kX6_least := List.mem_of_getElem? (i := 26) rfl
theorem eX6_least_43 : (43, Instr.aload_n 0, 1, 0, 0, 0) ∈ kX6_least := List.mem_of_getElem? (i := 27) rfl
theorem eX6_least_44 : (44, Instr.getfield 63, 3, 6, 24, 593) ∈ kX6_least := List.mem_of_getElem? (i := 28) rfl
theorem eX6_least_47 : (47, Instr.iload_n 3, 1, 0, 0, 0) ∈ kX6_least := List.mem_of_getElem? (i := 29) rfl
theorem eX6_least_48 : (48, Instr.iaload, 1, 0, 0, 0) ∈ kX6_least := List.mem_of_getElem? (i := 30) rfl
theorem eX6_least_49 : (49, Instr.invokevirtual 142, 3, 90, 2, 720) ∈ kX6_least := List.mem_of_getElem? (i := 31) rfl
theorem eX6_least_52 : (52, Instr.iadd, 1, 0, 0, 0) ∈ kX6_least := List.mem_of_getElem? (i := 32) rfl
theorem eX6_least_53 : (53, Instr.istore_n 2, 1, 0, 0, 0) ∈ kX6_least := List.mem_of_getElem? (i := 33) rfl
theorem eX6_least_54 : (54, Instr.goto 20, 3, 74, 0, 0) ∈ kX6_least := List.mem_of_getElem? (i := 34) rfl
theorem eX6_least_57 : (57, Instr.iload_n 1, 1, 0, 0, 0) ∈ kX6_least := List.mem_of_getElem? (i := 35) rfl
theorem eX6_least_58 : (58, Instr.iconst 5, 1, 0, 0, 0) ∈ kX6_least := List.mem_of_getElem? (i := 36) rfl
theorem eX6_least_59 : (59, Instr.if_icmp .ne 5, 3, 64, 0, 0) ∈ kX6_least := List.mem_of_getElem? (i := 37) rfl
theorem eX6_least_62 : (62, Instr.iconst (-1), 1, 0, 0, 0) ∈ kX6_least := List.mem_of_getElem? (i := 38) rfl
theorem eX6_least_63 : (63, Instr.ireturn, 1, 0, 0, 0) ∈ kX6_least := List.mem_of_getElem? (i := 39) rfl
theorem eX6_least_64 : (64, Instr.aload_n 0, 1, 0, 0, 0) ∈ kX6_least := List.mem_of_getElem? (i := 40) rfl
theorem eX6_least_65 : (65, Instr.getfield 87, 3, 6, 33, 602) ∈ kX6_least := List.mem_of_getElem? (i := 41) rfl
theorem eX6_least_68 : (68, Instr.iload_n 1, 1, 0, 0, 0) ∈ kX6_least := List.mem_of_getElem? (i := 42) rfl
theorem eX6_least_69 : (69, Instr.iload_n 3, 1, 0, 0, 0) ∈ kX6_least := List.mem_of_getElem? (i := 43) rfl
theorem eX6_least_70 : (70, Instr.iastore, 1, 0, 0, 0) ∈ kX6_least := List.mem_of_getElem? (i := 44) rfl
theorem eX6_least_71 : (71, Instr.iinc 1 1, 3, 0, 0, 0) ∈ kX6_least := List.mem_of_getElem? (i := 45) rfl
theorem eX6_least_74 : (74, Instr.iinc 3 1, 3, 0, 0, 0) ∈ kX6_least := List.mem_of_getElem? (i := 46) rfl
theorem eX6_least_77 : (77, Instr.goto (-71), 3, 6, 0, 0) ∈ kX6_least := List.mem_of_getElem? (i := 47) rfl
theorem eX6_least_80 : (80, Instr.iconst 0, 1, 0, 0, 0) ∈ kX6_least := List.mem_of_getElem? (i := 48) rfl
theorem eX6_least_81 : (81, Instr.istore_n 3, 1, 0, 0, 0) ∈ kX6_least := List.mem_of_getElem? (i := 49) rfl
theorem eX6_least_82 : (82, Instr.iload_n 3, 1, 0, 0, 0) ∈ kX6_least := List.mem_of_getElem? (i := 50) rfl
theorem eX6_least_83 : (83, Instr.aload_n 0, 1, 0, 0, 0) ∈ kX6_least := List.mem_of_getElem? (i := 51) rfl
theorem eX6_least_84 : (84, Instr.getfield 116, 3, 6, 11, 580) ∈ kX6_least := List.mem_of_getElem? (i := 52) rfl
theorem eX6_least_87 : (87, Instr.if_icmp .ge 21, 3, 108, 0, 0) ∈ kX6_least := List.mem_of_getElem? (i := 53) rfl
theorem eX6_least_90 : (90, Instr.aload_n 0, 1, 0, 0, 0) ∈ kX6_least := List.mem_of_getElem? (i := 54) rfl
theorem eX6_least_91 : (91, Instr.getfield 93, 3, 6, 35, 604) ∈ kX6_least := List.mem_of_getElem? (i := 55) rfl
theorem eX6_least_94 : (94, Instr.iload_n 3, 1, 0, 0, 0) ∈ kX6_least := List.mem_of_getElem? (i := 56) rfl
theorem eX6_least_95 : (95, Instr.aload_n 0, 1, 0, 0, 0) ∈ kX6_least := List.mem_of_getElem? (i := 57) rfl
theorem eX6_least_96 : (96, Instr.getfield 29, 3, 6, 13, 582) ∈ kX6_least := List.mem_of_getElem? (i := 58) rfl
theorem eX6_least_99 : (99, Instr.iload_n 3, 1, 0, 0, 0) ∈ kX6_least := List.mem_of_getElem? (i := 59) rfl
theorem eX6_least_100 : (100, Instr.iaload, 1, 0, 0, 0) ∈ kX6_least := List.mem_of_getElem? (i := 60) rfl
theorem eX6_least_101 : (101, Instr.iastore, 1, 0, 0, 0) ∈ kX6_least := List.mem_of_getElem? (i := 61) rfl
theorem eX6_least_102 : (102, Instr.iinc 3 1, 3, 0, 0, 0) ∈ kX6_least := List.mem_of_getElem? (i := 62) rfl
theorem eX6_least_105 : (105, Instr.goto (-23), 3, 82, 0, 0) ∈ kX6_least := List.mem_of_getElem? (i := 63) rfl
theorem eX6_least_108 : (108, Instr.iconst (-1), 1, 0, 0, 0) ∈ kX6_least := List.mem_of_getElem? (i := 64) rfl
theorem eX6_least_109 : (109, Instr.istore_n 3, 1, 0, 0, 0) ∈ kX6_least := List.mem_of_getElem? (i := 65) rfl
theorem eX6_least_110 : (110, Instr.iconst 0, 1, 0, 0, 0) ∈ kX6_least := List.mem_of_getElem? (i := 66) rfl
theorem eX6_least_111 : (111, Instr.istore 4, 2, 0, 0, 0) ∈ kX6_least := List.mem_of_getElem? (i := 67) rfl
theorem eX6_least_113 : (113, Instr.iconst 0, 1, 0, 0, 0) ∈ kX6_least := List.mem_of_getElem? (i := 68) rfl
theorem eX6_least_114 : (114, Instr.istore 5, 2, 0, 0, 0) ∈ kX6_least := List.mem_of_getElem? (i := 69) rfl
theorem eX6_least_116 : (116, Instr.aload_n 0, 1, 0, 0, 0) ∈ kX6_least := List.mem_of_getElem? (i := 70) rfl
theorem eX6_least_117 : (117, Instr.getfield 90, 3, 6, 34, 603) ∈ kX6_least := List.mem_of_getElem? (i := 71) rfl
theorem eX6_least_120 : (120, Instr.iconst 0, 1, 0, 0, 0) ∈ kX6_least := List.mem_of_getElem? (i := 72) rfl
theorem eX6_least_121 : (121, Instr.iconst (-1), 1, 0, 0, 0) ∈ kX6_least := List.mem_of_getElem? (i := 73) rfl
theorem eX6_least_122 : (122, Instr.iastore, 1, 0, 0, 0) ∈ kX6_least := List.mem_of_getElem? (i := 74) rfl
theorem eX6_least_123 : (123, Instr.iload 5, 2, 0, 0, 0) ∈ kX6_least := List.mem_of_getElem? (i := 75) rfl
theorem eX6_least_125 : (125, Instr.ifCond .lt 213, 3, 338, 0, 0) ∈ kX6_least := List.mem_of_getElem? (i := 76) rfl
theorem eX6_least_128 : (128, Instr.iload 5, 2, 0, 0, 0) ∈ kX6_least := List.mem_of_getElem? (i := 77) rfl
theorem eX6_least_130 : (130, Instr.iload_n 1, 1, 0, 0, 0) ∈ kX6_least := List.mem_of_getElem? (i := 78) rfl
theorem eX6_least_131 : (131, Instr.if_icmp .ne 26, 3, 157, 0, 0) ∈ kX6_least := List.mem_of_getElem? (i := 79) rfl
theorem eX6_least_134 : (134, Instr.iload_n 3, 1, 0, 0, 0) ∈ kX6_least := List.mem_of_getElem? (i := 80) rfl
theorem eX6_least_135 : (135, Instr.ifCond .lt 9, 3, 144, 0, 0) ∈ kX6_least := List.mem_of_getElem? (i := 81) rfl
theorem eX6_least_138 : (138, Instr.iload 4, 2, 0, 0, 0) ∈ kX6_least := List.mem_of_getElem? (i := 82) rfl
theorem eX6_least_140 : (140, Instr.iload_n 3, 1, 0, 0, 0) ∈ kX6_least := List.mem_of_getElem? (i := 83) rfl
theorem eX6_least_141 : (141, Instr.if_icmp .ge 8, 3, 149, 0, 0) ∈ kX6_least := List.mem_of_getElem? (i := 84) rfl
theorem eX6_least_144 : (144, Instr.iload 4, 2, 0, 0, 0) ∈ kX6_least := List.mem_of_getElem? (i := 85) rfl
theorem eX6_least_146 : (146, Instr.goto 4, 3, 150, 0, 0) ∈ kX6_least := List.mem_of_getElem? (i := 86) rfl
theorem eX6_least_149 : (149, Instr.iload_n 3, 1, 0, 0, 0) ∈ kX6_least := List.mem_of_getElem? (i := 87) rfl
theorem eX6_least_150 : (150, Instr.istore_n 3, 1, 0, 0, 0) ∈ kX6_least := List.mem_of_getElem? (i := 88) rfl
theorem eX6_least_151 : (151, Instr.iinc 5 (-1), 3, 0, 0, 0) ∈ kX6_least := List.mem_of_getElem? (i := 89) rfl
theorem eX6_least_154 : (154, Instr.goto (-31), 3, 123, 0, 0) ∈ kX6_least := List.mem_of_getElem? (i := 90) rfl
theorem eX6_least_157 : (157, Instr.aload_n 0, 1, 0, 0, 0) ∈ kX6_least := List.mem_of_getElem? (i := 91) rfl
theorem eX6_least_158 : (158, Instr.getfield 87, 3, 6, 33, 602) ∈ kX6_least := List.mem_of_getElem? (i := 92) rfl
theorem eX6_least_161 : (161, Instr.iload 5, 2, 0, 0, 0) ∈ kX6_least := List.mem_of_getElem? (i := 93) rfl
theorem eX6_least_163 : (163, Instr.iaload, 1, 0, 0, 0) ∈ kX6_least := List.mem_of_getElem? (i := 94) rfl
theorem eX6_least_164 : (164, Instr.istore 6, 2, 0, 0, 0) ∈ kX6_least := List.mem_of_getElem? (i := 95) rfl
theorem eX6_least_166 : (166, Instr.aload_n 0, 1, 0, 0, 0) ∈ kX6_least := List.mem_of_getElem? (i := 96) rfl
theorem eX6_least_167 : (167, Instr.getfield 90, 3, 6, 34, 603) ∈ kX6_least := List.mem_of_getElem? (i := 97) rfl
theorem eX6_least_170 : (170, Instr.iload 5, 2, 0, 0, 0) ∈ kX6_least := List.mem_of_getElem? (i := 98) rfl
theorem eX6_least_172 : (172, Instr.iaload, 1, 0, 0, 0) ∈ kX6_least := List.mem_of_getElem? (i := 99) rfl
theorem eX6_least_173 : (173, Instr.ifCond .lt 43, 3, 216, 0, 0) ∈ kX6_least := List.mem_of_getElem? (i := 100) rfl
theorem eX6_least_176 : (176, Instr.aload_n 0, 1, 0, 0, 0) ∈ kX6_least := List.mem_of_getElem? (i := 101) rfl
theorem eX6_least_177 : (177, Instr.getfield 93, 3, 6, 35, 604) ∈ kX6_least := List.mem_of_getElem? (i := 102) rfl
theorem eX6_least_180 : (180, Instr.aload_n 0, 1, 0, 0, 0) ∈ kX6_least := List.mem_of_getElem? (i := 103) rfl
theorem eX6_least_181 : (181, Instr.getfield 90, 3, 6, 34, 603) ∈ kX6_least := List.mem_of_getElem? (i := 104) rfl
theorem eX6_least_184 : (184, Instr.iload 5, 2, 0, 0, 0) ∈ kX6_least := List.mem_of_getElem? (i := 105) rfl
theorem eX6_least_186 : (186, Instr.iaload, 1, 0, 0, 0) ∈ kX6_least := List.mem_of_getElem? (i := 106) rfl
theorem eX6_least_187 : (187, Instr.dup2, 1, 0, 0, 0) ∈ kX6_least := List.mem_of_getElem? (i := 107) rfl
theorem eX6_least_188 : (188, Instr.iaload, 1, 0, 0, 0) ∈ kX6_least := List.mem_of_getElem? (i := 108) rfl
theorem eX6_least_189 : (189, Instr.aload_n 0, 1, 0, 0, 0) ∈ kX6_least := List.mem_of_getElem? (i := 109) rfl
theorem eX6_least_190 : (190, Instr.getfield 45, 3, 6, 18, 587) ∈ kX6_least := List.mem_of_getElem? (i := 110) rfl
theorem eX6_least_193 : (193, Instr.iload 6, 2, 0, 0, 0) ∈ kX6_least := List.mem_of_getElem? (i := 111) rfl
theorem eX6_least_195 : (195, Instr.iaload, 1, 0, 0, 0) ∈ kX6_least := List.mem_of_getElem? (i := 112) rfl
theorem eX6_least_196 : (196, Instr.iadd, 1, 0, 0, 0) ∈ kX6_least := List.mem_of_getElem? (i := 113) rfl
theorem eX6_least_197 : (197, Instr.iastore, 1, 0, 0, 0) ∈ kX6_least := List.mem_of_getElem? (i := 114) rfl
theorem eX6_least_198 : (198, Instr.iload 4, 2, 0, 0, 0) ∈ kX6_least := List.mem_of_getElem? (i := 115) rfl
theorem eX6_least_200 : (200, Instr.aload_n 0, 1, 0, 0, 0) ∈ kX6_least := List.mem_of_getElem? (i := 116) rfl
theorem eX6_least_201 : (201, Instr.iload 6, 2, 0, 0, 0) ∈ kX6_least := List.mem_of_getElem? (i := 117) rfl
theorem eX6_least_203 : (203, Instr.aload_n 0, 1, 0, 0, 0) ∈ kX6_least := List.mem_of_getElem? (i := 118) rfl
theorem eX6_least_204 : (204, Instr.getfield 90, 3, 6, 34, 603) ∈ kX6_least := List.mem_of_getElem? (i := 119) rfl
theorem eX6_least_207 : (207, Instr.iload 5, 2, 0, 0, 0) ∈ kX6_least := List.mem_of_getElem? (i := 120) rfl
theorem eX6_least_209 : (209, Instr.iaload, 1, 0, 0, 0) ∈ kX6_least := List.mem_of_getElem? (i := 121) rfl
theorem eX6_least_210 : (210, Instr.invokevirtual 142, 3, 90, 2, 720) ∈ kX6_least := List.mem_of_getElem? (i := 122) rfl
theorem eX6_least_213 : (213, Instr.isub, 1, 0, 0, 0) ∈ kX6_least := List.mem_of_getElem? (i := 123) rfl
theorem eX6_least_214 : (214, Instr.istore 4, 2, 0, 0, 0) ∈ kX6_least := List.mem_of_getElem? (i := 124) rfl
theorem eX6_least_216 : (216, Instr.aload_n 0, 1, 0, 0, 0) ∈ kX6_least := List.mem_of_getElem? (i := 125) rfl
theorem eX6_least_217 : (217, Instr.getfield 90, 3, 6, 34, 603) ∈ kX6_least := List.mem_of_getElem? (i := 126) rfl
theorem eX6_least_220 : (220, Instr.iload 5, 2, 0, 0, 0) ∈ kX6_least := List.mem_of_getElem? (i := 127) rfl
theorem eX6_least_222 : (222, Instr.iaload, 1, 0, 0, 0) ∈ kX6_least := List.mem_of_getElem? (i := 128) rfl
theorem eX6_least_223 : (223, Instr.iconst 1, 1, 0, 0, 0) ∈ kX6_least := List.mem_of_getElem? (i := 129) rfl
theorem eX6_least_224 : (224, Instr.iadd, 1, 0, 0, 0) ∈ kX6_least := List.mem_of_getElem? (i := 130) rfl
theorem eX6_least_225 : (225, Instr.istore 7, 2, 0, 0, 0) ∈ kX6_least := List.mem_of_getElem? (i := 131) rfl
theorem eX6_least_227 : (227, Instr.iload 7, 2, 0, 0, 0) ∈ kX6_least := List.mem_of_getElem? (i := 132) rfl
theorem eX6_least_229 : (229, Instr.aload_n 0, 1, 0, 0, 0) ∈ kX6_least := List.mem_of_getElem? (i := 133) rfl
theorem eX6_least_230 : (230, Instr.getfield 116, 3, 6, 11, 580) ∈ kX6_least := List.mem_of_getElem? (i := 134) rfl
theorem eX6_least_233 : (233, Instr.if_icmp .ge 37, 3, 270, 0, 0) ∈ kX6_least := List.mem_of_getElem? (i := 135) rfl
theorem eX6_least_236 : (236, Instr.aload_n 0, 1, 0, 0, 0) ∈ kX6_least := List.mem_of_getElem? (i := 136) rfl
theorem eX6_least_237 : (237, Instr.iload 6, 2, 0, 0, 0) ∈ kX6_least := List.mem_of_getElem? (i := 137) rfl
theorem eX6_least_239 : (239, Instr.iload 7, 2, 0, 0, 0) ∈ kX6_least := List.mem_of_getElem? (i := 138) rfl
theorem eX6_least_241 : (241, Instr.invokevirtual 119, 3, 87, 2, 712) ∈ kX6_least := List.mem_of_getElem? (i := 139) rfl
theorem eX6_least_244 : (244, Instr.ifCond .eq 20, 3, 264, 0, 0) ∈ kX6_least := List.mem_of_getElem? (i := 140) rfl
theorem eX6_least_247 : (247, Instr.aload_n 0, 1, 0, 0, 0) ∈ kX6_least := List.mem_of_getElem? (i := 141) rfl
theorem eX6_least_248 : (248, Instr.getfield 93, 3, 6, 35, 604) ∈ kX6_least := List.mem_of_getElem? (i := 142) rfl
theorem eX6_least_251 : (251, Instr.iload 7, 2, 0, 0, 0) ∈ kX6_least := List.mem_of_getElem? (i := 143) rfl
theorem eX6_least_253 : (253, Instr.iaload, 1, 0, 0, 0) ∈ kX6_least := List.mem_of_getElem? (i := 144) rfl
theorem eX6_least_254 : (254, Instr.aload_n 0, 1, 0, 0, 0) ∈ kX6_least := List.mem_of_getElem? (i := 145) rfl
theorem eX6_least_255 : (255, Instr.getfield 45, 3, 6, 18, 587) ∈ kX6_least := List.mem_of_getElem? (i := 146) rfl
theorem eX6_least_258 : (258, Instr.iload 6, 2, 0, 0, 0) ∈ kX6_least := List.mem_of_getElem? (i := 147) rfl
theorem eX6_least_260 : (260, Instr.iaload, 1, 0, 0, 0) ∈ kX6_least := List.mem_of_getElem? (i := 148) rfl
theorem eX6_least_261 : (261, Instr.if_icmp .ge 9, 3, 270, 0, 0) ∈ kX6_least := List.mem_of_getElem? (i := 149) rfl
theorem eX6_least_264 : (264, Instr.iinc 7 1, 3, 0, 0, 0) ∈ kX6_least := List.mem_of_getElem? (i := 150) rfl
theorem eX6_least_267 : (267, Instr.goto (-40), 3, 227, 0, 0) ∈ kX6_least := List.mem_of_getElem? (i := 151) rfl
theorem eX6_least_270 : (270, Instr.iload 7, 2, 0, 0, 0) ∈ kX6_least := List.mem_of_getElem? (i := 152) rfl
theorem eX6_least_272 : (272, Instr.aload_n 0, 1, 0, 0, 0) ∈ kX6_least := List.mem_of_getElem? (i := 153) rfl
theorem eX6_least_273 : (273, Instr.getfield 116, 3, 6, 11, 580) ∈ kX6_least := List.mem_of_getElem? (i := 154) rfl
theorem eX6_least_276 : (276, Instr.if_icmp .ne 9, 3, 285, 0, 0) ∈ kX6_least := List.mem_of_getElem? (i := 155) rfl
theorem eX6_least_279 : (279, Instr.iinc 5 (-1), 3, 0, 0, 0) ∈ kX6_least := List.mem_of_getElem? (i := 156) rfl
theorem eX6_least_282 : (282, Instr.goto (-159), 3, 123, 0, 0) ∈ kX6_least := List.mem_of_getElem? (i := 157) rfl
theorem eX6_least_285 : (285, Instr.aload_n 0, 1, 0, 0, 0) ∈ kX6_least := List.mem_of_getElem? (i := 158) rfl
theorem eX6_least_286 : (286, Instr.getfield 90, 3, 6, 34, 603) ∈ kX6_least := List.mem_of_getElem? (i := 159) rfl
theorem eX6_least_289 : (289, Instr.iload 5, 2, 0, 0, 0) ∈ kX6_least := List.mem_of_getElem? (i := 160) rfl
theorem eX6_least_291 : (291, Instr.iload 7, 2, 0, 0, 0) ∈ kX6_least := List.mem_of_getElem? (i := 161) rfl
theorem eX6_least_293 : (293, Instr.iastore, 1, 0, 0, 0) ∈ kX6_least := List.mem_of_getElem? (i := 162) rfl
theorem eX6_least_294 : (294, Instr.aload_n 0, 1, 0, 0, 0) ∈ kX6_least := List.mem_of_getElem? (i := 163) rfl
theorem eX6_least_295 : (295, Instr.getfield 93, 3, 6, 35, 604) ∈ kX6_least := List.mem_of_getElem? (i := 164) rfl
theorem eX6_least_298 : (298, Instr.iload 7, 2, 0, 0, 0) ∈ kX6_least := List.mem_of_getElem? (i := 165) rfl
theorem eX6_least_300 : (300, Instr.dup2, 1, 0, 0, 0) ∈ kX6_least := List.mem_of_getElem? (i := 166) rfl
theorem eX6_least_301 : (301, Instr.iaload, 1, 0, 0, 0) ∈ kX6_least := List.mem_of_getElem? (i := 167) rfl
theorem eX6_least_302 : (302, Instr.aload_n 0, 1, 0, 0, 0) ∈ kX6_least := List.mem_of_getElem? (i := 168) rfl
theorem eX6_least_303 : (303, Instr.getfield 45, 3, 6, 18, 587) ∈ kX6_least := List.mem_of_getElem? (i := 169) rfl
theorem eX6_least_306 : (306, Instr.iload 6, 2, 0, 0, 0) ∈ kX6_least := List.mem_of_getElem? (i := 170) rfl
theorem eX6_least_308 : (308, Instr.iaload, 1, 0, 0, 0) ∈ kX6_least := List.mem_of_getElem? (i := 171) rfl
theorem eX6_least_309 : (309, Instr.isub, 1, 0, 0, 0) ∈ kX6_least := List.mem_of_getElem? (i := 172) rfl
theorem eX6_least_310 : (310, Instr.iastore, 1, 0, 0, 0) ∈ kX6_least := List.mem_of_getElem? (i := 173) rfl
theorem eX6_least_311 : (311, Instr.iload 4, 2, 0, 0, 0) ∈ kX6_least := List.mem_of_getElem? (i := 174) rfl
theorem eX6_least_313 : (313, Instr.aload_n 0, 1, 0, 0, 0) ∈ kX6_least := List.mem_of_getElem? (i := 175) rfl
theorem eX6_least_314 : (314, Instr.iload 6, 2, 0, 0, 0) ∈ kX6_least := List.mem_of_getElem? (i := 176) rfl
theorem eX6_least_316 : (316, Instr.iload 7, 2, 0, 0, 0) ∈ kX6_least := List.mem_of_getElem? (i := 177) rfl
theorem eX6_least_318 : (318, Instr.invokevirtual 142, 3, 90, 2, 720) ∈ kX6_least := List.mem_of_getElem? (i := 178) rfl
theorem eX6_least_321 : (321, Instr.iadd, 1, 0, 0, 0) ∈ kX6_least := List.mem_of_getElem? (i := 179) rfl
theorem eX6_least_322 : (322, Instr.istore 4, 2, 0, 0, 0) ∈ kX6_least := List.mem_of_getElem? (i := 180) rfl
theorem eX6_least_324 : (324, Instr.iinc 5 1, 3, 0, 0, 0) ∈ kX6_least := List.mem_of_getElem? (i := 181) rfl
theorem eX6_least_327 : (327, Instr.aload_n 0, 1, 0, 0, 0) ∈ kX6_least := List.mem_of_getElem? (i := 182) rfl
theorem eX6_least_328 : (328, Instr.getfield 90, 3, 6, 34, 603) ∈ kX6_least := List.mem_of_getElem? (i := 183) rfl
theorem eX6_least_331 : (331, Instr.iload 5, 2, 0, 0, 0) ∈ kX6_least := List.mem_of_getElem? (i := 184) rfl
theorem eX6_least_333 : (333, Instr.iconst (-1), 1, 0, 0, 0) ∈ kX6_least := List.mem_of_getElem? (i := 185) rfl
theorem eX6_least_334 : (334, Instr.iastore, 1, 0, 0, 0) ∈ kX6_least := List.mem_of_getElem? (i := 186) rfl
theorem eX6_least_335 : (335, Instr.goto (-212), 3, 123, 0, 0) ∈ kX6_least := List.mem_of_getElem? (i := 187) rfl
theorem eX6_least_338 : (338, Instr.iload_n 3, 1, 0, 0, 0) ∈ kX6_least := List.mem_of_getElem? (i := 188) rfl
theorem eX6_least_339 : (339, Instr.iload_n 2, 1, 0, 0, 0) ∈ kX6_least := List.mem_of_getElem? (i := 189) rfl
theorem eX6_least_340 : (340, Instr.iadd, 1, 0, 0, 0) ∈ kX6_least := List.mem_of_getElem? (i := 190) rfl
theorem eX6_least_341 : (341, Instr.ireturn, 1, 0, 0, 0) ∈ kX6_least := List.mem_of_getElem? (i := 191) rfl
theorem aX6_sell : am_m nX6_sell = mX6_sell := rfl
theorem eX6_sell_0 : (0, Instr.iload_n 1, 1, 0, 0, 0) ∈ kX6_sell := List.mem_of_getElem? (i := 0) rfl
theorem eX6_sell_1 : (1, Instr.iconst 0, 1, 0, 0, 0) ∈ kX6_sell := List.mem_of_getElem? (i := 1) rfl
theorem eX6_sell_2 : (2, Instr.aload_n 0, 1, 0, 0, 0) ∈ kX6_sell := List.mem_of_getElem? (i := 2) rfl
theorem eX6_sell_3 : (3, Instr.getfield 107, 3, 6, 12, 581) ∈ kX6_sell := List.mem_of_getElem? (i := 3) rfl
theorem eX6_sell_6 : (6, Instr.iconst 1, 1, 0, 0, 0) ∈ kX6_sell := List.mem_of_getElem? (i := 4) rfl
theorem eX6_sell_7 : (7, Instr.isub, 1, 0, 0, 0) ∈ kX6_sell := List.mem_of_getElem? (i := 5) rfl
theorem eX6_sell_8 : (8, Instr.invokestatic 102, 3, 78, 3, 683) ∈ kX6_sell := List.mem_of_getElem? (i := 6) rfl
theorem eX6_sell_11 : (11, Instr.ifCond .eq 13, 3, 24, 0, 0) ∈ kX6_sell := List.mem_of_getElem? (i := 7) rfl
theorem eX6_sell_14 : (14, Instr.iload_n 2, 1, 0, 0, 0) ∈ kX6_sell := List.mem_of_getElem? (i := 8) rfl
theorem eX6_sell_15 : (15, Instr.iconst 0, 1, 0, 0, 0) ∈ kX6_sell := List.mem_of_getElem? (i := 9) rfl
theorem eX6_sell_16 : (16, Instr.ldc 106, 2, 100000, 0, 690) ∈ kX6_sell := List.mem_of_getElem? (i := 10) rfl
theorem eX6_sell_18 : (18, Instr.invokestatic 102, 3, 78, 3, 683) ∈ kX6_sell := List.mem_of_getElem? (i := 11) rfl
theorem eX6_sell_21 : (21, Instr.ifCond .ne 6, 3, 27, 0, 0) ∈ kX6_sell := List.mem_of_getElem? (i := 12) rfl
theorem eX6_sell_24 : (24, Instr.bipush (-2), 2, 0, 0, 0) ∈ kX6_sell := List.mem_of_getElem? (i := 13) rfl
theorem eX6_sell_26 : (26, Instr.ireturn, 1, 0, 0, 0) ∈ kX6_sell := List.mem_of_getElem? (i := 14) rfl
theorem eX6_sell_27 : (27, Instr.aload_n 0, 1, 0, 0, 0) ∈ kX6_sell := List.mem_of_getElem? (i := 15) rfl
theorem eX6_sell_28 : (28, Instr.getfield 60, 3, 6, 23, 592) ∈ kX6_sell := List.mem_of_getElem? (i := 16) rfl
theorem eX6_sell_31 : (31, Instr.iload_n 1, 1, 0, 0, 0) ∈ kX6_sell := List.mem_of_getElem? (i := 17) rfl
theorem eX6_sell_32 : (32, Instr.iaload, 1, 0, 0, 0) ∈ kX6_sell := List.mem_of_getElem? (i := 18) rfl
theorem eX6_sell_33 : (33, Instr.ifCond .eq 6, 3, 39, 0, 0) ∈ kX6_sell := List.mem_of_getElem? (i := 19) rfl
theorem eX6_sell_36 : (36, Instr.bipush (-3), 2, 0, 0, 0) ∈ kX6_sell := List.mem_of_getElem? (i := 20) rfl
theorem eX6_sell_38 : (38, Instr.ireturn, 1, 0, 0, 0) ∈ kX6_sell := List.mem_of_getElem? (i := 21) rfl
theorem eX6_sell_39 : (39, Instr.aload_n 0, 1, 0, 0, 0) ∈ kX6_sell := List.mem_of_getElem? (i := 22) rfl
theorem eX6_sell_40 : (40, Instr.getfield 96, 3, 6, 0, 569) ∈ kX6_sell := List.mem_of_getElem? (i := 23) rfl
theorem eX6_sell_43 : (43, Instr.sipush 1440, 3, 0, 0, 0) ∈ kX6_sell := List.mem_of_getElem? (i := 24) rfl
theorem eX6_sell_46 : (46, Instr.idiv, 1, 0, 0, 0) ∈ kX6_sell := List.mem_of_getElem? (i := 25) rfl
theorem eX6_sell_47 : (47, Instr.aload_n 0, 1, 0, 0, 0) ∈ kX6_sell := List.mem_of_getElem? (i := 26) rfl
theorem eX6_sell_48 : (48, Instr.getfield 54, 3, 6, 21, 590) ∈ kX6_sell := List.mem_of_getElem? (i := 27) rfl
theorem eX6_sell_51 : (51, Instr.iload_n 1, 1, 0, 0, 0) ∈ kX6_sell := List.mem_of_getElem? (i := 28) rfl
theorem eX6_sell_52 : (52, Instr.iaload, 1, 0, 0, 0) ∈ kX6_sell := List.mem_of_getElem? (i := 29) rfl
theorem eX6_sell_53 : (53, Instr.sipush 1440, 3, 0, 0, 0) ∈ kX6_sell := List.mem_of_getElem? (i := 30) rfl
theorem eX6_sell_56 : (56, Instr.idiv, 1, 0, 0, 0) ∈ kX6_sell := List.mem_of_getElem? (i := 31) rfl
theorem eX6_sell_57 : (57, Instr.isub, 1, 0, 0, 0) ∈ kX6_sell := List.mem_of_getElem? (i := 32) rfl
theorem eX6_sell_58 : (58, Instr.bipush 7, 2, 0, 0, 0) ∈ kX6_sell := List.mem_of_getElem? (i := 33) rfl
theorem eX6_sell_60 : (60, Instr.if_icmp .ge 6, 3, 66, 0, 0) ∈ kX6_sell := List.mem_of_getElem? (i := 34) rfl
theorem eX6_sell_63 : (63, Instr.bipush (-4), 2, 0, 0, 0) ∈ kX6_sell := List.mem_of_getElem? (i := 35) rfl
theorem eX6_sell_65 : (65, Instr.ireturn, 1, 0, 0, 0) ∈ kX6_sell := List.mem_of_getElem? (i := 36) rfl
theorem eX6_sell_66 : (66, Instr.aload_n 0, 1, 0, 0, 0) ∈ kX6_sell := List.mem_of_getElem? (i := 37) rfl
theorem eX6_sell_67 : (67, Instr.getfield 42, 3, 6, 17, 586) ∈ kX6_sell := List.mem_of_getElem? (i := 38) rfl
theorem eX6_sell_70 : (70, Instr.aload_n 0, 1, 0, 0, 0) ∈ kX6_sell := List.mem_of_getElem? (i := 39) rfl
theorem eX6_sell_71 : (71, Instr.getfield 63, 3, 6, 24, 593) ∈ kX6_sell := List.mem_of_getElem? (i := 40) rfl
theorem eX6_sell_74 : (74, Instr.iload_n 1, 1, 0, 0, 0) ∈ kX6_sell := List.mem_of_getElem? (i := 41) rfl
theorem eX6_sell_75 : (75, Instr.iaload, 1, 0, 0, 0) ∈ kX6_sell := List.mem_of_getElem? (i := 42) rfl
theorem eX6_sell_76 : (76, Instr.baload, 1, 0, 0, 0) ∈ kX6_sell := List.mem_of_getElem? (i := 43) rfl
theorem eX6_sell_77 : (77, Instr.ifCond .eq 6, 3, 83, 0, 0) ∈ kX6_sell := List.mem_of_getElem? (i := 44) rfl
theorem eX6_sell_80 : (80, Instr.bipush (-5), 2, 0, 0, 0) ∈ kX6_sell := List.mem_of_getElem? (i := 45) rfl
theorem eX6_sell_82 : (82, Instr.ireturn, 1, 0, 0, 0) ∈ kX6_sell := List.mem_of_getElem? (i := 46) rfl
theorem eX6_sell_83 : (83, Instr.aload_n 0, 1, 0, 0, 0) ∈ kX6_sell := List.mem_of_getElem? (i := 47) rfl
theorem eX6_sell_84 : (84, Instr.getfield 69, 3, 6, 26, 595) ∈ kX6_sell := List.mem_of_getElem? (i := 48) rfl
theorem eX6_sell_87 : (87, Instr.iload_n 1, 1, 0, 0, 0) ∈ kX6_sell := List.mem_of_getElem? (i := 49) rfl
theorem eX6_sell_88 : (88, Instr.aload_n 0, 1, 0, 0, 0) ∈ kX6_sell := List.mem_of_getElem? (i := 50) rfl
theorem eX6_sell_89 : (89, Instr.getfield 96, 3, 6, 0, 569) ∈ kX6_sell := List.mem_of_getElem? (i := 51) rfl
theorem eX6_sell_92 : (92, Instr.sipush 1440, 3, 0, 0, 0) ∈ kX6_sell := List.mem_of_getElem? (i := 52) rfl
theorem eX6_sell_95 : (95, Instr.idiv, 1, 0, 0, 0) ∈ kX6_sell := List.mem_of_getElem? (i := 53) rfl
theorem eX6_sell_96 : (96, Instr.iastore, 1, 0, 0, 0) ∈ kX6_sell := List.mem_of_getElem? (i := 54) rfl
theorem eX6_sell_97 : (97, Instr.aload_n 0, 1, 0, 0, 0) ∈ kX6_sell := List.mem_of_getElem? (i := 55) rfl
theorem eX6_sell_98 : (98, Instr.getfield 75, 3, 6, 28, 597) ∈ kX6_sell := List.mem_of_getElem? (i := 56) rfl
theorem eX6_sell_101 : (101, Instr.iload_n 1, 1, 0, 0, 0) ∈ kX6_sell := List.mem_of_getElem? (i := 57) rfl
theorem eX6_sell_102 : (102, Instr.baload, 1, 0, 0, 0) ∈ kX6_sell := List.mem_of_getElem? (i := 58) rfl
theorem eX6_sell_103 : (103, Instr.ifCond .eq 11, 3, 114, 0, 0) ∈ kX6_sell := List.mem_of_getElem? (i := 59) rfl
theorem eX6_sell_106 : (106, Instr.aload_n 0, 1, 0, 0, 0) ∈ kX6_sell := List.mem_of_getElem? (i := 60) rfl
theorem eX6_sell_107 : (107, Instr.iload_n 1, 1, 0, 0, 0) ∈ kX6_sell := List.mem_of_getElem? (i := 61) rfl
theorem eX6_sell_108 : (108, Instr.iconst 5, 1, 0, 0, 0) ∈ kX6_sell := List.mem_of_getElem? (i := 62) rfl
theorem eX6_sell_109 : (109, Instr.invokevirtual 163, 3, 96, 2, 755) ∈ kX6_sell := List.mem_of_getElem? (i := 63) rfl
theorem eX6_sell_112 : (112, Instr.iconst 1, 1, 0, 0, 0) ∈ kX6_sell := List.mem_of_getElem? (i := 64) rfl
theorem eX6_sell_113 : (113, Instr.ireturn, 1, 0, 0, 0) ∈ kX6_sell := List.mem_of_getElem? (i := 65) rfl
theorem eX6_sell_114 : (114, Instr.aload_n 0, 1, 0, 0, 0) ∈ kX6_sell := List.mem_of_getElem? (i := 66) rfl
theorem eX6_sell_115 : (115, Instr.getfield 66, 3, 6, 25, 594) ∈ kX6_sell := List.mem_of_getElem? (i := 67) rfl
theorem eX6_sell_118 : (118, Instr.iload_n 1, 1, 0, 0, 0) ∈ kX6_sell := List.mem_of_getElem? (i := 68) rfl
theorem eX6_sell_119 : (119, Instr.iload_n 2, 1, 0, 0, 0) ∈ kX6_sell := List.mem_of_getElem? (i := 69) rfl
theorem eX6_sell_120 : (120, Instr.iastore, 1, 0, 0, 0) ∈ kX6_sell := List.mem_of_getElem? (i := 70) rfl
theorem eX6_sell_121 : (121, Instr.aload_n 0, 1, 0, 0, 0) ∈ kX6_sell := List.mem_of_getElem? (i := 71) rfl
theorem eX6_sell_122 : (122, Instr.iload_n 1, 1, 0, 0, 0) ∈ kX6_sell := List.mem_of_getElem? (i := 72) rfl
theorem eX6_sell_123 : (123, Instr.iconst 2, 1, 0, 0, 0) ∈ kX6_sell := List.mem_of_getElem? (i := 73) rfl
theorem eX6_sell_124 : (124, Instr.invokevirtual 163, 3, 96, 2, 755) ∈ kX6_sell := List.mem_of_getElem? (i := 74) rfl
theorem eX6_sell_127 : (127, Instr.iconst 0, 1, 0, 0, 0) ∈ kX6_sell := List.mem_of_getElem? (i := 75) rfl
theorem eX6_sell_128 : (128, Instr.ireturn, 1, 0, 0, 0) ∈ kX6_sell := List.mem_of_getElem? (i := 76) rfl
theorem aX6_pay : am_m nX6_pay = mX6_pay := rfl
theorem eX6_pay_0 : (0, Instr.aload_n 0, 1, 0, 0, 0) ∈ kX6_pay := List.mem_of_getElem? (i := 0) rfl
theorem eX6_pay_1 : (1, Instr.iload_n 1, 1, 0, 0, 0) ∈ kX6_pay := List.mem_of_getElem? (i := 1) rfl
theorem eX6_pay_2 : (2, Instr.invokevirtual 154, 3, 94, 1, 738) ∈ kX6_pay := List.mem_of_getElem? (i := 2) rfl
theorem eX6_pay_5 : (5, Instr.istore_n 2, 1, 0, 0, 0) ∈ kX6_pay := List.mem_of_getElem? (i := 3) rfl
theorem eX6_pay_6 : (6, Instr.iload_n 2, 1, 0, 0, 0) ∈ kX6_pay := List.mem_of_getElem? (i := 4) rfl
theorem eX6_pay_7 : (7, Instr.ifCond .ge 5, 3, 12, 0, 0) ∈ kX6_pay := List.mem_of_getElem? (i := 5) rfl
theorem eX6_pay_10 : (10, Instr.iload_n 2, 1, 0, 0, 0) ∈ kX6_pay := List.mem_of_getElem? (i := 6) rfl
theorem eX6_pay_11 : (11, Instr.ireturn, 1, 0, 0, 0) ∈ kX6_pay := List.mem_of_getElem? (i := 7) rfl
theorem eX6_pay_12 : (12, Instr.aload_n 0, 1, 0, 0, 0) ∈ kX6_pay := List.mem_of_getElem? (i := 8) rfl
theorem eX6_pay_13 : (13, Instr.getfield 60, 3, 6, 23, 592) ∈ kX6_pay := List.mem_of_getElem? (i := 9) rfl
theorem eX6_pay_16 : (16, Instr.iload_n 2, 1, 0, 0, 0) ∈ kX6_pay := List.mem_of_getElem? (i := 10) rfl
theorem eX6_pay_17 : (17, Instr.iaload, 1, 0, 0, 0) ∈ kX6_pay := List.mem_of_getElem? (i := 11) rfl
theorem eX6_pay_18 : (18, Instr.iconst 2, 1, 0, 0, 0) ∈ kX6_pay := List.mem_of_getElem? (i := 12) rfl
theorem eX6_pay_19 : (19, Instr.if_icmp .eq 6, 3, 25, 0, 0) ∈ kX6_pay := List.mem_of_getElem? (i := 13) rfl
theorem eX6_pay_22 : (22, Instr.bipush (-4), 2, 0, 0, 0) ∈ kX6_pay := List.mem_of_getElem? (i := 14) rfl
theorem eX6_pay_24 : (24, Instr.ireturn, 1, 0, 0, 0) ∈ kX6_pay := List.mem_of_getElem? (i := 15) rfl
theorem eX6_pay_25 : (25, Instr.aload_n 0, 1, 0, 0, 0) ∈ kX6_pay := List.mem_of_getElem? (i := 16) rfl
theorem eX6_pay_26 : (26, Instr.invokevirtual 135, 3, 80, 0, 704) ∈ kX6_pay := List.mem_of_getElem? (i := 17) rfl
theorem eX6_pay_29 : (29, Instr.ifCond .ne 6, 3, 35, 0, 0) ∈ kX6_pay := List.mem_of_getElem? (i := 18) rfl
theorem eX6_pay_32 : (32, Instr.bipush (-6), 2, 0, 0, 0) ∈ kX6_pay := List.mem_of_getElem? (i := 19) rfl
theorem eX6_pay_34 : (34, Instr.ireturn, 1, 0, 0, 0) ∈ kX6_pay := List.mem_of_getElem? (i := 20) rfl
theorem eX6_pay_35 : (35, Instr.aload_n 0, 1, 0, 0, 0) ∈ kX6_pay := List.mem_of_getElem? (i := 21) rfl
theorem eX6_pay_36 : (36, Instr.iload_n 2, 1, 0, 0, 0) ∈ kX6_pay := List.mem_of_getElem? (i := 22) rfl
theorem eX6_pay_37 : (37, Instr.invokevirtual 157, 3, 93, 1, 742) ∈ kX6_pay := List.mem_of_getElem? (i := 23) rfl
theorem eX6_pay_40 : (40, Instr.istore_n 3, 1, 0, 0, 0) ∈ kX6_pay := List.mem_of_getElem? (i := 24) rfl
theorem eX6_pay_41 : (41, Instr.iload_n 3, 1, 0, 0, 0) ∈ kX6_pay := List.mem_of_getElem? (i := 25) rfl
theorem eX6_pay_42 : (42, Instr.aload_n 0, 1, 0, 0, 0) ∈ kX6_pay := List.mem_of_getElem? (i := 26) rfl
theorem eX6_pay_43 : (43, Instr.getfield 66, 3, 6, 25, 594) ∈ kX6_pay := List.mem_of_getElem? (i := 27) rfl
theorem eX6_pay_46 : (46, Instr.iload_n 2, 1, 0, 0, 0) ∈ kX6_pay := List.mem_of_getElem? (i := 28) rfl
theorem eX6_pay_47 : (47, Instr.iaload, 1, 0, 0, 0) ∈ kX6_pay := List.mem_of_getElem? (i := 29) rfl
theorem eX6_pay_48 : (48, Instr.if_icmp .ge 7, 3, 55, 0, 0) ∈ kX6_pay := List.mem_of_getElem? (i := 30) rfl
theorem eX6_pay_51 : (51, Instr.iload_n 3, 1, 0, 0, 0) ∈ kX6_pay := List.mem_of_getElem? (i := 31) rfl
theorem eX6_pay_52 : (52, Instr.goto 9, 3, 61, 0, 0) ∈ kX6_pay := List.mem_of_getElem? (i := 32) rfl
theorem eX6_pay_55 : (55, Instr.aload_n 0, 1, 0, 0, 0) ∈ kX6_pay := List.mem_of_getElem? (i := 33) rfl
theorem eX6_pay_56 : (56, Instr.getfield 66, 3, 6, 25, 594) ∈ kX6_pay := List.mem_of_getElem? (i := 34) rfl
theorem eX6_pay_59 : (59, Instr.iload_n 2, 1, 0, 0, 0) ∈ kX6_pay := List.mem_of_getElem? (i := 35) rfl
theorem eX6_pay_60 : (60, Instr.iaload, 1, 0, 0, 0) ∈ kX6_pay := List.mem_of_getElem? (i := 36) rfl
theorem eX6_pay_61 : (61, Instr.istore 4, 2, 0, 0, 0) ∈ kX6_pay := List.mem_of_getElem? (i := 37) rfl
theorem eX6_pay_63 : (63, Instr.aload_n 0, 1, 0, 0, 0) ∈ kX6_pay := List.mem_of_getElem? (i := 38) rfl
theorem eX6_pay_64 : (64, Instr.getfield 66, 3, 6, 25, 594) ∈ kX6_pay := List.mem_of_getElem? (i := 39) rfl
theorem eX6_pay_67 : (67, Instr.iload_n 2, 1, 0, 0, 0) ∈ kX6_pay := List.mem_of_getElem? (i := 40) rfl
theorem eX6_pay_68 : (68, Instr.iaload, 1, 0, 0, 0) ∈ kX6_pay := List.mem_of_getElem? (i := 41) rfl
theorem eX6_pay_69 : (69, Instr.iload 4, 2, 0, 0, 0) ∈ kX6_pay := List.mem_of_getElem? (i := 42) rfl
theorem eX6_pay_71 : (71, Instr.isub, 1, 0, 0, 0) ∈ kX6_pay := List.mem_of_getElem? (i := 43) rfl
theorem eX6_pay_72 : (72, Instr.istore 5, 2, 0, 0, 0) ∈ kX6_pay := List.mem_of_getElem? (i := 44) rfl
theorem eX6_pay_74 : (74, Instr.aload_n 0, 1, 0, 0, 0) ∈ kX6_pay := List.mem_of_getElem? (i := 45) rfl
theorem eX6_pay_75 : (75, Instr.dup, 1, 0, 0, 0) ∈ kX6_pay := List.mem_of_getElem? (i := 46) rfl
theorem eX6_pay_76 : (76, Instr.getfield 110, 3, 6, 3, 572) ∈ kX6_pay := List.mem_of_getElem? (i := 47) rfl
theorem eX6_pay_79 : (79, Instr.iload 4, 2, 0, 0, 0) ∈ kX6_pay := List.mem_of_getElem? (i := 48) rfl
theorem eX6_pay_81 : (81, Instr.iadd, 1, 0, 0, 0) ∈ kX6_pay := List.mem_of_getElem? (i := 49) rfl
theorem eX6_pay_82 : (82, Instr.putfield 110, 3, 6, 3, 572) ∈ kX6_pay := List.mem_of_getElem? (i := 50) rfl
theorem eX6_pay_85 : (85, Instr.aload_n 0, 1, 0, 0, 0) ∈ kX6_pay := List.mem_of_getElem? (i := 51) rfl
theorem eX6_pay_86 : (86, Instr.getfield 66, 3, 6, 25, 594) ∈ kX6_pay := List.mem_of_getElem? (i := 52) rfl
theorem eX6_pay_89 : (89, Instr.iload_n 2, 1, 0, 0, 0) ∈ kX6_pay := List.mem_of_getElem? (i := 53) rfl
theorem eX6_pay_90 : (90, Instr.iconst 0, 1, 0, 0, 0) ∈ kX6_pay := List.mem_of_getElem? (i := 54) rfl
theorem eX6_pay_91 : (91, Instr.iastore, 1, 0, 0, 0) ∈ kX6_pay := List.mem_of_getElem? (i := 55) rfl
theorem eX6_pay_92 : (92, Instr.aload_n 0, 1, 0, 0, 0) ∈ kX6_pay := List.mem_of_getElem? (i := 56) rfl
theorem eX6_pay_93 : (93, Instr.getfield 60, 3, 6, 23, 592) ∈ kX6_pay := List.mem_of_getElem? (i := 57) rfl
theorem eX6_pay_96 : (96, Instr.iload_n 2, 1, 0, 0, 0) ∈ kX6_pay := List.mem_of_getElem? (i := 58) rfl
theorem eX6_pay_97 : (97, Instr.iconst 3, 1, 0, 0, 0) ∈ kX6_pay := List.mem_of_getElem? (i := 59) rfl
theorem eX6_pay_98 : (98, Instr.iastore, 1, 0, 0, 0) ∈ kX6_pay := List.mem_of_getElem? (i := 60) rfl
theorem eX6_pay_99 : (99, Instr.iload 5, 2, 0, 0, 0) ∈ kX6_pay := List.mem_of_getElem? (i := 61) rfl
theorem eX6_pay_101 : (101, Instr.ireturn, 1, 0, 0, 0) ∈ kX6_pay := List.mem_of_getElem? (i := 62) rfl
theorem aX6_tear : am_m nX6_tear = mX6_tear := rfl
theorem eX6_tear_0 : (0, Instr.iload_n 1, 1, 0, 0, 0) ∈ kX6_tear := List.mem_of_getElem? (i := 0) rfl
theorem eX6_tear_1 : (1, Instr.iconst 0, 1, 0, 0, 0) ∈ kX6_tear := List.mem_of_getElem? (i := 1) rfl
theorem eX6_tear_2 : (2, Instr.aload_n 0, 1, 0, 0, 0) ∈ kX6_tear := List.mem_of_getElem? (i := 2) rfl
theorem eX6_tear_3 : (3, Instr.getfield 116, 3, 6, 11, 580) ∈ kX6_tear := List.mem_of_getElem? (i := 3) rfl
theorem eX6_tear_6 : (6, Instr.iconst 1, 1, 0, 0, 0) ∈ kX6_tear := List.mem_of_getElem? (i := 4) rfl
theorem eX6_tear_7 : (7, Instr.isub, 1, 0, 0, 0) ∈ kX6_tear := List.mem_of_getElem? (i := 5) rfl
theorem eX6_tear_8 : (8, Instr.invokestatic 102, 3, 78, 3, 683) ∈ kX6_tear := List.mem_of_getElem? (i := 6) rfl
theorem eX6_tear_11 : (11, Instr.ifCond .eq 12, 3, 23, 0, 0) ∈ kX6_tear := List.mem_of_getElem? (i := 7) rfl
theorem eX6_tear_14 : (14, Instr.aload_n 0, 1, 0, 0, 0) ∈ kX6_tear := List.mem_of_getElem? (i := 8) rfl
theorem eX6_tear_15 : (15, Instr.getfield 42, 3, 6, 17, 586) ∈ kX6_tear := List.mem_of_getElem? (i := 9) rfl
theorem eX6_tear_18 : (18, Instr.iload_n 1, 1, 0, 0, 0) ∈ kX6_tear := List.mem_of_getElem? (i := 10) rfl
theorem eX6_tear_19 : (19, Instr.baload, 1, 0, 0, 0) ∈ kX6_tear := List.mem_of_getElem? (i := 11) rfl
theorem eX6_tear_20 : (20, Instr.ifCond .eq 5, 3, 25, 0, 0) ∈ kX6_tear := List.mem_of_getElem? (i := 12) rfl
theorem eX6_tear_23 : (23, Instr.iconst 0, 1, 0, 0, 0) ∈ kX6_tear := List.mem_of_getElem? (i := 13) rfl
theorem eX6_tear_24 : (24, Instr.ireturn, 1, 1, 0, 0) ∈ kX6_tear := List.mem_of_getElem? (i := 14) rfl
theorem eX6_tear_25 : (25, Instr.aload_n 0, 1, 0, 0, 0) ∈ kX6_tear := List.mem_of_getElem? (i := 15) rfl
theorem eX6_tear_26 : (26, Instr.getfield 42, 3, 6, 17, 586) ∈ kX6_tear := List.mem_of_getElem? (i := 16) rfl
theorem eX6_tear_29 : (29, Instr.iload_n 1, 1, 0, 0, 0) ∈ kX6_tear := List.mem_of_getElem? (i := 17) rfl
theorem eX6_tear_30 : (30, Instr.iconst 1, 1, 0, 0, 0) ∈ kX6_tear := List.mem_of_getElem? (i := 18) rfl
theorem eX6_tear_31 : (31, Instr.bastore, 1, 0, 0, 0) ∈ kX6_tear := List.mem_of_getElem? (i := 19) rfl
theorem eX6_tear_32 : (32, Instr.iconst 1, 1, 0, 0, 0) ∈ kX6_tear := List.mem_of_getElem? (i := 20) rfl
theorem eX6_tear_33 : (33, Instr.ireturn, 1, 1, 0, 0) ∈ kX6_tear := List.mem_of_getElem? (i := 21) rfl
theorem aX6_mend : am_m nX6_mend = mX6_mend := rfl
theorem eX6_mend_0 : (0, Instr.iload_n 1, 1, 0, 0, 0) ∈ kX6_mend := List.mem_of_getElem? (i := 0) rfl
theorem eX6_mend_1 : (1, Instr.iconst 0, 1, 0, 0, 0) ∈ kX6_mend := List.mem_of_getElem? (i := 1) rfl
theorem eX6_mend_2 : (2, Instr.aload_n 0, 1, 0, 0, 0) ∈ kX6_mend := List.mem_of_getElem? (i := 2) rfl
theorem eX6_mend_3 : (3, Instr.getfield 116, 3, 6, 11, 580) ∈ kX6_mend := List.mem_of_getElem? (i := 3) rfl
theorem eX6_mend_6 : (6, Instr.iconst 1, 1, 0, 0, 0) ∈ kX6_mend := List.mem_of_getElem? (i := 4) rfl
theorem eX6_mend_7 : (7, Instr.isub, 1, 0, 0, 0) ∈ kX6_mend := List.mem_of_getElem? (i := 5) rfl
theorem eX6_mend_8 : (8, Instr.invokestatic 102, 3, 78, 3, 683) ∈ kX6_mend := List.mem_of_getElem? (i := 6) rfl
theorem eX6_mend_11 : (11, Instr.ifCond .eq 12, 3, 23, 0, 0) ∈ kX6_mend := List.mem_of_getElem? (i := 7) rfl
theorem eX6_mend_14 : (14, Instr.aload_n 0, 1, 0, 0, 0) ∈ kX6_mend := List.mem_of_getElem? (i := 8) rfl
theorem eX6_mend_15 : (15, Instr.getfield 42, 3, 6, 17, 586) ∈ kX6_mend := List.mem_of_getElem? (i := 9) rfl
theorem eX6_mend_18 : (18, Instr.iload_n 1, 1, 0, 0, 0) ∈ kX6_mend := List.mem_of_getElem? (i := 10) rfl
theorem eX6_mend_19 : (19, Instr.baload, 1, 0, 0, 0) ∈ kX6_mend := List.mem_of_getElem? (i := 11) rfl
theorem eX6_mend_20 : (20, Instr.ifCond .ne 5, 3, 25, 0, 0) ∈ kX6_mend := List.mem_of_getElem? (i := 12) rfl
theorem eX6_mend_23 : (23, Instr.iconst 0, 1, 0, 0, 0) ∈ kX6_mend := List.mem_of_getElem? (i := 13) rfl
theorem eX6_mend_24 : (24, Instr.ireturn, 1, 1, 0, 0) ∈ kX6_mend := List.mem_of_getElem? (i := 14) rfl
theorem eX6_mend_25 : (25, Instr.aload_n 0, 1, 0, 0, 0) ∈ kX6_mend := List.mem_of_getElem? (i := 15) rfl
theorem eX6_mend_26 : (26, Instr.getfield 42, 3, 6, 17, 586) ∈ kX6_mend := List.mem_of_getElem? (i := 16) rfl
theorem eX6_mend_29 : (29, Instr.iload_n 1, 1, 0, 0, 0) ∈ kX6_mend := List.mem_of_getElem? (i := 17) rfl
theorem eX6_mend_30 : (30, Instr.iconst 0, 1, 0, 0, 0) ∈ kX6_mend := List.mem_of_getElem? (i := 18) rfl
theorem eX6_mend_31 : (31, Instr.bastore, 1, 0, 0, 0) ∈ kX6_mend := List.mem_of_getElem? (i := 19) rfl
theorem eX6_mend_32 : (32, Instr.iconst 1, 1, 0, 0, 0) ∈ kX6_mend := List.mem_of_getElem? (i := 20) rfl
theorem eX6_mend_33 : (33, Instr.ireturn, 1, 1, 0, 0) ∈ kX6_mend := List.mem_of_getElem? (i := 21) rfl
theorem aX6_shelfOf : am_m nX6_shelfOf = mX6_shelfOf := rfl
theorem eX6_shelfOf_0 : (0, Instr.iload_n 1, 1, 0, 0, 0) ∈ kX6_shelfOf := List.mem_of_getElem? (i := 0) rfl
theorem eX6_shelfOf_1 : (1, Instr.iconst 0, 1, 0, 0, 0) ∈ kX6_shelfOf := List.mem_of_getElem? (i := 1) rfl
theorem eX6_shelfOf_2 : (2, Instr.aload_n 0, 1, 0, 0, 0) ∈ kX6_shelfOf := List.mem_of_getElem? (i := 2) rfl
theorem eX6_shelfOf_3 : (3, Instr.getfield 116, 3, 6, 11, 580) ∈ kX6_shelfOf := List.mem_of_getElem? (i := 3) rfl
theorem eX6_shelfOf_6 : (6, Instr.iconst 1, 1, 0, 0, 0) ∈ kX6_shelfOf := List.mem_of_getElem? (i := 4) rfl
theorem eX6_shelfOf_7 : (7, Instr.isub, 1, 0, 0, 0) ∈ kX6_shelfOf := List.mem_of_getElem? (i := 5) rfl
theorem eX6_shelfOf_8 : (8, Instr.invokestatic 102, 3, 78, 3, 683) ∈ kX6_shelfOf := List.mem_of_getElem? (i := 6) rfl
theorem eX6_shelfOf_11 : (11, Instr.ifCond .ne 5, 3, 16, 0, 0) ∈ kX6_shelfOf := List.mem_of_getElem? (i := 7) rfl
theorem eX6_shelfOf_14 : (14, Instr.iconst (-1), 1, 0, 0, 0) ∈ kX6_shelfOf := List.mem_of_getElem? (i := 8) rfl
theorem eX6_shelfOf_15 : (15, Instr.ireturn, 1, 0, 0, 0) ∈ kX6_shelfOf := List.mem_of_getElem? (i := 9) rfl
theorem eX6_shelfOf_16 : (16, Instr.iload_n 2, 1, 0, 0, 0) ∈ kX6_shelfOf := List.mem_of_getElem? (i := 10) rfl
theorem eX6_shelfOf_17 : (17, Instr.tableswitch 151 0 6 #[43, 50, 57, 72, 79, 85, 136], 43, 0, 0, 0) ∈ kX6_shelfOf := List.mem_of_getElem? (i := 11) rfl
theorem eX6_shelfOf_60 : (60, Instr.aload_n 0, 1, 0, 0, 0) ∈ kX6_shelfOf := List.mem_of_getElem? (i := 12) rfl
theorem eX6_shelfOf_61 : (61, Instr.getfield 29, 3, 6, 13, 582) ∈ kX6_shelfOf := List.mem_of_getElem? (i := 13) rfl
theorem eX6_shelfOf_64 : (64, Instr.iload_n 1, 1, 0, 0, 0) ∈ kX6_shelfOf := List.mem_of_getElem? (i := 14) rfl
theorem eX6_shelfOf_65 : (65, Instr.iaload, 1, 0, 0, 0) ∈ kX6_shelfOf := List.mem_of_getElem? (i := 15) rfl
theorem eX6_shelfOf_66 : (66, Instr.ireturn, 1, 0, 0, 0) ∈ kX6_shelfOf := List.mem_of_getElem? (i := 16) rfl
theorem eX6_shelfOf_67 : (67, Instr.aload_n 0, 1, 0, 0, 0) ∈ kX6_shelfOf := List.mem_of_getElem? (i := 17) rfl
theorem eX6_shelfOf_68 : (68, Instr.getfield 32, 3, 6, 14, 583) ∈ kX6_shelfOf := List.mem_of_getElem? (i := 18) rfl
theorem eX6_shelfOf_71 : (71, Instr.iload_n 1, 1, 0, 0, 0) ∈ kX6_shelfOf := List.mem_of_getElem? (i := 19) rfl
theorem eX6_shelfOf_72 : (72, Instr.iaload, 1, 0, 0, 0) ∈ kX6_shelfOf := List.mem_of_getElem? (i := 20) rfl
theorem eX6_shelfOf_73 : (73, Instr.ireturn, 1, 0, 0, 0) ∈ kX6_shelfOf := List.mem_of_getElem? (i := 21) rfl
theorem eX6_shelfOf_74 : (74, Instr.aload_n 0, 1, 0, 0, 0) ∈ kX6_shelfOf := List.mem_of_getElem? (i := 22) rfl
theorem eX6_shelfOf_75 : (75, Instr.getfield 38, 3, 6, 16, 585) ∈ kX6_shelfOf := List.mem_of_getElem? (i := 23) rfl
theorem eX6_shelfOf_78 : (78, Instr.iload_n 1, 1, 0, 0, 0) ∈ kX6_shelfOf := List.mem_of_getElem? (i := 24) rfl
theorem eX6_shelfOf_79 : (79, Instr.baload, 1, 0, 0, 0) ∈ kX6_shelfOf := List.mem_of_getElem? (i := 25) rfl
theorem eX6_shelfOf_80 : (80, Instr.ifCond .eq 7, 3, 87, 0, 0) ∈ kX6_shelfOf := List.mem_of_getElem? (i := 26) rfl
theorem eX6_shelfOf_83 : (83, Instr.iconst 1, 1, 0, 0, 0) ∈ kX6_shelfOf := List.mem_of_getElem? (i := 27) rfl
theorem eX6_shelfOf_84 : (84, Instr.goto 4, 3, 88, 0, 0) ∈ kX6_shelfOf := List.mem_of_getElem? (i := 28) rfl
theorem eX6_shelfOf_87 : (87, Instr.iconst 0, 1, 0, 0, 0) ∈ kX6_shelfOf := List.mem_of_getElem? (i := 29) rfl
theorem eX6_shelfOf_88 : (88, Instr.ireturn, 1, 0, 0, 0) ∈ kX6_shelfOf := List.mem_of_getElem? (i := 30) rfl
theorem eX6_shelfOf_89 : (89, Instr.aload_n 0, 1, 0, 0, 0) ∈ kX6_shelfOf := List.mem_of_getElem? (i := 31) rfl
theorem eX6_shelfOf_90 : (90, Instr.getfield 35, 3, 6, 15, 584) ∈ kX6_shelfOf := List.mem_of_getElem? (i := 32) rfl
theorem eX6_shelfOf_93 : (93, Instr.iload_n 1, 1, 0, 0, 0) ∈ kX6_shelfOf := List.mem_of_getElem? (i := 33) rfl
theorem eX6_shelfOf_94 : (94, Instr.iaload, 1, 0, 0, 0) ∈ kX6_shelfOf := List.mem_of_getElem? (i := 34) rfl
theorem eX6_shelfOf_95 : (95, Instr.ireturn, 1, 0, 0, 0) ∈ kX6_shelfOf := List.mem_of_getElem? (i := 35) rfl
theorem eX6_shelfOf_96 : (96, Instr.aload_n 0, 1, 0, 0, 0) ∈ kX6_shelfOf := List.mem_of_getElem? (i := 36) rfl
theorem eX6_shelfOf_97 : (97, Instr.iload_n 1, 1, 0, 0, 0) ∈ kX6_shelfOf := List.mem_of_getElem? (i := 37) rfl
theorem eX6_shelfOf_98 : (98, Instr.invokevirtual 123, 3, 86, 1, 716) ∈ kX6_shelfOf := List.mem_of_getElem? (i := 38) rfl
theorem eX6_shelfOf_101 : (101, Instr.ireturn, 1, 0, 0, 0) ∈ kX6_shelfOf := List.mem_of_getElem? (i := 39) rfl
theorem eX6_shelfOf_102 : (102, Instr.iconst 0, 1, 0, 0, 0) ∈ kX6_shelfOf := List.mem_of_getElem? (i := 40) rfl
theorem eX6_shelfOf_103 : (103, Instr.istore_n 3, 1, 0, 0, 0) ∈ kX6_shelfOf := List.mem_of_getElem? (i := 41) rfl
theorem eX6_shelfOf_104 : (104, Instr.iconst 0, 1, 0, 0, 0) ∈ kX6_shelfOf := List.mem_of_getElem? (i := 42) rfl
theorem eX6_shelfOf_105 : (105, Instr.istore 4, 2, 0, 0, 0) ∈ kX6_shelfOf := List.mem_of_getElem? (i := 43) rfl
theorem eX6_shelfOf_107 : (107, Instr.iload 4, 2, 0, 0, 0) ∈ kX6_shelfOf := List.mem_of_getElem? (i := 44) rfl
theorem eX6_shelfOf_109 : (109, Instr.aload_n 0, 1, 0, 0, 0) ∈ kX6_shelfOf := List.mem_of_getElem? (i := 45) rfl
theorem eX6_shelfOf_110 : (110, Instr.getfield 107, 3, 6, 12, 581) ∈ kX6_shelfOf := List.mem_of_getElem? (i := 46) rfl
theorem eX6_shelfOf_113 : (113, Instr.if_icmp .ge 38, 3, 151, 0, 0) ∈ kX6_shelfOf := List.mem_of_getElem? (i := 47) rfl
theorem eX6_shelfOf_116 : (116, Instr.iload_n 3, 1, 0, 0, 0) ∈ kX6_shelfOf := List.mem_of_getElem? (i := 48) rfl
theorem eX6_shelfOf_117 : (117, Instr.aload_n 0, 1, 0, 0, 0) ∈ kX6_shelfOf := List.mem_of_getElem? (i := 49) rfl
theorem eX6_shelfOf_118 : (118, Instr.getfield 60, 3, 6, 23, 592) ∈ kX6_shelfOf := List.mem_of_getElem? (i := 50) rfl
theorem eX6_shelfOf_121 : (121, Instr.iload 4, 2, 0, 0, 0) ∈ kX6_shelfOf := List.mem_of_getElem? (i := 51) rfl
theorem eX6_shelfOf_123 : (123, Instr.iaload, 1, 0, 0, 0) ∈ kX6_shelfOf := List.mem_of_getElem? (i := 52) rfl
theorem eX6_shelfOf_124 : (124, Instr.ifCond .ne 18, 3, 142, 0, 0) ∈ kX6_shelfOf := List.mem_of_getElem? (i := 53) rfl
theorem eX6_shelfOf_127 : (127, Instr.aload_n 0, 1, 0, 0, 0) ∈ kX6_shelfOf := List.mem_of_getElem? (i := 54) rfl
theorem eX6_shelfOf_128 : (128, Instr.getfield 63, 3, 6, 24, 593) ∈ kX6_shelfOf := List.mem_of_getElem? (i := 55) rfl
theorem eX6_shelfOf_131 : (131, Instr.iload 4, 2, 0, 0, 0) ∈ kX6_shelfOf := List.mem_of_getElem? (i := 56) rfl
theorem eX6_shelfOf_133 : (133, Instr.iaload, 1, 0, 0, 0) ∈ kX6_shelfOf := List.mem_of_getElem? (i := 57) rfl
theorem eX6_shelfOf_134 : (134, Instr.iload_n 1, 1, 0, 0, 0) ∈ kX6_shelfOf := List.mem_of_getElem? (i := 58) rfl
theorem eX6_shelfOf_135 : (135, Instr.if_icmp .ne 7, 3, 142, 0, 0) ∈ kX6_shelfOf := List.mem_of_getElem? (i := 59) rfl
theorem eX6_shelfOf_138 : (138, Instr.iconst 1, 1, 0, 0, 0) ∈ kX6_shelfOf := List.mem_of_getElem? (i := 60) rfl
theorem eX6_shelfOf_139 : (139, Instr.goto 4, 3, 143, 0, 0) ∈ kX6_shelfOf := List.mem_of_getElem? (i := 61) rfl
theorem eX6_shelfOf_142 : (142, Instr.iconst 0, 1, 0, 0, 0) ∈ kX6_shelfOf := List.mem_of_getElem? (i := 62) rfl
theorem eX6_shelfOf_143 : (143, Instr.iadd, 1, 0, 0, 0) ∈ kX6_shelfOf := List.mem_of_getElem? (i := 63) rfl
theorem eX6_shelfOf_144 : (144, Instr.istore_n 3, 1, 0, 0, 0) ∈ kX6_shelfOf := List.mem_of_getElem? (i := 64) rfl
theorem eX6_shelfOf_145 : (145, Instr.iinc 4 1, 3, 0, 0, 0) ∈ kX6_shelfOf := List.mem_of_getElem? (i := 65) rfl
theorem eX6_shelfOf_148 : (148, Instr.goto (-41), 3, 107, 0, 0) ∈ kX6_shelfOf := List.mem_of_getElem? (i := 66) rfl
theorem eX6_shelfOf_151 : (151, Instr.iload_n 3, 1, 0, 0, 0) ∈ kX6_shelfOf := List.mem_of_getElem? (i := 67) rfl
theorem eX6_shelfOf_152 : (152, Instr.ireturn, 1, 0, 0, 0) ∈ kX6_shelfOf := List.mem_of_getElem? (i := 68) rfl
theorem eX6_shelfOf_153 : (153, Instr.aload_n 0, 1, 0, 0, 0) ∈ kX6_shelfOf := List.mem_of_getElem? (i := 69) rfl
theorem eX6_shelfOf_154 : (154, Instr.getfield 42, 3, 6, 17, 586) ∈ kX6_shelfOf := List.mem_of_getElem? (i := 70) rfl
theorem eX6_shelfOf_157 : (157, Instr.iload_n 1, 1, 0, 0, 0) ∈ kX6_shelfOf := List.mem_of_getElem? (i := 71) rfl
theorem eX6_shelfOf_158 : (158, Instr.baload, 1, 0, 0, 0) ∈ kX6_shelfOf := List.mem_of_getElem? (i := 72) rfl
theorem eX6_shelfOf_159 : (159, Instr.ifCond .eq 7, 3, 166, 0, 0) ∈ kX6_shelfOf := List.mem_of_getElem? (i := 73) rfl
theorem eX6_shelfOf_162 : (162, Instr.iconst 1, 1, 0, 0, 0) ∈ kX6_shelfOf := List.mem_of_getElem? (i := 74) rfl
theorem eX6_shelfOf_163 : (163, Instr.goto 4, 3, 167, 0, 0) ∈ kX6_shelfOf := List.mem_of_getElem? (i := 75) rfl
theorem eX6_shelfOf_166 : (166, Instr.iconst 0, 1, 0, 0, 0) ∈ kX6_shelfOf := List.mem_of_getElem? (i := 76) rfl
theorem eX6_shelfOf_167 : (167, Instr.ireturn, 1, 0, 0, 0) ∈ kX6_shelfOf := List.mem_of_getElem? (i := 77) rfl
theorem eX6_shelfOf_168 : (168, Instr.iconst (-1), 1, 0, 0, 0) ∈ kX6_shelfOf := List.mem_of_getElem? (i := 78) rfl
theorem eX6_shelfOf_169 : (169, Instr.ireturn, 1, 0, 0, 0) ∈ kX6_shelfOf := List.mem_of_getElem? (i := 79) rfl
theorem aX6_thing : am_m nX6_thing = mX6_thing := rfl
theorem eX6_thing_0 : (0, Instr.iload_n 1, 1, 0, 0, 0) ∈ kX6_thing := List.mem_of_getElem? (i := 0) rfl
theorem eX6_thing_1 : (1, Instr.iconst 0, 1, 0, 0, 0) ∈ kX6_thing := List.mem_of_getElem? (i := 1) rfl
theorem eX6_thing_2 : (2, Instr.aload_n 0, 1, 0, 0, 0) ∈ kX6_thing := List.mem_of_getElem? (i := 2) rfl
theorem eX6_thing_3 : (3, Instr.getfield 107, 3, 6, 12, 581) ∈ kX6_thing := List.mem_of_getElem? (i := 3) rfl
theorem eX6_thing_6 : (6, Instr.iconst 1, 1, 0, 0, 0) ∈ kX6_thing := List.mem_of_getElem? (i := 4) rfl
theorem eX6_thing_7 : (7, Instr.isub, 1, 0, 0, 0) ∈ kX6_thing := List.mem_of_getElem? (i := 5) rfl
theorem eX6_thing_8 : (8, Instr.invokestatic 102, 3, 78, 3, 683) ∈ kX6_thing := List.mem_of_getElem? (i := 6) rfl
theorem eX6_thing_11 : (11, Instr.ifCond .ne 5, 3, 16, 0, 0) ∈ kX6_thing := List.mem_of_getElem? (i := 7) rfl
theorem eX6_thing_14 : (14, Instr.iconst (-1), 1, 0, 0, 0) ∈ kX6_thing := List.mem_of_getElem? (i := 8) rfl
theorem eX6_thing_15 : (15, Instr.ireturn, 1, 0, 0, 0) ∈ kX6_thing := List.mem_of_getElem? (i := 9) rfl
theorem eX6_thing_16 : (16, Instr.iload_n 2, 1, 0, 0, 0) ∈ kX6_thing := List.mem_of_getElem? (i := 10) rfl
theorem eX6_thing_17 : (17, Instr.tableswitch 204 0 12 #[67, 74, 81, 96, 111, 118, 125, 132, 139, 159, 165, 190, 197], 67, 0, 0, 0) ∈ kX6_thing := List.mem_of_getElem? (i := 11) rfl
theorem eX6_thing_84 : (84, Instr.aload_n 0, 1, 0, 0, 0) ∈ kX6_thing := List.mem_of_getElem? (i := 12) rfl
theorem eX6_thing_85 : (85, Instr.getfield 45, 3, 6, 18, 587) ∈ kX6_thing := List.mem_of_getElem? (i := 13) rfl
theorem eX6_thing_88 : (88, Instr.iload_n 1, 1, 0, 0, 0) ∈ kX6_thing := List.mem_of_getElem? (i := 14) rfl
theorem eX6_thing_89 : (89, Instr.iaload, 1, 0, 0, 0) ∈ kX6_thing := List.mem_of_getElem? (i := 15) rfl
theorem eX6_thing_90 : (90, Instr.ireturn, 1, 0, 0, 0) ∈ kX6_thing := List.mem_of_getElem? (i := 16) rfl
theorem eX6_thing_91 : (91, Instr.aload_n 0, 1, 0, 0, 0) ∈ kX6_thing := List.mem_of_getElem? (i := 17) rfl
theorem eX6_thing_92 : (92, Instr.getfield 48, 3, 6, 19, 588) ∈ kX6_thing := List.mem_of_getElem? (i := 18) rfl
theorem eX6_thing_95 : (95, Instr.iload_n 1, 1, 0, 0, 0) ∈ kX6_thing := List.mem_of_getElem? (i := 19) rfl
theorem eX6_thing_96 : (96, Instr.iaload, 1, 0, 0, 0) ∈ kX6_thing := List.mem_of_getElem? (i := 20) rfl
theorem eX6_thing_97 : (97, Instr.ireturn, 1, 0, 0, 0) ∈ kX6_thing := List.mem_of_getElem? (i := 21) rfl
theorem eX6_thing_98 : (98, Instr.aload_n 0, 1, 0, 0, 0) ∈ kX6_thing := List.mem_of_getElem? (i := 22) rfl
theorem eX6_thing_99 : (99, Instr.getfield 72, 3, 6, 27, 596) ∈ kX6_thing := List.mem_of_getElem? (i := 23) rfl
theorem eX6_thing_102 : (102, Instr.iload_n 1, 1, 0, 0, 0) ∈ kX6_thing := List.mem_of_getElem? (i := 24) rfl
theorem eX6_thing_103 : (103, Instr.baload, 1, 0, 0, 0) ∈ kX6_thing := List.mem_of_getElem? (i := 25) rfl
theorem eX6_thing_104 : (104, Instr.ifCond .eq 7, 3, 111, 0, 0) ∈ kX6_thing := List.mem_of_getElem? (i := 26) rfl
theorem eX6_thing_107 : (107, Instr.iconst 1, 1, 0, 0, 0) ∈ kX6_thing := List.mem_of_getElem? (i := 27) rfl
theorem eX6_thing_108 : (108, Instr.goto 4, 3, 112, 0, 0) ∈ kX6_thing := List.mem_of_getElem? (i := 28) rfl
theorem eX6_thing_111 : (111, Instr.iconst 0, 1, 0, 0, 0) ∈ kX6_thing := List.mem_of_getElem? (i := 29) rfl
theorem eX6_thing_112 : (112, Instr.ireturn, 1, 0, 0, 0) ∈ kX6_thing := List.mem_of_getElem? (i := 30) rfl
theorem eX6_thing_113 : (113, Instr.aload_n 0, 1, 0, 0, 0) ∈ kX6_thing := List.mem_of_getElem? (i := 31) rfl
theorem eX6_thing_114 : (114, Instr.getfield 75, 3, 6, 28, 597) ∈ kX6_thing := List.mem_of_getElem? (i := 32) rfl
theorem eX6_thing_117 : (117, Instr.iload_n 1, 1, 0, 0, 0) ∈ kX6_thing := List.mem_of_getElem? (i := 33) rfl
theorem eX6_thing_118 : (118, Instr.baload, 1, 0, 0, 0) ∈ kX6_thing := List.mem_of_getElem? (i := 34) rfl
theorem eX6_thing_119 : (119, Instr.ifCond .eq 7, 3, 126, 0, 0) ∈ kX6_thing := List.mem_of_getElem? (i := 35) rfl
theorem eX6_thing_122 : (122, Instr.iconst 1, 1, 0, 0, 0) ∈ kX6_thing := List.mem_of_getElem? (i := 36) rfl
theorem eX6_thing_123 : (123, Instr.goto 4, 3, 127, 0, 0) ∈ kX6_thing := List.mem_of_getElem? (i := 37) rfl
theorem eX6_thing_126 : (126, Instr.iconst 0, 1, 0, 0, 0) ∈ kX6_thing := List.mem_of_getElem? (i := 38) rfl
theorem eX6_thing_127 : (127, Instr.ireturn, 1, 0, 0, 0) ∈ kX6_thing := List.mem_of_getElem? (i := 39) rfl
theorem eX6_thing_128 : (128, Instr.aload_n 0, 1, 0, 0, 0) ∈ kX6_thing := List.mem_of_getElem? (i := 40) rfl
theorem eX6_thing_129 : (129, Instr.getfield 51, 3, 6, 20, 589) ∈ kX6_thing := List.mem_of_getElem? (i := 41) rfl
theorem eX6_thing_132 : (132, Instr.iload_n 1, 1, 0, 0, 0) ∈ kX6_thing := List.mem_of_getElem? (i := 42) rfl
theorem eX6_thing_133 : (133, Instr.iaload, 1, 0, 0, 0) ∈ kX6_thing := List.mem_of_getElem? (i := 43) rfl
theorem eX6_thing_134 : (134, Instr.ireturn, 1, 0, 0, 0) ∈ kX6_thing := List.mem_of_getElem? (i := 44) rfl
theorem eX6_thing_135 : (135, Instr.aload_n 0, 1, 0, 0, 0) ∈ kX6_thing := List.mem_of_getElem? (i := 45) rfl
theorem eX6_thing_136 : (136, Instr.getfield 54, 3, 6, 21, 590) ∈ kX6_thing := List.mem_of_getElem? (i := 46) rfl
theorem eX6_thing_139 : (139, Instr.iload_n 1, 1, 0, 0, 0) ∈ kX6_thing := List.mem_of_getElem? (i := 47) rfl
theorem eX6_thing_140 : (140, Instr.iaload, 1, 0, 0, 0) ∈ kX6_thing := List.mem_of_getElem? (i := 48) rfl
theorem eX6_thing_141 : (141, Instr.ireturn, 1, 0, 0, 0) ∈ kX6_thing := List.mem_of_getElem? (i := 49) rfl
theorem eX6_thing_142 : (142, Instr.aload_n 0, 1, 0, 0, 0) ∈ kX6_thing := List.mem_of_getElem? (i := 50) rfl
theorem eX6_thing_143 : (143, Instr.getfield 57, 3, 6, 22, 591) ∈ kX6_thing := List.mem_of_getElem? (i := 51) rfl
theorem eX6_thing_146 : (146, Instr.iload_n 1, 1, 0, 0, 0) ∈ kX6_thing := List.mem_of_getElem? (i := 52) rfl
theorem eX6_thing_147 : (147, Instr.iaload, 1, 0, 0, 0) ∈ kX6_thing := List.mem_of_getElem? (i := 53) rfl
theorem eX6_thing_148 : (148, Instr.ireturn, 1, 0, 0, 0) ∈ kX6_thing := List.mem_of_getElem? (i := 54) rfl
theorem eX6_thing_149 : (149, Instr.aload_n 0, 1, 0, 0, 0) ∈ kX6_thing := List.mem_of_getElem? (i := 55) rfl
theorem eX6_thing_150 : (150, Instr.getfield 60, 3, 6, 23, 592) ∈ kX6_thing := List.mem_of_getElem? (i := 56) rfl
theorem eX6_thing_153 : (153, Instr.iload_n 1, 1, 0, 0, 0) ∈ kX6_thing := List.mem_of_getElem? (i := 57) rfl
theorem eX6_thing_154 : (154, Instr.iaload, 1, 0, 0, 0) ∈ kX6_thing := List.mem_of_getElem? (i := 58) rfl
theorem eX6_thing_155 : (155, Instr.ireturn, 1, 0, 0, 0) ∈ kX6_thing := List.mem_of_getElem? (i := 59) rfl
theorem eX6_thing_156 : (156, Instr.aload_n 0, 1, 0, 0, 0) ∈ kX6_thing := List.mem_of_getElem? (i := 60) rfl
theorem eX6_thing_157 : (157, Instr.getfield 60, 3, 6, 23, 592) ∈ kX6_thing := List.mem_of_getElem? (i := 61) rfl
theorem eX6_thing_160 : (160, Instr.iload_n 1, 1, 0, 0, 0) ∈ kX6_thing := List.mem_of_getElem? (i := 62) rfl
theorem eX6_thing_161 : (161, Instr.iaload, 1, 0, 0, 0) ∈ kX6_thing := List.mem_of_getElem? (i := 63) rfl
theorem eX6_thing_162 : (162, Instr.ifCond .ne 12, 3, 174, 0, 0) ∈ kX6_thing := List.mem_of_getElem? (i := 64) rfl
theorem eX6_thing_165 : (165, Instr.aload_n 0, 1, 0, 0, 0) ∈ kX6_thing := List.mem_of_getElem? (i := 65) rfl
theorem eX6_thing_166 : (166, Instr.getfield 63, 3, 6, 24, 593) ∈ kX6_thing := List.mem_of_getElem? (i := 66) rfl
theorem eX6_thing_169 : (169, Instr.iload_n 1, 1, 0, 0, 0) ∈ kX6_thing := List.mem_of_getElem? (i := 67) rfl
theorem eX6_thing_170 : (170, Instr.iaload, 1, 0, 0, 0) ∈ kX6_thing := List.mem_of_getElem? (i := 68) rfl
theorem eX6_thing_171 : (171, Instr.goto 4, 3, 175, 0, 0) ∈ kX6_thing := List.mem_of_getElem? (i := 69) rfl
theorem eX6_thing_174 : (174, Instr.iconst (-1), 1, 0, 0, 0) ∈ kX6_thing := List.mem_of_getElem? (i := 70) rfl
theorem eX6_thing_175 : (175, Instr.ireturn, 1, 0, 0, 0) ∈ kX6_thing := List.mem_of_getElem? (i := 71) rfl
theorem eX6_thing_176 : (176, Instr.aload_n 0, 1, 0, 0, 0) ∈ kX6_thing := List.mem_of_getElem? (i := 72) rfl
theorem eX6_thing_177 : (177, Instr.iload_n 1, 1, 0, 0, 0) ∈ kX6_thing := List.mem_of_getElem? (i := 73) rfl
theorem eX6_thing_178 : (178, Instr.invokevirtual 127, 3, 89, 1, 724) ∈ kX6_thing := List.mem_of_getElem? (i := 74) rfl
theorem eX6_thing_181 : (181, Instr.ireturn, 1, 0, 0, 0) ∈ kX6_thing := List.mem_of_getElem? (i := 75) rfl
theorem eX6_thing_182 : (182, Instr.aload_n 0, 1, 0, 0, 0) ∈ kX6_thing := List.mem_of_getElem? (i := 76) rfl
theorem eX6_thing_183 : (183, Instr.getfield 60, 3, 6, 23, 592) ∈ kX6_thing := List.mem_of_getElem? (i := 77) rfl
theorem eX6_thing_186 : (186, Instr.iload_n 1, 1, 0, 0, 0) ∈ kX6_thing := List.mem_of_getElem? (i := 78) rfl
theorem eX6_thing_187 : (187, Instr.iaload, 1, 0, 0, 0) ∈ kX6_thing := List.mem_of_getElem? (i := 79) rfl
theorem eX6_thing_188 : (188, Instr.ifCond .ne 17, 3, 205, 0, 0) ∈ kX6_thing := List.mem_of_getElem? (i := 80) rfl
theorem eX6_thing_191 : (191, Instr.aload_n 0, 1, 0, 0, 0) ∈ kX6_thing := List.mem_of_getElem? (i := 81) rfl
theorem eX6_thing_192 : (192, Instr.iload_n 1, 1, 0, 0, 0) ∈ kX6_thing := List.mem_of_getElem? (i := 82) rfl
theorem eX6_thing_193 : (193, Instr.aload_n 0, 1, 0, 0, 0) ∈ kX6_thing := List.mem_of_getElem? (i := 83) rfl
theorem eX6_thing_194 : (194, Instr.getfield 63, 3, 6, 24, 593) ∈ kX6_thing := List.mem_of_getElem? (i := 84) rfl
theorem eX6_thing_197 : (197, Instr.iload_n 1, 1, 0, 0, 0) ∈ kX6_thing := List.mem_of_getElem? (i := 85) rfl
theorem eX6_thing_198 : (198, Instr.iaload, 1, 0, 0, 0) ∈ kX6_thing := List.mem_of_getElem? (i := 86) rfl
theorem eX6_thing_199 : (199, Instr.invokevirtual 142, 3, 90, 2, 720) ∈ kX6_thing := List.mem_of_getElem? (i := 87) rfl
theorem eX6_thing_202 : (202, Instr.goto 4, 3, 206, 0, 0) ∈ kX6_thing := List.mem_of_getElem? (i := 88) rfl
theorem eX6_thing_205 : (205, Instr.iconst (-1), 1, 0, 0, 0) ∈ kX6_thing := List.mem_of_getElem? (i := 89) rfl
theorem eX6_thing_206 : (206, Instr.ireturn, 1, 0, 0, 0) ∈ kX6_thing := List.mem_of_getElem? (i := 90) rfl
theorem eX6_thing_207 : (207, Instr.aload_n 0, 1, 0, 0, 0) ∈ kX6_thing := List.mem_of_getElem? (i := 91) rfl
theorem eX6_thing_208 : (208, Instr.getfield 66, 3, 6, 25, 594) ∈ kX6_thing := List.mem_of_getElem? (i := 92) rfl
theorem eX6_thing_211 : (211, Instr.iload_n 1, 1, 0, 0, 0) ∈ kX6_thing := List.mem_of_getElem? (i := 93) rfl
theorem eX6_thing_212 : (212, Instr.iaload, 1, 0, 0, 0) ∈ kX6_thing := List.mem_of_getElem? (i := 94) rfl
theorem eX6_thing_213 : (213, Instr.ireturn, 1, 0, 0, 0) ∈ kX6_thing := List.mem_of_getElem? (i := 95) rfl
theorem eX6_thing_214 : (214, Instr.aload_n 0, 1, 0, 0, 0) ∈ kX6_thing := List.mem_of_getElem? (i := 96) rfl
theorem eX6_thing_215 : (215, Instr.getfield 69, 3, 6, 26, 595) ∈ kX6_thing := List.mem_of_getElem? (i := 97) rfl
theorem eX6_thing_218 : (218, Instr.iload_n 1, 1, 0, 0, 0) ∈ kX6_thing := List.mem_of_getElem? (i := 98) rfl
theorem eX6_thing_219 : (219, Instr.iaload, 1, 0, 0, 0) ∈ kX6_thing := List.mem_of_getElem? (i := 99) rfl
theorem eX6_thing_220 : (220, Instr.ireturn, 1, 0, 0, 0) ∈ kX6_thing := List.mem_of_getElem? (i := 100) rfl
theorem eX6_thing_221 : (221, Instr.iconst (-1), 1, 0, 0, 0) ∈ kX6_thing := List.mem_of_getElem? (i := 101) rfl
theorem eX6_thing_222 : (222, Instr.ireturn, 1, 0, 0, 0) ∈ kX6_thing := List.mem_of_getElem? (i := 102) rfl
theorem aX6_claimOf : am_m nX6_claimOf = mX6_claimOf := rfl
theorem eX6_claimOf_0 : (0, Instr.aload_n 0, 1, 0, 0, 0) ∈ kX6_claimOf := List.mem_of_getElem? (i := 0) rfl
theorem eX6_claimOf_1 : (1, Instr.iload_n 1, 1, 0, 0, 0) ∈ kX6_claimOf := List.mem_of_getElem? (i := 1) rfl
theorem eX6_claimOf_2 : (2, Instr.invokevirtual 176, 3, 99, 1, 767) ∈ kX6_claimOf := List.mem_of_getElem? (i := 2) rfl
theorem eX6_claimOf_5 : (5, Instr.ifCond .ne 5, 3, 10, 0, 0) ∈ kX6_claimOf := List.mem_of_getElem? (i := 3) rfl
theorem eX6_claimOf_8 : (8, Instr.iconst (-1), 1, 0, 0, 0) ∈ kX6_claimOf := List.mem_of_getElem? (i := 4) rfl
theorem eX6_claimOf_9 : (9, Instr.ireturn, 1, 0, 0, 0) ∈ kX6_claimOf := List.mem_of_getElem? (i := 5) rfl
theorem eX6_claimOf_10 : (10, Instr.iload_n 2, 1, 0, 0, 0) ∈ kX6_claimOf := List.mem_of_getElem? (i := 6) rfl
theorem eX6_claimOf_11 : (11, Instr.tableswitch 53 0 2 #[25, 31, 46], 25, 0, 0, 0) ∈ kX6_claimOf := List.mem_of_getElem? (i := 7) rfl
theorem eX6_claimOf_36 : (36, Instr.aload_n 0, 1, 0, 0, 0) ∈ kX6_claimOf := List.mem_of_getElem? (i := 8) rfl
theorem eX6_claimOf_37 : (37, Instr.iload_n 1, 1, 0, 0, 0) ∈ kX6_claimOf := List.mem_of_getElem? (i := 9) rfl
theorem eX6_claimOf_38 : (38, Instr.invokevirtual 183, 3, 103, 1, 791) ∈ kX6_claimOf := List.mem_of_getElem? (i := 10) rfl
theorem eX6_claimOf_41 : (41, Instr.ireturn, 1, 0, 0, 0) ∈ kX6_claimOf := List.mem_of_getElem? (i := 11) rfl
theorem eX6_claimOf_42 : (42, Instr.aload_n 0, 1, 0, 0, 0) ∈ kX6_claimOf := List.mem_of_getElem? (i := 12) rfl
theorem eX6_claimOf_43 : (43, Instr.getfield 84, 3, 6, 32, 601) ∈ kX6_claimOf := List.mem_of_getElem? (i := 13) rfl
theorem eX6_claimOf_46 : (46, Instr.iload_n 1, 1, 0, 0, 0) ∈ kX6_claimOf := List.mem_of_getElem? (i := 14) rfl
theorem eX6_claimOf_47 : (47, Instr.baload, 1, 0, 0, 0) ∈ kX6_claimOf := List.mem_of_getElem? (i := 15) rfl
theorem eX6_claimOf_48 : (48, Instr.ifCond .eq 7, 3, 55, 0, 0) ∈ kX6_claimOf := List.mem_of_getElem? (i := 16) rfl
theorem eX6_claimOf_51 : (51, Instr.iconst 1, 1, 0, 0, 0) ∈ kX6_claimOf := List.mem_of_getElem? (i := 17) rfl
theorem eX6_claimOf_52 : (52, Instr.goto 4, 3, 56, 0, 0) ∈ kX6_claimOf := List.mem_of_getElem? (i := 18) rfl
theorem eX6_claimOf_55 : (55, Instr.iconst 0, 1, 0, 0, 0) ∈ kX6_claimOf := List.mem_of_getElem? (i := 19) rfl
theorem eX6_claimOf_56 : (56, Instr.ireturn, 1, 0, 0, 0) ∈ kX6_claimOf := List.mem_of_getElem? (i := 20) rfl
theorem eX6_claimOf_57 : (57, Instr.aload_n 0, 1, 0, 0, 0) ∈ kX6_claimOf := List.mem_of_getElem? (i := 21) rfl
theorem eX6_claimOf_58 : (58, Instr.getfield 81, 3, 6, 31, 600) ∈ kX6_claimOf := List.mem_of_getElem? (i := 22) rfl
theorem eX6_claimOf_61 : (61, Instr.iload_n 1, 1, 0, 0, 0) ∈ kX6_claimOf := List.mem_of_getElem? (i := 23) rfl
theorem eX6_claimOf_62 : (62, Instr.iaload, 1, 0, 0, 0) ∈ kX6_claimOf := List.mem_of_getElem? (i := 24) rfl
theorem eX6_claimOf_63 : (63, Instr.ireturn, 1, 0, 0, 0) ∈ kX6_claimOf := List.mem_of_getElem? (i := 25) rfl
theorem eX6_claimOf_64 : (64, Instr.iload_n 2, 1, 0, 0, 0) ∈ kX6_claimOf := List.mem_of_getElem? (i := 26) rfl
theorem eX6_claimOf_65 : (65, Instr.bipush 10, 2, 0, 0, 0) ∈ kX6_claimOf := List.mem_of_getElem? (i := 27) rfl
theorem eX6_claimOf_67 : (67, Instr.bipush 13, 2, 0, 0, 0) ∈ kX6_claimOf := List.mem_of_getElem? (i := 28) rfl
theorem eX6_claimOf_69 : (69, Instr.invokestatic 102, 3, 78, 3, 683) ∈ kX6_claimOf := List.mem_of_getElem? (i := 29) rfl
theorem eX6_claimOf_72 : (72, Instr.ifCond .eq 19, 3, 91, 0, 0) ∈ kX6_claimOf := List.mem_of_getElem? (i := 30) rfl
theorem eX6_claimOf_75 : (75, Instr.aload_n 0, 1, 0, 0, 0) ∈ kX6_claimOf := List.mem_of_getElem? (i := 31) rfl
theorem eX6_claimOf_76 : (76, Instr.getfield 78, 3, 6, 30, 599) ∈ kX6_claimOf := List.mem_of_getElem? (i := 32) rfl
theorem eX6_claimOf_79 : (79, Instr.iconst 4, 1, 0, 0, 0) ∈ kX6_claimOf := List.mem_of_getElem? (i := 33) rfl
theorem eX6_claimOf_80 : (80, Instr.iload_n 1, 1, 0, 0, 0) ∈ kX6_claimOf := List.mem_of_getElem? (i := 34) rfl
theorem eX6_claimOf_81 : (81, Instr.imul, 1, 0, 0, 0) ∈ kX6_claimOf := List.mem_of_getElem? (i := 35) rfl
theorem eX6_claimOf_82 : (82, Instr.iload_n 2, 1, 0, 0, 0) ∈ kX6_claimOf := List.mem_of_getElem? (i := 36) rfl
theorem eX6_claimOf_83 : (83, Instr.iadd, 1, 0, 0, 0) ∈ kX6_claimOf := List.mem_of_getElem? (i := 37) rfl
theorem eX6_claimOf_84 : (84, Instr.bipush 10, 2, 0, 0, 0) ∈ kX6_claimOf := List.mem_of_getElem? (i := 38) rfl
theorem eX6_claimOf_86 : (86, Instr.isub, 1, 0, 0, 0) ∈ kX6_claimOf := List.mem_of_getElem? (i := 39) rfl
theorem eX6_claimOf_87 : (87, Instr.iaload, 1, 0, 0, 0) ∈ kX6_claimOf := List.mem_of_getElem? (i := 40) rfl
theorem eX6_claimOf_88 : (88, Instr.goto 4, 3, 92, 0, 0) ∈ kX6_claimOf := List.mem_of_getElem? (i := 41) rfl
theorem eX6_claimOf_91 : (91, Instr.iconst (-1), 1, 0, 0, 0) ∈ kX6_claimOf := List.mem_of_getElem? (i := 42) rfl
theorem eX6_claimOf_92 : (92, Instr.ireturn, 1, 0, 0, 0) ∈ kX6_claimOf := List.mem_of_getElem? (i := 43) rfl
theorem aX6_count : am_m nX6_count = mX6_count := rfl
theorem eX6_count_0 : (0, Instr.iconst 0, 1, 0, 0, 0) ∈ kX6_count := List.mem_of_getElem? (i := 0) rfl
theorem eX6_count_1 : (1, Instr.istore_n 2, 1, 0, 0, 0) ∈ kX6_count := List.mem_of_getElem? (i := 1) rfl
theorem eX6_count_2 : (2, Instr.iconst 0, 1, 0, 0, 0) ∈ kX6_count := List.mem_of_getElem? (i := 2) rfl
theorem eX6_count_3 : (3, Instr.istore_n 3, 1, 0, 0, 0) ∈ kX6_count := List.mem_of_getElem? (i := 3) rfl
theorem eX6_count_4 : (4, Instr.iconst 0, 1, 0, 0, 0) ∈ kX6_count := List.mem_of_getElem? (i := 4) rfl
theorem eX6_count_5 : (5, Instr.istore 4, 2, 0, 0, 0) ∈ kX6_count := List.mem_of_getElem? (i := 5) rfl
theorem eX6_count_7 : (7, Instr.iload 4, 2, 0, 0, 0) ∈ kX6_count := List.mem_of_getElem? (i := 6) rfl
theorem eX6_count_9 : (9, Instr.aload_n 0, 1, 0, 0, 0) ∈ kX6_count := List.mem_of_getElem? (i := 7) rfl
theorem eX6_count_10 : (10, Instr.getfield 107, 3, 6, 12, 581) ∈ kX6_count := List.mem_of_getElem? (i := 8) rfl
theorem eX6_count_13 : (13, Instr.if_icmp .ge 37, 3, 50, 0, 0) ∈ kX6_count := List.mem_of_getElem? (i := 9) rfl
theorem eX6_count_16 : (16, Instr.iload_n 2, 1, 0, 0, 0) ∈ kX6_count := List.mem_of_getElem? (i := 10) rfl
theorem eX6_count_17 : (17, Instr.aload_n 0, 1, 0, 0, 0) ∈ kX6_count := List.mem_of_getElem? (i := 11) rfl
theorem eX6_count_18 : (18, Instr.getfield 60, 3, 6, 23, 592) ∈ kX6_count := List.mem_of_getElem? (i := 12) rfl
theorem eX6_count_21 : (21, Instr.iload 4, 2, 0, 0, 0) ∈ kX6_count := List.mem_of_getElem? (i := 13) rfl
theorem eX6_count_23 : (23, Instr.iaload, 1, 0, 0, 0) ∈ kX6_count := List.mem_of_getElem? (i := 14) rfl
theorem eX6_count_24 : (24, Instr.ifCond .ne 7, 3, 31, 0, 0) ∈ kX6_count := List.mem_of_getElem? (i := 15) rfl
theorem eX6_count_27 : (27, Instr.iconst 1, 1, 0, 0, 0) ∈ kX6_count := List.mem_of_getElem? (i := 16) rfl
theorem eX6_count_28 : (28, Instr.goto 4, 3, 32, 0, 0) ∈ kX6_count := List.mem_of_getElem? (i := 17) rfl
theorem eX6_count_31 : (31, Instr.iconst 0, 1, 0, 0, 0) ∈ kX6_count := List.mem_of_getElem? (i := 18) rfl
theorem eX6_count_32 : (32, Instr.iadd, 1, 0, 0, 0) ∈ kX6_count := List.mem_of_getElem? (i := 19) rfl
theorem eX6_count_33 : (33, Instr.istore_n 2, 1, 0, 0, 0) ∈ kX6_count := List.mem_of_getElem? (i := 20) rfl
theorem eX6_count_34 : (34, Instr.iload_n 3, 1, 0, 0, 0) ∈ kX6_count := List.mem_of_getElem? (i := 21) rfl
theorem eX6_count_35 : (35, Instr.aload_n 0, 1, 0, 0, 0) ∈ kX6_count := List.mem_of_getElem? (i := 22) rfl
theorem eX6_count_36 : (36, Instr.getfield 66, 3, 6, 25, 594) ∈ kX6_count := List.mem_of_getElem? (i := 23) rfl
theorem eX6_count_39 : (39, Instr.iload 4, 2, 0, 0, 0) ∈ kX6_count := List.mem_of_getElem? (i := 24) rfl
theorem eX6_count_41 : (41, Instr.iaload, 1, 0, 0, 0) ∈ kX6_count := List.mem_of_getElem? (i := 25) rfl
theorem eX6_count_42 : (42, Instr.iadd, 1, 0, 0, 0) ∈ kX6_count := List.mem_of_getElem? (i := 26) rfl
theorem eX6_count_43 : (43, Instr.istore_n 3, 1, 0, 0, 0) ∈ kX6_count := List.mem_of_getElem? (i := 27) rfl
theorem eX6_count_44 : (44, Instr.iinc 4 1, 3, 0, 0, 0) ∈ kX6_count := List.mem_of_getElem? (i := 28) rfl
theorem eX6_count_47 : (47, Instr.goto (-40), 3, 7, 0, 0) ∈ kX6_count := List.mem_of_getElem? (i := 29) rfl
theorem eX6_count_50 : (50, Instr.iload_n 1, 1, 0, 0, 0) ∈ kX6_count := List.mem_of_getElem? (i := 30) rfl
theorem eX6_count_51 : (51, Instr.tableswitch 118 0 10 #[57, 62, 67, 69, 74, 79, 84, 93, 106, 111, 113], 57, 0, 0, 0) ∈ kX6_count := List.mem_of_getElem? (i := 31) rfl
theorem eX6_count_108 : (108, Instr.aload_n 0, 1, 0, 0, 0) ∈ kX6_count := List.mem_of_getElem? (i := 32) rfl
theorem eX6_count_109 : (109, Instr.getfield 116, 3, 6, 11, 580) ∈ kX6_count := List.mem_of_getElem? (i := 33) rfl
theorem eX6_count_112 : (112, Instr.ireturn, 1, 0, 0, 0) ∈ kX6_count := List.mem_of_getElem? (i := 34) rfl
theorem eX6_count_113 : (113, Instr.aload_n 0, 1, 0, 0, 0) ∈ kX6_count := List.mem_of_getElem? (i := 35) rfl
theorem eX6_count_114 : (114, Instr.getfield 107, 3, 6, 12, 581) ∈ kX6_count := List.mem_of_getElem? (i := 36) rfl
theorem eX6_count_117 : (117, Instr.ireturn, 1, 0, 0, 0) ∈ kX6_count := List.mem_of_getElem? (i := 37) rfl
theorem eX6_count_118 : (118, Instr.iload_n 2, 1, 0, 0, 0) ∈ kX6_count := List.mem_of_getElem? (i := 38) rfl
theorem eX6_count_119 : (119, Instr.ireturn, 1, 0, 0, 0) ∈ kX6_count := List.mem_of_getElem? (i := 39) rfl
theorem eX6_count_120 : (120, Instr.aload_n 0, 1, 0, 0, 0) ∈ kX6_count := List.mem_of_getElem? (i := 40) rfl
theorem eX6_count_121 : (121, Instr.getfield 167, 3, 6, 29, 598) ∈ kX6_count := List.mem_of_getElem? (i := 41) rfl
theorem eX6_count_124 : (124, Instr.ireturn, 1, 0, 0, 0) ∈ kX6_count := List.mem_of_getElem? (i := 42) rfl
theorem eX6_count_125 : (125, Instr.aload_n 0, 1, 0, 0, 0) ∈ kX6_count := List.mem_of_getElem? (i := 43) rfl
theorem eX6_count_126 : (126, Instr.getfield 113, 3, 6, 5, 574) ∈ kX6_count := List.mem_of_getElem? (i := 44) rfl
theorem eX6_count_129 : (129, Instr.ireturn, 1, 0, 0, 0) ∈ kX6_count := List.mem_of_getElem? (i := 45) rfl
theorem eX6_count_130 : (130, Instr.aload_n 0, 1, 0, 0, 0) ∈ kX6_count := List.mem_of_getElem? (i := 46) rfl
theorem eX6_count_131 : (131, Instr.getfield 96, 3, 6, 0, 569) ∈ kX6_count := List.mem_of_getElem? (i := 47) rfl
theorem eX6_count_134 : (134, Instr.ireturn, 1, 0, 0, 0) ∈ kX6_count := List.mem_of_getElem? (i := 48) rfl
theorem eX6_count_135 : (135, Instr.aload_n 0, 1, 0, 0, 0) ∈ kX6_count := List.mem_of_getElem? (i := 49) rfl
theorem eX6_count_136 : (136, Instr.getfield 96, 3, 6, 0, 569) ∈ kX6_count := List.mem_of_getElem? (i := 50) rfl
theorem eX6_count_139 : (139, Instr.sipush 1440, 3, 0, 0, 0) ∈ kX6_count := List.mem_of_getElem? (i := 51) rfl
theorem eX6_count_142 : (142, Instr.idiv, 1, 0, 0, 0) ∈ kX6_count := List.mem_of_getElem? (i := 52) rfl
theorem eX6_count_143 : (143, Instr.ireturn, 1, 0, 0, 0) ∈ kX6_count := List.mem_of_getElem? (i := 53) rfl
theorem eX6_count_144 : (144, Instr.aload_n 0, 1, 0, 0, 0) ∈ kX6_count := List.mem_of_getElem? (i := 54) rfl
theorem eX6_count_145 : (145, Instr.invokevirtual 135, 3, 80, 0, 704) ∈ kX6_count := List.mem_of_getElem? (i := 55) rfl
theorem eX6_count_148 : (148, Instr.ifCond .eq 7, 3, 155, 0, 0) ∈ kX6_count := List.mem_of_getElem? (i := 56) rfl
theorem eX6_count_151 : (151, Instr.iconst 1, 1, 0, 0, 0) ∈ kX6_count := List.mem_of_getElem? (i := 57) rfl
theorem eX6_count_152 : (152, Instr.goto 4, 3, 156, 0, 0) ∈ kX6_count := List.mem_of_getElem? (i := 58) rfl
theorem eX6_count_155 : (155, Instr.iconst 0, 1, 0, 0, 0) ∈ kX6_count := List.mem_of_getElem? (i := 59) rfl
theorem eX6_count_156 : (156, Instr.ireturn, 1, 0, 0, 0) ∈ kX6_count := List.mem_of_getElem? (i := 60) rfl
theorem eX6_count_157 : (157, Instr.aload_n 0, 1, 0, 0, 0) ∈ kX6_count := List.mem_of_getElem? (i := 61) rfl
theorem eX6_count_158 : (158, Instr.getfield 110, 3, 6, 3, 572) ∈ kX6_count := List.mem_of_getElem? (i := 62) rfl
theorem eX6_count_161 : (161, Instr.ireturn, 1, 0, 0, 0) ∈ kX6_count := List.mem_of_getElem? (i := 63) rfl
theorem eX6_count_162 : (162, Instr.iload_n 3, 1, 0, 0, 0) ∈ kX6_count := List.mem_of_getElem? (i := 64) rfl
theorem eX6_count_163 : (163, Instr.ireturn, 1, 0, 0, 0) ∈ kX6_count := List.mem_of_getElem? (i := 65) rfl
theorem eX6_count_164 : (164, Instr.aload_n 0, 1, 0, 0, 0) ∈ kX6_count := List.mem_of_getElem? (i := 66) rfl
theorem eX6_count_165 : (165, Instr.getfield 145, 3, 6, 4, 573) ∈ kX6_count := List.mem_of_getElem? (i := 67) rfl
theorem eX6_count_168 : (168, Instr.ireturn, 1, 0, 0, 0) ∈ kX6_count := List.mem_of_getElem? (i := 68) rfl
theorem eX6_count_169 : (169, Instr.iconst (-1), 1, 0, 0, 0) ∈ kX6_count := List.mem_of_getElem? (i := 69) rfl
theorem eX6_count_170 : (170, Instr.ireturn, 1, 0, 0, 0) ∈ kX6_count := List.mem_of_getElem? (i := 70) rfl
