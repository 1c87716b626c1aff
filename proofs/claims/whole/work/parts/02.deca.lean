theorem dX0_init_0 : decode cX0_init 0 = .ok (.aload_n 0, 1) := by decide +kernel
theorem dX0_init_1 : decode cX0_init 1 = .ok (.invokespecial 1, 3) := by decide +kernel
theorem dX0_init_4 : decode cX0_init 4 = .ok (.aload_n 0, 1) := by decide +kernel
theorem dX0_init_5 : decode cX0_init 5 = .ok (.new 7, 3) := by decide +kernel
theorem dX0_init_8 : decode cX0_init 8 = .ok (.dup, 1) := by decide +kernel
theorem dX0_init_9 : decode cX0_init 9 = .ok (.invokespecial 9, 3) := by decide +kernel
theorem dX0_init_12 : decode cX0_init 12 = .ok (.putfield 10, 3) := by decide +kernel
theorem dX0_init_15 : decode cX0_init 15 = .ok (.return_, 1) := by decide +kernel
theorem dX0_set_0 : decode cX0_set 0 = .ok (.aload_n 0, 1) := by decide +kernel
theorem dX0_set_1 : decode cX0_set 1 = .ok (.getfield 10, 3) := by decide +kernel
theorem dX0_set_4 : decode cX0_set 4 = .ok (.aload_n 1, 1) := by decide +kernel
theorem dX0_set_5 : decode cX0_set 5 = .ok (.invokevirtual 16, 3) := by decide +kernel
theorem dX0_set_8 : decode cX0_set 8 = .ok (.aload_n 0, 1) := by decide +kernel
theorem dX0_set_9 : decode cX0_set 9 = .ok (.iload_n 2, 1) := by decide +kernel
theorem dX0_set_10 : decode cX0_set 10 = .ok (.putfield 20, 3) := by decide +kernel
theorem dX0_set_13 : decode cX0_set 13 = .ok (.aload_n 0, 1) := by decide +kernel
theorem dX0_set_14 : decode cX0_set 14 = .ok (.iload_n 3, 1) := by decide +kernel
theorem dX0_set_15 : decode cX0_set 15 = .ok (.putfield 24, 3) := by decide +kernel
theorem dX0_set_18 : decode cX0_set 18 = .ok (.aload_n 0, 1) := by decide +kernel
theorem dX0_set_19 : decode cX0_set 19 = .ok (.iload 4, 2) := by decide +kernel
theorem dX0_set_21 : decode cX0_set 21 = .ok (.putfield 27, 3) := by decide +kernel
theorem dX0_set_24 : decode cX0_set 24 = .ok (.return_, 1) := by decide +kernel
theorem dX1_init_0 : decode cX1_init 0 = .ok (.aload_n 0, 1) := by decide +kernel
theorem dX1_init_1 : decode cX1_init 1 = .ok (.invokespecial 3, 3) := by decide +kernel
theorem dX1_init_4 : decode cX1_init 4 = .ok (.aload_n 0, 1) := by decide +kernel
theorem dX1_init_5 : decode cX1_init 5 = .ok (.bipush 20, 2) := by decide +kernel
theorem dX1_init_7 : decode cX1_init 7 = .ok (.newarray .int, 2) := by decide +kernel
theorem dX1_init_9 : decode cX1_init 9 = .ok (.putfield 9, 3) := by decide +kernel
theorem dX1_init_12 : decode cX1_init 12 = .ok (.aload_n 0, 1) := by decide +kernel
theorem dX1_init_13 : decode cX1_init 13 = .ok (.bipush 20, 2) := by decide +kernel
theorem dX1_init_15 : decode cX1_init 15 = .ok (.newarray .int, 2) := by decide +kernel
theorem dX1_init_17 : decode cX1_init 17 = .ok (.putfield 15, 3) := by decide +kernel
theorem dX1_init_20 : decode cX1_init 20 = .ok (.aload_n 0, 1) := by decide +kernel
theorem dX1_init_21 : decode cX1_init 21 = .ok (.bipush 20, 2) := by decide +kernel
theorem dX1_init_23 : decode cX1_init 23 = .ok (.newarray .int, 2) := by decide +kernel
theorem dX1_init_25 : decode cX1_init 25 = .ok (.putfield 18, 3) := by decide +kernel
theorem dX1_init_28 : decode cX1_init 28 = .ok (.return_, 1) := by decide +kernel
theorem dX1_add_0 : decode cX1_add 0 = .ok (.aload_n 0, 1) := by decide +kernel
theorem dX1_add_1 : decode cX1_add 1 = .ok (.getfield 21, 3) := by decide +kernel
theorem dX1_add_4 : decode cX1_add 4 = .ok (.bipush 20, 2) := by decide +kernel
theorem dX1_add_6 : decode cX1_add 6 = .ok (.if_icmp .lt 5, 3) := by decide +kernel
theorem dX1_add_9 : decode cX1_add 9 = .ok (.iconst (-1), 1) := by decide +kernel
theorem dX1_add_10 : decode cX1_add 10 = .ok (.ireturn, 1) := by decide +kernel
theorem dX1_add_11 : decode cX1_add 11 = .ok (.aload_n 0, 1) := by decide +kernel
theorem dX1_add_12 : decode cX1_add 12 = .ok (.getfield 9, 3) := by decide +kernel
theorem dX1_add_15 : decode cX1_add 15 = .ok (.aload_n 0, 1) := by decide +kernel
theorem dX1_add_16 : decode cX1_add 16 = .ok (.getfield 21, 3) := by decide +kernel
theorem dX1_add_19 : decode cX1_add 19 = .ok (.iload_n 1, 1) := by decide +kernel
theorem dX1_add_20 : decode cX1_add 20 = .ok (.iastore, 1) := by decide +kernel
theorem dX1_add_21 : decode cX1_add 21 = .ok (.aload_n 0, 1) := by decide +kernel
theorem dX1_add_22 : decode cX1_add 22 = .ok (.getfield 15, 3) := by decide +kernel
theorem dX1_add_25 : decode cX1_add 25 = .ok (.aload_n 0, 1) := by decide +kernel
theorem dX1_add_26 : decode cX1_add 26 = .ok (.getfield 21, 3) := by decide +kernel
theorem dX1_add_29 : decode cX1_add 29 = .ok (.iload_n 2, 1) := by decide +kernel
theorem dX1_add_30 : decode cX1_add 30 = .ok (.iastore, 1) := by decide +kernel
theorem dX1_add_31 : decode cX1_add 31 = .ok (.aload_n 0, 1) := by decide +kernel
theorem dX1_add_32 : decode cX1_add 32 = .ok (.getfield 18, 3) := by decide +kernel
theorem dX1_add_35 : decode cX1_add 35 = .ok (.aload_n 0, 1) := by decide +kernel
theorem dX1_add_36 : decode cX1_add 36 = .ok (.getfield 21, 3) := by decide +kernel
theorem dX1_add_39 : decode cX1_add 39 = .ok (.iload_n 3, 1) := by decide +kernel
theorem dX1_add_40 : decode cX1_add 40 = .ok (.iastore, 1) := by decide +kernel
theorem dX1_add_41 : decode cX1_add 41 = .ok (.aload_n 0, 1) := by decide +kernel
theorem dX1_add_42 : decode cX1_add 42 = .ok (.dup, 1) := by decide +kernel
theorem dX1_add_43 : decode cX1_add 43 = .ok (.getfield 21, 3) := by decide +kernel
theorem dX1_add_46 : decode cX1_add 46 = .ok (.iconst 1, 1) := by decide +kernel
theorem dX1_add_47 : decode cX1_add 47 = .ok (.iadd, 1) := by decide +kernel
theorem dX1_add_48 : decode cX1_add 48 = .ok (.putfield 21, 3) := by decide +kernel
theorem dX1_add_51 : decode cX1_add 51 = .ok (.aload_n 0, 1) := by decide +kernel
theorem dX1_add_52 : decode cX1_add 52 = .ok (.getfield 21, 3) := by decide +kernel
theorem dX1_add_55 : decode cX1_add 55 = .ok (.iconst 1, 1) := by decide +kernel
theorem dX1_add_56 : decode cX1_add 56 = .ok (.isub, 1) := by decide +kernel
theorem dX1_add_57 : decode cX1_add 57 = .ok (.ireturn, 1) := by decide +kernel
theorem dX1_worksIn_0 : decode cX1_worksIn 0 = .ok (.iload_n 1, 1) := by decide +kernel
theorem dX1_worksIn_1 : decode cX1_worksIn 1 = .ok (.ifCond .lt 11, 3) := by decide +kernel
theorem dX1_worksIn_4 : decode cX1_worksIn 4 = .ok (.iload_n 1, 1) := by decide +kernel
theorem dX1_worksIn_5 : decode cX1_worksIn 5 = .ok (.aload_n 0, 1) := by decide +kernel
theorem dX1_worksIn_6 : decode cX1_worksIn 6 = .ok (.getfield 21, 3) := by decide +kernel
theorem dX1_worksIn_9 : decode cX1_worksIn 9 = .ok (.if_icmp .lt 5, 3) := by decide +kernel
theorem dX1_worksIn_12 : decode cX1_worksIn 12 = .ok (.iconst 0, 1) := by decide +kernel
theorem dX1_worksIn_13 : decode cX1_worksIn 13 = .ok (.ireturn, 1) := by decide +kernel
theorem dX1_worksIn_14 : decode cX1_worksIn 14 = .ok (.aload_n 0, 1) := by decide +kernel
theorem dX1_worksIn_15 : decode cX1_worksIn 15 = .ok (.getfield 15, 3) := by decide +kernel
theorem dX1_worksIn_18 : decode cX1_worksIn 18 = .ok (.iload_n 1, 1) := by decide +kernel
theorem dX1_worksIn_19 : decode cX1_worksIn 19 = .ok (.iaload, 1) := by decide +kernel
theorem dX1_worksIn_20 : decode cX1_worksIn 20 = .ok (.ifCond .ne 5, 3) := by decide +kernel
theorem dX1_worksIn_23 : decode cX1_worksIn 23 = .ok (.iconst 1, 1) := by decide +kernel
theorem dX1_worksIn_24 : decode cX1_worksIn 24 = .ok (.ireturn, 1) := by decide +kernel
theorem dX1_worksIn_25 : decode cX1_worksIn 25 = .ok (.aload_n 0, 1) := by decide +kernel
theorem dX1_worksIn_26 : decode cX1_worksIn 26 = .ok (.getfield 9, 3) := by decide +kernel
theorem dX1_worksIn_29 : decode cX1_worksIn 29 = .ok (.iload_n 1, 1) := by decide +kernel
theorem dX1_worksIn_30 : decode cX1_worksIn 30 = .ok (.iaload, 1) := by decide +kernel
theorem dX1_worksIn_31 : decode cX1_worksIn 31 = .ok (.ifCond .ne 30, 3) := by decide +kernel
theorem dX1_worksIn_34 : decode cX1_worksIn 34 = .ok (.aload_n 2, 1) := by decide +kernel
theorem dX1_worksIn_35 : decode cX1_worksIn 35 = .ok (.getfield 25, 3) := by decide +kernel
theorem dX1_worksIn_38 : decode cX1_worksIn 38 = .ok (.iconst 1, 1) := by decide +kernel
theorem dX1_worksIn_39 : decode cX1_worksIn 39 = .ok (.if_icmp .le 20, 3) := by decide +kernel
theorem dX1_worksIn_42 : decode cX1_worksIn 42 = .ok (.aload_n 2, 1) := by decide +kernel
theorem dX1_worksIn_43 : decode cX1_worksIn 43 = .ok (.aload_n 0, 1) := by decide +kernel
theorem dX1_worksIn_44 : decode cX1_worksIn 44 = .ok (.getfield 15, 3) := by decide +kernel
theorem dX1_worksIn_47 : decode cX1_worksIn 47 = .ok (.iload_n 1, 1) := by decide +kernel
theorem dX1_worksIn_48 : decode cX1_worksIn 48 = .ok (.iaload, 1) := by decide +kernel
theorem dX1_worksIn_49 : decode cX1_worksIn 49 = .ok (.invokevirtual 28, 3) := by decide +kernel
theorem dX1_worksIn_52 : decode cX1_worksIn 52 = .ok (.ifCond .eq 7, 3) := by decide +kernel
theorem dX1_worksIn_55 : decode cX1_worksIn 55 = .ok (.iconst 1, 1) := by decide +kernel
theorem dX1_worksIn_56 : decode cX1_worksIn 56 = .ok (.goto 4, 3) := by decide +kernel
theorem dX1_worksIn_59 : decode cX1_worksIn 59 = .ok (.iconst 0, 1) := by decide +kernel
theorem dX1_worksIn_60 : decode cX1_worksIn 60 = .ok (.ireturn, 1) := by decide +kernel
theorem dX1_worksIn_61 : decode cX1_worksIn 61 = .ok (.aload_n 2, 1) := by decide +kernel
theorem dX1_worksIn_62 : decode cX1_worksIn 62 = .ok (.aload_n 0, 1) := by decide +kernel
theorem dX1_worksIn_63 : decode cX1_worksIn 63 = .ok (.getfield 15, 3) := by decide +kernel
theorem dX1_worksIn_66 : decode cX1_worksIn 66 = .ok (.iload_n 1, 1) := by decide +kernel
theorem dX1_worksIn_67 : decode cX1_worksIn 67 = .ok (.iaload, 1) := by decide +kernel
theorem dX1_worksIn_68 : decode cX1_worksIn 68 = .ok (.aload_n 0, 1) := by decide +kernel
theorem dX1_worksIn_69 : decode cX1_worksIn 69 = .ok (.getfield 9, 3) := by decide +kernel
theorem dX1_worksIn_72 : decode cX1_worksIn 72 = .ok (.iload_n 1, 1) := by decide +kernel
theorem dX1_worksIn_73 : decode cX1_worksIn 73 = .ok (.iaload, 1) := by decide +kernel
theorem dX1_worksIn_74 : decode cX1_worksIn 74 = .ok (.invokevirtual 32, 3) := by decide +kernel
theorem dX1_worksIn_77 : decode cX1_worksIn 77 = .ok (.ireturn, 1) := by decide +kernel
theorem dX1_gainBy_0 : decode cX1_gainBy 0 = .ok (.iload_n 1, 1) := by decide +kernel
theorem dX1_gainBy_1 : decode cX1_gainBy 1 = .ok (.ifCond .lt 35, 3) := by decide +kernel
theorem dX1_gainBy_4 : decode cX1_gainBy 4 = .ok (.iload_n 1, 1) := by decide +kernel
theorem dX1_gainBy_5 : decode cX1_gainBy 5 = .ok (.aload_n 0, 1) := by decide +kernel
theorem dX1_gainBy_6 : decode cX1_gainBy 6 = .ok (.getfield 21, 3) := by decide +kernel
theorem dX1_gainBy_9 : decode cX1_gainBy 9 = .ok (.if_icmp .ge 27, 3) := by decide +kernel
theorem dX1_gainBy_12 : decode cX1_gainBy 12 = .ok (.getstatic 36, 3) := by decide +kernel
theorem dX1_gainBy_15 : decode cX1_gainBy 15 = .ok (.aload_n 0, 1) := by decide +kernel
theorem dX1_gainBy_16 : decode cX1_gainBy 16 = .ok (.getfield 9, 3) := by decide +kernel
theorem dX1_gainBy_19 : decode cX1_gainBy 19 = .ok (.iload_n 1, 1) := by decide +kernel
theorem dX1_gainBy_20 : decode cX1_gainBy 20 = .ok (.iaload, 1) := by decide +kernel
theorem dX1_gainBy_21 : decode cX1_gainBy 21 = .ok (.iaload, 1) := by decide +kernel
theorem dX1_gainBy_22 : decode cX1_gainBy 22 = .ok (.getstatic 36, 3) := by decide +kernel
theorem dX1_gainBy_25 : decode cX1_gainBy 25 = .ok (.aload_n 0, 1) := by decide +kernel
theorem dX1_gainBy_26 : decode cX1_gainBy 26 = .ok (.getfield 15, 3) := by decide +kernel
theorem dX1_gainBy_29 : decode cX1_gainBy 29 = .ok (.iload_n 1, 1) := by decide +kernel
theorem dX1_gainBy_30 : decode cX1_gainBy 30 = .ok (.iaload, 1) := by decide +kernel
theorem dX1_gainBy_31 : decode cX1_gainBy 31 = .ok (.iaload, 1) := by decide +kernel
theorem dX1_gainBy_32 : decode cX1_gainBy 32 = .ok (.isub, 1) := by decide +kernel
theorem dX1_gainBy_33 : decode cX1_gainBy 33 = .ok (.goto 4, 3) := by decide +kernel
theorem dX1_gainBy_36 : decode cX1_gainBy 36 = .ok (.iconst 0, 1) := by decide +kernel
theorem dX1_gainBy_37 : decode cX1_gainBy 37 = .ok (.ireturn, 1) := by decide +kernel
theorem dX2_init_0 : decode cX2_init 0 = .ok (.aload_n 0, 1) := by decide +kernel
theorem dX2_init_1 : decode cX2_init 1 = .ok (.invokespecial 3, 3) := by decide +kernel
theorem dX2_init_4 : decode cX2_init 4 = .ok (.aload_n 0, 1) := by decide +kernel
theorem dX2_init_5 : decode cX2_init 5 = .ok (.bipush 12, 2) := by decide +kernel
theorem dX2_init_7 : decode cX2_init 7 = .ok (.anewarray 9, 3) := by decide +kernel
theorem dX2_init_10 : decode cX2_init 10 = .ok (.putfield 11, 3) := by decide +kernel
theorem dX2_init_13 : decode cX2_init 13 = .ok (.aload_n 0, 1) := by decide +kernel
theorem dX2_init_14 : decode cX2_init 14 = .ok (.bipush 12, 2) := by decide +kernel
theorem dX2_init_16 : decode cX2_init 16 = .ok (.anewarray 9, 3) := by decide +kernel
theorem dX2_init_19 : decode cX2_init 19 = .ok (.putfield 17, 3) := by decide +kernel
theorem dX2_init_22 : decode cX2_init 22 = .ok (.aload_n 0, 1) := by decide +kernel
theorem dX2_init_23 : decode cX2_init 23 = .ok (.bipush 10, 2) := by decide +kernel
theorem dX2_init_25 : decode cX2_init 25 = .ok (.putfield 20, 3) := by decide +kernel
theorem dX2_init_28 : decode cX2_init 28 = .ok (.aload_n 0, 1) := by decide +kernel
theorem dX2_init_29 : decode cX2_init 29 = .ok (.bipush 6, 2) := by decide +kernel
theorem dX2_init_31 : decode cX2_init 31 = .ok (.putfield 24, 3) := by decide +kernel
theorem dX2_init_34 : decode cX2_init 34 = .ok (.iconst 0, 1) := by decide +kernel
theorem dX2_init_35 : decode cX2_init 35 = .ok (.istore_n 1, 1) := by decide +kernel
theorem dX2_init_36 : decode cX2_init 36 = .ok (.iload_n 1, 1) := by decide +kernel
theorem dX2_init_37 : decode cX2_init 37 = .ok (.bipush 12, 2) := by decide +kernel
theorem dX2_init_39 : decode cX2_init 39 = .ok (.if_icmp .ge 35, 3) := by decide +kernel
theorem dX2_init_42 : decode cX2_init 42 = .ok (.aload_n 0, 1) := by decide +kernel
theorem dX2_init_43 : decode cX2_init 43 = .ok (.getfield 11, 3) := by decide +kernel
theorem dX2_init_46 : decode cX2_init 46 = .ok (.iload_n 1, 1) := by decide +kernel
theorem dX2_init_47 : decode cX2_init 47 = .ok (.new 9, 3) := by decide +kernel
theorem dX2_init_50 : decode cX2_init 50 = .ok (.dup, 1) := by decide +kernel
theorem dX2_init_51 : decode cX2_init 51 = .ok (.invokespecial 27, 3) := by decide +kernel
theorem dX2_init_54 : decode cX2_init 54 = .ok (.aastore, 1) := by decide +kernel
theorem dX2_init_55 : decode cX2_init 55 = .ok (.aload_n 0, 1) := by decide +kernel
theorem dX2_init_56 : decode cX2_init 56 = .ok (.getfield 17, 3) := by decide +kernel
theorem dX2_init_59 : decode cX2_init 59 = .ok (.iload_n 1, 1) := by decide +kernel
theorem dX2_init_60 : decode cX2_init 60 = .ok (.new 9, 3) := by decide +kernel
theorem dX2_init_63 : decode cX2_init 63 = .ok (.dup, 1) := by decide +kernel
theorem dX2_init_64 : decode cX2_init 64 = .ok (.invokespecial 27, 3) := by decide +kernel
theorem dX2_init_67 : decode cX2_init 67 = .ok (.aastore, 1) := by decide +kernel
theorem dX2_init_68 : decode cX2_init 68 = .ok (.iinc 1 1, 3) := by decide +kernel
theorem dX2_init_71 : decode cX2_init 71 = .ok (.goto (-35), 3) := by decide +kernel
theorem dX2_init_74 : decode cX2_init 74 = .ok (.return_, 1) := by decide +kernel
theorem dX2_hasRuinAt_0 : decode cX2_hasRuinAt 0 = .ok (.iconst 0, 1) := by decide +kernel
theorem dX2_hasRuinAt_1 : decode cX2_hasRuinAt 1 = .ok (.istore_n 2, 1) := by decide +kernel
theorem dX2_hasRuinAt_2 : decode cX2_hasRuinAt 2 = .ok (.iload_n 2, 1) := by decide +kernel
theorem dX2_hasRuinAt_3 : decode cX2_hasRuinAt 3 = .ok (.aload_n 0, 1) := by decide +kernel
theorem dX2_hasRuinAt_4 : decode cX2_hasRuinAt 4 = .ok (.getfield 28, 3) := by decide +kernel
theorem dX2_hasRuinAt_7 : decode cX2_hasRuinAt 7 = .ok (.if_icmp .ge 24, 3) := by decide +kernel
theorem dX2_hasRuinAt_10 : decode cX2_hasRuinAt 10 = .ok (.aload_n 0, 1) := by decide +kernel
theorem dX2_hasRuinAt_11 : decode cX2_hasRuinAt 11 = .ok (.getfield 11, 3) := by decide +kernel
theorem dX2_hasRuinAt_14 : decode cX2_hasRuinAt 14 = .ok (.iload_n 2, 1) := by decide +kernel
theorem dX2_hasRuinAt_15 : decode cX2_hasRuinAt 15 = .ok (.aaload, 1) := by decide +kernel
theorem dX2_hasRuinAt_16 : decode cX2_hasRuinAt 16 = .ok (.getfield 31, 3) := by decide +kernel
theorem dX2_hasRuinAt_19 : decode cX2_hasRuinAt 19 = .ok (.iload_n 1, 1) := by decide +kernel
theorem dX2_hasRuinAt_20 : decode cX2_hasRuinAt 20 = .ok (.if_icmp .ne 5, 3) := by decide +kernel
theorem dX2_hasRuinAt_23 : decode cX2_hasRuinAt 23 = .ok (.iconst 1, 1) := by decide +kernel
theorem dX2_hasRuinAt_24 : decode cX2_hasRuinAt 24 = .ok (.ireturn, 1) := by decide +kernel
theorem dX2_hasRuinAt_25 : decode cX2_hasRuinAt 25 = .ok (.iinc 2 1, 3) := by decide +kernel
theorem dX2_hasRuinAt_28 : decode cX2_hasRuinAt 28 = .ok (.goto (-26), 3) := by decide +kernel
theorem dX2_hasRuinAt_31 : decode cX2_hasRuinAt 31 = .ok (.iconst 0, 1) := by decide +kernel
theorem dX2_hasRuinAt_32 : decode cX2_hasRuinAt 32 = .ok (.ireturn, 1) := by decide +kernel
theorem dX2_addRuin_0 : decode cX2_addRuin 0 = .ok (.aload_n 0, 1) := by decide +kernel
theorem dX2_addRuin_1 : decode cX2_addRuin 1 = .ok (.getfield 28, 3) := by decide +kernel
theorem dX2_addRuin_4 : decode cX2_addRuin 4 = .ok (.bipush 12, 2) := by decide +kernel
theorem dX2_addRuin_6 : decode cX2_addRuin 6 = .ok (.if_icmp .lt 5, 3) := by decide +kernel
theorem dX2_addRuin_9 : decode cX2_addRuin 9 = .ok (.iconst (-1), 1) := by decide +kernel
theorem dX2_addRuin_10 : decode cX2_addRuin 10 = .ok (.ireturn, 1) := by decide +kernel
theorem dX2_addRuin_11 : decode cX2_addRuin 11 = .ok (.aload_n 0, 1) := by decide +kernel
theorem dX2_addRuin_12 : decode cX2_addRuin 12 = .ok (.getfield 11, 3) := by decide +kernel
theorem dX2_addRuin_15 : decode cX2_addRuin 15 = .ok (.aload_n 0, 1) := by decide +kernel
theorem dX2_addRuin_16 : decode cX2_addRuin 16 = .ok (.getfield 28, 3) := by decide +kernel
theorem dX2_addRuin_19 : decode cX2_addRuin 19 = .ok (.aaload, 1) := by decide +kernel
theorem dX2_addRuin_20 : decode cX2_addRuin 20 = .ok (.aload_n 1, 1) := by decide +kernel
theorem dX2_addRuin_21 : decode cX2_addRuin 21 = .ok (.iload_n 2, 1) := by decide +kernel
theorem dX2_addRuin_22 : decode cX2_addRuin 22 = .ok (.iconst 0, 1) := by decide +kernel
theorem dX2_addRuin_23 : decode cX2_addRuin 23 = .ok (.iload_n 3, 1) := by decide +kernel
theorem dX2_addRuin_24 : decode cX2_addRuin 24 = .ok (.invokevirtual 34, 3) := by decide +kernel
theorem dX2_addRuin_27 : decode cX2_addRuin 27 = .ok (.aload_n 0, 1) := by decide +kernel
theorem dX2_addRuin_28 : decode cX2_addRuin 28 = .ok (.dup, 1) := by decide +kernel
theorem dX2_addRuin_29 : decode cX2_addRuin 29 = .ok (.getfield 28, 3) := by decide +kernel
theorem dX2_addRuin_32 : decode cX2_addRuin 32 = .ok (.iconst 1, 1) := by decide +kernel
theorem dX2_addRuin_33 : decode cX2_addRuin 33 = .ok (.iadd, 1) := by decide +kernel
theorem dX2_addRuin_34 : decode cX2_addRuin 34 = .ok (.putfield 28, 3) := by decide +kernel
theorem dX2_addRuin_37 : decode cX2_addRuin 37 = .ok (.aload_n 0, 1) := by decide +kernel
theorem dX2_addRuin_38 : decode cX2_addRuin 38 = .ok (.getfield 28, 3) := by decide +kernel
theorem dX2_addRuin_41 : decode cX2_addRuin 41 = .ok (.iconst 1, 1) := by decide +kernel
theorem dX2_addRuin_42 : decode cX2_addRuin 42 = .ok (.isub, 1) := by decide +kernel
theorem dX2_addRuin_43 : decode cX2_addRuin 43 = .ok (.ireturn, 1) := by decide +kernel
theorem dX2_addStone_0 : decode cX2_addStone 0 = .ok (.aload_n 0, 1) := by decide +kernel
theorem dX2_addStone_1 : decode cX2_addStone 1 = .ok (.getfield 38, 3) := by decide +kernel
theorem dX2_addStone_4 : decode cX2_addStone 4 = .ok (.bipush 12, 2) := by decide +kernel
theorem dX2_addStone_6 : decode cX2_addStone 6 = .ok (.if_icmp .lt 5, 3) := by decide +kernel
theorem dX2_addStone_9 : decode cX2_addStone 9 = .ok (.iconst (-1), 1) := by decide +kernel
theorem dX2_addStone_10 : decode cX2_addStone 10 = .ok (.ireturn, 1) := by decide +kernel
theorem dX2_addStone_11 : decode cX2_addStone 11 = .ok (.aload_n 0, 1) := by decide +kernel
theorem dX2_addStone_12 : decode cX2_addStone 12 = .ok (.getfield 17, 3) := by decide +kernel
theorem dX2_addStone_15 : decode cX2_addStone 15 = .ok (.aload_n 0, 1) := by decide +kernel
theorem dX2_addStone_16 : decode cX2_addStone 16 = .ok (.getfield 38, 3) := by decide +kernel
theorem dX2_addStone_19 : decode cX2_addStone 19 = .ok (.aaload, 1) := by decide +kernel
theorem dX2_addStone_20 : decode cX2_addStone 20 = .ok (.aload_n 1, 1) := by decide +kernel
theorem dX2_addStone_21 : decode cX2_addStone 21 = .ok (.iload_n 2, 1) := by decide +kernel
theorem dX2_addStone_22 : decode cX2_addStone 22 = .ok (.iload_n 3, 1) := by decide +kernel
theorem dX2_addStone_23 : decode cX2_addStone 23 = .ok (.iload 4, 2) := by decide +kernel
theorem dX2_addStone_25 : decode cX2_addStone 25 = .ok (.invokevirtual 34, 3) := by decide +kernel
theorem dX2_addStone_28 : decode cX2_addStone 28 = .ok (.aload_n 0, 1) := by decide +kernel
theorem dX2_addStone_29 : decode cX2_addStone 29 = .ok (.dup, 1) := by decide +kernel
theorem dX2_addStone_30 : decode cX2_addStone 30 = .ok (.getfield 38, 3) := by decide +kernel
theorem dX2_addStone_33 : decode cX2_addStone 33 = .ok (.iconst 1, 1) := by decide +kernel
theorem dX2_addStone_34 : decode cX2_addStone 34 = .ok (.iadd, 1) := by decide +kernel
theorem dX2_addStone_35 : decode cX2_addStone 35 = .ok (.putfield 38, 3) := by decide +kernel
theorem dX2_addStone_38 : decode cX2_addStone 38 = .ok (.aload_n 0, 1) := by decide +kernel
theorem dX2_addStone_39 : decode cX2_addStone 39 = .ok (.getfield 38, 3) := by decide +kernel
theorem dX2_addStone_42 : decode cX2_addStone 42 = .ok (.iconst 1, 1) := by decide +kernel
theorem dX2_addStone_43 : decode cX2_addStone 43 = .ok (.isub, 1) := by decide +kernel
theorem dX2_addStone_44 : decode cX2_addStone 44 = .ok (.ireturn, 1) := by decide +kernel
theorem dX2_fillCosts_0 : decode cX2_fillCosts 0 = .ok (.iconst 0, 1) := by decide +kernel
theorem dX2_fillCosts_1 : decode cX2_fillCosts 1 = .ok (.istore 5, 2) := by decide +kernel
theorem dX2_fillCosts_3 : decode cX2_fillCosts 3 = .ok (.iload 5, 2) := by decide +kernel
theorem dX2_fillCosts_5 : decode cX2_fillCosts 5 = .ok (.aload_n 1, 1) := by decide +kernel
theorem dX2_fillCosts_6 : decode cX2_fillCosts 6 = .ok (.arraylength, 1) := by decide +kernel
theorem dX2_fillCosts_7 : decode cX2_fillCosts 7 = .ok (.if_icmp .ge 17, 3) := by decide +kernel
theorem dX2_fillCosts_10 : decode cX2_fillCosts 10 = .ok (.aload_n 1, 1) := by decide +kernel
theorem dX2_fillCosts_11 : decode cX2_fillCosts 11 = .ok (.iload 5, 2) := by decide +kernel
theorem dX2_fillCosts_13 : decode cX2_fillCosts 13 = .ok (.aload_n 0, 1) := by decide +kernel
theorem dX2_fillCosts_14 : decode cX2_fillCosts 14 = .ok (.getfield 20, 3) := by decide +kernel
theorem dX2_fillCosts_17 : decode cX2_fillCosts 17 = .ok (.iastore, 1) := by decide +kernel
theorem dX2_fillCosts_18 : decode cX2_fillCosts 18 = .ok (.iinc 5 1, 3) := by decide +kernel
theorem dX2_fillCosts_21 : decode cX2_fillCosts 21 = .ok (.goto (-18), 3) := by decide +kernel
theorem dX2_fillCosts_24 : decode cX2_fillCosts 24 = .ok (.iconst 0, 1) := by decide +kernel
theorem dX2_fillCosts_25 : decode cX2_fillCosts 25 = .ok (.istore 5, 2) := by decide +kernel
theorem dX2_fillCosts_27 : decode cX2_fillCosts 27 = .ok (.iload 5, 2) := by decide +kernel
theorem dX2_fillCosts_29 : decode cX2_fillCosts 29 = .ok (.aload_n 0, 1) := by decide +kernel
theorem dX2_fillCosts_30 : decode cX2_fillCosts 30 = .ok (.getfield 28, 3) := by decide +kernel
theorem dX2_fillCosts_33 : decode cX2_fillCosts 33 = .ok (.if_icmp .ge 63, 3) := by decide +kernel
theorem dX2_fillCosts_36 : decode cX2_fillCosts 36 = .ok (.aload_n 0, 1) := by decide +kernel
theorem dX2_fillCosts_37 : decode cX2_fillCosts 37 = .ok (.getfield 11, 3) := by decide +kernel
theorem dX2_fillCosts_40 : decode cX2_fillCosts 40 = .ok (.iload 5, 2) := by decide +kernel
theorem dX2_fillCosts_42 : decode cX2_fillCosts 42 = .ok (.aaload, 1) := by decide +kernel
theorem dX2_fillCosts_43 : decode cX2_fillCosts 43 = .ok (.astore 6, 2) := by decide +kernel
theorem dX2_fillCosts_45 : decode cX2_fillCosts 45 = .ok (.aload 6, 2) := by decide +kernel
theorem dX2_fillCosts_47 : decode cX2_fillCosts 47 = .ok (.getfield 41, 3) := by decide +kernel
theorem dX2_fillCosts_50 : decode cX2_fillCosts 50 = .ok (.iload_n 3, 1) := by decide +kernel
theorem dX2_fillCosts_51 : decode cX2_fillCosts 51 = .ok (.if_icmp .gt 39, 3) := by decide +kernel
theorem dX2_fillCosts_54 : decode cX2_fillCosts 54 = .ok (.aload 6, 2) := by decide +kernel
theorem dX2_fillCosts_56 : decode cX2_fillCosts 56 = .ok (.getfield 31, 3) := by decide +kernel
theorem dX2_fillCosts_59 : decode cX2_fillCosts 59 = .ok (.ifCond .lt 31, 3) := by decide +kernel
theorem dX2_fillCosts_62 : decode cX2_fillCosts 62 = .ok (.aload 6, 2) := by decide +kernel
theorem dX2_fillCosts_64 : decode cX2_fillCosts 64 = .ok (.getfield 31, 3) := by decide +kernel
theorem dX2_fillCosts_67 : decode cX2_fillCosts 67 = .ok (.aload_n 1, 1) := by decide +kernel
theorem dX2_fillCosts_68 : decode cX2_fillCosts 68 = .ok (.arraylength, 1) := by decide +kernel
theorem dX2_fillCosts_69 : decode cX2_fillCosts 69 = .ok (.if_icmp .ge 21, 3) := by decide +kernel
theorem dX2_fillCosts_72 : decode cX2_fillCosts 72 = .ok (.aload_n 1, 1) := by decide +kernel
theorem dX2_fillCosts_73 : decode cX2_fillCosts 73 = .ok (.aload 6, 2) := by decide +kernel
theorem dX2_fillCosts_75 : decode cX2_fillCosts 75 = .ok (.getfield 31, 3) := by decide +kernel
theorem dX2_fillCosts_78 : decode cX2_fillCosts 78 = .ok (.aload 4, 2) := by decide +kernel
theorem dX2_fillCosts_80 : decode cX2_fillCosts 80 = .ok (.aload_n 2, 1) := by decide +kernel
theorem dX2_fillCosts_81 : decode cX2_fillCosts 81 = .ok (.aload 6, 2) := by decide +kernel
theorem dX2_fillCosts_83 : decode cX2_fillCosts 83 = .ok (.getfield 44, 3) := by decide +kernel
theorem dX2_fillCosts_86 : decode cX2_fillCosts 86 = .ok (.invokevirtual 48, 3) := by decide +kernel
theorem dX2_fillCosts_89 : decode cX2_fillCosts 89 = .ok (.iastore, 1) := by decide +kernel
theorem dX2_fillCosts_90 : decode cX2_fillCosts 90 = .ok (.iinc 5 1, 3) := by decide +kernel
theorem dX2_fillCosts_93 : decode cX2_fillCosts 93 = .ok (.goto (-66), 3) := by decide +kernel
theorem dX2_fillCosts_96 : decode cX2_fillCosts 96 = .ok (.iconst 0, 1) := by decide +kernel
theorem dX2_fillCosts_97 : decode cX2_fillCosts 97 = .ok (.istore 5, 2) := by decide +kernel
theorem dX2_fillCosts_99 : decode cX2_fillCosts 99 = .ok (.iload 5, 2) := by decide +kernel
theorem dX2_fillCosts_101 : decode cX2_fillCosts 101 = .ok (.aload_n 0, 1) := by decide +kernel
theorem dX2_fillCosts_102 : decode cX2_fillCosts 102 = .ok (.getfield 38, 3) := by decide +kernel
theorem dX2_fillCosts_105 : decode cX2_fillCosts 105 = .ok (.if_icmp .ge 52, 3) := by decide +kernel
theorem dX2_fillCosts_108 : decode cX2_fillCosts 108 = .ok (.aload_n 0, 1) := by decide +kernel
theorem dX2_fillCosts_109 : decode cX2_fillCosts 109 = .ok (.getfield 17, 3) := by decide +kernel
theorem dX2_fillCosts_112 : decode cX2_fillCosts 112 = .ok (.iload 5, 2) := by decide +kernel
theorem dX2_fillCosts_114 : decode cX2_fillCosts 114 = .ok (.aaload, 1) := by decide +kernel
theorem dX2_fillCosts_115 : decode cX2_fillCosts 115 = .ok (.getfield 41, 3) := by decide +kernel
theorem dX2_fillCosts_118 : decode cX2_fillCosts 118 = .ok (.iload_n 3, 1) := by decide +kernel
theorem dX2_fillCosts_119 : decode cX2_fillCosts 119 = .ok (.if_icmp .gt 32, 3) := by decide +kernel
theorem dX2_fillCosts_122 : decode cX2_fillCosts 122 = .ok (.aload_n 0, 1) := by decide +kernel
theorem dX2_fillCosts_123 : decode cX2_fillCosts 123 = .ok (.getfield 17, 3) := by decide +kernel
theorem dX2_fillCosts_126 : decode cX2_fillCosts 126 = .ok (.iload 5, 2) := by decide +kernel
theorem dX2_fillCosts_128 : decode cX2_fillCosts 128 = .ok (.aaload, 1) := by decide +kernel
theorem dX2_fillCosts_129 : decode cX2_fillCosts 129 = .ok (.getfield 44, 3) := by decide +kernel
theorem dX2_fillCosts_132 : decode cX2_fillCosts 132 = .ok (.aload_n 2, 1) := by decide +kernel
theorem dX2_fillCosts_133 : decode cX2_fillCosts 133 = .ok (.invokevirtual 54, 3) := by decide +kernel
theorem dX2_fillCosts_136 : decode cX2_fillCosts 136 = .ok (.ifCond .eq 15, 3) := by decide +kernel
theorem dX2_fillCosts_139 : decode cX2_fillCosts 139 = .ok (.aload_n 0, 1) := by decide +kernel
theorem dX2_fillCosts_140 : decode cX2_fillCosts 140 = .ok (.aload_n 1, 1) := by decide +kernel
theorem dX2_fillCosts_141 : decode cX2_fillCosts 141 = .ok (.aload_n 0, 1) := by decide +kernel
theorem dX2_fillCosts_142 : decode cX2_fillCosts 142 = .ok (.getfield 17, 3) := by decide +kernel
theorem dX2_fillCosts_145 : decode cX2_fillCosts 145 = .ok (.iload 5, 2) := by decide +kernel
theorem dX2_fillCosts_147 : decode cX2_fillCosts 147 = .ok (.aaload, 1) := by decide +kernel
theorem dX2_fillCosts_148 : decode cX2_fillCosts 148 = .ok (.invokevirtual 60, 3) := by decide +kernel
theorem dX2_fillCosts_151 : decode cX2_fillCosts 151 = .ok (.iinc 5 1, 3) := by decide +kernel
theorem dX2_fillCosts_154 : decode cX2_fillCosts 154 = .ok (.goto (-55), 3) := by decide +kernel
theorem dX2_fillCosts_157 : decode cX2_fillCosts 157 = .ok (.return_, 1) := by decide +kernel
theorem dX2_addMoved_0 : decode cX2_addMoved 0 = .ok (.iconst 0, 1) := by decide +kernel
theorem dX2_addMoved_1 : decode cX2_addMoved 1 = .ok (.istore_n 3, 1) := by decide +kernel
theorem dX2_addMoved_2 : decode cX2_addMoved 2 = .ok (.iload_n 3, 1) := by decide +kernel
theorem dX2_addMoved_3 : decode cX2_addMoved 3 = .ok (.aload_n 1, 1) := by decide +kernel
theorem dX2_addMoved_4 : decode cX2_addMoved 4 = .ok (.arraylength, 1) := by decide +kernel
theorem dX2_addMoved_5 : decode cX2_addMoved 5 = .ok (.if_icmp .ge 35, 3) := by decide +kernel
theorem dX2_addMoved_8 : decode cX2_addMoved 8 = .ok (.iload_n 3, 1) := by decide +kernel
theorem dX2_addMoved_9 : decode cX2_addMoved 9 = .ok (.aload_n 2, 1) := by decide +kernel
theorem dX2_addMoved_10 : decode cX2_addMoved 10 = .ok (.getfield 31, 3) := by decide +kernel
theorem dX2_addMoved_13 : decode cX2_addMoved 13 = .ok (.isub, 1) := by decide +kernel
theorem dX2_addMoved_14 : decode cX2_addMoved 14 = .ok (.invokestatic 64, 3) := by decide +kernel
theorem dX2_addMoved_17 : decode cX2_addMoved 17 = .ok (.aload_n 2, 1) := by decide +kernel
theorem dX2_addMoved_18 : decode cX2_addMoved 18 = .ok (.getfield 70, 3) := by decide +kernel
theorem dX2_addMoved_21 : decode cX2_addMoved 21 = .ok (.if_icmp .eq 13, 3) := by decide +kernel
theorem dX2_addMoved_24 : decode cX2_addMoved 24 = .ok (.aload_n 1, 1) := by decide +kernel
theorem dX2_addMoved_25 : decode cX2_addMoved 25 = .ok (.iload_n 3, 1) := by decide +kernel
theorem dX2_addMoved_26 : decode cX2_addMoved 26 = .ok (.dup2, 1) := by decide +kernel
theorem dX2_addMoved_27 : decode cX2_addMoved 27 = .ok (.iaload, 1) := by decide +kernel
theorem dX2_addMoved_28 : decode cX2_addMoved 28 = .ok (.aload_n 0, 1) := by decide +kernel
theorem dX2_addMoved_29 : decode cX2_addMoved 29 = .ok (.getfield 24, 3) := by decide +kernel
theorem dX2_addMoved_32 : decode cX2_addMoved 32 = .ok (.iadd, 1) := by decide +kernel
theorem dX2_addMoved_33 : decode cX2_addMoved 33 = .ok (.iastore, 1) := by decide +kernel
theorem dX2_addMoved_34 : decode cX2_addMoved 34 = .ok (.iinc 3 1, 3) := by decide +kernel
theorem dX2_addMoved_37 : decode cX2_addMoved 37 = .ok (.goto (-35), 3) := by decide +kernel
theorem dX2_addMoved_40 : decode cX2_addMoved 40 = .ok (.return_, 1) := by decide +kernel
theorem dX3_init_0 : decode cX3_init 0 = .ok (.aload_n 0, 1) := by decide +kernel
theorem dX3_init_1 : decode cX3_init 1 = .ok (.invokespecial 3, 3) := by decide +kernel
theorem dX3_init_4 : decode cX3_init 4 = .ok (.aload_n 0, 1) := by decide +kernel
theorem dX3_init_5 : decode cX3_init 5 = .ok (.bipush 8, 2) := by decide +kernel
theorem dX3_init_7 : decode cX3_init 7 = .ok (.newarray .int, 2) := by decide +kernel
theorem dX3_init_9 : decode cX3_init 9 = .ok (.putfield 9, 3) := by decide +kernel
theorem dX3_init_12 : decode cX3_init 12 = .ok (.return_, 1) := by decide +kernel
theorem dX3_take_0 : decode cX3_take 0 = .ok (.aload_n 0, 1) := by decide +kernel
theorem dX3_take_1 : decode cX3_take 1 = .ok (.iconst 0, 1) := by decide +kernel
theorem dX3_take_2 : decode cX3_take 2 = .ok (.putfield 15, 3) := by decide +kernel
theorem dX3_take_5 : decode cX3_take 5 = .ok (.iload_n 2, 1) := by decide +kernel
theorem dX3_take_6 : decode cX3_take 6 = .ok (.istore 4, 2) := by decide +kernel
theorem dX3_take_8 : decode cX3_take 8 = .ok (.iload 4, 2) := by decide +kernel
theorem dX3_take_10 : decode cX3_take 10 = .ok (.iload_n 2, 1) := by decide +kernel
theorem dX3_take_11 : decode cX3_take 11 = .ok (.iload_n 3, 1) := by decide +kernel
theorem dX3_take_12 : decode cX3_take 12 = .ok (.iadd, 1) := by decide +kernel
theorem dX3_take_13 : decode cX3_take 13 = .ok (.if_icmp .ge 61, 3) := by decide +kernel
theorem dX3_take_16 : decode cX3_take 16 = .ok (.iload 4, 2) := by decide +kernel
theorem dX3_take_18 : decode cX3_take 18 = .ok (.ifCond .lt 50, 3) := by decide +kernel
theorem dX3_take_21 : decode cX3_take 21 = .ok (.iload 4, 2) := by decide +kernel
theorem dX3_take_23 : decode cX3_take 23 = .ok (.aload_n 1, 1) := by decide +kernel
theorem dX3_take_24 : decode cX3_take 24 = .ok (.getfield 19, 3) := by decide +kernel
theorem dX3_take_27 : decode cX3_take 27 = .ok (.if_icmp .ge 41, 3) := by decide +kernel
theorem dX3_take_30 : decode cX3_take 30 = .ok (.aload_n 0, 1) := by decide +kernel
theorem dX3_take_31 : decode cX3_take 31 = .ok (.getfield 15, 3) := by decide +kernel
theorem dX3_take_34 : decode cX3_take 34 = .ok (.aload_n 0, 1) := by decide +kernel
theorem dX3_take_35 : decode cX3_take 35 = .ok (.getfield 9, 3) := by decide +kernel
theorem dX3_take_38 : decode cX3_take 38 = .ok (.arraylength, 1) := by decide +kernel
theorem dX3_take_39 : decode cX3_take 39 = .ok (.if_icmp .ge 29, 3) := by decide +kernel
theorem dX3_take_42 : decode cX3_take 42 = .ok (.aload_n 0, 1) := by decide +kernel
theorem dX3_take_43 : decode cX3_take 43 = .ok (.getfield 9, 3) := by decide +kernel
theorem dX3_take_46 : decode cX3_take 46 = .ok (.aload_n 0, 1) := by decide +kernel
theorem dX3_take_47 : decode cX3_take 47 = .ok (.getfield 15, 3) := by decide +kernel
theorem dX3_take_50 : decode cX3_take 50 = .ok (.aload_n 1, 1) := by decide +kernel
theorem dX3_take_51 : decode cX3_take 51 = .ok (.getfield 22, 3) := by decide +kernel
theorem dX3_take_54 : decode cX3_take 54 = .ok (.iload 4, 2) := by decide +kernel
theorem dX3_take_56 : decode cX3_take 56 = .ok (.iaload, 1) := by decide +kernel
theorem dX3_take_57 : decode cX3_take 57 = .ok (.iastore, 1) := by decide +kernel
theorem dX3_take_58 : decode cX3_take 58 = .ok (.aload_n 0, 1) := by decide +kernel
theorem dX3_take_59 : decode cX3_take 59 = .ok (.dup, 1) := by decide +kernel
theorem dX3_take_60 : decode cX3_take 60 = .ok (.getfield 15, 3) := by decide +kernel
theorem dX3_take_63 : decode cX3_take 63 = .ok (.iconst 1, 1) := by decide +kernel
theorem dX3_take_64 : decode cX3_take 64 = .ok (.iadd, 1) := by decide +kernel
theorem dX3_take_65 : decode cX3_take 65 = .ok (.putfield 15, 3) := by decide +kernel
theorem dX3_take_68 : decode cX3_take 68 = .ok (.iinc 4 1, 3) := by decide +kernel
theorem dX3_take_71 : decode cX3_take 71 = .ok (.goto (-63), 3) := by decide +kernel
theorem dX3_take_74 : decode cX3_take 74 = .ok (.return_, 1) := by decide +kernel
theorem dX3_copy_0 : decode cX3_copy 0 = .ok (.aload_n 0, 1) := by decide +kernel
theorem dX3_copy_1 : decode cX3_copy 1 = .ok (.aload_n 1, 1) := by decide +kernel
theorem dX3_copy_2 : decode cX3_copy 2 = .ok (.getfield 15, 3) := by decide +kernel
theorem dX3_copy_5 : decode cX3_copy 5 = .ok (.putfield 15, 3) := by decide +kernel
theorem dX3_copy_8 : decode cX3_copy 8 = .ok (.iconst 0, 1) := by decide +kernel
theorem dX3_copy_9 : decode cX3_copy 9 = .ok (.istore_n 2, 1) := by decide +kernel
theorem dX3_copy_10 : decode cX3_copy 10 = .ok (.iload_n 2, 1) := by decide +kernel
theorem dX3_copy_11 : decode cX3_copy 11 = .ok (.aload_n 0, 1) := by decide +kernel
theorem dX3_copy_12 : decode cX3_copy 12 = .ok (.getfield 15, 3) := by decide +kernel
theorem dX3_copy_15 : decode cX3_copy 15 = .ok (.if_icmp .ge 21, 3) := by decide +kernel
theorem dX3_copy_18 : decode cX3_copy 18 = .ok (.aload_n 0, 1) := by decide +kernel
theorem dX3_copy_19 : decode cX3_copy 19 = .ok (.getfield 9, 3) := by decide +kernel
theorem dX3_copy_22 : decode cX3_copy 22 = .ok (.iload_n 2, 1) := by decide +kernel
theorem dX3_copy_23 : decode cX3_copy 23 = .ok (.aload_n 1, 1) := by decide +kernel
theorem dX3_copy_24 : decode cX3_copy 24 = .ok (.getfield 9, 3) := by decide +kernel
theorem dX3_copy_27 : decode cX3_copy 27 = .ok (.iload_n 2, 1) := by decide +kernel
theorem dX3_copy_28 : decode cX3_copy 28 = .ok (.iaload, 1) := by decide +kernel
theorem dX3_copy_29 : decode cX3_copy 29 = .ok (.iastore, 1) := by decide +kernel
theorem dX3_copy_30 : decode cX3_copy 30 = .ok (.iinc 2 1, 3) := by decide +kernel
theorem dX3_copy_33 : decode cX3_copy 33 = .ok (.goto (-23), 3) := by decide +kernel
theorem dX3_copy_36 : decode cX3_copy 36 = .ok (.return_, 1) := by decide +kernel
theorem dX3_same_0 : decode cX3_same 0 = .ok (.aload_n 0, 1) := by decide +kernel
theorem dX3_same_1 : decode cX3_same 1 = .ok (.getfield 15, 3) := by decide +kernel
theorem dX3_same_4 : decode cX3_same 4 = .ok (.aload_n 1, 1) := by decide +kernel
theorem dX3_same_5 : decode cX3_same 5 = .ok (.getfield 15, 3) := by decide +kernel
theorem dX3_same_8 : decode cX3_same 8 = .ok (.if_icmp .eq 5, 3) := by decide +kernel
theorem dX3_same_11 : decode cX3_same 11 = .ok (.iconst 0, 1) := by decide +kernel
theorem dX3_same_12 : decode cX3_same 12 = .ok (.ireturn, 1) := by decide +kernel
theorem dX3_same_13 : decode cX3_same 13 = .ok (.iconst 0, 1) := by decide +kernel
theorem dX3_same_14 : decode cX3_same 14 = .ok (.istore_n 2, 1) := by decide +kernel
theorem dX3_same_15 : decode cX3_same 15 = .ok (.iload_n 2, 1) := by decide +kernel
theorem dX3_same_16 : decode cX3_same 16 = .ok (.aload_n 0, 1) := by decide +kernel
theorem dX3_same_17 : decode cX3_same 17 = .ok (.getfield 15, 3) := by decide +kernel
theorem dX3_same_20 : decode cX3_same 20 = .ok (.if_icmp .ge 26, 3) := by decide +kernel
theorem dX3_same_23 : decode cX3_same 23 = .ok (.aload_n 0, 1) := by decide +kernel
theorem dX3_same_24 : decode cX3_same 24 = .ok (.getfield 9, 3) := by decide +kernel
theorem dX3_same_27 : decode cX3_same 27 = .ok (.iload_n 2, 1) := by decide +kernel
theorem dX3_same_28 : decode cX3_same 28 = .ok (.iaload, 1) := by decide +kernel
theorem dX3_same_29 : decode cX3_same 29 = .ok (.aload_n 1, 1) := by decide +kernel
theorem dX3_same_30 : decode cX3_same 30 = .ok (.getfield 9, 3) := by decide +kernel
theorem dX3_same_33 : decode cX3_same 33 = .ok (.iload_n 2, 1) := by decide +kernel
theorem dX3_same_34 : decode cX3_same 34 = .ok (.iaload, 1) := by decide +kernel
theorem dX3_same_35 : decode cX3_same 35 = .ok (.if_icmp .eq 5, 3) := by decide +kernel
theorem dX3_same_38 : decode cX3_same 38 = .ok (.iconst 0, 1) := by decide +kernel
theorem dX3_same_39 : decode cX3_same 39 = .ok (.ireturn, 1) := by decide +kernel
theorem dX3_same_40 : decode cX3_same 40 = .ok (.iinc 2 1, 3) := by decide +kernel
theorem dX3_same_43 : decode cX3_same 43 = .ok (.goto (-28), 3) := by decide +kernel
theorem dX3_same_46 : decode cX3_same 46 = .ok (.iconst 1, 1) := by decide +kernel
theorem dX3_same_47 : decode cX3_same 47 = .ok (.ireturn, 1) := by decide +kernel
theorem dX4_init_0 : decode cX4_init 0 = .ok (.aload_n 0, 1) := by decide +kernel
theorem dX4_init_1 : decode cX4_init 1 = .ok (.invokespecial 3, 3) := by decide +kernel
theorem dX4_init_4 : decode cX4_init 4 = .ok (.aload_n 0, 1) := by decide +kernel
theorem dX4_init_5 : decode cX4_init 5 = .ok (.bipush 8, 2) := by decide +kernel
theorem dX4_init_7 : decode cX4_init 7 = .ok (.newarray .int, 2) := by decide +kernel
theorem dX4_init_9 : decode cX4_init 9 = .ok (.putfield 9, 3) := by decide +kernel
theorem dX4_init_12 : decode cX4_init 12 = .ok (.return_, 1) := by decide +kernel
theorem dX4_take_0 : decode cX4_take 0 = .ok (.aload_n 0, 1) := by decide +kernel
theorem dX4_take_1 : decode cX4_take 1 = .ok (.iconst 0, 1) := by decide +kernel
theorem dX4_take_2 : decode cX4_take 2 = .ok (.putfield 15, 3) := by decide +kernel
theorem dX4_take_5 : decode cX4_take 5 = .ok (.iload_n 3, 1) := by decide +kernel
theorem dX4_take_6 : decode cX4_take 6 = .ok (.iconst 1, 1) := by decide +kernel
theorem dX4_take_7 : decode cX4_take 7 = .ok (.if_icmp .lt 9, 3) := by decide +kernel
theorem dX4_take_10 : decode cX4_take 10 = .ok (.iload_n 3, 1) := by decide +kernel
theorem dX4_take_11 : decode cX4_take 11 = .ok (.bipush 8, 2) := by decide +kernel
theorem dX4_take_13 : decode cX4_take 13 = .ok (.if_icmp .le 5, 3) := by decide +kernel
theorem dX4_take_16 : decode cX4_take 16 = .ok (.iconst 0, 1) := by decide +kernel
theorem dX4_take_17 : decode cX4_take 17 = .ok (.ireturn, 1) := by decide +kernel
theorem dX4_take_18 : decode cX4_take 18 = .ok (.iload_n 2, 1) := by decide +kernel
theorem dX4_take_19 : decode cX4_take 19 = .ok (.istore 4, 2) := by decide +kernel
theorem dX4_take_21 : decode cX4_take 21 = .ok (.iload 4, 2) := by decide +kernel
theorem dX4_take_23 : decode cX4_take 23 = .ok (.iload_n 2, 1) := by decide +kernel
theorem dX4_take_24 : decode cX4_take 24 = .ok (.iload_n 3, 1) := by decide +kernel
theorem dX4_take_25 : decode cX4_take 25 = .ok (.iadd, 1) := by decide +kernel
theorem dX4_take_26 : decode cX4_take 26 = .ok (.if_icmp .ge 98, 3) := by decide +kernel
theorem dX4_take_29 : decode cX4_take 29 = .ok (.iload 4, 2) := by decide +kernel
theorem dX4_take_31 : decode cX4_take 31 = .ok (.ifCond .lt 24, 3) := by decide +kernel
theorem dX4_take_34 : decode cX4_take 34 = .ok (.iload 4, 2) := by decide +kernel
theorem dX4_take_36 : decode cX4_take 36 = .ok (.aload_n 1, 1) := by decide +kernel
theorem dX4_take_37 : decode cX4_take 37 = .ok (.getfield 19, 3) := by decide +kernel
theorem dX4_take_40 : decode cX4_take 40 = .ok (.if_icmp .ge 15, 3) := by decide +kernel
theorem dX4_take_43 : decode cX4_take 43 = .ok (.aload_n 0, 1) := by decide +kernel
theorem dX4_take_44 : decode cX4_take 44 = .ok (.getfield 15, 3) := by decide +kernel
theorem dX4_take_47 : decode cX4_take 47 = .ok (.aload_n 0, 1) := by decide +kernel
theorem dX4_take_48 : decode cX4_take 48 = .ok (.getfield 9, 3) := by decide +kernel
theorem dX4_take_51 : decode cX4_take 51 = .ok (.arraylength, 1) := by decide +kernel
theorem dX4_take_52 : decode cX4_take 52 = .ok (.if_icmp .lt 5, 3) := by decide +kernel
theorem dX4_take_55 : decode cX4_take 55 = .ok (.iconst 0, 1) := by decide +kernel
theorem dX4_take_56 : decode cX4_take 56 = .ok (.ireturn, 1) := by decide +kernel
theorem dX4_take_57 : decode cX4_take 57 = .ok (.aload_n 0, 1) := by decide +kernel
theorem dX4_take_58 : decode cX4_take 58 = .ok (.getfield 9, 3) := by decide +kernel
theorem dX4_take_61 : decode cX4_take 61 = .ok (.aload_n 0, 1) := by decide +kernel
theorem dX4_take_62 : decode cX4_take 62 = .ok (.getfield 15, 3) := by decide +kernel
theorem dX4_take_65 : decode cX4_take 65 = .ok (.aload_n 1, 1) := by decide +kernel
theorem dX4_take_66 : decode cX4_take 66 = .ok (.getfield 22, 3) := by decide +kernel
theorem dX4_take_69 : decode cX4_take 69 = .ok (.iload 4, 2) := by decide +kernel
theorem dX4_take_71 : decode cX4_take 71 = .ok (.iaload, 1) := by decide +kernel
theorem dX4_take_72 : decode cX4_take 72 = .ok (.invokestatic 25, 3) := by decide +kernel
theorem dX4_take_75 : decode cX4_take 75 = .ok (.iastore, 1) := by decide +kernel
theorem dX4_take_76 : decode cX4_take 76 = .ok (.aload_n 0, 1) := by decide +kernel
theorem dX4_take_77 : decode cX4_take 77 = .ok (.getfield 15, 3) := by decide +kernel
theorem dX4_take_80 : decode cX4_take 80 = .ok (.ifCond .le 28, 3) := by decide +kernel
theorem dX4_take_83 : decode cX4_take 83 = .ok (.aload_n 0, 1) := by decide +kernel
theorem dX4_take_84 : decode cX4_take 84 = .ok (.getfield 9, 3) := by decide +kernel
theorem dX4_take_87 : decode cX4_take 87 = .ok (.aload_n 0, 1) := by decide +kernel
theorem dX4_take_88 : decode cX4_take 88 = .ok (.getfield 15, 3) := by decide +kernel
theorem dX4_take_91 : decode cX4_take 91 = .ok (.iaload, 1) := by decide +kernel
theorem dX4_take_92 : decode cX4_take 92 = .ok (.aload_n 0, 1) := by decide +kernel
theorem dX4_take_93 : decode cX4_take 93 = .ok (.getfield 9, 3) := by decide +kernel
theorem dX4_take_96 : decode cX4_take 96 = .ok (.aload_n 0, 1) := by decide +kernel
theorem dX4_take_97 : decode cX4_take 97 = .ok (.getfield 15, 3) := by decide +kernel
theorem dX4_take_100 : decode cX4_take 100 = .ok (.iconst 1, 1) := by decide +kernel
theorem dX4_take_101 : decode cX4_take 101 = .ok (.isub, 1) := by decide +kernel
theorem dX4_take_102 : decode cX4_take 102 = .ok (.iaload, 1) := by decide +kernel
theorem dX4_take_103 : decode cX4_take 103 = .ok (.if_icmp .le 5, 3) := by decide +kernel
theorem dX4_take_106 : decode cX4_take 106 = .ok (.iconst 0, 1) := by decide +kernel
theorem dX4_take_107 : decode cX4_take 107 = .ok (.ireturn, 1) := by decide +kernel
theorem dX4_take_108 : decode cX4_take 108 = .ok (.aload_n 0, 1) := by decide +kernel
theorem dX4_take_109 : decode cX4_take 109 = .ok (.dup, 1) := by decide +kernel
theorem dX4_take_110 : decode cX4_take 110 = .ok (.getfield 15, 3) := by decide +kernel
theorem dX4_take_113 : decode cX4_take 113 = .ok (.iconst 1, 1) := by decide +kernel
theorem dX4_take_114 : decode cX4_take 114 = .ok (.iadd, 1) := by decide +kernel
theorem dX4_take_115 : decode cX4_take 115 = .ok (.putfield 15, 3) := by decide +kernel
theorem dX4_take_118 : decode cX4_take 118 = .ok (.iinc 4 1, 3) := by decide +kernel
theorem dX4_take_121 : decode cX4_take 121 = .ok (.goto (-100), 3) := by decide +kernel
theorem dX4_take_124 : decode cX4_take 124 = .ok (.iconst 1, 1) := by decide +kernel
theorem dX4_take_125 : decode cX4_take 125 = .ok (.ireturn, 1) := by decide +kernel
theorem dX4_value_0 : decode cX4_value 0 = .ok (.iconst 0, 1) := by decide +kernel
theorem dX4_value_1 : decode cX4_value 1 = .ok (.istore_n 1, 1) := by decide +kernel
theorem dX4_value_2 : decode cX4_value 2 = .ok (.iconst 0, 1) := by decide +kernel
theorem dX4_value_3 : decode cX4_value 3 = .ok (.istore_n 2, 1) := by decide +kernel
theorem dX4_value_4 : decode cX4_value 4 = .ok (.iload_n 2, 1) := by decide +kernel
theorem dX4_value_5 : decode cX4_value 5 = .ok (.aload_n 0, 1) := by decide +kernel
theorem dX4_value_6 : decode cX4_value 6 = .ok (.getfield 15, 3) := by decide +kernel
theorem dX4_value_9 : decode cX4_value 9 = .ok (.if_icmp .ge 22, 3) := by decide +kernel
theorem dX4_value_12 : decode cX4_value 12 = .ok (.iload_n 1, 1) := by decide +kernel
theorem dX4_value_13 : decode cX4_value 13 = .ok (.getstatic 29, 3) := by decide +kernel
theorem dX4_value_16 : decode cX4_value 16 = .ok (.aload_n 0, 1) := by decide +kernel
theorem dX4_value_17 : decode cX4_value 17 = .ok (.getfield 9, 3) := by decide +kernel
theorem dX4_value_20 : decode cX4_value 20 = .ok (.iload_n 2, 1) := by decide +kernel
theorem dX4_value_21 : decode cX4_value 21 = .ok (.iaload, 1) := by decide +kernel
theorem dX4_value_22 : decode cX4_value 22 = .ok (.iaload, 1) := by decide +kernel
theorem dX4_value_23 : decode cX4_value 23 = .ok (.iadd, 1) := by decide +kernel
theorem dX4_value_24 : decode cX4_value 24 = .ok (.istore_n 1, 1) := by decide +kernel
theorem dX4_value_25 : decode cX4_value 25 = .ok (.iinc 2 1, 3) := by decide +kernel
theorem dX4_value_28 : decode cX4_value 28 = .ok (.goto (-24), 3) := by decide +kernel
theorem dX4_value_31 : decode cX4_value 31 = .ok (.iload_n 1, 1) := by decide +kernel
theorem dX4_value_32 : decode cX4_value 32 = .ok (.ireturn, 1) := by decide +kernel
theorem dX4_same_0 : decode cX4_same 0 = .ok (.aload_n 0, 1) := by decide +kernel
theorem dX4_same_1 : decode cX4_same 1 = .ok (.getfield 15, 3) := by decide +kernel
theorem dX4_same_4 : decode cX4_same 4 = .ok (.aload_n 1, 1) := by decide +kernel
theorem dX4_same_5 : decode cX4_same 5 = .ok (.getfield 15, 3) := by decide +kernel
theorem dX4_same_8 : decode cX4_same 8 = .ok (.if_icmp .eq 5, 3) := by decide +kernel
theorem dX4_same_11 : decode cX4_same 11 = .ok (.iconst 0, 1) := by decide +kernel
theorem dX4_same_12 : decode cX4_same 12 = .ok (.ireturn, 1) := by decide +kernel
theorem dX4_same_13 : decode cX4_same 13 = .ok (.iconst 0, 1) := by decide +kernel
theorem dX4_same_14 : decode cX4_same 14 = .ok (.istore_n 2, 1) := by decide +kernel
theorem dX4_same_15 : decode cX4_same 15 = .ok (.iload_n 2, 1) := by decide +kernel
theorem dX4_same_16 : decode cX4_same 16 = .ok (.aload_n 0, 1) := by decide +kernel
theorem dX4_same_17 : decode cX4_same 17 = .ok (.getfield 15, 3) := by decide +kernel
theorem dX4_same_20 : decode cX4_same 20 = .ok (.if_icmp .ge 26, 3) := by decide +kernel
theorem dX4_same_23 : decode cX4_same 23 = .ok (.aload_n 0, 1) := by decide +kernel
theorem dX4_same_24 : decode cX4_same 24 = .ok (.getfield 9, 3) := by decide +kernel
theorem dX4_same_27 : decode cX4_same 27 = .ok (.iload_n 2, 1) := by decide +kernel
theorem dX4_same_28 : decode cX4_same 28 = .ok (.iaload, 1) := by decide +kernel
theorem dX4_same_29 : decode cX4_same 29 = .ok (.aload_n 1, 1) := by decide +kernel
theorem dX4_same_30 : decode cX4_same 30 = .ok (.getfield 9, 3) := by decide +kernel
theorem dX4_same_33 : decode cX4_same 33 = .ok (.iload_n 2, 1) := by decide +kernel
theorem dX4_same_34 : decode cX4_same 34 = .ok (.iaload, 1) := by decide +kernel
theorem dX4_same_35 : decode cX4_same 35 = .ok (.if_icmp .eq 5, 3) := by decide +kernel
theorem dX4_same_38 : decode cX4_same 38 = .ok (.iconst 0, 1) := by decide +kernel
theorem dX4_same_39 : decode cX4_same 39 = .ok (.ireturn, 1) := by decide +kernel
theorem dX4_same_40 : decode cX4_same 40 = .ok (.iinc 2 1, 3) := by decide +kernel
theorem dX4_same_43 : decode cX4_same 43 = .ok (.goto (-28), 3) := by decide +kernel
theorem dX4_same_46 : decode cX4_same 46 = .ok (.iconst 1, 1) := by decide +kernel
theorem dX4_same_47 : decode cX4_same 47 = .ok (.ireturn, 1) := by decide +kernel
theorem dX4_holds_0 : decode cX4_holds 0 = .ok (.iconst 0, 1) := by decide +kernel
theorem dX4_holds_1 : decode cX4_holds 1 = .ok (.istore_n 2, 1) := by decide +kernel
theorem dX4_holds_2 : decode cX4_holds 2 = .ok (.iload_n 2, 1) := by decide +kernel
theorem dX4_holds_3 : decode cX4_holds 3 = .ok (.aload_n 0, 1) := by decide +kernel
theorem dX4_holds_4 : decode cX4_holds 4 = .ok (.getfield 15, 3) := by decide +kernel
theorem dX4_holds_7 : decode cX4_holds 7 = .ok (.if_icmp .ge 21, 3) := by decide +kernel
theorem dX4_holds_10 : decode cX4_holds 10 = .ok (.aload_n 0, 1) := by decide +kernel
theorem dX4_holds_11 : decode cX4_holds 11 = .ok (.getfield 9, 3) := by decide +kernel
theorem dX4_holds_14 : decode cX4_holds 14 = .ok (.iload_n 2, 1) := by decide +kernel
theorem dX4_holds_15 : decode cX4_holds 15 = .ok (.iaload, 1) := by decide +kernel
theorem dX4_holds_16 : decode cX4_holds 16 = .ok (.iload_n 1, 1) := by decide +kernel
theorem dX4_holds_17 : decode cX4_holds 17 = .ok (.if_icmp .ne 5, 3) := by decide +kernel
theorem dX4_holds_20 : decode cX4_holds 20 = .ok (.iconst 1, 1) := by decide +kernel
theorem dX4_holds_21 : decode cX4_holds 21 = .ok (.ireturn, 1) := by decide +kernel
theorem dX4_holds_22 : decode cX4_holds 22 = .ok (.iinc 2 1, 3) := by decide +kernel
theorem dX4_holds_25 : decode cX4_holds 25 = .ok (.goto (-23), 3) := by decide +kernel
theorem dX4_holds_28 : decode cX4_holds 28 = .ok (.iconst 0, 1) := by decide +kernel
theorem dX4_holds_29 : decode cX4_holds 29 = .ok (.ireturn, 1) := by decide +kernel
theorem dX4_canSwap_0 : decode cX4_canSwap 0 = .ok (.iconst 0, 1) := by decide +kernel
theorem dX4_canSwap_1 : decode cX4_canSwap 1 = .ok (.istore_n 3, 1) := by decide +kernel
theorem dX4_canSwap_2 : decode cX4_canSwap 2 = .ok (.iload_n 3, 1) := by decide +kernel
theorem dX4_canSwap_3 : decode cX4_canSwap 3 = .ok (.aload_n 0, 1) := by decide +kernel
theorem dX4_canSwap_4 : decode cX4_canSwap 4 = .ok (.getfield 15, 3) := by decide +kernel
theorem dX4_canSwap_7 : decode cX4_canSwap 7 = .ok (.if_icmp .ge 83, 3) := by decide +kernel
theorem dX4_canSwap_10 : decode cX4_canSwap 10 = .ok (.iload_n 3, 1) := by decide +kernel
theorem dX4_canSwap_11 : decode cX4_canSwap 11 = .ok (.ifCond .eq 15, 3) := by decide +kernel
theorem dX4_canSwap_14 : decode cX4_canSwap 14 = .ok (.aload_n 0, 1) := by decide +kernel
theorem dX4_canSwap_15 : decode cX4_canSwap 15 = .ok (.getfield 9, 3) := by decide +kernel
theorem dX4_canSwap_18 : decode cX4_canSwap 18 = .ok (.iload_n 3, 1) := by decide +kernel
theorem dX4_canSwap_19 : decode cX4_canSwap 19 = .ok (.iconst 1, 1) := by decide +kernel
theorem dX4_canSwap_20 : decode cX4_canSwap 20 = .ok (.isub, 1) := by decide +kernel
theorem dX4_canSwap_21 : decode cX4_canSwap 21 = .ok (.iaload, 1) := by decide +kernel
theorem dX4_canSwap_22 : decode cX4_canSwap 22 = .ok (.iload_n 2, 1) := by decide +kernel
theorem dX4_canSwap_23 : decode cX4_canSwap 23 = .ok (.if_icmp .lt 7, 3) := by decide +kernel
theorem dX4_canSwap_26 : decode cX4_canSwap 26 = .ok (.iconst 1, 1) := by decide +kernel
theorem dX4_canSwap_27 : decode cX4_canSwap 27 = .ok (.goto 4, 3) := by decide +kernel
theorem dX4_canSwap_30 : decode cX4_canSwap 30 = .ok (.iconst 0, 1) := by decide +kernel
theorem dX4_canSwap_31 : decode cX4_canSwap 31 = .ok (.istore 4, 2) := by decide +kernel
theorem dX4_canSwap_33 : decode cX4_canSwap 33 = .ok (.iload_n 3, 1) := by decide +kernel
theorem dX4_canSwap_34 : decode cX4_canSwap 34 = .ok (.aload_n 0, 1) := by decide +kernel
theorem dX4_canSwap_35 : decode cX4_canSwap 35 = .ok (.getfield 15, 3) := by decide +kernel
theorem dX4_canSwap_38 : decode cX4_canSwap 38 = .ok (.iconst 1, 1) := by decide +kernel
theorem dX4_canSwap_39 : decode cX4_canSwap 39 = .ok (.isub, 1) := by decide +kernel
theorem dX4_canSwap_40 : decode cX4_canSwap 40 = .ok (.if_icmp .eq 15, 3) := by decide +kernel
theorem dX4_canSwap_43 : decode cX4_canSwap 43 = .ok (.aload_n 0, 1) := by decide +kernel
theorem dX4_canSwap_44 : decode cX4_canSwap 44 = .ok (.getfield 9, 3) := by decide +kernel
theorem dX4_canSwap_47 : decode cX4_canSwap 47 = .ok (.iload_n 3, 1) := by decide +kernel
theorem dX4_canSwap_48 : decode cX4_canSwap 48 = .ok (.iconst 1, 1) := by decide +kernel
theorem dX4_canSwap_49 : decode cX4_canSwap 49 = .ok (.iadd, 1) := by decide +kernel
theorem dX4_canSwap_50 : decode cX4_canSwap 50 = .ok (.iaload, 1) := by decide +kernel
theorem dX4_canSwap_51 : decode cX4_canSwap 51 = .ok (.iload_n 2, 1) := by decide +kernel
theorem dX4_canSwap_52 : decode cX4_canSwap 52 = .ok (.if_icmp .gt 7, 3) := by decide +kernel
theorem dX4_canSwap_55 : decode cX4_canSwap 55 = .ok (.iconst 1, 1) := by decide +kernel
theorem dX4_canSwap_56 : decode cX4_canSwap 56 = .ok (.goto 4, 3) := by decide +kernel
theorem dX4_canSwap_59 : decode cX4_canSwap 59 = .ok (.iconst 0, 1) := by decide +kernel
theorem dX4_canSwap_60 : decode cX4_canSwap 60 = .ok (.istore 5, 2) := by decide +kernel
theorem dX4_canSwap_62 : decode cX4_canSwap 62 = .ok (.aload_n 0, 1) := by decide +kernel
theorem dX4_canSwap_63 : decode cX4_canSwap 63 = .ok (.getfield 9, 3) := by decide +kernel
theorem dX4_canSwap_66 : decode cX4_canSwap 66 = .ok (.iload_n 3, 1) := by decide +kernel
theorem dX4_canSwap_67 : decode cX4_canSwap 67 = .ok (.iaload, 1) := by decide +kernel
theorem dX4_canSwap_68 : decode cX4_canSwap 68 = .ok (.iload_n 1, 1) := by decide +kernel
theorem dX4_canSwap_69 : decode cX4_canSwap 69 = .ok (.if_icmp .ne 15, 3) := by decide +kernel
theorem dX4_canSwap_72 : decode cX4_canSwap 72 = .ok (.iload 4, 2) := by decide +kernel
theorem dX4_canSwap_74 : decode cX4_canSwap 74 = .ok (.ifCond .eq 10, 3) := by decide +kernel
theorem dX4_canSwap_77 : decode cX4_canSwap 77 = .ok (.iload 5, 2) := by decide +kernel
theorem dX4_canSwap_79 : decode cX4_canSwap 79 = .ok (.ifCond .eq 5, 3) := by decide +kernel
theorem dX4_canSwap_82 : decode cX4_canSwap 82 = .ok (.iconst 1, 1) := by decide +kernel
theorem dX4_canSwap_83 : decode cX4_canSwap 83 = .ok (.ireturn, 1) := by decide +kernel
theorem dX4_canSwap_84 : decode cX4_canSwap 84 = .ok (.iinc 3 1, 3) := by decide +kernel
theorem dX4_canSwap_87 : decode cX4_canSwap 87 = .ok (.goto (-85), 3) := by decide +kernel
theorem dX4_canSwap_90 : decode cX4_canSwap 90 = .ok (.iconst 0, 1) := by decide +kernel
theorem dX4_canSwap_91 : decode cX4_canSwap 91 = .ok (.ireturn, 1) := by decide +kernel
theorem dX6_init_0 : decode cX6_init 0 = .ok (.aload_n 0, 1) := by decide +kernel
theorem dX6_init_1 : decode cX6_init 1 = .ok (.invokespecial 3, 3) := by decide +kernel
theorem dX6_init_4 : decode cX6_init 4 = .ok (.aload_n 0, 1) := by decide +kernel
theorem dX6_init_5 : decode cX6_init 5 = .ok (.bipush 21, 2) := by decide +kernel
theorem dX6_init_7 : decode cX6_init 7 = .ok (.newarray .int, 2) := by decide +kernel
theorem dX6_init_9 : decode cX6_init 9 = .ok (.putfield 9, 3) := by decide +kernel
theorem dX6_init_12 : decode cX6_init 12 = .ok (.aload_n 0, 1) := by decide +kernel
theorem dX6_init_13 : decode cX6_init 13 = .ok (.bipush 21, 2) := by decide +kernel
theorem dX6_init_15 : decode cX6_init 15 = .ok (.newarray .int, 2) := by decide +kernel
theorem dX6_init_17 : decode cX6_init 17 = .ok (.putfield 15, 3) := by decide +kernel
theorem dX6_init_20 : decode cX6_init 20 = .ok (.return_, 1) := by decide +kernel
theorem dX6_gather_0 : decode cX6_gather 0 = .ok (.aload_n 0, 1) := by decide +kernel
theorem dX6_gather_1 : decode cX6_gather 1 = .ok (.iconst 0, 1) := by decide +kernel
theorem dX6_gather_2 : decode cX6_gather 2 = .ok (.putfield 18, 3) := by decide +kernel
theorem dX6_gather_5 : decode cX6_gather 5 = .ok (.aload_n 1, 1) := by decide +kernel
theorem dX6_gather_6 : decode cX6_gather 6 = .ok (.invokevirtual 22, 3) := by decide +kernel
theorem dX6_gather_9 : decode cX6_gather 9 = .ok (.istore_n 3, 1) := by decide +kernel
theorem dX6_gather_10 : decode cX6_gather 10 = .ok (.aload_n 0, 1) := by decide +kernel
theorem dX6_gather_11 : decode cX6_gather 11 = .ok (.iload_n 3, 1) := by decide +kernel
theorem dX6_gather_12 : decode cX6_gather 12 = .ok (.iconst 0, 1) := by decide +kernel
theorem dX6_gather_13 : decode cX6_gather 13 = .ok (.invokevirtual 28, 3) := by decide +kernel
theorem dX6_gather_16 : decode cX6_gather 16 = .ok (.iconst 0, 1) := by decide +kernel
theorem dX6_gather_17 : decode cX6_gather 17 = .ok (.istore 4, 2) := by decide +kernel
theorem dX6_gather_19 : decode cX6_gather 19 = .ok (.iload 4, 2) := by decide +kernel
theorem dX6_gather_21 : decode cX6_gather 21 = .ok (.aload_n 2, 1) := by decide +kernel
theorem dX6_gather_22 : decode cX6_gather 22 = .ok (.getfield 32, 3) := by decide +kernel
theorem dX6_gather_25 : decode cX6_gather 25 = .ok (.if_icmp .ge 38, 3) := by decide +kernel
theorem dX6_gather_28 : decode cX6_gather 28 = .ok (.aload_n 2, 1) := by decide +kernel
theorem dX6_gather_29 : decode cX6_gather 29 = .ok (.iload 4, 2) := by decide +kernel
theorem dX6_gather_31 : decode cX6_gather 31 = .ok (.aload_n 1, 1) := by decide +kernel
theorem dX6_gather_32 : decode cX6_gather 32 = .ok (.invokevirtual 35, 3) := by decide +kernel
theorem dX6_gather_35 : decode cX6_gather 35 = .ok (.ifCond .eq 22, 3) := by decide +kernel
theorem dX6_gather_38 : decode cX6_gather 38 = .ok (.aload_n 0, 1) := by decide +kernel
theorem dX6_gather_39 : decode cX6_gather 39 = .ok (.iload_n 3, 1) := by decide +kernel
theorem dX6_gather_40 : decode cX6_gather 40 = .ok (.aload_n 2, 1) := by decide +kernel
theorem dX6_gather_41 : decode cX6_gather 41 = .ok (.iload 4, 2) := by decide +kernel
theorem dX6_gather_43 : decode cX6_gather 43 = .ok (.invokevirtual 39, 3) := by decide +kernel
theorem dX6_gather_46 : decode cX6_gather 46 = .ok (.iadd, 1) := by decide +kernel
theorem dX6_gather_47 : decode cX6_gather 47 = .ok (.aload_n 2, 1) := by decide +kernel
theorem dX6_gather_48 : decode cX6_gather 48 = .ok (.getfield 43, 3) := by decide +kernel
theorem dX6_gather_51 : decode cX6_gather 51 = .ok (.iload 4, 2) := by decide +kernel
theorem dX6_gather_53 : decode cX6_gather 53 = .ok (.iaload, 1) := by decide +kernel
theorem dX6_gather_54 : decode cX6_gather 54 = .ok (.invokevirtual 28, 3) := by decide +kernel
theorem dX6_gather_57 : decode cX6_gather 57 = .ok (.iinc 4 1, 3) := by decide +kernel
theorem dX6_gather_60 : decode cX6_gather 60 = .ok (.goto (-41), 3) := by decide +kernel
theorem dX6_gather_63 : decode cX6_gather 63 = .ok (.return_, 1) := by decide +kernel
theorem dX6_costOf_0 : decode cX6_costOf 0 = .ok (.aload_n 0, 1) := by decide +kernel
theorem dX6_costOf_1 : decode cX6_costOf 1 = .ok (.iload_n 1, 1) := by decide +kernel
theorem dX6_costOf_2 : decode cX6_costOf 2 = .ok (.invokevirtual 44, 3) := by decide +kernel
theorem dX6_costOf_5 : decode cX6_costOf 5 = .ok (.istore_n 2, 1) := by decide +kernel
theorem dX6_costOf_6 : decode cX6_costOf 6 = .ok (.iload_n 2, 1) := by decide +kernel
theorem dX6_costOf_7 : decode cX6_costOf 7 = .ok (.iconst (-1), 1) := by decide +kernel
theorem dX6_costOf_8 : decode cX6_costOf 8 = .ok (.if_icmp .ne 7, 3) := by decide +kernel
theorem dX6_costOf_11 : decode cX6_costOf 11 = .ok (.iconst (-1), 1) := by decide +kernel
theorem dX6_costOf_12 : decode cX6_costOf 12 = .ok (.goto 9, 3) := by decide +kernel
theorem dX6_costOf_15 : decode cX6_costOf 15 = .ok (.aload_n 0, 1) := by decide +kernel
theorem dX6_costOf_16 : decode cX6_costOf 16 = .ok (.getfield 15, 3) := by decide +kernel
theorem dX6_costOf_19 : decode cX6_costOf 19 = .ok (.iload_n 2, 1) := by decide +kernel
theorem dX6_costOf_20 : decode cX6_costOf 20 = .ok (.iaload, 1) := by decide +kernel
theorem dX6_costOf_21 : decode cX6_costOf 21 = .ok (.ireturn, 1) := by decide +kernel
theorem dX6_put_0 : decode cX6_put 0 = .ok (.aload_n 0, 1) := by decide +kernel
theorem dX6_put_1 : decode cX6_put 1 = .ok (.iload_n 1, 1) := by decide +kernel
theorem dX6_put_2 : decode cX6_put 2 = .ok (.invokevirtual 44, 3) := by decide +kernel
theorem dX6_put_5 : decode cX6_put 5 = .ok (.istore_n 3, 1) := by decide +kernel
theorem dX6_put_6 : decode cX6_put 6 = .ok (.iload_n 3, 1) := by decide +kernel
theorem dX6_put_7 : decode cX6_put 7 = .ok (.iconst (-1), 1) := by decide +kernel
theorem dX6_put_8 : decode cX6_put 8 = .ok (.if_icmp .eq 22, 3) := by decide +kernel
theorem dX6_put_11 : decode cX6_put 11 = .ok (.aload_n 0, 1) := by decide +kernel
theorem dX6_put_12 : decode cX6_put 12 = .ok (.getfield 15, 3) := by decide +kernel
theorem dX6_put_15 : decode cX6_put 15 = .ok (.iload_n 3, 1) := by decide +kernel
theorem dX6_put_16 : decode cX6_put 16 = .ok (.aload_n 0, 1) := by decide +kernel
theorem dX6_put_17 : decode cX6_put 17 = .ok (.getfield 15, 3) := by decide +kernel
theorem dX6_put_20 : decode cX6_put 20 = .ok (.iload_n 3, 1) := by decide +kernel
theorem dX6_put_21 : decode cX6_put 21 = .ok (.iaload, 1) := by decide +kernel
theorem dX6_put_22 : decode cX6_put 22 = .ok (.iload_n 2, 1) := by decide +kernel
theorem dX6_put_23 : decode cX6_put 23 = .ok (.invokestatic 47, 3) := by decide +kernel
theorem dX6_put_26 : decode cX6_put 26 = .ok (.iastore, 1) := by decide +kernel
theorem dX6_put_27 : decode cX6_put 27 = .ok (.goto 45, 3) := by decide +kernel
theorem dX6_put_30 : decode cX6_put 30 = .ok (.aload_n 0, 1) := by decide +kernel
theorem dX6_put_31 : decode cX6_put 31 = .ok (.getfield 18, 3) := by decide +kernel
theorem dX6_put_34 : decode cX6_put 34 = .ok (.aload_n 0, 1) := by decide +kernel
theorem dX6_put_35 : decode cX6_put 35 = .ok (.getfield 9, 3) := by decide +kernel
theorem dX6_put_38 : decode cX6_put 38 = .ok (.arraylength, 1) := by decide +kernel
theorem dX6_put_39 : decode cX6_put 39 = .ok (.if_icmp .ge 33, 3) := by decide +kernel
theorem dX6_put_42 : decode cX6_put 42 = .ok (.aload_n 0, 1) := by decide +kernel
theorem dX6_put_43 : decode cX6_put 43 = .ok (.getfield 9, 3) := by decide +kernel
theorem dX6_put_46 : decode cX6_put 46 = .ok (.aload_n 0, 1) := by decide +kernel
theorem dX6_put_47 : decode cX6_put 47 = .ok (.getfield 18, 3) := by decide +kernel
theorem dX6_put_50 : decode cX6_put 50 = .ok (.iload_n 1, 1) := by decide +kernel
theorem dX6_put_51 : decode cX6_put 51 = .ok (.iastore, 1) := by decide +kernel
theorem dX6_put_52 : decode cX6_put 52 = .ok (.aload_n 0, 1) := by decide +kernel
theorem dX6_put_53 : decode cX6_put 53 = .ok (.getfield 15, 3) := by decide +kernel
theorem dX6_put_56 : decode cX6_put 56 = .ok (.aload_n 0, 1) := by decide +kernel
theorem dX6_put_57 : decode cX6_put 57 = .ok (.getfield 18, 3) := by decide +kernel
theorem dX6_put_60 : decode cX6_put 60 = .ok (.iload_n 2, 1) := by decide +kernel
theorem dX6_put_61 : decode cX6_put 61 = .ok (.iastore, 1) := by decide +kernel
theorem dX6_put_62 : decode cX6_put 62 = .ok (.aload_n 0, 1) := by decide +kernel
theorem dX6_put_63 : decode cX6_put 63 = .ok (.dup, 1) := by decide +kernel
theorem dX6_put_64 : decode cX6_put 64 = .ok (.getfield 18, 3) := by decide +kernel
theorem dX6_put_67 : decode cX6_put 67 = .ok (.iconst 1, 1) := by decide +kernel
theorem dX6_put_68 : decode cX6_put 68 = .ok (.iadd, 1) := by decide +kernel
theorem dX6_put_69 : decode cX6_put 69 = .ok (.putfield 18, 3) := by decide +kernel
theorem dX6_put_72 : decode cX6_put 72 = .ok (.return_, 1) := by decide +kernel
theorem dX6_find_0 : decode cX6_find 0 = .ok (.iconst 0, 1) := by decide +kernel
theorem dX6_find_1 : decode cX6_find 1 = .ok (.istore_n 2, 1) := by decide +kernel
theorem dX6_find_2 : decode cX6_find 2 = .ok (.iload_n 2, 1) := by decide +kernel
theorem dX6_find_3 : decode cX6_find 3 = .ok (.aload_n 0, 1) := by decide +kernel
theorem dX6_find_4 : decode cX6_find 4 = .ok (.getfield 18, 3) := by decide +kernel
theorem dX6_find_7 : decode cX6_find 7 = .ok (.if_icmp .ge 21, 3) := by decide +kernel
theorem dX6_find_10 : decode cX6_find 10 = .ok (.aload_n 0, 1) := by decide +kernel
theorem dX6_find_11 : decode cX6_find 11 = .ok (.getfield 9, 3) := by decide +kernel
theorem dX6_find_14 : decode cX6_find 14 = .ok (.iload_n 2, 1) := by decide +kernel
theorem dX6_find_15 : decode cX6_find 15 = .ok (.iaload, 1) := by decide +kernel
theorem dX6_find_16 : decode cX6_find 16 = .ok (.iload_n 1, 1) := by decide +kernel
theorem dX6_find_17 : decode cX6_find 17 = .ok (.if_icmp .ne 5, 3) := by decide +kernel
theorem dX6_find_20 : decode cX6_find 20 = .ok (.iload_n 2, 1) := by decide +kernel
theorem dX6_find_21 : decode cX6_find 21 = .ok (.ireturn, 1) := by decide +kernel
theorem dX6_find_22 : decode cX6_find 22 = .ok (.iinc 2 1, 3) := by decide +kernel
theorem dX6_find_25 : decode cX6_find 25 = .ok (.goto (-23), 3) := by decide +kernel
theorem dX6_find_28 : decode cX6_find 28 = .ok (.iconst (-1), 1) := by decide +kernel
theorem dX6_find_29 : decode cX6_find 29 = .ok (.ireturn, 1) := by decide +kernel
theorem dX7_init_0 : decode cX7_init 0 = .ok (.aload_n 0, 1) := by decide +kernel
theorem dX7_init_1 : decode cX7_init 1 = .ok (.invokespecial 3, 3) := by decide +kernel
theorem dX7_init_4 : decode cX7_init 4 = .ok (.aload_n 0, 1) := by decide +kernel
theorem dX7_init_5 : decode cX7_init 5 = .ok (.bipush 10, 2) := by decide +kernel
theorem dX7_init_7 : decode cX7_init 7 = .ok (.anewarray 9, 3) := by decide +kernel
theorem dX7_init_10 : decode cX7_init 10 = .ok (.putfield 11, 3) := by decide +kernel
theorem dX7_init_13 : decode cX7_init 13 = .ok (.aload_n 0, 1) := by decide +kernel
theorem dX7_init_14 : decode cX7_init 14 = .ok (.bipush 10, 2) := by decide +kernel
theorem dX7_init_16 : decode cX7_init 16 = .ok (.anewarray 17, 3) := by decide +kernel
theorem dX7_init_19 : decode cX7_init 19 = .ok (.putfield 19, 3) := by decide +kernel
theorem dX7_init_22 : decode cX7_init 22 = .ok (.aload_n 0, 1) := by decide +kernel
theorem dX7_init_23 : decode cX7_init 23 = .ok (.bipush 10, 2) := by decide +kernel
theorem dX7_init_25 : decode cX7_init 25 = .ok (.newarray .boolean, 2) := by decide +kernel
theorem dX7_init_27 : decode cX7_init 27 = .ok (.putfield 23, 3) := by decide +kernel
theorem dX7_init_30 : decode cX7_init 30 = .ok (.iconst 0, 1) := by decide +kernel
theorem dX7_init_31 : decode cX7_init 31 = .ok (.istore_n 1, 1) := by decide +kernel
theorem dX7_init_32 : decode cX7_init 32 = .ok (.iload_n 1, 1) := by decide +kernel
theorem dX7_init_33 : decode cX7_init 33 = .ok (.bipush 10, 2) := by decide +kernel
theorem dX7_init_35 : decode cX7_init 35 = .ok (.if_icmp .ge 35, 3) := by decide +kernel
theorem dX7_init_38 : decode cX7_init 38 = .ok (.aload_n 0, 1) := by decide +kernel
theorem dX7_init_39 : decode cX7_init 39 = .ok (.getfield 11, 3) := by decide +kernel
theorem dX7_init_42 : decode cX7_init 42 = .ok (.iload_n 1, 1) := by decide +kernel
theorem dX7_init_43 : decode cX7_init 43 = .ok (.new 9, 3) := by decide +kernel
theorem dX7_init_46 : decode cX7_init 46 = .ok (.dup, 1) := by decide +kernel
theorem dX7_init_47 : decode cX7_init 47 = .ok (.invokespecial 27, 3) := by decide +kernel
theorem dX7_init_50 : decode cX7_init 50 = .ok (.aastore, 1) := by decide +kernel
theorem dX7_init_51 : decode cX7_init 51 = .ok (.aload_n 0, 1) := by decide +kernel
theorem dX7_init_52 : decode cX7_init 52 = .ok (.getfield 19, 3) := by decide +kernel
theorem dX7_init_55 : decode cX7_init 55 = .ok (.iload_n 1, 1) := by decide +kernel
theorem dX7_init_56 : decode cX7_init 56 = .ok (.new 17, 3) := by decide +kernel
theorem dX7_init_59 : decode cX7_init 59 = .ok (.dup, 1) := by decide +kernel
theorem dX7_init_60 : decode cX7_init 60 = .ok (.invokespecial 28, 3) := by decide +kernel
theorem dX7_init_63 : decode cX7_init 63 = .ok (.aastore, 1) := by decide +kernel
theorem dX7_init_64 : decode cX7_init 64 = .ok (.iinc 1 1, 3) := by decide +kernel
theorem dX7_init_67 : decode cX7_init 67 = .ok (.goto (-35), 3) := by decide +kernel
theorem dX7_init_70 : decode cX7_init 70 = .ok (.return_, 1) := by decide +kernel
theorem dX7_hasStation_0 : decode cX7_hasStation 0 = .ok (.iload_n 1, 1) := by decide +kernel
theorem dX7_hasStation_1 : decode cX7_hasStation 1 = .ok (.ifCond .lt 15, 3) := by decide +kernel
theorem dX7_hasStation_4 : decode cX7_hasStation 4 = .ok (.iload_n 1, 1) := by decide +kernel
theorem dX7_hasStation_5 : decode cX7_hasStation 5 = .ok (.aload_n 0, 1) := by decide +kernel
theorem dX7_hasStation_6 : decode cX7_hasStation 6 = .ok (.getfield 29, 3) := by decide +kernel
theorem dX7_hasStation_9 : decode cX7_hasStation 9 = .ok (.if_icmp .ge 7, 3) := by decide +kernel
theorem dX7_hasStation_12 : decode cX7_hasStation 12 = .ok (.iconst 1, 1) := by decide +kernel
theorem dX7_hasStation_13 : decode cX7_hasStation 13 = .ok (.goto 4, 3) := by decide +kernel
theorem dX7_hasStation_16 : decode cX7_hasStation 16 = .ok (.iconst 0, 1) := by decide +kernel
theorem dX7_hasStation_17 : decode cX7_hasStation 17 = .ok (.ireturn, 1) := by decide +kernel
theorem dX7_hasNumeral_0 : decode cX7_hasNumeral 0 = .ok (.iload_n 1, 1) := by decide +kernel
theorem dX7_hasNumeral_1 : decode cX7_hasNumeral 1 = .ok (.ifCond .lt 17, 3) := by decide +kernel
theorem dX7_hasNumeral_4 : decode cX7_hasNumeral 4 = .ok (.iload_n 1, 1) := by decide +kernel
theorem dX7_hasNumeral_5 : decode cX7_hasNumeral 5 = .ok (.aload_n 0, 1) := by decide +kernel
theorem dX7_hasNumeral_6 : decode cX7_hasNumeral 6 = .ok (.getfield 29, 3) := by decide +kernel
theorem dX7_hasNumeral_9 : decode cX7_hasNumeral 9 = .ok (.iconst 1, 1) := by decide +kernel
theorem dX7_hasNumeral_10 : decode cX7_hasNumeral 10 = .ok (.isub, 1) := by decide +kernel
theorem dX7_hasNumeral_11 : decode cX7_hasNumeral 11 = .ok (.if_icmp .ge 7, 3) := by decide +kernel
theorem dX7_hasNumeral_14 : decode cX7_hasNumeral 14 = .ok (.iconst 1, 1) := by decide +kernel
theorem dX7_hasNumeral_15 : decode cX7_hasNumeral 15 = .ok (.goto 4, 3) := by decide +kernel
theorem dX7_hasNumeral_18 : decode cX7_hasNumeral 18 = .ok (.iconst 0, 1) := by decide +kernel
theorem dX7_hasNumeral_19 : decode cX7_hasNumeral 19 = .ok (.ireturn, 1) := by decide +kernel
theorem dX7_hasNameAhead_0 : decode cX7_hasNameAhead 0 = .ok (.iconst 0, 1) := by decide +kernel
theorem dX7_hasNameAhead_1 : decode cX7_hasNameAhead 1 = .ok (.istore_n 2, 1) := by decide +kernel
theorem dX7_hasNameAhead_2 : decode cX7_hasNameAhead 2 = .ok (.iload_n 2, 1) := by decide +kernel
theorem dX7_hasNameAhead_3 : decode cX7_hasNameAhead 3 = .ok (.iload_n 1, 1) := by decide +kernel
theorem dX7_hasNameAhead_4 : decode cX7_hasNameAhead 4 = .ok (.if_icmp .ge 29, 3) := by decide +kernel
theorem dX7_hasNameAhead_7 : decode cX7_hasNameAhead 7 = .ok (.aload_n 0, 1) := by decide +kernel
theorem dX7_hasNameAhead_8 : decode cX7_hasNameAhead 8 = .ok (.getfield 11, 3) := by decide +kernel
theorem dX7_hasNameAhead_11 : decode cX7_hasNameAhead 11 = .ok (.iload_n 2, 1) := by decide +kernel
theorem dX7_hasNameAhead_12 : decode cX7_hasNameAhead 12 = .ok (.aaload, 1) := by decide +kernel
theorem dX7_hasNameAhead_13 : decode cX7_hasNameAhead 13 = .ok (.aload_n 0, 1) := by decide +kernel
theorem dX7_hasNameAhead_14 : decode cX7_hasNameAhead 14 = .ok (.getfield 11, 3) := by decide +kernel
theorem dX7_hasNameAhead_17 : decode cX7_hasNameAhead 17 = .ok (.iload_n 1, 1) := by decide +kernel
theorem dX7_hasNameAhead_18 : decode cX7_hasNameAhead 18 = .ok (.aaload, 1) := by decide +kernel
theorem dX7_hasNameAhead_19 : decode cX7_hasNameAhead 19 = .ok (.invokevirtual 33, 3) := by decide +kernel
theorem dX7_hasNameAhead_22 : decode cX7_hasNameAhead 22 = .ok (.ifCond .eq 5, 3) := by decide +kernel
theorem dX7_hasNameAhead_25 : decode cX7_hasNameAhead 25 = .ok (.iconst 1, 1) := by decide +kernel
theorem dX7_hasNameAhead_26 : decode cX7_hasNameAhead 26 = .ok (.ireturn, 1) := by decide +kernel
theorem dX7_hasNameAhead_27 : decode cX7_hasNameAhead 27 = .ok (.iinc 2 1, 3) := by decide +kernel
theorem dX7_hasNameAhead_30 : decode cX7_hasNameAhead 30 = .ok (.goto (-28), 3) := by decide +kernel
theorem dX7_hasNameAhead_33 : decode cX7_hasNameAhead 33 = .ok (.iconst 0, 1) := by decide +kernel
theorem dX7_hasNameAhead_34 : decode cX7_hasNameAhead 34 = .ok (.ireturn, 1) := by decide +kernel
theorem dX7_markMisread_0 : decode cX7_markMisread 0 = .ok (.iconst 0, 1) := by decide +kernel
theorem dX7_markMisread_1 : decode cX7_markMisread 1 = .ok (.istore_n 2, 1) := by decide +kernel
theorem dX7_markMisread_2 : decode cX7_markMisread 2 = .ok (.iload_n 2, 1) := by decide +kernel
theorem dX7_markMisread_3 : decode cX7_markMisread 3 = .ok (.aload_n 0, 1) := by decide +kernel
theorem dX7_markMisread_4 : decode cX7_markMisread 4 = .ok (.getfield 29, 3) := by decide +kernel
theorem dX7_markMisread_7 : decode cX7_markMisread 7 = .ok (.iconst 1, 1) := by decide +kernel
theorem dX7_markMisread_8 : decode cX7_markMisread 8 = .ok (.isub, 1) := by decide +kernel
theorem dX7_markMisread_9 : decode cX7_markMisread 9 = .ok (.if_icmp .ge 46, 3) := by decide +kernel
theorem dX7_markMisread_12 : decode cX7_markMisread 12 = .ok (.aload_n 0, 1) := by decide +kernel
theorem dX7_markMisread_13 : decode cX7_markMisread 13 = .ok (.getfield 23, 3) := by decide +kernel
theorem dX7_markMisread_16 : decode cX7_markMisread 16 = .ok (.iload_n 2, 1) := by decide +kernel
theorem dX7_markMisread_17 : decode cX7_markMisread 17 = .ok (.aload_n 1, 1) := by decide +kernel
theorem dX7_markMisread_18 : decode cX7_markMisread 18 = .ok (.iload_n 2, 1) := by decide +kernel
theorem dX7_markMisread_19 : decode cX7_markMisread 19 = .ok (.iconst 1, 1) := by decide +kernel
theorem dX7_markMisread_20 : decode cX7_markMisread 20 = .ok (.iadd, 1) := by decide +kernel
theorem dX7_markMisread_21 : decode cX7_markMisread 21 = .ok (.iaload, 1) := by decide +kernel
theorem dX7_markMisread_22 : decode cX7_markMisread 22 = .ok (.aload_n 1, 1) := by decide +kernel
theorem dX7_markMisread_23 : decode cX7_markMisread 23 = .ok (.iload_n 2, 1) := by decide +kernel
theorem dX7_markMisread_24 : decode cX7_markMisread 24 = .ok (.iaload, 1) := by decide +kernel
theorem dX7_markMisread_25 : decode cX7_markMisread 25 = .ok (.isub, 1) := by decide +kernel
theorem dX7_markMisread_26 : decode cX7_markMisread 26 = .ok (.aload_n 0, 1) := by decide +kernel
theorem dX7_markMisread_27 : decode cX7_markMisread 27 = .ok (.getfield 37, 3) := by decide +kernel
theorem dX7_markMisread_30 : decode cX7_markMisread 30 = .ok (.aload_n 0, 1) := by decide +kernel
theorem dX7_markMisread_31 : decode cX7_markMisread 31 = .ok (.getfield 19, 3) := by decide +kernel
theorem dX7_markMisread_34 : decode cX7_markMisread 34 = .ok (.iload_n 2, 1) := by decide +kernel
theorem dX7_markMisread_35 : decode cX7_markMisread 35 = .ok (.aaload, 1) := by decide +kernel
theorem dX7_markMisread_36 : decode cX7_markMisread 36 = .ok (.invokevirtual 40, 3) := by decide +kernel
theorem dX7_markMisread_39 : decode cX7_markMisread 39 = .ok (.imul, 1) := by decide +kernel
theorem dX7_markMisread_40 : decode cX7_markMisread 40 = .ok (.if_icmp .eq 7, 3) := by decide +kernel
theorem dX7_markMisread_43 : decode cX7_markMisread 43 = .ok (.iconst 1, 1) := by decide +kernel
theorem dX7_markMisread_44 : decode cX7_markMisread 44 = .ok (.goto 4, 3) := by decide +kernel
theorem dX7_markMisread_47 : decode cX7_markMisread 47 = .ok (.iconst 0, 1) := by decide +kernel
theorem dX7_markMisread_48 : decode cX7_markMisread 48 = .ok (.bastore, 1) := by decide +kernel
theorem dX7_markMisread_49 : decode cX7_markMisread 49 = .ok (.iinc 2 1, 3) := by decide +kernel
theorem dX7_markMisread_52 : decode cX7_markMisread 52 = .ok (.goto (-50), 3) := by decide +kernel
theorem dX7_markMisread_55 : decode cX7_markMisread 55 = .ok (.return_, 1) := by decide +kernel
theorem dX7_countShared_0 : decode cX7_countShared 0 = .ok (.iconst 0, 1) := by decide +kernel
theorem dX7_countShared_1 : decode cX7_countShared 1 = .ok (.istore_n 2, 1) := by decide +kernel
theorem dX7_countShared_2 : decode cX7_countShared 2 = .ok (.iconst 0, 1) := by decide +kernel
theorem dX7_countShared_3 : decode cX7_countShared 3 = .ok (.istore_n 3, 1) := by decide +kernel
theorem dX7_countShared_4 : decode cX7_countShared 4 = .ok (.iload_n 3, 1) := by decide +kernel
theorem dX7_countShared_5 : decode cX7_countShared 5 = .ok (.aload_n 0, 1) := by decide +kernel
theorem dX7_countShared_6 : decode cX7_countShared 6 = .ok (.getfield 29, 3) := by decide +kernel
theorem dX7_countShared_9 : decode cX7_countShared 9 = .ok (.iconst 1, 1) := by decide +kernel
theorem dX7_countShared_10 : decode cX7_countShared 10 = .ok (.isub, 1) := by decide +kernel
theorem dX7_countShared_11 : decode cX7_countShared 11 = .ok (.if_icmp .ge 62, 3) := by decide +kernel
theorem dX7_countShared_14 : decode cX7_countShared 14 = .ok (.iconst 0, 1) := by decide +kernel
theorem dX7_countShared_15 : decode cX7_countShared 15 = .ok (.istore 4, 2) := by decide +kernel
theorem dX7_countShared_17 : decode cX7_countShared 17 = .ok (.iload 4, 2) := by decide +kernel
theorem dX7_countShared_19 : decode cX7_countShared 19 = .ok (.aload_n 1, 1) := by decide +kernel
theorem dX7_countShared_20 : decode cX7_countShared 20 = .ok (.getfield 29, 3) := by decide +kernel
theorem dX7_countShared_23 : decode cX7_countShared 23 = .ok (.iconst 1, 1) := by decide +kernel
theorem dX7_countShared_24 : decode cX7_countShared 24 = .ok (.isub, 1) := by decide +kernel
theorem dX7_countShared_25 : decode cX7_countShared 25 = .ok (.if_icmp .ge 42, 3) := by decide +kernel
theorem dX7_countShared_28 : decode cX7_countShared 28 = .ok (.aload_n 0, 1) := by decide +kernel
theorem dX7_countShared_29 : decode cX7_countShared 29 = .ok (.getfield 23, 3) := by decide +kernel
theorem dX7_countShared_32 : decode cX7_countShared 32 = .ok (.iload_n 3, 1) := by decide +kernel
theorem dX7_countShared_33 : decode cX7_countShared 33 = .ok (.baload, 1) := by decide +kernel
theorem dX7_countShared_34 : decode cX7_countShared 34 = .ok (.ifCond .eq 27, 3) := by decide +kernel
theorem dX7_countShared_37 : decode cX7_countShared 37 = .ok (.aload_n 1, 1) := by decide +kernel
theorem dX7_countShared_38 : decode cX7_countShared 38 = .ok (.getfield 23, 3) := by decide +kernel
theorem dX7_countShared_41 : decode cX7_countShared 41 = .ok (.iload 4, 2) := by decide +kernel
theorem dX7_countShared_43 : decode cX7_countShared 43 = .ok (.baload, 1) := by decide +kernel
theorem dX7_countShared_44 : decode cX7_countShared 44 = .ok (.ifCond .eq 17, 3) := by decide +kernel
theorem dX7_countShared_47 : decode cX7_countShared 47 = .ok (.aload_n 0, 1) := by decide +kernel
theorem dX7_countShared_48 : decode cX7_countShared 48 = .ok (.iload_n 3, 1) := by decide +kernel
theorem dX7_countShared_49 : decode cX7_countShared 49 = .ok (.aload_n 1, 1) := by decide +kernel
theorem dX7_countShared_50 : decode cX7_countShared 50 = .ok (.iload 4, 2) := by decide +kernel
theorem dX7_countShared_52 : decode cX7_countShared 52 = .ok (.invokevirtual 44, 3) := by decide +kernel
theorem dX7_countShared_55 : decode cX7_countShared 55 = .ok (.ifCond .eq 6, 3) := by decide +kernel
theorem dX7_countShared_58 : decode cX7_countShared 58 = .ok (.iinc 2 1, 3) := by decide +kernel
theorem dX7_countShared_61 : decode cX7_countShared 61 = .ok (.iinc 4 1, 3) := by decide +kernel
theorem dX7_countShared_64 : decode cX7_countShared 64 = .ok (.goto (-47), 3) := by decide +kernel
theorem dX7_countShared_67 : decode cX7_countShared 67 = .ok (.iinc 3 1, 3) := by decide +kernel
theorem dX7_countShared_70 : decode cX7_countShared 70 = .ok (.goto (-66), 3) := by decide +kernel
theorem dX7_countShared_73 : decode cX7_countShared 73 = .ok (.iload_n 2, 1) := by decide +kernel
theorem dX7_countShared_74 : decode cX7_countShared 74 = .ok (.ireturn, 1) := by decide +kernel
theorem dX7_sameStep_0 : decode cX7_sameStep 0 = .ok (.aload_n 0, 1) := by decide +kernel
theorem dX7_sameStep_1 : decode cX7_sameStep 1 = .ok (.getfield 11, 3) := by decide +kernel
theorem dX7_sameStep_4 : decode cX7_sameStep 4 = .ok (.iload_n 1, 1) := by decide +kernel
theorem dX7_sameStep_5 : decode cX7_sameStep 5 = .ok (.aaload, 1) := by decide +kernel
theorem dX7_sameStep_6 : decode cX7_sameStep 6 = .ok (.aload_n 2, 1) := by decide +kernel
theorem dX7_sameStep_7 : decode cX7_sameStep 7 = .ok (.getfield 11, 3) := by decide +kernel
theorem dX7_sameStep_10 : decode cX7_sameStep 10 = .ok (.iload_n 3, 1) := by decide +kernel
theorem dX7_sameStep_11 : decode cX7_sameStep 11 = .ok (.aaload, 1) := by decide +kernel
theorem dX7_sameStep_12 : decode cX7_sameStep 12 = .ok (.invokevirtual 33, 3) := by decide +kernel
theorem dX7_sameStep_15 : decode cX7_sameStep 15 = .ok (.ifCond .eq 47, 3) := by decide +kernel
theorem dX7_sameStep_18 : decode cX7_sameStep 18 = .ok (.aload_n 0, 1) := by decide +kernel
theorem dX7_sameStep_19 : decode cX7_sameStep 19 = .ok (.getfield 11, 3) := by decide +kernel
theorem dX7_sameStep_22 : decode cX7_sameStep 22 = .ok (.iload_n 1, 1) := by decide +kernel
theorem dX7_sameStep_23 : decode cX7_sameStep 23 = .ok (.iconst 1, 1) := by decide +kernel
theorem dX7_sameStep_24 : decode cX7_sameStep 24 = .ok (.iadd, 1) := by decide +kernel
theorem dX7_sameStep_25 : decode cX7_sameStep 25 = .ok (.aaload, 1) := by decide +kernel
theorem dX7_sameStep_26 : decode cX7_sameStep 26 = .ok (.aload_n 2, 1) := by decide +kernel
theorem dX7_sameStep_27 : decode cX7_sameStep 27 = .ok (.getfield 11, 3) := by decide +kernel
theorem dX7_sameStep_30 : decode cX7_sameStep 30 = .ok (.iload_n 3, 1) := by decide +kernel
theorem dX7_sameStep_31 : decode cX7_sameStep 31 = .ok (.iconst 1, 1) := by decide +kernel
theorem dX7_sameStep_32 : decode cX7_sameStep 32 = .ok (.iadd, 1) := by decide +kernel
theorem dX7_sameStep_33 : decode cX7_sameStep 33 = .ok (.aaload, 1) := by decide +kernel
theorem dX7_sameStep_34 : decode cX7_sameStep 34 = .ok (.invokevirtual 33, 3) := by decide +kernel
theorem dX7_sameStep_37 : decode cX7_sameStep 37 = .ok (.ifCond .eq 25, 3) := by decide +kernel
theorem dX7_sameStep_40 : decode cX7_sameStep 40 = .ok (.aload_n 0, 1) := by decide +kernel
theorem dX7_sameStep_41 : decode cX7_sameStep 41 = .ok (.getfield 19, 3) := by decide +kernel
theorem dX7_sameStep_44 : decode cX7_sameStep 44 = .ok (.iload_n 1, 1) := by decide +kernel
theorem dX7_sameStep_45 : decode cX7_sameStep 45 = .ok (.aaload, 1) := by decide +kernel
theorem dX7_sameStep_46 : decode cX7_sameStep 46 = .ok (.aload_n 2, 1) := by decide +kernel
theorem dX7_sameStep_47 : decode cX7_sameStep 47 = .ok (.getfield 19, 3) := by decide +kernel
theorem dX7_sameStep_50 : decode cX7_sameStep 50 = .ok (.iload_n 3, 1) := by decide +kernel
theorem dX7_sameStep_51 : decode cX7_sameStep 51 = .ok (.aaload, 1) := by decide +kernel
theorem dX7_sameStep_52 : decode cX7_sameStep 52 = .ok (.invokevirtual 48, 3) := by decide +kernel
theorem dX7_sameStep_55 : decode cX7_sameStep 55 = .ok (.ifCond .eq 7, 3) := by decide +kernel
theorem dX7_sameStep_58 : decode cX7_sameStep 58 = .ok (.iconst 1, 1) := by decide +kernel
theorem dX7_sameStep_59 : decode cX7_sameStep 59 = .ok (.goto 4, 3) := by decide +kernel
theorem dX7_sameStep_62 : decode cX7_sameStep 62 = .ok (.iconst 0, 1) := by decide +kernel
theorem dX7_sameStep_63 : decode cX7_sameStep 63 = .ok (.ireturn, 1) := by decide +kernel
theorem dX8_init_0 : decode cX8_init 0 = .ok (.aload_n 0, 1) := by decide +kernel
theorem dX8_init_1 : decode cX8_init 1 = .ok (.invokespecial 3, 3) := by decide +kernel
theorem dX8_init_4 : decode cX8_init 4 = .ok (.return_, 1) := by decide +kernel
theorem dX8_readText_0 : decode cX8_readText 0 = .ok (.aload_n 0, 1) := by decide +kernel
theorem dX8_readText_1 : decode cX8_readText 1 = .ok (.iconst 0, 1) := by decide +kernel
theorem dX8_readText_2 : decode cX8_readText 2 = .ok (.putfield 9, 3) := by decide +kernel
theorem dX8_readText_5 : decode cX8_readText 5 = .ok (.aload_n 0, 1) := by decide +kernel
theorem dX8_readText_6 : decode cX8_readText 6 = .ok (.iconst (-1), 1) := by decide +kernel
theorem dX8_readText_7 : decode cX8_readText 7 = .ok (.putfield 15, 3) := by decide +kernel
theorem dX8_readText_10 : decode cX8_readText 10 = .ok (.aload_n 0, 1) := by decide +kernel
theorem dX8_readText_11 : decode cX8_readText 11 = .ok (.iconst 1, 1) := by decide +kernel
theorem dX8_readText_12 : decode cX8_readText 12 = .ok (.putfield 18, 3) := by decide +kernel
theorem dX8_readText_15 : decode cX8_readText 15 = .ok (.aload_n 2, 1) := by decide +kernel
theorem dX8_readText_16 : decode cX8_readText 16 = .ok (.iconst 0, 1) := by decide +kernel
theorem dX8_readText_17 : decode cX8_readText 17 = .ok (.putfield 22, 3) := by decide +kernel
theorem dX8_readText_20 : decode cX8_readText 20 = .ok (.iconst 0, 1) := by decide +kernel
theorem dX8_readText_21 : decode cX8_readText 21 = .ok (.istore_n 3, 1) := by decide +kernel
theorem dX8_readText_22 : decode cX8_readText 22 = .ok (.iload_n 3, 1) := by decide +kernel
theorem dX8_readText_23 : decode cX8_readText 23 = .ok (.aload_n 1, 1) := by decide +kernel
theorem dX8_readText_24 : decode cX8_readText 24 = .ok (.getfield 27, 3) := by decide +kernel
theorem dX8_readText_27 : decode cX8_readText 27 = .ok (.if_icmp .ge 39, 3) := by decide +kernel
theorem dX8_readText_30 : decode cX8_readText 30 = .ok (.aload_n 0, 1) := by decide +kernel
theorem dX8_readText_31 : decode cX8_readText 31 = .ok (.getfield 9, 3) := by decide +kernel
theorem dX8_readText_34 : decode cX8_readText 34 = .ok (.ifCond .ne 32, 3) := by decide +kernel
theorem dX8_readText_37 : decode cX8_readText 37 = .ok (.iload_n 3, 1) := by decide +kernel
theorem dX8_readText_38 : decode cX8_readText 38 = .ok (.aload_n 1, 1) := by decide +kernel
theorem dX8_readText_39 : decode cX8_readText 39 = .ok (.iload_n 3, 1) := by decide +kernel
theorem dX8_readText_40 : decode cX8_readText 40 = .ok (.invokevirtual 32, 3) := by decide +kernel
theorem dX8_readText_43 : decode cX8_readText 43 = .ok (.ifCond .eq 7, 3) := by decide +kernel
theorem dX8_readText_46 : decode cX8_readText 46 = .ok (.iconst 1, 1) := by decide +kernel
theorem dX8_readText_47 : decode cX8_readText 47 = .ok (.goto 14, 3) := by decide +kernel
theorem dX8_readText_50 : decode cX8_readText 50 = .ok (.iconst 1, 1) := by decide +kernel
theorem dX8_readText_51 : decode cX8_readText 51 = .ok (.aload_n 0, 1) := by decide +kernel
theorem dX8_readText_52 : decode cX8_readText 52 = .ok (.aload_n 1, 1) := by decide +kernel
theorem dX8_readText_53 : decode cX8_readText 53 = .ok (.iload_n 3, 1) := by decide +kernel
theorem dX8_readText_54 : decode cX8_readText 54 = .ok (.aload_n 2, 1) := by decide +kernel
theorem dX8_readText_55 : decode cX8_readText 55 = .ok (.invokevirtual 36, 3) := by decide +kernel
theorem dX8_readText_58 : decode cX8_readText 58 = .ok (.invokestatic 40, 3) := by decide +kernel
theorem dX8_readText_61 : decode cX8_readText 61 = .ok (.iadd, 1) := by decide +kernel
theorem dX8_readText_62 : decode cX8_readText 62 = .ok (.istore_n 3, 1) := by decide +kernel
theorem dX8_readText_63 : decode cX8_readText 63 = .ok (.goto (-41), 3) := by decide +kernel
theorem dX8_readText_66 : decode cX8_readText 66 = .ok (.aload_n 0, 1) := by decide +kernel
theorem dX8_readText_67 : decode cX8_readText 67 = .ok (.getfield 9, 3) := by decide +kernel
theorem dX8_readText_70 : decode cX8_readText 70 = .ok (.ifCond .ne 27, 3) := by decide +kernel
theorem dX8_readText_73 : decode cX8_readText 73 = .ok (.aload_n 0, 1) := by decide +kernel
theorem dX8_readText_74 : decode cX8_readText 74 = .ok (.getfield 18, 3) := by decide +kernel
theorem dX8_readText_77 : decode cX8_readText 77 = .ok (.ifCond .ne 11, 3) := by decide +kernel
theorem dX8_readText_80 : decode cX8_readText 80 = .ok (.aload_n 2, 1) := by decide +kernel
theorem dX8_readText_81 : decode cX8_readText 81 = .ok (.getfield 22, 3) := by decide +kernel
theorem dX8_readText_84 : decode cX8_readText 84 = .ok (.iconst 2, 1) := by decide +kernel
theorem dX8_readText_85 : decode cX8_readText 85 = .ok (.if_icmp .ge 12, 3) := by decide +kernel
theorem dX8_readText_88 : decode cX8_readText 88 = .ok (.aload_n 0, 1) := by decide +kernel
theorem dX8_readText_89 : decode cX8_readText 89 = .ok (.iconst 1, 1) := by decide +kernel
theorem dX8_readText_90 : decode cX8_readText 90 = .ok (.aload_n 1, 1) := by decide +kernel
theorem dX8_readText_91 : decode cX8_readText 91 = .ok (.getfield 27, 3) := by decide +kernel
theorem dX8_readText_94 : decode cX8_readText 94 = .ok (.invokevirtual 46, 3) := by decide +kernel
theorem dX8_readText_97 : decode cX8_readText 97 = .ok (.return_, 1) := by decide +kernel
theorem dX8_takeToken_0 : decode cX8_takeToken 0 = .ok (.aload_n 1, 1) := by decide +kernel
theorem dX8_takeToken_1 : decode cX8_takeToken 1 = .ok (.iload_n 2, 1) := by decide +kernel
theorem dX8_takeToken_2 : decode cX8_takeToken 2 = .ok (.invokevirtual 50, 3) := by decide +kernel
theorem dX8_takeToken_5 : decode cX8_takeToken 5 = .ok (.istore 4, 2) := by decide +kernel
theorem dX8_takeToken_7 : decode cX8_takeToken 7 = .ok (.iload 4, 2) := by decide +kernel
theorem dX8_takeToken_9 : decode cX8_takeToken 9 = .ok (.ifCond .le 15, 3) := by decide +kernel
theorem dX8_takeToken_12 : decode cX8_takeToken 12 = .ok (.aload_n 0, 1) := by decide +kernel
theorem dX8_takeToken_13 : decode cX8_takeToken 13 = .ok (.aload_n 1, 1) := by decide +kernel
theorem dX8_takeToken_14 : decode cX8_takeToken 14 = .ok (.iload_n 2, 1) := by decide +kernel
theorem dX8_takeToken_15 : decode cX8_takeToken 15 = .ok (.iload 4, 2) := by decide +kernel
theorem dX8_takeToken_17 : decode cX8_takeToken 17 = .ok (.aload_n 3, 1) := by decide +kernel
theorem dX8_takeToken_18 : decode cX8_takeToken 18 = .ok (.invokevirtual 54, 3) := by decide +kernel
theorem dX8_takeToken_21 : decode cX8_takeToken 21 = .ok (.iload 4, 2) := by decide +kernel
theorem dX8_takeToken_23 : decode cX8_takeToken 23 = .ok (.ireturn, 1) := by decide +kernel
theorem dX8_takeToken_24 : decode cX8_takeToken 24 = .ok (.aload_n 1, 1) := by decide +kernel
theorem dX8_takeToken_25 : decode cX8_takeToken 25 = .ok (.iload_n 2, 1) := by decide +kernel
theorem dX8_takeToken_26 : decode cX8_takeToken 26 = .ok (.invokevirtual 58, 3) := by decide +kernel
theorem dX8_takeToken_29 : decode cX8_takeToken 29 = .ok (.istore 5, 2) := by decide +kernel
theorem dX8_takeToken_31 : decode cX8_takeToken 31 = .ok (.iload 5, 2) := by decide +kernel
theorem dX8_takeToken_33 : decode cX8_takeToken 33 = .ok (.ifCond .le 15, 3) := by decide +kernel
theorem dX8_takeToken_36 : decode cX8_takeToken 36 = .ok (.aload_n 0, 1) := by decide +kernel
theorem dX8_takeToken_37 : decode cX8_takeToken 37 = .ok (.aload_n 1, 1) := by decide +kernel
theorem dX8_takeToken_38 : decode cX8_takeToken 38 = .ok (.iload_n 2, 1) := by decide +kernel
theorem dX8_takeToken_39 : decode cX8_takeToken 39 = .ok (.iload 5, 2) := by decide +kernel
theorem dX8_takeToken_41 : decode cX8_takeToken 41 = .ok (.aload_n 3, 1) := by decide +kernel
theorem dX8_takeToken_42 : decode cX8_takeToken 42 = .ok (.invokevirtual 61, 3) := by decide +kernel
theorem dX8_takeToken_45 : decode cX8_takeToken 45 = .ok (.iload 5, 2) := by decide +kernel
theorem dX8_takeToken_47 : decode cX8_takeToken 47 = .ok (.ireturn, 1) := by decide +kernel
theorem dX8_takeToken_48 : decode cX8_takeToken 48 = .ok (.aload_n 0, 1) := by decide +kernel
theorem dX8_takeToken_49 : decode cX8_takeToken 49 = .ok (.iconst 1, 1) := by decide +kernel
theorem dX8_takeToken_50 : decode cX8_takeToken 50 = .ok (.iload_n 2, 1) := by decide +kernel
theorem dX8_takeToken_51 : decode cX8_takeToken 51 = .ok (.invokevirtual 46, 3) := by decide +kernel
theorem dX8_takeToken_54 : decode cX8_takeToken 54 = .ok (.iconst 1, 1) := by decide +kernel
theorem dX8_takeToken_55 : decode cX8_takeToken 55 = .ok (.ireturn, 1) := by decide +kernel
theorem dX8_takeWord_0 : decode cX8_takeWord 0 = .ok (.aload 4, 2) := by decide +kernel
theorem dX8_takeWord_2 : decode cX8_takeWord 2 = .ok (.getfield 22, 3) := by decide +kernel
theorem dX8_takeWord_5 : decode cX8_takeWord 5 = .ok (.istore 5, 2) := by decide +kernel
theorem dX8_takeWord_7 : decode cX8_takeWord 7 = .ok (.aload_n 0, 1) := by decide +kernel
theorem dX8_takeWord_8 : decode cX8_takeWord 8 = .ok (.getfield 18, 3) := by decide +kernel
theorem dX8_takeWord_11 : decode cX8_takeWord 11 = .ok (.ifCond .eq 9, 3) := by decide +kernel
theorem dX8_takeWord_14 : decode cX8_takeWord 14 = .ok (.iload_n 3, 1) := by decide +kernel
theorem dX8_takeWord_15 : decode cX8_takeWord 15 = .ok (.bipush 8, 2) := by decide +kernel
theorem dX8_takeWord_17 : decode cX8_takeWord 17 = .ok (.if_icmp .le 10, 3) := by decide +kernel
theorem dX8_takeWord_20 : decode cX8_takeWord 20 = .ok (.aload_n 0, 1) := by decide +kernel
theorem dX8_takeWord_21 : decode cX8_takeWord 21 = .ok (.iconst 1, 1) := by decide +kernel
theorem dX8_takeWord_22 : decode cX8_takeWord 22 = .ok (.iload_n 2, 1) := by decide +kernel
theorem dX8_takeWord_23 : decode cX8_takeWord 23 = .ok (.invokevirtual 46, 3) := by decide +kernel
theorem dX8_takeWord_26 : decode cX8_takeWord 26 = .ok (.return_, 1) := by decide +kernel
theorem dX8_takeWord_27 : decode cX8_takeWord 27 = .ok (.iload 5, 2) := by decide +kernel
theorem dX8_takeWord_29 : decode cX8_takeWord 29 = .ok (.ifCond .lt 10, 3) := by decide +kernel
theorem dX8_takeWord_32 : decode cX8_takeWord 32 = .ok (.iload 5, 2) := by decide +kernel
theorem dX8_takeWord_34 : decode cX8_takeWord 34 = .ok (.bipush 10, 2) := by decide +kernel
theorem dX8_takeWord_36 : decode cX8_takeWord 36 = .ok (.if_icmp .lt 10, 3) := by decide +kernel
theorem dX8_takeWord_39 : decode cX8_takeWord 39 = .ok (.aload_n 0, 1) := by decide +kernel
theorem dX8_takeWord_40 : decode cX8_takeWord 40 = .ok (.iconst 2, 1) := by decide +kernel
theorem dX8_takeWord_41 : decode cX8_takeWord 41 = .ok (.iload_n 2, 1) := by decide +kernel
theorem dX8_takeWord_42 : decode cX8_takeWord 42 = .ok (.invokevirtual 46, 3) := by decide +kernel
theorem dX8_takeWord_45 : decode cX8_takeWord 45 = .ok (.return_, 1) := by decide +kernel
theorem dX8_takeWord_46 : decode cX8_takeWord 46 = .ok (.aload 4, 2) := by decide +kernel
theorem dX8_takeWord_48 : decode cX8_takeWord 48 = .ok (.getfield 64, 3) := by decide +kernel
theorem dX8_takeWord_51 : decode cX8_takeWord 51 = .ok (.iload 5, 2) := by decide +kernel
theorem dX8_takeWord_53 : decode cX8_takeWord 53 = .ok (.aaload, 1) := by decide +kernel
theorem dX8_takeWord_54 : decode cX8_takeWord 54 = .ok (.aload_n 1, 1) := by decide +kernel
theorem dX8_takeWord_55 : decode cX8_takeWord 55 = .ok (.iload_n 2, 1) := by decide +kernel
theorem dX8_takeWord_56 : decode cX8_takeWord 56 = .ok (.iload_n 3, 1) := by decide +kernel
theorem dX8_takeWord_57 : decode cX8_takeWord 57 = .ok (.invokevirtual 68, 3) := by decide +kernel
theorem dX8_takeWord_60 : decode cX8_takeWord 60 = .ok (.aload 4, 2) := by decide +kernel
theorem dX8_takeWord_62 : decode cX8_takeWord 62 = .ok (.iload 5, 2) := by decide +kernel
theorem dX8_takeWord_64 : decode cX8_takeWord 64 = .ok (.invokevirtual 74, 3) := by decide +kernel
theorem dX8_takeWord_67 : decode cX8_takeWord 67 = .ok (.ifCond .eq 10, 3) := by decide +kernel
theorem dX8_takeWord_70 : decode cX8_takeWord 70 = .ok (.aload_n 0, 1) := by decide +kernel
theorem dX8_takeWord_71 : decode cX8_takeWord 71 = .ok (.iconst 3, 1) := by decide +kernel
theorem dX8_takeWord_72 : decode cX8_takeWord 72 = .ok (.iload_n 2, 1) := by decide +kernel
theorem dX8_takeWord_73 : decode cX8_takeWord 73 = .ok (.invokevirtual 46, 3) := by decide +kernel
theorem dX8_takeWord_76 : decode cX8_takeWord 76 = .ok (.return_, 1) := by decide +kernel
theorem dX8_takeWord_77 : decode cX8_takeWord 77 = .ok (.aload 4, 2) := by decide +kernel
theorem dX8_takeWord_79 : decode cX8_takeWord 79 = .ok (.dup, 1) := by decide +kernel
theorem dX8_takeWord_80 : decode cX8_takeWord 80 = .ok (.getfield 22, 3) := by decide +kernel
theorem dX8_takeWord_83 : decode cX8_takeWord 83 = .ok (.iconst 1, 1) := by decide +kernel
theorem dX8_takeWord_84 : decode cX8_takeWord 84 = .ok (.iadd, 1) := by decide +kernel
theorem dX8_takeWord_85 : decode cX8_takeWord 85 = .ok (.putfield 22, 3) := by decide +kernel
theorem dX8_takeWord_88 : decode cX8_takeWord 88 = .ok (.aload_n 0, 1) := by decide +kernel
theorem dX8_takeWord_89 : decode cX8_takeWord 89 = .ok (.iconst 0, 1) := by decide +kernel
theorem dX8_takeWord_90 : decode cX8_takeWord 90 = .ok (.putfield 18, 3) := by decide +kernel
theorem dX8_takeWord_93 : decode cX8_takeWord 93 = .ok (.return_, 1) := by decide +kernel
theorem dX8_takeSigns_0 : decode cX8_takeSigns 0 = .ok (.aload 4, 2) := by decide +kernel
theorem dX8_takeSigns_2 : decode cX8_takeSigns 2 = .ok (.getfield 22, 3) := by decide +kernel
theorem dX8_takeSigns_5 : decode cX8_takeSigns 5 = .ok (.iconst 1, 1) := by decide +kernel
theorem dX8_takeSigns_6 : decode cX8_takeSigns 6 = .ok (.isub, 1) := by decide +kernel
theorem dX8_takeSigns_7 : decode cX8_takeSigns 7 = .ok (.istore 5, 2) := by decide +kernel
theorem dX8_takeSigns_9 : decode cX8_takeSigns 9 = .ok (.aload_n 0, 1) := by decide +kernel
theorem dX8_takeSigns_10 : decode cX8_takeSigns 10 = .ok (.getfield 18, 3) := by decide +kernel
theorem dX8_takeSigns_13 : decode cX8_takeSigns 13 = .ok (.ifCond .ne 19, 3) := by decide +kernel
theorem dX8_takeSigns_16 : decode cX8_takeSigns 16 = .ok (.iload 5, 2) := by decide +kernel
theorem dX8_takeSigns_18 : decode cX8_takeSigns 18 = .ok (.ifCond .lt 14, 3) := by decide +kernel
theorem dX8_takeSigns_21 : decode cX8_takeSigns 21 = .ok (.iload 5, 2) := by decide +kernel
theorem dX8_takeSigns_23 : decode cX8_takeSigns 23 = .ok (.bipush 10, 2) := by decide +kernel
theorem dX8_takeSigns_25 : decode cX8_takeSigns 25 = .ok (.if_icmp .ge 7, 3) := by decide +kernel
theorem dX8_takeSigns_28 : decode cX8_takeSigns 28 = .ok (.iconst 1, 1) := by decide +kernel
theorem dX8_takeSigns_29 : decode cX8_takeSigns 29 = .ok (.goto 4, 3) := by decide +kernel
theorem dX8_takeSigns_32 : decode cX8_takeSigns 32 = .ok (.iconst 0, 1) := by decide +kernel
theorem dX8_takeSigns_33 : decode cX8_takeSigns 33 = .ok (.istore 6, 2) := by decide +kernel
theorem dX8_takeSigns_35 : decode cX8_takeSigns 35 = .ok (.iload 6, 2) := by decide +kernel
theorem dX8_takeSigns_37 : decode cX8_takeSigns 37 = .ok (.ifCond .eq 20, 3) := by decide +kernel
theorem dX8_takeSigns_40 : decode cX8_takeSigns 40 = .ok (.aload 4, 2) := by decide +kernel
theorem dX8_takeSigns_42 : decode cX8_takeSigns 42 = .ok (.getfield 77, 3) := by decide +kernel
theorem dX8_takeSigns_45 : decode cX8_takeSigns 45 = .ok (.iload 5, 2) := by decide +kernel
theorem dX8_takeSigns_47 : decode cX8_takeSigns 47 = .ok (.aaload, 1) := by decide +kernel
theorem dX8_takeSigns_48 : decode cX8_takeSigns 48 = .ok (.aload_n 1, 1) := by decide +kernel
theorem dX8_takeSigns_49 : decode cX8_takeSigns 49 = .ok (.iload_n 2, 1) := by decide +kernel
theorem dX8_takeSigns_50 : decode cX8_takeSigns 50 = .ok (.iload_n 3, 1) := by decide +kernel
theorem dX8_takeSigns_51 : decode cX8_takeSigns 51 = .ok (.invokevirtual 81, 3) := by decide +kernel
theorem dX8_takeSigns_54 : decode cX8_takeSigns 54 = .ok (.ifCond .ne 10, 3) := by decide +kernel
theorem dX8_takeSigns_57 : decode cX8_takeSigns 57 = .ok (.aload_n 0, 1) := by decide +kernel
theorem dX8_takeSigns_58 : decode cX8_takeSigns 58 = .ok (.iconst 1, 1) := by decide +kernel
theorem dX8_takeSigns_59 : decode cX8_takeSigns 59 = .ok (.iload_n 2, 1) := by decide +kernel
theorem dX8_takeSigns_60 : decode cX8_takeSigns 60 = .ok (.invokevirtual 46, 3) := by decide +kernel
theorem dX8_takeSigns_63 : decode cX8_takeSigns 63 = .ok (.return_, 1) := by decide +kernel
theorem dX8_takeSigns_64 : decode cX8_takeSigns 64 = .ok (.aload_n 0, 1) := by decide +kernel
theorem dX8_takeSigns_65 : decode cX8_takeSigns 65 = .ok (.iconst 1, 1) := by decide +kernel
theorem dX8_takeSigns_66 : decode cX8_takeSigns 66 = .ok (.putfield 18, 3) := by decide +kernel
theorem dX8_takeSigns_69 : decode cX8_takeSigns 69 = .ok (.return_, 1) := by decide +kernel
theorem dX8_blame_0 : decode cX8_blame 0 = .ok (.aload_n 0, 1) := by decide +kernel
theorem dX8_blame_1 : decode cX8_blame 1 = .ok (.iload_n 1, 1) := by decide +kernel
theorem dX8_blame_2 : decode cX8_blame 2 = .ok (.putfield 9, 3) := by decide +kernel
theorem dX8_blame_5 : decode cX8_blame 5 = .ok (.aload_n 0, 1) := by decide +kernel
theorem dX8_blame_6 : decode cX8_blame 6 = .ok (.iload_n 2, 1) := by decide +kernel
theorem dX8_blame_7 : decode cX8_blame 7 = .ok (.putfield 15, 3) := by decide +kernel
theorem dX8_blame_10 : decode cX8_blame 10 = .ok (.return_, 1) := by decide +kernel
theorem dX9_init_0 : decode cX9_init 0 = .ok (.aload_n 0, 1) := by decide +kernel
theorem dX9_init_1 : decode cX9_init 1 = .ok (.invokespecial 3, 3) := by decide +kernel
theorem dX9_init_4 : decode cX9_init 4 = .ok (.aload_n 0, 1) := by decide +kernel
theorem dX9_init_5 : decode cX9_init 5 = .ok (.bipush 26, 2) := by decide +kernel
theorem dX9_init_7 : decode cX9_init 7 = .ok (.newarray .int, 2) := by decide +kernel
theorem dX9_init_9 : decode cX9_init 9 = .ok (.putfield 9, 3) := by decide +kernel
theorem dX9_init_12 : decode cX9_init 12 = .ok (.aload_n 0, 1) := by decide +kernel
theorem dX9_init_13 : decode cX9_init 13 = .ok (.bipush 9, 2) := by decide +kernel
theorem dX9_init_15 : decode cX9_init 15 = .ok (.newarray .int, 2) := by decide +kernel
theorem dX9_init_17 : decode cX9_init 17 = .ok (.putfield 15, 3) := by decide +kernel
theorem dX9_init_20 : decode cX9_init 20 = .ok (.iconst 0, 1) := by decide +kernel
theorem dX9_init_21 : decode cX9_init 21 = .ok (.istore_n 1, 1) := by decide +kernel
theorem dX9_init_22 : decode cX9_init 22 = .ok (.iload_n 1, 1) := by decide +kernel
theorem dX9_init_23 : decode cX9_init 23 = .ok (.bipush 26, 2) := by decide +kernel
theorem dX9_init_25 : decode cX9_init 25 = .ok (.if_icmp .ge 16, 3) := by decide +kernel
theorem dX9_init_28 : decode cX9_init 28 = .ok (.aload_n 0, 1) := by decide +kernel
theorem dX9_init_29 : decode cX9_init 29 = .ok (.getfield 9, 3) := by decide +kernel
theorem dX9_init_32 : decode cX9_init 32 = .ok (.iload_n 1, 1) := by decide +kernel
theorem dX9_init_33 : decode cX9_init 33 = .ok (.iload_n 1, 1) := by decide +kernel
theorem dX9_init_34 : decode cX9_init 34 = .ok (.iastore, 1) := by decide +kernel
theorem dX9_init_35 : decode cX9_init 35 = .ok (.iinc 1 1, 3) := by decide +kernel
theorem dX9_init_38 : decode cX9_init 38 = .ok (.goto (-16), 3) := by decide +kernel
theorem dX9_init_41 : decode cX9_init 41 = .ok (.return_, 1) := by decide +kernel
theorem dX9_alike_0 : decode cX9_alike 0 = .ok (.iload_n 1, 1) := by decide +kernel
theorem dX9_alike_1 : decode cX9_alike 1 = .ok (.ifCond .lt 23, 3) := by decide +kernel
theorem dX9_alike_4 : decode cX9_alike 4 = .ok (.iload_n 1, 1) := by decide +kernel
theorem dX9_alike_5 : decode cX9_alike 5 = .ok (.bipush 26, 2) := by decide +kernel
theorem dX9_alike_7 : decode cX9_alike 7 = .ok (.if_icmp .ge 17, 3) := by decide +kernel
theorem dX9_alike_10 : decode cX9_alike 10 = .ok (.iload_n 2, 1) := by decide +kernel
theorem dX9_alike_11 : decode cX9_alike 11 = .ok (.ifCond .lt 13, 3) := by decide +kernel
theorem dX9_alike_14 : decode cX9_alike 14 = .ok (.iload_n 2, 1) := by decide +kernel
theorem dX9_alike_15 : decode cX9_alike 15 = .ok (.bipush 26, 2) := by decide +kernel
theorem dX9_alike_17 : decode cX9_alike 17 = .ok (.if_icmp .ge 7, 3) := by decide +kernel
theorem dX9_alike_20 : decode cX9_alike 20 = .ok (.iconst 1, 1) := by decide +kernel
theorem dX9_alike_21 : decode cX9_alike 21 = .ok (.goto 4, 3) := by decide +kernel
theorem dX9_alike_24 : decode cX9_alike 24 = .ok (.iconst 0, 1) := by decide +kernel
theorem dX9_alike_25 : decode cX9_alike 25 = .ok (.istore_n 3, 1) := by decide +kernel
theorem dX9_alike_26 : decode cX9_alike 26 = .ok (.iload_n 3, 1) := by decide +kernel
theorem dX9_alike_27 : decode cX9_alike 27 = .ok (.ifCond .eq 22, 3) := by decide +kernel
theorem dX9_alike_30 : decode cX9_alike 30 = .ok (.aload_n 0, 1) := by decide +kernel
theorem dX9_alike_31 : decode cX9_alike 31 = .ok (.getfield 9, 3) := by decide +kernel
theorem dX9_alike_34 : decode cX9_alike 34 = .ok (.iload_n 1, 1) := by decide +kernel
theorem dX9_alike_35 : decode cX9_alike 35 = .ok (.iaload, 1) := by decide +kernel
theorem dX9_alike_36 : decode cX9_alike 36 = .ok (.aload_n 0, 1) := by decide +kernel
theorem dX9_alike_37 : decode cX9_alike 37 = .ok (.getfield 9, 3) := by decide +kernel
theorem dX9_alike_40 : decode cX9_alike 40 = .ok (.iload_n 2, 1) := by decide +kernel
theorem dX9_alike_41 : decode cX9_alike 41 = .ok (.iaload, 1) := by decide +kernel
theorem dX9_alike_42 : decode cX9_alike 42 = .ok (.if_icmp .ne 7, 3) := by decide +kernel
theorem dX9_alike_45 : decode cX9_alike 45 = .ok (.iconst 1, 1) := by decide +kernel
theorem dX9_alike_46 : decode cX9_alike 46 = .ok (.goto 4, 3) := by decide +kernel
theorem dX9_alike_49 : decode cX9_alike 49 = .ok (.iconst 0, 1) := by decide +kernel
theorem dX9_alike_50 : decode cX9_alike 50 = .ok (.ireturn, 1) := by decide +kernel
theorem dX9_join_0 : decode cX9_join 0 = .ok (.iload_n 1, 1) := by decide +kernel
theorem dX9_join_1 : decode cX9_join 1 = .ok (.ifCond .lt 19, 3) := by decide +kernel
theorem dX9_join_4 : decode cX9_join 4 = .ok (.iload_n 1, 1) := by decide +kernel
theorem dX9_join_5 : decode cX9_join 5 = .ok (.bipush 26, 2) := by decide +kernel
theorem dX9_join_7 : decode cX9_join 7 = .ok (.if_icmp .ge 13, 3) := by decide +kernel
theorem dX9_join_10 : decode cX9_join 10 = .ok (.iload_n 2, 1) := by decide +kernel
theorem dX9_join_11 : decode cX9_join 11 = .ok (.ifCond .lt 9, 3) := by decide +kernel
theorem dX9_join_14 : decode cX9_join 14 = .ok (.iload_n 2, 1) := by decide +kernel
theorem dX9_join_15 : decode cX9_join 15 = .ok (.bipush 26, 2) := by decide +kernel
theorem dX9_join_17 : decode cX9_join 17 = .ok (.if_icmp .lt 4, 3) := by decide +kernel
theorem dX9_join_20 : decode cX9_join 20 = .ok (.return_, 1) := by decide +kernel
theorem dX9_join_21 : decode cX9_join 21 = .ok (.aload_n 0, 1) := by decide +kernel
theorem dX9_join_22 : decode cX9_join 22 = .ok (.getfield 9, 3) := by decide +kernel
theorem dX9_join_25 : decode cX9_join 25 = .ok (.iload_n 2, 1) := by decide +kernel
theorem dX9_join_26 : decode cX9_join 26 = .ok (.iaload, 1) := by decide +kernel
theorem dX9_join_27 : decode cX9_join 27 = .ok (.istore_n 3, 1) := by decide +kernel
theorem dX9_join_28 : decode cX9_join 28 = .ok (.aload_n 0, 1) := by decide +kernel
theorem dX9_join_29 : decode cX9_join 29 = .ok (.getfield 9, 3) := by decide +kernel
theorem dX9_join_32 : decode cX9_join 32 = .ok (.iload_n 1, 1) := by decide +kernel
theorem dX9_join_33 : decode cX9_join 33 = .ok (.iaload, 1) := by decide +kernel
theorem dX9_join_34 : decode cX9_join 34 = .ok (.istore 4, 2) := by decide +kernel
theorem dX9_join_36 : decode cX9_join 36 = .ok (.iconst 0, 1) := by decide +kernel
theorem dX9_join_37 : decode cX9_join 37 = .ok (.istore 5, 2) := by decide +kernel
theorem dX9_join_39 : decode cX9_join 39 = .ok (.iload 5, 2) := by decide +kernel
theorem dX9_join_41 : decode cX9_join 41 = .ok (.bipush 26, 2) := by decide +kernel
theorem dX9_join_43 : decode cX9_join 43 = .ok (.if_icmp .ge 29, 3) := by decide +kernel
theorem dX9_join_46 : decode cX9_join 46 = .ok (.aload_n 0, 1) := by decide +kernel
theorem dX9_join_47 : decode cX9_join 47 = .ok (.getfield 9, 3) := by decide +kernel
theorem dX9_join_50 : decode cX9_join 50 = .ok (.iload 5, 2) := by decide +kernel
theorem dX9_join_52 : decode cX9_join 52 = .ok (.iaload, 1) := by decide +kernel
theorem dX9_join_53 : decode cX9_join 53 = .ok (.iload_n 3, 1) := by decide +kernel
theorem dX9_join_54 : decode cX9_join 54 = .ok (.if_icmp .ne 12, 3) := by decide +kernel
theorem dX9_join_57 : decode cX9_join 57 = .ok (.aload_n 0, 1) := by decide +kernel
theorem dX9_join_58 : decode cX9_join 58 = .ok (.getfield 9, 3) := by decide +kernel
theorem dX9_join_61 : decode cX9_join 61 = .ok (.iload 5, 2) := by decide +kernel
theorem dX9_join_63 : decode cX9_join 63 = .ok (.iload 4, 2) := by decide +kernel
theorem dX9_join_65 : decode cX9_join 65 = .ok (.iastore, 1) := by decide +kernel
theorem dX9_join_66 : decode cX9_join 66 = .ok (.iinc 5 1, 3) := by decide +kernel
theorem dX9_join_69 : decode cX9_join 69 = .ok (.goto (-30), 3) := by decide +kernel
theorem dX9_join_72 : decode cX9_join 72 = .ok (.return_, 1) := by decide +kernel
theorem dX9_distance_0 : decode cX9_distance 0 = .ok (.iconst 0, 1) := by decide +kernel
theorem dX9_distance_1 : decode cX9_distance 1 = .ok (.istore_n 3, 1) := by decide +kernel
theorem dX9_distance_2 : decode cX9_distance 2 = .ok (.iload_n 3, 1) := by decide +kernel
theorem dX9_distance_3 : decode cX9_distance 3 = .ok (.aload_n 2, 1) := by decide +kernel
theorem dX9_distance_4 : decode cX9_distance 4 = .ok (.getfield 18, 3) := by decide +kernel
theorem dX9_distance_7 : decode cX9_distance 7 = .ok (.if_icmp .gt 18, 3) := by decide +kernel
theorem dX9_distance_10 : decode cX9_distance 10 = .ok (.aload_n 0, 1) := by decide +kernel
theorem dX9_distance_11 : decode cX9_distance 11 = .ok (.getfield 15, 3) := by decide +kernel
theorem dX9_distance_14 : decode cX9_distance 14 = .ok (.iload_n 3, 1) := by decide +kernel
theorem dX9_distance_15 : decode cX9_distance 15 = .ok (.iconst 2, 1) := by decide +kernel
theorem dX9_distance_16 : decode cX9_distance 16 = .ok (.iload_n 3, 1) := by decide +kernel
theorem dX9_distance_17 : decode cX9_distance 17 = .ok (.imul, 1) := by decide +kernel
theorem dX9_distance_18 : decode cX9_distance 18 = .ok (.iastore, 1) := by decide +kernel
theorem dX9_distance_19 : decode cX9_distance 19 = .ok (.iinc 3 1, 3) := by decide +kernel
theorem dX9_distance_22 : decode cX9_distance 22 = .ok (.goto (-20), 3) := by decide +kernel
theorem dX9_distance_25 : decode cX9_distance 25 = .ok (.iconst 0, 1) := by decide +kernel
theorem dX9_distance_26 : decode cX9_distance 26 = .ok (.istore_n 3, 1) := by decide +kernel
theorem dX9_distance_27 : decode cX9_distance 27 = .ok (.iload_n 3, 1) := by decide +kernel
theorem dX9_distance_28 : decode cX9_distance 28 = .ok (.aload_n 1, 1) := by decide +kernel
theorem dX9_distance_29 : decode cX9_distance 29 = .ok (.getfield 18, 3) := by decide +kernel
theorem dX9_distance_32 : decode cX9_distance 32 = .ok (.if_icmp .ge 111, 3) := by decide +kernel
theorem dX9_distance_35 : decode cX9_distance 35 = .ok (.aload_n 0, 1) := by decide +kernel
theorem dX9_distance_36 : decode cX9_distance 36 = .ok (.getfield 15, 3) := by decide +kernel
theorem dX9_distance_39 : decode cX9_distance 39 = .ok (.iconst 0, 1) := by decide +kernel
theorem dX9_distance_40 : decode cX9_distance 40 = .ok (.iaload, 1) := by decide +kernel
theorem dX9_distance_41 : decode cX9_distance 41 = .ok (.istore 4, 2) := by decide +kernel
theorem dX9_distance_43 : decode cX9_distance 43 = .ok (.aload_n 0, 1) := by decide +kernel
theorem dX9_distance_44 : decode cX9_distance 44 = .ok (.getfield 15, 3) := by decide +kernel
theorem dX9_distance_47 : decode cX9_distance 47 = .ok (.iconst 0, 1) := by decide +kernel
theorem dX9_distance_48 : decode cX9_distance 48 = .ok (.dup2, 1) := by decide +kernel
theorem dX9_distance_49 : decode cX9_distance 49 = .ok (.iaload, 1) := by decide +kernel
theorem dX9_distance_50 : decode cX9_distance 50 = .ok (.iconst 2, 1) := by decide +kernel
theorem dX9_distance_51 : decode cX9_distance 51 = .ok (.iadd, 1) := by decide +kernel
theorem dX9_distance_52 : decode cX9_distance 52 = .ok (.iastore, 1) := by decide +kernel
theorem dX9_distance_53 : decode cX9_distance 53 = .ok (.iconst 1, 1) := by decide +kernel
theorem dX9_distance_54 : decode cX9_distance 54 = .ok (.istore 5, 2) := by decide +kernel
theorem dX9_distance_56 : decode cX9_distance 56 = .ok (.iload 5, 2) := by decide +kernel
theorem dX9_distance_58 : decode cX9_distance 58 = .ok (.aload_n 2, 1) := by decide +kernel
theorem dX9_distance_59 : decode cX9_distance 59 = .ok (.getfield 18, 3) := by decide +kernel
theorem dX9_distance_62 : decode cX9_distance 62 = .ok (.if_icmp .gt 75, 3) := by decide +kernel
theorem dX9_distance_65 : decode cX9_distance 65 = .ok (.iload 4, 2) := by decide +kernel
theorem dX9_distance_67 : decode cX9_distance 67 = .ok (.aload_n 0, 1) := by decide +kernel
theorem dX9_distance_68 : decode cX9_distance 68 = .ok (.aload_n 1, 1) := by decide +kernel
theorem dX9_distance_69 : decode cX9_distance 69 = .ok (.getfield 24, 3) := by decide +kernel
theorem dX9_distance_72 : decode cX9_distance 72 = .ok (.iload_n 3, 1) := by decide +kernel
theorem dX9_distance_73 : decode cX9_distance 73 = .ok (.iaload, 1) := by decide +kernel
theorem dX9_distance_74 : decode cX9_distance 74 = .ok (.aload_n 2, 1) := by decide +kernel
theorem dX9_distance_75 : decode cX9_distance 75 = .ok (.getfield 24, 3) := by decide +kernel
theorem dX9_distance_78 : decode cX9_distance 78 = .ok (.iload 5, 2) := by decide +kernel
theorem dX9_distance_80 : decode cX9_distance 80 = .ok (.iconst 1, 1) := by decide +kernel
theorem dX9_distance_81 : decode cX9_distance 81 = .ok (.isub, 1) := by decide +kernel
theorem dX9_distance_82 : decode cX9_distance 82 = .ok (.iaload, 1) := by decide +kernel
theorem dX9_distance_83 : decode cX9_distance 83 = .ok (.invokevirtual 27, 3) := by decide +kernel
theorem dX9_distance_86 : decode cX9_distance 86 = .ok (.iadd, 1) := by decide +kernel
theorem dX9_distance_87 : decode cX9_distance 87 = .ok (.istore 6, 2) := by decide +kernel
theorem dX9_distance_89 : decode cX9_distance 89 = .ok (.aload_n 0, 1) := by decide +kernel
theorem dX9_distance_90 : decode cX9_distance 90 = .ok (.getfield 15, 3) := by decide +kernel
theorem dX9_distance_93 : decode cX9_distance 93 = .ok (.iload 5, 2) := by decide +kernel
theorem dX9_distance_95 : decode cX9_distance 95 = .ok (.iaload, 1) := by decide +kernel
theorem dX9_distance_96 : decode cX9_distance 96 = .ok (.istore 4, 2) := by decide +kernel
theorem dX9_distance_98 : decode cX9_distance 98 = .ok (.aload_n 0, 1) := by decide +kernel
theorem dX9_distance_99 : decode cX9_distance 99 = .ok (.getfield 15, 3) := by decide +kernel
theorem dX9_distance_102 : decode cX9_distance 102 = .ok (.iload 5, 2) := by decide +kernel
theorem dX9_distance_104 : decode cX9_distance 104 = .ok (.iload 6, 2) := by decide +kernel
theorem dX9_distance_106 : decode cX9_distance 106 = .ok (.iconst 2, 1) := by decide +kernel
theorem dX9_distance_107 : decode cX9_distance 107 = .ok (.aload_n 0, 1) := by decide +kernel
theorem dX9_distance_108 : decode cX9_distance 108 = .ok (.getfield 15, 3) := by decide +kernel
theorem dX9_distance_111 : decode cX9_distance 111 = .ok (.iload 5, 2) := by decide +kernel
theorem dX9_distance_113 : decode cX9_distance 113 = .ok (.iaload, 1) := by decide +kernel
theorem dX9_distance_114 : decode cX9_distance 114 = .ok (.aload_n 0, 1) := by decide +kernel
theorem dX9_distance_115 : decode cX9_distance 115 = .ok (.getfield 15, 3) := by decide +kernel
theorem dX9_distance_118 : decode cX9_distance 118 = .ok (.iload 5, 2) := by decide +kernel
theorem dX9_distance_120 : decode cX9_distance 120 = .ok (.iconst 1, 1) := by decide +kernel
theorem dX9_distance_121 : decode cX9_distance 121 = .ok (.isub, 1) := by decide +kernel
theorem dX9_distance_122 : decode cX9_distance 122 = .ok (.iaload, 1) := by decide +kernel
theorem dX9_distance_123 : decode cX9_distance 123 = .ok (.invokestatic 31, 3) := by decide +kernel
theorem dX9_distance_126 : decode cX9_distance 126 = .ok (.iadd, 1) := by decide +kernel
theorem dX9_distance_127 : decode cX9_distance 127 = .ok (.invokestatic 31, 3) := by decide +kernel
theorem dX9_distance_130 : decode cX9_distance 130 = .ok (.iastore, 1) := by decide +kernel
theorem dX9_distance_131 : decode cX9_distance 131 = .ok (.iinc 5 1, 3) := by decide +kernel
theorem dX9_distance_134 : decode cX9_distance 134 = .ok (.goto (-78), 3) := by decide +kernel
theorem dX9_distance_137 : decode cX9_distance 137 = .ok (.iinc 3 1, 3) := by decide +kernel
theorem dX9_distance_140 : decode cX9_distance 140 = .ok (.goto (-113), 3) := by decide +kernel
theorem dX9_distance_143 : decode cX9_distance 143 = .ok (.aload_n 0, 1) := by decide +kernel
theorem dX9_distance_144 : decode cX9_distance 144 = .ok (.getfield 15, 3) := by decide +kernel
theorem dX9_distance_147 : decode cX9_distance 147 = .ok (.aload_n 2, 1) := by decide +kernel
theorem dX9_distance_148 : decode cX9_distance 148 = .ok (.getfield 18, 3) := by decide +kernel
theorem dX9_distance_151 : decode cX9_distance 151 = .ok (.iaload, 1) := by decide +kernel
theorem dX9_distance_152 : decode cX9_distance 152 = .ok (.ireturn, 1) := by decide +kernel
theorem dX9_swapCost_0 : decode cX9_swapCost 0 = .ok (.iload_n 1, 1) := by decide +kernel
theorem dX9_swapCost_1 : decode cX9_swapCost 1 = .ok (.iload_n 2, 1) := by decide +kernel
theorem dX9_swapCost_2 : decode cX9_swapCost 2 = .ok (.if_icmp .ne 5, 3) := by decide +kernel
theorem dX9_swapCost_5 : decode cX9_swapCost 5 = .ok (.iconst 0, 1) := by decide +kernel
theorem dX9_swapCost_6 : decode cX9_swapCost 6 = .ok (.ireturn, 1) := by decide +kernel
theorem dX9_swapCost_7 : decode cX9_swapCost 7 = .ok (.aload_n 0, 1) := by decide +kernel
theorem dX9_swapCost_8 : decode cX9_swapCost 8 = .ok (.iload_n 1, 1) := by decide +kernel
theorem dX9_swapCost_9 : decode cX9_swapCost 9 = .ok (.bipush 97, 2) := by decide +kernel
theorem dX9_swapCost_11 : decode cX9_swapCost 11 = .ok (.isub, 1) := by decide +kernel
theorem dX9_swapCost_12 : decode cX9_swapCost 12 = .ok (.iload_n 2, 1) := by decide +kernel
theorem dX9_swapCost_13 : decode cX9_swapCost 13 = .ok (.bipush 97, 2) := by decide +kernel
theorem dX9_swapCost_15 : decode cX9_swapCost 15 = .ok (.isub, 1) := by decide +kernel
theorem dX9_swapCost_16 : decode cX9_swapCost 16 = .ok (.invokevirtual 36, 3) := by decide +kernel
theorem dX9_swapCost_19 : decode cX9_swapCost 19 = .ok (.ifCond .eq 7, 3) := by decide +kernel
theorem dX9_swapCost_22 : decode cX9_swapCost 22 = .ok (.iconst 1, 1) := by decide +kernel
theorem dX9_swapCost_23 : decode cX9_swapCost 23 = .ok (.goto 4, 3) := by decide +kernel
theorem dX9_swapCost_26 : decode cX9_swapCost 26 = .ok (.iconst 3, 1) := by decide +kernel
theorem dX9_swapCost_27 : decode cX9_swapCost 27 = .ok (.ireturn, 1) := by decide +kernel
theorem dX10_init_0 : decode cX10_init 0 = .ok (.aload_n 0, 1) := by decide +kernel
theorem dX10_init_1 : decode cX10_init 1 = .ok (.invokespecial 3, 3) := by decide +kernel
theorem dX10_init_4 : decode cX10_init 4 = .ok (.aload_n 0, 1) := by decide +kernel
theorem dX10_init_5 : decode cX10_init 5 = .ok (.sipush 200, 3) := by decide +kernel
theorem dX10_init_8 : decode cX10_init 8 = .ok (.newarray .int, 2) := by decide +kernel
theorem dX10_init_10 : decode cX10_init 10 = .ok (.putfield 9, 3) := by decide +kernel
theorem dX10_init_13 : decode cX10_init 13 = .ok (.return_, 1) := by decide +kernel
theorem dX10_addFour_0 : decode cX10_addFour 0 = .ok (.bipush 24, 2) := by decide +kernel
theorem dX10_addFour_2 : decode cX10_addFour 2 = .ok (.istore_n 2, 1) := by decide +kernel
theorem dX10_addFour_3 : decode cX10_addFour 3 = .ok (.iload_n 2, 1) := by decide +kernel
theorem dX10_addFour_4 : decode cX10_addFour 4 = .ok (.ifCond .lt 54, 3) := by decide +kernel
theorem dX10_addFour_7 : decode cX10_addFour 7 = .ok (.aload_n 0, 1) := by decide +kernel
theorem dX10_addFour_8 : decode cX10_addFour 8 = .ok (.getfield 15, 3) := by decide +kernel
theorem dX10_addFour_11 : decode cX10_addFour 11 = .ok (.ifCond .lt 41, 3) := by decide +kernel
theorem dX10_addFour_14 : decode cX10_addFour 14 = .ok (.aload_n 0, 1) := by decide +kernel
theorem dX10_addFour_15 : decode cX10_addFour 15 = .ok (.getfield 15, 3) := by decide +kernel
theorem dX10_addFour_18 : decode cX10_addFour 18 = .ok (.aload_n 0, 1) := by decide +kernel
theorem dX10_addFour_19 : decode cX10_addFour 19 = .ok (.getfield 9, 3) := by decide +kernel
theorem dX10_addFour_22 : decode cX10_addFour 22 = .ok (.arraylength, 1) := by decide +kernel
theorem dX10_addFour_23 : decode cX10_addFour 23 = .ok (.if_icmp .ge 29, 3) := by decide +kernel
theorem dX10_addFour_26 : decode cX10_addFour 26 = .ok (.aload_n 0, 1) := by decide +kernel
theorem dX10_addFour_27 : decode cX10_addFour 27 = .ok (.getfield 9, 3) := by decide +kernel
theorem dX10_addFour_30 : decode cX10_addFour 30 = .ok (.aload_n 0, 1) := by decide +kernel
theorem dX10_addFour_31 : decode cX10_addFour 31 = .ok (.getfield 15, 3) := by decide +kernel
theorem dX10_addFour_34 : decode cX10_addFour 34 = .ok (.iload_n 1, 1) := by decide +kernel
theorem dX10_addFour_35 : decode cX10_addFour 35 = .ok (.iload_n 2, 1) := by decide +kernel
theorem dX10_addFour_36 : decode cX10_addFour 36 = .ok (.iushr, 1) := by decide +kernel
theorem dX10_addFour_37 : decode cX10_addFour 37 = .ok (.sipush 255, 3) := by decide +kernel
theorem dX10_addFour_40 : decode cX10_addFour 40 = .ok (.iand, 1) := by decide +kernel
theorem dX10_addFour_41 : decode cX10_addFour 41 = .ok (.iastore, 1) := by decide +kernel
theorem dX10_addFour_42 : decode cX10_addFour 42 = .ok (.aload_n 0, 1) := by decide +kernel
theorem dX10_addFour_43 : decode cX10_addFour 43 = .ok (.dup, 1) := by decide +kernel
theorem dX10_addFour_44 : decode cX10_addFour 44 = .ok (.getfield 15, 3) := by decide +kernel
theorem dX10_addFour_47 : decode cX10_addFour 47 = .ok (.iconst 1, 1) := by decide +kernel
theorem dX10_addFour_48 : decode cX10_addFour 48 = .ok (.iadd, 1) := by decide +kernel
theorem dX10_addFour_49 : decode cX10_addFour 49 = .ok (.putfield 15, 3) := by decide +kernel
theorem dX10_addFour_52 : decode cX10_addFour 52 = .ok (.iinc 2 (-8), 3) := by decide +kernel
theorem dX10_addFour_55 : decode cX10_addFour 55 = .ok (.goto (-52), 3) := by decide +kernel
theorem dX10_addFour_58 : decode cX10_addFour 58 = .ok (.return_, 1) := by decide +kernel
theorem dX10_isBlank_0 : decode cX10_isBlank 0 = .ok (.iload_n 1, 1) := by decide +kernel
theorem dX10_isBlank_1 : decode cX10_isBlank 1 = .ok (.ifCond .lt 37, 3) := by decide +kernel
theorem dX10_isBlank_4 : decode cX10_isBlank 4 = .ok (.iload_n 1, 1) := by decide +kernel
theorem dX10_isBlank_5 : decode cX10_isBlank 5 = .ok (.aload_n 0, 1) := by decide +kernel
theorem dX10_isBlank_6 : decode cX10_isBlank 6 = .ok (.getfield 15, 3) := by decide +kernel
theorem dX10_isBlank_9 : decode cX10_isBlank 9 = .ok (.if_icmp .ge 29, 3) := by decide +kernel
theorem dX10_isBlank_12 : decode cX10_isBlank 12 = .ok (.aload_n 0, 1) := by decide +kernel
theorem dX10_isBlank_13 : decode cX10_isBlank 13 = .ok (.getfield 9, 3) := by decide +kernel
theorem dX10_isBlank_16 : decode cX10_isBlank 16 = .ok (.iload_n 1, 1) := by decide +kernel
theorem dX10_isBlank_17 : decode cX10_isBlank 17 = .ok (.iaload, 1) := by decide +kernel
theorem dX10_isBlank_18 : decode cX10_isBlank 18 = .ok (.bipush 32, 2) := by decide +kernel
theorem dX10_isBlank_20 : decode cX10_isBlank 20 = .ok (.if_icmp .eq 14, 3) := by decide +kernel
theorem dX10_isBlank_23 : decode cX10_isBlank 23 = .ok (.aload_n 0, 1) := by decide +kernel
theorem dX10_isBlank_24 : decode cX10_isBlank 24 = .ok (.getfield 9, 3) := by decide +kernel
theorem dX10_isBlank_27 : decode cX10_isBlank 27 = .ok (.iload_n 1, 1) := by decide +kernel
theorem dX10_isBlank_28 : decode cX10_isBlank 28 = .ok (.iaload, 1) := by decide +kernel
theorem dX10_isBlank_29 : decode cX10_isBlank 29 = .ok (.bipush 10, 2) := by decide +kernel
theorem dX10_isBlank_31 : decode cX10_isBlank 31 = .ok (.if_icmp .ne 7, 3) := by decide +kernel
theorem dX10_isBlank_34 : decode cX10_isBlank 34 = .ok (.iconst 1, 1) := by decide +kernel
theorem dX10_isBlank_35 : decode cX10_isBlank 35 = .ok (.goto 4, 3) := by decide +kernel
theorem dX10_isBlank_38 : decode cX10_isBlank 38 = .ok (.iconst 0, 1) := by decide +kernel
theorem dX10_isBlank_39 : decode cX10_isBlank 39 = .ok (.ireturn, 1) := by decide +kernel
theorem dX10_isName_0 : decode cX10_isName 0 = .ok (.aload_n 0, 1) := by decide +kernel
theorem dX10_isName_1 : decode cX10_isName 1 = .ok (.getfield 15, 3) := by decide +kernel
theorem dX10_isName_4 : decode cX10_isName 4 = .ok (.iconst 1, 1) := by decide +kernel
theorem dX10_isName_5 : decode cX10_isName 5 = .ok (.if_icmp .lt 28, 3) := by decide +kernel
theorem dX10_isName_8 : decode cX10_isName 8 = .ok (.aload_n 0, 1) := by decide +kernel
theorem dX10_isName_9 : decode cX10_isName 9 = .ok (.getfield 15, 3) := by decide +kernel
theorem dX10_isName_12 : decode cX10_isName 12 = .ok (.bipush 8, 2) := by decide +kernel
theorem dX10_isName_14 : decode cX10_isName 14 = .ok (.if_icmp .gt 19, 3) := by decide +kernel
theorem dX10_isName_17 : decode cX10_isName 17 = .ok (.aload_n 0, 1) := by decide +kernel
theorem dX10_isName_18 : decode cX10_isName 18 = .ok (.iconst 0, 1) := by decide +kernel
theorem dX10_isName_19 : decode cX10_isName 19 = .ok (.invokevirtual 19, 3) := by decide +kernel
theorem dX10_isName_22 : decode cX10_isName 22 = .ok (.aload_n 0, 1) := by decide +kernel
theorem dX10_isName_23 : decode cX10_isName 23 = .ok (.getfield 15, 3) := by decide +kernel
theorem dX10_isName_26 : decode cX10_isName 26 = .ok (.if_icmp .ne 7, 3) := by decide +kernel
theorem dX10_isName_29 : decode cX10_isName 29 = .ok (.iconst 1, 1) := by decide +kernel
theorem dX10_isName_30 : decode cX10_isName 30 = .ok (.goto 4, 3) := by decide +kernel
theorem dX10_isName_33 : decode cX10_isName 33 = .ok (.iconst 0, 1) := by decide +kernel
theorem dX10_isName_34 : decode cX10_isName 34 = .ok (.ireturn, 1) := by decide +kernel
theorem dX10_lettersFrom_0 : decode cX10_lettersFrom 0 = .ok (.iload_n 1, 1) := by decide +kernel
theorem dX10_lettersFrom_1 : decode cX10_lettersFrom 1 = .ok (.istore_n 2, 1) := by decide +kernel
theorem dX10_lettersFrom_2 : decode cX10_lettersFrom 2 = .ok (.iload_n 2, 1) := by decide +kernel
theorem dX10_lettersFrom_3 : decode cX10_lettersFrom 3 = .ok (.ifCond .lt 39, 3) := by decide +kernel
theorem dX10_lettersFrom_6 : decode cX10_lettersFrom 6 = .ok (.iload_n 2, 1) := by decide +kernel
theorem dX10_lettersFrom_7 : decode cX10_lettersFrom 7 = .ok (.aload_n 0, 1) := by decide +kernel
theorem dX10_lettersFrom_8 : decode cX10_lettersFrom 8 = .ok (.getfield 15, 3) := by decide +kernel
theorem dX10_lettersFrom_11 : decode cX10_lettersFrom 11 = .ok (.if_icmp .ge 31, 3) := by decide +kernel
theorem dX10_lettersFrom_14 : decode cX10_lettersFrom 14 = .ok (.aload_n 0, 1) := by decide +kernel
theorem dX10_lettersFrom_15 : decode cX10_lettersFrom 15 = .ok (.getfield 9, 3) := by decide +kernel
theorem dX10_lettersFrom_18 : decode cX10_lettersFrom 18 = .ok (.iload_n 2, 1) := by decide +kernel
theorem dX10_lettersFrom_19 : decode cX10_lettersFrom 19 = .ok (.iaload, 1) := by decide +kernel
theorem dX10_lettersFrom_20 : decode cX10_lettersFrom 20 = .ok (.bipush 97, 2) := by decide +kernel
theorem dX10_lettersFrom_22 : decode cX10_lettersFrom 22 = .ok (.if_icmp .lt 20, 3) := by decide +kernel
theorem dX10_lettersFrom_25 : decode cX10_lettersFrom 25 = .ok (.aload_n 0, 1) := by decide +kernel
theorem dX10_lettersFrom_26 : decode cX10_lettersFrom 26 = .ok (.getfield 9, 3) := by decide +kernel
theorem dX10_lettersFrom_29 : decode cX10_lettersFrom 29 = .ok (.iload_n 2, 1) := by decide +kernel
theorem dX10_lettersFrom_30 : decode cX10_lettersFrom 30 = .ok (.iaload, 1) := by decide +kernel
theorem dX10_lettersFrom_31 : decode cX10_lettersFrom 31 = .ok (.bipush 122, 2) := by decide +kernel
theorem dX10_lettersFrom_33 : decode cX10_lettersFrom 33 = .ok (.if_icmp .gt 9, 3) := by decide +kernel
theorem dX10_lettersFrom_36 : decode cX10_lettersFrom 36 = .ok (.iinc 2 1, 3) := by decide +kernel
theorem dX10_lettersFrom_39 : decode cX10_lettersFrom 39 = .ok (.goto (-37), 3) := by decide +kernel
theorem dX10_lettersFrom_42 : decode cX10_lettersFrom 42 = .ok (.iload_n 2, 1) := by decide +kernel
theorem dX10_lettersFrom_43 : decode cX10_lettersFrom 43 = .ok (.iload_n 1, 1) := by decide +kernel
theorem dX10_lettersFrom_44 : decode cX10_lettersFrom 44 = .ok (.isub, 1) := by decide +kernel
theorem dX10_lettersFrom_45 : decode cX10_lettersFrom 45 = .ok (.ireturn, 1) := by decide +kernel
theorem dX10_signsFrom_0 : decode cX10_signsFrom 0 = .ok (.iload_n 1, 1) := by decide +kernel
theorem dX10_signsFrom_1 : decode cX10_signsFrom 1 = .ok (.istore_n 2, 1) := by decide +kernel
theorem dX10_signsFrom_2 : decode cX10_signsFrom 2 = .ok (.iload_n 2, 1) := by decide +kernel
theorem dX10_signsFrom_3 : decode cX10_signsFrom 3 = .ok (.ifCond .lt 29, 3) := by decide +kernel
theorem dX10_signsFrom_6 : decode cX10_signsFrom 6 = .ok (.iload_n 2, 1) := by decide +kernel
theorem dX10_signsFrom_7 : decode cX10_signsFrom 7 = .ok (.aload_n 0, 1) := by decide +kernel
theorem dX10_signsFrom_8 : decode cX10_signsFrom 8 = .ok (.getfield 15, 3) := by decide +kernel
theorem dX10_signsFrom_11 : decode cX10_signsFrom 11 = .ok (.if_icmp .ge 21, 3) := by decide +kernel
theorem dX10_signsFrom_14 : decode cX10_signsFrom 14 = .ok (.aload_n 0, 1) := by decide +kernel
theorem dX10_signsFrom_15 : decode cX10_signsFrom 15 = .ok (.getfield 9, 3) := by decide +kernel
theorem dX10_signsFrom_18 : decode cX10_signsFrom 18 = .ok (.iload_n 2, 1) := by decide +kernel
theorem dX10_signsFrom_19 : decode cX10_signsFrom 19 = .ok (.iaload, 1) := by decide +kernel
theorem dX10_signsFrom_20 : decode cX10_signsFrom 20 = .ok (.invokestatic 23, 3) := by decide +kernel
theorem dX10_signsFrom_23 : decode cX10_signsFrom 23 = .ok (.ifCond .eq 9, 3) := by decide +kernel
theorem dX10_signsFrom_26 : decode cX10_signsFrom 26 = .ok (.iinc 2 1, 3) := by decide +kernel
theorem dX10_signsFrom_29 : decode cX10_signsFrom 29 = .ok (.goto (-27), 3) := by decide +kernel
theorem dX10_signsFrom_32 : decode cX10_signsFrom 32 = .ok (.iload_n 2, 1) := by decide +kernel
theorem dX10_signsFrom_33 : decode cX10_signsFrom 33 = .ok (.iload_n 1, 1) := by decide +kernel
theorem dX10_signsFrom_34 : decode cX10_signsFrom 34 = .ok (.isub, 1) := by decide +kernel
theorem dX10_signsFrom_35 : decode cX10_signsFrom 35 = .ok (.ireturn, 1) := by decide +kernel
theorem dX10_signOf_0 : decode cX10_signOf 0 = .ok (.iload_n 0, 1) := by decide +kernel
theorem dX10_signOf_1 : decode cX10_signOf 1 = .ok (.lookupswitch 51 #[(73, 43), (76, 49), (86, 45), (88, 47)], 43) := by decide +kernel
theorem dX10_signOf_44 : decode cX10_signOf 44 = .ok (.iconst 1, 1) := by decide +kernel
theorem dX10_signOf_45 : decode cX10_signOf 45 = .ok (.ireturn, 1) := by decide +kernel
theorem dX10_signOf_46 : decode cX10_signOf 46 = .ok (.iconst 2, 1) := by decide +kernel
theorem dX10_signOf_47 : decode cX10_signOf 47 = .ok (.ireturn, 1) := by decide +kernel
theorem dX10_signOf_48 : decode cX10_signOf 48 = .ok (.iconst 3, 1) := by decide +kernel
theorem dX10_signOf_49 : decode cX10_signOf 49 = .ok (.ireturn, 1) := by decide +kernel
theorem dX10_signOf_50 : decode cX10_signOf 50 = .ok (.iconst 4, 1) := by decide +kernel
theorem dX10_signOf_51 : decode cX10_signOf 51 = .ok (.ireturn, 1) := by decide +kernel
theorem dX10_signOf_52 : decode cX10_signOf 52 = .ok (.iconst 0, 1) := by decide +kernel
theorem dX10_signOf_53 : decode cX10_signOf 53 = .ok (.ireturn, 1) := by decide +kernel
theorem dJ9_abs_0f7a4_0 : decode cJ9_abs_0f7a4 0 = .ok (.iload_n 0, 1) := by decide +kernel
theorem dJ9_abs_0f7a4_1 : decode cJ9_abs_0f7a4 1 = .ok (.ifCond .ge 8, 3) := by decide +kernel
theorem dJ9_abs_0f7a4_4 : decode cJ9_abs_0f7a4 4 = .ok (.iload_n 0, 1) := by decide +kernel
theorem dJ9_abs_0f7a4_5 : decode cJ9_abs_0f7a4 5 = .ok (.ineg, 1) := by decide +kernel
theorem dJ9_abs_0f7a4_6 : decode cJ9_abs_0f7a4 6 = .ok (.goto 4, 3) := by decide +kernel
theorem dJ9_abs_0f7a4_9 : decode cJ9_abs_0f7a4 9 = .ok (.iload_n 0, 1) := by decide +kernel
theorem dJ9_abs_0f7a4_10 : decode cJ9_abs_0f7a4 10 = .ok (.ireturn, 1) := by decide +kernel
theorem dJ9_max_7cf53_0 : decode cJ9_max_7cf53 0 = .ok (.iload_n 0, 1) := by decide +kernel
theorem dJ9_max_7cf53_1 : decode cJ9_max_7cf53 1 = .ok (.iload_n 1, 1) := by decide +kernel
theorem dJ9_max_7cf53_2 : decode cJ9_max_7cf53 2 = .ok (.if_icmp .lt 7, 3) := by decide +kernel
theorem dJ9_max_7cf53_5 : decode cJ9_max_7cf53 5 = .ok (.iload_n 0, 1) := by decide +kernel
theorem dJ9_max_7cf53_6 : decode cJ9_max_7cf53 6 = .ok (.goto 4, 3) := by decide +kernel
theorem dJ9_max_7cf53_9 : decode cJ9_max_7cf53 9 = .ok (.iload_n 1, 1) := by decide +kernel
theorem dJ9_max_7cf53_10 : decode cJ9_max_7cf53 10 = .ok (.ireturn, 1) := by decide +kernel
theorem dJ9_min_7cf53_0 : decode cJ9_min_7cf53 0 = .ok (.iload_n 0, 1) := by decide +kernel
theorem dJ9_min_7cf53_1 : decode cJ9_min_7cf53 1 = .ok (.iload_n 1, 1) := by decide +kernel
theorem dJ9_min_7cf53_2 : decode cJ9_min_7cf53 2 = .ok (.if_icmp .gt 7, 3) := by decide +kernel
theorem dJ9_min_7cf53_5 : decode cJ9_min_7cf53 5 = .ok (.iload_n 0, 1) := by decide +kernel
theorem dJ9_min_7cf53_6 : decode cJ9_min_7cf53 6 = .ok (.goto 4, 3) := by decide +kernel
theorem dJ9_min_7cf53_9 : decode cJ9_min_7cf53 9 = .ok (.iload_n 1, 1) := by decide +kernel
theorem dJ9_min_7cf53_10 : decode cJ9_min_7cf53 10 = .ok (.ireturn, 1) := by decide +kernel
