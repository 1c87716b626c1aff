theorem dX5_init_0 : decode cX5_init 0 = .ok (.aload_n 0, 1) := by decide +kernel
theorem dX5_init_1 : decode cX5_init 1 = .ok (.invokespecial 3, 3) := by decide +kernel
theorem dX5_init_4 : decode cX5_init 4 = .ok (.aload_n 0, 1) := by decide +kernel
theorem dX5_init_5 : decode cX5_init 5 = .ok (.bipush 10, 2) := by decide +kernel
theorem dX5_init_7 : decode cX5_init 7 = .ok (.sipush 601, 3) := by decide +kernel
theorem dX5_init_10 : decode cX5_init 10 = .ok (.multianewarray 9 2, 4) := by decide +kernel
theorem dX5_init_14 : decode cX5_init 14 = .ok (.putfield 11, 3) := by decide +kernel
theorem dX5_init_17 : decode cX5_init 17 = .ok (.aload_n 0, 1) := by decide +kernel
theorem dX5_init_18 : decode cX5_init 18 = .ok (.bipush 10, 2) := by decide +kernel
theorem dX5_init_20 : decode cX5_init 20 = .ok (.sipush 601, 3) := by decide +kernel
theorem dX5_init_23 : decode cX5_init 23 = .ok (.multianewarray 9 2, 4) := by decide +kernel
theorem dX5_init_27 : decode cX5_init 27 = .ok (.putfield 16, 3) := by decide +kernel
theorem dX5_init_30 : decode cX5_init 30 = .ok (.aload_n 0, 1) := by decide +kernel
theorem dX5_init_31 : decode cX5_init 31 = .ok (.sipush 601, 3) := by decide +kernel
theorem dX5_init_34 : decode cX5_init 34 = .ok (.newarray .int, 2) := by decide +kernel
theorem dX5_init_36 : decode cX5_init 36 = .ok (.putfield 19, 3) := by decide +kernel
theorem dX5_init_39 : decode cX5_init 39 = .ok (.aload_n 0, 1) := by decide +kernel
theorem dX5_init_40 : decode cX5_init 40 = .ok (.sipush 12621, 3) := by decide +kernel
theorem dX5_init_43 : decode cX5_init 43 = .ok (.newarray .long, 2) := by decide +kernel
theorem dX5_init_45 : decode cX5_init 45 = .ok (.putfield 23, 3) := by decide +kernel
theorem dX5_init_48 : decode cX5_init 48 = .ok (.aload_n 0, 1) := by decide +kernel
theorem dX5_init_49 : decode cX5_init 49 = .ok (.bipush 10, 2) := by decide +kernel
theorem dX5_init_51 : decode cX5_init 51 = .ok (.anewarray 27, 3) := by decide +kernel
theorem dX5_init_54 : decode cX5_init 54 = .ok (.putfield 29, 3) := by decide +kernel
theorem dX5_init_57 : decode cX5_init 57 = .ok (.aload_n 0, 1) := by decide +kernel
theorem dX5_init_58 : decode cX5_init 58 = .ok (.new 27, 3) := by decide +kernel
theorem dX5_init_61 : decode cX5_init 61 = .ok (.dup, 1) := by decide +kernel
theorem dX5_init_62 : decode cX5_init 62 = .ok (.invokespecial 33, 3) := by decide +kernel
theorem dX5_init_65 : decode cX5_init 65 = .ok (.putfield 34, 3) := by decide +kernel
theorem dX5_init_68 : decode cX5_init 68 = .ok (.aload_n 0, 1) := by decide +kernel
theorem dX5_init_69 : decode cX5_init 69 = .ok (.bipush 10, 2) := by decide +kernel
theorem dX5_init_71 : decode cX5_init 71 = .ok (.newarray .int, 2) := by decide +kernel
theorem dX5_init_73 : decode cX5_init 73 = .ok (.putfield 38, 3) := by decide +kernel
theorem dX5_init_76 : decode cX5_init 76 = .ok (.iconst 0, 1) := by decide +kernel
theorem dX5_init_77 : decode cX5_init 77 = .ok (.istore_n 1, 1) := by decide +kernel
theorem dX5_init_78 : decode cX5_init 78 = .ok (.iload_n 1, 1) := by decide +kernel
theorem dX5_init_79 : decode cX5_init 79 = .ok (.bipush 10, 2) := by decide +kernel
theorem dX5_init_81 : decode cX5_init 81 = .ok (.if_icmp .ge 22, 3) := by decide +kernel
theorem dX5_init_84 : decode cX5_init 84 = .ok (.aload_n 0, 1) := by decide +kernel
theorem dX5_init_85 : decode cX5_init 85 = .ok (.getfield 29, 3) := by decide +kernel
theorem dX5_init_88 : decode cX5_init 88 = .ok (.iload_n 1, 1) := by decide +kernel
theorem dX5_init_89 : decode cX5_init 89 = .ok (.new 27, 3) := by decide +kernel
theorem dX5_init_92 : decode cX5_init 92 = .ok (.dup, 1) := by decide +kernel
theorem dX5_init_93 : decode cX5_init 93 = .ok (.invokespecial 33, 3) := by decide +kernel
theorem dX5_init_96 : decode cX5_init 96 = .ok (.aastore, 1) := by decide +kernel
theorem dX5_init_97 : decode cX5_init 97 = .ok (.iinc 1 1, 3) := by decide +kernel
theorem dX5_init_100 : decode cX5_init 100 = .ok (.goto (-22), 3) := by decide +kernel
theorem dX5_init_103 : decode cX5_init 103 = .ok (.return_, 1) := by decide +kernel
theorem dX5_costOfValue_0 : decode cX5_costOfValue 0 = .ok (.aload_n 0, 1) := by decide +kernel
theorem dX5_costOfValue_1 : decode cX5_costOfValue 1 = .ok (.getfield 34, 3) := by decide +kernel
theorem dX5_costOfValue_4 : decode cX5_costOfValue 4 = .ok (.aload_n 1, 1) := by decide +kernel
theorem dX5_costOfValue_5 : decode cX5_costOfValue 5 = .ok (.aload_n 2, 1) := by decide +kernel
theorem dX5_costOfValue_6 : decode cX5_costOfValue 6 = .ok (.invokevirtual 41, 3) := by decide +kernel
theorem dX5_costOfValue_9 : decode cX5_costOfValue 9 = .ok (.aload_n 0, 1) := by decide +kernel
theorem dX5_costOfValue_10 : decode cX5_costOfValue 10 = .ok (.getfield 34, 3) := by decide +kernel
theorem dX5_costOfValue_13 : decode cX5_costOfValue 13 = .ok (.iload_n 3, 1) := by decide +kernel
theorem dX5_costOfValue_14 : decode cX5_costOfValue 14 = .ok (.invokevirtual 45, 3) := by decide +kernel
theorem dX5_costOfValue_17 : decode cX5_costOfValue 17 = .ok (.ireturn, 1) := by decide +kernel
theorem dX5_takeRoute_0 : decode cX5_takeRoute 0 = .ok (.aload_n 0, 1) := by decide +kernel
theorem dX5_takeRoute_1 : decode cX5_takeRoute 1 = .ok (.aload_n 1, 1) := by decide +kernel
theorem dX5_takeRoute_2 : decode cX5_takeRoute 2 = .ok (.getfield 49, 3) := by decide +kernel
theorem dX5_takeRoute_5 : decode cX5_takeRoute 5 = .ok (.bipush 10, 2) := by decide +kernel
theorem dX5_takeRoute_7 : decode cX5_takeRoute 7 = .ok (.invokestatic 55, 3) := by decide +kernel
theorem dX5_takeRoute_10 : decode cX5_takeRoute 10 = .ok (.putfield 61, 3) := by decide +kernel
theorem dX5_takeRoute_13 : decode cX5_takeRoute 13 = .ok (.aload_n 0, 1) := by decide +kernel
theorem dX5_takeRoute_14 : decode cX5_takeRoute 14 = .ok (.aload_n 1, 1) := by decide +kernel
theorem dX5_takeRoute_15 : decode cX5_takeRoute 15 = .ok (.getfield 62, 3) := by decide +kernel
theorem dX5_takeRoute_18 : decode cX5_takeRoute 18 = .ok (.putfield 65, 3) := by decide +kernel
theorem dX5_takeRoute_21 : decode cX5_takeRoute 21 = .ok (.iconst 0, 1) := by decide +kernel
theorem dX5_takeRoute_22 : decode cX5_takeRoute 22 = .ok (.istore_n 3, 1) := by decide +kernel
theorem dX5_takeRoute_23 : decode cX5_takeRoute 23 = .ok (.iload_n 3, 1) := by decide +kernel
theorem dX5_takeRoute_24 : decode cX5_takeRoute 24 = .ok (.aload_n 0, 1) := by decide +kernel
theorem dX5_takeRoute_25 : decode cX5_takeRoute 25 = .ok (.getfield 61, 3) := by decide +kernel
theorem dX5_takeRoute_28 : decode cX5_takeRoute 28 = .ok (.iconst 1, 1) := by decide +kernel
theorem dX5_takeRoute_29 : decode cX5_takeRoute 29 = .ok (.isub, 1) := by decide +kernel
theorem dX5_takeRoute_30 : decode cX5_takeRoute 30 = .ok (.if_icmp .ge 25, 3) := by decide +kernel
theorem dX5_takeRoute_33 : decode cX5_takeRoute 33 = .ok (.aload_n 0, 1) := by decide +kernel
theorem dX5_takeRoute_34 : decode cX5_takeRoute 34 = .ok (.getfield 29, 3) := by decide +kernel
theorem dX5_takeRoute_37 : decode cX5_takeRoute 37 = .ok (.iload_n 3, 1) := by decide +kernel
theorem dX5_takeRoute_38 : decode cX5_takeRoute 38 = .ok (.aaload, 1) := by decide +kernel
theorem dX5_takeRoute_39 : decode cX5_takeRoute 39 = .ok (.aload_n 1, 1) := by decide +kernel
theorem dX5_takeRoute_40 : decode cX5_takeRoute 40 = .ok (.getfield 66, 3) := by decide +kernel
theorem dX5_takeRoute_43 : decode cX5_takeRoute 43 = .ok (.iload_n 3, 1) := by decide +kernel
theorem dX5_takeRoute_44 : decode cX5_takeRoute 44 = .ok (.aaload, 1) := by decide +kernel
theorem dX5_takeRoute_45 : decode cX5_takeRoute 45 = .ok (.aload_n 2, 1) := by decide +kernel
theorem dX5_takeRoute_46 : decode cX5_takeRoute 46 = .ok (.invokevirtual 41, 3) := by decide +kernel
theorem dX5_takeRoute_49 : decode cX5_takeRoute 49 = .ok (.iinc 3 1, 3) := by decide +kernel
theorem dX5_takeRoute_52 : decode cX5_takeRoute 52 = .ok (.goto (-29), 3) := by decide +kernel
theorem dX5_takeRoute_55 : decode cX5_takeRoute 55 = .ok (.return_, 1) := by decide +kernel
theorem dX5_hasPlacing_0 : decode cX5_hasPlacing 0 = .ok (.aload_n 0, 1) := by decide +kernel
theorem dX5_hasPlacing_1 : decode cX5_hasPlacing 1 = .ok (.getfield 70, 3) := by decide +kernel
theorem dX5_hasPlacing_4 : decode cX5_hasPlacing 4 = .ok (.ldc 73, 2) := by decide +kernel
theorem dX5_hasPlacing_6 : decode cX5_hasPlacing 6 = .ok (.if_icmp .ge 7, 3) := by decide +kernel
theorem dX5_hasPlacing_9 : decode cX5_hasPlacing 9 = .ok (.iconst 1, 1) := by decide +kernel
theorem dX5_hasPlacing_10 : decode cX5_hasPlacing 10 = .ok (.goto 4, 3) := by decide +kernel
theorem dX5_hasPlacing_13 : decode cX5_hasPlacing 13 = .ok (.iconst 0, 1) := by decide +kernel
theorem dX5_hasPlacing_14 : decode cX5_hasPlacing 14 = .ok (.ireturn, 1) := by decide +kernel
theorem dX5_fillRest_0 : decode cX5_fillRest 0 = .ok (.aload_n 0, 1) := by decide +kernel
theorem dX5_fillRest_1 : decode cX5_fillRest 1 = .ok (.getfield 61, 3) := by decide +kernel
theorem dX5_fillRest_4 : decode cX5_fillRest 4 = .ok (.iconst 1, 1) := by decide +kernel
theorem dX5_fillRest_5 : decode cX5_fillRest 5 = .ok (.isub, 1) := by decide +kernel
theorem dX5_fillRest_6 : decode cX5_fillRest 6 = .ok (.istore_n 1, 1) := by decide +kernel
theorem dX5_fillRest_7 : decode cX5_fillRest 7 = .ok (.iload_n 1, 1) := by decide +kernel
theorem dX5_fillRest_8 : decode cX5_fillRest 8 = .ok (.ifCond .lt 74, 3) := by decide +kernel
theorem dX5_fillRest_11 : decode cX5_fillRest 11 = .ok (.iconst 0, 1) := by decide +kernel
theorem dX5_fillRest_12 : decode cX5_fillRest 12 = .ok (.istore_n 2, 1) := by decide +kernel
theorem dX5_fillRest_13 : decode cX5_fillRest 13 = .ok (.iload_n 2, 1) := by decide +kernel
theorem dX5_fillRest_14 : decode cX5_fillRest 14 = .ok (.sipush 601, 3) := by decide +kernel
theorem dX5_fillRest_17 : decode cX5_fillRest 17 = .ok (.if_icmp .ge 59, 3) := by decide +kernel
theorem dX5_fillRest_20 : decode cX5_fillRest 20 = .ok (.iload_n 1, 1) := by decide +kernel
theorem dX5_fillRest_21 : decode cX5_fillRest 21 = .ok (.aload_n 0, 1) := by decide +kernel
theorem dX5_fillRest_22 : decode cX5_fillRest 22 = .ok (.getfield 61, 3) := by decide +kernel
theorem dX5_fillRest_25 : decode cX5_fillRest 25 = .ok (.iconst 1, 1) := by decide +kernel
theorem dX5_fillRest_26 : decode cX5_fillRest 26 = .ok (.isub, 1) := by decide +kernel
theorem dX5_fillRest_27 : decode cX5_fillRest 27 = .ok (.if_icmp .ne 7, 3) := by decide +kernel
theorem dX5_fillRest_30 : decode cX5_fillRest 30 = .ok (.iconst 0, 1) := by decide +kernel
theorem dX5_fillRest_31 : decode cX5_fillRest 31 = .ok (.goto 9, 3) := by decide +kernel
theorem dX5_fillRest_34 : decode cX5_fillRest 34 = .ok (.aload_n 0, 1) := by decide +kernel
theorem dX5_fillRest_35 : decode cX5_fillRest 35 = .ok (.iload_n 1, 1) := by decide +kernel
theorem dX5_fillRest_36 : decode cX5_fillRest 36 = .ok (.iload_n 2, 1) := by decide +kernel
theorem dX5_fillRest_37 : decode cX5_fillRest 37 = .ok (.invokevirtual 74, 3) := by decide +kernel
theorem dX5_fillRest_40 : decode cX5_fillRest 40 = .ok (.istore_n 3, 1) := by decide +kernel
theorem dX5_fillRest_41 : decode cX5_fillRest 41 = .ok (.aload_n 0, 1) := by decide +kernel
theorem dX5_fillRest_42 : decode cX5_fillRest 42 = .ok (.getfield 16, 3) := by decide +kernel
theorem dX5_fillRest_45 : decode cX5_fillRest 45 = .ok (.iload_n 1, 1) := by decide +kernel
theorem dX5_fillRest_46 : decode cX5_fillRest 46 = .ok (.aaload, 1) := by decide +kernel
theorem dX5_fillRest_47 : decode cX5_fillRest 47 = .ok (.iload_n 2, 1) := by decide +kernel
theorem dX5_fillRest_48 : decode cX5_fillRest 48 = .ok (.iload_n 3, 1) := by decide +kernel
theorem dX5_fillRest_49 : decode cX5_fillRest 49 = .ok (.ldc 73, 2) := by decide +kernel
theorem dX5_fillRest_51 : decode cX5_fillRest 51 = .ok (.if_icmp .lt 8, 3) := by decide +kernel
theorem dX5_fillRest_54 : decode cX5_fillRest 54 = .ok (.ldc 73, 2) := by decide +kernel
theorem dX5_fillRest_56 : decode cX5_fillRest 56 = .ok (.goto 13, 3) := by decide +kernel
theorem dX5_fillRest_59 : decode cX5_fillRest 59 = .ok (.aload_n 0, 1) := by decide +kernel
theorem dX5_fillRest_60 : decode cX5_fillRest 60 = .ok (.getfield 11, 3) := by decide +kernel
theorem dX5_fillRest_63 : decode cX5_fillRest 63 = .ok (.iload_n 1, 1) := by decide +kernel
theorem dX5_fillRest_64 : decode cX5_fillRest 64 = .ok (.aaload, 1) := by decide +kernel
theorem dX5_fillRest_65 : decode cX5_fillRest 65 = .ok (.iload_n 2, 1) := by decide +kernel
theorem dX5_fillRest_66 : decode cX5_fillRest 66 = .ok (.iaload, 1) := by decide +kernel
theorem dX5_fillRest_67 : decode cX5_fillRest 67 = .ok (.iload_n 3, 1) := by decide +kernel
theorem dX5_fillRest_68 : decode cX5_fillRest 68 = .ok (.iadd, 1) := by decide +kernel
theorem dX5_fillRest_69 : decode cX5_fillRest 69 = .ok (.iastore, 1) := by decide +kernel
theorem dX5_fillRest_70 : decode cX5_fillRest 70 = .ok (.iinc 2 1, 3) := by decide +kernel
theorem dX5_fillRest_73 : decode cX5_fillRest 73 = .ok (.goto (-60), 3) := by decide +kernel
theorem dX5_fillRest_76 : decode cX5_fillRest 76 = .ok (.iinc 1 (-1), 3) := by decide +kernel
theorem dX5_fillRest_79 : decode cX5_fillRest 79 = .ok (.goto (-72), 3) := by decide +kernel
theorem dX5_fillRest_82 : decode cX5_fillRest 82 = .ok (.aload_n 0, 1) := by decide +kernel
theorem dX5_fillRest_83 : decode cX5_fillRest 83 = .ok (.ldc 73, 2) := by decide +kernel
theorem dX5_fillRest_85 : decode cX5_fillRest 85 = .ok (.putfield 70, 3) := by decide +kernel
theorem dX5_fillRest_88 : decode cX5_fillRest 88 = .ok (.iconst 0, 1) := by decide +kernel
theorem dX5_fillRest_89 : decode cX5_fillRest 89 = .ok (.istore_n 1, 1) := by decide +kernel
theorem dX5_fillRest_90 : decode cX5_fillRest 90 = .ok (.iload_n 1, 1) := by decide +kernel
theorem dX5_fillRest_91 : decode cX5_fillRest 91 = .ok (.sipush 601, 3) := by decide +kernel
theorem dX5_fillRest_94 : decode cX5_fillRest 94 = .ok (.if_icmp .ge 28, 3) := by decide +kernel
theorem dX5_fillRest_97 : decode cX5_fillRest 97 = .ok (.aload_n 0, 1) := by decide +kernel
theorem dX5_fillRest_98 : decode cX5_fillRest 98 = .ok (.aload_n 0, 1) := by decide +kernel
theorem dX5_fillRest_99 : decode cX5_fillRest 99 = .ok (.getfield 70, 3) := by decide +kernel
theorem dX5_fillRest_102 : decode cX5_fillRest 102 = .ok (.aload_n 0, 1) := by decide +kernel
theorem dX5_fillRest_103 : decode cX5_fillRest 103 = .ok (.getfield 16, 3) := by decide +kernel
theorem dX5_fillRest_106 : decode cX5_fillRest 106 = .ok (.iconst 0, 1) := by decide +kernel
theorem dX5_fillRest_107 : decode cX5_fillRest 107 = .ok (.aaload, 1) := by decide +kernel
theorem dX5_fillRest_108 : decode cX5_fillRest 108 = .ok (.iload_n 1, 1) := by decide +kernel
theorem dX5_fillRest_109 : decode cX5_fillRest 109 = .ok (.iaload, 1) := by decide +kernel
theorem dX5_fillRest_110 : decode cX5_fillRest 110 = .ok (.invokestatic 55, 3) := by decide +kernel
theorem dX5_fillRest_113 : decode cX5_fillRest 113 = .ok (.putfield 70, 3) := by decide +kernel
theorem dX5_fillRest_116 : decode cX5_fillRest 116 = .ok (.iinc 1 1, 3) := by decide +kernel
theorem dX5_fillRest_119 : decode cX5_fillRest 119 = .ok (.goto (-29), 3) := by decide +kernel
theorem dX5_fillRest_122 : decode cX5_fillRest 122 = .ok (.return_, 1) := by decide +kernel
theorem dX5_leastOnward_0 : decode cX5_leastOnward 0 = .ok (.ldc 73, 2) := by decide +kernel
theorem dX5_leastOnward_2 : decode cX5_leastOnward 2 = .ok (.istore_n 3, 1) := by decide +kernel
theorem dX5_leastOnward_3 : decode cX5_leastOnward 3 = .ok (.iconst 0, 1) := by decide +kernel
theorem dX5_leastOnward_4 : decode cX5_leastOnward 4 = .ok (.istore 4, 2) := by decide +kernel
theorem dX5_leastOnward_6 : decode cX5_leastOnward 6 = .ok (.iload 4, 2) := by decide +kernel
theorem dX5_leastOnward_8 : decode cX5_leastOnward 8 = .ok (.aload_n 0, 1) := by decide +kernel
theorem dX5_leastOnward_9 : decode cX5_leastOnward 9 = .ok (.getfield 29, 3) := by decide +kernel
theorem dX5_leastOnward_12 : decode cX5_leastOnward 12 = .ok (.iload_n 1, 1) := by decide +kernel
theorem dX5_leastOnward_13 : decode cX5_leastOnward 13 = .ok (.aaload, 1) := by decide +kernel
theorem dX5_leastOnward_14 : decode cX5_leastOnward 14 = .ok (.getfield 77, 3) := by decide +kernel
theorem dX5_leastOnward_17 : decode cX5_leastOnward 17 = .ok (.if_icmp .ge 54, 3) := by decide +kernel
theorem dX5_leastOnward_20 : decode cX5_leastOnward 20 = .ok (.aload_n 0, 1) := by decide +kernel
theorem dX5_leastOnward_21 : decode cX5_leastOnward 21 = .ok (.iload_n 1, 1) := by decide +kernel
theorem dX5_leastOnward_22 : decode cX5_leastOnward 22 = .ok (.iload_n 2, 1) := by decide +kernel
theorem dX5_leastOnward_23 : decode cX5_leastOnward 23 = .ok (.iload 4, 2) := by decide +kernel
theorem dX5_leastOnward_25 : decode cX5_leastOnward 25 = .ok (.invokevirtual 80, 3) := by decide +kernel
theorem dX5_leastOnward_28 : decode cX5_leastOnward 28 = .ok (.istore 5, 2) := by decide +kernel
theorem dX5_leastOnward_30 : decode cX5_leastOnward 30 = .ok (.iload 5, 2) := by decide +kernel
theorem dX5_leastOnward_32 : decode cX5_leastOnward 32 = .ok (.iconst (-1), 1) := by decide +kernel
theorem dX5_leastOnward_33 : decode cX5_leastOnward 33 = .ok (.if_icmp .eq 32, 3) := by decide +kernel
theorem dX5_leastOnward_36 : decode cX5_leastOnward 36 = .ok (.iload_n 3, 1) := by decide +kernel
theorem dX5_leastOnward_37 : decode cX5_leastOnward 37 = .ok (.aload_n 0, 1) := by decide +kernel
theorem dX5_leastOnward_38 : decode cX5_leastOnward 38 = .ok (.getfield 29, 3) := by decide +kernel
theorem dX5_leastOnward_41 : decode cX5_leastOnward 41 = .ok (.iload_n 1, 1) := by decide +kernel
theorem dX5_leastOnward_42 : decode cX5_leastOnward 42 = .ok (.aaload, 1) := by decide +kernel
theorem dX5_leastOnward_43 : decode cX5_leastOnward 43 = .ok (.getfield 84, 3) := by decide +kernel
theorem dX5_leastOnward_46 : decode cX5_leastOnward 46 = .ok (.iload 4, 2) := by decide +kernel
theorem dX5_leastOnward_48 : decode cX5_leastOnward 48 = .ok (.iaload, 1) := by decide +kernel
theorem dX5_leastOnward_49 : decode cX5_leastOnward 49 = .ok (.aload_n 0, 1) := by decide +kernel
theorem dX5_leastOnward_50 : decode cX5_leastOnward 50 = .ok (.getfield 16, 3) := by decide +kernel
theorem dX5_leastOnward_53 : decode cX5_leastOnward 53 = .ok (.iload_n 1, 1) := by decide +kernel
theorem dX5_leastOnward_54 : decode cX5_leastOnward 54 = .ok (.iconst 1, 1) := by decide +kernel
theorem dX5_leastOnward_55 : decode cX5_leastOnward 55 = .ok (.iadd, 1) := by decide +kernel
theorem dX5_leastOnward_56 : decode cX5_leastOnward 56 = .ok (.aaload, 1) := by decide +kernel
theorem dX5_leastOnward_57 : decode cX5_leastOnward 57 = .ok (.iload 5, 2) := by decide +kernel
theorem dX5_leastOnward_59 : decode cX5_leastOnward 59 = .ok (.iaload, 1) := by decide +kernel
theorem dX5_leastOnward_60 : decode cX5_leastOnward 60 = .ok (.iadd, 1) := by decide +kernel
theorem dX5_leastOnward_61 : decode cX5_leastOnward 61 = .ok (.invokestatic 55, 3) := by decide +kernel
theorem dX5_leastOnward_64 : decode cX5_leastOnward 64 = .ok (.istore_n 3, 1) := by decide +kernel
theorem dX5_leastOnward_65 : decode cX5_leastOnward 65 = .ok (.iinc 4 1, 3) := by decide +kernel
theorem dX5_leastOnward_68 : decode cX5_leastOnward 68 = .ok (.goto (-62), 3) := by decide +kernel
theorem dX5_leastOnward_71 : decode cX5_leastOnward 71 = .ok (.iload_n 3, 1) := by decide +kernel
theorem dX5_leastOnward_72 : decode cX5_leastOnward 72 = .ok (.ireturn, 1) := by decide +kernel
theorem dX5_placeBehind_0 : decode cX5_placeBehind 0 = .ok (.iload_n 2, 1) := by decide +kernel
theorem dX5_placeBehind_1 : decode cX5_placeBehind 1 = .ok (.aload_n 0, 1) := by decide +kernel
theorem dX5_placeBehind_2 : decode cX5_placeBehind 2 = .ok (.getfield 65, 3) := by decide +kernel
theorem dX5_placeBehind_5 : decode cX5_placeBehind 5 = .ok (.aload_n 0, 1) := by decide +kernel
theorem dX5_placeBehind_6 : decode cX5_placeBehind 6 = .ok (.getfield 29, 3) := by decide +kernel
theorem dX5_placeBehind_9 : decode cX5_placeBehind 9 = .ok (.iload_n 1, 1) := by decide +kernel
theorem dX5_placeBehind_10 : decode cX5_placeBehind 10 = .ok (.aaload, 1) := by decide +kernel
theorem dX5_placeBehind_11 : decode cX5_placeBehind 11 = .ok (.getfield 87, 3) := by decide +kernel
theorem dX5_placeBehind_14 : decode cX5_placeBehind 14 = .ok (.iload_n 3, 1) := by decide +kernel
theorem dX5_placeBehind_15 : decode cX5_placeBehind 15 = .ok (.iaload, 1) := by decide +kernel
theorem dX5_placeBehind_16 : decode cX5_placeBehind 16 = .ok (.imul, 1) := by decide +kernel
theorem dX5_placeBehind_17 : decode cX5_placeBehind 17 = .ok (.iadd, 1) := by decide +kernel
theorem dX5_placeBehind_18 : decode cX5_placeBehind 18 = .ok (.istore 4, 2) := by decide +kernel
theorem dX5_placeBehind_20 : decode cX5_placeBehind 20 = .ok (.iload 4, 2) := by decide +kernel
theorem dX5_placeBehind_22 : decode cX5_placeBehind 22 = .ok (.iload_n 2, 1) := by decide +kernel
theorem dX5_placeBehind_23 : decode cX5_placeBehind 23 = .ok (.if_icmp .le 16, 3) := by decide +kernel
theorem dX5_placeBehind_26 : decode cX5_placeBehind 26 = .ok (.iload 4, 2) := by decide +kernel
theorem dX5_placeBehind_28 : decode cX5_placeBehind 28 = .ok (.sipush 600, 3) := by decide +kernel
theorem dX5_placeBehind_31 : decode cX5_placeBehind 31 = .ok (.if_icmp .gt 8, 3) := by decide +kernel
theorem dX5_placeBehind_34 : decode cX5_placeBehind 34 = .ok (.iload 4, 2) := by decide +kernel
theorem dX5_placeBehind_36 : decode cX5_placeBehind 36 = .ok (.goto 4, 3) := by decide +kernel
theorem dX5_placeBehind_39 : decode cX5_placeBehind 39 = .ok (.iconst (-1), 1) := by decide +kernel
theorem dX5_placeBehind_40 : decode cX5_placeBehind 40 = .ok (.ireturn, 1) := by decide +kernel
theorem dX5_dearerBy_0 : decode cX5_dearerBy 0 = .ok (.aload_n 0, 1) := by decide +kernel
theorem dX5_dearerBy_1 : decode cX5_dearerBy 1 = .ok (.getfield 11, 3) := by decide +kernel
theorem dX5_dearerBy_4 : decode cX5_dearerBy 4 = .ok (.iload_n 1, 1) := by decide +kernel
theorem dX5_dearerBy_5 : decode cX5_dearerBy 5 = .ok (.aaload, 1) := by decide +kernel
theorem dX5_dearerBy_6 : decode cX5_dearerBy 6 = .ok (.iload_n 2, 1) := by decide +kernel
theorem dX5_dearerBy_7 : decode cX5_dearerBy 7 = .ok (.iaload, 1) := by decide +kernel
theorem dX5_dearerBy_8 : decode cX5_dearerBy 8 = .ok (.aload_n 0, 1) := by decide +kernel
theorem dX5_dearerBy_9 : decode cX5_dearerBy 9 = .ok (.getfield 29, 3) := by decide +kernel
theorem dX5_dearerBy_12 : decode cX5_dearerBy 12 = .ok (.iload_n 1, 1) := by decide +kernel
theorem dX5_dearerBy_13 : decode cX5_dearerBy 13 = .ok (.aaload, 1) := by decide +kernel
theorem dX5_dearerBy_14 : decode cX5_dearerBy 14 = .ok (.getfield 84, 3) := by decide +kernel
theorem dX5_dearerBy_17 : decode cX5_dearerBy 17 = .ok (.iload_n 3, 1) := by decide +kernel
theorem dX5_dearerBy_18 : decode cX5_dearerBy 18 = .ok (.iaload, 1) := by decide +kernel
theorem dX5_dearerBy_19 : decode cX5_dearerBy 19 = .ok (.iadd, 1) := by decide +kernel
theorem dX5_dearerBy_20 : decode cX5_dearerBy 20 = .ok (.aload_n 0, 1) := by decide +kernel
theorem dX5_dearerBy_21 : decode cX5_dearerBy 21 = .ok (.getfield 16, 3) := by decide +kernel
theorem dX5_dearerBy_24 : decode cX5_dearerBy 24 = .ok (.iload_n 1, 1) := by decide +kernel
theorem dX5_dearerBy_25 : decode cX5_dearerBy 25 = .ok (.iconst 1, 1) := by decide +kernel
theorem dX5_dearerBy_26 : decode cX5_dearerBy 26 = .ok (.iadd, 1) := by decide +kernel
theorem dX5_dearerBy_27 : decode cX5_dearerBy 27 = .ok (.aaload, 1) := by decide +kernel
theorem dX5_dearerBy_28 : decode cX5_dearerBy 28 = .ok (.iload 4, 2) := by decide +kernel
theorem dX5_dearerBy_30 : decode cX5_dearerBy 30 = .ok (.iaload, 1) := by decide +kernel
theorem dX5_dearerBy_31 : decode cX5_dearerBy 31 = .ok (.iadd, 1) := by decide +kernel
theorem dX5_dearerBy_32 : decode cX5_dearerBy 32 = .ok (.aload_n 0, 1) := by decide +kernel
theorem dX5_dearerBy_33 : decode cX5_dearerBy 33 = .ok (.getfield 16, 3) := by decide +kernel
theorem dX5_dearerBy_36 : decode cX5_dearerBy 36 = .ok (.iload_n 1, 1) := by decide +kernel
theorem dX5_dearerBy_37 : decode cX5_dearerBy 37 = .ok (.aaload, 1) := by decide +kernel
theorem dX5_dearerBy_38 : decode cX5_dearerBy 38 = .ok (.iload_n 2, 1) := by decide +kernel
theorem dX5_dearerBy_39 : decode cX5_dearerBy 39 = .ok (.iaload, 1) := by decide +kernel
theorem dX5_dearerBy_40 : decode cX5_dearerBy 40 = .ok (.isub, 1) := by decide +kernel
theorem dX5_dearerBy_41 : decode cX5_dearerBy 41 = .ok (.ireturn, 1) := by decide +kernel
theorem dX5_walkBest_0 : decode cX5_walkBest 0 = .ok (.iconst 0, 1) := by decide +kernel
theorem dX5_walkBest_1 : decode cX5_walkBest 1 = .ok (.istore_n 1, 1) := by decide +kernel
theorem dX5_walkBest_2 : decode cX5_walkBest 2 = .ok (.iload_n 1, 1) := by decide +kernel
theorem dX5_walkBest_3 : decode cX5_walkBest 3 = .ok (.sipush 600, 3) := by decide +kernel
theorem dX5_walkBest_6 : decode cX5_walkBest 6 = .ok (.if_icmp .ge 24, 3) := by decide +kernel
theorem dX5_walkBest_9 : decode cX5_walkBest 9 = .ok (.aload_n 0, 1) := by decide +kernel
theorem dX5_walkBest_10 : decode cX5_walkBest 10 = .ok (.getfield 16, 3) := by decide +kernel
theorem dX5_walkBest_13 : decode cX5_walkBest 13 = .ok (.iconst 0, 1) := by decide +kernel
theorem dX5_walkBest_14 : decode cX5_walkBest 14 = .ok (.aaload, 1) := by decide +kernel
theorem dX5_walkBest_15 : decode cX5_walkBest 15 = .ok (.iload_n 1, 1) := by decide +kernel
theorem dX5_walkBest_16 : decode cX5_walkBest 16 = .ok (.iaload, 1) := by decide +kernel
theorem dX5_walkBest_17 : decode cX5_walkBest 17 = .ok (.aload_n 0, 1) := by decide +kernel
theorem dX5_walkBest_18 : decode cX5_walkBest 18 = .ok (.getfield 70, 3) := by decide +kernel
theorem dX5_walkBest_21 : decode cX5_walkBest 21 = .ok (.if_icmp .eq 9, 3) := by decide +kernel
theorem dX5_walkBest_24 : decode cX5_walkBest 24 = .ok (.iinc 1 1, 3) := by decide +kernel
theorem dX5_walkBest_27 : decode cX5_walkBest 27 = .ok (.goto (-25), 3) := by decide +kernel
theorem dX5_walkBest_30 : decode cX5_walkBest 30 = .ok (.aload_n 0, 1) := by decide +kernel
theorem dX5_walkBest_31 : decode cX5_walkBest 31 = .ok (.getfield 38, 3) := by decide +kernel
theorem dX5_walkBest_34 : decode cX5_walkBest 34 = .ok (.iconst 0, 1) := by decide +kernel
theorem dX5_walkBest_35 : decode cX5_walkBest 35 = .ok (.iload_n 1, 1) := by decide +kernel
theorem dX5_walkBest_36 : decode cX5_walkBest 36 = .ok (.iastore, 1) := by decide +kernel
theorem dX5_walkBest_37 : decode cX5_walkBest 37 = .ok (.iconst 0, 1) := by decide +kernel
theorem dX5_walkBest_38 : decode cX5_walkBest 38 = .ok (.istore_n 2, 1) := by decide +kernel
theorem dX5_walkBest_39 : decode cX5_walkBest 39 = .ok (.iload_n 2, 1) := by decide +kernel
theorem dX5_walkBest_40 : decode cX5_walkBest 40 = .ok (.aload_n 0, 1) := by decide +kernel
theorem dX5_walkBest_41 : decode cX5_walkBest 41 = .ok (.getfield 61, 3) := by decide +kernel
theorem dX5_walkBest_44 : decode cX5_walkBest 44 = .ok (.iconst 1, 1) := by decide +kernel
theorem dX5_walkBest_45 : decode cX5_walkBest 45 = .ok (.isub, 1) := by decide +kernel
theorem dX5_walkBest_46 : decode cX5_walkBest 46 = .ok (.if_icmp .ge 25, 3) := by decide +kernel
theorem dX5_walkBest_49 : decode cX5_walkBest 49 = .ok (.aload_n 0, 1) := by decide +kernel
theorem dX5_walkBest_50 : decode cX5_walkBest 50 = .ok (.iload_n 2, 1) := by decide +kernel
theorem dX5_walkBest_51 : decode cX5_walkBest 51 = .ok (.iload_n 1, 1) := by decide +kernel
theorem dX5_walkBest_52 : decode cX5_walkBest 52 = .ok (.invokevirtual 90, 3) := by decide +kernel
theorem dX5_walkBest_55 : decode cX5_walkBest 55 = .ok (.istore_n 1, 1) := by decide +kernel
theorem dX5_walkBest_56 : decode cX5_walkBest 56 = .ok (.aload_n 0, 1) := by decide +kernel
theorem dX5_walkBest_57 : decode cX5_walkBest 57 = .ok (.getfield 38, 3) := by decide +kernel
theorem dX5_walkBest_60 : decode cX5_walkBest 60 = .ok (.iload_n 2, 1) := by decide +kernel
theorem dX5_walkBest_61 : decode cX5_walkBest 61 = .ok (.iconst 1, 1) := by decide +kernel
theorem dX5_walkBest_62 : decode cX5_walkBest 62 = .ok (.iadd, 1) := by decide +kernel
theorem dX5_walkBest_63 : decode cX5_walkBest 63 = .ok (.iload_n 1, 1) := by decide +kernel
theorem dX5_walkBest_64 : decode cX5_walkBest 64 = .ok (.iastore, 1) := by decide +kernel
theorem dX5_walkBest_65 : decode cX5_walkBest 65 = .ok (.iinc 2 1, 3) := by decide +kernel
theorem dX5_walkBest_68 : decode cX5_walkBest 68 = .ok (.goto (-29), 3) := by decide +kernel
theorem dX5_walkBest_71 : decode cX5_walkBest 71 = .ok (.return_, 1) := by decide +kernel
theorem dX5_nextOfBest_0 : decode cX5_nextOfBest 0 = .ok (.sipush 600, 3) := by decide +kernel
theorem dX5_nextOfBest_3 : decode cX5_nextOfBest 3 = .ok (.istore_n 3, 1) := by decide +kernel
theorem dX5_nextOfBest_4 : decode cX5_nextOfBest 4 = .ok (.iconst 0, 1) := by decide +kernel
theorem dX5_nextOfBest_5 : decode cX5_nextOfBest 5 = .ok (.istore 4, 2) := by decide +kernel
theorem dX5_nextOfBest_7 : decode cX5_nextOfBest 7 = .ok (.iload 4, 2) := by decide +kernel
theorem dX5_nextOfBest_9 : decode cX5_nextOfBest 9 = .ok (.aload_n 0, 1) := by decide +kernel
theorem dX5_nextOfBest_10 : decode cX5_nextOfBest 10 = .ok (.getfield 29, 3) := by decide +kernel
theorem dX5_nextOfBest_13 : decode cX5_nextOfBest 13 = .ok (.iload_n 1, 1) := by decide +kernel
theorem dX5_nextOfBest_14 : decode cX5_nextOfBest 14 = .ok (.aaload, 1) := by decide +kernel
theorem dX5_nextOfBest_15 : decode cX5_nextOfBest 15 = .ok (.getfield 77, 3) := by decide +kernel
theorem dX5_nextOfBest_18 : decode cX5_nextOfBest 18 = .ok (.if_icmp .ge 45, 3) := by decide +kernel
theorem dX5_nextOfBest_21 : decode cX5_nextOfBest 21 = .ok (.aload_n 0, 1) := by decide +kernel
theorem dX5_nextOfBest_22 : decode cX5_nextOfBest 22 = .ok (.iload_n 1, 1) := by decide +kernel
theorem dX5_nextOfBest_23 : decode cX5_nextOfBest 23 = .ok (.iload_n 2, 1) := by decide +kernel
theorem dX5_nextOfBest_24 : decode cX5_nextOfBest 24 = .ok (.iload 4, 2) := by decide +kernel
theorem dX5_nextOfBest_26 : decode cX5_nextOfBest 26 = .ok (.invokevirtual 80, 3) := by decide +kernel
theorem dX5_nextOfBest_29 : decode cX5_nextOfBest 29 = .ok (.istore 5, 2) := by decide +kernel
theorem dX5_nextOfBest_31 : decode cX5_nextOfBest 31 = .ok (.iload 5, 2) := by decide +kernel
theorem dX5_nextOfBest_33 : decode cX5_nextOfBest 33 = .ok (.iconst (-1), 1) := by decide +kernel
theorem dX5_nextOfBest_34 : decode cX5_nextOfBest 34 = .ok (.if_icmp .eq 23, 3) := by decide +kernel
theorem dX5_nextOfBest_37 : decode cX5_nextOfBest 37 = .ok (.aload_n 0, 1) := by decide +kernel
theorem dX5_nextOfBest_38 : decode cX5_nextOfBest 38 = .ok (.iload_n 1, 1) := by decide +kernel
theorem dX5_nextOfBest_39 : decode cX5_nextOfBest 39 = .ok (.iload_n 2, 1) := by decide +kernel
theorem dX5_nextOfBest_40 : decode cX5_nextOfBest 40 = .ok (.iload 4, 2) := by decide +kernel
theorem dX5_nextOfBest_42 : decode cX5_nextOfBest 42 = .ok (.iload 5, 2) := by decide +kernel
theorem dX5_nextOfBest_44 : decode cX5_nextOfBest 44 = .ok (.invokevirtual 93, 3) := by decide +kernel
theorem dX5_nextOfBest_47 : decode cX5_nextOfBest 47 = .ok (.ifCond .ne 10, 3) := by decide +kernel
theorem dX5_nextOfBest_50 : decode cX5_nextOfBest 50 = .ok (.iload_n 3, 1) := by decide +kernel
theorem dX5_nextOfBest_51 : decode cX5_nextOfBest 51 = .ok (.iload 5, 2) := by decide +kernel
theorem dX5_nextOfBest_53 : decode cX5_nextOfBest 53 = .ok (.invokestatic 55, 3) := by decide +kernel
theorem dX5_nextOfBest_56 : decode cX5_nextOfBest 56 = .ok (.istore_n 3, 1) := by decide +kernel
theorem dX5_nextOfBest_57 : decode cX5_nextOfBest 57 = .ok (.iinc 4 1, 3) := by decide +kernel
theorem dX5_nextOfBest_60 : decode cX5_nextOfBest 60 = .ok (.goto (-53), 3) := by decide +kernel
theorem dX5_nextOfBest_63 : decode cX5_nextOfBest 63 = .ok (.iload_n 3, 1) := by decide +kernel
theorem dX5_nextOfBest_64 : decode cX5_nextOfBest 64 = .ok (.ireturn, 1) := by decide +kernel
theorem dX5_fillBefore_0 : decode cX5_fillBefore 0 = .ok (.iconst 0, 1) := by decide +kernel
theorem dX5_fillBefore_1 : decode cX5_fillBefore 1 = .ok (.istore_n 2, 1) := by decide +kernel
theorem dX5_fillBefore_2 : decode cX5_fillBefore 2 = .ok (.iload_n 2, 1) := by decide +kernel
theorem dX5_fillBefore_3 : decode cX5_fillBefore 3 = .ok (.sipush 601, 3) := by decide +kernel
theorem dX5_fillBefore_6 : decode cX5_fillBefore 6 = .ok (.if_icmp .ge 16, 3) := by decide +kernel
theorem dX5_fillBefore_9 : decode cX5_fillBefore 9 = .ok (.aload_n 0, 1) := by decide +kernel
theorem dX5_fillBefore_10 : decode cX5_fillBefore 10 = .ok (.getfield 19, 3) := by decide +kernel
theorem dX5_fillBefore_13 : decode cX5_fillBefore 13 = .ok (.iload_n 2, 1) := by decide +kernel
theorem dX5_fillBefore_14 : decode cX5_fillBefore 14 = .ok (.iconst 0, 1) := by decide +kernel
theorem dX5_fillBefore_15 : decode cX5_fillBefore 15 = .ok (.iastore, 1) := by decide +kernel
theorem dX5_fillBefore_16 : decode cX5_fillBefore 16 = .ok (.iinc 2 1, 3) := by decide +kernel
theorem dX5_fillBefore_19 : decode cX5_fillBefore 19 = .ok (.goto (-17), 3) := by decide +kernel
theorem dX5_fillBefore_22 : decode cX5_fillBefore 22 = .ok (.iconst 0, 1) := by decide +kernel
theorem dX5_fillBefore_23 : decode cX5_fillBefore 23 = .ok (.istore_n 2, 1) := by decide +kernel
theorem dX5_fillBefore_24 : decode cX5_fillBefore 24 = .ok (.iload_n 2, 1) := by decide +kernel
theorem dX5_fillBefore_25 : decode cX5_fillBefore 25 = .ok (.iload_n 1, 1) := by decide +kernel
theorem dX5_fillBefore_26 : decode cX5_fillBefore 26 = .ok (.if_icmp .ge 39, 3) := by decide +kernel
theorem dX5_fillBefore_29 : decode cX5_fillBefore 29 = .ok (.iload_n 2, 1) := by decide +kernel
theorem dX5_fillBefore_30 : decode cX5_fillBefore 30 = .ok (.aload_n 0, 1) := by decide +kernel
theorem dX5_fillBefore_31 : decode cX5_fillBefore 31 = .ok (.getfield 61, 3) := by decide +kernel
theorem dX5_fillBefore_34 : decode cX5_fillBefore 34 = .ok (.iconst 1, 1) := by decide +kernel
theorem dX5_fillBefore_35 : decode cX5_fillBefore 35 = .ok (.isub, 1) := by decide +kernel
theorem dX5_fillBefore_36 : decode cX5_fillBefore 36 = .ok (.if_icmp .ge 29, 3) := by decide +kernel
theorem dX5_fillBefore_39 : decode cX5_fillBefore 39 = .ok (.sipush 600, 3) := by decide +kernel
theorem dX5_fillBefore_42 : decode cX5_fillBefore 42 = .ok (.istore_n 3, 1) := by decide +kernel
theorem dX5_fillBefore_43 : decode cX5_fillBefore 43 = .ok (.iload_n 3, 1) := by decide +kernel
theorem dX5_fillBefore_44 : decode cX5_fillBefore 44 = .ok (.ifCond .lt 15, 3) := by decide +kernel
theorem dX5_fillBefore_47 : decode cX5_fillBefore 47 = .ok (.aload_n 0, 1) := by decide +kernel
theorem dX5_fillBefore_48 : decode cX5_fillBefore 48 = .ok (.iload_n 2, 1) := by decide +kernel
theorem dX5_fillBefore_49 : decode cX5_fillBefore 49 = .ok (.iload_n 3, 1) := by decide +kernel
theorem dX5_fillBefore_50 : decode cX5_fillBefore 50 = .ok (.invokevirtual 97, 3) := by decide +kernel
theorem dX5_fillBefore_53 : decode cX5_fillBefore 53 = .ok (.iinc 3 (-1), 3) := by decide +kernel
theorem dX5_fillBefore_56 : decode cX5_fillBefore 56 = .ok (.goto (-13), 3) := by decide +kernel
theorem dX5_fillBefore_59 : decode cX5_fillBefore 59 = .ok (.iinc 2 1, 3) := by decide +kernel
theorem dX5_fillBefore_62 : decode cX5_fillBefore 62 = .ok (.goto (-38), 3) := by decide +kernel
theorem dX5_fillBefore_65 : decode cX5_fillBefore 65 = .ok (.return_, 1) := by decide +kernel
theorem dX5_stepBefore_0 : decode cX5_stepBefore 0 = .ok (.aload_n 0, 1) := by decide +kernel
theorem dX5_stepBefore_1 : decode cX5_stepBefore 1 = .ok (.getfield 19, 3) := by decide +kernel
theorem dX5_stepBefore_4 : decode cX5_stepBefore 4 = .ok (.iload_n 2, 1) := by decide +kernel
theorem dX5_stepBefore_5 : decode cX5_stepBefore 5 = .ok (.iaload, 1) := by decide +kernel
theorem dX5_stepBefore_6 : decode cX5_stepBefore 6 = .ok (.aload_n 0, 1) := by decide +kernel
theorem dX5_stepBefore_7 : decode cX5_stepBefore 7 = .ok (.getfield 11, 3) := by decide +kernel
theorem dX5_stepBefore_10 : decode cX5_stepBefore 10 = .ok (.iload_n 1, 1) := by decide +kernel
theorem dX5_stepBefore_11 : decode cX5_stepBefore 11 = .ok (.aaload, 1) := by decide +kernel
theorem dX5_stepBefore_12 : decode cX5_stepBefore 12 = .ok (.iload_n 2, 1) := by decide +kernel
theorem dX5_stepBefore_13 : decode cX5_stepBefore 13 = .ok (.iaload, 1) := by decide +kernel
theorem dX5_stepBefore_14 : decode cX5_stepBefore 14 = .ok (.iadd, 1) := by decide +kernel
theorem dX5_stepBefore_15 : decode cX5_stepBefore 15 = .ok (.istore_n 3, 1) := by decide +kernel
theorem dX5_stepBefore_16 : decode cX5_stepBefore 16 = .ok (.aload_n 0, 1) := by decide +kernel
theorem dX5_stepBefore_17 : decode cX5_stepBefore 17 = .ok (.getfield 19, 3) := by decide +kernel
theorem dX5_stepBefore_20 : decode cX5_stepBefore 20 = .ok (.iload_n 2, 1) := by decide +kernel
theorem dX5_stepBefore_21 : decode cX5_stepBefore 21 = .ok (.ldc 73, 2) := by decide +kernel
theorem dX5_stepBefore_23 : decode cX5_stepBefore 23 = .ok (.iastore, 1) := by decide +kernel
theorem dX5_stepBefore_24 : decode cX5_stepBefore 24 = .ok (.iload_n 3, 1) := by decide +kernel
theorem dX5_stepBefore_25 : decode cX5_stepBefore 25 = .ok (.ldc 73, 2) := by decide +kernel
theorem dX5_stepBefore_27 : decode cX5_stepBefore 27 = .ok (.if_icmp .lt 4, 3) := by decide +kernel
theorem dX5_stepBefore_30 : decode cX5_stepBefore 30 = .ok (.return_, 1) := by decide +kernel
theorem dX5_stepBefore_31 : decode cX5_stepBefore 31 = .ok (.iconst 0, 1) := by decide +kernel
theorem dX5_stepBefore_32 : decode cX5_stepBefore 32 = .ok (.istore 4, 2) := by decide +kernel
theorem dX5_stepBefore_34 : decode cX5_stepBefore 34 = .ok (.iload 4, 2) := by decide +kernel
theorem dX5_stepBefore_36 : decode cX5_stepBefore 36 = .ok (.aload_n 0, 1) := by decide +kernel
theorem dX5_stepBefore_37 : decode cX5_stepBefore 37 = .ok (.getfield 29, 3) := by decide +kernel
theorem dX5_stepBefore_40 : decode cX5_stepBefore 40 = .ok (.iload_n 1, 1) := by decide +kernel
theorem dX5_stepBefore_41 : decode cX5_stepBefore 41 = .ok (.aaload, 1) := by decide +kernel
theorem dX5_stepBefore_42 : decode cX5_stepBefore 42 = .ok (.getfield 77, 3) := by decide +kernel
theorem dX5_stepBefore_45 : decode cX5_stepBefore 45 = .ok (.if_icmp .ge 56, 3) := by decide +kernel
theorem dX5_stepBefore_48 : decode cX5_stepBefore 48 = .ok (.aload_n 0, 1) := by decide +kernel
theorem dX5_stepBefore_49 : decode cX5_stepBefore 49 = .ok (.iload_n 1, 1) := by decide +kernel
theorem dX5_stepBefore_50 : decode cX5_stepBefore 50 = .ok (.iload_n 2, 1) := by decide +kernel
theorem dX5_stepBefore_51 : decode cX5_stepBefore 51 = .ok (.iload 4, 2) := by decide +kernel
theorem dX5_stepBefore_53 : decode cX5_stepBefore 53 = .ok (.invokevirtual 80, 3) := by decide +kernel
theorem dX5_stepBefore_56 : decode cX5_stepBefore 56 = .ok (.istore 5, 2) := by decide +kernel
theorem dX5_stepBefore_58 : decode cX5_stepBefore 58 = .ok (.iload 5, 2) := by decide +kernel
theorem dX5_stepBefore_60 : decode cX5_stepBefore 60 = .ok (.iconst (-1), 1) := by decide +kernel
theorem dX5_stepBefore_61 : decode cX5_stepBefore 61 = .ok (.if_icmp .eq 34, 3) := by decide +kernel
theorem dX5_stepBefore_64 : decode cX5_stepBefore 64 = .ok (.aload_n 0, 1) := by decide +kernel
theorem dX5_stepBefore_65 : decode cX5_stepBefore 65 = .ok (.getfield 19, 3) := by decide +kernel
theorem dX5_stepBefore_68 : decode cX5_stepBefore 68 = .ok (.iload 5, 2) := by decide +kernel
theorem dX5_stepBefore_70 : decode cX5_stepBefore 70 = .ok (.aload_n 0, 1) := by decide +kernel
theorem dX5_stepBefore_71 : decode cX5_stepBefore 71 = .ok (.getfield 19, 3) := by decide +kernel
theorem dX5_stepBefore_74 : decode cX5_stepBefore 74 = .ok (.iload 5, 2) := by decide +kernel
theorem dX5_stepBefore_76 : decode cX5_stepBefore 76 = .ok (.iaload, 1) := by decide +kernel
theorem dX5_stepBefore_77 : decode cX5_stepBefore 77 = .ok (.iload_n 3, 1) := by decide +kernel
theorem dX5_stepBefore_78 : decode cX5_stepBefore 78 = .ok (.aload_n 0, 1) := by decide +kernel
theorem dX5_stepBefore_79 : decode cX5_stepBefore 79 = .ok (.getfield 29, 3) := by decide +kernel
theorem dX5_stepBefore_82 : decode cX5_stepBefore 82 = .ok (.iload_n 1, 1) := by decide +kernel
theorem dX5_stepBefore_83 : decode cX5_stepBefore 83 = .ok (.aaload, 1) := by decide +kernel
theorem dX5_stepBefore_84 : decode cX5_stepBefore 84 = .ok (.getfield 84, 3) := by decide +kernel
theorem dX5_stepBefore_87 : decode cX5_stepBefore 87 = .ok (.iload 4, 2) := by decide +kernel
theorem dX5_stepBefore_89 : decode cX5_stepBefore 89 = .ok (.iaload, 1) := by decide +kernel
theorem dX5_stepBefore_90 : decode cX5_stepBefore 90 = .ok (.iadd, 1) := by decide +kernel
theorem dX5_stepBefore_91 : decode cX5_stepBefore 91 = .ok (.invokestatic 55, 3) := by decide +kernel
theorem dX5_stepBefore_94 : decode cX5_stepBefore 94 = .ok (.iastore, 1) := by decide +kernel
theorem dX5_stepBefore_95 : decode cX5_stepBefore 95 = .ok (.iinc 4 1, 3) := by decide +kernel
theorem dX5_stepBefore_98 : decode cX5_stepBefore 98 = .ok (.goto (-64), 3) := by decide +kernel
theorem dX5_stepBefore_101 : decode cX5_stepBefore 101 = .ok (.return_, 1) := by decide +kernel
theorem dX5_leastPlace_0 : decode cX5_leastPlace 0 = .ok (.iconst 0, 1) := by decide +kernel
theorem dX5_leastPlace_1 : decode cX5_leastPlace 1 = .ok (.istore_n 3, 1) := by decide +kernel
theorem dX5_leastPlace_2 : decode cX5_leastPlace 2 = .ok (.iload_n 3, 1) := by decide +kernel
theorem dX5_leastPlace_3 : decode cX5_leastPlace 3 = .ok (.sipush 601, 3) := by decide +kernel
theorem dX5_leastPlace_6 : decode cX5_leastPlace 6 = .ok (.if_icmp .ge 21, 3) := by decide +kernel
theorem dX5_leastPlace_9 : decode cX5_leastPlace 9 = .ok (.aload_n 0, 1) := by decide +kernel
theorem dX5_leastPlace_10 : decode cX5_leastPlace 10 = .ok (.iload_n 1, 1) := by decide +kernel
theorem dX5_leastPlace_11 : decode cX5_leastPlace 11 = .ok (.iload_n 3, 1) := by decide +kernel
theorem dX5_leastPlace_12 : decode cX5_leastPlace 12 = .ok (.iload_n 2, 1) := by decide +kernel
theorem dX5_leastPlace_13 : decode cX5_leastPlace 13 = .ok (.invokevirtual 101, 3) := by decide +kernel
theorem dX5_leastPlace_16 : decode cX5_leastPlace 16 = .ok (.ifCond .eq 5, 3) := by decide +kernel
theorem dX5_leastPlace_19 : decode cX5_leastPlace 19 = .ok (.iload_n 3, 1) := by decide +kernel
theorem dX5_leastPlace_20 : decode cX5_leastPlace 20 = .ok (.ireturn, 1) := by decide +kernel
theorem dX5_leastPlace_21 : decode cX5_leastPlace 21 = .ok (.iinc 3 1, 3) := by decide +kernel
theorem dX5_leastPlace_24 : decode cX5_leastPlace 24 = .ok (.goto (-22), 3) := by decide +kernel
theorem dX5_leastPlace_27 : decode cX5_leastPlace 27 = .ok (.iconst (-1), 1) := by decide +kernel
theorem dX5_leastPlace_28 : decode cX5_leastPlace 28 = .ok (.ireturn, 1) := by decide +kernel
theorem dX5_greatestPlace_0 : decode cX5_greatestPlace 0 = .ok (.sipush 600, 3) := by decide +kernel
theorem dX5_greatestPlace_3 : decode cX5_greatestPlace 3 = .ok (.istore_n 3, 1) := by decide +kernel
theorem dX5_greatestPlace_4 : decode cX5_greatestPlace 4 = .ok (.iload_n 3, 1) := by decide +kernel
theorem dX5_greatestPlace_5 : decode cX5_greatestPlace 5 = .ok (.ifCond .lt 21, 3) := by decide +kernel
theorem dX5_greatestPlace_8 : decode cX5_greatestPlace 8 = .ok (.aload_n 0, 1) := by decide +kernel
theorem dX5_greatestPlace_9 : decode cX5_greatestPlace 9 = .ok (.iload_n 1, 1) := by decide +kernel
theorem dX5_greatestPlace_10 : decode cX5_greatestPlace 10 = .ok (.iload_n 3, 1) := by decide +kernel
theorem dX5_greatestPlace_11 : decode cX5_greatestPlace 11 = .ok (.iload_n 2, 1) := by decide +kernel
theorem dX5_greatestPlace_12 : decode cX5_greatestPlace 12 = .ok (.invokevirtual 101, 3) := by decide +kernel
theorem dX5_greatestPlace_15 : decode cX5_greatestPlace 15 = .ok (.ifCond .eq 5, 3) := by decide +kernel
theorem dX5_greatestPlace_18 : decode cX5_greatestPlace 18 = .ok (.iload_n 3, 1) := by decide +kernel
theorem dX5_greatestPlace_19 : decode cX5_greatestPlace 19 = .ok (.ireturn, 1) := by decide +kernel
theorem dX5_greatestPlace_20 : decode cX5_greatestPlace 20 = .ok (.iinc 3 (-1), 3) := by decide +kernel
theorem dX5_greatestPlace_23 : decode cX5_greatestPlace 23 = .ok (.goto (-19), 3) := by decide +kernel
theorem dX5_greatestPlace_26 : decode cX5_greatestPlace 26 = .ok (.iconst (-1), 1) := by decide +kernel
theorem dX5_greatestPlace_27 : decode cX5_greatestPlace 27 = .ok (.ireturn, 1) := by decide +kernel
theorem dX5_isRival_0 : decode cX5_isRival 0 = .ok (.aload_n 0, 1) := by decide +kernel
theorem dX5_isRival_1 : decode cX5_isRival 1 = .ok (.getfield 19, 3) := by decide +kernel
theorem dX5_isRival_4 : decode cX5_isRival 4 = .ok (.iload_n 2, 1) := by decide +kernel
theorem dX5_isRival_5 : decode cX5_isRival 5 = .ok (.iaload, 1) := by decide +kernel
theorem dX5_isRival_6 : decode cX5_isRival 6 = .ok (.aload_n 0, 1) := by decide +kernel
theorem dX5_isRival_7 : decode cX5_isRival 7 = .ok (.getfield 16, 3) := by decide +kernel
theorem dX5_isRival_10 : decode cX5_isRival 10 = .ok (.iload_n 1, 1) := by decide +kernel
theorem dX5_isRival_11 : decode cX5_isRival 11 = .ok (.aaload, 1) := by decide +kernel
theorem dX5_isRival_12 : decode cX5_isRival 12 = .ok (.iload_n 2, 1) := by decide +kernel
theorem dX5_isRival_13 : decode cX5_isRival 13 = .ok (.iaload, 1) := by decide +kernel
theorem dX5_isRival_14 : decode cX5_isRival 14 = .ok (.iadd, 1) := by decide +kernel
theorem dX5_isRival_15 : decode cX5_isRival 15 = .ok (.aload_n 0, 1) := by decide +kernel
theorem dX5_isRival_16 : decode cX5_isRival 16 = .ok (.getfield 70, 3) := by decide +kernel
theorem dX5_isRival_19 : decode cX5_isRival 19 = .ok (.iload_n 3, 1) := by decide +kernel
theorem dX5_isRival_20 : decode cX5_isRival 20 = .ok (.iadd, 1) := by decide +kernel
theorem dX5_isRival_21 : decode cX5_isRival 21 = .ok (.if_icmp .gt 7, 3) := by decide +kernel
theorem dX5_isRival_24 : decode cX5_isRival 24 = .ok (.iconst 1, 1) := by decide +kernel
theorem dX5_isRival_25 : decode cX5_isRival 25 = .ok (.goto 4, 3) := by decide +kernel
theorem dX5_isRival_28 : decode cX5_isRival 28 = .ok (.iconst 0, 1) := by decide +kernel
theorem dX5_isRival_29 : decode cX5_isRival 29 = .ok (.ireturn, 1) := by decide +kernel
theorem dX5_countWithin_0 : decode cX5_countWithin 0 = .ok (.aload_n 0, 1) := by decide +kernel
theorem dX5_countWithin_1 : decode cX5_countWithin 1 = .ok (.iload_n 1, 1) := by decide +kernel
theorem dX5_countWithin_2 : decode cX5_countWithin 2 = .ok (.invokevirtual 105, 3) := by decide +kernel
theorem dX5_countWithin_5 : decode cX5_countWithin 5 = .ok (.iconst 0, 1) := by decide +kernel
theorem dX5_countWithin_6 : decode cX5_countWithin 6 = .ok (.istore_n 2, 1) := by decide +kernel
theorem dX5_countWithin_7 : decode cX5_countWithin 7 = .ok (.iload_n 2, 1) := by decide +kernel
theorem dX5_countWithin_8 : decode cX5_countWithin 8 = .ok (.aload_n 0, 1) := by decide +kernel
theorem dX5_countWithin_9 : decode cX5_countWithin 9 = .ok (.getfield 61, 3) := by decide +kernel
theorem dX5_countWithin_12 : decode cX5_countWithin 12 = .ok (.iconst 1, 1) := by decide +kernel
theorem dX5_countWithin_13 : decode cX5_countWithin 13 = .ok (.isub, 1) := by decide +kernel
theorem dX5_countWithin_14 : decode cX5_countWithin 14 = .ok (.if_icmp .ge 39, 3) := by decide +kernel
theorem dX5_countWithin_17 : decode cX5_countWithin 17 = .ok (.sipush 600, 3) := by decide +kernel
theorem dX5_countWithin_20 : decode cX5_countWithin 20 = .ok (.istore_n 3, 1) := by decide +kernel
theorem dX5_countWithin_21 : decode cX5_countWithin 21 = .ok (.iload_n 3, 1) := by decide +kernel
theorem dX5_countWithin_22 : decode cX5_countWithin 22 = .ok (.ifCond .lt 25, 3) := by decide +kernel
theorem dX5_countWithin_25 : decode cX5_countWithin 25 = .ok (.aload_n 0, 1) := by decide +kernel
theorem dX5_countWithin_26 : decode cX5_countWithin 26 = .ok (.iload_n 3, 1) := by decide +kernel
theorem dX5_countWithin_27 : decode cX5_countWithin 27 = .ok (.iload_n 1, 1) := by decide +kernel
theorem dX5_countWithin_28 : decode cX5_countWithin 28 = .ok (.invokevirtual 109, 3) := by decide +kernel
theorem dX5_countWithin_31 : decode cX5_countWithin 31 = .ok (.ifCond .eq 10, 3) := by decide +kernel
theorem dX5_countWithin_34 : decode cX5_countWithin 34 = .ok (.aload_n 0, 1) := by decide +kernel
theorem dX5_countWithin_35 : decode cX5_countWithin 35 = .ok (.iload_n 2, 1) := by decide +kernel
theorem dX5_countWithin_36 : decode cX5_countWithin 36 = .ok (.iload_n 3, 1) := by decide +kernel
theorem dX5_countWithin_37 : decode cX5_countWithin 37 = .ok (.iload_n 1, 1) := by decide +kernel
theorem dX5_countWithin_38 : decode cX5_countWithin 38 = .ok (.invokevirtual 113, 3) := by decide +kernel
theorem dX5_countWithin_41 : decode cX5_countWithin 41 = .ok (.iinc 3 (-1), 3) := by decide +kernel
theorem dX5_countWithin_44 : decode cX5_countWithin 44 = .ok (.goto (-23), 3) := by decide +kernel
theorem dX5_countWithin_47 : decode cX5_countWithin 47 = .ok (.iinc 2 1, 3) := by decide +kernel
theorem dX5_countWithin_50 : decode cX5_countWithin 50 = .ok (.goto (-43), 3) := by decide +kernel
theorem dX5_countWithin_53 : decode cX5_countWithin 53 = .ok (.lconst 0, 1) := by decide +kernel
theorem dX5_countWithin_54 : decode cX5_countWithin 54 = .ok (.lstore_n 2, 1) := by decide +kernel
theorem dX5_countWithin_55 : decode cX5_countWithin 55 = .ok (.iconst 0, 1) := by decide +kernel
theorem dX5_countWithin_56 : decode cX5_countWithin 56 = .ok (.istore 4, 2) := by decide +kernel
theorem dX5_countWithin_58 : decode cX5_countWithin 58 = .ok (.iload 4, 2) := by decide +kernel
theorem dX5_countWithin_60 : decode cX5_countWithin 60 = .ok (.aload_n 0, 1) := by decide +kernel
theorem dX5_countWithin_61 : decode cX5_countWithin 61 = .ok (.getfield 23, 3) := by decide +kernel
theorem dX5_countWithin_64 : decode cX5_countWithin 64 = .ok (.arraylength, 1) := by decide +kernel
theorem dX5_countWithin_65 : decode cX5_countWithin 65 = .ok (.if_icmp .ge 19, 3) := by decide +kernel
theorem dX5_countWithin_68 : decode cX5_countWithin 68 = .ok (.lload_n 2, 1) := by decide +kernel
theorem dX5_countWithin_69 : decode cX5_countWithin 69 = .ok (.aload_n 0, 1) := by decide +kernel
theorem dX5_countWithin_70 : decode cX5_countWithin 70 = .ok (.getfield 23, 3) := by decide +kernel
theorem dX5_countWithin_73 : decode cX5_countWithin 73 = .ok (.iload 4, 2) := by decide +kernel
theorem dX5_countWithin_75 : decode cX5_countWithin 75 = .ok (.laload, 1) := by decide +kernel
theorem dX5_countWithin_76 : decode cX5_countWithin 76 = .ok (.ladd, 1) := by decide +kernel
theorem dX5_countWithin_77 : decode cX5_countWithin 77 = .ok (.lstore_n 2, 1) := by decide +kernel
theorem dX5_countWithin_78 : decode cX5_countWithin 78 = .ok (.iinc 4 1, 3) := by decide +kernel
theorem dX5_countWithin_81 : decode cX5_countWithin 81 = .ok (.goto (-23), 3) := by decide +kernel
theorem dX5_countWithin_84 : decode cX5_countWithin 84 = .ok (.lload_n 2, 1) := by decide +kernel
theorem dX5_countWithin_85 : decode cX5_countWithin 85 = .ok (.lreturn, 1) := by decide +kernel
theorem dX5_startWays_0 : decode cX5_startWays 0 = .ok (.iconst 0, 1) := by decide +kernel
theorem dX5_startWays_1 : decode cX5_startWays 1 = .ok (.istore_n 2, 1) := by decide +kernel
theorem dX5_startWays_2 : decode cX5_startWays 2 = .ok (.iload_n 2, 1) := by decide +kernel
theorem dX5_startWays_3 : decode cX5_startWays 3 = .ok (.aload_n 0, 1) := by decide +kernel
theorem dX5_startWays_4 : decode cX5_startWays 4 = .ok (.getfield 23, 3) := by decide +kernel
theorem dX5_startWays_7 : decode cX5_startWays 7 = .ok (.arraylength, 1) := by decide +kernel
theorem dX5_startWays_8 : decode cX5_startWays 8 = .ok (.if_icmp .ge 16, 3) := by decide +kernel
theorem dX5_startWays_11 : decode cX5_startWays 11 = .ok (.aload_n 0, 1) := by decide +kernel
theorem dX5_startWays_12 : decode cX5_startWays 12 = .ok (.getfield 23, 3) := by decide +kernel
theorem dX5_startWays_15 : decode cX5_startWays 15 = .ok (.iload_n 2, 1) := by decide +kernel
theorem dX5_startWays_16 : decode cX5_startWays 16 = .ok (.lconst 0, 1) := by decide +kernel
theorem dX5_startWays_17 : decode cX5_startWays 17 = .ok (.lastore, 1) := by decide +kernel
theorem dX5_startWays_18 : decode cX5_startWays 18 = .ok (.iinc 2 1, 3) := by decide +kernel
theorem dX5_startWays_21 : decode cX5_startWays 21 = .ok (.goto (-19), 3) := by decide +kernel
theorem dX5_startWays_24 : decode cX5_startWays 24 = .ok (.iconst 0, 1) := by decide +kernel
theorem dX5_startWays_25 : decode cX5_startWays 25 = .ok (.istore_n 2, 1) := by decide +kernel
theorem dX5_startWays_26 : decode cX5_startWays 26 = .ok (.iload_n 2, 1) := by decide +kernel
theorem dX5_startWays_27 : decode cX5_startWays 27 = .ok (.sipush 601, 3) := by decide +kernel
theorem dX5_startWays_30 : decode cX5_startWays 30 = .ok (.if_icmp .ge 50, 3) := by decide +kernel
theorem dX5_startWays_33 : decode cX5_startWays 33 = .ok (.aload_n 0, 1) := by decide +kernel
theorem dX5_startWays_34 : decode cX5_startWays 34 = .ok (.getfield 16, 3) := by decide +kernel
theorem dX5_startWays_37 : decode cX5_startWays 37 = .ok (.iconst 0, 1) := by decide +kernel
theorem dX5_startWays_38 : decode cX5_startWays 38 = .ok (.aaload, 1) := by decide +kernel
theorem dX5_startWays_39 : decode cX5_startWays 39 = .ok (.iload_n 2, 1) := by decide +kernel
theorem dX5_startWays_40 : decode cX5_startWays 40 = .ok (.iaload, 1) := by decide +kernel
theorem dX5_startWays_41 : decode cX5_startWays 41 = .ok (.aload_n 0, 1) := by decide +kernel
theorem dX5_startWays_42 : decode cX5_startWays 42 = .ok (.getfield 70, 3) := by decide +kernel
theorem dX5_startWays_45 : decode cX5_startWays 45 = .ok (.isub, 1) := by decide +kernel
theorem dX5_startWays_46 : decode cX5_startWays 46 = .ok (.istore_n 3, 1) := by decide +kernel
theorem dX5_startWays_47 : decode cX5_startWays 47 = .ok (.iload_n 3, 1) := by decide +kernel
theorem dX5_startWays_48 : decode cX5_startWays 48 = .ok (.ifCond .lt 26, 3) := by decide +kernel
theorem dX5_startWays_51 : decode cX5_startWays 51 = .ok (.iload_n 3, 1) := by decide +kernel
theorem dX5_startWays_52 : decode cX5_startWays 52 = .ok (.iload_n 1, 1) := by decide +kernel
theorem dX5_startWays_53 : decode cX5_startWays 53 = .ok (.if_icmp .gt 21, 3) := by decide +kernel
theorem dX5_startWays_56 : decode cX5_startWays 56 = .ok (.iload_n 3, 1) := by decide +kernel
theorem dX5_startWays_57 : decode cX5_startWays 57 = .ok (.bipush 21, 2) := by decide +kernel
theorem dX5_startWays_59 : decode cX5_startWays 59 = .ok (.if_icmp .ge 15, 3) := by decide +kernel
theorem dX5_startWays_62 : decode cX5_startWays 62 = .ok (.aload_n 0, 1) := by decide +kernel
theorem dX5_startWays_63 : decode cX5_startWays 63 = .ok (.getfield 23, 3) := by decide +kernel
theorem dX5_startWays_66 : decode cX5_startWays 66 = .ok (.iload_n 2, 1) := by decide +kernel
theorem dX5_startWays_67 : decode cX5_startWays 67 = .ok (.bipush 21, 2) := by decide +kernel
theorem dX5_startWays_69 : decode cX5_startWays 69 = .ok (.imul, 1) := by decide +kernel
theorem dX5_startWays_70 : decode cX5_startWays 70 = .ok (.iload_n 3, 1) := by decide +kernel
theorem dX5_startWays_71 : decode cX5_startWays 71 = .ok (.iadd, 1) := by decide +kernel
theorem dX5_startWays_72 : decode cX5_startWays 72 = .ok (.lconst 1, 1) := by decide +kernel
theorem dX5_startWays_73 : decode cX5_startWays 73 = .ok (.lastore, 1) := by decide +kernel
theorem dX5_startWays_74 : decode cX5_startWays 74 = .ok (.iinc 2 1, 3) := by decide +kernel
theorem dX5_startWays_77 : decode cX5_startWays 77 = .ok (.goto (-51), 3) := by decide +kernel
theorem dX5_startWays_80 : decode cX5_startWays 80 = .ok (.return_, 1) := by decide +kernel
theorem dX5_holdsWays_0 : decode cX5_holdsWays 0 = .ok (.iconst 0, 1) := by decide +kernel
theorem dX5_holdsWays_1 : decode cX5_holdsWays 1 = .ok (.istore_n 3, 1) := by decide +kernel
theorem dX5_holdsWays_2 : decode cX5_holdsWays 2 = .ok (.iload_n 3, 1) := by decide +kernel
theorem dX5_holdsWays_3 : decode cX5_holdsWays 3 = .ok (.iload_n 2, 1) := by decide +kernel
theorem dX5_holdsWays_4 : decode cX5_holdsWays 4 = .ok (.if_icmp .gt 33, 3) := by decide +kernel
theorem dX5_holdsWays_7 : decode cX5_holdsWays 7 = .ok (.iload_n 3, 1) := by decide +kernel
theorem dX5_holdsWays_8 : decode cX5_holdsWays 8 = .ok (.bipush 21, 2) := by decide +kernel
theorem dX5_holdsWays_10 : decode cX5_holdsWays 10 = .ok (.if_icmp .ge 27, 3) := by decide +kernel
theorem dX5_holdsWays_13 : decode cX5_holdsWays 13 = .ok (.aload_n 0, 1) := by decide +kernel
theorem dX5_holdsWays_14 : decode cX5_holdsWays 14 = .ok (.getfield 23, 3) := by decide +kernel
theorem dX5_holdsWays_17 : decode cX5_holdsWays 17 = .ok (.iload_n 1, 1) := by decide +kernel
theorem dX5_holdsWays_18 : decode cX5_holdsWays 18 = .ok (.bipush 21, 2) := by decide +kernel
theorem dX5_holdsWays_20 : decode cX5_holdsWays 20 = .ok (.imul, 1) := by decide +kernel
theorem dX5_holdsWays_21 : decode cX5_holdsWays 21 = .ok (.iload_n 3, 1) := by decide +kernel
theorem dX5_holdsWays_22 : decode cX5_holdsWays 22 = .ok (.iadd, 1) := by decide +kernel
theorem dX5_holdsWays_23 : decode cX5_holdsWays 23 = .ok (.laload, 1) := by decide +kernel
theorem dX5_holdsWays_24 : decode cX5_holdsWays 24 = .ok (.lconst 0, 1) := by decide +kernel
theorem dX5_holdsWays_25 : decode cX5_holdsWays 25 = .ok (.lcmp, 1) := by decide +kernel
theorem dX5_holdsWays_26 : decode cX5_holdsWays 26 = .ok (.ifCond .eq 5, 3) := by decide +kernel
theorem dX5_holdsWays_29 : decode cX5_holdsWays 29 = .ok (.iconst 1, 1) := by decide +kernel
theorem dX5_holdsWays_30 : decode cX5_holdsWays 30 = .ok (.ireturn, 1) := by decide +kernel
theorem dX5_holdsWays_31 : decode cX5_holdsWays 31 = .ok (.iinc 3 1, 3) := by decide +kernel
theorem dX5_holdsWays_34 : decode cX5_holdsWays 34 = .ok (.goto (-32), 3) := by decide +kernel
theorem dX5_holdsWays_37 : decode cX5_holdsWays 37 = .ok (.iconst 0, 1) := by decide +kernel
theorem dX5_holdsWays_38 : decode cX5_holdsWays 38 = .ok (.ireturn, 1) := by decide +kernel
theorem dX5_stepWays_0 : decode cX5_stepWays 0 = .ok (.iconst 0, 1) := by decide +kernel
theorem dX5_stepWays_1 : decode cX5_stepWays 1 = .ok (.istore 4, 2) := by decide +kernel
theorem dX5_stepWays_3 : decode cX5_stepWays 3 = .ok (.iload 4, 2) := by decide +kernel
theorem dX5_stepWays_5 : decode cX5_stepWays 5 = .ok (.aload_n 0, 1) := by decide +kernel
theorem dX5_stepWays_6 : decode cX5_stepWays 6 = .ok (.getfield 29, 3) := by decide +kernel
theorem dX5_stepWays_9 : decode cX5_stepWays 9 = .ok (.iload_n 1, 1) := by decide +kernel
theorem dX5_stepWays_10 : decode cX5_stepWays 10 = .ok (.aaload, 1) := by decide +kernel
theorem dX5_stepWays_11 : decode cX5_stepWays 11 = .ok (.getfield 77, 3) := by decide +kernel
theorem dX5_stepWays_14 : decode cX5_stepWays 14 = .ok (.if_icmp .ge 43, 3) := by decide +kernel
theorem dX5_stepWays_17 : decode cX5_stepWays 17 = .ok (.aload_n 0, 1) := by decide +kernel
theorem dX5_stepWays_18 : decode cX5_stepWays 18 = .ok (.iload_n 1, 1) := by decide +kernel
theorem dX5_stepWays_19 : decode cX5_stepWays 19 = .ok (.iload_n 2, 1) := by decide +kernel
theorem dX5_stepWays_20 : decode cX5_stepWays 20 = .ok (.iload 4, 2) := by decide +kernel
theorem dX5_stepWays_22 : decode cX5_stepWays 22 = .ok (.invokevirtual 80, 3) := by decide +kernel
theorem dX5_stepWays_25 : decode cX5_stepWays 25 = .ok (.istore 5, 2) := by decide +kernel
theorem dX5_stepWays_27 : decode cX5_stepWays 27 = .ok (.iload 5, 2) := by decide +kernel
theorem dX5_stepWays_29 : decode cX5_stepWays 29 = .ok (.iconst (-1), 1) := by decide +kernel
theorem dX5_stepWays_30 : decode cX5_stepWays 30 = .ok (.if_icmp .eq 21, 3) := by decide +kernel
theorem dX5_stepWays_33 : decode cX5_stepWays 33 = .ok (.aload_n 0, 1) := by decide +kernel
theorem dX5_stepWays_34 : decode cX5_stepWays 34 = .ok (.iload_n 2, 1) := by decide +kernel
theorem dX5_stepWays_35 : decode cX5_stepWays 35 = .ok (.iload 5, 2) := by decide +kernel
theorem dX5_stepWays_37 : decode cX5_stepWays 37 = .ok (.aload_n 0, 1) := by decide +kernel
theorem dX5_stepWays_38 : decode cX5_stepWays 38 = .ok (.iload_n 1, 1) := by decide +kernel
theorem dX5_stepWays_39 : decode cX5_stepWays 39 = .ok (.iload_n 2, 1) := by decide +kernel
theorem dX5_stepWays_40 : decode cX5_stepWays 40 = .ok (.iload 4, 2) := by decide +kernel
theorem dX5_stepWays_42 : decode cX5_stepWays 42 = .ok (.iload 5, 2) := by decide +kernel
theorem dX5_stepWays_44 : decode cX5_stepWays 44 = .ok (.invokevirtual 93, 3) := by decide +kernel
theorem dX5_stepWays_47 : decode cX5_stepWays 47 = .ok (.iload_n 3, 1) := by decide +kernel
theorem dX5_stepWays_48 : decode cX5_stepWays 48 = .ok (.invokevirtual 117, 3) := by decide +kernel
theorem dX5_stepWays_51 : decode cX5_stepWays 51 = .ok (.iinc 4 1, 3) := by decide +kernel
theorem dX5_stepWays_54 : decode cX5_stepWays 54 = .ok (.goto (-51), 3) := by decide +kernel
theorem dX5_stepWays_57 : decode cX5_stepWays 57 = .ok (.iconst 0, 1) := by decide +kernel
theorem dX5_stepWays_58 : decode cX5_stepWays 58 = .ok (.istore 4, 2) := by decide +kernel
theorem dX5_stepWays_60 : decode cX5_stepWays 60 = .ok (.iload 4, 2) := by decide +kernel
theorem dX5_stepWays_62 : decode cX5_stepWays 62 = .ok (.bipush 21, 2) := by decide +kernel
theorem dX5_stepWays_64 : decode cX5_stepWays 64 = .ok (.if_icmp .ge 22, 3) := by decide +kernel
theorem dX5_stepWays_67 : decode cX5_stepWays 67 = .ok (.aload_n 0, 1) := by decide +kernel
theorem dX5_stepWays_68 : decode cX5_stepWays 68 = .ok (.getfield 23, 3) := by decide +kernel
theorem dX5_stepWays_71 : decode cX5_stepWays 71 = .ok (.iload_n 2, 1) := by decide +kernel
theorem dX5_stepWays_72 : decode cX5_stepWays 72 = .ok (.bipush 21, 2) := by decide +kernel
theorem dX5_stepWays_74 : decode cX5_stepWays 74 = .ok (.imul, 1) := by decide +kernel
theorem dX5_stepWays_75 : decode cX5_stepWays 75 = .ok (.iload 4, 2) := by decide +kernel
theorem dX5_stepWays_77 : decode cX5_stepWays 77 = .ok (.iadd, 1) := by decide +kernel
theorem dX5_stepWays_78 : decode cX5_stepWays 78 = .ok (.lconst 0, 1) := by decide +kernel
theorem dX5_stepWays_79 : decode cX5_stepWays 79 = .ok (.lastore, 1) := by decide +kernel
theorem dX5_stepWays_80 : decode cX5_stepWays 80 = .ok (.iinc 4 1, 3) := by decide +kernel
theorem dX5_stepWays_83 : decode cX5_stepWays 83 = .ok (.goto (-23), 3) := by decide +kernel
theorem dX5_stepWays_86 : decode cX5_stepWays 86 = .ok (.return_, 1) := by decide +kernel
theorem dX5_moveWays_0 : decode cX5_moveWays 0 = .ok (.iload_n 3, 1) := by decide +kernel
theorem dX5_moveWays_1 : decode cX5_moveWays 1 = .ok (.ifCond .ge 4, 3) := by decide +kernel
theorem dX5_moveWays_4 : decode cX5_moveWays 4 = .ok (.return_, 1) := by decide +kernel
theorem dX5_moveWays_5 : decode cX5_moveWays 5 = .ok (.iconst 0, 1) := by decide +kernel
theorem dX5_moveWays_6 : decode cX5_moveWays 6 = .ok (.istore 5, 2) := by decide +kernel
theorem dX5_moveWays_8 : decode cX5_moveWays 8 = .ok (.iload 5, 2) := by decide +kernel
theorem dX5_moveWays_10 : decode cX5_moveWays 10 = .ok (.iload_n 3, 1) := by decide +kernel
theorem dX5_moveWays_11 : decode cX5_moveWays 11 = .ok (.iadd, 1) := by decide +kernel
theorem dX5_moveWays_12 : decode cX5_moveWays 12 = .ok (.iload 4, 2) := by decide +kernel
theorem dX5_moveWays_14 : decode cX5_moveWays 14 = .ok (.if_icmp .gt 47, 3) := by decide +kernel
theorem dX5_moveWays_17 : decode cX5_moveWays 17 = .ok (.iload 5, 2) := by decide +kernel
theorem dX5_moveWays_19 : decode cX5_moveWays 19 = .ok (.iload_n 3, 1) := by decide +kernel
theorem dX5_moveWays_20 : decode cX5_moveWays 20 = .ok (.iadd, 1) := by decide +kernel
theorem dX5_moveWays_21 : decode cX5_moveWays 21 = .ok (.bipush 21, 2) := by decide +kernel
theorem dX5_moveWays_23 : decode cX5_moveWays 23 = .ok (.if_icmp .ge 38, 3) := by decide +kernel
theorem dX5_moveWays_26 : decode cX5_moveWays 26 = .ok (.aload_n 0, 1) := by decide +kernel
theorem dX5_moveWays_27 : decode cX5_moveWays 27 = .ok (.getfield 23, 3) := by decide +kernel
theorem dX5_moveWays_30 : decode cX5_moveWays 30 = .ok (.iload_n 2, 1) := by decide +kernel
theorem dX5_moveWays_31 : decode cX5_moveWays 31 = .ok (.bipush 21, 2) := by decide +kernel
theorem dX5_moveWays_33 : decode cX5_moveWays 33 = .ok (.imul, 1) := by decide +kernel
theorem dX5_moveWays_34 : decode cX5_moveWays 34 = .ok (.iload 5, 2) := by decide +kernel
theorem dX5_moveWays_36 : decode cX5_moveWays 36 = .ok (.iadd, 1) := by decide +kernel
theorem dX5_moveWays_37 : decode cX5_moveWays 37 = .ok (.iload_n 3, 1) := by decide +kernel
theorem dX5_moveWays_38 : decode cX5_moveWays 38 = .ok (.iadd, 1) := by decide +kernel
theorem dX5_moveWays_39 : decode cX5_moveWays 39 = .ok (.dup2, 1) := by decide +kernel
theorem dX5_moveWays_40 : decode cX5_moveWays 40 = .ok (.laload, 1) := by decide +kernel
theorem dX5_moveWays_41 : decode cX5_moveWays 41 = .ok (.aload_n 0, 1) := by decide +kernel
theorem dX5_moveWays_42 : decode cX5_moveWays 42 = .ok (.getfield 23, 3) := by decide +kernel
theorem dX5_moveWays_45 : decode cX5_moveWays 45 = .ok (.iload_n 1, 1) := by decide +kernel
theorem dX5_moveWays_46 : decode cX5_moveWays 46 = .ok (.bipush 21, 2) := by decide +kernel
theorem dX5_moveWays_48 : decode cX5_moveWays 48 = .ok (.imul, 1) := by decide +kernel
theorem dX5_moveWays_49 : decode cX5_moveWays 49 = .ok (.iload 5, 2) := by decide +kernel
theorem dX5_moveWays_51 : decode cX5_moveWays 51 = .ok (.iadd, 1) := by decide +kernel
theorem dX5_moveWays_52 : decode cX5_moveWays 52 = .ok (.laload, 1) := by decide +kernel
theorem dX5_moveWays_53 : decode cX5_moveWays 53 = .ok (.ladd, 1) := by decide +kernel
theorem dX5_moveWays_54 : decode cX5_moveWays 54 = .ok (.lastore, 1) := by decide +kernel
theorem dX5_moveWays_55 : decode cX5_moveWays 55 = .ok (.iinc 5 1, 3) := by decide +kernel
theorem dX5_moveWays_58 : decode cX5_moveWays 58 = .ok (.goto (-50), 3) := by decide +kernel
theorem dX5_moveWays_61 : decode cX5_moveWays 61 = .ok (.return_, 1) := by decide +kernel
theorem dX11_init_0 : decode cX11_init 0 = .ok (.aload_n 0, 1) := by decide +kernel
theorem dX11_init_1 : decode cX11_init 1 = .ok (.invokespecial 3, 3) := by decide +kernel
theorem dX11_init_4 : decode cX11_init 4 = .ok (.aload_n 0, 1) := by decide +kernel
theorem dX11_init_5 : decode cX11_init 5 = .ok (.new 9, 3) := by decide +kernel
theorem dX11_init_8 : decode cX11_init 8 = .ok (.dup, 1) := by decide +kernel
theorem dX11_init_9 : decode cX11_init 9 = .ok (.invokespecial 11, 3) := by decide +kernel
theorem dX11_init_12 : decode cX11_init 12 = .ok (.putfield 12, 3) := by decide +kernel
theorem dX11_init_15 : decode cX11_init 15 = .ok (.aload_n 0, 1) := by decide +kernel
theorem dX11_init_16 : decode cX11_init 16 = .ok (.new 16, 3) := by decide +kernel
theorem dX11_init_19 : decode cX11_init 19 = .ok (.dup, 1) := by decide +kernel
theorem dX11_init_20 : decode cX11_init 20 = .ok (.invokespecial 18, 3) := by decide +kernel
theorem dX11_init_23 : decode cX11_init 23 = .ok (.putfield 19, 3) := by decide +kernel
theorem dX11_init_26 : decode cX11_init 26 = .ok (.aload_n 0, 1) := by decide +kernel
theorem dX11_init_27 : decode cX11_init 27 = .ok (.new 23, 3) := by decide +kernel
theorem dX11_init_30 : decode cX11_init 30 = .ok (.dup, 1) := by decide +kernel
theorem dX11_init_31 : decode cX11_init 31 = .ok (.invokespecial 25, 3) := by decide +kernel
theorem dX11_init_34 : decode cX11_init 34 = .ok (.putfield 26, 3) := by decide +kernel
theorem dX11_init_37 : decode cX11_init 37 = .ok (.aload_n 0, 1) := by decide +kernel
theorem dX11_init_38 : decode cX11_init 38 = .ok (.iconst 4, 1) := by decide +kernel
theorem dX11_init_39 : decode cX11_init 39 = .ok (.anewarray 30, 3) := by decide +kernel
theorem dX11_init_42 : decode cX11_init 42 = .ok (.putfield 32, 3) := by decide +kernel
theorem dX11_init_45 : decode cX11_init 45 = .ok (.iconst 0, 1) := by decide +kernel
theorem dX11_init_46 : decode cX11_init 46 = .ok (.istore_n 1, 1) := by decide +kernel
theorem dX11_init_47 : decode cX11_init 47 = .ok (.iload_n 1, 1) := by decide +kernel
theorem dX11_init_48 : decode cX11_init 48 = .ok (.iconst 4, 1) := by decide +kernel
theorem dX11_init_49 : decode cX11_init 49 = .ok (.if_icmp .ge 22, 3) := by decide +kernel
theorem dX11_init_52 : decode cX11_init 52 = .ok (.aload_n 0, 1) := by decide +kernel
theorem dX11_init_53 : decode cX11_init 53 = .ok (.getfield 32, 3) := by decide +kernel
theorem dX11_init_56 : decode cX11_init 56 = .ok (.iload_n 1, 1) := by decide +kernel
theorem dX11_init_57 : decode cX11_init 57 = .ok (.new 30, 3) := by decide +kernel
theorem dX11_init_60 : decode cX11_init 60 = .ok (.dup, 1) := by decide +kernel
theorem dX11_init_61 : decode cX11_init 61 = .ok (.invokespecial 36, 3) := by decide +kernel
theorem dX11_init_64 : decode cX11_init 64 = .ok (.aastore, 1) := by decide +kernel
theorem dX11_init_65 : decode cX11_init 65 = .ok (.iinc 1 1, 3) := by decide +kernel
theorem dX11_init_68 : decode cX11_init 68 = .ok (.goto (-21), 3) := by decide +kernel
theorem dX11_init_71 : decode cX11_init 71 = .ok (.aload_n 0, 1) := by decide +kernel
theorem dX11_init_72 : decode cX11_init 72 = .ok (.iconst 0, 1) := by decide +kernel
theorem dX11_init_73 : decode cX11_init 73 = .ok (.putfield 37, 3) := by decide +kernel
theorem dX11_init_76 : decode cX11_init 76 = .ok (.aload_n 0, 1) := by decide +kernel
theorem dX11_init_77 : decode cX11_init 77 = .ok (.iconst (-1), 1) := by decide +kernel
theorem dX11_init_78 : decode cX11_init 78 = .ok (.putfield 41, 3) := by decide +kernel
theorem dX11_init_81 : decode cX11_init 81 = .ok (.aload_n 0, 1) := by decide +kernel
theorem dX11_init_82 : decode cX11_init 82 = .ok (.new 44, 3) := by decide +kernel
theorem dX11_init_85 : decode cX11_init 85 = .ok (.dup, 1) := by decide +kernel
theorem dX11_init_86 : decode cX11_init 86 = .ok (.invokespecial 46, 3) := by decide +kernel
theorem dX11_init_89 : decode cX11_init 89 = .ok (.putfield 47, 3) := by decide +kernel
theorem dX11_init_92 : decode cX11_init 92 = .ok (.aload_n 0, 1) := by decide +kernel
theorem dX11_init_93 : decode cX11_init 93 = .ok (.new 51, 3) := by decide +kernel
theorem dX11_init_96 : decode cX11_init 96 = .ok (.dup, 1) := by decide +kernel
theorem dX11_init_97 : decode cX11_init 97 = .ok (.invokespecial 53, 3) := by decide +kernel
theorem dX11_init_100 : decode cX11_init 100 = .ok (.putfield 54, 3) := by decide +kernel
theorem dX11_init_103 : decode cX11_init 103 = .ok (.aload_n 0, 1) := by decide +kernel
theorem dX11_init_104 : decode cX11_init 104 = .ok (.new 58, 3) := by decide +kernel
theorem dX11_init_107 : decode cX11_init 107 = .ok (.dup, 1) := by decide +kernel
theorem dX11_init_108 : decode cX11_init 108 = .ok (.invokespecial 60, 3) := by decide +kernel
theorem dX11_init_111 : decode cX11_init 111 = .ok (.putfield 61, 3) := by decide +kernel
theorem dX11_init_114 : decode cX11_init 114 = .ok (.aload_n 0, 1) := by decide +kernel
theorem dX11_init_115 : decode cX11_init 115 = .ok (.new 65, 3) := by decide +kernel
theorem dX11_init_118 : decode cX11_init 118 = .ok (.dup, 1) := by decide +kernel
theorem dX11_init_119 : decode cX11_init 119 = .ok (.invokespecial 67, 3) := by decide +kernel
theorem dX11_init_122 : decode cX11_init 122 = .ok (.putfield 68, 3) := by decide +kernel
theorem dX11_init_125 : decode cX11_init 125 = .ok (.aload_n 0, 1) := by decide +kernel
theorem dX11_init_126 : decode cX11_init 126 = .ok (.iconst 0, 1) := by decide +kernel
theorem dX11_init_127 : decode cX11_init 127 = .ok (.putfield 72, 3) := by decide +kernel
theorem dX11_init_130 : decode cX11_init 130 = .ok (.return_, 1) := by decide +kernel
theorem dX11_feed_0 : decode cX11_feed 0 = .ok (.aload_n 0, 1) := by decide +kernel
theorem dX11_feed_1 : decode cX11_feed 1 = .ok (.getfield 12, 3) := by decide +kernel
theorem dX11_feed_4 : decode cX11_feed 4 = .ok (.getfield 75, 3) := by decide +kernel
theorem dX11_feed_7 : decode cX11_feed 7 = .ok (.bipush 20, 2) := by decide +kernel
theorem dX11_feed_9 : decode cX11_feed 9 = .ok (.iadd, 1) := by decide +kernel
theorem dX11_feed_10 : decode cX11_feed 10 = .ok (.sipush 200, 3) := by decide +kernel
theorem dX11_feed_13 : decode cX11_feed 13 = .ok (.if_icmp .le 5, 3) := by decide +kernel
theorem dX11_feed_16 : decode cX11_feed 16 = .ok (.iconst (-1), 1) := by decide +kernel
theorem dX11_feed_17 : decode cX11_feed 17 = .ok (.ireturn, 1) := by decide +kernel
theorem dX11_feed_18 : decode cX11_feed 18 = .ok (.aload_n 0, 1) := by decide +kernel
theorem dX11_feed_19 : decode cX11_feed 19 = .ok (.getfield 12, 3) := by decide +kernel
theorem dX11_feed_22 : decode cX11_feed 22 = .ok (.iload_n 1, 1) := by decide +kernel
theorem dX11_feed_23 : decode cX11_feed 23 = .ok (.invokevirtual 78, 3) := by decide +kernel
theorem dX11_feed_26 : decode cX11_feed 26 = .ok (.aload_n 0, 1) := by decide +kernel
theorem dX11_feed_27 : decode cX11_feed 27 = .ok (.getfield 12, 3) := by decide +kernel
theorem dX11_feed_30 : decode cX11_feed 30 = .ok (.iload_n 2, 1) := by decide +kernel
theorem dX11_feed_31 : decode cX11_feed 31 = .ok (.invokevirtual 78, 3) := by decide +kernel
theorem dX11_feed_34 : decode cX11_feed 34 = .ok (.aload_n 0, 1) := by decide +kernel
theorem dX11_feed_35 : decode cX11_feed 35 = .ok (.getfield 12, 3) := by decide +kernel
theorem dX11_feed_38 : decode cX11_feed 38 = .ok (.iload_n 3, 1) := by decide +kernel
theorem dX11_feed_39 : decode cX11_feed 39 = .ok (.invokevirtual 78, 3) := by decide +kernel
theorem dX11_feed_42 : decode cX11_feed 42 = .ok (.aload_n 0, 1) := by decide +kernel
theorem dX11_feed_43 : decode cX11_feed 43 = .ok (.getfield 12, 3) := by decide +kernel
theorem dX11_feed_46 : decode cX11_feed 46 = .ok (.iload 4, 2) := by decide +kernel
theorem dX11_feed_48 : decode cX11_feed 48 = .ok (.invokevirtual 78, 3) := by decide +kernel
theorem dX11_feed_51 : decode cX11_feed 51 = .ok (.aload_n 0, 1) := by decide +kernel
theorem dX11_feed_52 : decode cX11_feed 52 = .ok (.getfield 12, 3) := by decide +kernel
theorem dX11_feed_55 : decode cX11_feed 55 = .ok (.iload 5, 2) := by decide +kernel
theorem dX11_feed_57 : decode cX11_feed 57 = .ok (.invokevirtual 78, 3) := by decide +kernel
theorem dX11_feed_60 : decode cX11_feed 60 = .ok (.aload_n 0, 1) := by decide +kernel
theorem dX11_feed_61 : decode cX11_feed 61 = .ok (.getfield 12, 3) := by decide +kernel
theorem dX11_feed_64 : decode cX11_feed 64 = .ok (.getfield 75, 3) := by decide +kernel
theorem dX11_feed_67 : decode cX11_feed 67 = .ok (.ireturn, 1) := by decide +kernel
theorem dX11_end_0 : decode cX11_end 0 = .ok (.iload_n 1, 1) := by decide +kernel
theorem dX11_end_1 : decode cX11_end 1 = .ok (.ifCond .lt 14, 3) := by decide +kernel
theorem dX11_end_4 : decode cX11_end 4 = .ok (.iload_n 1, 1) := by decide +kernel
theorem dX11_end_5 : decode cX11_end 5 = .ok (.aload_n 0, 1) := by decide +kernel
theorem dX11_end_6 : decode cX11_end 6 = .ok (.getfield 12, 3) := by decide +kernel
theorem dX11_end_9 : decode cX11_end 9 = .ok (.getfield 75, 3) := by decide +kernel
theorem dX11_end_12 : decode cX11_end 12 = .ok (.if_icmp .le 5, 3) := by decide +kernel
theorem dX11_end_15 : decode cX11_end 15 = .ok (.iconst (-1), 1) := by decide +kernel
theorem dX11_end_16 : decode cX11_end 16 = .ok (.ireturn, 1) := by decide +kernel
theorem dX11_end_17 : decode cX11_end 17 = .ok (.aload_n 0, 1) := by decide +kernel
theorem dX11_end_18 : decode cX11_end 18 = .ok (.getfield 12, 3) := by decide +kernel
theorem dX11_end_21 : decode cX11_end 21 = .ok (.iload_n 1, 1) := by decide +kernel
theorem dX11_end_22 : decode cX11_end 22 = .ok (.putfield 75, 3) := by decide +kernel
theorem dX11_end_25 : decode cX11_end 25 = .ok (.iload_n 1, 1) := by decide +kernel
theorem dX11_end_26 : decode cX11_end 26 = .ok (.ireturn, 1) := by decide +kernel
theorem dX11_list_0 : decode cX11_list 0 = .ok (.iload_n 1, 1) := by decide +kernel
theorem dX11_list_1 : decode cX11_list 1 = .ok (.invokestatic 82, 3) := by decide +kernel
theorem dX11_list_4 : decode cX11_list 4 = .ok (.ifCond .eq 11, 3) := by decide +kernel
theorem dX11_list_7 : decode cX11_list 7 = .ok (.aload_n 0, 1) := by decide +kernel
theorem dX11_list_8 : decode cX11_list 8 = .ok (.getfield 37, 3) := by decide +kernel
theorem dX11_list_11 : decode cX11_list 11 = .ok (.iconst 4, 1) := by decide +kernel
theorem dX11_list_12 : decode cX11_list 12 = .ok (.if_icmp .lt 5, 3) := by decide +kernel
theorem dX11_list_15 : decode cX11_list 15 = .ok (.iconst (-1), 1) := by decide +kernel
theorem dX11_list_16 : decode cX11_list 16 = .ok (.ireturn, 1) := by decide +kernel
theorem dX11_list_17 : decode cX11_list 17 = .ok (.aload_n 0, 1) := by decide +kernel
theorem dX11_list_18 : decode cX11_list 18 = .ok (.getfield 32, 3) := by decide +kernel
theorem dX11_list_21 : decode cX11_list 21 = .ok (.aload_n 0, 1) := by decide +kernel
theorem dX11_list_22 : decode cX11_list 22 = .ok (.getfield 37, 3) := by decide +kernel
theorem dX11_list_25 : decode cX11_list 25 = .ok (.aaload, 1) := by decide +kernel
theorem dX11_list_26 : decode cX11_list 26 = .ok (.astore_n 2, 1) := by decide +kernel
theorem dX11_list_27 : decode cX11_list 27 = .ok (.aload_n 0, 1) := by decide +kernel
theorem dX11_list_28 : decode cX11_list 28 = .ok (.getfield 26, 3) := by decide +kernel
theorem dX11_list_31 : decode cX11_list 31 = .ok (.aload_n 0, 1) := by decide +kernel
theorem dX11_list_32 : decode cX11_list 32 = .ok (.getfield 12, 3) := by decide +kernel
theorem dX11_list_35 : decode cX11_list 35 = .ok (.aload_n 2, 1) := by decide +kernel
theorem dX11_list_36 : decode cX11_list 36 = .ok (.invokevirtual 86, 3) := by decide +kernel
theorem dX11_list_39 : decode cX11_list 39 = .ok (.aload_n 0, 1) := by decide +kernel
theorem dX11_list_40 : decode cX11_list 40 = .ok (.getfield 12, 3) := by decide +kernel
theorem dX11_list_43 : decode cX11_list 43 = .ok (.iconst 0, 1) := by decide +kernel
theorem dX11_list_44 : decode cX11_list 44 = .ok (.putfield 75, 3) := by decide +kernel
theorem dX11_list_47 : decode cX11_list 47 = .ok (.aload_n 0, 1) := by decide +kernel
theorem dX11_list_48 : decode cX11_list 48 = .ok (.aload_n 0, 1) := by decide +kernel
theorem dX11_list_49 : decode cX11_list 49 = .ok (.getfield 26, 3) := by decide +kernel
theorem dX11_list_52 : decode cX11_list 52 = .ok (.getfield 90, 3) := by decide +kernel
theorem dX11_list_55 : decode cX11_list 55 = .ok (.putfield 41, 3) := by decide +kernel
theorem dX11_list_58 : decode cX11_list 58 = .ok (.aload_n 0, 1) := by decide +kernel
theorem dX11_list_59 : decode cX11_list 59 = .ok (.getfield 26, 3) := by decide +kernel
theorem dX11_list_62 : decode cX11_list 62 = .ok (.getfield 91, 3) := by decide +kernel
theorem dX11_list_65 : decode cX11_list 65 = .ok (.ifCond .eq 14, 3) := by decide +kernel
theorem dX11_list_68 : decode cX11_list 68 = .ok (.aload_n 0, 1) := by decide +kernel
theorem dX11_list_69 : decode cX11_list 69 = .ok (.getfield 26, 3) := by decide +kernel
theorem dX11_list_72 : decode cX11_list 72 = .ok (.getfield 91, 3) := by decide +kernel
theorem dX11_list_75 : decode cX11_list 75 = .ok (.ineg, 1) := by decide +kernel
theorem dX11_list_76 : decode cX11_list 76 = .ok (.iconst 1, 1) := by decide +kernel
theorem dX11_list_77 : decode cX11_list 77 = .ok (.isub, 1) := by decide +kernel
theorem dX11_list_78 : decode cX11_list 78 = .ok (.ireturn, 1) := by decide +kernel
theorem dX11_list_79 : decode cX11_list 79 = .ok (.aload_n 2, 1) := by decide +kernel
theorem dX11_list_80 : decode cX11_list 80 = .ok (.iload_n 1, 1) := by decide +kernel
theorem dX11_list_81 : decode cX11_list 81 = .ok (.putfield 94, 3) := by decide +kernel
theorem dX11_list_84 : decode cX11_list 84 = .ok (.aload_n 0, 1) := by decide +kernel
theorem dX11_list_85 : decode cX11_list 85 = .ok (.dup, 1) := by decide +kernel
theorem dX11_list_86 : decode cX11_list 86 = .ok (.getfield 37, 3) := by decide +kernel
theorem dX11_list_89 : decode cX11_list 89 = .ok (.iconst 1, 1) := by decide +kernel
theorem dX11_list_90 : decode cX11_list 90 = .ok (.iadd, 1) := by decide +kernel
theorem dX11_list_91 : decode cX11_list 91 = .ok (.putfield 37, 3) := by decide +kernel
theorem dX11_list_94 : decode cX11_list 94 = .ok (.aload_n 0, 1) := by decide +kernel
theorem dX11_list_95 : decode cX11_list 95 = .ok (.getfield 37, 3) := by decide +kernel
theorem dX11_list_98 : decode cX11_list 98 = .ok (.iconst 1, 1) := by decide +kernel
theorem dX11_list_99 : decode cX11_list 99 = .ok (.isub, 1) := by decide +kernel
theorem dX11_list_100 : decode cX11_list 100 = .ok (.ireturn, 1) := by decide +kernel
theorem dX11_place_0 : decode cX11_place 0 = .ok (.aload_n 0, 1) := by decide +kernel
theorem dX11_place_1 : decode cX11_place 1 = .ok (.getfield 41, 3) := by decide +kernel
theorem dX11_place_4 : decode cX11_place 4 = .ok (.ireturn, 1) := by decide +kernel
theorem dX11_ruin_0 : decode cX11_ruin 0 = .ok (.aload_n 0, 1) := by decide +kernel
theorem dX11_ruin_1 : decode cX11_ruin 1 = .ok (.invokevirtual 97, 3) := by decide +kernel
theorem dX11_ruin_4 : decode cX11_ruin 4 = .ok (.istore_n 2, 1) := by decide +kernel
theorem dX11_ruin_5 : decode cX11_ruin 5 = .ok (.iload_n 2, 1) := by decide +kernel
theorem dX11_ruin_6 : decode cX11_ruin 6 = .ok (.ifCond .eq 21, 3) := by decide +kernel
theorem dX11_ruin_9 : decode cX11_ruin 9 = .ok (.iload_n 1, 1) := by decide +kernel
theorem dX11_ruin_10 : decode cX11_ruin 10 = .ok (.invokestatic 101, 3) := by decide +kernel
theorem dX11_ruin_13 : decode cX11_ruin 13 = .ok (.ifCond .eq 14, 3) := by decide +kernel
theorem dX11_ruin_16 : decode cX11_ruin 16 = .ok (.aload_n 0, 1) := by decide +kernel
theorem dX11_ruin_17 : decode cX11_ruin 17 = .ok (.getfield 47, 3) := by decide +kernel
theorem dX11_ruin_20 : decode cX11_ruin 20 = .ok (.iload_n 1, 1) := by decide +kernel
theorem dX11_ruin_21 : decode cX11_ruin 21 = .ok (.invokevirtual 104, 3) := by decide +kernel
theorem dX11_ruin_24 : decode cX11_ruin 24 = .ok (.ifCond .eq 5, 3) := by decide +kernel
theorem dX11_ruin_27 : decode cX11_ruin 27 = .ok (.iconst (-1), 1) := by decide +kernel
theorem dX11_ruin_28 : decode cX11_ruin 28 = .ok (.ireturn, 1) := by decide +kernel
theorem dX11_ruin_29 : decode cX11_ruin 29 = .ok (.aload_n 0, 1) := by decide +kernel
theorem dX11_ruin_30 : decode cX11_ruin 30 = .ok (.getfield 47, 3) := by decide +kernel
theorem dX11_ruin_33 : decode cX11_ruin 33 = .ok (.aload_n 0, 1) := by decide +kernel
theorem dX11_ruin_34 : decode cX11_ruin 34 = .ok (.getfield 19, 3) := by decide +kernel
theorem dX11_ruin_37 : decode cX11_ruin 37 = .ok (.iload_n 1, 1) := by decide +kernel
theorem dX11_ruin_38 : decode cX11_ruin 38 = .ok (.aload_n 0, 1) := by decide +kernel
theorem dX11_ruin_39 : decode cX11_ruin 39 = .ok (.getfield 72, 3) := by decide +kernel
theorem dX11_ruin_42 : decode cX11_ruin 42 = .ok (.invokevirtual 107, 3) := by decide +kernel
theorem dX11_ruin_45 : decode cX11_ruin 45 = .ok (.ireturn, 1) := by decide +kernel
theorem dX11_stone_0 : decode cX11_stone 0 = .ok (.aload_n 0, 1) := by decide +kernel
theorem dX11_stone_1 : decode cX11_stone 1 = .ok (.invokevirtual 97, 3) := by decide +kernel
theorem dX11_stone_4 : decode cX11_stone 4 = .ok (.istore 4, 2) := by decide +kernel
theorem dX11_stone_6 : decode cX11_stone 6 = .ok (.iload 4, 2) := by decide +kernel
theorem dX11_stone_8 : decode cX11_stone 8 = .ok (.ifCond .eq 29, 3) := by decide +kernel
theorem dX11_stone_11 : decode cX11_stone 11 = .ok (.iload_n 1, 1) := by decide +kernel
theorem dX11_stone_12 : decode cX11_stone 12 = .ok (.invokestatic 101, 3) := by decide +kernel
theorem dX11_stone_15 : decode cX11_stone 15 = .ok (.ifCond .eq 22, 3) := by decide +kernel
theorem dX11_stone_18 : decode cX11_stone 18 = .ok (.iload_n 3, 1) := by decide +kernel
theorem dX11_stone_19 : decode cX11_stone 19 = .ok (.invokestatic 82, 3) := by decide +kernel
theorem dX11_stone_22 : decode cX11_stone 22 = .ok (.ifCond .eq 15, 3) := by decide +kernel
theorem dX11_stone_25 : decode cX11_stone 25 = .ok (.iload_n 2, 1) := by decide +kernel
theorem dX11_stone_26 : decode cX11_stone 26 = .ok (.iconst 1, 1) := by decide +kernel
theorem dX11_stone_27 : decode cX11_stone 27 = .ok (.if_icmp .lt 10, 3) := by decide +kernel
theorem dX11_stone_30 : decode cX11_stone 30 = .ok (.iload_n 2, 1) := by decide +kernel
theorem dX11_stone_31 : decode cX11_stone 31 = .ok (.sipush 200, 3) := by decide +kernel
theorem dX11_stone_34 : decode cX11_stone 34 = .ok (.if_icmp .le 5, 3) := by decide +kernel
theorem dX11_stone_37 : decode cX11_stone 37 = .ok (.iconst (-1), 1) := by decide +kernel
theorem dX11_stone_38 : decode cX11_stone 38 = .ok (.ireturn, 1) := by decide +kernel
theorem dX11_stone_39 : decode cX11_stone 39 = .ok (.aload_n 0, 1) := by decide +kernel
theorem dX11_stone_40 : decode cX11_stone 40 = .ok (.getfield 47, 3) := by decide +kernel
theorem dX11_stone_43 : decode cX11_stone 43 = .ok (.aload_n 0, 1) := by decide +kernel
theorem dX11_stone_44 : decode cX11_stone 44 = .ok (.getfield 19, 3) := by decide +kernel
theorem dX11_stone_47 : decode cX11_stone 47 = .ok (.iload_n 1, 1) := by decide +kernel
theorem dX11_stone_48 : decode cX11_stone 48 = .ok (.iload_n 2, 1) := by decide +kernel
theorem dX11_stone_49 : decode cX11_stone 49 = .ok (.iload_n 3, 1) := by decide +kernel
theorem dX11_stone_50 : decode cX11_stone 50 = .ok (.imul, 1) := by decide +kernel
theorem dX11_stone_51 : decode cX11_stone 51 = .ok (.aload_n 0, 1) := by decide +kernel
theorem dX11_stone_52 : decode cX11_stone 52 = .ok (.getfield 72, 3) := by decide +kernel
theorem dX11_stone_55 : decode cX11_stone 55 = .ok (.invokevirtual 111, 3) := by decide +kernel
theorem dX11_stone_58 : decode cX11_stone 58 = .ok (.ireturn, 1) := by decide +kernel
theorem dX11_habit_0 : decode cX11_habit 0 = .ok (.iload_n 1, 1) := by decide +kernel
theorem dX11_habit_1 : decode cX11_habit 1 = .ok (.invokestatic 115, 3) := by decide +kernel
theorem dX11_habit_4 : decode cX11_habit 4 = .ok (.ifCond .eq 19, 3) := by decide +kernel
theorem dX11_habit_7 : decode cX11_habit 7 = .ok (.iload_n 2, 1) := by decide +kernel
theorem dX11_habit_8 : decode cX11_habit 8 = .ok (.invokestatic 115, 3) := by decide +kernel
theorem dX11_habit_11 : decode cX11_habit 11 = .ok (.ifCond .eq 12, 3) := by decide +kernel
theorem dX11_habit_14 : decode cX11_habit 14 = .ok (.iload_n 1, 1) := by decide +kernel
theorem dX11_habit_15 : decode cX11_habit 15 = .ok (.iload_n 2, 1) := by decide +kernel
theorem dX11_habit_16 : decode cX11_habit 16 = .ok (.if_icmp .eq 7, 3) := by decide +kernel
theorem dX11_habit_19 : decode cX11_habit 19 = .ok (.iconst 1, 1) := by decide +kernel
theorem dX11_habit_20 : decode cX11_habit 20 = .ok (.goto 4, 3) := by decide +kernel
theorem dX11_habit_23 : decode cX11_habit 23 = .ok (.iconst 0, 1) := by decide +kernel
theorem dX11_habit_24 : decode cX11_habit 24 = .ok (.istore 4, 2) := by decide +kernel
theorem dX11_habit_26 : decode cX11_habit 26 = .ok (.iload 4, 2) := by decide +kernel
theorem dX11_habit_28 : decode cX11_habit 28 = .ok (.ifCond .eq 14, 3) := by decide +kernel
theorem dX11_habit_31 : decode cX11_habit 31 = .ok (.iload_n 3, 1) := by decide +kernel
theorem dX11_habit_32 : decode cX11_habit 32 = .ok (.iconst 1, 1) := by decide +kernel
theorem dX11_habit_33 : decode cX11_habit 33 = .ok (.if_icmp .lt 9, 3) := by decide +kernel
theorem dX11_habit_36 : decode cX11_habit 36 = .ok (.iload_n 3, 1) := by decide +kernel
theorem dX11_habit_37 : decode cX11_habit 37 = .ok (.bipush 20, 2) := by decide +kernel
theorem dX11_habit_39 : decode cX11_habit 39 = .ok (.if_icmp .le 5, 3) := by decide +kernel
theorem dX11_habit_42 : decode cX11_habit 42 = .ok (.iconst (-1), 1) := by decide +kernel
theorem dX11_habit_43 : decode cX11_habit 43 = .ok (.ireturn, 1) := by decide +kernel
theorem dX11_habit_44 : decode cX11_habit 44 = .ok (.aload_n 0, 1) := by decide +kernel
theorem dX11_habit_45 : decode cX11_habit 45 = .ok (.getfield 54, 3) := by decide +kernel
theorem dX11_habit_48 : decode cX11_habit 48 = .ok (.iload_n 1, 1) := by decide +kernel
theorem dX11_habit_49 : decode cX11_habit 49 = .ok (.iload_n 2, 1) := by decide +kernel
theorem dX11_habit_50 : decode cX11_habit 50 = .ok (.iload_n 3, 1) := by decide +kernel
theorem dX11_habit_51 : decode cX11_habit 51 = .ok (.invokevirtual 118, 3) := by decide +kernel
theorem dX11_habit_54 : decode cX11_habit 54 = .ok (.ireturn, 1) := by decide +kernel
theorem dX11_sound_0 : decode cX11_sound 0 = .ok (.iload_n 1, 1) := by decide +kernel
theorem dX11_sound_1 : decode cX11_sound 1 = .ok (.ifCond .lt 31, 3) := by decide +kernel
theorem dX11_sound_4 : decode cX11_sound 4 = .ok (.iload_n 1, 1) := by decide +kernel
theorem dX11_sound_5 : decode cX11_sound 5 = .ok (.bipush 26, 2) := by decide +kernel
theorem dX11_sound_7 : decode cX11_sound 7 = .ok (.if_icmp .ge 25, 3) := by decide +kernel
theorem dX11_sound_10 : decode cX11_sound 10 = .ok (.iload_n 2, 1) := by decide +kernel
theorem dX11_sound_11 : decode cX11_sound 11 = .ok (.ifCond .lt 21, 3) := by decide +kernel
theorem dX11_sound_14 : decode cX11_sound 14 = .ok (.iload_n 2, 1) := by decide +kernel
theorem dX11_sound_15 : decode cX11_sound 15 = .ok (.bipush 26, 2) := by decide +kernel
theorem dX11_sound_17 : decode cX11_sound 17 = .ok (.if_icmp .ge 15, 3) := by decide +kernel
theorem dX11_sound_20 : decode cX11_sound 20 = .ok (.aload_n 0, 1) := by decide +kernel
theorem dX11_sound_21 : decode cX11_sound 21 = .ok (.getfield 61, 3) := by decide +kernel
theorem dX11_sound_24 : decode cX11_sound 24 = .ok (.iload_n 1, 1) := by decide +kernel
theorem dX11_sound_25 : decode cX11_sound 25 = .ok (.iload_n 2, 1) := by decide +kernel
theorem dX11_sound_26 : decode cX11_sound 26 = .ok (.invokevirtual 122, 3) := by decide +kernel
theorem dX11_sound_29 : decode cX11_sound 29 = .ok (.ifCond .eq 5, 3) := by decide +kernel
theorem dX11_sound_32 : decode cX11_sound 32 = .ok (.iconst 0, 1) := by decide +kernel
theorem dX11_sound_33 : decode cX11_sound 33 = .ok (.ireturn, 1) := by decide +kernel
theorem dX11_sound_34 : decode cX11_sound 34 = .ok (.aload_n 0, 1) := by decide +kernel
theorem dX11_sound_35 : decode cX11_sound 35 = .ok (.getfield 61, 3) := by decide +kernel
theorem dX11_sound_38 : decode cX11_sound 38 = .ok (.iload_n 1, 1) := by decide +kernel
theorem dX11_sound_39 : decode cX11_sound 39 = .ok (.iload_n 2, 1) := by decide +kernel
theorem dX11_sound_40 : decode cX11_sound 40 = .ok (.invokevirtual 126, 3) := by decide +kernel
theorem dX11_sound_43 : decode cX11_sound 43 = .ok (.iconst 1, 1) := by decide +kernel
theorem dX11_sound_44 : decode cX11_sound 44 = .ok (.ireturn, 1) := by decide +kernel
theorem dX11_costs_0 : decode cX11_costs 0 = .ok (.iload_n 1, 1) := by decide +kernel
theorem dX11_costs_1 : decode cX11_costs 1 = .ok (.ifCond .lt 19, 3) := by decide +kernel
theorem dX11_costs_4 : decode cX11_costs 4 = .ok (.iload_n 1, 1) := by decide +kernel
theorem dX11_costs_5 : decode cX11_costs 5 = .ok (.bipush 50, 2) := by decide +kernel
theorem dX11_costs_7 : decode cX11_costs 7 = .ok (.if_icmp .gt 13, 3) := by decide +kernel
theorem dX11_costs_10 : decode cX11_costs 10 = .ok (.iload_n 2, 1) := by decide +kernel
theorem dX11_costs_11 : decode cX11_costs 11 = .ok (.ifCond .lt 9, 3) := by decide +kernel
theorem dX11_costs_14 : decode cX11_costs 14 = .ok (.iload_n 2, 1) := by decide +kernel
theorem dX11_costs_15 : decode cX11_costs 15 = .ok (.bipush 50, 2) := by decide +kernel
theorem dX11_costs_17 : decode cX11_costs 17 = .ok (.if_icmp .le 5, 3) := by decide +kernel
theorem dX11_costs_20 : decode cX11_costs 20 = .ok (.iconst 0, 1) := by decide +kernel
theorem dX11_costs_21 : decode cX11_costs 21 = .ok (.ireturn, 1) := by decide +kernel
theorem dX11_costs_22 : decode cX11_costs 22 = .ok (.aload_n 0, 1) := by decide +kernel
theorem dX11_costs_23 : decode cX11_costs 23 = .ok (.getfield 47, 3) := by decide +kernel
theorem dX11_costs_26 : decode cX11_costs 26 = .ok (.iload_n 1, 1) := by decide +kernel
theorem dX11_costs_27 : decode cX11_costs 27 = .ok (.putfield 130, 3) := by decide +kernel
theorem dX11_costs_30 : decode cX11_costs 30 = .ok (.aload_n 0, 1) := by decide +kernel
theorem dX11_costs_31 : decode cX11_costs 31 = .ok (.getfield 47, 3) := by decide +kernel
theorem dX11_costs_34 : decode cX11_costs 34 = .ok (.iload_n 2, 1) := by decide +kernel
theorem dX11_costs_35 : decode cX11_costs 35 = .ok (.putfield 133, 3) := by decide +kernel
theorem dX11_costs_38 : decode cX11_costs 38 = .ok (.iconst 1, 1) := by decide +kernel
theorem dX11_costs_39 : decode cX11_costs 39 = .ok (.ireturn, 1) := by decide +kernel
theorem dX11_day_0 : decode cX11_day 0 = .ok (.iload_n 1, 1) := by decide +kernel
theorem dX11_day_1 : decode cX11_day 1 = .ok (.ifCond .lt 21, 3) := by decide +kernel
theorem dX11_day_4 : decode cX11_day 4 = .ok (.iload_n 1, 1) := by decide +kernel
theorem dX11_day_5 : decode cX11_day 5 = .ok (.sipush 1000, 3) := by decide +kernel
theorem dX11_day_8 : decode cX11_day 8 = .ok (.if_icmp .gt 14, 3) := by decide +kernel
theorem dX11_day_11 : decode cX11_day 11 = .ok (.aload_n 0, 1) := by decide +kernel
theorem dX11_day_12 : decode cX11_day 12 = .ok (.getfield 72, 3) := by decide +kernel
theorem dX11_day_15 : decode cX11_day 15 = .ok (.iload_n 1, 1) := by decide +kernel
theorem dX11_day_16 : decode cX11_day 16 = .ok (.iadd, 1) := by decide +kernel
theorem dX11_day_17 : decode cX11_day 17 = .ok (.ldc 136, 2) := by decide +kernel
theorem dX11_day_19 : decode cX11_day 19 = .ok (.if_icmp .le 5, 3) := by decide +kernel
theorem dX11_day_22 : decode cX11_day 22 = .ok (.iconst (-1), 1) := by decide +kernel
theorem dX11_day_23 : decode cX11_day 23 = .ok (.ireturn, 1) := by decide +kernel
theorem dX11_day_24 : decode cX11_day 24 = .ok (.aload_n 0, 1) := by decide +kernel
theorem dX11_day_25 : decode cX11_day 25 = .ok (.dup, 1) := by decide +kernel
theorem dX11_day_26 : decode cX11_day 26 = .ok (.getfield 72, 3) := by decide +kernel
theorem dX11_day_29 : decode cX11_day 29 = .ok (.iload_n 1, 1) := by decide +kernel
theorem dX11_day_30 : decode cX11_day 30 = .ok (.iadd, 1) := by decide +kernel
theorem dX11_day_31 : decode cX11_day 31 = .ok (.putfield 72, 3) := by decide +kernel
theorem dX11_day_34 : decode cX11_day 34 = .ok (.aload_n 0, 1) := by decide +kernel
theorem dX11_day_35 : decode cX11_day 35 = .ok (.getfield 72, 3) := by decide +kernel
theorem dX11_day_38 : decode cX11_day 38 = .ok (.ireturn, 1) := by decide +kernel
theorem dX11_apart_0 : decode cX11_apart 0 = .ok (.aload_n 0, 1) := by decide +kernel
theorem dX11_apart_1 : decode cX11_apart 1 = .ok (.invokevirtual 97, 3) := by decide +kernel
theorem dX11_apart_4 : decode cX11_apart 4 = .ok (.istore_n 3, 1) := by decide +kernel
theorem dX11_apart_5 : decode cX11_apart 5 = .ok (.iload_n 3, 1) := by decide +kernel
theorem dX11_apart_6 : decode cX11_apart 6 = .ok (.ifCond .eq 12, 3) := by decide +kernel
theorem dX11_apart_9 : decode cX11_apart 9 = .ok (.aload_n 0, 1) := by decide +kernel
theorem dX11_apart_10 : decode cX11_apart 10 = .ok (.iload_n 1, 1) := by decide +kernel
theorem dX11_apart_11 : decode cX11_apart 11 = .ok (.iload_n 2, 1) := by decide +kernel
theorem dX11_apart_12 : decode cX11_apart 12 = .ok (.invokevirtual 137, 3) := by decide +kernel
theorem dX11_apart_15 : decode cX11_apart 15 = .ok (.ifCond .ne 5, 3) := by decide +kernel
theorem dX11_apart_18 : decode cX11_apart 18 = .ok (.iconst (-1), 1) := by decide +kernel
theorem dX11_apart_19 : decode cX11_apart 19 = .ok (.ireturn, 1) := by decide +kernel
theorem dX11_apart_20 : decode cX11_apart 20 = .ok (.aload_n 0, 1) := by decide +kernel
theorem dX11_apart_21 : decode cX11_apart 21 = .ok (.getfield 61, 3) := by decide +kernel
theorem dX11_apart_24 : decode cX11_apart 24 = .ok (.aload_n 0, 1) := by decide +kernel
theorem dX11_apart_25 : decode cX11_apart 25 = .ok (.getfield 19, 3) := by decide +kernel
theorem dX11_apart_28 : decode cX11_apart 28 = .ok (.aload_n 0, 1) := by decide +kernel
theorem dX11_apart_29 : decode cX11_apart 29 = .ok (.getfield 32, 3) := by decide +kernel
theorem dX11_apart_32 : decode cX11_apart 32 = .ok (.iload_n 1, 1) := by decide +kernel
theorem dX11_apart_33 : decode cX11_apart 33 = .ok (.aaload, 1) := by decide +kernel
theorem dX11_apart_34 : decode cX11_apart 34 = .ok (.getfield 140, 3) := by decide +kernel
theorem dX11_apart_37 : decode cX11_apart 37 = .ok (.iload_n 2, 1) := by decide +kernel
theorem dX11_apart_38 : decode cX11_apart 38 = .ok (.aaload, 1) := by decide +kernel
theorem dX11_apart_39 : decode cX11_apart 39 = .ok (.invokevirtual 144, 3) := by decide +kernel
theorem dX11_apart_42 : decode cX11_apart 42 = .ok (.ireturn, 1) := by decide +kernel
theorem dX11_reading_0 : decode cX11_reading 0 = .ok (.aload_n 0, 1) := by decide +kernel
theorem dX11_reading_1 : decode cX11_reading 1 = .ok (.iload_n 1, 1) := by decide +kernel
theorem dX11_reading_2 : decode cX11_reading 2 = .ok (.iload_n 2, 1) := by decide +kernel
theorem dX11_reading_3 : decode cX11_reading 3 = .ok (.invokevirtual 148, 3) := by decide +kernel
theorem dX11_reading_6 : decode cX11_reading 6 = .ok (.ifCond .ne 5, 3) := by decide +kernel
theorem dX11_reading_9 : decode cX11_reading 9 = .ok (.iconst (-1), 1) := by decide +kernel
theorem dX11_reading_10 : decode cX11_reading 10 = .ok (.ireturn, 1) := by decide +kernel
theorem dX11_reading_11 : decode cX11_reading 11 = .ok (.aload_n 0, 1) := by decide +kernel
theorem dX11_reading_12 : decode cX11_reading 12 = .ok (.getfield 68, 3) := by decide +kernel
theorem dX11_reading_15 : decode cX11_reading 15 = .ok (.aload_n 0, 1) := by decide +kernel
theorem dX11_reading_16 : decode cX11_reading 16 = .ok (.getfield 32, 3) := by decide +kernel
theorem dX11_reading_19 : decode cX11_reading 19 = .ok (.iload_n 1, 1) := by decide +kernel
theorem dX11_reading_20 : decode cX11_reading 20 = .ok (.aaload, 1) := by decide +kernel
theorem dX11_reading_21 : decode cX11_reading 21 = .ok (.getfield 151, 3) := by decide +kernel
theorem dX11_reading_24 : decode cX11_reading 24 = .ok (.iload_n 2, 1) := by decide +kernel
theorem dX11_reading_25 : decode cX11_reading 25 = .ok (.aaload, 1) := by decide +kernel
theorem dX11_reading_26 : decode cX11_reading 26 = .ok (.aload_n 0, 1) := by decide +kernel
theorem dX11_reading_27 : decode cX11_reading 27 = .ok (.getfield 54, 3) := by decide +kernel
theorem dX11_reading_30 : decode cX11_reading 30 = .ok (.iload_n 3, 1) := by decide +kernel
theorem dX11_reading_31 : decode cX11_reading 31 = .ok (.invokevirtual 155, 3) := by decide +kernel
theorem dX11_reading_34 : decode cX11_reading 34 = .ok (.ireturn, 1) := by decide +kernel
theorem dX11_best_0 : decode cX11_best 0 = .ok (.aload_n 0, 1) := by decide +kernel
theorem dX11_best_1 : decode cX11_best 1 = .ok (.iload_n 1, 1) := by decide +kernel
theorem dX11_best_2 : decode cX11_best 2 = .ok (.invokevirtual 159, 3) := by decide +kernel
theorem dX11_best_5 : decode cX11_best 5 = .ok (.ifCond .eq 11, 3) := by decide +kernel
theorem dX11_best_8 : decode cX11_best 8 = .ok (.aload_n 0, 1) := by decide +kernel
theorem dX11_best_9 : decode cX11_best 9 = .ok (.iload_n 2, 1) := by decide +kernel
theorem dX11_best_10 : decode cX11_best 10 = .ok (.invokevirtual 162, 3) := by decide +kernel
theorem dX11_best_13 : decode cX11_best 13 = .ok (.ifCond .ne 5, 3) := by decide +kernel
theorem dX11_best_16 : decode cX11_best 16 = .ok (.iconst (-1), 1) := by decide +kernel
theorem dX11_best_17 : decode cX11_best 17 = .ok (.ireturn, 1) := by decide +kernel
theorem dX11_best_18 : decode cX11_best 18 = .ok (.aload_n 0, 1) := by decide +kernel
theorem dX11_best_19 : decode cX11_best 19 = .ok (.iload_n 1, 1) := by decide +kernel
theorem dX11_best_20 : decode cX11_best 20 = .ok (.iload_n 2, 1) := by decide +kernel
theorem dX11_best_21 : decode cX11_best 21 = .ok (.invokevirtual 165, 3) := by decide +kernel
theorem dX11_best_24 : decode cX11_best 24 = .ok (.ifCond .eq 13, 3) := by decide +kernel
theorem dX11_best_27 : decode cX11_best 27 = .ok (.aload_n 0, 1) := by decide +kernel
theorem dX11_best_28 : decode cX11_best 28 = .ok (.getfield 68, 3) := by decide +kernel
theorem dX11_best_31 : decode cX11_best 31 = .ok (.getfield 168, 3) := by decide +kernel
theorem dX11_best_34 : decode cX11_best 34 = .ok (.goto 5, 3) := by decide +kernel
theorem dX11_best_37 : decode cX11_best 37 = .ok (.bipush (-2), 2) := by decide +kernel
theorem dX11_best_39 : decode cX11_best 39 = .ok (.ireturn, 1) := by decide +kernel
theorem dX11_at_0 : decode cX11_at 0 = .ok (.aload_n 0, 1) := by decide +kernel
theorem dX11_at_1 : decode cX11_at 1 = .ok (.iload_n 1, 1) := by decide +kernel
theorem dX11_at_2 : decode cX11_at 2 = .ok (.iload_n 3, 1) := by decide +kernel
theorem dX11_at_3 : decode cX11_at 3 = .ok (.invokevirtual 137, 3) := by decide +kernel
theorem dX11_at_6 : decode cX11_at 6 = .ok (.ifCond .eq 20, 3) := by decide +kernel
theorem dX11_at_9 : decode cX11_at 9 = .ok (.aload_n 0, 1) := by decide +kernel
theorem dX11_at_10 : decode cX11_at 10 = .ok (.iload_n 2, 1) := by decide +kernel
theorem dX11_at_11 : decode cX11_at 11 = .ok (.invokevirtual 162, 3) := by decide +kernel
theorem dX11_at_14 : decode cX11_at 14 = .ok (.ifCond .eq 12, 3) := by decide +kernel
theorem dX11_at_17 : decode cX11_at 17 = .ok (.aload_n 0, 1) := by decide +kernel
theorem dX11_at_18 : decode cX11_at 18 = .ok (.iload_n 1, 1) := by decide +kernel
theorem dX11_at_19 : decode cX11_at 19 = .ok (.iload_n 2, 1) := by decide +kernel
theorem dX11_at_20 : decode cX11_at 20 = .ok (.invokevirtual 165, 3) := by decide +kernel
theorem dX11_at_23 : decode cX11_at 23 = .ok (.ifCond .ne 5, 3) := by decide +kernel
theorem dX11_at_26 : decode cX11_at 26 = .ok (.iconst (-1), 1) := by decide +kernel
theorem dX11_at_27 : decode cX11_at 27 = .ok (.ireturn, 1) := by decide +kernel
theorem dX11_at_28 : decode cX11_at 28 = .ok (.aload_n 0, 1) := by decide +kernel
theorem dX11_at_29 : decode cX11_at 29 = .ok (.getfield 68, 3) := by decide +kernel
theorem dX11_at_32 : decode cX11_at 32 = .ok (.invokevirtual 171, 3) := by decide +kernel
theorem dX11_at_35 : decode cX11_at 35 = .ok (.aload_n 0, 1) := by decide +kernel
theorem dX11_at_36 : decode cX11_at 36 = .ok (.getfield 68, 3) := by decide +kernel
theorem dX11_at_39 : decode cX11_at 39 = .ok (.getfield 174, 3) := by decide +kernel
theorem dX11_at_42 : decode cX11_at 42 = .ok (.iload_n 3, 1) := by decide +kernel
theorem dX11_at_43 : decode cX11_at 43 = .ok (.iaload, 1) := by decide +kernel
theorem dX11_at_44 : decode cX11_at 44 = .ok (.ireturn, 1) := by decide +kernel
theorem dX11_span_0 : decode cX11_span 0 = .ok (.iload_n 3, 1) := by decide +kernel
theorem dX11_span_1 : decode cX11_span 1 = .ok (.invokestatic 178, 3) := by decide +kernel
theorem dX11_span_4 : decode cX11_span 4 = .ok (.ifCond .eq 18, 3) := by decide +kernel
theorem dX11_span_7 : decode cX11_span 7 = .ok (.iload 5, 2) := by decide +kernel
theorem dX11_span_9 : decode cX11_span 9 = .ok (.ifCond .eq 9, 3) := by decide +kernel
theorem dX11_span_12 : decode cX11_span 12 = .ok (.iload 5, 2) := by decide +kernel
theorem dX11_span_14 : decode cX11_span 14 = .ok (.iconst 1, 1) := by decide +kernel
theorem dX11_span_15 : decode cX11_span 15 = .ok (.if_icmp .ne 7, 3) := by decide +kernel
theorem dX11_span_18 : decode cX11_span 18 = .ok (.iconst 1, 1) := by decide +kernel
theorem dX11_span_19 : decode cX11_span 19 = .ok (.goto 4, 3) := by decide +kernel
theorem dX11_span_22 : decode cX11_span 22 = .ok (.iconst 0, 1) := by decide +kernel
theorem dX11_span_23 : decode cX11_span 23 = .ok (.istore 6, 2) := by decide +kernel
theorem dX11_span_25 : decode cX11_span 25 = .ok (.iload 6, 2) := by decide +kernel
theorem dX11_span_27 : decode cX11_span 27 = .ok (.ifCond .eq 30, 3) := by decide +kernel
theorem dX11_span_30 : decode cX11_span 30 = .ok (.aload_n 0, 1) := by decide +kernel
theorem dX11_span_31 : decode cX11_span 31 = .ok (.iload_n 1, 1) := by decide +kernel
theorem dX11_span_32 : decode cX11_span 32 = .ok (.iload 4, 2) := by decide +kernel
theorem dX11_span_34 : decode cX11_span 34 = .ok (.invokevirtual 137, 3) := by decide +kernel
theorem dX11_span_37 : decode cX11_span 37 = .ok (.ifCond .eq 20, 3) := by decide +kernel
theorem dX11_span_40 : decode cX11_span 40 = .ok (.aload_n 0, 1) := by decide +kernel
theorem dX11_span_41 : decode cX11_span 41 = .ok (.iload_n 2, 1) := by decide +kernel
theorem dX11_span_42 : decode cX11_span 42 = .ok (.invokevirtual 162, 3) := by decide +kernel
theorem dX11_span_45 : decode cX11_span 45 = .ok (.ifCond .eq 12, 3) := by decide +kernel
theorem dX11_span_48 : decode cX11_span 48 = .ok (.aload_n 0, 1) := by decide +kernel
theorem dX11_span_49 : decode cX11_span 49 = .ok (.iload_n 1, 1) := by decide +kernel
theorem dX11_span_50 : decode cX11_span 50 = .ok (.iload_n 2, 1) := by decide +kernel
theorem dX11_span_51 : decode cX11_span 51 = .ok (.invokevirtual 165, 3) := by decide +kernel
theorem dX11_span_54 : decode cX11_span 54 = .ok (.ifCond .ne 5, 3) := by decide +kernel
theorem dX11_span_57 : decode cX11_span 57 = .ok (.iconst (-1), 1) := by decide +kernel
theorem dX11_span_58 : decode cX11_span 58 = .ok (.ireturn, 1) := by decide +kernel
theorem dX11_span_59 : decode cX11_span 59 = .ok (.aload_n 0, 1) := by decide +kernel
theorem dX11_span_60 : decode cX11_span 60 = .ok (.getfield 68, 3) := by decide +kernel
theorem dX11_span_63 : decode cX11_span 63 = .ok (.iload 4, 2) := by decide +kernel
theorem dX11_span_65 : decode cX11_span 65 = .ok (.invokevirtual 181, 3) := by decide +kernel
theorem dX11_span_68 : decode cX11_span 68 = .ok (.iload 5, 2) := by decide +kernel
theorem dX11_span_70 : decode cX11_span 70 = .ok (.ifCond .ne 16, 3) := by decide +kernel
theorem dX11_span_73 : decode cX11_span 73 = .ok (.aload_n 0, 1) := by decide +kernel
theorem dX11_span_74 : decode cX11_span 74 = .ok (.getfield 68, 3) := by decide +kernel
theorem dX11_span_77 : decode cX11_span 77 = .ok (.iload 4, 2) := by decide +kernel
theorem dX11_span_79 : decode cX11_span 79 = .ok (.iload_n 3, 1) := by decide +kernel
theorem dX11_span_80 : decode cX11_span 80 = .ok (.invokevirtual 184, 3) := by decide +kernel
theorem dX11_span_83 : decode cX11_span 83 = .ok (.goto 13, 3) := by decide +kernel
theorem dX11_span_86 : decode cX11_span 86 = .ok (.aload_n 0, 1) := by decide +kernel
theorem dX11_span_87 : decode cX11_span 87 = .ok (.getfield 68, 3) := by decide +kernel
theorem dX11_span_90 : decode cX11_span 90 = .ok (.iload 4, 2) := by decide +kernel
theorem dX11_span_92 : decode cX11_span 92 = .ok (.iload_n 3, 1) := by decide +kernel
theorem dX11_span_93 : decode cX11_span 93 = .ok (.invokevirtual 188, 3) := by decide +kernel
theorem dX11_span_96 : decode cX11_span 96 = .ok (.ireturn, 1) := by decide +kernel
theorem dX11_rivals_0 : decode cX11_rivals 0 = .ok (.iload_n 3, 1) := by decide +kernel
theorem dX11_rivals_1 : decode cX11_rivals 1 = .ok (.invokestatic 178, 3) := by decide +kernel
theorem dX11_rivals_4 : decode cX11_rivals 4 = .ok (.ifCond .eq 28, 3) := by decide +kernel
theorem dX11_rivals_7 : decode cX11_rivals 7 = .ok (.aload_n 0, 1) := by decide +kernel
theorem dX11_rivals_8 : decode cX11_rivals 8 = .ok (.iload_n 1, 1) := by decide +kernel
theorem dX11_rivals_9 : decode cX11_rivals 9 = .ok (.invokevirtual 159, 3) := by decide +kernel
theorem dX11_rivals_12 : decode cX11_rivals 12 = .ok (.ifCond .eq 20, 3) := by decide +kernel
theorem dX11_rivals_15 : decode cX11_rivals 15 = .ok (.aload_n 0, 1) := by decide +kernel
theorem dX11_rivals_16 : decode cX11_rivals 16 = .ok (.iload_n 2, 1) := by decide +kernel
theorem dX11_rivals_17 : decode cX11_rivals 17 = .ok (.invokevirtual 162, 3) := by decide +kernel
theorem dX11_rivals_20 : decode cX11_rivals 20 = .ok (.ifCond .eq 12, 3) := by decide +kernel
theorem dX11_rivals_23 : decode cX11_rivals 23 = .ok (.aload_n 0, 1) := by decide +kernel
theorem dX11_rivals_24 : decode cX11_rivals 24 = .ok (.iload_n 1, 1) := by decide +kernel
theorem dX11_rivals_25 : decode cX11_rivals 25 = .ok (.iload_n 2, 1) := by decide +kernel
theorem dX11_rivals_26 : decode cX11_rivals 26 = .ok (.invokevirtual 165, 3) := by decide +kernel
theorem dX11_rivals_29 : decode cX11_rivals 29 = .ok (.ifCond .ne 5, 3) := by decide +kernel
theorem dX11_rivals_32 : decode cX11_rivals 32 = .ok (.iconst (-1), 1) := by decide +kernel
theorem dX11_rivals_33 : decode cX11_rivals 33 = .ok (.ireturn, 1) := by decide +kernel
theorem dX11_rivals_34 : decode cX11_rivals 34 = .ok (.aload_n 0, 1) := by decide +kernel
theorem dX11_rivals_35 : decode cX11_rivals 35 = .ok (.getfield 68, 3) := by decide +kernel
theorem dX11_rivals_38 : decode cX11_rivals 38 = .ok (.iload_n 3, 1) := by decide +kernel
theorem dX11_rivals_39 : decode cX11_rivals 39 = .ok (.invokevirtual 191, 3) := by decide +kernel
theorem dX11_rivals_42 : decode cX11_rivals 42 = .ok (.lstore 4, 2) := by decide +kernel
theorem dX11_rivals_44 : decode cX11_rivals 44 = .ok (.lload 4, 2) := by decide +kernel
theorem dX11_rivals_46 : decode cX11_rivals 46 = .ok (.ldc2_w 195, 3) := by decide +kernel
theorem dX11_rivals_49 : decode cX11_rivals 49 = .ok (.lcmp, 1) := by decide +kernel
theorem dX11_rivals_50 : decode cX11_rivals 50 = .ok (.ifCond .le 8, 3) := by decide +kernel
theorem dX11_rivals_53 : decode cX11_rivals 53 = .ok (.ldc 197, 2) := by decide +kernel
theorem dX11_rivals_55 : decode cX11_rivals 55 = .ok (.goto 6, 3) := by decide +kernel
theorem dX11_rivals_58 : decode cX11_rivals 58 = .ok (.lload 4, 2) := by decide +kernel
theorem dX11_rivals_60 : decode cX11_rivals 60 = .ok (.l2i, 1) := by decide +kernel
theorem dX11_rivals_61 : decode cX11_rivals 61 = .ok (.ireturn, 1) := by decide +kernel
theorem dX11_shared_0 : decode cX11_shared 0 = .ok (.iload_n 1, 1) := by decide +kernel
theorem dX11_shared_1 : decode cX11_shared 1 = .ok (.iload_n 2, 1) := by decide +kernel
theorem dX11_shared_2 : decode cX11_shared 2 = .ok (.if_icmp .eq 27, 3) := by decide +kernel
theorem dX11_shared_5 : decode cX11_shared 5 = .ok (.aload_n 0, 1) := by decide +kernel
theorem dX11_shared_6 : decode cX11_shared 6 = .ok (.iload_n 1, 1) := by decide +kernel
theorem dX11_shared_7 : decode cX11_shared 7 = .ok (.invokevirtual 159, 3) := by decide +kernel
theorem dX11_shared_10 : decode cX11_shared 10 = .ok (.ifCond .eq 19, 3) := by decide +kernel
theorem dX11_shared_13 : decode cX11_shared 13 = .ok (.aload_n 0, 1) := by decide +kernel
theorem dX11_shared_14 : decode cX11_shared 14 = .ok (.iload_n 2, 1) := by decide +kernel
theorem dX11_shared_15 : decode cX11_shared 15 = .ok (.invokevirtual 159, 3) := by decide +kernel
theorem dX11_shared_18 : decode cX11_shared 18 = .ok (.ifCond .eq 11, 3) := by decide +kernel
theorem dX11_shared_21 : decode cX11_shared 21 = .ok (.aload_n 0, 1) := by decide +kernel
theorem dX11_shared_22 : decode cX11_shared 22 = .ok (.iload_n 3, 1) := by decide +kernel
theorem dX11_shared_23 : decode cX11_shared 23 = .ok (.invokevirtual 162, 3) := by decide +kernel
theorem dX11_shared_26 : decode cX11_shared 26 = .ok (.ifCond .ne 5, 3) := by decide +kernel
theorem dX11_shared_29 : decode cX11_shared 29 = .ok (.iconst (-1), 1) := by decide +kernel
theorem dX11_shared_30 : decode cX11_shared 30 = .ok (.ireturn, 1) := by decide +kernel
theorem dX11_shared_31 : decode cX11_shared 31 = .ok (.aload_n 0, 1) := by decide +kernel
theorem dX11_shared_32 : decode cX11_shared 32 = .ok (.iload_n 1, 1) := by decide +kernel
theorem dX11_shared_33 : decode cX11_shared 33 = .ok (.iload_n 3, 1) := by decide +kernel
theorem dX11_shared_34 : decode cX11_shared 34 = .ok (.invokevirtual 198, 3) := by decide +kernel
theorem dX11_shared_37 : decode cX11_shared 37 = .ok (.ifCond .eq 12, 3) := by decide +kernel
theorem dX11_shared_40 : decode cX11_shared 40 = .ok (.aload_n 0, 1) := by decide +kernel
theorem dX11_shared_41 : decode cX11_shared 41 = .ok (.iload_n 2, 1) := by decide +kernel
theorem dX11_shared_42 : decode cX11_shared 42 = .ok (.iload_n 3, 1) := by decide +kernel
theorem dX11_shared_43 : decode cX11_shared 43 = .ok (.invokevirtual 198, 3) := by decide +kernel
theorem dX11_shared_46 : decode cX11_shared 46 = .ok (.ifCond .ne 5, 3) := by decide +kernel
theorem dX11_shared_49 : decode cX11_shared 49 = .ok (.iconst 0, 1) := by decide +kernel
theorem dX11_shared_50 : decode cX11_shared 50 = .ok (.ireturn, 1) := by decide +kernel
theorem dX11_shared_51 : decode cX11_shared 51 = .ok (.aload_n 0, 1) := by decide +kernel
theorem dX11_shared_52 : decode cX11_shared 52 = .ok (.getfield 32, 3) := by decide +kernel
theorem dX11_shared_55 : decode cX11_shared 55 = .ok (.iload_n 1, 1) := by decide +kernel
theorem dX11_shared_56 : decode cX11_shared 56 = .ok (.aaload, 1) := by decide +kernel
theorem dX11_shared_57 : decode cX11_shared 57 = .ok (.aload_n 0, 1) := by decide +kernel
theorem dX11_shared_58 : decode cX11_shared 58 = .ok (.getfield 32, 3) := by decide +kernel
theorem dX11_shared_61 : decode cX11_shared 61 = .ok (.iload_n 2, 1) := by decide +kernel
theorem dX11_shared_62 : decode cX11_shared 62 = .ok (.aaload, 1) := by decide +kernel
theorem dX11_shared_63 : decode cX11_shared 63 = .ok (.invokevirtual 201, 3) := by decide +kernel
theorem dX11_shared_66 : decode cX11_shared 66 = .ok (.ireturn, 1) := by decide +kernel
theorem dX11_of_0 : decode cX11_of 0 = .ok (.aload_n 0, 1) := by decide +kernel
theorem dX11_of_1 : decode cX11_of 1 = .ok (.iload_n 1, 1) := by decide +kernel
theorem dX11_of_2 : decode cX11_of 2 = .ok (.invokevirtual 159, 3) := by decide +kernel
theorem dX11_of_5 : decode cX11_of 5 = .ok (.ifCond .ne 13, 3) := by decide +kernel
theorem dX11_of_8 : decode cX11_of 8 = .ok (.new 205, 3) := by decide +kernel
theorem dX11_of_11 : decode cX11_of 11 = .ok (.dup, 1) := by decide +kernel
theorem dX11_of_12 : decode cX11_of 12 = .ok (.ldc 207, 2) := by decide +kernel
theorem dX11_of_14 : decode cX11_of 14 = .ok (.invokespecial 209, 3) := by decide +kernel
theorem dX11_of_17 : decode cX11_of 17 = .ok (.athrow, 1) := by decide +kernel
theorem dX11_of_18 : decode cX11_of 18 = .ok (.aload_n 0, 1) := by decide +kernel
theorem dX11_of_19 : decode cX11_of 19 = .ok (.getfield 32, 3) := by decide +kernel
theorem dX11_of_22 : decode cX11_of 22 = .ok (.iload_n 1, 1) := by decide +kernel
theorem dX11_of_23 : decode cX11_of 23 = .ok (.aaload, 1) := by decide +kernel
theorem dX11_of_24 : decode cX11_of 24 = .ok (.astore_n 3, 1) := by decide +kernel
theorem dX11_of_25 : decode cX11_of 25 = .ok (.iload_n 2, 1) := by decide +kernel
theorem dX11_of_26 : decode cX11_of 26 = .ok (.ifCond .ne 8, 3) := by decide +kernel
theorem dX11_of_29 : decode cX11_of 29 = .ok (.aload_n 3, 1) := by decide +kernel
theorem dX11_of_30 : decode cX11_of 30 = .ok (.getfield 94, 3) := by decide +kernel
theorem dX11_of_33 : decode cX11_of 33 = .ok (.ireturn, 1) := by decide +kernel
theorem dX11_of_34 : decode cX11_of 34 = .ok (.iload_n 2, 1) := by decide +kernel
theorem dX11_of_35 : decode cX11_of 35 = .ok (.iconst 1, 1) := by decide +kernel
theorem dX11_of_36 : decode cX11_of 36 = .ok (.if_icmp .ne 8, 3) := by decide +kernel
theorem dX11_of_39 : decode cX11_of 39 = .ok (.aload_n 3, 1) := by decide +kernel
theorem dX11_of_40 : decode cX11_of 40 = .ok (.getfield 212, 3) := by decide +kernel
theorem dX11_of_43 : decode cX11_of 43 = .ok (.ireturn, 1) := by decide +kernel
theorem dX11_of_44 : decode cX11_of 44 = .ok (.iload_n 2, 1) := by decide +kernel
theorem dX11_of_45 : decode cX11_of 45 = .ok (.bipush 10, 2) := by decide +kernel
theorem dX11_of_47 : decode cX11_of 47 = .ok (.if_icmp .lt 27, 3) := by decide +kernel
theorem dX11_of_50 : decode cX11_of 50 = .ok (.aload_n 3, 1) := by decide +kernel
theorem dX11_of_51 : decode cX11_of 51 = .ok (.iload_n 2, 1) := by decide +kernel
theorem dX11_of_52 : decode cX11_of 52 = .ok (.bipush 10, 2) := by decide +kernel
theorem dX11_of_54 : decode cX11_of 54 = .ok (.isub, 1) := by decide +kernel
theorem dX11_of_55 : decode cX11_of 55 = .ok (.invokevirtual 215, 3) := by decide +kernel
theorem dX11_of_58 : decode cX11_of 58 = .ok (.ifCond .eq 16, 3) := by decide +kernel
theorem dX11_of_61 : decode cX11_of 61 = .ok (.aload_n 3, 1) := by decide +kernel
theorem dX11_of_62 : decode cX11_of 62 = .ok (.getfield 151, 3) := by decide +kernel
theorem dX11_of_65 : decode cX11_of 65 = .ok (.iload_n 2, 1) := by decide +kernel
theorem dX11_of_66 : decode cX11_of 66 = .ok (.bipush 10, 2) := by decide +kernel
theorem dX11_of_68 : decode cX11_of 68 = .ok (.isub, 1) := by decide +kernel
theorem dX11_of_69 : decode cX11_of 69 = .ok (.aaload, 1) := by decide +kernel
theorem dX11_of_70 : decode cX11_of 70 = .ok (.invokevirtual 217, 3) := by decide +kernel
theorem dX11_of_73 : decode cX11_of 73 = .ok (.ireturn, 1) := by decide +kernel
theorem dX11_of_74 : decode cX11_of 74 = .ok (.iload_n 2, 1) := by decide +kernel
theorem dX11_of_75 : decode cX11_of 75 = .ok (.bipush 20, 2) := by decide +kernel
theorem dX11_of_77 : decode cX11_of 77 = .ok (.if_icmp .lt 27, 3) := by decide +kernel
theorem dX11_of_80 : decode cX11_of 80 = .ok (.aload_n 3, 1) := by decide +kernel
theorem dX11_of_81 : decode cX11_of 81 = .ok (.iload_n 2, 1) := by decide +kernel
theorem dX11_of_82 : decode cX11_of 82 = .ok (.bipush 20, 2) := by decide +kernel
theorem dX11_of_84 : decode cX11_of 84 = .ok (.isub, 1) := by decide +kernel
theorem dX11_of_85 : decode cX11_of 85 = .ok (.invokevirtual 223, 3) := by decide +kernel
theorem dX11_of_88 : decode cX11_of 88 = .ok (.ifCond .eq 16, 3) := by decide +kernel
theorem dX11_of_91 : decode cX11_of 91 = .ok (.aload_n 3, 1) := by decide +kernel
theorem dX11_of_92 : decode cX11_of 92 = .ok (.getfield 140, 3) := by decide +kernel
theorem dX11_of_95 : decode cX11_of 95 = .ok (.iload_n 2, 1) := by decide +kernel
theorem dX11_of_96 : decode cX11_of 96 = .ok (.bipush 20, 2) := by decide +kernel
theorem dX11_of_98 : decode cX11_of 98 = .ok (.isub, 1) := by decide +kernel
theorem dX11_of_99 : decode cX11_of 99 = .ok (.aaload, 1) := by decide +kernel
theorem dX11_of_100 : decode cX11_of 100 = .ok (.getfield 225, 3) := by decide +kernel
theorem dX11_of_103 : decode cX11_of 103 = .ok (.ireturn, 1) := by decide +kernel
theorem dX11_of_104 : decode cX11_of 104 = .ok (.new 205, 3) := by decide +kernel
theorem dX11_of_107 : decode cX11_of 107 = .ok (.dup, 1) := by decide +kernel
theorem dX11_of_108 : decode cX11_of 108 = .ok (.ldc 226, 2) := by decide +kernel
theorem dX11_of_110 : decode cX11_of 110 = .ok (.invokespecial 209, 3) := by decide +kernel
theorem dX11_of_113 : decode cX11_of 113 = .ok (.athrow, 1) := by decide +kernel
theorem dX11_letter_0 : decode cX11_letter 0 = .ok (.aload_n 0, 1) := by decide +kernel
theorem dX11_letter_1 : decode cX11_letter 1 = .ok (.iload_n 1, 1) := by decide +kernel
theorem dX11_letter_2 : decode cX11_letter 2 = .ok (.iload_n 2, 1) := by decide +kernel
theorem dX11_letter_3 : decode cX11_letter 3 = .ok (.invokevirtual 137, 3) := by decide +kernel
theorem dX11_letter_6 : decode cX11_letter 6 = .ok (.ifCond .ne 5, 3) := by decide +kernel
theorem dX11_letter_9 : decode cX11_letter 9 = .ok (.iconst (-1), 1) := by decide +kernel
theorem dX11_letter_10 : decode cX11_letter 10 = .ok (.ireturn, 1) := by decide +kernel
theorem dX11_letter_11 : decode cX11_letter 11 = .ok (.aload_n 0, 1) := by decide +kernel
theorem dX11_letter_12 : decode cX11_letter 12 = .ok (.getfield 32, 3) := by decide +kernel
theorem dX11_letter_15 : decode cX11_letter 15 = .ok (.iload_n 1, 1) := by decide +kernel
theorem dX11_letter_16 : decode cX11_letter 16 = .ok (.aaload, 1) := by decide +kernel
theorem dX11_letter_17 : decode cX11_letter 17 = .ok (.getfield 140, 3) := by decide +kernel
theorem dX11_letter_20 : decode cX11_letter 20 = .ok (.iload_n 2, 1) := by decide +kernel
theorem dX11_letter_21 : decode cX11_letter 21 = .ok (.aaload, 1) := by decide +kernel
theorem dX11_letter_22 : decode cX11_letter 22 = .ok (.astore 4, 2) := by decide +kernel
theorem dX11_letter_24 : decode cX11_letter 24 = .ok (.iload_n 3, 1) := by decide +kernel
theorem dX11_letter_25 : decode cX11_letter 25 = .ok (.ifCond .lt 22, 3) := by decide +kernel
theorem dX11_letter_28 : decode cX11_letter 28 = .ok (.iload_n 3, 1) := by decide +kernel
theorem dX11_letter_29 : decode cX11_letter 29 = .ok (.aload 4, 2) := by decide +kernel
theorem dX11_letter_31 : decode cX11_letter 31 = .ok (.getfield 225, 3) := by decide +kernel
theorem dX11_letter_34 : decode cX11_letter 34 = .ok (.if_icmp .ge 13, 3) := by decide +kernel
theorem dX11_letter_37 : decode cX11_letter 37 = .ok (.aload 4, 2) := by decide +kernel
theorem dX11_letter_39 : decode cX11_letter 39 = .ok (.getfield 228, 3) := by decide +kernel
theorem dX11_letter_42 : decode cX11_letter 42 = .ok (.iload_n 3, 1) := by decide +kernel
theorem dX11_letter_43 : decode cX11_letter 43 = .ok (.iaload, 1) := by decide +kernel
theorem dX11_letter_44 : decode cX11_letter 44 = .ok (.goto 4, 3) := by decide +kernel
theorem dX11_letter_47 : decode cX11_letter 47 = .ok (.iconst (-1), 1) := by decide +kernel
theorem dX11_letter_48 : decode cX11_letter 48 = .ok (.ireturn, 1) := by decide +kernel
theorem dX11_count_0 : decode cX11_count 0 = .ok (.iload_n 1, 1) := by decide +kernel
theorem dX11_count_1 : decode cX11_count 1 = .ok (.tableswitch 105 0 7 #[47, 52, 60, 68, 76, 81, 89, 97], 47) := by decide +kernel
theorem dX11_count_48 : decode cX11_count 48 = .ok (.aload_n 0, 1) := by decide +kernel
theorem dX11_count_49 : decode cX11_count 49 = .ok (.getfield 37, 3) := by decide +kernel
theorem dX11_count_52 : decode cX11_count 52 = .ok (.ireturn, 1) := by decide +kernel
theorem dX11_count_53 : decode cX11_count 53 = .ok (.aload_n 0, 1) := by decide +kernel
theorem dX11_count_54 : decode cX11_count 54 = .ok (.getfield 47, 3) := by decide +kernel
theorem dX11_count_57 : decode cX11_count 57 = .ok (.getfield 231, 3) := by decide +kernel
theorem dX11_count_60 : decode cX11_count 60 = .ok (.ireturn, 1) := by decide +kernel
theorem dX11_count_61 : decode cX11_count 61 = .ok (.aload_n 0, 1) := by decide +kernel
theorem dX11_count_62 : decode cX11_count 62 = .ok (.getfield 47, 3) := by decide +kernel
theorem dX11_count_65 : decode cX11_count 65 = .ok (.getfield 234, 3) := by decide +kernel
theorem dX11_count_68 : decode cX11_count 68 = .ok (.ireturn, 1) := by decide +kernel
theorem dX11_count_69 : decode cX11_count 69 = .ok (.aload_n 0, 1) := by decide +kernel
theorem dX11_count_70 : decode cX11_count 70 = .ok (.getfield 54, 3) := by decide +kernel
theorem dX11_count_73 : decode cX11_count 73 = .ok (.getfield 237, 3) := by decide +kernel
theorem dX11_count_76 : decode cX11_count 76 = .ok (.ireturn, 1) := by decide +kernel
theorem dX11_count_77 : decode cX11_count 77 = .ok (.aload_n 0, 1) := by decide +kernel
theorem dX11_count_78 : decode cX11_count 78 = .ok (.getfield 72, 3) := by decide +kernel
theorem dX11_count_81 : decode cX11_count 81 = .ok (.ireturn, 1) := by decide +kernel
theorem dX11_count_82 : decode cX11_count 82 = .ok (.aload_n 0, 1) := by decide +kernel
theorem dX11_count_83 : decode cX11_count 83 = .ok (.getfield 12, 3) := by decide +kernel
theorem dX11_count_86 : decode cX11_count 86 = .ok (.getfield 75, 3) := by decide +kernel
theorem dX11_count_89 : decode cX11_count 89 = .ok (.ireturn, 1) := by decide +kernel
theorem dX11_count_90 : decode cX11_count 90 = .ok (.aload_n 0, 1) := by decide +kernel
theorem dX11_count_91 : decode cX11_count 91 = .ok (.getfield 47, 3) := by decide +kernel
theorem dX11_count_94 : decode cX11_count 94 = .ok (.getfield 130, 3) := by decide +kernel
theorem dX11_count_97 : decode cX11_count 97 = .ok (.ireturn, 1) := by decide +kernel
theorem dX11_count_98 : decode cX11_count 98 = .ok (.aload_n 0, 1) := by decide +kernel
theorem dX11_count_99 : decode cX11_count 99 = .ok (.getfield 47, 3) := by decide +kernel
theorem dX11_count_102 : decode cX11_count 102 = .ok (.getfield 133, 3) := by decide +kernel
theorem dX11_count_105 : decode cX11_count 105 = .ok (.ireturn, 1) := by decide +kernel
theorem dX11_count_106 : decode cX11_count 106 = .ok (.aload_n 0, 1) := by decide +kernel
theorem dX11_count_107 : decode cX11_count 107 = .ok (.iload_n 1, 1) := by decide +kernel
theorem dX11_count_108 : decode cX11_count 108 = .ok (.invokevirtual 238, 3) := by decide +kernel
theorem dX11_count_111 : decode cX11_count 111 = .ok (.ireturn, 1) := by decide +kernel
theorem dX11_countOfRuin_0 : decode cX11_countOfRuin 0 = .ok (.iload_n 1, 1) := by decide +kernel
theorem dX11_countOfRuin_1 : decode cX11_countOfRuin 1 = .ok (.bipush 10, 2) := by decide +kernel
theorem dX11_countOfRuin_3 : decode cX11_countOfRuin 3 = .ok (.if_icmp .lt 33, 3) := by decide +kernel
theorem dX11_countOfRuin_6 : decode cX11_countOfRuin 6 = .ok (.iload_n 1, 1) := by decide +kernel
theorem dX11_countOfRuin_7 : decode cX11_countOfRuin 7 = .ok (.bipush 10, 2) := by decide +kernel
theorem dX11_countOfRuin_9 : decode cX11_countOfRuin 9 = .ok (.isub, 1) := by decide +kernel
theorem dX11_countOfRuin_10 : decode cX11_countOfRuin 10 = .ok (.aload_n 0, 1) := by decide +kernel
theorem dX11_countOfRuin_11 : decode cX11_countOfRuin 11 = .ok (.getfield 47, 3) := by decide +kernel
theorem dX11_countOfRuin_14 : decode cX11_countOfRuin 14 = .ok (.getfield 231, 3) := by decide +kernel
theorem dX11_countOfRuin_17 : decode cX11_countOfRuin 17 = .ok (.if_icmp .ge 19, 3) := by decide +kernel
theorem dX11_countOfRuin_20 : decode cX11_countOfRuin 20 = .ok (.aload_n 0, 1) := by decide +kernel
theorem dX11_countOfRuin_21 : decode cX11_countOfRuin 21 = .ok (.getfield 47, 3) := by decide +kernel
theorem dX11_countOfRuin_24 : decode cX11_countOfRuin 24 = .ok (.getfield 242, 3) := by decide +kernel
theorem dX11_countOfRuin_27 : decode cX11_countOfRuin 27 = .ok (.iload_n 1, 1) := by decide +kernel
theorem dX11_countOfRuin_28 : decode cX11_countOfRuin 28 = .ok (.bipush 10, 2) := by decide +kernel
theorem dX11_countOfRuin_30 : decode cX11_countOfRuin 30 = .ok (.isub, 1) := by decide +kernel
theorem dX11_countOfRuin_31 : decode cX11_countOfRuin 31 = .ok (.aaload, 1) := by decide +kernel
theorem dX11_countOfRuin_32 : decode cX11_countOfRuin 32 = .ok (.getfield 246, 3) := by decide +kernel
theorem dX11_countOfRuin_35 : decode cX11_countOfRuin 35 = .ok (.ireturn, 1) := by decide +kernel
theorem dX11_countOfRuin_36 : decode cX11_countOfRuin 36 = .ok (.iload_n 1, 1) := by decide +kernel
theorem dX11_countOfRuin_37 : decode cX11_countOfRuin 37 = .ok (.bipush 30, 2) := by decide +kernel
theorem dX11_countOfRuin_39 : decode cX11_countOfRuin 39 = .ok (.if_icmp .lt 33, 3) := by decide +kernel
theorem dX11_countOfRuin_42 : decode cX11_countOfRuin 42 = .ok (.iload_n 1, 1) := by decide +kernel
theorem dX11_countOfRuin_43 : decode cX11_countOfRuin 43 = .ok (.bipush 30, 2) := by decide +kernel
theorem dX11_countOfRuin_45 : decode cX11_countOfRuin 45 = .ok (.isub, 1) := by decide +kernel
theorem dX11_countOfRuin_46 : decode cX11_countOfRuin 46 = .ok (.aload_n 0, 1) := by decide +kernel
theorem dX11_countOfRuin_47 : decode cX11_countOfRuin 47 = .ok (.getfield 47, 3) := by decide +kernel
theorem dX11_countOfRuin_50 : decode cX11_countOfRuin 50 = .ok (.getfield 231, 3) := by decide +kernel
theorem dX11_countOfRuin_53 : decode cX11_countOfRuin 53 = .ok (.if_icmp .ge 19, 3) := by decide +kernel
theorem dX11_countOfRuin_56 : decode cX11_countOfRuin 56 = .ok (.aload_n 0, 1) := by decide +kernel
theorem dX11_countOfRuin_57 : decode cX11_countOfRuin 57 = .ok (.getfield 47, 3) := by decide +kernel
theorem dX11_countOfRuin_60 : decode cX11_countOfRuin 60 = .ok (.getfield 242, 3) := by decide +kernel
theorem dX11_countOfRuin_63 : decode cX11_countOfRuin 63 = .ok (.iload_n 1, 1) := by decide +kernel
theorem dX11_countOfRuin_64 : decode cX11_countOfRuin 64 = .ok (.bipush 30, 2) := by decide +kernel
theorem dX11_countOfRuin_66 : decode cX11_countOfRuin 66 = .ok (.isub, 1) := by decide +kernel
theorem dX11_countOfRuin_67 : decode cX11_countOfRuin 67 = .ok (.aaload, 1) := by decide +kernel
theorem dX11_countOfRuin_68 : decode cX11_countOfRuin 68 = .ok (.getfield 251, 3) := by decide +kernel
theorem dX11_countOfRuin_71 : decode cX11_countOfRuin 71 = .ok (.ireturn, 1) := by decide +kernel
theorem dX11_countOfRuin_72 : decode cX11_countOfRuin 72 = .ok (.iconst (-1), 1) := by decide +kernel
theorem dX11_countOfRuin_73 : decode cX11_countOfRuin 73 = .ok (.ireturn, 1) := by decide +kernel
theorem dX11_takeName_0 : decode cX11_takeName 0 = .ok (.aload_n 0, 1) := by decide +kernel
theorem dX11_takeName_1 : decode cX11_takeName 1 = .ok (.getfield 12, 3) := by decide +kernel
theorem dX11_takeName_4 : decode cX11_takeName 4 = .ok (.invokevirtual 254, 3) := by decide +kernel
theorem dX11_takeName_7 : decode cX11_takeName 7 = .ok (.istore_n 1, 1) := by decide +kernel
theorem dX11_takeName_8 : decode cX11_takeName 8 = .ok (.iload_n 1, 1) := by decide +kernel
theorem dX11_takeName_9 : decode cX11_takeName 9 = .ok (.ifCond .eq 22, 3) := by decide +kernel
theorem dX11_takeName_12 : decode cX11_takeName 12 = .ok (.aload_n 0, 1) := by decide +kernel
theorem dX11_takeName_13 : decode cX11_takeName 13 = .ok (.getfield 19, 3) := by decide +kernel
theorem dX11_takeName_16 : decode cX11_takeName 16 = .ok (.aload_n 0, 1) := by decide +kernel
theorem dX11_takeName_17 : decode cX11_takeName 17 = .ok (.getfield 12, 3) := by decide +kernel
theorem dX11_takeName_20 : decode cX11_takeName 20 = .ok (.iconst 0, 1) := by decide +kernel
theorem dX11_takeName_21 : decode cX11_takeName 21 = .ok (.aload_n 0, 1) := by decide +kernel
theorem dX11_takeName_22 : decode cX11_takeName 22 = .ok (.getfield 12, 3) := by decide +kernel
theorem dX11_takeName_25 : decode cX11_takeName 25 = .ok (.getfield 75, 3) := by decide +kernel
theorem dX11_takeName_28 : decode cX11_takeName 28 = .ok (.invokevirtual 257, 3) := by decide +kernel
theorem dX11_takeName_31 : decode cX11_takeName 31 = .ok (.aload_n 0, 1) := by decide +kernel
theorem dX11_takeName_32 : decode cX11_takeName 32 = .ok (.getfield 12, 3) := by decide +kernel
theorem dX11_takeName_35 : decode cX11_takeName 35 = .ok (.iconst 0, 1) := by decide +kernel
theorem dX11_takeName_36 : decode cX11_takeName 36 = .ok (.putfield 75, 3) := by decide +kernel
theorem dX11_takeName_39 : decode cX11_takeName 39 = .ok (.iload_n 1, 1) := by decide +kernel
theorem dX11_takeName_40 : decode cX11_takeName 40 = .ok (.ireturn, 1) := by decide +kernel
theorem dX11_hasList_0 : decode cX11_hasList 0 = .ok (.iload_n 1, 1) := by decide +kernel
theorem dX11_hasList_1 : decode cX11_hasList 1 = .ok (.ifCond .lt 15, 3) := by decide +kernel
theorem dX11_hasList_4 : decode cX11_hasList 4 = .ok (.iload_n 1, 1) := by decide +kernel
theorem dX11_hasList_5 : decode cX11_hasList 5 = .ok (.aload_n 0, 1) := by decide +kernel
theorem dX11_hasList_6 : decode cX11_hasList 6 = .ok (.getfield 37, 3) := by decide +kernel
theorem dX11_hasList_9 : decode cX11_hasList 9 = .ok (.if_icmp .ge 7, 3) := by decide +kernel
theorem dX11_hasList_12 : decode cX11_hasList 12 = .ok (.iconst 1, 1) := by decide +kernel
theorem dX11_hasList_13 : decode cX11_hasList 13 = .ok (.goto 4, 3) := by decide +kernel
theorem dX11_hasList_16 : decode cX11_hasList 16 = .ok (.iconst 0, 1) := by decide +kernel
theorem dX11_hasList_17 : decode cX11_hasList 17 = .ok (.ireturn, 1) := by decide +kernel
theorem dX11_hasStation_0 : decode cX11_hasStation 0 = .ok (.aload_n 0, 1) := by decide +kernel
theorem dX11_hasStation_1 : decode cX11_hasStation 1 = .ok (.iload_n 1, 1) := by decide +kernel
theorem dX11_hasStation_2 : decode cX11_hasStation 2 = .ok (.invokevirtual 159, 3) := by decide +kernel
theorem dX11_hasStation_5 : decode cX11_hasStation 5 = .ok (.ifCond .eq 20, 3) := by decide +kernel
theorem dX11_hasStation_8 : decode cX11_hasStation 8 = .ok (.aload_n 0, 1) := by decide +kernel
theorem dX11_hasStation_9 : decode cX11_hasStation 9 = .ok (.getfield 32, 3) := by decide +kernel
theorem dX11_hasStation_12 : decode cX11_hasStation 12 = .ok (.iload_n 1, 1) := by decide +kernel
theorem dX11_hasStation_13 : decode cX11_hasStation 13 = .ok (.aaload, 1) := by decide +kernel
theorem dX11_hasStation_14 : decode cX11_hasStation 14 = .ok (.iload_n 2, 1) := by decide +kernel
theorem dX11_hasStation_15 : decode cX11_hasStation 15 = .ok (.invokevirtual 223, 3) := by decide +kernel
theorem dX11_hasStation_18 : decode cX11_hasStation 18 = .ok (.ifCond .eq 7, 3) := by decide +kernel
theorem dX11_hasStation_21 : decode cX11_hasStation 21 = .ok (.iconst 1, 1) := by decide +kernel
theorem dX11_hasStation_22 : decode cX11_hasStation 22 = .ok (.goto 4, 3) := by decide +kernel
theorem dX11_hasStation_25 : decode cX11_hasStation 25 = .ok (.iconst 0, 1) := by decide +kernel
theorem dX11_hasStation_26 : decode cX11_hasStation 26 = .ok (.ireturn, 1) := by decide +kernel
theorem dX11_hasNumeral_0 : decode cX11_hasNumeral 0 = .ok (.aload_n 0, 1) := by decide +kernel
theorem dX11_hasNumeral_1 : decode cX11_hasNumeral 1 = .ok (.iload_n 1, 1) := by decide +kernel
theorem dX11_hasNumeral_2 : decode cX11_hasNumeral 2 = .ok (.invokevirtual 159, 3) := by decide +kernel
theorem dX11_hasNumeral_5 : decode cX11_hasNumeral 5 = .ok (.ifCond .eq 20, 3) := by decide +kernel
theorem dX11_hasNumeral_8 : decode cX11_hasNumeral 8 = .ok (.aload_n 0, 1) := by decide +kernel
theorem dX11_hasNumeral_9 : decode cX11_hasNumeral 9 = .ok (.getfield 32, 3) := by decide +kernel
theorem dX11_hasNumeral_12 : decode cX11_hasNumeral 12 = .ok (.iload_n 1, 1) := by decide +kernel
theorem dX11_hasNumeral_13 : decode cX11_hasNumeral 13 = .ok (.aaload, 1) := by decide +kernel
theorem dX11_hasNumeral_14 : decode cX11_hasNumeral 14 = .ok (.iload_n 2, 1) := by decide +kernel
theorem dX11_hasNumeral_15 : decode cX11_hasNumeral 15 = .ok (.invokevirtual 215, 3) := by decide +kernel
theorem dX11_hasNumeral_18 : decode cX11_hasNumeral 18 = .ok (.ifCond .eq 7, 3) := by decide +kernel
theorem dX11_hasNumeral_21 : decode cX11_hasNumeral 21 = .ok (.iconst 1, 1) := by decide +kernel
theorem dX11_hasNumeral_22 : decode cX11_hasNumeral 22 = .ok (.goto 4, 3) := by decide +kernel
theorem dX11_hasNumeral_25 : decode cX11_hasNumeral 25 = .ok (.iconst 0, 1) := by decide +kernel
theorem dX11_hasNumeral_26 : decode cX11_hasNumeral 26 = .ok (.ireturn, 1) := by decide +kernel
theorem dX11_isKnownDay_0 : decode cX11_isKnownDay 0 = .ok (.iload_n 1, 1) := by decide +kernel
theorem dX11_isKnownDay_1 : decode cX11_isKnownDay 1 = .ok (.ifCond .lt 15, 3) := by decide +kernel
theorem dX11_isKnownDay_4 : decode cX11_isKnownDay 4 = .ok (.iload_n 1, 1) := by decide +kernel
theorem dX11_isKnownDay_5 : decode cX11_isKnownDay 5 = .ok (.aload_n 0, 1) := by decide +kernel
theorem dX11_isKnownDay_6 : decode cX11_isKnownDay 6 = .ok (.getfield 72, 3) := by decide +kernel
theorem dX11_isKnownDay_9 : decode cX11_isKnownDay 9 = .ok (.if_icmp .gt 7, 3) := by decide +kernel
theorem dX11_isKnownDay_12 : decode cX11_isKnownDay 12 = .ok (.iconst 1, 1) := by decide +kernel
theorem dX11_isKnownDay_13 : decode cX11_isKnownDay 13 = .ok (.goto 4, 3) := by decide +kernel
theorem dX11_isKnownDay_16 : decode cX11_isKnownDay 16 = .ok (.iconst 0, 1) := by decide +kernel
theorem dX11_isKnownDay_17 : decode cX11_isKnownDay 17 = .ok (.ireturn, 1) := by decide +kernel
theorem dX11_isPlace_0 : decode cX11_isPlace 0 = .ok (.iload_n 0, 1) := by decide +kernel
theorem dX11_isPlace_1 : decode cX11_isPlace 1 = .ok (.ifCond .lt 14, 3) := by decide +kernel
theorem dX11_isPlace_4 : decode cX11_isPlace 4 = .ok (.iload_n 0, 1) := by decide +kernel
theorem dX11_isPlace_5 : decode cX11_isPlace 5 = .ok (.sipush 600, 3) := by decide +kernel
theorem dX11_isPlace_8 : decode cX11_isPlace 8 = .ok (.if_icmp .gt 7, 3) := by decide +kernel
theorem dX11_isPlace_11 : decode cX11_isPlace 11 = .ok (.iconst 1, 1) := by decide +kernel
theorem dX11_isPlace_12 : decode cX11_isPlace 12 = .ok (.goto 4, 3) := by decide +kernel
theorem dX11_isPlace_15 : decode cX11_isPlace 15 = .ok (.iconst 0, 1) := by decide +kernel
theorem dX11_isPlace_16 : decode cX11_isPlace 16 = .ok (.ireturn, 1) := by decide +kernel
theorem dX11_isUnit_0 : decode cX11_isUnit 0 = .ok (.iload_n 0, 1) := by decide +kernel
theorem dX11_isUnit_1 : decode cX11_isUnit 1 = .ok (.iconst 2, 1) := by decide +kernel
theorem dX11_isUnit_2 : decode cX11_isUnit 2 = .ok (.if_icmp .eq 8, 3) := by decide +kernel
theorem dX11_isUnit_5 : decode cX11_isUnit 5 = .ok (.iload_n 0, 1) := by decide +kernel
theorem dX11_isUnit_6 : decode cX11_isUnit 6 = .ok (.iconst 3, 1) := by decide +kernel
theorem dX11_isUnit_7 : decode cX11_isUnit 7 = .ok (.if_icmp .ne 7, 3) := by decide +kernel
theorem dX11_isUnit_10 : decode cX11_isUnit 10 = .ok (.iconst 1, 1) := by decide +kernel
theorem dX11_isUnit_11 : decode cX11_isUnit 11 = .ok (.goto 4, 3) := by decide +kernel
theorem dX11_isUnit_14 : decode cX11_isUnit 14 = .ok (.iconst 0, 1) := by decide +kernel
theorem dX11_isUnit_15 : decode cX11_isUnit 15 = .ok (.ireturn, 1) := by decide +kernel
theorem dX11_isSignOrNone_0 : decode cX11_isSignOrNone 0 = .ok (.iload_n 0, 1) := by decide +kernel
theorem dX11_isSignOrNone_1 : decode cX11_isSignOrNone 1 = .ok (.ifCond .lt 15, 3) := by decide +kernel
theorem dX11_isSignOrNone_4 : decode cX11_isSignOrNone 4 = .ok (.iload_n 0, 1) := by decide +kernel
theorem dX11_isSignOrNone_5 : decode cX11_isSignOrNone 5 = .ok (.getstatic 261, 3) := by decide +kernel
theorem dX11_isSignOrNone_8 : decode cX11_isSignOrNone 8 = .ok (.arraylength, 1) := by decide +kernel
theorem dX11_isSignOrNone_9 : decode cX11_isSignOrNone 9 = .ok (.if_icmp .ge 7, 3) := by decide +kernel
theorem dX11_isSignOrNone_12 : decode cX11_isSignOrNone 12 = .ok (.iconst 1, 1) := by decide +kernel
theorem dX11_isSignOrNone_13 : decode cX11_isSignOrNone 13 = .ok (.goto 4, 3) := by decide +kernel
theorem dX11_isSignOrNone_16 : decode cX11_isSignOrNone 16 = .ok (.iconst 0, 1) := by decide +kernel
theorem dX11_isSignOrNone_17 : decode cX11_isSignOrNone 17 = .ok (.ireturn, 1) := by decide +kernel
theorem dX11_isWidth_0 : decode cX11_isWidth 0 = .ok (.iload_n 0, 1) := by decide +kernel
theorem dX11_isWidth_1 : decode cX11_isWidth 1 = .ok (.ifCond .lt 13, 3) := by decide +kernel
theorem dX11_isWidth_4 : decode cX11_isWidth 4 = .ok (.iload_n 0, 1) := by decide +kernel
theorem dX11_isWidth_5 : decode cX11_isWidth 5 = .ok (.bipush 20, 2) := by decide +kernel
theorem dX11_isWidth_7 : decode cX11_isWidth 7 = .ok (.if_icmp .gt 7, 3) := by decide +kernel
theorem dX11_isWidth_10 : decode cX11_isWidth 10 = .ok (.iconst 1, 1) := by decide +kernel
theorem dX11_isWidth_11 : decode cX11_isWidth 11 = .ok (.goto 4, 3) := by decide +kernel
theorem dX11_isWidth_14 : decode cX11_isWidth 14 = .ok (.iconst 0, 1) := by decide +kernel
theorem dX11_isWidth_15 : decode cX11_isWidth 15 = .ok (.ireturn, 1) := by decide +kernel
theorem dX11_lay_0 : decode cX11_lay 0 = .ok (.aload_n 0, 1) := by decide +kernel
theorem dX11_lay_1 : decode cX11_lay 1 = .ok (.getfield 32, 3) := by decide +kernel
theorem dX11_lay_4 : decode cX11_lay 4 = .ok (.iload_n 1, 1) := by decide +kernel
theorem dX11_lay_5 : decode cX11_lay 5 = .ok (.aaload, 1) := by decide +kernel
theorem dX11_lay_6 : decode cX11_lay 6 = .ok (.astore_n 3, 1) := by decide +kernel
theorem dX11_lay_7 : decode cX11_lay 7 = .ok (.aload_n 0, 1) := by decide +kernel
theorem dX11_lay_8 : decode cX11_lay 8 = .ok (.getfield 68, 3) := by decide +kernel
theorem dX11_lay_11 : decode cX11_lay 11 = .ok (.aload_n 3, 1) := by decide +kernel
theorem dX11_lay_12 : decode cX11_lay 12 = .ok (.aload_n 0, 1) := by decide +kernel
theorem dX11_lay_13 : decode cX11_lay 13 = .ok (.getfield 54, 3) := by decide +kernel
theorem dX11_lay_16 : decode cX11_lay 16 = .ok (.invokevirtual 264, 3) := by decide +kernel
theorem dX11_lay_19 : decode cX11_lay 19 = .ok (.iconst 0, 1) := by decide +kernel
theorem dX11_lay_20 : decode cX11_lay 20 = .ok (.istore 4, 2) := by decide +kernel
theorem dX11_lay_22 : decode cX11_lay 22 = .ok (.iload 4, 2) := by decide +kernel
theorem dX11_lay_24 : decode cX11_lay 24 = .ok (.aload_n 3, 1) := by decide +kernel
theorem dX11_lay_25 : decode cX11_lay 25 = .ok (.getfield 212, 3) := by decide +kernel
theorem dX11_lay_28 : decode cX11_lay 28 = .ok (.if_icmp .ge 38, 3) := by decide +kernel
theorem dX11_lay_31 : decode cX11_lay 31 = .ok (.aload_n 0, 1) := by decide +kernel
theorem dX11_lay_32 : decode cX11_lay 32 = .ok (.getfield 47, 3) := by decide +kernel
theorem dX11_lay_35 : decode cX11_lay 35 = .ok (.aload_n 0, 1) := by decide +kernel
theorem dX11_lay_36 : decode cX11_lay 36 = .ok (.getfield 68, 3) := by decide +kernel
theorem dX11_lay_39 : decode cX11_lay 39 = .ok (.getfield 268, 3) := by decide +kernel
theorem dX11_lay_42 : decode cX11_lay 42 = .ok (.iload 4, 2) := by decide +kernel
theorem dX11_lay_44 : decode cX11_lay 44 = .ok (.aaload, 1) := by decide +kernel
theorem dX11_lay_45 : decode cX11_lay 45 = .ok (.aload_n 3, 1) := by decide +kernel
theorem dX11_lay_46 : decode cX11_lay 46 = .ok (.getfield 140, 3) := by decide +kernel
theorem dX11_lay_49 : decode cX11_lay 49 = .ok (.iload 4, 2) := by decide +kernel
theorem dX11_lay_51 : decode cX11_lay 51 = .ok (.aaload, 1) := by decide +kernel
theorem dX11_lay_52 : decode cX11_lay 52 = .ok (.iload_n 2, 1) := by decide +kernel
theorem dX11_lay_53 : decode cX11_lay 53 = .ok (.aload_n 0, 1) := by decide +kernel
theorem dX11_lay_54 : decode cX11_lay 54 = .ok (.getfield 61, 3) := by decide +kernel
theorem dX11_lay_57 : decode cX11_lay 57 = .ok (.invokevirtual 272, 3) := by decide +kernel
theorem dX11_lay_60 : decode cX11_lay 60 = .ok (.iinc 4 1, 3) := by decide +kernel
theorem dX11_lay_63 : decode cX11_lay 63 = .ok (.goto (-41), 3) := by decide +kernel
theorem dX11_lay_66 : decode cX11_lay 66 = .ok (.aload_n 0, 1) := by decide +kernel
theorem dX11_lay_67 : decode cX11_lay 67 = .ok (.getfield 68, 3) := by decide +kernel
theorem dX11_lay_70 : decode cX11_lay 70 = .ok (.invokevirtual 276, 3) := by decide +kernel
theorem dX11_lay_73 : decode cX11_lay 73 = .ok (.aload_n 0, 1) := by decide +kernel
theorem dX11_lay_74 : decode cX11_lay 74 = .ok (.getfield 68, 3) := by decide +kernel
theorem dX11_lay_77 : decode cX11_lay 77 = .ok (.invokevirtual 279, 3) := by decide +kernel
theorem dX11_lay_80 : decode cX11_lay 80 = .ok (.ireturn, 1) := by decide +kernel
theorem dX11_markMisread_0 : decode cX11_markMisread 0 = .ok (.aload_n 0, 1) := by decide +kernel
theorem dX11_markMisread_1 : decode cX11_markMisread 1 = .ok (.iload_n 1, 1) := by decide +kernel
theorem dX11_markMisread_2 : decode cX11_markMisread 2 = .ok (.iload_n 2, 1) := by decide +kernel
theorem dX11_markMisread_3 : decode cX11_markMisread 3 = .ok (.invokevirtual 165, 3) := by decide +kernel
theorem dX11_markMisread_6 : decode cX11_markMisread 6 = .ok (.ifCond .ne 5, 3) := by decide +kernel
theorem dX11_markMisread_9 : decode cX11_markMisread 9 = .ok (.iconst 0, 1) := by decide +kernel
theorem dX11_markMisread_10 : decode cX11_markMisread 10 = .ok (.ireturn, 1) := by decide +kernel
theorem dX11_markMisread_11 : decode cX11_markMisread 11 = .ok (.aload_n 0, 1) := by decide +kernel
theorem dX11_markMisread_12 : decode cX11_markMisread 12 = .ok (.getfield 68, 3) := by decide +kernel
theorem dX11_markMisread_15 : decode cX11_markMisread 15 = .ok (.invokevirtual 171, 3) := by decide +kernel
theorem dX11_markMisread_18 : decode cX11_markMisread 18 = .ok (.aload_n 0, 1) := by decide +kernel
theorem dX11_markMisread_19 : decode cX11_markMisread 19 = .ok (.getfield 32, 3) := by decide +kernel
theorem dX11_markMisread_22 : decode cX11_markMisread 22 = .ok (.iload_n 1, 1) := by decide +kernel
theorem dX11_markMisread_23 : decode cX11_markMisread 23 = .ok (.aaload, 1) := by decide +kernel
theorem dX11_markMisread_24 : decode cX11_markMisread 24 = .ok (.aload_n 0, 1) := by decide +kernel
theorem dX11_markMisread_25 : decode cX11_markMisread 25 = .ok (.getfield 68, 3) := by decide +kernel
theorem dX11_markMisread_28 : decode cX11_markMisread 28 = .ok (.getfield 174, 3) := by decide +kernel
theorem dX11_markMisread_31 : decode cX11_markMisread 31 = .ok (.invokevirtual 282, 3) := by decide +kernel
theorem dX11_markMisread_34 : decode cX11_markMisread 34 = .ok (.iconst 1, 1) := by decide +kernel
theorem dX11_markMisread_35 : decode cX11_markMisread 35 = .ok (.ireturn, 1) := by decide +kernel
