theorem dX12_first_35 : decode cX12_first 35 = .ok (.iconst (-1), 1) := by decide +kernel
theorem dX12_first_36 : decode cX12_first 36 = .ok (.ireturn, 1) := by decide +kernel
theorem dX12_costOf_0 : decode cX12_costOf 0 = .ok (.aload_n 0, 1) := by decide +kernel
theorem dX12_costOf_1 : decode cX12_costOf 1 = .ok (.iload_n 1, 1) := by decide +kernel
theorem dX12_costOf_2 : decode cX12_costOf 2 = .ok (.iload_n 2, 1) := by decide +kernel
theorem dX12_costOf_3 : decode cX12_costOf 3 = .ok (.invokevirtual 201, 3) := by decide +kernel
theorem dX12_costOf_6 : decode cX12_costOf 6 = .ok (.istore 4, 2) := by decide +kernel
theorem dX12_costOf_8 : decode cX12_costOf 8 = .ok (.iload_n 3, 1) := by decide +kernel
theorem dX12_costOf_9 : decode cX12_costOf 9 = .ok (.iload 4, 2) := by decide +kernel
theorem dX12_costOf_11 : decode cX12_costOf 11 = .ok (.if_icmp .ne 7, 3) := by decide +kernel
theorem dX12_costOf_14 : decode cX12_costOf 14 = .ok (.iconst 0, 1) := by decide +kernel
theorem dX12_costOf_15 : decode cX12_costOf 15 = .ok (.goto 5, 3) := by decide +kernel
theorem dX12_costOf_18 : decode cX12_costOf 18 = .ok (.ldc 204, 2) := by decide +kernel
theorem dX12_costOf_20 : decode cX12_costOf 20 = .ok (.istore 5, 2) := by decide +kernel
theorem dX12_costOf_22 : decode cX12_costOf 22 = .ok (.iconst 0, 1) := by decide +kernel
theorem dX12_costOf_23 : decode cX12_costOf 23 = .ok (.istore 6, 2) := by decide +kernel
theorem dX12_costOf_25 : decode cX12_costOf 25 = .ok (.iload 6, 2) := by decide +kernel
theorem dX12_costOf_27 : decode cX12_costOf 27 = .ok (.aload_n 0, 1) := by decide +kernel
theorem dX12_costOf_28 : decode cX12_costOf 28 = .ok (.getfield 187, 3) := by decide +kernel
theorem dX12_costOf_31 : decode cX12_costOf 31 = .ok (.if_icmp .ge 69, 3) := by decide +kernel
theorem dX12_costOf_34 : decode cX12_costOf 34 = .ok (.iload 4, 2) := by decide +kernel
theorem dX12_costOf_36 : decode cX12_costOf 36 = .ok (.aload_n 0, 1) := by decide +kernel
theorem dX12_costOf_37 : decode cX12_costOf 37 = .ok (.getfield 64, 3) := by decide +kernel
theorem dX12_costOf_40 : decode cX12_costOf 40 = .ok (.iload 6, 2) := by decide +kernel
theorem dX12_costOf_42 : decode cX12_costOf 42 = .ok (.iaload, 1) := by decide +kernel
theorem dX12_costOf_43 : decode cX12_costOf 43 = .ok (.invokestatic 171, 3) := by decide +kernel
theorem dX12_costOf_46 : decode cX12_costOf 46 = .ok (.isub, 1) := by decide +kernel
theorem dX12_costOf_47 : decode cX12_costOf 47 = .ok (.aload_n 0, 1) := by decide +kernel
theorem dX12_costOf_48 : decode cX12_costOf 48 = .ok (.getfield 61, 3) := by decide +kernel
theorem dX12_costOf_51 : decode cX12_costOf 51 = .ok (.iload 6, 2) := by decide +kernel
theorem dX12_costOf_53 : decode cX12_costOf 53 = .ok (.iaload, 1) := by decide +kernel
theorem dX12_costOf_54 : decode cX12_costOf 54 = .ok (.invokestatic 171, 3) := by decide +kernel
theorem dX12_costOf_57 : decode cX12_costOf 57 = .ok (.iadd, 1) := by decide +kernel
theorem dX12_costOf_58 : decode cX12_costOf 58 = .ok (.iload_n 3, 1) := by decide +kernel
theorem dX12_costOf_59 : decode cX12_costOf 59 = .ok (.if_icmp .ne 35, 3) := by decide +kernel
theorem dX12_costOf_62 : decode cX12_costOf 62 = .ok (.aload_n 0, 1) := by decide +kernel
theorem dX12_costOf_63 : decode cX12_costOf 63 = .ok (.getfield 67, 3) := by decide +kernel
theorem dX12_costOf_66 : decode cX12_costOf 66 = .ok (.iload 6, 2) := by decide +kernel
theorem dX12_costOf_68 : decode cX12_costOf 68 = .ok (.iaload, 1) := by decide +kernel
theorem dX12_costOf_69 : decode cX12_costOf 69 = .ok (.iload 5, 2) := by decide +kernel
theorem dX12_costOf_71 : decode cX12_costOf 71 = .ok (.if_icmp .ge 23, 3) := by decide +kernel
theorem dX12_costOf_74 : decode cX12_costOf 74 = .ok (.aload_n 0, 1) := by decide +kernel
theorem dX12_costOf_75 : decode cX12_costOf 75 = .ok (.iload_n 1, 1) := by decide +kernel
theorem dX12_costOf_76 : decode cX12_costOf 76 = .ok (.iload_n 2, 1) := by decide +kernel
theorem dX12_costOf_77 : decode cX12_costOf 77 = .ok (.iload 6, 2) := by decide +kernel
theorem dX12_costOf_79 : decode cX12_costOf 79 = .ok (.invokevirtual 205, 3) := by decide +kernel
theorem dX12_costOf_82 : decode cX12_costOf 82 = .ok (.ifCond .eq 12, 3) := by decide +kernel
theorem dX12_costOf_85 : decode cX12_costOf 85 = .ok (.aload_n 0, 1) := by decide +kernel
theorem dX12_costOf_86 : decode cX12_costOf 86 = .ok (.getfield 67, 3) := by decide +kernel
theorem dX12_costOf_89 : decode cX12_costOf 89 = .ok (.iload 6, 2) := by decide +kernel
theorem dX12_costOf_91 : decode cX12_costOf 91 = .ok (.iaload, 1) := by decide +kernel
theorem dX12_costOf_92 : decode cX12_costOf 92 = .ok (.istore 5, 2) := by decide +kernel
theorem dX12_costOf_94 : decode cX12_costOf 94 = .ok (.iinc 6 1, 3) := by decide +kernel
theorem dX12_costOf_97 : decode cX12_costOf 97 = .ok (.goto (-72), 3) := by decide +kernel
theorem dX12_costOf_100 : decode cX12_costOf 100 = .ok (.iload 5, 2) := by decide +kernel
theorem dX12_costOf_102 : decode cX12_costOf 102 = .ok (.ireturn, 1) := by decide +kernel
theorem dX12_reading_0 : decode cX12_reading 0 = .ok (.aload_n 0, 1) := by decide +kernel
theorem dX12_reading_1 : decode cX12_reading 1 = .ok (.iconst 0, 1) := by decide +kernel
theorem dX12_reading_2 : decode cX12_reading 2 = .ok (.putfield 106, 3) := by decide +kernel
theorem dX12_reading_5 : decode cX12_reading 5 = .ok (.aload_n 0, 1) := by decide +kernel
theorem dX12_reading_6 : decode cX12_reading 6 = .ok (.iload_n 1, 1) := by decide +kernel
theorem dX12_reading_7 : decode cX12_reading 7 = .ok (.iload_n 2, 1) := by decide +kernel
theorem dX12_reading_8 : decode cX12_reading 8 = .ok (.invokevirtual 191, 3) := by decide +kernel
theorem dX12_reading_11 : decode cX12_reading 11 = .ok (.ifCond .eq 15, 3) := by decide +kernel
theorem dX12_reading_14 : decode cX12_reading 14 = .ok (.iload_n 2, 1) := by decide +kernel
theorem dX12_reading_15 : decode cX12_reading 15 = .ok (.aload_n 0, 1) := by decide +kernel
theorem dX12_reading_16 : decode cX12_reading 16 = .ok (.getfield 23, 3) := by decide +kernel
theorem dX12_reading_19 : decode cX12_reading 19 = .ok (.iload_n 1, 1) := by decide +kernel
theorem dX12_reading_20 : decode cX12_reading 20 = .ok (.iaload, 1) := by decide +kernel
theorem dX12_reading_21 : decode cX12_reading 21 = .ok (.iconst 1, 1) := by decide +kernel
theorem dX12_reading_22 : decode cX12_reading 22 = .ok (.isub, 1) := by decide +kernel
theorem dX12_reading_23 : decode cX12_reading 23 = .ok (.if_icmp .ne 5, 3) := by decide +kernel
theorem dX12_reading_26 : decode cX12_reading 26 = .ok (.iconst (-1), 1) := by decide +kernel
theorem dX12_reading_27 : decode cX12_reading 27 = .ok (.ireturn, 1) := by decide +kernel
theorem dX12_reading_28 : decode cX12_reading 28 = .ok (.aload_n 0, 1) := by decide +kernel
theorem dX12_reading_29 : decode cX12_reading 29 = .ok (.iload_n 1, 1) := by decide +kernel
theorem dX12_reading_30 : decode cX12_reading 30 = .ok (.iload_n 2, 1) := by decide +kernel
theorem dX12_reading_31 : decode cX12_reading 31 = .ok (.iload_n 3, 1) := by decide +kernel
theorem dX12_reading_32 : decode cX12_reading 32 = .ok (.invokevirtual 208, 3) := by decide +kernel
theorem dX12_reading_35 : decode cX12_reading 35 = .ok (.istore 4, 2) := by decide +kernel
theorem dX12_reading_37 : decode cX12_reading 37 = .ok (.iload 4, 2) := by decide +kernel
theorem dX12_reading_39 : decode cX12_reading 39 = .ok (.ldc 204, 2) := by decide +kernel
theorem dX12_reading_41 : decode cX12_reading 41 = .ok (.if_icmp .ne 7, 3) := by decide +kernel
theorem dX12_reading_44 : decode cX12_reading 44 = .ok (.iconst (-1), 1) := by decide +kernel
theorem dX12_reading_45 : decode cX12_reading 45 = .ok (.goto 5, 3) := by decide +kernel
theorem dX12_reading_48 : decode cX12_reading 48 = .ok (.iload 4, 2) := by decide +kernel
theorem dX12_reading_50 : decode cX12_reading 50 = .ok (.ireturn, 1) := by decide +kernel
theorem dX12_reads_0 : decode cX12_reads 0 = .ok (.iconst 0, 1) := by decide +kernel
theorem dX12_reads_1 : decode cX12_reads 1 = .ok (.istore_n 2, 1) := by decide +kernel
theorem dX12_reads_2 : decode cX12_reads 2 = .ok (.iload_n 2, 1) := by decide +kernel
theorem dX12_reads_3 : decode cX12_reads 3 = .ok (.iconst 1, 1) := by decide +kernel
theorem dX12_reads_4 : decode cX12_reads 4 = .ok (.iadd, 1) := by decide +kernel
theorem dX12_reads_5 : decode cX12_reads 5 = .ok (.aload_n 0, 1) := by decide +kernel
theorem dX12_reads_6 : decode cX12_reads 6 = .ok (.getfield 23, 3) := by decide +kernel
theorem dX12_reads_9 : decode cX12_reads 9 = .ok (.iload_n 1, 1) := by decide +kernel
theorem dX12_reads_10 : decode cX12_reads 10 = .ok (.iaload, 1) := by decide +kernel
theorem dX12_reads_11 : decode cX12_reads 11 = .ok (.if_icmp .ge 104, 3) := by decide +kernel
theorem dX12_reads_14 : decode cX12_reads 14 = .ok (.aload_n 0, 1) := by decide +kernel
theorem dX12_reads_15 : decode cX12_reads 15 = .ok (.getfield 82, 3) := by decide +kernel
theorem dX12_reads_18 : decode cX12_reads 18 = .ok (.iload_n 2, 1) := by decide +kernel
theorem dX12_reads_19 : decode cX12_reads 19 = .ok (.iconst 0, 1) := by decide +kernel
theorem dX12_reads_20 : decode cX12_reads 20 = .ok (.iastore, 1) := by decide +kernel
theorem dX12_reads_21 : decode cX12_reads 21 = .ok (.aload_n 0, 1) := by decide +kernel
theorem dX12_reads_22 : decode cX12_reads 22 = .ok (.iload_n 1, 1) := by decide +kernel
theorem dX12_reads_23 : decode cX12_reads 23 = .ok (.iload_n 2, 1) := by decide +kernel
theorem dX12_reads_24 : decode cX12_reads 24 = .ok (.invokevirtual 201, 3) := by decide +kernel
theorem dX12_reads_27 : decode cX12_reads 27 = .ok (.istore_n 3, 1) := by decide +kernel
theorem dX12_reads_28 : decode cX12_reads 28 = .ok (.aload_n 0, 1) := by decide +kernel
theorem dX12_reads_29 : decode cX12_reads 29 = .ok (.iload_n 2, 1) := by decide +kernel
theorem dX12_reads_30 : decode cX12_reads 30 = .ok (.iload_n 3, 1) := by decide +kernel
theorem dX12_reads_31 : decode cX12_reads 31 = .ok (.iconst 0, 1) := by decide +kernel
theorem dX12_reads_32 : decode cX12_reads 32 = .ok (.invokevirtual 212, 3) := by decide +kernel
theorem dX12_reads_35 : decode cX12_reads 35 = .ok (.iconst 0, 1) := by decide +kernel
theorem dX12_reads_36 : decode cX12_reads 36 = .ok (.istore 4, 2) := by decide +kernel
theorem dX12_reads_38 : decode cX12_reads 38 = .ok (.iload 4, 2) := by decide +kernel
theorem dX12_reads_40 : decode cX12_reads 40 = .ok (.aload_n 0, 1) := by decide +kernel
theorem dX12_reads_41 : decode cX12_reads 41 = .ok (.getfield 187, 3) := by decide +kernel
theorem dX12_reads_44 : decode cX12_reads 44 = .ok (.if_icmp .ge 65, 3) := by decide +kernel
theorem dX12_reads_47 : decode cX12_reads 47 = .ok (.iload_n 3, 1) := by decide +kernel
theorem dX12_reads_48 : decode cX12_reads 48 = .ok (.aload_n 0, 1) := by decide +kernel
theorem dX12_reads_49 : decode cX12_reads 49 = .ok (.getfield 64, 3) := by decide +kernel
theorem dX12_reads_52 : decode cX12_reads 52 = .ok (.iload 4, 2) := by decide +kernel
theorem dX12_reads_54 : decode cX12_reads 54 = .ok (.iaload, 1) := by decide +kernel
theorem dX12_reads_55 : decode cX12_reads 55 = .ok (.invokestatic 171, 3) := by decide +kernel
theorem dX12_reads_58 : decode cX12_reads 58 = .ok (.isub, 1) := by decide +kernel
theorem dX12_reads_59 : decode cX12_reads 59 = .ok (.aload_n 0, 1) := by decide +kernel
theorem dX12_reads_60 : decode cX12_reads 60 = .ok (.getfield 61, 3) := by decide +kernel
theorem dX12_reads_63 : decode cX12_reads 63 = .ok (.iload 4, 2) := by decide +kernel
theorem dX12_reads_65 : decode cX12_reads 65 = .ok (.iaload, 1) := by decide +kernel
theorem dX12_reads_66 : decode cX12_reads 66 = .ok (.invokestatic 171, 3) := by decide +kernel
theorem dX12_reads_69 : decode cX12_reads 69 = .ok (.iadd, 1) := by decide +kernel
theorem dX12_reads_70 : decode cX12_reads 70 = .ok (.istore 5, 2) := by decide +kernel
theorem dX12_reads_72 : decode cX12_reads 72 = .ok (.iload 5, 2) := by decide +kernel
theorem dX12_reads_74 : decode cX12_reads 74 = .ok (.ifCond .le 29, 3) := by decide +kernel
theorem dX12_reads_77 : decode cX12_reads 77 = .ok (.aload_n 0, 1) := by decide +kernel
theorem dX12_reads_78 : decode cX12_reads 78 = .ok (.iload_n 1, 1) := by decide +kernel
theorem dX12_reads_79 : decode cX12_reads 79 = .ok (.iload_n 2, 1) := by decide +kernel
theorem dX12_reads_80 : decode cX12_reads 80 = .ok (.iload 4, 2) := by decide +kernel
theorem dX12_reads_82 : decode cX12_reads 82 = .ok (.invokevirtual 205, 3) := by decide +kernel
theorem dX12_reads_85 : decode cX12_reads 85 = .ok (.ifCond .eq 18, 3) := by decide +kernel
theorem dX12_reads_88 : decode cX12_reads 88 = .ok (.aload_n 0, 1) := by decide +kernel
theorem dX12_reads_89 : decode cX12_reads 89 = .ok (.iload_n 2, 1) := by decide +kernel
theorem dX12_reads_90 : decode cX12_reads 90 = .ok (.iload 5, 2) := by decide +kernel
theorem dX12_reads_92 : decode cX12_reads 92 = .ok (.aload_n 0, 1) := by decide +kernel
theorem dX12_reads_93 : decode cX12_reads 93 = .ok (.iload_n 1, 1) := by decide +kernel
theorem dX12_reads_94 : decode cX12_reads 94 = .ok (.iload_n 2, 1) := by decide +kernel
theorem dX12_reads_95 : decode cX12_reads 95 = .ok (.iload 5, 2) := by decide +kernel
theorem dX12_reads_97 : decode cX12_reads 97 = .ok (.invokevirtual 208, 3) := by decide +kernel
theorem dX12_reads_100 : decode cX12_reads 100 = .ok (.invokevirtual 212, 3) := by decide +kernel
theorem dX12_reads_103 : decode cX12_reads 103 = .ok (.iinc 4 1, 3) := by decide +kernel
theorem dX12_reads_106 : decode cX12_reads 106 = .ok (.goto (-68), 3) := by decide +kernel
theorem dX12_reads_109 : decode cX12_reads 109 = .ok (.iinc 2 1, 3) := by decide +kernel
theorem dX12_reads_112 : decode cX12_reads 112 = .ok (.goto (-110), 3) := by decide +kernel
theorem dX12_reads_115 : decode cX12_reads 115 = .ok (.return_, 1) := by decide +kernel
theorem dX12_adds_0 : decode cX12_adds 0 = .ok (.iconst 0, 1) := by decide +kernel
theorem dX12_adds_1 : decode cX12_adds 1 = .ok (.istore 4, 2) := by decide +kernel
theorem dX12_adds_3 : decode cX12_adds 3 = .ok (.iload 4, 2) := by decide +kernel
theorem dX12_adds_5 : decode cX12_adds 5 = .ok (.aload_n 0, 1) := by decide +kernel
theorem dX12_adds_6 : decode cX12_adds 6 = .ok (.getfield 82, 3) := by decide +kernel
theorem dX12_adds_9 : decode cX12_adds 9 = .ok (.iload_n 1, 1) := by decide +kernel
theorem dX12_adds_10 : decode cX12_adds 10 = .ok (.iaload, 1) := by decide +kernel
theorem dX12_adds_11 : decode cX12_adds 11 = .ok (.if_icmp .ge 26, 3) := by decide +kernel
theorem dX12_adds_14 : decode cX12_adds 14 = .ok (.aload_n 0, 1) := by decide +kernel
theorem dX12_adds_15 : decode cX12_adds 15 = .ok (.getfield 76, 3) := by decide +kernel
theorem dX12_adds_18 : decode cX12_adds 18 = .ok (.bipush 21, 2) := by decide +kernel
theorem dX12_adds_20 : decode cX12_adds 20 = .ok (.iload_n 1, 1) := by decide +kernel
theorem dX12_adds_21 : decode cX12_adds 21 = .ok (.imul, 1) := by decide +kernel
theorem dX12_adds_22 : decode cX12_adds 22 = .ok (.iload 4, 2) := by decide +kernel
theorem dX12_adds_24 : decode cX12_adds 24 = .ok (.iadd, 1) := by decide +kernel
theorem dX12_adds_25 : decode cX12_adds 25 = .ok (.iaload, 1) := by decide +kernel
theorem dX12_adds_26 : decode cX12_adds 26 = .ok (.iload_n 2, 1) := by decide +kernel
theorem dX12_adds_27 : decode cX12_adds 27 = .ok (.if_icmp .ne 4, 3) := by decide +kernel
theorem dX12_adds_30 : decode cX12_adds 30 = .ok (.return_, 1) := by decide +kernel
theorem dX12_adds_31 : decode cX12_adds 31 = .ok (.iinc 4 1, 3) := by decide +kernel
theorem dX12_adds_34 : decode cX12_adds 34 = .ok (.goto (-31), 3) := by decide +kernel
theorem dX12_adds_37 : decode cX12_adds 37 = .ok (.aload_n 0, 1) := by decide +kernel
theorem dX12_adds_38 : decode cX12_adds 38 = .ok (.getfield 76, 3) := by decide +kernel
theorem dX12_adds_41 : decode cX12_adds 41 = .ok (.bipush 21, 2) := by decide +kernel
theorem dX12_adds_43 : decode cX12_adds 43 = .ok (.iload_n 1, 1) := by decide +kernel
theorem dX12_adds_44 : decode cX12_adds 44 = .ok (.imul, 1) := by decide +kernel
theorem dX12_adds_45 : decode cX12_adds 45 = .ok (.aload_n 0, 1) := by decide +kernel
theorem dX12_adds_46 : decode cX12_adds 46 = .ok (.getfield 82, 3) := by decide +kernel
theorem dX12_adds_49 : decode cX12_adds 49 = .ok (.iload_n 1, 1) := by decide +kernel
theorem dX12_adds_50 : decode cX12_adds 50 = .ok (.iaload, 1) := by decide +kernel
theorem dX12_adds_51 : decode cX12_adds 51 = .ok (.iadd, 1) := by decide +kernel
theorem dX12_adds_52 : decode cX12_adds 52 = .ok (.iload_n 2, 1) := by decide +kernel
theorem dX12_adds_53 : decode cX12_adds 53 = .ok (.iastore, 1) := by decide +kernel
theorem dX12_adds_54 : decode cX12_adds 54 = .ok (.aload_n 0, 1) := by decide +kernel
theorem dX12_adds_55 : decode cX12_adds 55 = .ok (.getfield 79, 3) := by decide +kernel
theorem dX12_adds_58 : decode cX12_adds 58 = .ok (.bipush 21, 2) := by decide +kernel
theorem dX12_adds_60 : decode cX12_adds 60 = .ok (.iload_n 1, 1) := by decide +kernel
theorem dX12_adds_61 : decode cX12_adds 61 = .ok (.imul, 1) := by decide +kernel
theorem dX12_adds_62 : decode cX12_adds 62 = .ok (.aload_n 0, 1) := by decide +kernel
theorem dX12_adds_63 : decode cX12_adds 63 = .ok (.getfield 82, 3) := by decide +kernel
theorem dX12_adds_66 : decode cX12_adds 66 = .ok (.iload_n 1, 1) := by decide +kernel
theorem dX12_adds_67 : decode cX12_adds 67 = .ok (.iaload, 1) := by decide +kernel
theorem dX12_adds_68 : decode cX12_adds 68 = .ok (.iadd, 1) := by decide +kernel
theorem dX12_adds_69 : decode cX12_adds 69 = .ok (.iload_n 3, 1) := by decide +kernel
theorem dX12_adds_70 : decode cX12_adds 70 = .ok (.iastore, 1) := by decide +kernel
theorem dX12_adds_71 : decode cX12_adds 71 = .ok (.aload_n 0, 1) := by decide +kernel
theorem dX12_adds_72 : decode cX12_adds 72 = .ok (.getfield 82, 3) := by decide +kernel
theorem dX12_adds_75 : decode cX12_adds 75 = .ok (.iload_n 1, 1) := by decide +kernel
theorem dX12_adds_76 : decode cX12_adds 76 = .ok (.dup2, 1) := by decide +kernel
theorem dX12_adds_77 : decode cX12_adds 77 = .ok (.iaload, 1) := by decide +kernel
theorem dX12_adds_78 : decode cX12_adds 78 = .ok (.iconst 1, 1) := by decide +kernel
theorem dX12_adds_79 : decode cX12_adds 79 = .ok (.iadd, 1) := by decide +kernel
theorem dX12_adds_80 : decode cX12_adds 80 = .ok (.iastore, 1) := by decide +kernel
theorem dX12_adds_81 : decode cX12_adds 81 = .ok (.return_, 1) := by decide +kernel
theorem dX12_ownCost_0 : decode cX12_ownCost 0 = .ok (.aload_n 0, 1) := by decide +kernel
theorem dX12_ownCost_1 : decode cX12_ownCost 1 = .ok (.getfield 26, 3) := by decide +kernel
theorem dX12_ownCost_4 : decode cX12_ownCost 4 = .ok (.bipush 10, 2) := by decide +kernel
theorem dX12_ownCost_6 : decode cX12_ownCost 6 = .ok (.iload_n 1, 1) := by decide +kernel
theorem dX12_ownCost_7 : decode cX12_ownCost 7 = .ok (.imul, 1) := by decide +kernel
theorem dX12_ownCost_8 : decode cX12_ownCost 8 = .ok (.iload_n 2, 1) := by decide +kernel
theorem dX12_ownCost_9 : decode cX12_ownCost 9 = .ok (.iadd, 1) := by decide +kernel
theorem dX12_ownCost_10 : decode cX12_ownCost 10 = .ok (.laload, 1) := by decide +kernel
theorem dX12_ownCost_11 : decode cX12_ownCost 11 = .ok (.lstore 5, 2) := by decide +kernel
theorem dX12_ownCost_13 : decode cX12_ownCost 13 = .ok (.aload_n 0, 1) := by decide +kernel
theorem dX12_ownCost_14 : decode cX12_ownCost 14 = .ok (.getfield 70, 3) := by decide +kernel
theorem dX12_ownCost_17 : decode cX12_ownCost 17 = .ok (.istore 7, 2) := by decide +kernel
theorem dX12_ownCost_19 : decode cX12_ownCost 19 = .ok (.iconst 0, 1) := by decide +kernel
theorem dX12_ownCost_20 : decode cX12_ownCost 20 = .ok (.istore 8, 2) := by decide +kernel
theorem dX12_ownCost_22 : decode cX12_ownCost 22 = .ok (.iload 8, 2) := by decide +kernel
theorem dX12_ownCost_24 : decode cX12_ownCost 24 = .ok (.aload_n 0, 1) := by decide +kernel
theorem dX12_ownCost_25 : decode cX12_ownCost 25 = .ok (.getfield 178, 3) := by decide +kernel
theorem dX12_ownCost_28 : decode cX12_ownCost 28 = .ok (.if_icmp .ge 47, 3) := by decide +kernel
theorem dX12_ownCost_31 : decode cX12_ownCost 31 = .ok (.aload_n 0, 1) := by decide +kernel
theorem dX12_ownCost_32 : decode cX12_ownCost 32 = .ok (.getfield 40, 3) := by decide +kernel
theorem dX12_ownCost_35 : decode cX12_ownCost 35 = .ok (.iload 8, 2) := by decide +kernel
theorem dX12_ownCost_37 : decode cX12_ownCost 37 = .ok (.iaload, 1) := by decide +kernel
theorem dX12_ownCost_38 : decode cX12_ownCost 38 = .ok (.iload_n 3, 1) := by decide +kernel
theorem dX12_ownCost_39 : decode cX12_ownCost 39 = .ok (.if_icmp .ne 30, 3) := by decide +kernel
theorem dX12_ownCost_42 : decode cX12_ownCost 42 = .ok (.aload_n 0, 1) := by decide +kernel
theorem dX12_ownCost_43 : decode cX12_ownCost 43 = .ok (.getfield 46, 3) := by decide +kernel
theorem dX12_ownCost_46 : decode cX12_ownCost 46 = .ok (.iload 8, 2) := by decide +kernel
theorem dX12_ownCost_48 : decode cX12_ownCost 48 = .ok (.iaload, 1) := by decide +kernel
theorem dX12_ownCost_49 : decode cX12_ownCost 49 = .ok (.iload 4, 2) := by decide +kernel
theorem dX12_ownCost_51 : decode cX12_ownCost 51 = .ok (.if_icmp .gt 18, 3) := by decide +kernel
theorem dX12_ownCost_54 : decode cX12_ownCost 54 = .ok (.aload_n 0, 1) := by decide +kernel
theorem dX12_ownCost_55 : decode cX12_ownCost 55 = .ok (.aload_n 0, 1) := by decide +kernel
theorem dX12_ownCost_56 : decode cX12_ownCost 56 = .ok (.getfield 43, 3) := by decide +kernel
theorem dX12_ownCost_59 : decode cX12_ownCost 59 = .ok (.iload 8, 2) := by decide +kernel
theorem dX12_ownCost_61 : decode cX12_ownCost 61 = .ok (.laload, 1) := by decide +kernel
theorem dX12_ownCost_62 : decode cX12_ownCost 62 = .ok (.lload 5, 2) := by decide +kernel
theorem dX12_ownCost_64 : decode cX12_ownCost 64 = .ok (.invokevirtual 194, 3) := by decide +kernel
theorem dX12_ownCost_67 : decode cX12_ownCost 67 = .ok (.istore 7, 2) := by decide +kernel
theorem dX12_ownCost_69 : decode cX12_ownCost 69 = .ok (.iinc 8 1, 3) := by decide +kernel
theorem dX12_ownCost_72 : decode cX12_ownCost 72 = .ok (.goto (-50), 3) := by decide +kernel
theorem dX12_ownCost_75 : decode cX12_ownCost 75 = .ok (.iconst 0, 1) := by decide +kernel
theorem dX12_ownCost_76 : decode cX12_ownCost 76 = .ok (.istore 8, 2) := by decide +kernel
theorem dX12_ownCost_78 : decode cX12_ownCost 78 = .ok (.iload 8, 2) := by decide +kernel
theorem dX12_ownCost_80 : decode cX12_ownCost 80 = .ok (.aload_n 0, 1) := by decide +kernel
theorem dX12_ownCost_81 : decode cX12_ownCost 81 = .ok (.getfield 184, 3) := by decide +kernel
theorem dX12_ownCost_84 : decode cX12_ownCost 84 = .ok (.if_icmp .ge 96, 3) := by decide +kernel
theorem dX12_ownCost_87 : decode cX12_ownCost 87 = .ok (.aload_n 0, 1) := by decide +kernel
theorem dX12_ownCost_88 : decode cX12_ownCost 88 = .ok (.getfield 52, 3) := by decide +kernel
theorem dX12_ownCost_91 : decode cX12_ownCost 91 = .ok (.iload 8, 2) := by decide +kernel
theorem dX12_ownCost_93 : decode cX12_ownCost 93 = .ok (.laload, 1) := by decide +kernel
theorem dX12_ownCost_94 : decode cX12_ownCost 94 = .ok (.lload 5, 2) := by decide +kernel
theorem dX12_ownCost_96 : decode cX12_ownCost 96 = .ok (.lcmp, 1) := by decide +kernel
theorem dX12_ownCost_97 : decode cX12_ownCost 97 = .ok (.ifCond .ne 77, 3) := by decide +kernel
theorem dX12_ownCost_100 : decode cX12_ownCost 100 = .ok (.aload_n 0, 1) := by decide +kernel
theorem dX12_ownCost_101 : decode cX12_ownCost 101 = .ok (.getfield 58, 3) := by decide +kernel
theorem dX12_ownCost_104 : decode cX12_ownCost 104 = .ok (.iload 8, 2) := by decide +kernel
theorem dX12_ownCost_106 : decode cX12_ownCost 106 = .ok (.iaload, 1) := by decide +kernel
theorem dX12_ownCost_107 : decode cX12_ownCost 107 = .ok (.iload 4, 2) := by decide +kernel
theorem dX12_ownCost_109 : decode cX12_ownCost 109 = .ok (.if_icmp .le 6, 3) := by decide +kernel
theorem dX12_ownCost_112 : decode cX12_ownCost 112 = .ok (.goto 62, 3) := by decide +kernel
theorem dX12_ownCost_115 : decode cX12_ownCost 115 = .ok (.aload_n 0, 1) := by decide +kernel
theorem dX12_ownCost_116 : decode cX12_ownCost 116 = .ok (.getfield 49, 3) := by decide +kernel
theorem dX12_ownCost_119 : decode cX12_ownCost 119 = .ok (.iload 8, 2) := by decide +kernel
theorem dX12_ownCost_121 : decode cX12_ownCost 121 = .ok (.iaload, 1) := by decide +kernel
theorem dX12_ownCost_122 : decode cX12_ownCost 122 = .ok (.iload_n 3, 1) := by decide +kernel
theorem dX12_ownCost_123 : decode cX12_ownCost 123 = .ok (.if_icmp .le 15, 3) := by decide +kernel
theorem dX12_ownCost_126 : decode cX12_ownCost 126 = .ok (.aload_n 0, 1) := by decide +kernel
theorem dX12_ownCost_127 : decode cX12_ownCost 127 = .ok (.getfield 49, 3) := by decide +kernel
theorem dX12_ownCost_130 : decode cX12_ownCost 130 = .ok (.iload 8, 2) := by decide +kernel
theorem dX12_ownCost_132 : decode cX12_ownCost 132 = .ok (.iaload, 1) := by decide +kernel
theorem dX12_ownCost_133 : decode cX12_ownCost 133 = .ok (.iload_n 3, 1) := by decide +kernel
theorem dX12_ownCost_134 : decode cX12_ownCost 134 = .ok (.isub, 1) := by decide +kernel
theorem dX12_ownCost_135 : decode cX12_ownCost 135 = .ok (.goto 12, 3) := by decide +kernel
theorem dX12_ownCost_138 : decode cX12_ownCost 138 = .ok (.iload_n 3, 1) := by decide +kernel
theorem dX12_ownCost_139 : decode cX12_ownCost 139 = .ok (.aload_n 0, 1) := by decide +kernel
theorem dX12_ownCost_140 : decode cX12_ownCost 140 = .ok (.getfield 49, 3) := by decide +kernel
theorem dX12_ownCost_143 : decode cX12_ownCost 143 = .ok (.iload 8, 2) := by decide +kernel
theorem dX12_ownCost_145 : decode cX12_ownCost 145 = .ok (.iaload, 1) := by decide +kernel
theorem dX12_ownCost_146 : decode cX12_ownCost 146 = .ok (.isub, 1) := by decide +kernel
theorem dX12_ownCost_147 : decode cX12_ownCost 147 = .ok (.istore 9, 2) := by decide +kernel
theorem dX12_ownCost_149 : decode cX12_ownCost 149 = .ok (.iload 7, 2) := by decide +kernel
theorem dX12_ownCost_151 : decode cX12_ownCost 151 = .ok (.iload 9, 2) := by decide +kernel
theorem dX12_ownCost_153 : decode cX12_ownCost 153 = .ok (.aload_n 0, 1) := by decide +kernel
theorem dX12_ownCost_154 : decode cX12_ownCost 154 = .ok (.getfield 55, 3) := by decide +kernel
theorem dX12_ownCost_157 : decode cX12_ownCost 157 = .ok (.iload 8, 2) := by decide +kernel
theorem dX12_ownCost_159 : decode cX12_ownCost 159 = .ok (.iaload, 1) := by decide +kernel
theorem dX12_ownCost_160 : decode cX12_ownCost 160 = .ok (.if_icmp .ne 7, 3) := by decide +kernel
theorem dX12_ownCost_163 : decode cX12_ownCost 163 = .ok (.iconst 0, 1) := by decide +kernel
theorem dX12_ownCost_164 : decode cX12_ownCost 164 = .ok (.goto 7, 3) := by decide +kernel
theorem dX12_ownCost_167 : decode cX12_ownCost 167 = .ok (.aload_n 0, 1) := by decide +kernel
theorem dX12_ownCost_168 : decode cX12_ownCost 168 = .ok (.getfield 73, 3) := by decide +kernel
theorem dX12_ownCost_171 : decode cX12_ownCost 171 = .ok (.iadd, 1) := by decide +kernel
theorem dX12_ownCost_172 : decode cX12_ownCost 172 = .ok (.istore 7, 2) := by decide +kernel
theorem dX12_ownCost_174 : decode cX12_ownCost 174 = .ok (.iinc 8 1, 3) := by decide +kernel
theorem dX12_ownCost_177 : decode cX12_ownCost 177 = .ok (.goto (-99), 3) := by decide +kernel
theorem dX12_ownCost_180 : decode cX12_ownCost 180 = .ok (.iload 7, 2) := by decide +kernel
theorem dX12_ownCost_182 : decode cX12_ownCost 182 = .ok (.ireturn, 1) := by decide +kernel
theorem dX12_lays_0 : decode cX12_lays 0 = .ok (.aload_n 0, 1) := by decide +kernel
theorem dX12_lays_1 : decode cX12_lays 1 = .ok (.iload_n 1, 1) := by decide +kernel
theorem dX12_lays_2 : decode cX12_lays 2 = .ok (.invokevirtual 216, 3) := by decide +kernel
theorem dX12_lays_5 : decode cX12_lays 5 = .ok (.aload_n 0, 1) := by decide +kernel
theorem dX12_lays_6 : decode cX12_lays 6 = .ok (.getfield 23, 3) := by decide +kernel
theorem dX12_lays_9 : decode cX12_lays 9 = .ok (.iload_n 1, 1) := by decide +kernel
theorem dX12_lays_10 : decode cX12_lays 10 = .ok (.iaload, 1) := by decide +kernel
theorem dX12_lays_11 : decode cX12_lays 11 = .ok (.istore_n 3, 1) := by decide +kernel
theorem dX12_lays_12 : decode cX12_lays 12 = .ok (.iload_n 3, 1) := by decide +kernel
theorem dX12_lays_13 : decode cX12_lays 13 = .ok (.iconst 1, 1) := by decide +kernel
theorem dX12_lays_14 : decode cX12_lays 14 = .ok (.isub, 1) := by decide +kernel
theorem dX12_lays_15 : decode cX12_lays 15 = .ok (.istore 4, 2) := by decide +kernel
theorem dX12_lays_17 : decode cX12_lays 17 = .ok (.iload 4, 2) := by decide +kernel
theorem dX12_lays_19 : decode cX12_lays 19 = .ok (.ifCond .lt 198, 3) := by decide +kernel
theorem dX12_lays_22 : decode cX12_lays 22 = .ok (.iconst 0, 1) := by decide +kernel
theorem dX12_lays_23 : decode cX12_lays 23 = .ok (.istore 5, 2) := by decide +kernel
theorem dX12_lays_25 : decode cX12_lays 25 = .ok (.iload 5, 2) := by decide +kernel
theorem dX12_lays_27 : decode cX12_lays 27 = .ok (.sipush 601, 3) := by decide +kernel
theorem dX12_lays_30 : decode cX12_lays 30 = .ok (.if_icmp .ge 181, 3) := by decide +kernel
theorem dX12_lays_33 : decode cX12_lays 33 = .ok (.sipush 601, 3) := by decide +kernel
theorem dX12_lays_36 : decode cX12_lays 36 = .ok (.iload 4, 2) := by decide +kernel
theorem dX12_lays_38 : decode cX12_lays 38 = .ok (.imul, 1) := by decide +kernel
theorem dX12_lays_39 : decode cX12_lays 39 = .ok (.iload 5, 2) := by decide +kernel
theorem dX12_lays_41 : decode cX12_lays 41 = .ok (.iadd, 1) := by decide +kernel
theorem dX12_lays_42 : decode cX12_lays 42 = .ok (.istore 6, 2) := by decide +kernel
theorem dX12_lays_44 : decode cX12_lays 44 = .ok (.aload_n 0, 1) := by decide +kernel
theorem dX12_lays_45 : decode cX12_lays 45 = .ok (.getfield 85, 3) := by decide +kernel
theorem dX12_lays_48 : decode cX12_lays 48 = .ok (.iload 6, 2) := by decide +kernel
theorem dX12_lays_50 : decode cX12_lays 50 = .ok (.aload_n 0, 1) := by decide +kernel
theorem dX12_lays_51 : decode cX12_lays 51 = .ok (.iload_n 1, 1) := by decide +kernel
theorem dX12_lays_52 : decode cX12_lays 52 = .ok (.iload 4, 2) := by decide +kernel
theorem dX12_lays_54 : decode cX12_lays 54 = .ok (.iload 5, 2) := by decide +kernel
theorem dX12_lays_56 : decode cX12_lays 56 = .ok (.iload_n 2, 1) := by decide +kernel
theorem dX12_lays_57 : decode cX12_lays 57 = .ok (.invokevirtual 220, 3) := by decide +kernel
theorem dX12_lays_60 : decode cX12_lays 60 = .ok (.iastore, 1) := by decide +kernel
theorem dX12_lays_61 : decode cX12_lays 61 = .ok (.iload 4, 2) := by decide +kernel
theorem dX12_lays_63 : decode cX12_lays 63 = .ok (.iload_n 3, 1) := by decide +kernel
theorem dX12_lays_64 : decode cX12_lays 64 = .ok (.iconst 1, 1) := by decide +kernel
theorem dX12_lays_65 : decode cX12_lays 65 = .ok (.isub, 1) := by decide +kernel
theorem dX12_lays_66 : decode cX12_lays 66 = .ok (.if_icmp .ne 7, 3) := by decide +kernel
theorem dX12_lays_69 : decode cX12_lays 69 = .ok (.iconst 0, 1) := by decide +kernel
theorem dX12_lays_70 : decode cX12_lays 70 = .ok (.goto 5, 3) := by decide +kernel
theorem dX12_lays_73 : decode cX12_lays 73 = .ok (.ldc 204, 2) := by decide +kernel
theorem dX12_lays_75 : decode cX12_lays 75 = .ok (.istore 7, 2) := by decide +kernel
theorem dX12_lays_77 : decode cX12_lays 77 = .ok (.iconst 0, 1) := by decide +kernel
theorem dX12_lays_78 : decode cX12_lays 78 = .ok (.istore 8, 2) := by decide +kernel
theorem dX12_lays_80 : decode cX12_lays 80 = .ok (.iload 4, 2) := by decide +kernel
theorem dX12_lays_82 : decode cX12_lays 82 = .ok (.iload_n 3, 1) := by decide +kernel
theorem dX12_lays_83 : decode cX12_lays 83 = .ok (.iconst 1, 1) := by decide +kernel
theorem dX12_lays_84 : decode cX12_lays 84 = .ok (.isub, 1) := by decide +kernel
theorem dX12_lays_85 : decode cX12_lays 85 = .ok (.if_icmp .ge 91, 3) := by decide +kernel
theorem dX12_lays_88 : decode cX12_lays 88 = .ok (.iload 8, 2) := by decide +kernel
theorem dX12_lays_90 : decode cX12_lays 90 = .ok (.aload_n 0, 1) := by decide +kernel
theorem dX12_lays_91 : decode cX12_lays 91 = .ok (.getfield 82, 3) := by decide +kernel
theorem dX12_lays_94 : decode cX12_lays 94 = .ok (.iload 4, 2) := by decide +kernel
theorem dX12_lays_96 : decode cX12_lays 96 = .ok (.iaload, 1) := by decide +kernel
theorem dX12_lays_97 : decode cX12_lays 97 = .ok (.if_icmp .ge 79, 3) := by decide +kernel
theorem dX12_lays_100 : decode cX12_lays 100 = .ok (.iload 5, 2) := by decide +kernel
theorem dX12_lays_102 : decode cX12_lays 102 = .ok (.aload_n 0, 1) := by decide +kernel
theorem dX12_lays_103 : decode cX12_lays 103 = .ok (.getfield 20, 3) := by decide +kernel
theorem dX12_lays_106 : decode cX12_lays 106 = .ok (.iload_n 1, 1) := by decide +kernel
theorem dX12_lays_107 : decode cX12_lays 107 = .ok (.iaload, 1) := by decide +kernel
theorem dX12_lays_108 : decode cX12_lays 108 = .ok (.aload_n 0, 1) := by decide +kernel
theorem dX12_lays_109 : decode cX12_lays 109 = .ok (.getfield 76, 3) := by decide +kernel
theorem dX12_lays_112 : decode cX12_lays 112 = .ok (.bipush 21, 2) := by decide +kernel
theorem dX12_lays_114 : decode cX12_lays 114 = .ok (.iload 4, 2) := by decide +kernel
theorem dX12_lays_116 : decode cX12_lays 116 = .ok (.imul, 1) := by decide +kernel
theorem dX12_lays_117 : decode cX12_lays 117 = .ok (.iload 8, 2) := by decide +kernel
theorem dX12_lays_119 : decode cX12_lays 119 = .ok (.iadd, 1) := by decide +kernel
theorem dX12_lays_120 : decode cX12_lays 120 = .ok (.iaload, 1) := by decide +kernel
theorem dX12_lays_121 : decode cX12_lays 121 = .ok (.imul, 1) := by decide +kernel
theorem dX12_lays_122 : decode cX12_lays 122 = .ok (.iadd, 1) := by decide +kernel
theorem dX12_lays_123 : decode cX12_lays 123 = .ok (.istore 9, 2) := by decide +kernel
theorem dX12_lays_125 : decode cX12_lays 125 = .ok (.iload 9, 2) := by decide +kernel
theorem dX12_lays_127 : decode cX12_lays 127 = .ok (.sipush 601, 3) := by decide +kernel
theorem dX12_lays_130 : decode cX12_lays 130 = .ok (.if_icmp .ge 40, 3) := by decide +kernel
theorem dX12_lays_133 : decode cX12_lays 133 = .ok (.iload 7, 2) := by decide +kernel
theorem dX12_lays_135 : decode cX12_lays 135 = .ok (.aload_n 0, 1) := by decide +kernel
theorem dX12_lays_136 : decode cX12_lays 136 = .ok (.getfield 79, 3) := by decide +kernel
theorem dX12_lays_139 : decode cX12_lays 139 = .ok (.bipush 21, 2) := by decide +kernel
theorem dX12_lays_141 : decode cX12_lays 141 = .ok (.iload 4, 2) := by decide +kernel
theorem dX12_lays_143 : decode cX12_lays 143 = .ok (.imul, 1) := by decide +kernel
theorem dX12_lays_144 : decode cX12_lays 144 = .ok (.iload 8, 2) := by decide +kernel
theorem dX12_lays_146 : decode cX12_lays 146 = .ok (.iadd, 1) := by decide +kernel
theorem dX12_lays_147 : decode cX12_lays 147 = .ok (.iaload, 1) := by decide +kernel
theorem dX12_lays_148 : decode cX12_lays 148 = .ok (.aload_n 0, 1) := by decide +kernel
theorem dX12_lays_149 : decode cX12_lays 149 = .ok (.getfield 88, 3) := by decide +kernel
theorem dX12_lays_152 : decode cX12_lays 152 = .ok (.sipush 601, 3) := by decide +kernel
theorem dX12_lays_155 : decode cX12_lays 155 = .ok (.iload 4, 2) := by decide +kernel
theorem dX12_lays_157 : decode cX12_lays 157 = .ok (.iconst 1, 1) := by decide +kernel
theorem dX12_lays_158 : decode cX12_lays 158 = .ok (.iadd, 1) := by decide +kernel
theorem dX12_lays_159 : decode cX12_lays 159 = .ok (.imul, 1) := by decide +kernel
theorem dX12_lays_160 : decode cX12_lays 160 = .ok (.iload 9, 2) := by decide +kernel
theorem dX12_lays_162 : decode cX12_lays 162 = .ok (.iadd, 1) := by decide +kernel
theorem dX12_lays_163 : decode cX12_lays 163 = .ok (.iaload, 1) := by decide +kernel
theorem dX12_lays_164 : decode cX12_lays 164 = .ok (.iadd, 1) := by decide +kernel
theorem dX12_lays_165 : decode cX12_lays 165 = .ok (.invokestatic 130, 3) := by decide +kernel
theorem dX12_lays_168 : decode cX12_lays 168 = .ok (.istore 7, 2) := by decide +kernel
theorem dX12_lays_170 : decode cX12_lays 170 = .ok (.iinc 8 1, 3) := by decide +kernel
theorem dX12_lays_173 : decode cX12_lays 173 = .ok (.goto (-93), 3) := by decide +kernel
theorem dX12_lays_176 : decode cX12_lays 176 = .ok (.aload_n 0, 1) := by decide +kernel
theorem dX12_lays_177 : decode cX12_lays 177 = .ok (.getfield 88, 3) := by decide +kernel
theorem dX12_lays_180 : decode cX12_lays 180 = .ok (.iload 6, 2) := by decide +kernel
theorem dX12_lays_182 : decode cX12_lays 182 = .ok (.iload 7, 2) := by decide +kernel
theorem dX12_lays_184 : decode cX12_lays 184 = .ok (.ldc 204, 2) := by decide +kernel
theorem dX12_lays_186 : decode cX12_lays 186 = .ok (.if_icmp .lt 8, 3) := by decide +kernel
theorem dX12_lays_189 : decode cX12_lays 189 = .ok (.ldc 204, 2) := by decide +kernel
theorem dX12_lays_191 : decode cX12_lays 191 = .ok (.goto 13, 3) := by decide +kernel
theorem dX12_lays_194 : decode cX12_lays 194 = .ok (.iload 7, 2) := by decide +kernel
theorem dX12_lays_196 : decode cX12_lays 196 = .ok (.aload_n 0, 1) := by decide +kernel
theorem dX12_lays_197 : decode cX12_lays 197 = .ok (.getfield 85, 3) := by decide +kernel
theorem dX12_lays_200 : decode cX12_lays 200 = .ok (.iload 6, 2) := by decide +kernel
theorem dX12_lays_202 : decode cX12_lays 202 = .ok (.iaload, 1) := by decide +kernel
theorem dX12_lays_203 : decode cX12_lays 203 = .ok (.iadd, 1) := by decide +kernel
theorem dX12_lays_204 : decode cX12_lays 204 = .ok (.iastore, 1) := by decide +kernel
theorem dX12_lays_205 : decode cX12_lays 205 = .ok (.iinc 5 1, 3) := by decide +kernel
theorem dX12_lays_208 : decode cX12_lays 208 = .ok (.goto (-183), 3) := by decide +kernel
theorem dX12_lays_211 : decode cX12_lays 211 = .ok (.iinc 4 (-1), 3) := by decide +kernel
theorem dX12_lays_214 : decode cX12_lays 214 = .ok (.goto (-197), 3) := by decide +kernel
theorem dX12_lays_217 : decode cX12_lays 217 = .ok (.ldc 204, 2) := by decide +kernel
theorem dX12_lays_219 : decode cX12_lays 219 = .ok (.istore 4, 2) := by decide +kernel
theorem dX12_lays_221 : decode cX12_lays 221 = .ok (.iconst 0, 1) := by decide +kernel
theorem dX12_lays_222 : decode cX12_lays 222 = .ok (.istore 5, 2) := by decide +kernel
theorem dX12_lays_224 : decode cX12_lays 224 = .ok (.iload 5, 2) := by decide +kernel
theorem dX12_lays_226 : decode cX12_lays 226 = .ok (.sipush 601, 3) := by decide +kernel
theorem dX12_lays_229 : decode cX12_lays 229 = .ok (.if_icmp .ge 23, 3) := by decide +kernel
theorem dX12_lays_232 : decode cX12_lays 232 = .ok (.iload 4, 2) := by decide +kernel
theorem dX12_lays_234 : decode cX12_lays 234 = .ok (.aload_n 0, 1) := by decide +kernel
theorem dX12_lays_235 : decode cX12_lays 235 = .ok (.getfield 88, 3) := by decide +kernel
theorem dX12_lays_238 : decode cX12_lays 238 = .ok (.iload 5, 2) := by decide +kernel
theorem dX12_lays_240 : decode cX12_lays 240 = .ok (.iaload, 1) := by decide +kernel
theorem dX12_lays_241 : decode cX12_lays 241 = .ok (.invokestatic 130, 3) := by decide +kernel
theorem dX12_lays_244 : decode cX12_lays 244 = .ok (.istore 4, 2) := by decide +kernel
theorem dX12_lays_246 : decode cX12_lays 246 = .ok (.iinc 5 1, 3) := by decide +kernel
theorem dX12_lays_249 : decode cX12_lays 249 = .ok (.goto (-25), 3) := by decide +kernel
theorem dX12_lays_252 : decode cX12_lays 252 = .ok (.iload 4, 2) := by decide +kernel
theorem dX12_lays_254 : decode cX12_lays 254 = .ok (.ireturn, 1) := by decide +kernel
theorem dX12_goesAhead_0 : decode cX12_goesAhead 0 = .ok (.aload_n 0, 1) := by decide +kernel
theorem dX12_goesAhead_1 : decode cX12_goesAhead 1 = .ok (.getfield 23, 3) := by decide +kernel
theorem dX12_goesAhead_4 : decode cX12_goesAhead 4 = .ok (.iload_n 1, 1) := by decide +kernel
theorem dX12_goesAhead_5 : decode cX12_goesAhead 5 = .ok (.iaload, 1) := by decide +kernel
theorem dX12_goesAhead_6 : decode cX12_goesAhead 6 = .ok (.istore_n 2, 1) := by decide +kernel
theorem dX12_goesAhead_7 : decode cX12_goesAhead 7 = .ok (.iconst 0, 1) := by decide +kernel
theorem dX12_goesAhead_8 : decode cX12_goesAhead 8 = .ok (.istore_n 3, 1) := by decide +kernel
theorem dX12_goesAhead_9 : decode cX12_goesAhead 9 = .ok (.iload_n 3, 1) := by decide +kernel
theorem dX12_goesAhead_10 : decode cX12_goesAhead 10 = .ok (.sipush 601, 3) := by decide +kernel
theorem dX12_goesAhead_13 : decode cX12_goesAhead 13 = .ok (.iload_n 2, 1) := by decide +kernel
theorem dX12_goesAhead_14 : decode cX12_goesAhead 14 = .ok (.imul, 1) := by decide +kernel
theorem dX12_goesAhead_15 : decode cX12_goesAhead 15 = .ok (.if_icmp .ge 33, 3) := by decide +kernel
theorem dX12_goesAhead_18 : decode cX12_goesAhead 18 = .ok (.aload_n 0, 1) := by decide +kernel
theorem dX12_goesAhead_19 : decode cX12_goesAhead 19 = .ok (.getfield 91, 3) := by decide +kernel
theorem dX12_goesAhead_22 : decode cX12_goesAhead 22 = .ok (.iload_n 3, 1) := by decide +kernel
theorem dX12_goesAhead_23 : decode cX12_goesAhead 23 = .ok (.iload_n 3, 1) := by decide +kernel
theorem dX12_goesAhead_24 : decode cX12_goesAhead 24 = .ok (.sipush 601, 3) := by decide +kernel
theorem dX12_goesAhead_27 : decode cX12_goesAhead 27 = .ok (.if_icmp .ge 12, 3) := by decide +kernel
theorem dX12_goesAhead_30 : decode cX12_goesAhead 30 = .ok (.aload_n 0, 1) := by decide +kernel
theorem dX12_goesAhead_31 : decode cX12_goesAhead 31 = .ok (.getfield 85, 3) := by decide +kernel
theorem dX12_goesAhead_34 : decode cX12_goesAhead 34 = .ok (.iload_n 3, 1) := by decide +kernel
theorem dX12_goesAhead_35 : decode cX12_goesAhead 35 = .ok (.iaload, 1) := by decide +kernel
theorem dX12_goesAhead_36 : decode cX12_goesAhead 36 = .ok (.goto 5, 3) := by decide +kernel
theorem dX12_goesAhead_39 : decode cX12_goesAhead 39 = .ok (.ldc 204, 2) := by decide +kernel
theorem dX12_goesAhead_41 : decode cX12_goesAhead 41 = .ok (.iastore, 1) := by decide +kernel
theorem dX12_goesAhead_42 : decode cX12_goesAhead 42 = .ok (.iinc 3 1, 3) := by decide +kernel
theorem dX12_goesAhead_45 : decode cX12_goesAhead 45 = .ok (.goto (-36), 3) := by decide +kernel
theorem dX12_goesAhead_48 : decode cX12_goesAhead 48 = .ok (.iconst 0, 1) := by decide +kernel
theorem dX12_goesAhead_49 : decode cX12_goesAhead 49 = .ok (.istore_n 3, 1) := by decide +kernel
theorem dX12_goesAhead_50 : decode cX12_goesAhead 50 = .ok (.iload_n 3, 1) := by decide +kernel
theorem dX12_goesAhead_51 : decode cX12_goesAhead 51 = .ok (.iload_n 2, 1) := by decide +kernel
theorem dX12_goesAhead_52 : decode cX12_goesAhead 52 = .ok (.iconst 1, 1) := by decide +kernel
theorem dX12_goesAhead_53 : decode cX12_goesAhead 53 = .ok (.isub, 1) := by decide +kernel
theorem dX12_goesAhead_54 : decode cX12_goesAhead 54 = .ok (.if_icmp .ge 164, 3) := by decide +kernel
theorem dX12_goesAhead_57 : decode cX12_goesAhead 57 = .ok (.iconst 0, 1) := by decide +kernel
theorem dX12_goesAhead_58 : decode cX12_goesAhead 58 = .ok (.istore 4, 2) := by decide +kernel
theorem dX12_goesAhead_60 : decode cX12_goesAhead 60 = .ok (.iload 4, 2) := by decide +kernel
theorem dX12_goesAhead_62 : decode cX12_goesAhead 62 = .ok (.sipush 601, 3) := by decide +kernel
theorem dX12_goesAhead_65 : decode cX12_goesAhead 65 = .ok (.if_icmp .ge 147, 3) := by decide +kernel
theorem dX12_goesAhead_68 : decode cX12_goesAhead 68 = .ok (.aload_n 0, 1) := by decide +kernel
theorem dX12_goesAhead_69 : decode cX12_goesAhead 69 = .ok (.getfield 91, 3) := by decide +kernel
theorem dX12_goesAhead_72 : decode cX12_goesAhead 72 = .ok (.sipush 601, 3) := by decide +kernel
theorem dX12_goesAhead_75 : decode cX12_goesAhead 75 = .ok (.iload_n 3, 1) := by decide +kernel
theorem dX12_goesAhead_76 : decode cX12_goesAhead 76 = .ok (.imul, 1) := by decide +kernel
theorem dX12_goesAhead_77 : decode cX12_goesAhead 77 = .ok (.iload 4, 2) := by decide +kernel
theorem dX12_goesAhead_79 : decode cX12_goesAhead 79 = .ok (.iadd, 1) := by decide +kernel
theorem dX12_goesAhead_80 : decode cX12_goesAhead 80 = .ok (.iaload, 1) := by decide +kernel
theorem dX12_goesAhead_81 : decode cX12_goesAhead 81 = .ok (.istore 5, 2) := by decide +kernel
theorem dX12_goesAhead_83 : decode cX12_goesAhead 83 = .ok (.iconst 0, 1) := by decide +kernel
theorem dX12_goesAhead_84 : decode cX12_goesAhead 84 = .ok (.istore 6, 2) := by decide +kernel
theorem dX12_goesAhead_86 : decode cX12_goesAhead 86 = .ok (.iload 6, 2) := by decide +kernel
theorem dX12_goesAhead_88 : decode cX12_goesAhead 88 = .ok (.aload_n 0, 1) := by decide +kernel
theorem dX12_goesAhead_89 : decode cX12_goesAhead 89 = .ok (.getfield 82, 3) := by decide +kernel
theorem dX12_goesAhead_92 : decode cX12_goesAhead 92 = .ok (.iload_n 3, 1) := by decide +kernel
theorem dX12_goesAhead_93 : decode cX12_goesAhead 93 = .ok (.iaload, 1) := by decide +kernel
theorem dX12_goesAhead_94 : decode cX12_goesAhead 94 = .ok (.if_icmp .ge 112, 3) := by decide +kernel
theorem dX12_goesAhead_97 : decode cX12_goesAhead 97 = .ok (.iload 5, 2) := by decide +kernel
theorem dX12_goesAhead_99 : decode cX12_goesAhead 99 = .ok (.ldc 204, 2) := by decide +kernel
theorem dX12_goesAhead_101 : decode cX12_goesAhead 101 = .ok (.if_icmp .ge 105, 3) := by decide +kernel
theorem dX12_goesAhead_104 : decode cX12_goesAhead 104 = .ok (.iload 4, 2) := by decide +kernel
theorem dX12_goesAhead_106 : decode cX12_goesAhead 106 = .ok (.aload_n 0, 1) := by decide +kernel
theorem dX12_goesAhead_107 : decode cX12_goesAhead 107 = .ok (.getfield 20, 3) := by decide +kernel
theorem dX12_goesAhead_110 : decode cX12_goesAhead 110 = .ok (.iload_n 1, 1) := by decide +kernel
theorem dX12_goesAhead_111 : decode cX12_goesAhead 111 = .ok (.iaload, 1) := by decide +kernel
theorem dX12_goesAhead_112 : decode cX12_goesAhead 112 = .ok (.aload_n 0, 1) := by decide +kernel
theorem dX12_goesAhead_113 : decode cX12_goesAhead 113 = .ok (.getfield 76, 3) := by decide +kernel
theorem dX12_goesAhead_116 : decode cX12_goesAhead 116 = .ok (.bipush 21, 2) := by decide +kernel
theorem dX12_goesAhead_118 : decode cX12_goesAhead 118 = .ok (.iload_n 3, 1) := by decide +kernel
theorem dX12_goesAhead_119 : decode cX12_goesAhead 119 = .ok (.imul, 1) := by decide +kernel
theorem dX12_goesAhead_120 : decode cX12_goesAhead 120 = .ok (.iload 6, 2) := by decide +kernel
theorem dX12_goesAhead_122 : decode cX12_goesAhead 122 = .ok (.iadd, 1) := by decide +kernel
theorem dX12_goesAhead_123 : decode cX12_goesAhead 123 = .ok (.iaload, 1) := by decide +kernel
theorem dX12_goesAhead_124 : decode cX12_goesAhead 124 = .ok (.imul, 1) := by decide +kernel
theorem dX12_goesAhead_125 : decode cX12_goesAhead 125 = .ok (.iadd, 1) := by decide +kernel
theorem dX12_goesAhead_126 : decode cX12_goesAhead 126 = .ok (.istore 7, 2) := by decide +kernel
theorem dX12_goesAhead_128 : decode cX12_goesAhead 128 = .ok (.iload 7, 2) := by decide +kernel
theorem dX12_goesAhead_130 : decode cX12_goesAhead 130 = .ok (.sipush 601, 3) := by decide +kernel
theorem dX12_goesAhead_133 : decode cX12_goesAhead 133 = .ok (.if_icmp .ge 67, 3) := by decide +kernel
theorem dX12_goesAhead_136 : decode cX12_goesAhead 136 = .ok (.aload_n 0, 1) := by decide +kernel
theorem dX12_goesAhead_137 : decode cX12_goesAhead 137 = .ok (.getfield 91, 3) := by decide +kernel
theorem dX12_goesAhead_140 : decode cX12_goesAhead 140 = .ok (.sipush 601, 3) := by decide +kernel
theorem dX12_goesAhead_143 : decode cX12_goesAhead 143 = .ok (.iload_n 3, 1) := by decide +kernel
theorem dX12_goesAhead_144 : decode cX12_goesAhead 144 = .ok (.iconst 1, 1) := by decide +kernel
theorem dX12_goesAhead_145 : decode cX12_goesAhead 145 = .ok (.iadd, 1) := by decide +kernel
theorem dX12_goesAhead_146 : decode cX12_goesAhead 146 = .ok (.imul, 1) := by decide +kernel
theorem dX12_goesAhead_147 : decode cX12_goesAhead 147 = .ok (.iload 7, 2) := by decide +kernel
theorem dX12_goesAhead_149 : decode cX12_goesAhead 149 = .ok (.iadd, 1) := by decide +kernel
theorem dX12_goesAhead_150 : decode cX12_goesAhead 150 = .ok (.aload_n 0, 1) := by decide +kernel
theorem dX12_goesAhead_151 : decode cX12_goesAhead 151 = .ok (.getfield 91, 3) := by decide +kernel
theorem dX12_goesAhead_154 : decode cX12_goesAhead 154 = .ok (.sipush 601, 3) := by decide +kernel
theorem dX12_goesAhead_157 : decode cX12_goesAhead 157 = .ok (.iload_n 3, 1) := by decide +kernel
theorem dX12_goesAhead_158 : decode cX12_goesAhead 158 = .ok (.iconst 1, 1) := by decide +kernel
theorem dX12_goesAhead_159 : decode cX12_goesAhead 159 = .ok (.iadd, 1) := by decide +kernel
theorem dX12_goesAhead_160 : decode cX12_goesAhead 160 = .ok (.imul, 1) := by decide +kernel
theorem dX12_goesAhead_161 : decode cX12_goesAhead 161 = .ok (.iload 7, 2) := by decide +kernel
theorem dX12_goesAhead_163 : decode cX12_goesAhead 163 = .ok (.iadd, 1) := by decide +kernel
theorem dX12_goesAhead_164 : decode cX12_goesAhead 164 = .ok (.iaload, 1) := by decide +kernel
theorem dX12_goesAhead_165 : decode cX12_goesAhead 165 = .ok (.iload 5, 2) := by decide +kernel
theorem dX12_goesAhead_167 : decode cX12_goesAhead 167 = .ok (.aload_n 0, 1) := by decide +kernel
theorem dX12_goesAhead_168 : decode cX12_goesAhead 168 = .ok (.getfield 79, 3) := by decide +kernel
theorem dX12_goesAhead_171 : decode cX12_goesAhead 171 = .ok (.bipush 21, 2) := by decide +kernel
theorem dX12_goesAhead_173 : decode cX12_goesAhead 173 = .ok (.iload_n 3, 1) := by decide +kernel
theorem dX12_goesAhead_174 : decode cX12_goesAhead 174 = .ok (.imul, 1) := by decide +kernel
theorem dX12_goesAhead_175 : decode cX12_goesAhead 175 = .ok (.iload 6, 2) := by decide +kernel
theorem dX12_goesAhead_177 : decode cX12_goesAhead 177 = .ok (.iadd, 1) := by decide +kernel
theorem dX12_goesAhead_178 : decode cX12_goesAhead 178 = .ok (.iaload, 1) := by decide +kernel
theorem dX12_goesAhead_179 : decode cX12_goesAhead 179 = .ok (.iadd, 1) := by decide +kernel
theorem dX12_goesAhead_180 : decode cX12_goesAhead 180 = .ok (.aload_n 0, 1) := by decide +kernel
theorem dX12_goesAhead_181 : decode cX12_goesAhead 181 = .ok (.getfield 85, 3) := by decide +kernel
theorem dX12_goesAhead_184 : decode cX12_goesAhead 184 = .ok (.sipush 601, 3) := by decide +kernel
theorem dX12_goesAhead_187 : decode cX12_goesAhead 187 = .ok (.iload_n 3, 1) := by decide +kernel
theorem dX12_goesAhead_188 : decode cX12_goesAhead 188 = .ok (.iconst 1, 1) := by decide +kernel
theorem dX12_goesAhead_189 : decode cX12_goesAhead 189 = .ok (.iadd, 1) := by decide +kernel
theorem dX12_goesAhead_190 : decode cX12_goesAhead 190 = .ok (.imul, 1) := by decide +kernel
theorem dX12_goesAhead_191 : decode cX12_goesAhead 191 = .ok (.iload 7, 2) := by decide +kernel
theorem dX12_goesAhead_193 : decode cX12_goesAhead 193 = .ok (.iadd, 1) := by decide +kernel
theorem dX12_goesAhead_194 : decode cX12_goesAhead 194 = .ok (.iaload, 1) := by decide +kernel
theorem dX12_goesAhead_195 : decode cX12_goesAhead 195 = .ok (.iadd, 1) := by decide +kernel
theorem dX12_goesAhead_196 : decode cX12_goesAhead 196 = .ok (.invokestatic 130, 3) := by decide +kernel
theorem dX12_goesAhead_199 : decode cX12_goesAhead 199 = .ok (.iastore, 1) := by decide +kernel
theorem dX12_goesAhead_200 : decode cX12_goesAhead 200 = .ok (.iinc 6 1, 3) := by decide +kernel
theorem dX12_goesAhead_203 : decode cX12_goesAhead 203 = .ok (.goto (-117), 3) := by decide +kernel
theorem dX12_goesAhead_206 : decode cX12_goesAhead 206 = .ok (.iinc 4 1, 3) := by decide +kernel
theorem dX12_goesAhead_209 : decode cX12_goesAhead 209 = .ok (.goto (-149), 3) := by decide +kernel
theorem dX12_goesAhead_212 : decode cX12_goesAhead 212 = .ok (.iinc 3 1, 3) := by decide +kernel
theorem dX12_goesAhead_215 : decode cX12_goesAhead 215 = .ok (.goto (-165), 3) := by decide +kernel
theorem dX12_goesAhead_218 : decode cX12_goesAhead 218 = .ok (.return_, 1) := by decide +kernel
theorem dX12_isAsked_0 : decode cX12_isAsked 0 = .ok (.aload_n 0, 1) := by decide +kernel
theorem dX12_isAsked_1 : decode cX12_isAsked 1 = .ok (.iload_n 1, 1) := by decide +kernel
theorem dX12_isAsked_2 : decode cX12_isAsked 2 = .ok (.invokevirtual 167, 3) := by decide +kernel
theorem dX12_isAsked_5 : decode cX12_isAsked 5 = .ok (.ifCond .eq 19, 3) := by decide +kernel
theorem dX12_isAsked_8 : decode cX12_isAsked 8 = .ok (.iload_n 2, 1) := by decide +kernel
theorem dX12_isAsked_9 : decode cX12_isAsked 9 = .ok (.iconst 0, 1) := by decide +kernel
theorem dX12_isAsked_10 : decode cX12_isAsked 10 = .ok (.aload_n 0, 1) := by decide +kernel
theorem dX12_isAsked_11 : decode cX12_isAsked 11 = .ok (.getfield 181, 3) := by decide +kernel
theorem dX12_isAsked_14 : decode cX12_isAsked 14 = .ok (.invokestatic 112, 3) := by decide +kernel
theorem dX12_isAsked_17 : decode cX12_isAsked 17 = .ok (.ifCond .eq 7, 3) := by decide +kernel
theorem dX12_isAsked_20 : decode cX12_isAsked 20 = .ok (.iconst 1, 1) := by decide +kernel
theorem dX12_isAsked_21 : decode cX12_isAsked 21 = .ok (.goto 4, 3) := by decide +kernel
theorem dX12_isAsked_24 : decode cX12_isAsked 24 = .ok (.iconst 0, 1) := by decide +kernel
theorem dX12_isAsked_25 : decode cX12_isAsked 25 = .ok (.ireturn, 1) := by decide +kernel
theorem dX12_best_0 : decode cX12_best 0 = .ok (.aload_n 0, 1) := by decide +kernel
theorem dX12_best_1 : decode cX12_best 1 = .ok (.iconst 0, 1) := by decide +kernel
theorem dX12_best_2 : decode cX12_best 2 = .ok (.putfield 106, 3) := by decide +kernel
theorem dX12_best_5 : decode cX12_best 5 = .ok (.aload_n 0, 1) := by decide +kernel
theorem dX12_best_6 : decode cX12_best 6 = .ok (.iload_n 1, 1) := by decide +kernel
theorem dX12_best_7 : decode cX12_best 7 = .ok (.iload_n 2, 1) := by decide +kernel
theorem dX12_best_8 : decode cX12_best 8 = .ok (.invokevirtual 224, 3) := by decide +kernel
theorem dX12_best_11 : decode cX12_best 11 = .ok (.ifCond .ne 5, 3) := by decide +kernel
theorem dX12_best_14 : decode cX12_best 14 = .ok (.iconst (-1), 1) := by decide +kernel
theorem dX12_best_15 : decode cX12_best 15 = .ok (.ireturn, 1) := by decide +kernel
theorem dX12_best_16 : decode cX12_best 16 = .ok (.aload_n 0, 1) := by decide +kernel
theorem dX12_best_17 : decode cX12_best 17 = .ok (.iload_n 1, 1) := by decide +kernel
theorem dX12_best_18 : decode cX12_best 18 = .ok (.iload_n 2, 1) := by decide +kernel
theorem dX12_best_19 : decode cX12_best 19 = .ok (.invokevirtual 227, 3) := by decide +kernel
theorem dX12_best_22 : decode cX12_best 22 = .ok (.istore_n 3, 1) := by decide +kernel
theorem dX12_best_23 : decode cX12_best 23 = .ok (.iload_n 3, 1) := by decide +kernel
theorem dX12_best_24 : decode cX12_best 24 = .ok (.ldc 204, 2) := by decide +kernel
theorem dX12_best_26 : decode cX12_best 26 = .ok (.if_icmp .ne 8, 3) := by decide +kernel
theorem dX12_best_29 : decode cX12_best 29 = .ok (.bipush (-2), 2) := by decide +kernel
theorem dX12_best_31 : decode cX12_best 31 = .ok (.goto 4, 3) := by decide +kernel
theorem dX12_best_34 : decode cX12_best 34 = .ok (.iload_n 3, 1) := by decide +kernel
theorem dX12_best_35 : decode cX12_best 35 = .ok (.ireturn, 1) := by decide +kernel
theorem dX12_bests_0 : decode cX12_bests 0 = .ok (.aload_n 0, 1) := by decide +kernel
theorem dX12_bests_1 : decode cX12_bests 1 = .ok (.iload_n 1, 1) := by decide +kernel
theorem dX12_bests_2 : decode cX12_bests 2 = .ok (.iload_n 2, 1) := by decide +kernel
theorem dX12_bests_3 : decode cX12_bests 3 = .ok (.invokevirtual 227, 3) := by decide +kernel
theorem dX12_bests_6 : decode cX12_bests 6 = .ok (.istore_n 3, 1) := by decide +kernel
theorem dX12_bests_7 : decode cX12_bests 7 = .ok (.iload_n 3, 1) := by decide +kernel
theorem dX12_bests_8 : decode cX12_bests 8 = .ok (.ldc 204, 2) := by decide +kernel
theorem dX12_bests_10 : decode cX12_bests 10 = .ok (.if_icmp .ne 5, 3) := by decide +kernel
theorem dX12_bests_13 : decode cX12_bests 13 = .ok (.iconst 0, 1) := by decide +kernel
theorem dX12_bests_14 : decode cX12_bests 14 = .ok (.ireturn, 1) := by decide +kernel
theorem dX12_bests_15 : decode cX12_bests 15 = .ok (.iconst 0, 1) := by decide +kernel
theorem dX12_bests_16 : decode cX12_bests 16 = .ok (.istore 4, 2) := by decide +kernel
theorem dX12_bests_18 : decode cX12_bests 18 = .ok (.aload_n 0, 1) := by decide +kernel
theorem dX12_bests_19 : decode cX12_bests 19 = .ok (.getfield 88, 3) := by decide +kernel
theorem dX12_bests_22 : decode cX12_bests 22 = .ok (.iload 4, 2) := by decide +kernel
theorem dX12_bests_24 : decode cX12_bests 24 = .ok (.iaload, 1) := by decide +kernel
theorem dX12_bests_25 : decode cX12_bests 25 = .ok (.iload_n 3, 1) := by decide +kernel
theorem dX12_bests_26 : decode cX12_bests 26 = .ok (.if_icmp .eq 9, 3) := by decide +kernel
theorem dX12_bests_29 : decode cX12_bests 29 = .ok (.iinc 4 1, 3) := by decide +kernel
theorem dX12_bests_32 : decode cX12_bests 32 = .ok (.goto (-14), 3) := by decide +kernel
theorem dX12_bests_35 : decode cX12_bests 35 = .ok (.aload_n 0, 1) := by decide +kernel
theorem dX12_bests_36 : decode cX12_bests 36 = .ok (.getfield 94, 3) := by decide +kernel
theorem dX12_bests_39 : decode cX12_bests 39 = .ok (.iconst 0, 1) := by decide +kernel
theorem dX12_bests_40 : decode cX12_bests 40 = .ok (.iload 4, 2) := by decide +kernel
theorem dX12_bests_42 : decode cX12_bests 42 = .ok (.iastore, 1) := by decide +kernel
theorem dX12_bests_43 : decode cX12_bests 43 = .ok (.iconst 0, 1) := by decide +kernel
theorem dX12_bests_44 : decode cX12_bests 44 = .ok (.istore 5, 2) := by decide +kernel
theorem dX12_bests_46 : decode cX12_bests 46 = .ok (.iload 5, 2) := by decide +kernel
theorem dX12_bests_48 : decode cX12_bests 48 = .ok (.iconst 1, 1) := by decide +kernel
theorem dX12_bests_49 : decode cX12_bests 49 = .ok (.iadd, 1) := by decide +kernel
theorem dX12_bests_50 : decode cX12_bests 50 = .ok (.aload_n 0, 1) := by decide +kernel
theorem dX12_bests_51 : decode cX12_bests 51 = .ok (.getfield 23, 3) := by decide +kernel
theorem dX12_bests_54 : decode cX12_bests 54 = .ok (.iload_n 1, 1) := by decide +kernel
theorem dX12_bests_55 : decode cX12_bests 55 = .ok (.iaload, 1) := by decide +kernel
theorem dX12_bests_56 : decode cX12_bests 56 = .ok (.if_icmp .ge 196, 3) := by decide +kernel
theorem dX12_bests_59 : decode cX12_bests 59 = .ok (.aload_n 0, 1) := by decide +kernel
theorem dX12_bests_60 : decode cX12_bests 60 = .ok (.getfield 88, 3) := by decide +kernel
theorem dX12_bests_63 : decode cX12_bests 63 = .ok (.sipush 601, 3) := by decide +kernel
theorem dX12_bests_66 : decode cX12_bests 66 = .ok (.iload 5, 2) := by decide +kernel
theorem dX12_bests_68 : decode cX12_bests 68 = .ok (.imul, 1) := by decide +kernel
theorem dX12_bests_69 : decode cX12_bests 69 = .ok (.aload_n 0, 1) := by decide +kernel
theorem dX12_bests_70 : decode cX12_bests 70 = .ok (.getfield 94, 3) := by decide +kernel
theorem dX12_bests_73 : decode cX12_bests 73 = .ok (.iload 5, 2) := by decide +kernel
theorem dX12_bests_75 : decode cX12_bests 75 = .ok (.iaload, 1) := by decide +kernel
theorem dX12_bests_76 : decode cX12_bests 76 = .ok (.iadd, 1) := by decide +kernel
theorem dX12_bests_77 : decode cX12_bests 77 = .ok (.iaload, 1) := by decide +kernel
theorem dX12_bests_78 : decode cX12_bests 78 = .ok (.aload_n 0, 1) := by decide +kernel
theorem dX12_bests_79 : decode cX12_bests 79 = .ok (.getfield 85, 3) := by decide +kernel
theorem dX12_bests_82 : decode cX12_bests 82 = .ok (.sipush 601, 3) := by decide +kernel
theorem dX12_bests_85 : decode cX12_bests 85 = .ok (.iload 5, 2) := by decide +kernel
theorem dX12_bests_87 : decode cX12_bests 87 = .ok (.imul, 1) := by decide +kernel
theorem dX12_bests_88 : decode cX12_bests 88 = .ok (.aload_n 0, 1) := by decide +kernel
theorem dX12_bests_89 : decode cX12_bests 89 = .ok (.getfield 94, 3) := by decide +kernel
theorem dX12_bests_92 : decode cX12_bests 92 = .ok (.iload 5, 2) := by decide +kernel
theorem dX12_bests_94 : decode cX12_bests 94 = .ok (.iaload, 1) := by decide +kernel
theorem dX12_bests_95 : decode cX12_bests 95 = .ok (.iadd, 1) := by decide +kernel
theorem dX12_bests_96 : decode cX12_bests 96 = .ok (.iaload, 1) := by decide +kernel
theorem dX12_bests_97 : decode cX12_bests 97 = .ok (.isub, 1) := by decide +kernel
theorem dX12_bests_98 : decode cX12_bests 98 = .ok (.istore 6, 2) := by decide +kernel
theorem dX12_bests_100 : decode cX12_bests 100 = .ok (.aload_n 0, 1) := by decide +kernel
theorem dX12_bests_101 : decode cX12_bests 101 = .ok (.getfield 94, 3) := by decide +kernel
theorem dX12_bests_104 : decode cX12_bests 104 = .ok (.iload 5, 2) := by decide +kernel
theorem dX12_bests_106 : decode cX12_bests 106 = .ok (.iconst 1, 1) := by decide +kernel
theorem dX12_bests_107 : decode cX12_bests 107 = .ok (.iadd, 1) := by decide +kernel
theorem dX12_bests_108 : decode cX12_bests 108 = .ok (.sipush 601, 3) := by decide +kernel
theorem dX12_bests_111 : decode cX12_bests 111 = .ok (.iastore, 1) := by decide +kernel
theorem dX12_bests_112 : decode cX12_bests 112 = .ok (.iconst 0, 1) := by decide +kernel
theorem dX12_bests_113 : decode cX12_bests 113 = .ok (.istore 7, 2) := by decide +kernel
theorem dX12_bests_115 : decode cX12_bests 115 = .ok (.iload 7, 2) := by decide +kernel
theorem dX12_bests_117 : decode cX12_bests 117 = .ok (.aload_n 0, 1) := by decide +kernel
theorem dX12_bests_118 : decode cX12_bests 118 = .ok (.getfield 82, 3) := by decide +kernel
theorem dX12_bests_121 : decode cX12_bests 121 = .ok (.iload 5, 2) := by decide +kernel
theorem dX12_bests_123 : decode cX12_bests 123 = .ok (.iaload, 1) := by decide +kernel
theorem dX12_bests_124 : decode cX12_bests 124 = .ok (.if_icmp .ge 122, 3) := by decide +kernel
theorem dX12_bests_127 : decode cX12_bests 127 = .ok (.aload_n 0, 1) := by decide +kernel
theorem dX12_bests_128 : decode cX12_bests 128 = .ok (.getfield 94, 3) := by decide +kernel
theorem dX12_bests_131 : decode cX12_bests 131 = .ok (.iload 5, 2) := by decide +kernel
theorem dX12_bests_133 : decode cX12_bests 133 = .ok (.iaload, 1) := by decide +kernel
theorem dX12_bests_134 : decode cX12_bests 134 = .ok (.aload_n 0, 1) := by decide +kernel
theorem dX12_bests_135 : decode cX12_bests 135 = .ok (.getfield 20, 3) := by decide +kernel
theorem dX12_bests_138 : decode cX12_bests 138 = .ok (.iload_n 1, 1) := by decide +kernel
theorem dX12_bests_139 : decode cX12_bests 139 = .ok (.iaload, 1) := by decide +kernel
theorem dX12_bests_140 : decode cX12_bests 140 = .ok (.aload_n 0, 1) := by decide +kernel
theorem dX12_bests_141 : decode cX12_bests 141 = .ok (.getfield 76, 3) := by decide +kernel
theorem dX12_bests_144 : decode cX12_bests 144 = .ok (.bipush 21, 2) := by decide +kernel
theorem dX12_bests_146 : decode cX12_bests 146 = .ok (.iload 5, 2) := by decide +kernel
theorem dX12_bests_148 : decode cX12_bests 148 = .ok (.imul, 1) := by decide +kernel
theorem dX12_bests_149 : decode cX12_bests 149 = .ok (.iload 7, 2) := by decide +kernel
theorem dX12_bests_151 : decode cX12_bests 151 = .ok (.iadd, 1) := by decide +kernel
theorem dX12_bests_152 : decode cX12_bests 152 = .ok (.iaload, 1) := by decide +kernel
theorem dX12_bests_153 : decode cX12_bests 153 = .ok (.imul, 1) := by decide +kernel
theorem dX12_bests_154 : decode cX12_bests 154 = .ok (.iadd, 1) := by decide +kernel
theorem dX12_bests_155 : decode cX12_bests 155 = .ok (.istore 8, 2) := by decide +kernel
theorem dX12_bests_157 : decode cX12_bests 157 = .ok (.iload 8, 2) := by decide +kernel
theorem dX12_bests_159 : decode cX12_bests 159 = .ok (.aload_n 0, 1) := by decide +kernel
theorem dX12_bests_160 : decode cX12_bests 160 = .ok (.getfield 94, 3) := by decide +kernel
theorem dX12_bests_163 : decode cX12_bests 163 = .ok (.iload 5, 2) := by decide +kernel
theorem dX12_bests_165 : decode cX12_bests 165 = .ok (.iconst 1, 1) := by decide +kernel
theorem dX12_bests_166 : decode cX12_bests 166 = .ok (.iadd, 1) := by decide +kernel
theorem dX12_bests_167 : decode cX12_bests 167 = .ok (.iaload, 1) := by decide +kernel
theorem dX12_bests_168 : decode cX12_bests 168 = .ok (.if_icmp .ge 72, 3) := by decide +kernel
theorem dX12_bests_171 : decode cX12_bests 171 = .ok (.aload_n 0, 1) := by decide +kernel
theorem dX12_bests_172 : decode cX12_bests 172 = .ok (.getfield 79, 3) := by decide +kernel
theorem dX12_bests_175 : decode cX12_bests 175 = .ok (.bipush 21, 2) := by decide +kernel
theorem dX12_bests_177 : decode cX12_bests 177 = .ok (.iload 5, 2) := by decide +kernel
theorem dX12_bests_179 : decode cX12_bests 179 = .ok (.imul, 1) := by decide +kernel
theorem dX12_bests_180 : decode cX12_bests 180 = .ok (.iload 7, 2) := by decide +kernel
theorem dX12_bests_182 : decode cX12_bests 182 = .ok (.iadd, 1) := by decide +kernel
theorem dX12_bests_183 : decode cX12_bests 183 = .ok (.iaload, 1) := by decide +kernel
theorem dX12_bests_184 : decode cX12_bests 184 = .ok (.aload_n 0, 1) := by decide +kernel
theorem dX12_bests_185 : decode cX12_bests 185 = .ok (.getfield 88, 3) := by decide +kernel
theorem dX12_bests_188 : decode cX12_bests 188 = .ok (.sipush 601, 3) := by decide +kernel
theorem dX12_bests_191 : decode cX12_bests 191 = .ok (.iload 5, 2) := by decide +kernel
theorem dX12_bests_193 : decode cX12_bests 193 = .ok (.iconst 1, 1) := by decide +kernel
theorem dX12_bests_194 : decode cX12_bests 194 = .ok (.iadd, 1) := by decide +kernel
theorem dX12_bests_195 : decode cX12_bests 195 = .ok (.imul, 1) := by decide +kernel
theorem dX12_bests_196 : decode cX12_bests 196 = .ok (.iload 8, 2) := by decide +kernel
theorem dX12_bests_198 : decode cX12_bests 198 = .ok (.iadd, 1) := by decide +kernel
theorem dX12_bests_199 : decode cX12_bests 199 = .ok (.iaload, 1) := by decide +kernel
theorem dX12_bests_200 : decode cX12_bests 200 = .ok (.iadd, 1) := by decide +kernel
theorem dX12_bests_201 : decode cX12_bests 201 = .ok (.iload 6, 2) := by decide +kernel
theorem dX12_bests_203 : decode cX12_bests 203 = .ok (.if_icmp .eq 6, 3) := by decide +kernel
theorem dX12_bests_206 : decode cX12_bests 206 = .ok (.goto 34, 3) := by decide +kernel
theorem dX12_bests_209 : decode cX12_bests 209 = .ok (.aload_n 0, 1) := by decide +kernel
theorem dX12_bests_210 : decode cX12_bests 210 = .ok (.getfield 94, 3) := by decide +kernel
theorem dX12_bests_213 : decode cX12_bests 213 = .ok (.iload 5, 2) := by decide +kernel
theorem dX12_bests_215 : decode cX12_bests 215 = .ok (.iconst 1, 1) := by decide +kernel
theorem dX12_bests_216 : decode cX12_bests 216 = .ok (.iadd, 1) := by decide +kernel
theorem dX12_bests_217 : decode cX12_bests 217 = .ok (.iload 8, 2) := by decide +kernel
theorem dX12_bests_219 : decode cX12_bests 219 = .ok (.iastore, 1) := by decide +kernel
theorem dX12_bests_220 : decode cX12_bests 220 = .ok (.aload_n 0, 1) := by decide +kernel
theorem dX12_bests_221 : decode cX12_bests 221 = .ok (.getfield 97, 3) := by decide +kernel
theorem dX12_bests_224 : decode cX12_bests 224 = .ok (.iload 5, 2) := by decide +kernel
theorem dX12_bests_226 : decode cX12_bests 226 = .ok (.aload_n 0, 1) := by decide +kernel
theorem dX12_bests_227 : decode cX12_bests 227 = .ok (.getfield 76, 3) := by decide +kernel
theorem dX12_bests_230 : decode cX12_bests 230 = .ok (.bipush 21, 2) := by decide +kernel
theorem dX12_bests_232 : decode cX12_bests 232 = .ok (.iload 5, 2) := by decide +kernel
theorem dX12_bests_234 : decode cX12_bests 234 = .ok (.imul, 1) := by decide +kernel
theorem dX12_bests_235 : decode cX12_bests 235 = .ok (.iload 7, 2) := by decide +kernel
theorem dX12_bests_237 : decode cX12_bests 237 = .ok (.iadd, 1) := by decide +kernel
theorem dX12_bests_238 : decode cX12_bests 238 = .ok (.iaload, 1) := by decide +kernel
theorem dX12_bests_239 : decode cX12_bests 239 = .ok (.iastore, 1) := by decide +kernel
theorem dX12_bests_240 : decode cX12_bests 240 = .ok (.iinc 7 1, 3) := by decide +kernel
theorem dX12_bests_243 : decode cX12_bests 243 = .ok (.goto (-128), 3) := by decide +kernel
theorem dX12_bests_246 : decode cX12_bests 246 = .ok (.iinc 5 1, 3) := by decide +kernel
theorem dX12_bests_249 : decode cX12_bests 249 = .ok (.goto (-203), 3) := by decide +kernel
theorem dX12_bests_252 : decode cX12_bests 252 = .ok (.iconst 1, 1) := by decide +kernel
theorem dX12_bests_253 : decode cX12_bests 253 = .ok (.ireturn, 1) := by decide +kernel
theorem dX12_at_0 : decode cX12_at 0 = .ok (.aload_n 0, 1) := by decide +kernel
theorem dX12_at_1 : decode cX12_at 1 = .ok (.iconst 0, 1) := by decide +kernel
theorem dX12_at_2 : decode cX12_at 2 = .ok (.putfield 106, 3) := by decide +kernel
theorem dX12_at_5 : decode cX12_at 5 = .ok (.aload_n 0, 1) := by decide +kernel
theorem dX12_at_6 : decode cX12_at 6 = .ok (.iload_n 1, 1) := by decide +kernel
theorem dX12_at_7 : decode cX12_at 7 = .ok (.iload_n 2, 1) := by decide +kernel
theorem dX12_at_8 : decode cX12_at 8 = .ok (.invokevirtual 224, 3) := by decide +kernel
theorem dX12_at_11 : decode cX12_at 11 = .ok (.ifCond .eq 30, 3) := by decide +kernel
theorem dX12_at_14 : decode cX12_at 14 = .ok (.aload_n 0, 1) := by decide +kernel
theorem dX12_at_15 : decode cX12_at 15 = .ok (.iload_n 1, 1) := by decide +kernel
theorem dX12_at_16 : decode cX12_at 16 = .ok (.iload_n 3, 1) := by decide +kernel
theorem dX12_at_17 : decode cX12_at 17 = .ok (.invokevirtual 191, 3) := by decide +kernel
theorem dX12_at_20 : decode cX12_at 20 = .ok (.ifCond .eq 21, 3) := by decide +kernel
theorem dX12_at_23 : decode cX12_at 23 = .ok (.aload_n 0, 1) := by decide +kernel
theorem dX12_at_24 : decode cX12_at 24 = .ok (.iload_n 1, 1) := by decide +kernel
theorem dX12_at_25 : decode cX12_at 25 = .ok (.iload_n 2, 1) := by decide +kernel
theorem dX12_at_26 : decode cX12_at 26 = .ok (.invokevirtual 230, 3) := by decide +kernel
theorem dX12_at_29 : decode cX12_at 29 = .ok (.ifCond .eq 12, 3) := by decide +kernel
theorem dX12_at_32 : decode cX12_at 32 = .ok (.aload_n 0, 1) := by decide +kernel
theorem dX12_at_33 : decode cX12_at 33 = .ok (.getfield 94, 3) := by decide +kernel
theorem dX12_at_36 : decode cX12_at 36 = .ok (.iload_n 3, 1) := by decide +kernel
theorem dX12_at_37 : decode cX12_at 37 = .ok (.iaload, 1) := by decide +kernel
theorem dX12_at_38 : decode cX12_at 38 = .ok (.goto 4, 3) := by decide +kernel
theorem dX12_at_41 : decode cX12_at 41 = .ok (.iconst (-1), 1) := by decide +kernel
theorem dX12_at_42 : decode cX12_at 42 = .ok (.ireturn, 1) := by decide +kernel
theorem dX12_span_0 : decode cX12_span 0 = .ok (.aload_n 0, 1) := by decide +kernel
theorem dX12_span_1 : decode cX12_span 1 = .ok (.iconst 0, 1) := by decide +kernel
theorem dX12_span_2 : decode cX12_span 2 = .ok (.putfield 106, 3) := by decide +kernel
theorem dX12_span_5 : decode cX12_span 5 = .ok (.aload_n 0, 1) := by decide +kernel
theorem dX12_span_6 : decode cX12_span 6 = .ok (.iload_n 1, 1) := by decide +kernel
theorem dX12_span_7 : decode cX12_span 7 = .ok (.iload_n 2, 1) := by decide +kernel
theorem dX12_span_8 : decode cX12_span 8 = .ok (.invokevirtual 224, 3) := by decide +kernel
theorem dX12_span_11 : decode cX12_span 11 = .ok (.ifCond .eq 33, 3) := by decide +kernel
theorem dX12_span_14 : decode cX12_span 14 = .ok (.iload_n 3, 1) := by decide +kernel
theorem dX12_span_15 : decode cX12_span 15 = .ok (.iconst 0, 1) := by decide +kernel
theorem dX12_span_16 : decode cX12_span 16 = .ok (.bipush 20, 2) := by decide +kernel
theorem dX12_span_18 : decode cX12_span 18 = .ok (.invokestatic 112, 3) := by decide +kernel
theorem dX12_span_21 : decode cX12_span 21 = .ok (.ifCond .eq 23, 3) := by decide +kernel
theorem dX12_span_24 : decode cX12_span 24 = .ok (.aload_n 0, 1) := by decide +kernel
theorem dX12_span_25 : decode cX12_span 25 = .ok (.iload_n 1, 1) := by decide +kernel
theorem dX12_span_26 : decode cX12_span 26 = .ok (.iload 4, 2) := by decide +kernel
theorem dX12_span_28 : decode cX12_span 28 = .ok (.invokevirtual 191, 3) := by decide +kernel
theorem dX12_span_31 : decode cX12_span 31 = .ok (.ifCond .eq 13, 3) := by decide +kernel
theorem dX12_span_34 : decode cX12_span 34 = .ok (.iload 5, 2) := by decide +kernel
theorem dX12_span_36 : decode cX12_span 36 = .ok (.iconst 0, 1) := by decide +kernel
theorem dX12_span_37 : decode cX12_span 37 = .ok (.iconst 1, 1) := by decide +kernel
theorem dX12_span_38 : decode cX12_span 38 = .ok (.invokestatic 112, 3) := by decide +kernel
theorem dX12_span_41 : decode cX12_span 41 = .ok (.ifCond .ne 5, 3) := by decide +kernel
theorem dX12_span_44 : decode cX12_span 44 = .ok (.iconst (-1), 1) := by decide +kernel
theorem dX12_span_45 : decode cX12_span 45 = .ok (.ireturn, 1) := by decide +kernel
theorem dX12_span_46 : decode cX12_span 46 = .ok (.aload_n 0, 1) := by decide +kernel
theorem dX12_span_47 : decode cX12_span 47 = .ok (.iload_n 1, 1) := by decide +kernel
theorem dX12_span_48 : decode cX12_span 48 = .ok (.iload_n 2, 1) := by decide +kernel
theorem dX12_span_49 : decode cX12_span 49 = .ok (.invokevirtual 227, 3) := by decide +kernel
theorem dX12_span_52 : decode cX12_span 52 = .ok (.istore 6, 2) := by decide +kernel
theorem dX12_span_54 : decode cX12_span 54 = .ok (.iload 6, 2) := by decide +kernel
theorem dX12_span_56 : decode cX12_span 56 = .ok (.ldc 204, 2) := by decide +kernel
theorem dX12_span_58 : decode cX12_span 58 = .ok (.if_icmp .ne 5, 3) := by decide +kernel
theorem dX12_span_61 : decode cX12_span 61 = .ok (.iconst (-1), 1) := by decide +kernel
theorem dX12_span_62 : decode cX12_span 62 = .ok (.ireturn, 1) := by decide +kernel
theorem dX12_span_63 : decode cX12_span 63 = .ok (.aload_n 0, 1) := by decide +kernel
theorem dX12_span_64 : decode cX12_span 64 = .ok (.iload_n 1, 1) := by decide +kernel
theorem dX12_span_65 : decode cX12_span 65 = .ok (.invokevirtual 233, 3) := by decide +kernel
theorem dX12_span_68 : decode cX12_span 68 = .ok (.iconst (-1), 1) := by decide +kernel
theorem dX12_span_69 : decode cX12_span 69 = .ok (.istore 7, 2) := by decide +kernel
theorem dX12_span_71 : decode cX12_span 71 = .ok (.iconst 0, 1) := by decide +kernel
theorem dX12_span_72 : decode cX12_span 72 = .ok (.istore 8, 2) := by decide +kernel
theorem dX12_span_74 : decode cX12_span 74 = .ok (.iload 8, 2) := by decide +kernel
theorem dX12_span_76 : decode cX12_span 76 = .ok (.sipush 601, 3) := by decide +kernel
theorem dX12_span_79 : decode cX12_span 79 = .ok (.if_icmp .ge 93, 3) := by decide +kernel
theorem dX12_span_82 : decode cX12_span 82 = .ok (.sipush 601, 3) := by decide +kernel
theorem dX12_span_85 : decode cX12_span 85 = .ok (.iload 4, 2) := by decide +kernel
theorem dX12_span_87 : decode cX12_span 87 = .ok (.imul, 1) := by decide +kernel
theorem dX12_span_88 : decode cX12_span 88 = .ok (.iload 8, 2) := by decide +kernel
theorem dX12_span_90 : decode cX12_span 90 = .ok (.iadd, 1) := by decide +kernel
theorem dX12_span_91 : decode cX12_span 91 = .ok (.istore 9, 2) := by decide +kernel
theorem dX12_span_93 : decode cX12_span 93 = .ok (.aload_n 0, 1) := by decide +kernel
theorem dX12_span_94 : decode cX12_span 94 = .ok (.getfield 91, 3) := by decide +kernel
theorem dX12_span_97 : decode cX12_span 97 = .ok (.iload 9, 2) := by decide +kernel
theorem dX12_span_99 : decode cX12_span 99 = .ok (.iaload, 1) := by decide +kernel
theorem dX12_span_100 : decode cX12_span 100 = .ok (.ldc 204, 2) := by decide +kernel
theorem dX12_span_102 : decode cX12_span 102 = .ok (.if_icmp .ge 64, 3) := by decide +kernel
theorem dX12_span_105 : decode cX12_span 105 = .ok (.aload_n 0, 1) := by decide +kernel
theorem dX12_span_106 : decode cX12_span 106 = .ok (.getfield 88, 3) := by decide +kernel
theorem dX12_span_109 : decode cX12_span 109 = .ok (.iload 9, 2) := by decide +kernel
theorem dX12_span_111 : decode cX12_span 111 = .ok (.iaload, 1) := by decide +kernel
theorem dX12_span_112 : decode cX12_span 112 = .ok (.ldc 204, 2) := by decide +kernel
theorem dX12_span_114 : decode cX12_span 114 = .ok (.if_icmp .ge 52, 3) := by decide +kernel
theorem dX12_span_117 : decode cX12_span 117 = .ok (.aload_n 0, 1) := by decide +kernel
theorem dX12_span_118 : decode cX12_span 118 = .ok (.getfield 91, 3) := by decide +kernel
theorem dX12_span_121 : decode cX12_span 121 = .ok (.iload 9, 2) := by decide +kernel
theorem dX12_span_123 : decode cX12_span 123 = .ok (.iaload, 1) := by decide +kernel
theorem dX12_span_124 : decode cX12_span 124 = .ok (.aload_n 0, 1) := by decide +kernel
theorem dX12_span_125 : decode cX12_span 125 = .ok (.getfield 88, 3) := by decide +kernel
theorem dX12_span_128 : decode cX12_span 128 = .ok (.iload 9, 2) := by decide +kernel
theorem dX12_span_130 : decode cX12_span 130 = .ok (.iaload, 1) := by decide +kernel
theorem dX12_span_131 : decode cX12_span 131 = .ok (.iadd, 1) := by decide +kernel
theorem dX12_span_132 : decode cX12_span 132 = .ok (.aload_n 0, 1) := by decide +kernel
theorem dX12_span_133 : decode cX12_span 133 = .ok (.getfield 85, 3) := by decide +kernel
theorem dX12_span_136 : decode cX12_span 136 = .ok (.iload 9, 2) := by decide +kernel
theorem dX12_span_138 : decode cX12_span 138 = .ok (.iaload, 1) := by decide +kernel
theorem dX12_span_139 : decode cX12_span 139 = .ok (.isub, 1) := by decide +kernel
theorem dX12_span_140 : decode cX12_span 140 = .ok (.iload 6, 2) := by decide +kernel
theorem dX12_span_142 : decode cX12_span 142 = .ok (.iload_n 3, 1) := by decide +kernel
theorem dX12_span_143 : decode cX12_span 143 = .ok (.iadd, 1) := by decide +kernel
theorem dX12_span_144 : decode cX12_span 144 = .ok (.if_icmp .le 6, 3) := by decide +kernel
theorem dX12_span_147 : decode cX12_span 147 = .ok (.goto 19, 3) := by decide +kernel
theorem dX12_span_150 : decode cX12_span 150 = .ok (.iload 7, 2) := by decide +kernel
theorem dX12_span_152 : decode cX12_span 152 = .ok (.iconst (-1), 1) := by decide +kernel
theorem dX12_span_153 : decode cX12_span 153 = .ok (.if_icmp .eq 9, 3) := by decide +kernel
theorem dX12_span_156 : decode cX12_span 156 = .ok (.iload 5, 2) := by decide +kernel
theorem dX12_span_158 : decode cX12_span 158 = .ok (.iconst 1, 1) := by decide +kernel
theorem dX12_span_159 : decode cX12_span 159 = .ok (.if_icmp .ne 7, 3) := by decide +kernel
theorem dX12_span_162 : decode cX12_span 162 = .ok (.iload 8, 2) := by decide +kernel
theorem dX12_span_164 : decode cX12_span 164 = .ok (.istore 7, 2) := by decide +kernel
theorem dX12_span_166 : decode cX12_span 166 = .ok (.iinc 8 1, 3) := by decide +kernel
theorem dX12_span_169 : decode cX12_span 169 = .ok (.goto (-95), 3) := by decide +kernel
theorem dX12_span_172 : decode cX12_span 172 = .ok (.iload 7, 2) := by decide +kernel
theorem dX12_span_174 : decode cX12_span 174 = .ok (.ireturn, 1) := by decide +kernel
theorem dX12_rivals_0 : decode cX12_rivals 0 = .ok (.aload_n 0, 1) := by decide +kernel
theorem dX12_rivals_1 : decode cX12_rivals 1 = .ok (.iconst 0, 1) := by decide +kernel
theorem dX12_rivals_2 : decode cX12_rivals 2 = .ok (.putfield 106, 3) := by decide +kernel
theorem dX12_rivals_5 : decode cX12_rivals 5 = .ok (.aload_n 0, 1) := by decide +kernel
theorem dX12_rivals_6 : decode cX12_rivals 6 = .ok (.iload_n 1, 1) := by decide +kernel
theorem dX12_rivals_7 : decode cX12_rivals 7 = .ok (.iload_n 2, 1) := by decide +kernel
theorem dX12_rivals_8 : decode cX12_rivals 8 = .ok (.invokevirtual 224, 3) := by decide +kernel
theorem dX12_rivals_11 : decode cX12_rivals 11 = .ok (.ifCond .eq 13, 3) := by decide +kernel
theorem dX12_rivals_14 : decode cX12_rivals 14 = .ok (.iload_n 3, 1) := by decide +kernel
theorem dX12_rivals_15 : decode cX12_rivals 15 = .ok (.iconst 0, 1) := by decide +kernel
theorem dX12_rivals_16 : decode cX12_rivals 16 = .ok (.bipush 20, 2) := by decide +kernel
theorem dX12_rivals_18 : decode cX12_rivals 18 = .ok (.invokestatic 112, 3) := by decide +kernel
theorem dX12_rivals_21 : decode cX12_rivals 21 = .ok (.ifCond .ne 5, 3) := by decide +kernel
theorem dX12_rivals_24 : decode cX12_rivals 24 = .ok (.iconst (-1), 1) := by decide +kernel
theorem dX12_rivals_25 : decode cX12_rivals 25 = .ok (.ireturn, 1) := by decide +kernel
theorem dX12_rivals_26 : decode cX12_rivals 26 = .ok (.aload_n 0, 1) := by decide +kernel
theorem dX12_rivals_27 : decode cX12_rivals 27 = .ok (.iload_n 1, 1) := by decide +kernel
theorem dX12_rivals_28 : decode cX12_rivals 28 = .ok (.iload_n 2, 1) := by decide +kernel
theorem dX12_rivals_29 : decode cX12_rivals 29 = .ok (.invokevirtual 227, 3) := by decide +kernel
theorem dX12_rivals_32 : decode cX12_rivals 32 = .ok (.istore 4, 2) := by decide +kernel
theorem dX12_rivals_34 : decode cX12_rivals 34 = .ok (.iload 4, 2) := by decide +kernel
theorem dX12_rivals_36 : decode cX12_rivals 36 = .ok (.ldc 204, 2) := by decide +kernel
theorem dX12_rivals_38 : decode cX12_rivals 38 = .ok (.if_icmp .ne 5, 3) := by decide +kernel
theorem dX12_rivals_41 : decode cX12_rivals 41 = .ok (.iconst (-1), 1) := by decide +kernel
theorem dX12_rivals_42 : decode cX12_rivals 42 = .ok (.ireturn, 1) := by decide +kernel
theorem dX12_rivals_43 : decode cX12_rivals 43 = .ok (.aload_n 0, 1) := by decide +kernel
theorem dX12_rivals_44 : decode cX12_rivals 44 = .ok (.getfield 23, 3) := by decide +kernel
theorem dX12_rivals_47 : decode cX12_rivals 47 = .ok (.iload_n 1, 1) := by decide +kernel
theorem dX12_rivals_48 : decode cX12_rivals 48 = .ok (.iaload, 1) := by decide +kernel
theorem dX12_rivals_49 : decode cX12_rivals 49 = .ok (.istore 5, 2) := by decide +kernel
theorem dX12_rivals_51 : decode cX12_rivals 51 = .ok (.iload 5, 2) := by decide +kernel
theorem dX12_rivals_53 : decode cX12_rivals 53 = .ok (.iconst 1, 1) := by decide +kernel
theorem dX12_rivals_54 : decode cX12_rivals 54 = .ok (.isub, 1) := by decide +kernel
theorem dX12_rivals_55 : decode cX12_rivals 55 = .ok (.istore 6, 2) := by decide +kernel
theorem dX12_rivals_57 : decode cX12_rivals 57 = .ok (.iload 6, 2) := by decide +kernel
theorem dX12_rivals_59 : decode cX12_rivals 59 = .ok (.ifCond .lt 149, 3) := by decide +kernel
theorem dX12_rivals_62 : decode cX12_rivals 62 = .ok (.iconst 0, 1) := by decide +kernel
theorem dX12_rivals_63 : decode cX12_rivals 63 = .ok (.istore 7, 2) := by decide +kernel
theorem dX12_rivals_65 : decode cX12_rivals 65 = .ok (.iload 7, 2) := by decide +kernel
theorem dX12_rivals_67 : decode cX12_rivals 67 = .ok (.sipush 601, 3) := by decide +kernel
theorem dX12_rivals_70 : decode cX12_rivals 70 = .ok (.if_icmp .ge 132, 3) := by decide +kernel
theorem dX12_rivals_73 : decode cX12_rivals 73 = .ok (.iload 6, 2) := by decide +kernel
theorem dX12_rivals_75 : decode cX12_rivals 75 = .ok (.iconst 2, 1) := by decide +kernel
theorem dX12_rivals_76 : decode cX12_rivals 76 = .ok (.irem, 1) := by decide +kernel
theorem dX12_rivals_77 : decode cX12_rivals 77 = .ok (.sipush 601, 3) := by decide +kernel
theorem dX12_rivals_80 : decode cX12_rivals 80 = .ok (.imul, 1) := by decide +kernel
theorem dX12_rivals_81 : decode cX12_rivals 81 = .ok (.iload 7, 2) := by decide +kernel
theorem dX12_rivals_83 : decode cX12_rivals 83 = .ok (.iadd, 1) := by decide +kernel
theorem dX12_rivals_84 : decode cX12_rivals 84 = .ok (.bipush 21, 2) := by decide +kernel
theorem dX12_rivals_86 : decode cX12_rivals 86 = .ok (.imul, 1) := by decide +kernel
theorem dX12_rivals_87 : decode cX12_rivals 87 = .ok (.istore 8, 2) := by decide +kernel
theorem dX12_rivals_89 : decode cX12_rivals 89 = .ok (.iconst 0, 1) := by decide +kernel
theorem dX12_rivals_90 : decode cX12_rivals 90 = .ok (.istore 9, 2) := by decide +kernel
theorem dX12_rivals_92 : decode cX12_rivals 92 = .ok (.iload 9, 2) := by decide +kernel
theorem dX12_rivals_94 : decode cX12_rivals 94 = .ok (.bipush 21, 2) := by decide +kernel
theorem dX12_rivals_96 : decode cX12_rivals 96 = .ok (.if_icmp .ge 38, 3) := by decide +kernel
theorem dX12_rivals_99 : decode cX12_rivals 99 = .ok (.aload_n 0, 1) := by decide +kernel
theorem dX12_rivals_100 : decode cX12_rivals 100 = .ok (.getfield 100, 3) := by decide +kernel
theorem dX12_rivals_103 : decode cX12_rivals 103 = .ok (.iload 8, 2) := by decide +kernel
theorem dX12_rivals_105 : decode cX12_rivals 105 = .ok (.iload 9, 2) := by decide +kernel
theorem dX12_rivals_107 : decode cX12_rivals 107 = .ok (.iadd, 1) := by decide +kernel
theorem dX12_rivals_108 : decode cX12_rivals 108 = .ok (.iload 6, 2) := by decide +kernel
theorem dX12_rivals_110 : decode cX12_rivals 110 = .ok (.iload 5, 2) := by decide +kernel
theorem dX12_rivals_112 : decode cX12_rivals 112 = .ok (.iconst 1, 1) := by decide +kernel
theorem dX12_rivals_113 : decode cX12_rivals 113 = .ok (.isub, 1) := by decide +kernel
theorem dX12_rivals_114 : decode cX12_rivals 114 = .ok (.if_icmp .ne 12, 3) := by decide +kernel
theorem dX12_rivals_117 : decode cX12_rivals 117 = .ok (.iload 9, 2) := by decide +kernel
theorem dX12_rivals_119 : decode cX12_rivals 119 = .ok (.ifCond .ne 7, 3) := by decide +kernel
theorem dX12_rivals_122 : decode cX12_rivals 122 = .ok (.iconst 1, 1) := by decide +kernel
theorem dX12_rivals_123 : decode cX12_rivals 123 = .ok (.goto 4, 3) := by decide +kernel
theorem dX12_rivals_126 : decode cX12_rivals 126 = .ok (.iconst 0, 1) := by decide +kernel
theorem dX12_rivals_127 : decode cX12_rivals 127 = .ok (.iastore, 1) := by decide +kernel
theorem dX12_rivals_128 : decode cX12_rivals 128 = .ok (.iinc 9 1, 3) := by decide +kernel
theorem dX12_rivals_131 : decode cX12_rivals 131 = .ok (.goto (-39), 3) := by decide +kernel
theorem dX12_rivals_134 : decode cX12_rivals 134 = .ok (.aload_n 0, 1) := by decide +kernel
theorem dX12_rivals_135 : decode cX12_rivals 135 = .ok (.getfield 88, 3) := by decide +kernel
theorem dX12_rivals_138 : decode cX12_rivals 138 = .ok (.sipush 601, 3) := by decide +kernel
theorem dX12_rivals_141 : decode cX12_rivals 141 = .ok (.iload 6, 2) := by decide +kernel
theorem dX12_rivals_143 : decode cX12_rivals 143 = .ok (.imul, 1) := by decide +kernel
theorem dX12_rivals_144 : decode cX12_rivals 144 = .ok (.iload 7, 2) := by decide +kernel
theorem dX12_rivals_146 : decode cX12_rivals 146 = .ok (.iadd, 1) := by decide +kernel
theorem dX12_rivals_147 : decode cX12_rivals 147 = .ok (.iaload, 1) := by decide +kernel
theorem dX12_rivals_148 : decode cX12_rivals 148 = .ok (.ldc 204, 2) := by decide +kernel
theorem dX12_rivals_150 : decode cX12_rivals 150 = .ok (.if_icmp .ge 46, 3) := by decide +kernel
theorem dX12_rivals_153 : decode cX12_rivals 153 = .ok (.iconst 0, 1) := by decide +kernel
theorem dX12_rivals_154 : decode cX12_rivals 154 = .ok (.istore 9, 2) := by decide +kernel
theorem dX12_rivals_156 : decode cX12_rivals 156 = .ok (.iload 6, 2) := by decide +kernel
theorem dX12_rivals_158 : decode cX12_rivals 158 = .ok (.iload 5, 2) := by decide +kernel
theorem dX12_rivals_160 : decode cX12_rivals 160 = .ok (.iconst 1, 1) := by decide +kernel
theorem dX12_rivals_161 : decode cX12_rivals 161 = .ok (.isub, 1) := by decide +kernel
theorem dX12_rivals_162 : decode cX12_rivals 162 = .ok (.if_icmp .ge 34, 3) := by decide +kernel
theorem dX12_rivals_165 : decode cX12_rivals 165 = .ok (.iload 9, 2) := by decide +kernel
theorem dX12_rivals_167 : decode cX12_rivals 167 = .ok (.aload_n 0, 1) := by decide +kernel
theorem dX12_rivals_168 : decode cX12_rivals 168 = .ok (.getfield 82, 3) := by decide +kernel
theorem dX12_rivals_171 : decode cX12_rivals 171 = .ok (.iload 6, 2) := by decide +kernel
theorem dX12_rivals_173 : decode cX12_rivals 173 = .ok (.iaload, 1) := by decide +kernel
theorem dX12_rivals_174 : decode cX12_rivals 174 = .ok (.if_icmp .ge 22, 3) := by decide +kernel
theorem dX12_rivals_177 : decode cX12_rivals 177 = .ok (.aload_n 0, 1) := by decide +kernel
theorem dX12_rivals_178 : decode cX12_rivals 178 = .ok (.iload_n 1, 1) := by decide +kernel
theorem dX12_rivals_179 : decode cX12_rivals 179 = .ok (.iload 6, 2) := by decide +kernel
theorem dX12_rivals_181 : decode cX12_rivals 181 = .ok (.iload 7, 2) := by decide +kernel
theorem dX12_rivals_183 : decode cX12_rivals 183 = .ok (.iload 9, 2) := by decide +kernel
theorem dX12_rivals_185 : decode cX12_rivals 185 = .ok (.iload 8, 2) := by decide +kernel
theorem dX12_rivals_187 : decode cX12_rivals 187 = .ok (.invokevirtual 236, 3) := by decide +kernel
theorem dX12_rivals_190 : decode cX12_rivals 190 = .ok (.iinc 9 1, 3) := by decide +kernel
theorem dX12_rivals_193 : decode cX12_rivals 193 = .ok (.goto (-37), 3) := by decide +kernel
theorem dX12_rivals_196 : decode cX12_rivals 196 = .ok (.iinc 7 1, 3) := by decide +kernel
theorem dX12_rivals_199 : decode cX12_rivals 199 = .ok (.goto (-134), 3) := by decide +kernel
theorem dX12_rivals_202 : decode cX12_rivals 202 = .ok (.iinc 6 (-1), 3) := by decide +kernel
theorem dX12_rivals_205 : decode cX12_rivals 205 = .ok (.goto (-148), 3) := by decide +kernel
theorem dX12_rivals_208 : decode cX12_rivals 208 = .ok (.iconst 0, 1) := by decide +kernel
theorem dX12_rivals_209 : decode cX12_rivals 209 = .ok (.istore 6, 2) := by decide +kernel
theorem dX12_rivals_211 : decode cX12_rivals 211 = .ok (.iconst 0, 1) := by decide +kernel
theorem dX12_rivals_212 : decode cX12_rivals 212 = .ok (.istore 7, 2) := by decide +kernel
theorem dX12_rivals_214 : decode cX12_rivals 214 = .ok (.iload 7, 2) := by decide +kernel
theorem dX12_rivals_216 : decode cX12_rivals 216 = .ok (.sipush 601, 3) := by decide +kernel
theorem dX12_rivals_219 : decode cX12_rivals 219 = .ok (.if_icmp .ge 65, 3) := by decide +kernel
theorem dX12_rivals_222 : decode cX12_rivals 222 = .ok (.iconst 0, 1) := by decide +kernel
theorem dX12_rivals_223 : decode cX12_rivals 223 = .ok (.istore 8, 2) := by decide +kernel
theorem dX12_rivals_225 : decode cX12_rivals 225 = .ok (.iload 8, 2) := by decide +kernel
theorem dX12_rivals_227 : decode cX12_rivals 227 = .ok (.bipush 21, 2) := by decide +kernel
theorem dX12_rivals_229 : decode cX12_rivals 229 = .ok (.if_icmp .ge 49, 3) := by decide +kernel
theorem dX12_rivals_232 : decode cX12_rivals 232 = .ok (.aload_n 0, 1) := by decide +kernel
theorem dX12_rivals_233 : decode cX12_rivals 233 = .ok (.getfield 88, 3) := by decide +kernel
theorem dX12_rivals_236 : decode cX12_rivals 236 = .ok (.iload 7, 2) := by decide +kernel
theorem dX12_rivals_238 : decode cX12_rivals 238 = .ok (.iaload, 1) := by decide +kernel
theorem dX12_rivals_239 : decode cX12_rivals 239 = .ok (.iload 8, 2) := by decide +kernel
theorem dX12_rivals_241 : decode cX12_rivals 241 = .ok (.iadd, 1) := by decide +kernel
theorem dX12_rivals_242 : decode cX12_rivals 242 = .ok (.iload 4, 2) := by decide +kernel
theorem dX12_rivals_244 : decode cX12_rivals 244 = .ok (.iload_n 3, 1) := by decide +kernel
theorem dX12_rivals_245 : decode cX12_rivals 245 = .ok (.iadd, 1) := by decide +kernel
theorem dX12_rivals_246 : decode cX12_rivals 246 = .ok (.if_icmp .gt 32, 3) := by decide +kernel
theorem dX12_rivals_249 : decode cX12_rivals 249 = .ok (.ldc 240, 2) := by decide +kernel
theorem dX12_rivals_251 : decode cX12_rivals 251 = .ok (.iload 6, 2) := by decide +kernel
theorem dX12_rivals_253 : decode cX12_rivals 253 = .ok (.aload_n 0, 1) := by decide +kernel
theorem dX12_rivals_254 : decode cX12_rivals 254 = .ok (.getfield 100, 3) := by decide +kernel
theorem dX12_rivals_257 : decode cX12_rivals 257 = .ok (.iload 7, 2) := by decide +kernel
theorem dX12_rivals_259 : decode cX12_rivals 259 = .ok (.bipush 21, 2) := by decide +kernel
theorem dX12_rivals_261 : decode cX12_rivals 261 = .ok (.imul, 1) := by decide +kernel
theorem dX12_rivals_262 : decode cX12_rivals 262 = .ok (.iload 8, 2) := by decide +kernel
theorem dX12_rivals_264 : decode cX12_rivals 264 = .ok (.iadd, 1) := by decide +kernel
theorem dX12_rivals_265 : decode cX12_rivals 265 = .ok (.iaload, 1) := by decide +kernel
theorem dX12_rivals_266 : decode cX12_rivals 266 = .ok (.iadd, 1) := by decide +kernel
theorem dX12_rivals_267 : decode cX12_rivals 267 = .ok (.invokestatic 130, 3) := by decide +kernel
theorem dX12_rivals_270 : decode cX12_rivals 270 = .ok (.istore 6, 2) := by decide +kernel
theorem dX12_rivals_272 : decode cX12_rivals 272 = .ok (.iinc 8 1, 3) := by decide +kernel
theorem dX12_rivals_275 : decode cX12_rivals 275 = .ok (.goto (-50), 3) := by decide +kernel
theorem dX12_rivals_278 : decode cX12_rivals 278 = .ok (.iinc 7 1, 3) := by decide +kernel
theorem dX12_rivals_281 : decode cX12_rivals 281 = .ok (.goto (-67), 3) := by decide +kernel
theorem dX12_rivals_284 : decode cX12_rivals 284 = .ok (.iload 6, 2) := by decide +kernel
theorem dX12_rivals_286 : decode cX12_rivals 286 = .ok (.ldc 240, 2) := by decide +kernel
theorem dX12_rivals_288 : decode cX12_rivals 288 = .ok (.if_icmp .ne 8, 3) := by decide +kernel
theorem dX12_rivals_291 : decode cX12_rivals 291 = .ok (.ldc 204, 2) := by decide +kernel
theorem dX12_rivals_293 : decode cX12_rivals 293 = .ok (.goto 5, 3) := by decide +kernel
theorem dX12_rivals_296 : decode cX12_rivals 296 = .ok (.iload 6, 2) := by decide +kernel
theorem dX12_rivals_298 : decode cX12_rivals 298 = .ok (.ireturn, 1) := by decide +kernel
theorem dX12_joins_0 : decode cX12_joins 0 = .ok (.iload_n 3, 1) := by decide +kernel
theorem dX12_joins_1 : decode cX12_joins 1 = .ok (.aload_n 0, 1) := by decide +kernel
theorem dX12_joins_2 : decode cX12_joins 2 = .ok (.getfield 20, 3) := by decide +kernel
theorem dX12_joins_5 : decode cX12_joins 5 = .ok (.iload_n 1, 1) := by decide +kernel
theorem dX12_joins_6 : decode cX12_joins 6 = .ok (.iaload, 1) := by decide +kernel
theorem dX12_joins_7 : decode cX12_joins 7 = .ok (.aload_n 0, 1) := by decide +kernel
theorem dX12_joins_8 : decode cX12_joins 8 = .ok (.getfield 76, 3) := by decide +kernel
theorem dX12_joins_11 : decode cX12_joins 11 = .ok (.bipush 21, 2) := by decide +kernel
theorem dX12_joins_13 : decode cX12_joins 13 = .ok (.iload_n 2, 1) := by decide +kernel
theorem dX12_joins_14 : decode cX12_joins 14 = .ok (.imul, 1) := by decide +kernel
theorem dX12_joins_15 : decode cX12_joins 15 = .ok (.iload 4, 2) := by decide +kernel
theorem dX12_joins_17 : decode cX12_joins 17 = .ok (.iadd, 1) := by decide +kernel
theorem dX12_joins_18 : decode cX12_joins 18 = .ok (.iaload, 1) := by decide +kernel
theorem dX12_joins_19 : decode cX12_joins 19 = .ok (.imul, 1) := by decide +kernel
theorem dX12_joins_20 : decode cX12_joins 20 = .ok (.iadd, 1) := by decide +kernel
theorem dX12_joins_21 : decode cX12_joins 21 = .ok (.istore 6, 2) := by decide +kernel
theorem dX12_joins_23 : decode cX12_joins 23 = .ok (.iload 6, 2) := by decide +kernel
theorem dX12_joins_25 : decode cX12_joins 25 = .ok (.sipush 601, 3) := by decide +kernel
theorem dX12_joins_28 : decode cX12_joins 28 = .ok (.if_icmp .ge 23, 3) := by decide +kernel
theorem dX12_joins_31 : decode cX12_joins 31 = .ok (.aload_n 0, 1) := by decide +kernel
theorem dX12_joins_32 : decode cX12_joins 32 = .ok (.getfield 88, 3) := by decide +kernel
theorem dX12_joins_35 : decode cX12_joins 35 = .ok (.sipush 601, 3) := by decide +kernel
theorem dX12_joins_38 : decode cX12_joins 38 = .ok (.iload_n 2, 1) := by decide +kernel
theorem dX12_joins_39 : decode cX12_joins 39 = .ok (.iconst 1, 1) := by decide +kernel
theorem dX12_joins_40 : decode cX12_joins 40 = .ok (.iadd, 1) := by decide +kernel
theorem dX12_joins_41 : decode cX12_joins 41 = .ok (.imul, 1) := by decide +kernel
theorem dX12_joins_42 : decode cX12_joins 42 = .ok (.iload 6, 2) := by decide +kernel
theorem dX12_joins_44 : decode cX12_joins 44 = .ok (.iadd, 1) := by decide +kernel
theorem dX12_joins_45 : decode cX12_joins 45 = .ok (.iaload, 1) := by decide +kernel
theorem dX12_joins_46 : decode cX12_joins 46 = .ok (.ldc 204, 2) := by decide +kernel
theorem dX12_joins_48 : decode cX12_joins 48 = .ok (.if_icmp .lt 4, 3) := by decide +kernel
theorem dX12_joins_51 : decode cX12_joins 51 = .ok (.return_, 1) := by decide +kernel
theorem dX12_joins_52 : decode cX12_joins 52 = .ok (.aload_n 0, 1) := by decide +kernel
theorem dX12_joins_53 : decode cX12_joins 53 = .ok (.getfield 79, 3) := by decide +kernel
theorem dX12_joins_56 : decode cX12_joins 56 = .ok (.bipush 21, 2) := by decide +kernel
theorem dX12_joins_58 : decode cX12_joins 58 = .ok (.iload_n 2, 1) := by decide +kernel
theorem dX12_joins_59 : decode cX12_joins 59 = .ok (.imul, 1) := by decide +kernel
theorem dX12_joins_60 : decode cX12_joins 60 = .ok (.iload 4, 2) := by decide +kernel
theorem dX12_joins_62 : decode cX12_joins 62 = .ok (.iadd, 1) := by decide +kernel
theorem dX12_joins_63 : decode cX12_joins 63 = .ok (.iaload, 1) := by decide +kernel
theorem dX12_joins_64 : decode cX12_joins 64 = .ok (.aload_n 0, 1) := by decide +kernel
theorem dX12_joins_65 : decode cX12_joins 65 = .ok (.getfield 88, 3) := by decide +kernel
theorem dX12_joins_68 : decode cX12_joins 68 = .ok (.sipush 601, 3) := by decide +kernel
theorem dX12_joins_71 : decode cX12_joins 71 = .ok (.iload_n 2, 1) := by decide +kernel
theorem dX12_joins_72 : decode cX12_joins 72 = .ok (.iconst 1, 1) := by decide +kernel
theorem dX12_joins_73 : decode cX12_joins 73 = .ok (.iadd, 1) := by decide +kernel
theorem dX12_joins_74 : decode cX12_joins 74 = .ok (.imul, 1) := by decide +kernel
theorem dX12_joins_75 : decode cX12_joins 75 = .ok (.iload 6, 2) := by decide +kernel
theorem dX12_joins_77 : decode cX12_joins 77 = .ok (.iadd, 1) := by decide +kernel
theorem dX12_joins_78 : decode cX12_joins 78 = .ok (.iaload, 1) := by decide +kernel
theorem dX12_joins_79 : decode cX12_joins 79 = .ok (.iadd, 1) := by decide +kernel
theorem dX12_joins_80 : decode cX12_joins 80 = .ok (.aload_n 0, 1) := by decide +kernel
theorem dX12_joins_81 : decode cX12_joins 81 = .ok (.getfield 85, 3) := by decide +kernel
theorem dX12_joins_84 : decode cX12_joins 84 = .ok (.sipush 601, 3) := by decide +kernel
theorem dX12_joins_87 : decode cX12_joins 87 = .ok (.iload_n 2, 1) := by decide +kernel
theorem dX12_joins_88 : decode cX12_joins 88 = .ok (.imul, 1) := by decide +kernel
theorem dX12_joins_89 : decode cX12_joins 89 = .ok (.iload_n 3, 1) := by decide +kernel
theorem dX12_joins_90 : decode cX12_joins 90 = .ok (.iadd, 1) := by decide +kernel
theorem dX12_joins_91 : decode cX12_joins 91 = .ok (.iaload, 1) := by decide +kernel
theorem dX12_joins_92 : decode cX12_joins 92 = .ok (.iadd, 1) := by decide +kernel
theorem dX12_joins_93 : decode cX12_joins 93 = .ok (.aload_n 0, 1) := by decide +kernel
theorem dX12_joins_94 : decode cX12_joins 94 = .ok (.getfield 88, 3) := by decide +kernel
theorem dX12_joins_97 : decode cX12_joins 97 = .ok (.sipush 601, 3) := by decide +kernel
theorem dX12_joins_100 : decode cX12_joins 100 = .ok (.iload_n 2, 1) := by decide +kernel
theorem dX12_joins_101 : decode cX12_joins 101 = .ok (.imul, 1) := by decide +kernel
theorem dX12_joins_102 : decode cX12_joins 102 = .ok (.iload_n 3, 1) := by decide +kernel
theorem dX12_joins_103 : decode cX12_joins 103 = .ok (.iadd, 1) := by decide +kernel
theorem dX12_joins_104 : decode cX12_joins 104 = .ok (.iaload, 1) := by decide +kernel
theorem dX12_joins_105 : decode cX12_joins 105 = .ok (.isub, 1) := by decide +kernel
theorem dX12_joins_106 : decode cX12_joins 106 = .ok (.istore 7, 2) := by decide +kernel
theorem dX12_joins_108 : decode cX12_joins 108 = .ok (.iload_n 2, 1) := by decide +kernel
theorem dX12_joins_109 : decode cX12_joins 109 = .ok (.iconst 1, 1) := by decide +kernel
theorem dX12_joins_110 : decode cX12_joins 110 = .ok (.iadd, 1) := by decide +kernel
theorem dX12_joins_111 : decode cX12_joins 111 = .ok (.iconst 2, 1) := by decide +kernel
theorem dX12_joins_112 : decode cX12_joins 112 = .ok (.irem, 1) := by decide +kernel
theorem dX12_joins_113 : decode cX12_joins 113 = .ok (.sipush 601, 3) := by decide +kernel
theorem dX12_joins_116 : decode cX12_joins 116 = .ok (.imul, 1) := by decide +kernel
theorem dX12_joins_117 : decode cX12_joins 117 = .ok (.iload 6, 2) := by decide +kernel
theorem dX12_joins_119 : decode cX12_joins 119 = .ok (.iadd, 1) := by decide +kernel
theorem dX12_joins_120 : decode cX12_joins 120 = .ok (.bipush 21, 2) := by decide +kernel
theorem dX12_joins_122 : decode cX12_joins 122 = .ok (.imul, 1) := by decide +kernel
theorem dX12_joins_123 : decode cX12_joins 123 = .ok (.istore 8, 2) := by decide +kernel
theorem dX12_joins_125 : decode cX12_joins 125 = .ok (.iconst 0, 1) := by decide +kernel
theorem dX12_joins_126 : decode cX12_joins 126 = .ok (.istore 9, 2) := by decide +kernel
theorem dX12_joins_128 : decode cX12_joins 128 = .ok (.iload 9, 2) := by decide +kernel
theorem dX12_joins_130 : decode cX12_joins 130 = .ok (.iload 7, 2) := by decide +kernel
theorem dX12_joins_132 : decode cX12_joins 132 = .ok (.iadd, 1) := by decide +kernel
theorem dX12_joins_133 : decode cX12_joins 133 = .ok (.bipush 21, 2) := by decide +kernel
theorem dX12_joins_135 : decode cX12_joins 135 = .ok (.if_icmp .ge 51, 3) := by decide +kernel
theorem dX12_joins_138 : decode cX12_joins 138 = .ok (.aload_n 0, 1) := by decide +kernel
theorem dX12_joins_139 : decode cX12_joins 139 = .ok (.getfield 100, 3) := by decide +kernel
theorem dX12_joins_142 : decode cX12_joins 142 = .ok (.iload 5, 2) := by decide +kernel
theorem dX12_joins_144 : decode cX12_joins 144 = .ok (.iload 9, 2) := by decide +kernel
theorem dX12_joins_146 : decode cX12_joins 146 = .ok (.iadd, 1) := by decide +kernel
theorem dX12_joins_147 : decode cX12_joins 147 = .ok (.iload 7, 2) := by decide +kernel
theorem dX12_joins_149 : decode cX12_joins 149 = .ok (.iadd, 1) := by decide +kernel
theorem dX12_joins_150 : decode cX12_joins 150 = .ok (.ldc 240, 2) := by decide +kernel
theorem dX12_joins_152 : decode cX12_joins 152 = .ok (.aload_n 0, 1) := by decide +kernel
theorem dX12_joins_153 : decode cX12_joins 153 = .ok (.getfield 100, 3) := by decide +kernel
theorem dX12_joins_156 : decode cX12_joins 156 = .ok (.iload 5, 2) := by decide +kernel
theorem dX12_joins_158 : decode cX12_joins 158 = .ok (.iload 9, 2) := by decide +kernel
theorem dX12_joins_160 : decode cX12_joins 160 = .ok (.iadd, 1) := by decide +kernel
theorem dX12_joins_161 : decode cX12_joins 161 = .ok (.iload 7, 2) := by decide +kernel
theorem dX12_joins_163 : decode cX12_joins 163 = .ok (.iadd, 1) := by decide +kernel
theorem dX12_joins_164 : decode cX12_joins 164 = .ok (.iaload, 1) := by decide +kernel
theorem dX12_joins_165 : decode cX12_joins 165 = .ok (.aload_n 0, 1) := by decide +kernel
theorem dX12_joins_166 : decode cX12_joins 166 = .ok (.getfield 100, 3) := by decide +kernel
theorem dX12_joins_169 : decode cX12_joins 169 = .ok (.iload 8, 2) := by decide +kernel
theorem dX12_joins_171 : decode cX12_joins 171 = .ok (.iload 9, 2) := by decide +kernel
theorem dX12_joins_173 : decode cX12_joins 173 = .ok (.iadd, 1) := by decide +kernel
theorem dX12_joins_174 : decode cX12_joins 174 = .ok (.iaload, 1) := by decide +kernel
theorem dX12_joins_175 : decode cX12_joins 175 = .ok (.iadd, 1) := by decide +kernel
theorem dX12_joins_176 : decode cX12_joins 176 = .ok (.invokestatic 130, 3) := by decide +kernel
theorem dX12_joins_179 : decode cX12_joins 179 = .ok (.iastore, 1) := by decide +kernel
theorem dX12_joins_180 : decode cX12_joins 180 = .ok (.iinc 9 1, 3) := by decide +kernel
theorem dX12_joins_183 : decode cX12_joins 183 = .ok (.goto (-55), 3) := by decide +kernel
theorem dX12_joins_186 : decode cX12_joins 186 = .ok (.return_, 1) := by decide +kernel
theorem dX12_areSame_0 : decode cX12_areSame 0 = .ok (.aload_n 0, 1) := by decide +kernel
theorem dX12_areSame_1 : decode cX12_areSame 1 = .ok (.getfield 33, 3) := by decide +kernel
theorem dX12_areSame_4 : decode cX12_areSame 4 = .ok (.iload_n 1, 1) := by decide +kernel
theorem dX12_areSame_5 : decode cX12_areSame 5 = .ok (.iaload, 1) := by decide +kernel
theorem dX12_areSame_6 : decode cX12_areSame 6 = .ok (.aload_n 0, 1) := by decide +kernel
theorem dX12_areSame_7 : decode cX12_areSame 7 = .ok (.getfield 33, 3) := by decide +kernel
theorem dX12_areSame_10 : decode cX12_areSame 10 = .ok (.iload_n 2, 1) := by decide +kernel
theorem dX12_areSame_11 : decode cX12_areSame 11 = .ok (.iaload, 1) := by decide +kernel
theorem dX12_areSame_12 : decode cX12_areSame 12 = .ok (.if_icmp .ne 7, 3) := by decide +kernel
theorem dX12_areSame_15 : decode cX12_areSame 15 = .ok (.iconst 1, 1) := by decide +kernel
theorem dX12_areSame_16 : decode cX12_areSame 16 = .ok (.goto 4, 3) := by decide +kernel
theorem dX12_areSame_19 : decode cX12_areSame 19 = .ok (.iconst 0, 1) := by decide +kernel
theorem dX12_areSame_20 : decode cX12_areSame 20 = .ok (.istore_n 3, 1) := by decide +kernel
theorem dX12_areSame_21 : decode cX12_areSame 21 = .ok (.iconst 0, 1) := by decide +kernel
theorem dX12_areSame_22 : decode cX12_areSame 22 = .ok (.istore 4, 2) := by decide +kernel
theorem dX12_areSame_24 : decode cX12_areSame 24 = .ok (.iload 4, 2) := by decide +kernel
theorem dX12_areSame_26 : decode cX12_areSame 26 = .ok (.aload_n 0, 1) := by decide +kernel
theorem dX12_areSame_27 : decode cX12_areSame 27 = .ok (.getfield 33, 3) := by decide +kernel
theorem dX12_areSame_30 : decode cX12_areSame 30 = .ok (.iload_n 1, 1) := by decide +kernel
theorem dX12_areSame_31 : decode cX12_areSame 31 = .ok (.iaload, 1) := by decide +kernel
theorem dX12_areSame_32 : decode cX12_areSame 32 = .ok (.if_icmp .ge 46, 3) := by decide +kernel
theorem dX12_areSame_35 : decode cX12_areSame 35 = .ok (.iload_n 3, 1) := by decide +kernel
theorem dX12_areSame_36 : decode cX12_areSame 36 = .ok (.ifCond .eq 42, 3) := by decide +kernel
theorem dX12_areSame_39 : decode cX12_areSame 39 = .ok (.aload_n 0, 1) := by decide +kernel
theorem dX12_areSame_40 : decode cX12_areSame 40 = .ok (.getfield 30, 3) := by decide +kernel
theorem dX12_areSame_43 : decode cX12_areSame 43 = .ok (.bipush 9, 2) := by decide +kernel
theorem dX12_areSame_45 : decode cX12_areSame 45 = .ok (.iload_n 1, 1) := by decide +kernel
theorem dX12_areSame_46 : decode cX12_areSame 46 = .ok (.imul, 1) := by decide +kernel
theorem dX12_areSame_47 : decode cX12_areSame 47 = .ok (.iload 4, 2) := by decide +kernel
theorem dX12_areSame_49 : decode cX12_areSame 49 = .ok (.iadd, 1) := by decide +kernel
theorem dX12_areSame_50 : decode cX12_areSame 50 = .ok (.iaload, 1) := by decide +kernel
theorem dX12_areSame_51 : decode cX12_areSame 51 = .ok (.aload_n 0, 1) := by decide +kernel
theorem dX12_areSame_52 : decode cX12_areSame 52 = .ok (.getfield 30, 3) := by decide +kernel
theorem dX12_areSame_55 : decode cX12_areSame 55 = .ok (.bipush 9, 2) := by decide +kernel
theorem dX12_areSame_57 : decode cX12_areSame 57 = .ok (.iload_n 2, 1) := by decide +kernel
theorem dX12_areSame_58 : decode cX12_areSame 58 = .ok (.imul, 1) := by decide +kernel
theorem dX12_areSame_59 : decode cX12_areSame 59 = .ok (.iload 4, 2) := by decide +kernel
theorem dX12_areSame_61 : decode cX12_areSame 61 = .ok (.iadd, 1) := by decide +kernel
theorem dX12_areSame_62 : decode cX12_areSame 62 = .ok (.iaload, 1) := by decide +kernel
theorem dX12_areSame_63 : decode cX12_areSame 63 = .ok (.if_icmp .ne 7, 3) := by decide +kernel
theorem dX12_areSame_66 : decode cX12_areSame 66 = .ok (.iconst 1, 1) := by decide +kernel
theorem dX12_areSame_67 : decode cX12_areSame 67 = .ok (.goto 4, 3) := by decide +kernel
theorem dX12_areSame_70 : decode cX12_areSame 70 = .ok (.iconst 0, 1) := by decide +kernel
theorem dX12_areSame_71 : decode cX12_areSame 71 = .ok (.istore_n 3, 1) := by decide +kernel
theorem dX12_areSame_72 : decode cX12_areSame 72 = .ok (.iinc 4 1, 3) := by decide +kernel
theorem dX12_areSame_75 : decode cX12_areSame 75 = .ok (.goto (-51), 3) := by decide +kernel
theorem dX12_areSame_78 : decode cX12_areSame 78 = .ok (.iload_n 3, 1) := by decide +kernel
theorem dX12_areSame_79 : decode cX12_areSame 79 = .ok (.ireturn, 1) := by decide +kernel
theorem dX12_shared_0 : decode cX12_shared 0 = .ok (.aload_n 0, 1) := by decide +kernel
theorem dX12_shared_1 : decode cX12_shared 1 = .ok (.iconst 0, 1) := by decide +kernel
theorem dX12_shared_2 : decode cX12_shared 2 = .ok (.putfield 106, 3) := by decide +kernel
theorem dX12_shared_5 : decode cX12_shared 5 = .ok (.aload_n 0, 1) := by decide +kernel
theorem dX12_shared_6 : decode cX12_shared 6 = .ok (.iload_n 1, 1) := by decide +kernel
theorem dX12_shared_7 : decode cX12_shared 7 = .ok (.iload_n 3, 1) := by decide +kernel
theorem dX12_shared_8 : decode cX12_shared 8 = .ok (.invokevirtual 224, 3) := by decide +kernel
theorem dX12_shared_11 : decode cX12_shared 11 = .ok (.ifCond .eq 16, 3) := by decide +kernel
theorem dX12_shared_14 : decode cX12_shared 14 = .ok (.aload_n 0, 1) := by decide +kernel
theorem dX12_shared_15 : decode cX12_shared 15 = .ok (.iload_n 2, 1) := by decide +kernel
theorem dX12_shared_16 : decode cX12_shared 16 = .ok (.invokevirtual 167, 3) := by decide +kernel
theorem dX12_shared_19 : decode cX12_shared 19 = .ok (.ifCond .eq 8, 3) := by decide +kernel
theorem dX12_shared_22 : decode cX12_shared 22 = .ok (.iload_n 1, 1) := by decide +kernel
theorem dX12_shared_23 : decode cX12_shared 23 = .ok (.iload_n 2, 1) := by decide +kernel
theorem dX12_shared_24 : decode cX12_shared 24 = .ok (.if_icmp .ne 5, 3) := by decide +kernel
theorem dX12_shared_27 : decode cX12_shared 27 = .ok (.iconst (-1), 1) := by decide +kernel
theorem dX12_shared_28 : decode cX12_shared 28 = .ok (.ireturn, 1) := by decide +kernel
theorem dX12_shared_29 : decode cX12_shared 29 = .ok (.aload_n 0, 1) := by decide +kernel
theorem dX12_shared_30 : decode cX12_shared 30 = .ok (.iload_n 1, 1) := by decide +kernel
theorem dX12_shared_31 : decode cX12_shared 31 = .ok (.iload_n 3, 1) := by decide +kernel
theorem dX12_shared_32 : decode cX12_shared 32 = .ok (.invokevirtual 230, 3) := by decide +kernel
theorem dX12_shared_35 : decode cX12_shared 35 = .ok (.ifCond .ne 5, 3) := by decide +kernel
theorem dX12_shared_38 : decode cX12_shared 38 = .ok (.iconst 0, 1) := by decide +kernel
theorem dX12_shared_39 : decode cX12_shared 39 = .ok (.ireturn, 1) := by decide +kernel
theorem dX12_shared_40 : decode cX12_shared 40 = .ok (.iconst 0, 1) := by decide +kernel
theorem dX12_shared_41 : decode cX12_shared 41 = .ok (.istore 4, 2) := by decide +kernel
theorem dX12_shared_43 : decode cX12_shared 43 = .ok (.iload 4, 2) := by decide +kernel
theorem dX12_shared_45 : decode cX12_shared 45 = .ok (.bipush 10, 2) := by decide +kernel
theorem dX12_shared_47 : decode cX12_shared 47 = .ok (.if_icmp .ge 23, 3) := by decide +kernel
theorem dX12_shared_50 : decode cX12_shared 50 = .ok (.aload_n 0, 1) := by decide +kernel
theorem dX12_shared_51 : decode cX12_shared 51 = .ok (.getfield 103, 3) := by decide +kernel
theorem dX12_shared_54 : decode cX12_shared 54 = .ok (.iload 4, 2) := by decide +kernel
theorem dX12_shared_56 : decode cX12_shared 56 = .ok (.aload_n 0, 1) := by decide +kernel
theorem dX12_shared_57 : decode cX12_shared 57 = .ok (.getfield 97, 3) := by decide +kernel
theorem dX12_shared_60 : decode cX12_shared 60 = .ok (.iload 4, 2) := by decide +kernel
theorem dX12_shared_62 : decode cX12_shared 62 = .ok (.iaload, 1) := by decide +kernel
theorem dX12_shared_63 : decode cX12_shared 63 = .ok (.iastore, 1) := by decide +kernel
theorem dX12_shared_64 : decode cX12_shared 64 = .ok (.iinc 4 1, 3) := by decide +kernel
theorem dX12_shared_67 : decode cX12_shared 67 = .ok (.goto (-24), 3) := by decide +kernel
theorem dX12_shared_70 : decode cX12_shared 70 = .ok (.aload_n 0, 1) := by decide +kernel
theorem dX12_shared_71 : decode cX12_shared 71 = .ok (.iload_n 2, 1) := by decide +kernel
theorem dX12_shared_72 : decode cX12_shared 72 = .ok (.iload_n 3, 1) := by decide +kernel
theorem dX12_shared_73 : decode cX12_shared 73 = .ok (.invokevirtual 230, 3) := by decide +kernel
theorem dX12_shared_76 : decode cX12_shared 76 = .ok (.ifCond .ne 5, 3) := by decide +kernel
theorem dX12_shared_79 : decode cX12_shared 79 = .ok (.iconst 0, 1) := by decide +kernel
theorem dX12_shared_80 : decode cX12_shared 80 = .ok (.ireturn, 1) := by decide +kernel
theorem dX12_shared_81 : decode cX12_shared 81 = .ok (.iconst 0, 1) := by decide +kernel
theorem dX12_shared_82 : decode cX12_shared 82 = .ok (.istore 4, 2) := by decide +kernel
theorem dX12_shared_84 : decode cX12_shared 84 = .ok (.iconst 0, 1) := by decide +kernel
theorem dX12_shared_85 : decode cX12_shared 85 = .ok (.istore 5, 2) := by decide +kernel
theorem dX12_shared_87 : decode cX12_shared 87 = .ok (.iload 5, 2) := by decide +kernel
theorem dX12_shared_89 : decode cX12_shared 89 = .ok (.iconst 1, 1) := by decide +kernel
theorem dX12_shared_90 : decode cX12_shared 90 = .ok (.iadd, 1) := by decide +kernel
theorem dX12_shared_91 : decode cX12_shared 91 = .ok (.aload_n 0, 1) := by decide +kernel
theorem dX12_shared_92 : decode cX12_shared 92 = .ok (.getfield 23, 3) := by decide +kernel
theorem dX12_shared_95 : decode cX12_shared 95 = .ok (.iload_n 1, 1) := by decide +kernel
theorem dX12_shared_96 : decode cX12_shared 96 = .ok (.iaload, 1) := by decide +kernel
theorem dX12_shared_97 : decode cX12_shared 97 = .ok (.if_icmp .ge 168, 3) := by decide +kernel
theorem dX12_shared_100 : decode cX12_shared 100 = .ok (.iconst 0, 1) := by decide +kernel
theorem dX12_shared_101 : decode cX12_shared 101 = .ok (.istore 6, 2) := by decide +kernel
theorem dX12_shared_103 : decode cX12_shared 103 = .ok (.iload 6, 2) := by decide +kernel
theorem dX12_shared_105 : decode cX12_shared 105 = .ok (.iconst 1, 1) := by decide +kernel
theorem dX12_shared_106 : decode cX12_shared 106 = .ok (.iadd, 1) := by decide +kernel
theorem dX12_shared_107 : decode cX12_shared 107 = .ok (.aload_n 0, 1) := by decide +kernel
theorem dX12_shared_108 : decode cX12_shared 108 = .ok (.getfield 23, 3) := by decide +kernel
theorem dX12_shared_111 : decode cX12_shared 111 = .ok (.iload_n 2, 1) := by decide +kernel
theorem dX12_shared_112 : decode cX12_shared 112 = .ok (.iaload, 1) := by decide +kernel
theorem dX12_shared_113 : decode cX12_shared 113 = .ok (.if_icmp .ge 146, 3) := by decide +kernel
theorem dX12_shared_116 : decode cX12_shared 116 = .ok (.aload_n 0, 1) := by decide +kernel
theorem dX12_shared_117 : decode cX12_shared 117 = .ok (.getfield 26, 3) := by decide +kernel
theorem dX12_shared_120 : decode cX12_shared 120 = .ok (.bipush 10, 2) := by decide +kernel
theorem dX12_shared_122 : decode cX12_shared 122 = .ok (.iload_n 1, 1) := by decide +kernel
theorem dX12_shared_123 : decode cX12_shared 123 = .ok (.imul, 1) := by decide +kernel
theorem dX12_shared_124 : decode cX12_shared 124 = .ok (.iload 5, 2) := by decide +kernel
theorem dX12_shared_126 : decode cX12_shared 126 = .ok (.iadd, 1) := by decide +kernel
theorem dX12_shared_127 : decode cX12_shared 127 = .ok (.laload, 1) := by decide +kernel
theorem dX12_shared_128 : decode cX12_shared 128 = .ok (.aload_n 0, 1) := by decide +kernel
theorem dX12_shared_129 : decode cX12_shared 129 = .ok (.getfield 26, 3) := by decide +kernel
theorem dX12_shared_132 : decode cX12_shared 132 = .ok (.bipush 10, 2) := by decide +kernel
theorem dX12_shared_134 : decode cX12_shared 134 = .ok (.iload_n 2, 1) := by decide +kernel
theorem dX12_shared_135 : decode cX12_shared 135 = .ok (.imul, 1) := by decide +kernel
theorem dX12_shared_136 : decode cX12_shared 136 = .ok (.iload 6, 2) := by decide +kernel
theorem dX12_shared_138 : decode cX12_shared 138 = .ok (.iadd, 1) := by decide +kernel
theorem dX12_shared_139 : decode cX12_shared 139 = .ok (.laload, 1) := by decide +kernel
theorem dX12_shared_140 : decode cX12_shared 140 = .ok (.lcmp, 1) := by decide +kernel
theorem dX12_shared_141 : decode cX12_shared 141 = .ok (.ifCond .ne 60, 3) := by decide +kernel
theorem dX12_shared_144 : decode cX12_shared 144 = .ok (.aload_n 0, 1) := by decide +kernel
theorem dX12_shared_145 : decode cX12_shared 145 = .ok (.getfield 26, 3) := by decide +kernel
theorem dX12_shared_148 : decode cX12_shared 148 = .ok (.bipush 10, 2) := by decide +kernel
theorem dX12_shared_150 : decode cX12_shared 150 = .ok (.iload_n 1, 1) := by decide +kernel
theorem dX12_shared_151 : decode cX12_shared 151 = .ok (.imul, 1) := by decide +kernel
theorem dX12_shared_152 : decode cX12_shared 152 = .ok (.iload 5, 2) := by decide +kernel
theorem dX12_shared_154 : decode cX12_shared 154 = .ok (.iadd, 1) := by decide +kernel
theorem dX12_shared_155 : decode cX12_shared 155 = .ok (.iconst 1, 1) := by decide +kernel
theorem dX12_shared_156 : decode cX12_shared 156 = .ok (.iadd, 1) := by decide +kernel
theorem dX12_shared_157 : decode cX12_shared 157 = .ok (.laload, 1) := by decide +kernel
theorem dX12_shared_158 : decode cX12_shared 158 = .ok (.aload_n 0, 1) := by decide +kernel
theorem dX12_shared_159 : decode cX12_shared 159 = .ok (.getfield 26, 3) := by decide +kernel
theorem dX12_shared_162 : decode cX12_shared 162 = .ok (.bipush 10, 2) := by decide +kernel
theorem dX12_shared_164 : decode cX12_shared 164 = .ok (.iload_n 2, 1) := by decide +kernel
theorem dX12_shared_165 : decode cX12_shared 165 = .ok (.imul, 1) := by decide +kernel
theorem dX12_shared_166 : decode cX12_shared 166 = .ok (.iload 6, 2) := by decide +kernel
theorem dX12_shared_168 : decode cX12_shared 168 = .ok (.iadd, 1) := by decide +kernel
theorem dX12_shared_169 : decode cX12_shared 169 = .ok (.iconst 1, 1) := by decide +kernel
theorem dX12_shared_170 : decode cX12_shared 170 = .ok (.iadd, 1) := by decide +kernel
theorem dX12_shared_171 : decode cX12_shared 171 = .ok (.laload, 1) := by decide +kernel
theorem dX12_shared_172 : decode cX12_shared 172 = .ok (.lcmp, 1) := by decide +kernel
theorem dX12_shared_173 : decode cX12_shared 173 = .ok (.ifCond .ne 28, 3) := by decide +kernel
theorem dX12_shared_176 : decode cX12_shared 176 = .ok (.aload_n 0, 1) := by decide +kernel
theorem dX12_shared_177 : decode cX12_shared 177 = .ok (.bipush 10, 2) := by decide +kernel
theorem dX12_shared_179 : decode cX12_shared 179 = .ok (.iload_n 1, 1) := by decide +kernel
theorem dX12_shared_180 : decode cX12_shared 180 = .ok (.imul, 1) := by decide +kernel
theorem dX12_shared_181 : decode cX12_shared 181 = .ok (.iload 5, 2) := by decide +kernel
theorem dX12_shared_183 : decode cX12_shared 183 = .ok (.iadd, 1) := by decide +kernel
theorem dX12_shared_184 : decode cX12_shared 184 = .ok (.bipush 10, 2) := by decide +kernel
theorem dX12_shared_186 : decode cX12_shared 186 = .ok (.iload_n 2, 1) := by decide +kernel
theorem dX12_shared_187 : decode cX12_shared 187 = .ok (.imul, 1) := by decide +kernel
theorem dX12_shared_188 : decode cX12_shared 188 = .ok (.iload 6, 2) := by decide +kernel
theorem dX12_shared_190 : decode cX12_shared 190 = .ok (.iadd, 1) := by decide +kernel
theorem dX12_shared_191 : decode cX12_shared 191 = .ok (.invokevirtual 241, 3) := by decide +kernel
theorem dX12_shared_194 : decode cX12_shared 194 = .ok (.ifCond .eq 7, 3) := by decide +kernel
theorem dX12_shared_197 : decode cX12_shared 197 = .ok (.iconst 1, 1) := by decide +kernel
theorem dX12_shared_198 : decode cX12_shared 198 = .ok (.goto 4, 3) := by decide +kernel
theorem dX12_shared_201 : decode cX12_shared 201 = .ok (.iconst 0, 1) := by decide +kernel
theorem dX12_shared_202 : decode cX12_shared 202 = .ok (.istore 7, 2) := by decide +kernel
theorem dX12_shared_204 : decode cX12_shared 204 = .ok (.iload 4, 2) := by decide +kernel
theorem dX12_shared_206 : decode cX12_shared 206 = .ok (.iload 7, 2) := by decide +kernel
theorem dX12_shared_208 : decode cX12_shared 208 = .ok (.ifCond .eq 41, 3) := by decide +kernel
theorem dX12_shared_211 : decode cX12_shared 211 = .ok (.aload_n 0, 1) := by decide +kernel
theorem dX12_shared_212 : decode cX12_shared 212 = .ok (.getfield 103, 3) := by decide +kernel
theorem dX12_shared_215 : decode cX12_shared 215 = .ok (.iload 5, 2) := by decide +kernel
theorem dX12_shared_217 : decode cX12_shared 217 = .ok (.iaload, 1) := by decide +kernel
theorem dX12_shared_218 : decode cX12_shared 218 = .ok (.aload_n 0, 1) := by decide +kernel
theorem dX12_shared_219 : decode cX12_shared 219 = .ok (.iload_n 1, 1) := by decide +kernel
theorem dX12_shared_220 : decode cX12_shared 220 = .ok (.iload 5, 2) := by decide +kernel
theorem dX12_shared_222 : decode cX12_shared 222 = .ok (.invokevirtual 201, 3) := by decide +kernel
theorem dX12_shared_225 : decode cX12_shared 225 = .ok (.if_icmp .eq 24, 3) := by decide +kernel
theorem dX12_shared_228 : decode cX12_shared 228 = .ok (.aload_n 0, 1) := by decide +kernel
theorem dX12_shared_229 : decode cX12_shared 229 = .ok (.getfield 97, 3) := by decide +kernel
theorem dX12_shared_232 : decode cX12_shared 232 = .ok (.iload 6, 2) := by decide +kernel
theorem dX12_shared_234 : decode cX12_shared 234 = .ok (.iaload, 1) := by decide +kernel
theorem dX12_shared_235 : decode cX12_shared 235 = .ok (.aload_n 0, 1) := by decide +kernel
theorem dX12_shared_236 : decode cX12_shared 236 = .ok (.iload_n 2, 1) := by decide +kernel
theorem dX12_shared_237 : decode cX12_shared 237 = .ok (.iload 6, 2) := by decide +kernel
theorem dX12_shared_239 : decode cX12_shared 239 = .ok (.invokevirtual 201, 3) := by decide +kernel
theorem dX12_shared_242 : decode cX12_shared 242 = .ok (.if_icmp .eq 7, 3) := by decide +kernel
theorem dX12_shared_245 : decode cX12_shared 245 = .ok (.iconst 1, 1) := by decide +kernel
theorem dX12_shared_246 : decode cX12_shared 246 = .ok (.goto 4, 3) := by decide +kernel
theorem dX12_shared_249 : decode cX12_shared 249 = .ok (.iconst 0, 1) := by decide +kernel
theorem dX12_shared_250 : decode cX12_shared 250 = .ok (.iadd, 1) := by decide +kernel
theorem dX12_shared_251 : decode cX12_shared 251 = .ok (.istore 4, 2) := by decide +kernel
theorem dX12_shared_253 : decode cX12_shared 253 = .ok (.iinc 6 1, 3) := by decide +kernel
theorem dX12_shared_256 : decode cX12_shared 256 = .ok (.goto (-153), 3) := by decide +kernel
theorem dX12_shared_259 : decode cX12_shared 259 = .ok (.iinc 5 1, 3) := by decide +kernel
theorem dX12_shared_262 : decode cX12_shared 262 = .ok (.goto (-175), 3) := by decide +kernel
theorem dX12_shared_265 : decode cX12_shared 265 = .ok (.iload 4, 2) := by decide +kernel
theorem dX12_shared_267 : decode cX12_shared 267 = .ok (.ireturn, 1) := by decide +kernel
theorem dX12_of_0 : decode cX12_of 0 = .ok (.aload_n 0, 1) := by decide +kernel
theorem dX12_of_1 : decode cX12_of 1 = .ok (.iload_n 1, 1) := by decide +kernel
theorem dX12_of_2 : decode cX12_of 2 = .ok (.invokevirtual 167, 3) := by decide +kernel
theorem dX12_of_5 : decode cX12_of 5 = .ok (.ifCond .eq 52, 3) := by decide +kernel
theorem dX12_of_8 : decode cX12_of 8 = .ok (.iload_n 2, 1) := by decide +kernel
theorem dX12_of_9 : decode cX12_of 9 = .ok (.iconst 0, 1) := by decide +kernel
theorem dX12_of_10 : decode cX12_of 10 = .ok (.iconst 1, 1) := by decide +kernel
theorem dX12_of_11 : decode cX12_of 11 = .ok (.invokestatic 112, 3) := by decide +kernel
theorem dX12_of_14 : decode cX12_of 14 = .ok (.ifCond .ne 39, 3) := by decide +kernel
theorem dX12_of_17 : decode cX12_of 17 = .ok (.iload_n 2, 1) := by decide +kernel
theorem dX12_of_18 : decode cX12_of 18 = .ok (.bipush 10, 2) := by decide +kernel
theorem dX12_of_20 : decode cX12_of 20 = .ok (.bipush 8, 2) := by decide +kernel
theorem dX12_of_22 : decode cX12_of 22 = .ok (.aload_n 0, 1) := by decide +kernel
theorem dX12_of_23 : decode cX12_of 23 = .ok (.getfield 23, 3) := by decide +kernel
theorem dX12_of_26 : decode cX12_of 26 = .ok (.iload_n 1, 1) := by decide +kernel
theorem dX12_of_27 : decode cX12_of 27 = .ok (.iaload, 1) := by decide +kernel
theorem dX12_of_28 : decode cX12_of 28 = .ok (.iadd, 1) := by decide +kernel
theorem dX12_of_29 : decode cX12_of 29 = .ok (.invokestatic 112, 3) := by decide +kernel
theorem dX12_of_32 : decode cX12_of 32 = .ok (.ifCond .ne 21, 3) := by decide +kernel
theorem dX12_of_35 : decode cX12_of 35 = .ok (.iload_n 2, 1) := by decide +kernel
theorem dX12_of_36 : decode cX12_of 36 = .ok (.bipush 20, 2) := by decide +kernel
theorem dX12_of_38 : decode cX12_of 38 = .ok (.bipush 19, 2) := by decide +kernel
theorem dX12_of_40 : decode cX12_of 40 = .ok (.aload_n 0, 1) := by decide +kernel
theorem dX12_of_41 : decode cX12_of 41 = .ok (.getfield 23, 3) := by decide +kernel
theorem dX12_of_44 : decode cX12_of 44 = .ok (.iload_n 1, 1) := by decide +kernel
theorem dX12_of_45 : decode cX12_of 45 = .ok (.iaload, 1) := by decide +kernel
theorem dX12_of_46 : decode cX12_of 46 = .ok (.iadd, 1) := by decide +kernel
theorem dX12_of_47 : decode cX12_of 47 = .ok (.invokestatic 112, 3) := by decide +kernel
theorem dX12_of_50 : decode cX12_of 50 = .ok (.ifCond .eq 7, 3) := by decide +kernel
theorem dX12_of_53 : decode cX12_of 53 = .ok (.iconst 1, 1) := by decide +kernel
theorem dX12_of_54 : decode cX12_of 54 = .ok (.goto 4, 3) := by decide +kernel
theorem dX12_of_57 : decode cX12_of 57 = .ok (.iconst 0, 1) := by decide +kernel
theorem dX12_of_58 : decode cX12_of 58 = .ok (.istore_n 3, 1) := by decide +kernel
theorem dX12_of_59 : decode cX12_of 59 = .ok (.aload_n 0, 1) := by decide +kernel
theorem dX12_of_60 : decode cX12_of 60 = .ok (.iload_n 3, 1) := by decide +kernel
theorem dX12_of_61 : decode cX12_of 61 = .ok (.ifCond .eq 7, 3) := by decide +kernel
theorem dX12_of_64 : decode cX12_of 64 = .ok (.iconst 0, 1) := by decide +kernel
theorem dX12_of_65 : decode cX12_of 65 = .ok (.goto 4, 3) := by decide +kernel
theorem dX12_of_68 : decode cX12_of 68 = .ok (.iconst 1, 1) := by decide +kernel
theorem dX12_of_69 : decode cX12_of 69 = .ok (.putfield 106, 3) := by decide +kernel
theorem dX12_of_72 : decode cX12_of 72 = .ok (.iload_n 3, 1) := by decide +kernel
theorem dX12_of_73 : decode cX12_of 73 = .ok (.ifCond .ne 5, 3) := by decide +kernel
theorem dX12_of_76 : decode cX12_of 76 = .ok (.iconst 0, 1) := by decide +kernel
theorem dX12_of_77 : decode cX12_of 77 = .ok (.ireturn, 1) := by decide +kernel
theorem dX12_of_78 : decode cX12_of 78 = .ok (.iload_n 2, 1) := by decide +kernel
theorem dX12_of_79 : decode cX12_of 79 = .ok (.ifCond .ne 12, 3) := by decide +kernel
theorem dX12_of_82 : decode cX12_of 82 = .ok (.aload_n 0, 1) := by decide +kernel
theorem dX12_of_83 : decode cX12_of 83 = .ok (.getfield 20, 3) := by decide +kernel
theorem dX12_of_86 : decode cX12_of 86 = .ok (.iload_n 1, 1) := by decide +kernel
theorem dX12_of_87 : decode cX12_of 87 = .ok (.iaload, 1) := by decide +kernel
theorem dX12_of_88 : decode cX12_of 88 = .ok (.goto 52, 3) := by decide +kernel
theorem dX12_of_91 : decode cX12_of 91 = .ok (.iload_n 2, 1) := by decide +kernel
theorem dX12_of_92 : decode cX12_of 92 = .ok (.iconst 1, 1) := by decide +kernel
theorem dX12_of_93 : decode cX12_of 93 = .ok (.if_icmp .ne 12, 3) := by decide +kernel
theorem dX12_of_96 : decode cX12_of 96 = .ok (.aload_n 0, 1) := by decide +kernel
theorem dX12_of_97 : decode cX12_of 97 = .ok (.getfield 23, 3) := by decide +kernel
theorem dX12_of_100 : decode cX12_of 100 = .ok (.iload_n 1, 1) := by decide +kernel
theorem dX12_of_101 : decode cX12_of 101 = .ok (.iaload, 1) := by decide +kernel
theorem dX12_of_102 : decode cX12_of 102 = .ok (.goto 38, 3) := by decide +kernel
theorem dX12_of_105 : decode cX12_of 105 = .ok (.iload_n 2, 1) := by decide +kernel
theorem dX12_of_106 : decode cX12_of 106 = .ok (.bipush 20, 2) := by decide +kernel
theorem dX12_of_108 : decode cX12_of 108 = .ok (.if_icmp .ge 15, 3) := by decide +kernel
theorem dX12_of_111 : decode cX12_of 111 = .ok (.aload_n 0, 1) := by decide +kernel
theorem dX12_of_112 : decode cX12_of 112 = .ok (.iload_n 1, 1) := by decide +kernel
theorem dX12_of_113 : decode cX12_of 113 = .ok (.iload_n 2, 1) := by decide +kernel
theorem dX12_of_114 : decode cX12_of 114 = .ok (.bipush 10, 2) := by decide +kernel
theorem dX12_of_116 : decode cX12_of 116 = .ok (.isub, 1) := by decide +kernel
theorem dX12_of_117 : decode cX12_of 117 = .ok (.invokevirtual 201, 3) := by decide +kernel
theorem dX12_of_120 : decode cX12_of 120 = .ok (.goto 20, 3) := by decide +kernel
theorem dX12_of_123 : decode cX12_of 123 = .ok (.aload_n 0, 1) := by decide +kernel
theorem dX12_of_124 : decode cX12_of 124 = .ok (.getfield 26, 3) := by decide +kernel
theorem dX12_of_127 : decode cX12_of 127 = .ok (.bipush 10, 2) := by decide +kernel
theorem dX12_of_129 : decode cX12_of 129 = .ok (.iload_n 1, 1) := by decide +kernel
theorem dX12_of_130 : decode cX12_of 130 = .ok (.imul, 1) := by decide +kernel
theorem dX12_of_131 : decode cX12_of 131 = .ok (.iload_n 2, 1) := by decide +kernel
theorem dX12_of_132 : decode cX12_of 132 = .ok (.iadd, 1) := by decide +kernel
theorem dX12_of_133 : decode cX12_of 133 = .ok (.bipush 20, 2) := by decide +kernel
theorem dX12_of_135 : decode cX12_of 135 = .ok (.isub, 1) := by decide +kernel
theorem dX12_of_136 : decode cX12_of 136 = .ok (.laload, 1) := by decide +kernel
theorem dX12_of_137 : decode cX12_of 137 = .ok (.invokestatic 124, 3) := by decide +kernel
theorem dX12_of_140 : decode cX12_of 140 = .ok (.ireturn, 1) := by decide +kernel
theorem dX12_letter_0 : decode cX12_letter 0 = .ok (.aload_n 0, 1) := by decide +kernel
theorem dX12_letter_1 : decode cX12_letter 1 = .ok (.iconst 0, 1) := by decide +kernel
theorem dX12_letter_2 : decode cX12_letter 2 = .ok (.putfield 106, 3) := by decide +kernel
theorem dX12_letter_5 : decode cX12_letter 5 = .ok (.aload_n 0, 1) := by decide +kernel
theorem dX12_letter_6 : decode cX12_letter 6 = .ok (.iload_n 1, 1) := by decide +kernel
theorem dX12_letter_7 : decode cX12_letter 7 = .ok (.iload_n 2, 1) := by decide +kernel
theorem dX12_letter_8 : decode cX12_letter 8 = .ok (.invokevirtual 191, 3) := by decide +kernel
theorem dX12_letter_11 : decode cX12_letter 11 = .ok (.ifCond .eq 27, 3) := by decide +kernel
theorem dX12_letter_14 : decode cX12_letter 14 = .ok (.iload_n 3, 1) := by decide +kernel
theorem dX12_letter_15 : decode cX12_letter 15 = .ok (.iconst 0, 1) := by decide +kernel
theorem dX12_letter_16 : decode cX12_letter 16 = .ok (.aload_n 0, 1) := by decide +kernel
theorem dX12_letter_17 : decode cX12_letter 17 = .ok (.getfield 26, 3) := by decide +kernel
theorem dX12_letter_20 : decode cX12_letter 20 = .ok (.bipush 10, 2) := by decide +kernel
theorem dX12_letter_22 : decode cX12_letter 22 = .ok (.iload_n 1, 1) := by decide +kernel
theorem dX12_letter_23 : decode cX12_letter 23 = .ok (.imul, 1) := by decide +kernel
theorem dX12_letter_24 : decode cX12_letter 24 = .ok (.iload_n 2, 1) := by decide +kernel
theorem dX12_letter_25 : decode cX12_letter 25 = .ok (.iadd, 1) := by decide +kernel
theorem dX12_letter_26 : decode cX12_letter 26 = .ok (.laload, 1) := by decide +kernel
theorem dX12_letter_27 : decode cX12_letter 27 = .ok (.invokestatic 124, 3) := by decide +kernel
theorem dX12_letter_30 : decode cX12_letter 30 = .ok (.iconst 1, 1) := by decide +kernel
theorem dX12_letter_31 : decode cX12_letter 31 = .ok (.isub, 1) := by decide +kernel
theorem dX12_letter_32 : decode cX12_letter 32 = .ok (.invokestatic 112, 3) := by decide +kernel
theorem dX12_letter_35 : decode cX12_letter 35 = .ok (.ifCond .ne 5, 3) := by decide +kernel
theorem dX12_letter_38 : decode cX12_letter 38 = .ok (.iconst (-1), 1) := by decide +kernel
theorem dX12_letter_39 : decode cX12_letter 39 = .ok (.ireturn, 1) := by decide +kernel
theorem dX12_letter_40 : decode cX12_letter 40 = .ok (.aload_n 0, 1) := by decide +kernel
theorem dX12_letter_41 : decode cX12_letter 41 = .ok (.getfield 26, 3) := by decide +kernel
theorem dX12_letter_44 : decode cX12_letter 44 = .ok (.bipush 10, 2) := by decide +kernel
theorem dX12_letter_46 : decode cX12_letter 46 = .ok (.iload_n 1, 1) := by decide +kernel
theorem dX12_letter_47 : decode cX12_letter 47 = .ok (.imul, 1) := by decide +kernel
theorem dX12_letter_48 : decode cX12_letter 48 = .ok (.iload_n 2, 1) := by decide +kernel
theorem dX12_letter_49 : decode cX12_letter 49 = .ok (.iadd, 1) := by decide +kernel
theorem dX12_letter_50 : decode cX12_letter 50 = .ok (.laload, 1) := by decide +kernel
theorem dX12_letter_51 : decode cX12_letter 51 = .ok (.iload_n 3, 1) := by decide +kernel
theorem dX12_letter_52 : decode cX12_letter 52 = .ok (.invokestatic 134, 3) := by decide +kernel
theorem dX12_letter_55 : decode cX12_letter 55 = .ok (.ireturn, 1) := by decide +kernel
theorem dX12_count_0 : decode cX12_count 0 = .ok (.aload_n 0, 1) := by decide +kernel
theorem dX12_count_1 : decode cX12_count 1 = .ok (.iconst 0, 1) := by decide +kernel
theorem dX12_count_2 : decode cX12_count 2 = .ok (.putfield 106, 3) := by decide +kernel
theorem dX12_count_5 : decode cX12_count 5 = .ok (.iload_n 1, 1) := by decide +kernel
theorem dX12_count_6 : decode cX12_count 6 = .ok (.tableswitch 86 0 7 #[46, 51, 56, 61, 66, 71, 76, 81], 46) := by decide +kernel
theorem dX12_count_52 : decode cX12_count 52 = .ok (.aload_n 0, 1) := by decide +kernel
theorem dX12_count_53 : decode cX12_count 53 = .ok (.getfield 157, 3) := by decide +kernel
theorem dX12_count_56 : decode cX12_count 56 = .ok (.ireturn, 1) := by decide +kernel
theorem dX12_count_57 : decode cX12_count 57 = .ok (.aload_n 0, 1) := by decide +kernel
theorem dX12_count_58 : decode cX12_count 58 = .ok (.getfield 178, 3) := by decide +kernel
theorem dX12_count_61 : decode cX12_count 61 = .ok (.ireturn, 1) := by decide +kernel
theorem dX12_count_62 : decode cX12_count 62 = .ok (.aload_n 0, 1) := by decide +kernel
theorem dX12_count_63 : decode cX12_count 63 = .ok (.getfield 184, 3) := by decide +kernel
theorem dX12_count_66 : decode cX12_count 66 = .ok (.ireturn, 1) := by decide +kernel
theorem dX12_count_67 : decode cX12_count 67 = .ok (.aload_n 0, 1) := by decide +kernel
theorem dX12_count_68 : decode cX12_count 68 = .ok (.getfield 187, 3) := by decide +kernel
theorem dX12_count_71 : decode cX12_count 71 = .ok (.ireturn, 1) := by decide +kernel
theorem dX12_count_72 : decode cX12_count 72 = .ok (.aload_n 0, 1) := by decide +kernel
theorem dX12_count_73 : decode cX12_count 73 = .ok (.getfield 181, 3) := by decide +kernel
theorem dX12_count_76 : decode cX12_count 76 = .ok (.ireturn, 1) := by decide +kernel
theorem dX12_count_77 : decode cX12_count 77 = .ok (.aload_n 0, 1) := by decide +kernel
theorem dX12_count_78 : decode cX12_count 78 = .ok (.getfield 109, 3) := by decide +kernel
theorem dX12_count_81 : decode cX12_count 81 = .ok (.ireturn, 1) := by decide +kernel
theorem dX12_count_82 : decode cX12_count 82 = .ok (.aload_n 0, 1) := by decide +kernel
theorem dX12_count_83 : decode cX12_count 83 = .ok (.getfield 70, 3) := by decide +kernel
theorem dX12_count_86 : decode cX12_count 86 = .ok (.ireturn, 1) := by decide +kernel
theorem dX12_count_87 : decode cX12_count 87 = .ok (.aload_n 0, 1) := by decide +kernel
theorem dX12_count_88 : decode cX12_count 88 = .ok (.getfield 73, 3) := by decide +kernel
theorem dX12_count_91 : decode cX12_count 91 = .ok (.ireturn, 1) := by decide +kernel
theorem dX12_count_92 : decode cX12_count 92 = .ok (.iload_n 1, 1) := by decide +kernel
theorem dX12_count_93 : decode cX12_count 93 = .ok (.bipush 10, 2) := by decide +kernel
theorem dX12_count_95 : decode cX12_count 95 = .ok (.bipush 9, 2) := by decide +kernel
theorem dX12_count_97 : decode cX12_count 97 = .ok (.aload_n 0, 1) := by decide +kernel
theorem dX12_count_98 : decode cX12_count 98 = .ok (.getfield 178, 3) := by decide +kernel
theorem dX12_count_101 : decode cX12_count 101 = .ok (.iadd, 1) := by decide +kernel
theorem dX12_count_102 : decode cX12_count 102 = .ok (.invokestatic 112, 3) := by decide +kernel
theorem dX12_count_105 : decode cX12_count 105 = .ok (.ifCond .eq 13, 3) := by decide +kernel
theorem dX12_count_108 : decode cX12_count 108 = .ok (.aload_n 0, 1) := by decide +kernel
theorem dX12_count_109 : decode cX12_count 109 = .ok (.getfield 40, 3) := by decide +kernel
theorem dX12_count_112 : decode cX12_count 112 = .ok (.iload_n 1, 1) := by decide +kernel
theorem dX12_count_113 : decode cX12_count 113 = .ok (.bipush 10, 2) := by decide +kernel
theorem dX12_count_115 : decode cX12_count 115 = .ok (.isub, 1) := by decide +kernel
theorem dX12_count_116 : decode cX12_count 116 = .ok (.iaload, 1) := by decide +kernel
theorem dX12_count_117 : decode cX12_count 117 = .ok (.ireturn, 1) := by decide +kernel
theorem dX12_count_118 : decode cX12_count 118 = .ok (.iload_n 1, 1) := by decide +kernel
theorem dX12_count_119 : decode cX12_count 119 = .ok (.bipush 30, 2) := by decide +kernel
theorem dX12_count_121 : decode cX12_count 121 = .ok (.bipush 29, 2) := by decide +kernel
theorem dX12_count_123 : decode cX12_count 123 = .ok (.aload_n 0, 1) := by decide +kernel
theorem dX12_count_124 : decode cX12_count 124 = .ok (.getfield 178, 3) := by decide +kernel
theorem dX12_count_127 : decode cX12_count 127 = .ok (.iadd, 1) := by decide +kernel
theorem dX12_count_128 : decode cX12_count 128 = .ok (.invokestatic 112, 3) := by decide +kernel
theorem dX12_count_131 : decode cX12_count 131 = .ok (.ifCond .eq 15, 3) := by decide +kernel
theorem dX12_count_134 : decode cX12_count 134 = .ok (.aload_n 0, 1) := by decide +kernel
theorem dX12_count_135 : decode cX12_count 135 = .ok (.getfield 46, 3) := by decide +kernel
theorem dX12_count_138 : decode cX12_count 138 = .ok (.iload_n 1, 1) := by decide +kernel
theorem dX12_count_139 : decode cX12_count 139 = .ok (.bipush 30, 2) := by decide +kernel
theorem dX12_count_141 : decode cX12_count 141 = .ok (.isub, 1) := by decide +kernel
theorem dX12_count_142 : decode cX12_count 142 = .ok (.iaload, 1) := by decide +kernel
theorem dX12_count_143 : decode cX12_count 143 = .ok (.goto 4, 3) := by decide +kernel
theorem dX12_count_146 : decode cX12_count 146 = .ok (.iconst (-1), 1) := by decide +kernel
theorem dX12_count_147 : decode cX12_count 147 = .ok (.ireturn, 1) := by decide +kernel
