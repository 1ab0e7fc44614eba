theorem dX12_turned_0 : decode cX12_turned 0 = .ok (.aload_n 0, 1) := by decide +kernel
theorem dX12_turned_1 : decode cX12_turned 1 = .ok (.dup, 1) := by decide +kernel
theorem dX12_turned_2 : decode cX12_turned 2 = .ok (.getfield 280, 3) := by decide +kernel
theorem dX12_turned_5 : decode cX12_turned 5 = .ok (.iconst 1, 1) := by decide +kernel
theorem dX12_turned_6 : decode cX12_turned 6 = .ok (.iadd, 1) := by decide +kernel
theorem dX12_turned_7 : decode cX12_turned 7 = .ok (.putfield 280, 3) := by decide +kernel
theorem dX12_turned_10 : decode cX12_turned 10 = .ok (.aload_n 0, 1) := by decide +kernel
theorem dX12_turned_11 : decode cX12_turned 11 = .ok (.invokevirtual 293, 3) := by decide +kernel
theorem dX12_turned_14 : decode cX12_turned 14 = .ok (.return_, 1) := by decide +kernel
theorem dX12_sieve_0 : decode cX12_sieve 0 = .ok (.aload_n 0, 1) := by decide +kernel
theorem dX12_sieve_1 : decode cX12_sieve 1 = .ok (.aload_n 0, 1) := by decide +kernel
theorem dX12_sieve_2 : decode cX12_sieve 2 = .ok (.iload_n 1, 1) := by decide +kernel
theorem dX12_sieve_3 : decode cX12_sieve 3 = .ok (.invokevirtual 319, 3) := by decide +kernel
theorem dX12_sieve_6 : decode cX12_sieve 6 = .ok (.invokestatic 312, 3) := by decide +kernel
theorem dX12_sieve_9 : decode cX12_sieve 9 = .ok (.invokevirtual 256, 3) := by decide +kernel
theorem dX12_sieve_12 : decode cX12_sieve 12 = .ok (.ifCond .eq 5, 3) := by decide +kernel
theorem dX12_sieve_15 : decode cX12_sieve 15 = .ok (.iconst (-1), 1) := by decide +kernel
theorem dX12_sieve_16 : decode cX12_sieve 16 = .ok (.ireturn, 1) := by decide +kernel
theorem dX12_sieve_17 : decode cX12_sieve 17 = .ok (.iload_n 2, 1) := by decide +kernel
theorem dX12_sieve_18 : decode cX12_sieve 18 = .ok (.i2l, 1) := by decide +kernel
theorem dX12_sieve_19 : decode cX12_sieve 19 = .ok (.lconst 0, 1) := by decide +kernel
theorem dX12_sieve_20 : decode cX12_sieve 20 = .ok (.ldc2_w 376, 3) := by decide +kernel
theorem dX12_sieve_23 : decode cX12_sieve 23 = .ok (.invokestatic 159, 3) := by decide +kernel
theorem dX12_sieve_26 : decode cX12_sieve 26 = .ok (.ifCond .eq 18, 3) := by decide +kernel
theorem dX12_sieve_29 : decode cX12_sieve 29 = .ok (.iload_n 2, 1) := by decide +kernel
theorem dX12_sieve_30 : decode cX12_sieve 30 = .ok (.iconst 3, 1) := by decide +kernel
theorem dX12_sieve_31 : decode cX12_sieve 31 = .ok (.if_icmp .ge 19, 3) := by decide +kernel
theorem dX12_sieve_34 : decode cX12_sieve 34 = .ok (.aload_n 0, 1) := by decide +kernel
theorem dX12_sieve_35 : decode cX12_sieve 35 = .ok (.iload_n 1, 1) := by decide +kernel
theorem dX12_sieve_36 : decode cX12_sieve 36 = .ok (.lload_n 3, 1) := by decide +kernel
theorem dX12_sieve_37 : decode cX12_sieve 37 = .ok (.iconst 0, 1) := by decide +kernel
theorem dX12_sieve_38 : decode cX12_sieve 38 = .ok (.invokevirtual 378, 3) := by decide +kernel
theorem dX12_sieve_41 : decode cX12_sieve 41 = .ok (.ifCond .ne 9, 3) := by decide +kernel
theorem dX12_sieve_44 : decode cX12_sieve 44 = .ok (.aload_n 0, 1) := by decide +kernel
theorem dX12_sieve_45 : decode cX12_sieve 45 = .ok (.iconst 2, 1) := by decide +kernel
theorem dX12_sieve_46 : decode cX12_sieve 46 = .ok (.invokevirtual 265, 3) := by decide +kernel
theorem dX12_sieve_49 : decode cX12_sieve 49 = .ok (.ireturn, 1) := by decide +kernel
theorem dX12_sieve_50 : decode cX12_sieve 50 = .ok (.aload_n 0, 1) := by decide +kernel
theorem dX12_sieve_51 : decode cX12_sieve 51 = .ok (.getfield 286, 3) := by decide +kernel
theorem dX12_sieve_54 : decode cX12_sieve 54 = .ok (.iconst 2, 1) := by decide +kernel
theorem dX12_sieve_55 : decode cX12_sieve 55 = .ok (.if_icmp .ne 9, 3) := by decide +kernel
theorem dX12_sieve_58 : decode cX12_sieve 58 = .ok (.aload_n 0, 1) := by decide +kernel
theorem dX12_sieve_59 : decode cX12_sieve 59 = .ok (.iconst 3, 1) := by decide +kernel
theorem dX12_sieve_60 : decode cX12_sieve 60 = .ok (.invokevirtual 265, 3) := by decide +kernel
theorem dX12_sieve_63 : decode cX12_sieve 63 = .ok (.ireturn, 1) := by decide +kernel
theorem dX12_sieve_64 : decode cX12_sieve 64 = .ok (.aload_n 0, 1) := by decide +kernel
theorem dX12_sieve_65 : decode cX12_sieve 65 = .ok (.getfield 66, 3) := by decide +kernel
theorem dX12_sieve_68 : decode cX12_sieve 68 = .ok (.aload_n 0, 1) := by decide +kernel
theorem dX12_sieve_69 : decode cX12_sieve 69 = .ok (.getfield 286, 3) := by decide +kernel
theorem dX12_sieve_72 : decode cX12_sieve 72 = .ok (.iload_n 1, 1) := by decide +kernel
theorem dX12_sieve_73 : decode cX12_sieve 73 = .ok (.iastore, 1) := by decide +kernel
theorem dX12_sieve_74 : decode cX12_sieve 74 = .ok (.aload_n 0, 1) := by decide +kernel
theorem dX12_sieve_75 : decode cX12_sieve 75 = .ok (.getfield 69, 3) := by decide +kernel
theorem dX12_sieve_78 : decode cX12_sieve 78 = .ok (.aload_n 0, 1) := by decide +kernel
theorem dX12_sieve_79 : decode cX12_sieve 79 = .ok (.getfield 286, 3) := by decide +kernel
theorem dX12_sieve_82 : decode cX12_sieve 82 = .ok (.iload_n 2, 1) := by decide +kernel
theorem dX12_sieve_83 : decode cX12_sieve 83 = .ok (.iastore, 1) := by decide +kernel
theorem dX12_sieve_84 : decode cX12_sieve 84 = .ok (.aload_n 0, 1) := by decide +kernel
theorem dX12_sieve_85 : decode cX12_sieve 85 = .ok (.getfield 72, 3) := by decide +kernel
theorem dX12_sieve_88 : decode cX12_sieve 88 = .ok (.aload_n 0, 1) := by decide +kernel
theorem dX12_sieve_89 : decode cX12_sieve 89 = .ok (.getfield 286, 3) := by decide +kernel
theorem dX12_sieve_92 : decode cX12_sieve 92 = .ok (.lload_n 3, 1) := by decide +kernel
theorem dX12_sieve_93 : decode cX12_sieve 93 = .ok (.lastore, 1) := by decide +kernel
theorem dX12_sieve_94 : decode cX12_sieve 94 = .ok (.aload_n 0, 1) := by decide +kernel
theorem dX12_sieve_95 : decode cX12_sieve 95 = .ok (.dup, 1) := by decide +kernel
theorem dX12_sieve_96 : decode cX12_sieve 96 = .ok (.getfield 286, 3) := by decide +kernel
theorem dX12_sieve_99 : decode cX12_sieve 99 = .ok (.iconst 1, 1) := by decide +kernel
theorem dX12_sieve_100 : decode cX12_sieve 100 = .ok (.iadd, 1) := by decide +kernel
theorem dX12_sieve_101 : decode cX12_sieve 101 = .ok (.putfield 286, 3) := by decide +kernel
theorem dX12_sieve_104 : decode cX12_sieve 104 = .ok (.aload_n 0, 1) := by decide +kernel
theorem dX12_sieve_105 : decode cX12_sieve 105 = .ok (.invokevirtual 382, 3) := by decide +kernel
theorem dX12_sieve_108 : decode cX12_sieve 108 = .ok (.aload_n 0, 1) := by decide +kernel
theorem dX12_sieve_109 : decode cX12_sieve 109 = .ok (.getfield 286, 3) := by decide +kernel
theorem dX12_sieve_112 : decode cX12_sieve 112 = .ok (.ireturn, 1) := by decide +kernel
theorem dX12_clear_0 : decode cX12_clear 0 = .ok (.aload_n 0, 1) := by decide +kernel
theorem dX12_clear_1 : decode cX12_clear 1 = .ok (.aload_n 0, 1) := by decide +kernel
theorem dX12_clear_2 : decode cX12_clear 2 = .ok (.getfield 296, 3) := by decide +kernel
theorem dX12_clear_5 : decode cX12_clear 5 = .ok (.invokestatic 312, 3) := by decide +kernel
theorem dX12_clear_8 : decode cX12_clear 8 = .ok (.invokevirtual 256, 3) := by decide +kernel
theorem dX12_clear_11 : decode cX12_clear 11 = .ok (.ifCond .eq 5, 3) := by decide +kernel
theorem dX12_clear_14 : decode cX12_clear 14 = .ok (.iconst (-1), 1) := by decide +kernel
theorem dX12_clear_15 : decode cX12_clear 15 = .ok (.ireturn, 1) := by decide +kernel
theorem dX12_clear_16 : decode cX12_clear 16 = .ok (.aload_n 0, 1) := by decide +kernel
theorem dX12_clear_17 : decode cX12_clear 17 = .ok (.getfield 286, 3) := by decide +kernel
theorem dX12_clear_20 : decode cX12_clear 20 = .ok (.istore_n 1, 1) := by decide +kernel
theorem dX12_clear_21 : decode cX12_clear 21 = .ok (.aload_n 0, 1) := by decide +kernel
theorem dX12_clear_22 : decode cX12_clear 22 = .ok (.iconst 0, 1) := by decide +kernel
theorem dX12_clear_23 : decode cX12_clear 23 = .ok (.putfield 286, 3) := by decide +kernel
theorem dX12_clear_26 : decode cX12_clear 26 = .ok (.aload_n 0, 1) := by decide +kernel
theorem dX12_clear_27 : decode cX12_clear 27 = .ok (.invokevirtual 382, 3) := by decide +kernel
theorem dX12_clear_30 : decode cX12_clear 30 = .ok (.iload_n 1, 1) := by decide +kernel
theorem dX12_clear_31 : decode cX12_clear 31 = .ok (.ireturn, 1) := by decide +kernel
theorem dX12_passes_0 : decode cX12_passes 0 = .ok (.aload_n 0, 1) := by decide +kernel
theorem dX12_passes_1 : decode cX12_passes 1 = .ok (.aload_n 0, 1) := by decide +kernel
theorem dX12_passes_2 : decode cX12_passes 2 = .ok (.iload_n 1, 1) := by decide +kernel
theorem dX12_passes_3 : decode cX12_passes 3 = .ok (.invokevirtual 324, 3) := by decide +kernel
theorem dX12_passes_6 : decode cX12_passes 6 = .ok (.invokestatic 312, 3) := by decide +kernel
theorem dX12_passes_9 : decode cX12_passes 9 = .ok (.invokevirtual 256, 3) := by decide +kernel
theorem dX12_passes_12 : decode cX12_passes 12 = .ok (.ifCond .eq 7, 3) := by decide +kernel
theorem dX12_passes_15 : decode cX12_passes 15 = .ok (.iconst (-1), 1) := by decide +kernel
theorem dX12_passes_16 : decode cX12_passes 16 = .ok (.goto 20, 3) := by decide +kernel
theorem dX12_passes_19 : decode cX12_passes 19 = .ok (.aload_n 0, 1) := by decide +kernel
theorem dX12_passes_20 : decode cX12_passes 20 = .ok (.aload_n 0, 1) := by decide +kernel
theorem dX12_passes_21 : decode cX12_passes 21 = .ok (.getfield 277, 3) := by decide +kernel
theorem dX12_passes_24 : decode cX12_passes 24 = .ok (.iload_n 1, 1) := by decide +kernel
theorem dX12_passes_25 : decode cX12_passes 25 = .ok (.invokevirtual 385, 3) := by decide +kernel
theorem dX12_passes_28 : decode cX12_passes 28 = .ok (.ifCond .eq 7, 3) := by decide +kernel
theorem dX12_passes_31 : decode cX12_passes 31 = .ok (.iconst 1, 1) := by decide +kernel
theorem dX12_passes_32 : decode cX12_passes 32 = .ok (.goto 4, 3) := by decide +kernel
theorem dX12_passes_35 : decode cX12_passes 35 = .ok (.iconst 0, 1) := by decide +kernel
theorem dX12_passes_36 : decode cX12_passes 36 = .ok (.ireturn, 1) := by decide +kernel
theorem dX12_condition_0 : decode cX12_condition 0 = .ok (.aload_n 0, 1) := by decide +kernel
theorem dX12_condition_1 : decode cX12_condition 1 = .ok (.aload_n 0, 1) := by decide +kernel
theorem dX12_condition_2 : decode cX12_condition 2 = .ok (.getfield 296, 3) := by decide +kernel
theorem dX12_condition_5 : decode cX12_condition 5 = .ok (.ifCond .eq 33, 3) := by decide +kernel
theorem dX12_condition_8 : decode cX12_condition 8 = .ok (.iload_n 1, 1) := by decide +kernel
theorem dX12_condition_9 : decode cX12_condition 9 = .ok (.i2l, 1) := by decide +kernel
theorem dX12_condition_10 : decode cX12_condition 10 = .ok (.lconst 0, 1) := by decide +kernel
theorem dX12_condition_11 : decode cX12_condition 11 = .ok (.aload_n 0, 1) := by decide +kernel
theorem dX12_condition_12 : decode cX12_condition 12 = .ok (.getfield 286, 3) := by decide +kernel
theorem dX12_condition_15 : decode cX12_condition 15 = .ok (.iconst 1, 1) := by decide +kernel
theorem dX12_condition_16 : decode cX12_condition 16 = .ok (.isub, 1) := by decide +kernel
theorem dX12_condition_17 : decode cX12_condition 17 = .ok (.i2l, 1) := by decide +kernel
theorem dX12_condition_18 : decode cX12_condition 18 = .ok (.invokestatic 159, 3) := by decide +kernel
theorem dX12_condition_21 : decode cX12_condition 21 = .ok (.ifCond .eq 17, 3) := by decide +kernel
theorem dX12_condition_24 : decode cX12_condition 24 = .ok (.iload_n 2, 1) := by decide +kernel
theorem dX12_condition_25 : decode cX12_condition 25 = .ok (.i2l, 1) := by decide +kernel
theorem dX12_condition_26 : decode cX12_condition 26 = .ok (.lconst 0, 1) := by decide +kernel
theorem dX12_condition_27 : decode cX12_condition 27 = .ok (.lconst 1, 1) := by decide +kernel
theorem dX12_condition_28 : decode cX12_condition 28 = .ok (.invokestatic 159, 3) := by decide +kernel
theorem dX12_condition_31 : decode cX12_condition 31 = .ok (.ifCond .eq 7, 3) := by decide +kernel
theorem dX12_condition_34 : decode cX12_condition 34 = .ok (.iconst 1, 1) := by decide +kernel
theorem dX12_condition_35 : decode cX12_condition 35 = .ok (.goto 4, 3) := by decide +kernel
theorem dX12_condition_38 : decode cX12_condition 38 = .ok (.iconst 0, 1) := by decide +kernel
theorem dX12_condition_39 : decode cX12_condition 39 = .ok (.invokestatic 312, 3) := by decide +kernel
theorem dX12_condition_42 : decode cX12_condition 42 = .ok (.invokevirtual 256, 3) := by decide +kernel
theorem dX12_condition_45 : decode cX12_condition 45 = .ok (.ifCond .eq 5, 3) := by decide +kernel
theorem dX12_condition_48 : decode cX12_condition 48 = .ok (.iconst (-1), 1) := by decide +kernel
theorem dX12_condition_49 : decode cX12_condition 49 = .ok (.ireturn, 1) := by decide +kernel
theorem dX12_condition_50 : decode cX12_condition 50 = .ok (.iload_n 2, 1) := by decide +kernel
theorem dX12_condition_51 : decode cX12_condition 51 = .ok (.ifCond .ne 12, 3) := by decide +kernel
theorem dX12_condition_54 : decode cX12_condition 54 = .ok (.aload_n 0, 1) := by decide +kernel
theorem dX12_condition_55 : decode cX12_condition 55 = .ok (.getfield 66, 3) := by decide +kernel
theorem dX12_condition_58 : decode cX12_condition 58 = .ok (.iload_n 1, 1) := by decide +kernel
theorem dX12_condition_59 : decode cX12_condition 59 = .ok (.iaload, 1) := by decide +kernel
theorem dX12_condition_60 : decode cX12_condition 60 = .ok (.goto 9, 3) := by decide +kernel
theorem dX12_condition_63 : decode cX12_condition 63 = .ok (.aload_n 0, 1) := by decide +kernel
theorem dX12_condition_64 : decode cX12_condition 64 = .ok (.getfield 69, 3) := by decide +kernel
theorem dX12_condition_67 : decode cX12_condition 67 = .ok (.iload_n 1, 1) := by decide +kernel
theorem dX12_condition_68 : decode cX12_condition 68 = .ok (.iaload, 1) := by decide +kernel
theorem dX12_condition_69 : decode cX12_condition 69 = .ok (.ireturn, 1) := by decide +kernel
theorem dX12_nextRow_0 : decode cX12_nextRow 0 = .ok (.iconst (-1), 1) := by decide +kernel
theorem dX12_nextRow_1 : decode cX12_nextRow 1 = .ok (.istore_n 3, 1) := by decide +kernel
theorem dX12_nextRow_2 : decode cX12_nextRow 2 = .ok (.aload_n 0, 1) := by decide +kernel
theorem dX12_nextRow_3 : decode cX12_nextRow 3 = .ok (.getfield 78, 3) := by decide +kernel
theorem dX12_nextRow_6 : decode cX12_nextRow 6 = .ok (.astore 4, 2) := by decide +kernel
theorem dX12_nextRow_8 : decode cX12_nextRow 8 = .ok (.iconst 0, 1) := by decide +kernel
theorem dX12_nextRow_9 : decode cX12_nextRow 9 = .ok (.istore 5, 2) := by decide +kernel
theorem dX12_nextRow_11 : decode cX12_nextRow 11 = .ok (.iconst 0, 1) := by decide +kernel
theorem dX12_nextRow_12 : decode cX12_nextRow 12 = .ok (.istore 6, 2) := by decide +kernel
theorem dX12_nextRow_14 : decode cX12_nextRow 14 = .ok (.iload 6, 2) := by decide +kernel
theorem dX12_nextRow_16 : decode cX12_nextRow 16 = .ok (.bipush 64, 2) := by decide +kernel
theorem dX12_nextRow_18 : decode cX12_nextRow 18 = .ok (.if_icmp .ge 114, 3) := by decide +kernel
theorem dX12_nextRow_21 : decode cX12_nextRow 21 = .ok (.aload_n 0, 1) := by decide +kernel
theorem dX12_nextRow_22 : decode cX12_nextRow 22 = .ok (.iload_n 1, 1) := by decide +kernel
theorem dX12_nextRow_23 : decode cX12_nextRow 23 = .ok (.iload 6, 2) := by decide +kernel
theorem dX12_nextRow_25 : decode cX12_nextRow 25 = .ok (.invokevirtual 385, 3) := by decide +kernel
theorem dX12_nextRow_28 : decode cX12_nextRow 28 = .ok (.ifCond .ne 6, 3) := by decide +kernel
theorem dX12_nextRow_31 : decode cX12_nextRow 31 = .ok (.goto 95, 3) := by decide +kernel
theorem dX12_nextRow_34 : decode cX12_nextRow 34 = .ok (.aload_n 0, 1) := by decide +kernel
theorem dX12_nextRow_35 : decode cX12_nextRow 35 = .ok (.iload_n 1, 1) := by decide +kernel
theorem dX12_nextRow_36 : decode cX12_nextRow 36 = .ok (.iload 6, 2) := by decide +kernel
theorem dX12_nextRow_38 : decode cX12_nextRow 38 = .ok (.invokevirtual 351, 3) := by decide +kernel
theorem dX12_nextRow_41 : decode cX12_nextRow 41 = .ok (.aload_n 0, 1) := by decide +kernel
theorem dX12_nextRow_42 : decode cX12_nextRow 42 = .ok (.invokevirtual 358, 3) := by decide +kernel
theorem dX12_nextRow_45 : decode cX12_nextRow 45 = .ok (.istore 7, 2) := by decide +kernel
theorem dX12_nextRow_47 : decode cX12_nextRow 47 = .ok (.iload_n 2, 1) := by decide +kernel
theorem dX12_nextRow_48 : decode cX12_nextRow 48 = .ok (.ifCond .eq 11, 3) := by decide +kernel
theorem dX12_nextRow_51 : decode cX12_nextRow 51 = .ok (.iload 7, 2) := by decide +kernel
theorem dX12_nextRow_53 : decode cX12_nextRow 53 = .ok (.ifCond .lt 14, 3) := by decide +kernel
theorem dX12_nextRow_56 : decode cX12_nextRow 56 = .ok (.goto 70, 3) := by decide +kernel
theorem dX12_nextRow_59 : decode cX12_nextRow 59 = .ok (.iload 7, 2) := by decide +kernel
theorem dX12_nextRow_61 : decode cX12_nextRow 61 = .ok (.ifCond .gt 6, 3) := by decide +kernel
theorem dX12_nextRow_64 : decode cX12_nextRow 64 = .ok (.goto 62, 3) := by decide +kernel
theorem dX12_nextRow_67 : decode cX12_nextRow 67 = .ok (.iload_n 3, 1) := by decide +kernel
theorem dX12_nextRow_68 : decode cX12_nextRow 68 = .ok (.iconst (-1), 1) := by decide +kernel
theorem dX12_nextRow_69 : decode cX12_nextRow 69 = .ok (.if_icmp .eq 18, 3) := by decide +kernel
theorem dX12_nextRow_72 : decode cX12_nextRow 72 = .ok (.aload_n 0, 1) := by decide +kernel
theorem dX12_nextRow_73 : decode cX12_nextRow 73 = .ok (.aload 4, 2) := by decide +kernel
theorem dX12_nextRow_75 : decode cX12_nextRow 75 = .ok (.iload 5, 2) := by decide +kernel
theorem dX12_nextRow_77 : decode cX12_nextRow 77 = .ok (.iload_n 2, 1) := by decide +kernel
theorem dX12_nextRow_78 : decode cX12_nextRow 78 = .ok (.invokevirtual 388, 3) := by decide +kernel
theorem dX12_nextRow_81 : decode cX12_nextRow 81 = .ok (.ifCond .eq 6, 3) := by decide +kernel
theorem dX12_nextRow_84 : decode cX12_nextRow 84 = .ok (.goto 42, 3) := by decide +kernel
theorem dX12_nextRow_87 : decode cX12_nextRow 87 = .ok (.iload 6, 2) := by decide +kernel
theorem dX12_nextRow_89 : decode cX12_nextRow 89 = .ok (.istore_n 3, 1) := by decide +kernel
theorem dX12_nextRow_90 : decode cX12_nextRow 90 = .ok (.aload_n 0, 1) := by decide +kernel
theorem dX12_nextRow_91 : decode cX12_nextRow 91 = .ok (.getfield 334, 3) := by decide +kernel
theorem dX12_nextRow_94 : decode cX12_nextRow 94 = .ok (.istore 5, 2) := by decide +kernel
theorem dX12_nextRow_96 : decode cX12_nextRow 96 = .ok (.iconst 0, 1) := by decide +kernel
theorem dX12_nextRow_97 : decode cX12_nextRow 97 = .ok (.istore 8, 2) := by decide +kernel
theorem dX12_nextRow_99 : decode cX12_nextRow 99 = .ok (.iload 8, 2) := by decide +kernel
theorem dX12_nextRow_101 : decode cX12_nextRow 101 = .ok (.aload_n 0, 1) := by decide +kernel
theorem dX12_nextRow_102 : decode cX12_nextRow 102 = .ok (.getfield 334, 3) := by decide +kernel
theorem dX12_nextRow_105 : decode cX12_nextRow 105 = .ok (.if_icmp .ge 21, 3) := by decide +kernel
theorem dX12_nextRow_108 : decode cX12_nextRow 108 = .ok (.aload 4, 2) := by decide +kernel
theorem dX12_nextRow_110 : decode cX12_nextRow 110 = .ok (.iload 8, 2) := by decide +kernel
theorem dX12_nextRow_112 : decode cX12_nextRow 112 = .ok (.aload_n 0, 1) := by decide +kernel
theorem dX12_nextRow_113 : decode cX12_nextRow 113 = .ok (.getfield 60, 3) := by decide +kernel
theorem dX12_nextRow_116 : decode cX12_nextRow 116 = .ok (.iload 8, 2) := by decide +kernel
theorem dX12_nextRow_118 : decode cX12_nextRow 118 = .ok (.iaload, 1) := by decide +kernel
theorem dX12_nextRow_119 : decode cX12_nextRow 119 = .ok (.iastore, 1) := by decide +kernel
theorem dX12_nextRow_120 : decode cX12_nextRow 120 = .ok (.iinc 8 1, 3) := by decide +kernel
theorem dX12_nextRow_123 : decode cX12_nextRow 123 = .ok (.goto (-24), 3) := by decide +kernel
theorem dX12_nextRow_126 : decode cX12_nextRow 126 = .ok (.iinc 6 1, 3) := by decide +kernel
theorem dX12_nextRow_129 : decode cX12_nextRow 129 = .ok (.goto (-115), 3) := by decide +kernel
theorem dX12_nextRow_132 : decode cX12_nextRow 132 = .ok (.iload_n 3, 1) := by decide +kernel
theorem dX12_nextRow_133 : decode cX12_nextRow 133 = .ok (.iconst (-1), 1) := by decide +kernel
theorem dX12_nextRow_134 : decode cX12_nextRow 134 = .ok (.if_icmp .eq 13, 3) := by decide +kernel
theorem dX12_nextRow_137 : decode cX12_nextRow 137 = .ok (.aload_n 0, 1) := by decide +kernel
theorem dX12_nextRow_138 : decode cX12_nextRow 138 = .ok (.iload_n 1, 1) := by decide +kernel
theorem dX12_nextRow_139 : decode cX12_nextRow 139 = .ok (.iload_n 3, 1) := by decide +kernel
theorem dX12_nextRow_140 : decode cX12_nextRow 140 = .ok (.invokevirtual 351, 3) := by decide +kernel
theorem dX12_nextRow_143 : decode cX12_nextRow 143 = .ok (.aload_n 0, 1) := by decide +kernel
theorem dX12_nextRow_144 : decode cX12_nextRow 144 = .ok (.invokevirtual 355, 3) := by decide +kernel
theorem dX12_nextRow_147 : decode cX12_nextRow 147 = .ok (.iload_n 3, 1) := by decide +kernel
theorem dX12_nextRow_148 : decode cX12_nextRow 148 = .ok (.ireturn, 1) := by decide +kernel
theorem dX12_isKept_0 : decode cX12_isKept 0 = .ok (.iconst 0, 1) := by decide +kernel
theorem dX12_isKept_1 : decode cX12_isKept 1 = .ok (.istore 4, 2) := by decide +kernel
theorem dX12_isKept_3 : decode cX12_isKept 3 = .ok (.iload 4, 2) := by decide +kernel
theorem dX12_isKept_5 : decode cX12_isKept 5 = .ok (.aload_n 0, 1) := by decide +kernel
theorem dX12_isKept_6 : decode cX12_isKept 6 = .ok (.getfield 334, 3) := by decide +kernel
theorem dX12_isKept_9 : decode cX12_isKept 9 = .ok (.if_icmp .ge 29, 3) := by decide +kernel
theorem dX12_isKept_12 : decode cX12_isKept 12 = .ok (.iload 4, 2) := by decide +kernel
theorem dX12_isKept_14 : decode cX12_isKept 14 = .ok (.iload_n 2, 1) := by decide +kernel
theorem dX12_isKept_15 : decode cX12_isKept 15 = .ok (.if_icmp .ge 23, 3) := by decide +kernel
theorem dX12_isKept_18 : decode cX12_isKept 18 = .ok (.aload_n 0, 1) := by decide +kernel
theorem dX12_isKept_19 : decode cX12_isKept 19 = .ok (.getfield 60, 3) := by decide +kernel
theorem dX12_isKept_22 : decode cX12_isKept 22 = .ok (.iload 4, 2) := by decide +kernel
theorem dX12_isKept_24 : decode cX12_isKept 24 = .ok (.iaload, 1) := by decide +kernel
theorem dX12_isKept_25 : decode cX12_isKept 25 = .ok (.aload_n 1, 1) := by decide +kernel
theorem dX12_isKept_26 : decode cX12_isKept 26 = .ok (.iload 4, 2) := by decide +kernel
theorem dX12_isKept_28 : decode cX12_isKept 28 = .ok (.iaload, 1) := by decide +kernel
theorem dX12_isKept_29 : decode cX12_isKept 29 = .ok (.if_icmp .ne 9, 3) := by decide +kernel
theorem dX12_isKept_32 : decode cX12_isKept 32 = .ok (.iinc 4 1, 3) := by decide +kernel
theorem dX12_isKept_35 : decode cX12_isKept 35 = .ok (.goto (-32), 3) := by decide +kernel
theorem dX12_isKept_38 : decode cX12_isKept 38 = .ok (.iload 4, 2) := by decide +kernel
theorem dX12_isKept_40 : decode cX12_isKept 40 = .ok (.aload_n 0, 1) := by decide +kernel
theorem dX12_isKept_41 : decode cX12_isKept 41 = .ok (.getfield 334, 3) := by decide +kernel
theorem dX12_isKept_44 : decode cX12_isKept 44 = .ok (.if_icmp .ge 24, 3) := by decide +kernel
theorem dX12_isKept_47 : decode cX12_isKept 47 = .ok (.iload 4, 2) := by decide +kernel
theorem dX12_isKept_49 : decode cX12_isKept 49 = .ok (.iload_n 2, 1) := by decide +kernel
theorem dX12_isKept_50 : decode cX12_isKept 50 = .ok (.if_icmp .ge 18, 3) := by decide +kernel
theorem dX12_isKept_53 : decode cX12_isKept 53 = .ok (.aload_n 0, 1) := by decide +kernel
theorem dX12_isKept_54 : decode cX12_isKept 54 = .ok (.getfield 60, 3) := by decide +kernel
theorem dX12_isKept_57 : decode cX12_isKept 57 = .ok (.iload 4, 2) := by decide +kernel
theorem dX12_isKept_59 : decode cX12_isKept 59 = .ok (.iaload, 1) := by decide +kernel
theorem dX12_isKept_60 : decode cX12_isKept 60 = .ok (.aload_n 1, 1) := by decide +kernel
theorem dX12_isKept_61 : decode cX12_isKept 61 = .ok (.iload 4, 2) := by decide +kernel
theorem dX12_isKept_63 : decode cX12_isKept 63 = .ok (.iaload, 1) := by decide +kernel
theorem dX12_isKept_64 : decode cX12_isKept 64 = .ok (.isub, 1) := by decide +kernel
theorem dX12_isKept_65 : decode cX12_isKept 65 = .ok (.goto 9, 3) := by decide +kernel
theorem dX12_isKept_68 : decode cX12_isKept 68 = .ok (.aload_n 0, 1) := by decide +kernel
theorem dX12_isKept_69 : decode cX12_isKept 69 = .ok (.getfield 334, 3) := by decide +kernel
theorem dX12_isKept_72 : decode cX12_isKept 72 = .ok (.iload_n 2, 1) := by decide +kernel
theorem dX12_isKept_73 : decode cX12_isKept 73 = .ok (.isub, 1) := by decide +kernel
theorem dX12_isKept_74 : decode cX12_isKept 74 = .ok (.istore 5, 2) := by decide +kernel
theorem dX12_isKept_76 : decode cX12_isKept 76 = .ok (.iload_n 3, 1) := by decide +kernel
theorem dX12_isKept_77 : decode cX12_isKept 77 = .ok (.ifCond .eq 16, 3) := by decide +kernel
theorem dX12_isKept_80 : decode cX12_isKept 80 = .ok (.iload 5, 2) := by decide +kernel
theorem dX12_isKept_82 : decode cX12_isKept 82 = .ok (.ifCond .ge 7, 3) := by decide +kernel
theorem dX12_isKept_85 : decode cX12_isKept 85 = .ok (.iconst 1, 1) := by decide +kernel
theorem dX12_isKept_86 : decode cX12_isKept 86 = .ok (.goto 17, 3) := by decide +kernel
theorem dX12_isKept_89 : decode cX12_isKept 89 = .ok (.iconst 0, 1) := by decide +kernel
theorem dX12_isKept_90 : decode cX12_isKept 90 = .ok (.goto 13, 3) := by decide +kernel
theorem dX12_isKept_93 : decode cX12_isKept 93 = .ok (.iload 5, 2) := by decide +kernel
theorem dX12_isKept_95 : decode cX12_isKept 95 = .ok (.ifCond .le 7, 3) := by decide +kernel
theorem dX12_isKept_98 : decode cX12_isKept 98 = .ok (.iconst 1, 1) := by decide +kernel
theorem dX12_isKept_99 : decode cX12_isKept 99 = .ok (.goto 4, 3) := by decide +kernel
theorem dX12_isKept_102 : decode cX12_isKept 102 = .ok (.iconst 0, 1) := by decide +kernel
theorem dX12_isKept_103 : decode cX12_isKept 103 = .ok (.ireturn, 1) := by decide +kernel
theorem dX12_finds_0 : decode cX12_finds 0 = .ok (.aload_n 0, 1) := by decide +kernel
theorem dX12_finds_1 : decode cX12_finds 1 = .ok (.iconst 0, 1) := by decide +kernel
theorem dX12_finds_2 : decode cX12_finds 2 = .ok (.putfield 392, 3) := by decide +kernel
theorem dX12_finds_5 : decode cX12_finds 5 = .ok (.aload_n 0, 1) := by decide +kernel
theorem dX12_finds_6 : decode cX12_finds 6 = .ok (.iload_n 1, 1) := by decide +kernel
theorem dX12_finds_7 : decode cX12_finds 7 = .ok (.iload_n 3, 1) := by decide +kernel
theorem dX12_finds_8 : decode cX12_finds 8 = .ok (.invokevirtual 395, 3) := by decide +kernel
theorem dX12_finds_11 : decode cX12_finds 11 = .ok (.istore 4, 2) := by decide +kernel
theorem dX12_finds_13 : decode cX12_finds 13 = .ok (.iload 4, 2) := by decide +kernel
theorem dX12_finds_15 : decode cX12_finds 15 = .ok (.iconst (-1), 1) := by decide +kernel
theorem dX12_finds_16 : decode cX12_finds 16 = .ok (.if_icmp .eq 47, 3) := by decide +kernel
theorem dX12_finds_19 : decode cX12_finds 19 = .ok (.aload_n 0, 1) := by decide +kernel
theorem dX12_finds_20 : decode cX12_finds 20 = .ok (.getfield 75, 3) := by decide +kernel
theorem dX12_finds_23 : decode cX12_finds 23 = .ok (.aload_n 0, 1) := by decide +kernel
theorem dX12_finds_24 : decode cX12_finds 24 = .ok (.getfield 392, 3) := by decide +kernel
theorem dX12_finds_27 : decode cX12_finds 27 = .ok (.iload 4, 2) := by decide +kernel
theorem dX12_finds_29 : decode cX12_finds 29 = .ok (.iastore, 1) := by decide +kernel
theorem dX12_finds_30 : decode cX12_finds 30 = .ok (.aload_n 0, 1) := by decide +kernel
theorem dX12_finds_31 : decode cX12_finds 31 = .ok (.dup, 1) := by decide +kernel
theorem dX12_finds_32 : decode cX12_finds 32 = .ok (.getfield 392, 3) := by decide +kernel
theorem dX12_finds_35 : decode cX12_finds 35 = .ok (.iconst 1, 1) := by decide +kernel
theorem dX12_finds_36 : decode cX12_finds 36 = .ok (.iadd, 1) := by decide +kernel
theorem dX12_finds_37 : decode cX12_finds 37 = .ok (.putfield 392, 3) := by decide +kernel
theorem dX12_finds_40 : decode cX12_finds 40 = .ok (.aload_n 0, 1) := by decide +kernel
theorem dX12_finds_41 : decode cX12_finds 41 = .ok (.getfield 392, 3) := by decide +kernel
theorem dX12_finds_44 : decode cX12_finds 44 = .ok (.iload_n 2, 1) := by decide +kernel
theorem dX12_finds_45 : decode cX12_finds 45 = .ok (.if_icmp .ne 7, 3) := by decide +kernel
theorem dX12_finds_48 : decode cX12_finds 48 = .ok (.iconst (-1), 1) := by decide +kernel
theorem dX12_finds_49 : decode cX12_finds 49 = .ok (.goto 9, 3) := by decide +kernel
theorem dX12_finds_52 : decode cX12_finds 52 = .ok (.aload_n 0, 1) := by decide +kernel
theorem dX12_finds_53 : decode cX12_finds 53 = .ok (.iload_n 1, 1) := by decide +kernel
theorem dX12_finds_54 : decode cX12_finds 54 = .ok (.iload_n 3, 1) := by decide +kernel
theorem dX12_finds_55 : decode cX12_finds 55 = .ok (.invokevirtual 395, 3) := by decide +kernel
theorem dX12_finds_58 : decode cX12_finds 58 = .ok (.istore 4, 2) := by decide +kernel
theorem dX12_finds_60 : decode cX12_finds 60 = .ok (.goto (-47), 3) := by decide +kernel
theorem dX12_finds_63 : decode cX12_finds 63 = .ok (.iconst 0, 1) := by decide +kernel
theorem dX12_finds_64 : decode cX12_finds 64 = .ok (.istore 5, 2) := by decide +kernel
theorem dX12_finds_66 : decode cX12_finds 66 = .ok (.iload_n 3, 1) := by decide +kernel
theorem dX12_finds_67 : decode cX12_finds 67 = .ok (.ifCond .eq 66, 3) := by decide +kernel
theorem dX12_finds_70 : decode cX12_finds 70 = .ok (.iload 5, 2) := by decide +kernel
theorem dX12_finds_72 : decode cX12_finds 72 = .ok (.aload_n 0, 1) := by decide +kernel
theorem dX12_finds_73 : decode cX12_finds 73 = .ok (.getfield 392, 3) := by decide +kernel
theorem dX12_finds_76 : decode cX12_finds 76 = .ok (.iconst 2, 1) := by decide +kernel
theorem dX12_finds_77 : decode cX12_finds 77 = .ok (.idiv, 1) := by decide +kernel
theorem dX12_finds_78 : decode cX12_finds 78 = .ok (.if_icmp .ge 55, 3) := by decide +kernel
theorem dX12_finds_81 : decode cX12_finds 81 = .ok (.aload_n 0, 1) := by decide +kernel
theorem dX12_finds_82 : decode cX12_finds 82 = .ok (.getfield 75, 3) := by decide +kernel
theorem dX12_finds_85 : decode cX12_finds 85 = .ok (.aload_n 0, 1) := by decide +kernel
theorem dX12_finds_86 : decode cX12_finds 86 = .ok (.getfield 392, 3) := by decide +kernel
theorem dX12_finds_89 : decode cX12_finds 89 = .ok (.iconst 1, 1) := by decide +kernel
theorem dX12_finds_90 : decode cX12_finds 90 = .ok (.isub, 1) := by decide +kernel
theorem dX12_finds_91 : decode cX12_finds 91 = .ok (.iload 5, 2) := by decide +kernel
theorem dX12_finds_93 : decode cX12_finds 93 = .ok (.isub, 1) := by decide +kernel
theorem dX12_finds_94 : decode cX12_finds 94 = .ok (.iaload, 1) := by decide +kernel
theorem dX12_finds_95 : decode cX12_finds 95 = .ok (.istore 6, 2) := by decide +kernel
theorem dX12_finds_97 : decode cX12_finds 97 = .ok (.aload_n 0, 1) := by decide +kernel
theorem dX12_finds_98 : decode cX12_finds 98 = .ok (.getfield 75, 3) := by decide +kernel
theorem dX12_finds_101 : decode cX12_finds 101 = .ok (.aload_n 0, 1) := by decide +kernel
theorem dX12_finds_102 : decode cX12_finds 102 = .ok (.getfield 392, 3) := by decide +kernel
theorem dX12_finds_105 : decode cX12_finds 105 = .ok (.iconst 1, 1) := by decide +kernel
theorem dX12_finds_106 : decode cX12_finds 106 = .ok (.isub, 1) := by decide +kernel
theorem dX12_finds_107 : decode cX12_finds 107 = .ok (.iload 5, 2) := by decide +kernel
theorem dX12_finds_109 : decode cX12_finds 109 = .ok (.isub, 1) := by decide +kernel
theorem dX12_finds_110 : decode cX12_finds 110 = .ok (.aload_n 0, 1) := by decide +kernel
theorem dX12_finds_111 : decode cX12_finds 111 = .ok (.getfield 75, 3) := by decide +kernel
theorem dX12_finds_114 : decode cX12_finds 114 = .ok (.iload 5, 2) := by decide +kernel
theorem dX12_finds_116 : decode cX12_finds 116 = .ok (.iaload, 1) := by decide +kernel
theorem dX12_finds_117 : decode cX12_finds 117 = .ok (.iastore, 1) := by decide +kernel
theorem dX12_finds_118 : decode cX12_finds 118 = .ok (.aload_n 0, 1) := by decide +kernel
theorem dX12_finds_119 : decode cX12_finds 119 = .ok (.getfield 75, 3) := by decide +kernel
theorem dX12_finds_122 : decode cX12_finds 122 = .ok (.iload 5, 2) := by decide +kernel
theorem dX12_finds_124 : decode cX12_finds 124 = .ok (.iload 6, 2) := by decide +kernel
theorem dX12_finds_126 : decode cX12_finds 126 = .ok (.iastore, 1) := by decide +kernel
theorem dX12_finds_127 : decode cX12_finds 127 = .ok (.iinc 5 1, 3) := by decide +kernel
theorem dX12_finds_130 : decode cX12_finds 130 = .ok (.goto (-64), 3) := by decide +kernel
theorem dX12_finds_133 : decode cX12_finds 133 = .ok (.return_, 1) := by decide +kernel
theorem dX12_countAhead_0 : decode cX12_countAhead 0 = .ok (.iconst 0, 1) := by decide +kernel
theorem dX12_countAhead_1 : decode cX12_countAhead 1 = .ok (.istore_n 3, 1) := by decide +kernel
theorem dX12_countAhead_2 : decode cX12_countAhead 2 = .ok (.iconst 0, 1) := by decide +kernel
theorem dX12_countAhead_3 : decode cX12_countAhead 3 = .ok (.istore 4, 2) := by decide +kernel
theorem dX12_countAhead_5 : decode cX12_countAhead 5 = .ok (.iload 4, 2) := by decide +kernel
theorem dX12_countAhead_7 : decode cX12_countAhead 7 = .ok (.bipush 64, 2) := by decide +kernel
theorem dX12_countAhead_9 : decode cX12_countAhead 9 = .ok (.if_icmp .ge 55, 3) := by decide +kernel
theorem dX12_countAhead_12 : decode cX12_countAhead 12 = .ok (.aload_n 0, 1) := by decide +kernel
theorem dX12_countAhead_13 : decode cX12_countAhead 13 = .ok (.iload_n 1, 1) := by decide +kernel
theorem dX12_countAhead_14 : decode cX12_countAhead 14 = .ok (.iload 4, 2) := by decide +kernel
theorem dX12_countAhead_16 : decode cX12_countAhead 16 = .ok (.invokevirtual 385, 3) := by decide +kernel
theorem dX12_countAhead_19 : decode cX12_countAhead 19 = .ok (.ifCond .eq 39, 3) := by decide +kernel
theorem dX12_countAhead_22 : decode cX12_countAhead 22 = .ok (.aload_n 0, 1) := by decide +kernel
theorem dX12_countAhead_23 : decode cX12_countAhead 23 = .ok (.iload_n 1, 1) := by decide +kernel
theorem dX12_countAhead_24 : decode cX12_countAhead 24 = .ok (.iload 4, 2) := by decide +kernel
theorem dX12_countAhead_26 : decode cX12_countAhead 26 = .ok (.invokevirtual 351, 3) := by decide +kernel
theorem dX12_countAhead_29 : decode cX12_countAhead 29 = .ok (.iload_n 3, 1) := by decide +kernel
theorem dX12_countAhead_30 : decode cX12_countAhead 30 = .ok (.iload_n 2, 1) := by decide +kernel
theorem dX12_countAhead_31 : decode cX12_countAhead 31 = .ok (.ifCond .eq 13, 3) := by decide +kernel
theorem dX12_countAhead_34 : decode cX12_countAhead 34 = .ok (.aload_n 0, 1) := by decide +kernel
theorem dX12_countAhead_35 : decode cX12_countAhead 35 = .ok (.invokevirtual 358, 3) := by decide +kernel
theorem dX12_countAhead_38 : decode cX12_countAhead 38 = .ok (.ifCond .le 17, 3) := by decide +kernel
theorem dX12_countAhead_41 : decode cX12_countAhead 41 = .ok (.goto 10, 3) := by decide +kernel
theorem dX12_countAhead_44 : decode cX12_countAhead 44 = .ok (.aload_n 0, 1) := by decide +kernel
theorem dX12_countAhead_45 : decode cX12_countAhead 45 = .ok (.invokevirtual 358, 3) := by decide +kernel
theorem dX12_countAhead_48 : decode cX12_countAhead 48 = .ok (.ifCond .ge 7, 3) := by decide +kernel
theorem dX12_countAhead_51 : decode cX12_countAhead 51 = .ok (.iconst 1, 1) := by decide +kernel
theorem dX12_countAhead_52 : decode cX12_countAhead 52 = .ok (.goto 4, 3) := by decide +kernel
theorem dX12_countAhead_55 : decode cX12_countAhead 55 = .ok (.iconst 0, 1) := by decide +kernel
theorem dX12_countAhead_56 : decode cX12_countAhead 56 = .ok (.iadd, 1) := by decide +kernel
theorem dX12_countAhead_57 : decode cX12_countAhead 57 = .ok (.istore_n 3, 1) := by decide +kernel
theorem dX12_countAhead_58 : decode cX12_countAhead 58 = .ok (.iinc 4 1, 3) := by decide +kernel
theorem dX12_countAhead_61 : decode cX12_countAhead 61 = .ok (.goto (-56), 3) := by decide +kernel
theorem dX12_countAhead_64 : decode cX12_countAhead 64 = .ok (.iload_n 3, 1) := by decide +kernel
theorem dX12_countAhead_65 : decode cX12_countAhead 65 = .ok (.ireturn, 1) := by decide +kernel
theorem dX12_laysToken_0 : decode cX12_laysToken 0 = .ok (.sipush 900, 3) := by decide +kernel
theorem dX12_laysToken_3 : decode cX12_laysToken 3 = .ok (.iload_n 1, 1) := by decide +kernel
theorem dX12_laysToken_4 : decode cX12_laysToken 4 = .ok (.imul, 1) := by decide +kernel
theorem dX12_laysToken_5 : decode cX12_laysToken 5 = .ok (.istore 6, 2) := by decide +kernel
theorem dX12_laysToken_7 : decode cX12_laysToken 7 = .ok (.iload 4, 2) := by decide +kernel
theorem dX12_laysToken_9 : decode cX12_laysToken 9 = .ok (.ifCond .eq 9, 3) := by decide +kernel
theorem dX12_laysToken_12 : decode cX12_laysToken 12 = .ok (.iload_n 2, 1) := by decide +kernel
theorem dX12_laysToken_13 : decode cX12_laysToken 13 = .ok (.iconst 1, 1) := by decide +kernel
theorem dX12_laysToken_14 : decode cX12_laysToken 14 = .ok (.iadd, 1) := by decide +kernel
theorem dX12_laysToken_15 : decode cX12_laysToken 15 = .ok (.goto 4, 3) := by decide +kernel
theorem dX12_laysToken_18 : decode cX12_laysToken 18 = .ok (.iconst 0, 1) := by decide +kernel
theorem dX12_laysToken_19 : decode cX12_laysToken 19 = .ok (.istore 7, 2) := by decide +kernel
theorem dX12_laysToken_21 : decode cX12_laysToken 21 = .ok (.aload_n 0, 1) := by decide +kernel
theorem dX12_laysToken_22 : decode cX12_laysToken 22 = .ok (.iload_n 2, 1) := by decide +kernel
theorem dX12_laysToken_23 : decode cX12_laysToken 23 = .ok (.iload 5, 2) := by decide +kernel
theorem dX12_laysToken_25 : decode cX12_laysToken 25 = .ok (.invokevirtual 351, 3) := by decide +kernel
theorem dX12_laysToken_28 : decode cX12_laysToken 28 = .ok (.aload_n 0, 1) := by decide +kernel
theorem dX12_laysToken_29 : decode cX12_laysToken 29 = .ok (.getfield 87, 3) := by decide +kernel
theorem dX12_laysToken_32 : decode cX12_laysToken 32 = .ok (.iload 6, 2) := by decide +kernel
theorem dX12_laysToken_34 : decode cX12_laysToken 34 = .ok (.bipush 84, 2) := by decide +kernel
theorem dX12_laysToken_36 : decode cX12_laysToken 36 = .ok (.iastore, 1) := by decide +kernel
theorem dX12_laysToken_37 : decode cX12_laysToken 37 = .ok (.aload_n 0, 1) := by decide +kernel
theorem dX12_laysToken_38 : decode cX12_laysToken 38 = .ok (.getfield 87, 3) := by decide +kernel
theorem dX12_laysToken_41 : decode cX12_laysToken 41 = .ok (.iload 6, 2) := by decide +kernel
theorem dX12_laysToken_43 : decode cX12_laysToken 43 = .ok (.iconst 1, 1) := by decide +kernel
theorem dX12_laysToken_44 : decode cX12_laysToken 44 = .ok (.iadd, 1) := by decide +kernel
theorem dX12_laysToken_45 : decode cX12_laysToken 45 = .ok (.aload_n 0, 1) := by decide +kernel
theorem dX12_laysToken_46 : decode cX12_laysToken 46 = .ok (.getfield 280, 3) := by decide +kernel
theorem dX12_laysToken_49 : decode cX12_laysToken 49 = .ok (.sipush 256, 3) := by decide +kernel
theorem dX12_laysToken_52 : decode cX12_laysToken 52 = .ok (.irem, 1) := by decide +kernel
theorem dX12_laysToken_53 : decode cX12_laysToken 53 = .ok (.iastore, 1) := by decide +kernel
theorem dX12_laysToken_54 : decode cX12_laysToken 54 = .ok (.aload_n 0, 1) := by decide +kernel
theorem dX12_laysToken_55 : decode cX12_laysToken 55 = .ok (.getfield 87, 3) := by decide +kernel
theorem dX12_laysToken_58 : decode cX12_laysToken 58 = .ok (.iload 6, 2) := by decide +kernel
theorem dX12_laysToken_60 : decode cX12_laysToken 60 = .ok (.iconst 2, 1) := by decide +kernel
theorem dX12_laysToken_61 : decode cX12_laysToken 61 = .ok (.iadd, 1) := by decide +kernel
theorem dX12_laysToken_62 : decode cX12_laysToken 62 = .ok (.iload_n 3, 1) := by decide +kernel
theorem dX12_laysToken_63 : decode cX12_laysToken 63 = .ok (.iastore, 1) := by decide +kernel
theorem dX12_laysToken_64 : decode cX12_laysToken 64 = .ok (.aload_n 0, 1) := by decide +kernel
theorem dX12_laysToken_65 : decode cX12_laysToken 65 = .ok (.getfield 87, 3) := by decide +kernel
theorem dX12_laysToken_68 : decode cX12_laysToken 68 = .ok (.iload 6, 2) := by decide +kernel
theorem dX12_laysToken_70 : decode cX12_laysToken 70 = .ok (.iconst 3, 1) := by decide +kernel
theorem dX12_laysToken_71 : decode cX12_laysToken 71 = .ok (.iadd, 1) := by decide +kernel
theorem dX12_laysToken_72 : decode cX12_laysToken 72 = .ok (.iload 7, 2) := by decide +kernel
theorem dX12_laysToken_74 : decode cX12_laysToken 74 = .ok (.sipush 256, 3) := by decide +kernel
theorem dX12_laysToken_77 : decode cX12_laysToken 77 = .ok (.idiv, 1) := by decide +kernel
theorem dX12_laysToken_78 : decode cX12_laysToken 78 = .ok (.iastore, 1) := by decide +kernel
theorem dX12_laysToken_79 : decode cX12_laysToken 79 = .ok (.aload_n 0, 1) := by decide +kernel
theorem dX12_laysToken_80 : decode cX12_laysToken 80 = .ok (.getfield 87, 3) := by decide +kernel
theorem dX12_laysToken_83 : decode cX12_laysToken 83 = .ok (.iload 6, 2) := by decide +kernel
theorem dX12_laysToken_85 : decode cX12_laysToken 85 = .ok (.iconst 4, 1) := by decide +kernel
theorem dX12_laysToken_86 : decode cX12_laysToken 86 = .ok (.iadd, 1) := by decide +kernel
theorem dX12_laysToken_87 : decode cX12_laysToken 87 = .ok (.iload 7, 2) := by decide +kernel
theorem dX12_laysToken_89 : decode cX12_laysToken 89 = .ok (.sipush 256, 3) := by decide +kernel
theorem dX12_laysToken_92 : decode cX12_laysToken 92 = .ok (.irem, 1) := by decide +kernel
theorem dX12_laysToken_93 : decode cX12_laysToken 93 = .ok (.iastore, 1) := by decide +kernel
theorem dX12_laysToken_94 : decode cX12_laysToken 94 = .ok (.iconst 0, 1) := by decide +kernel
theorem dX12_laysToken_95 : decode cX12_laysToken 95 = .ok (.istore 8, 2) := by decide +kernel
theorem dX12_laysToken_97 : decode cX12_laysToken 97 = .ok (.iload 8, 2) := by decide +kernel
theorem dX12_laysToken_99 : decode cX12_laysToken 99 = .ok (.aload_n 0, 1) := by decide +kernel
theorem dX12_laysToken_100 : decode cX12_laysToken 100 = .ok (.getfield 334, 3) := by decide +kernel
theorem dX12_laysToken_103 : decode cX12_laysToken 103 = .ok (.if_icmp .ge 28, 3) := by decide +kernel
theorem dX12_laysToken_106 : decode cX12_laysToken 106 = .ok (.aload_n 0, 1) := by decide +kernel
theorem dX12_laysToken_107 : decode cX12_laysToken 107 = .ok (.getfield 87, 3) := by decide +kernel
theorem dX12_laysToken_110 : decode cX12_laysToken 110 = .ok (.iload 6, 2) := by decide +kernel
theorem dX12_laysToken_112 : decode cX12_laysToken 112 = .ok (.iconst 5, 1) := by decide +kernel
theorem dX12_laysToken_113 : decode cX12_laysToken 113 = .ok (.iadd, 1) := by decide +kernel
theorem dX12_laysToken_114 : decode cX12_laysToken 114 = .ok (.iload 8, 2) := by decide +kernel
theorem dX12_laysToken_116 : decode cX12_laysToken 116 = .ok (.iadd, 1) := by decide +kernel
theorem dX12_laysToken_117 : decode cX12_laysToken 117 = .ok (.aload_n 0, 1) := by decide +kernel
theorem dX12_laysToken_118 : decode cX12_laysToken 118 = .ok (.getfield 60, 3) := by decide +kernel
theorem dX12_laysToken_121 : decode cX12_laysToken 121 = .ok (.iload 8, 2) := by decide +kernel
theorem dX12_laysToken_123 : decode cX12_laysToken 123 = .ok (.iaload, 1) := by decide +kernel
theorem dX12_laysToken_124 : decode cX12_laysToken 124 = .ok (.iastore, 1) := by decide +kernel
theorem dX12_laysToken_125 : decode cX12_laysToken 125 = .ok (.iinc 8 1, 3) := by decide +kernel
theorem dX12_laysToken_128 : decode cX12_laysToken 128 = .ok (.goto (-31), 3) := by decide +kernel
theorem dX12_laysToken_131 : decode cX12_laysToken 131 = .ok (.bipush 7, 2) := by decide +kernel
theorem dX12_laysToken_133 : decode cX12_laysToken 133 = .ok (.istore 8, 2) := by decide +kernel
theorem dX12_laysToken_135 : decode cX12_laysToken 135 = .ok (.iconst 0, 1) := by decide +kernel
theorem dX12_laysToken_136 : decode cX12_laysToken 136 = .ok (.istore 9, 2) := by decide +kernel
theorem dX12_laysToken_138 : decode cX12_laysToken 138 = .ok (.iload 9, 2) := by decide +kernel
theorem dX12_laysToken_140 : decode cX12_laysToken 140 = .ok (.iconst 5, 1) := by decide +kernel
theorem dX12_laysToken_141 : decode cX12_laysToken 141 = .ok (.aload_n 0, 1) := by decide +kernel
theorem dX12_laysToken_142 : decode cX12_laysToken 142 = .ok (.getfield 334, 3) := by decide +kernel
theorem dX12_laysToken_145 : decode cX12_laysToken 145 = .ok (.iadd, 1) := by decide +kernel
theorem dX12_laysToken_146 : decode cX12_laysToken 146 = .ok (.if_icmp .ge 31, 3) := by decide +kernel
theorem dX12_laysToken_149 : decode cX12_laysToken 149 = .ok (.bipush 31, 2) := by decide +kernel
theorem dX12_laysToken_151 : decode cX12_laysToken 151 = .ok (.iload 8, 2) := by decide +kernel
theorem dX12_laysToken_153 : decode cX12_laysToken 153 = .ok (.imul, 1) := by decide +kernel
theorem dX12_laysToken_154 : decode cX12_laysToken 154 = .ok (.aload_n 0, 1) := by decide +kernel
theorem dX12_laysToken_155 : decode cX12_laysToken 155 = .ok (.getfield 87, 3) := by decide +kernel
theorem dX12_laysToken_158 : decode cX12_laysToken 158 = .ok (.iload 6, 2) := by decide +kernel
theorem dX12_laysToken_160 : decode cX12_laysToken 160 = .ok (.iload 9, 2) := by decide +kernel
theorem dX12_laysToken_162 : decode cX12_laysToken 162 = .ok (.iadd, 1) := by decide +kernel
theorem dX12_laysToken_163 : decode cX12_laysToken 163 = .ok (.iaload, 1) := by decide +kernel
theorem dX12_laysToken_164 : decode cX12_laysToken 164 = .ok (.iadd, 1) := by decide +kernel
theorem dX12_laysToken_165 : decode cX12_laysToken 165 = .ok (.sipush 251, 3) := by decide +kernel
theorem dX12_laysToken_168 : decode cX12_laysToken 168 = .ok (.irem, 1) := by decide +kernel
theorem dX12_laysToken_169 : decode cX12_laysToken 169 = .ok (.istore 8, 2) := by decide +kernel
theorem dX12_laysToken_171 : decode cX12_laysToken 171 = .ok (.iinc 9 1, 3) := by decide +kernel
theorem dX12_laysToken_174 : decode cX12_laysToken 174 = .ok (.goto (-36), 3) := by decide +kernel
theorem dX12_laysToken_177 : decode cX12_laysToken 177 = .ok (.aload_n 0, 1) := by decide +kernel
theorem dX12_laysToken_178 : decode cX12_laysToken 178 = .ok (.getfield 87, 3) := by decide +kernel
theorem dX12_laysToken_181 : decode cX12_laysToken 181 = .ok (.iload 6, 2) := by decide +kernel
theorem dX12_laysToken_183 : decode cX12_laysToken 183 = .ok (.iconst 5, 1) := by decide +kernel
theorem dX12_laysToken_184 : decode cX12_laysToken 184 = .ok (.iadd, 1) := by decide +kernel
theorem dX12_laysToken_185 : decode cX12_laysToken 185 = .ok (.aload_n 0, 1) := by decide +kernel
theorem dX12_laysToken_186 : decode cX12_laysToken 186 = .ok (.getfield 334, 3) := by decide +kernel
theorem dX12_laysToken_189 : decode cX12_laysToken 189 = .ok (.iadd, 1) := by decide +kernel
theorem dX12_laysToken_190 : decode cX12_laysToken 190 = .ok (.iload 8, 2) := by decide +kernel
theorem dX12_laysToken_192 : decode cX12_laysToken 192 = .ok (.iastore, 1) := by decide +kernel
theorem dX12_laysToken_193 : decode cX12_laysToken 193 = .ok (.aload_n 0, 1) := by decide +kernel
theorem dX12_laysToken_194 : decode cX12_laysToken 194 = .ok (.getfield 90, 3) := by decide +kernel
theorem dX12_laysToken_197 : decode cX12_laysToken 197 = .ok (.iload_n 1, 1) := by decide +kernel
theorem dX12_laysToken_198 : decode cX12_laysToken 198 = .ok (.bipush 6, 2) := by decide +kernel
theorem dX12_laysToken_200 : decode cX12_laysToken 200 = .ok (.aload_n 0, 1) := by decide +kernel
theorem dX12_laysToken_201 : decode cX12_laysToken 201 = .ok (.getfield 334, 3) := by decide +kernel
theorem dX12_laysToken_204 : decode cX12_laysToken 204 = .ok (.iadd, 1) := by decide +kernel
theorem dX12_laysToken_205 : decode cX12_laysToken 205 = .ok (.iastore, 1) := by decide +kernel
theorem dX12_laysToken_206 : decode cX12_laysToken 206 = .ok (.return_, 1) := by decide +kernel
theorem dX12_pages_0 : decode cX12_pages 0 = .ok (.aload_n 0, 1) := by decide +kernel
theorem dX12_pages_1 : decode cX12_pages 1 = .ok (.iconst 1, 1) := by decide +kernel
theorem dX12_pages_2 : decode cX12_pages 2 = .ok (.putfield 289, 3) := by decide +kernel
theorem dX12_pages_5 : decode cX12_pages 5 = .ok (.aload_n 0, 1) := by decide +kernel
theorem dX12_pages_6 : decode cX12_pages 6 = .ok (.aload_n 0, 1) := by decide +kernel
theorem dX12_pages_7 : decode cX12_pages 7 = .ok (.getfield 392, 3) := by decide +kernel
theorem dX12_pages_10 : decode cX12_pages 10 = .ok (.putfield 399, 3) := by decide +kernel
theorem dX12_pages_13 : decode cX12_pages 13 = .ok (.iconst 0, 1) := by decide +kernel
theorem dX12_pages_14 : decode cX12_pages 14 = .ok (.istore 4, 2) := by decide +kernel
theorem dX12_pages_16 : decode cX12_pages 16 = .ok (.iload 4, 2) := by decide +kernel
theorem dX12_pages_18 : decode cX12_pages 18 = .ok (.aload_n 0, 1) := by decide +kernel
theorem dX12_pages_19 : decode cX12_pages 19 = .ok (.getfield 392, 3) := by decide +kernel
theorem dX12_pages_22 : decode cX12_pages 22 = .ok (.if_icmp .ge 67, 3) := by decide +kernel
theorem dX12_pages_25 : decode cX12_pages 25 = .ok (.aload_n 0, 1) := by decide +kernel
theorem dX12_pages_26 : decode cX12_pages 26 = .ok (.getfield 81, 3) := by decide +kernel
theorem dX12_pages_29 : decode cX12_pages 29 = .ok (.iload 4, 2) := by decide +kernel
theorem dX12_pages_31 : decode cX12_pages 31 = .ok (.aload_n 0, 1) := by decide +kernel
theorem dX12_pages_32 : decode cX12_pages 32 = .ok (.getfield 75, 3) := by decide +kernel
theorem dX12_pages_35 : decode cX12_pages 35 = .ok (.iload 4, 2) := by decide +kernel
theorem dX12_pages_37 : decode cX12_pages 37 = .ok (.iaload, 1) := by decide +kernel
theorem dX12_pages_38 : decode cX12_pages 38 = .ok (.iastore, 1) := by decide +kernel
theorem dX12_pages_39 : decode cX12_pages 39 = .ok (.iconst 0, 1) := by decide +kernel
theorem dX12_pages_40 : decode cX12_pages 40 = .ok (.istore 5, 2) := by decide +kernel
theorem dX12_pages_42 : decode cX12_pages 42 = .ok (.iload 5, 2) := by decide +kernel
theorem dX12_pages_44 : decode cX12_pages 44 = .ok (.aload_n 0, 1) := by decide +kernel
theorem dX12_pages_45 : decode cX12_pages 45 = .ok (.getfield 271, 3) := by decide +kernel
theorem dX12_pages_48 : decode cX12_pages 48 = .ok (.if_icmp .ge 35, 3) := by decide +kernel
theorem dX12_pages_51 : decode cX12_pages 51 = .ok (.aload_n 0, 1) := by decide +kernel
theorem dX12_pages_52 : decode cX12_pages 52 = .ok (.getfield 84, 3) := by decide +kernel
theorem dX12_pages_55 : decode cX12_pages 55 = .ok (.iconst 4, 1) := by decide +kernel
theorem dX12_pages_56 : decode cX12_pages 56 = .ok (.iload 4, 2) := by decide +kernel
theorem dX12_pages_58 : decode cX12_pages 58 = .ok (.imul, 1) := by decide +kernel
theorem dX12_pages_59 : decode cX12_pages 59 = .ok (.iload 5, 2) := by decide +kernel
theorem dX12_pages_61 : decode cX12_pages 61 = .ok (.iadd, 1) := by decide +kernel
theorem dX12_pages_62 : decode cX12_pages 62 = .ok (.aload_n 0, 1) := by decide +kernel
theorem dX12_pages_63 : decode cX12_pages 63 = .ok (.iload_n 1, 1) := by decide +kernel
theorem dX12_pages_64 : decode cX12_pages 64 = .ok (.aload_n 0, 1) := by decide +kernel
theorem dX12_pages_65 : decode cX12_pages 65 = .ok (.getfield 75, 3) := by decide +kernel
theorem dX12_pages_68 : decode cX12_pages 68 = .ok (.iload 4, 2) := by decide +kernel
theorem dX12_pages_70 : decode cX12_pages 70 = .ok (.iaload, 1) := by decide +kernel
theorem dX12_pages_71 : decode cX12_pages 71 = .ok (.iload 5, 2) := by decide +kernel
theorem dX12_pages_73 : decode cX12_pages 73 = .ok (.invokevirtual 327, 3) := by decide +kernel
theorem dX12_pages_76 : decode cX12_pages 76 = .ok (.lastore, 1) := by decide +kernel
theorem dX12_pages_77 : decode cX12_pages 77 = .ok (.iinc 5 1, 3) := by decide +kernel
theorem dX12_pages_80 : decode cX12_pages 80 = .ok (.goto (-38), 3) := by decide +kernel
theorem dX12_pages_83 : decode cX12_pages 83 = .ok (.iinc 4 1, 3) := by decide +kernel
theorem dX12_pages_86 : decode cX12_pages 86 = .ok (.goto (-70), 3) := by decide +kernel
theorem dX12_pages_89 : decode cX12_pages 89 = .ok (.aload_n 0, 1) := by decide +kernel
theorem dX12_pages_90 : decode cX12_pages 90 = .ok (.getfield 392, 3) := by decide +kernel
theorem dX12_pages_93 : decode cX12_pages 93 = .ok (.ifCond .le 73, 3) := by decide +kernel
theorem dX12_pages_96 : decode cX12_pages 96 = .ok (.aload_n 0, 1) := by decide +kernel
theorem dX12_pages_97 : decode cX12_pages 97 = .ok (.iconst 0, 1) := by decide +kernel
theorem dX12_pages_98 : decode cX12_pages 98 = .ok (.iload_n 1, 1) := by decide +kernel
theorem dX12_pages_99 : decode cX12_pages 99 = .ok (.iload_n 2, 1) := by decide +kernel
theorem dX12_pages_100 : decode cX12_pages 100 = .ok (.iload_n 3, 1) := by decide +kernel
theorem dX12_pages_101 : decode cX12_pages 101 = .ok (.aload_n 0, 1) := by decide +kernel
theorem dX12_pages_102 : decode cX12_pages 102 = .ok (.getfield 75, 3) := by decide +kernel
theorem dX12_pages_105 : decode cX12_pages 105 = .ok (.iconst 0, 1) := by decide +kernel
theorem dX12_pages_106 : decode cX12_pages 106 = .ok (.iaload, 1) := by decide +kernel
theorem dX12_pages_107 : decode cX12_pages 107 = .ok (.invokevirtual 402, 3) := by decide +kernel
theorem dX12_pages_110 : decode cX12_pages 110 = .ok (.aload_n 0, 1) := by decide +kernel
theorem dX12_pages_111 : decode cX12_pages 111 = .ok (.invokevirtual 355, 3) := by decide +kernel
theorem dX12_pages_114 : decode cX12_pages 114 = .ok (.aload_n 0, 1) := by decide +kernel
theorem dX12_pages_115 : decode cX12_pages 115 = .ok (.getfield 93, 3) := by decide +kernel
theorem dX12_pages_118 : decode cX12_pages 118 = .ok (.iconst 0, 1) := by decide +kernel
theorem dX12_pages_119 : decode cX12_pages 119 = .ok (.aload_n 0, 1) := by decide +kernel
theorem dX12_pages_120 : decode cX12_pages 120 = .ok (.iload_n 1, 1) := by decide +kernel
theorem dX12_pages_121 : decode cX12_pages 121 = .ok (.iconst 0, 1) := by decide +kernel
theorem dX12_pages_122 : decode cX12_pages 122 = .ok (.invokevirtual 406, 3) := by decide +kernel
theorem dX12_pages_125 : decode cX12_pages 125 = .ok (.iastore, 1) := by decide +kernel
theorem dX12_pages_126 : decode cX12_pages 126 = .ok (.aload_n 0, 1) := by decide +kernel
theorem dX12_pages_127 : decode cX12_pages 127 = .ok (.iconst 1, 1) := by decide +kernel
theorem dX12_pages_128 : decode cX12_pages 128 = .ok (.iload_n 1, 1) := by decide +kernel
theorem dX12_pages_129 : decode cX12_pages 129 = .ok (.iload_n 2, 1) := by decide +kernel
theorem dX12_pages_130 : decode cX12_pages 130 = .ok (.iload_n 3, 1) := by decide +kernel
theorem dX12_pages_131 : decode cX12_pages 131 = .ok (.aload_n 0, 1) := by decide +kernel
theorem dX12_pages_132 : decode cX12_pages 132 = .ok (.getfield 75, 3) := by decide +kernel
theorem dX12_pages_135 : decode cX12_pages 135 = .ok (.aload_n 0, 1) := by decide +kernel
theorem dX12_pages_136 : decode cX12_pages 136 = .ok (.getfield 392, 3) := by decide +kernel
theorem dX12_pages_139 : decode cX12_pages 139 = .ok (.iconst 1, 1) := by decide +kernel
theorem dX12_pages_140 : decode cX12_pages 140 = .ok (.isub, 1) := by decide +kernel
theorem dX12_pages_141 : decode cX12_pages 141 = .ok (.iaload, 1) := by decide +kernel
theorem dX12_pages_142 : decode cX12_pages 142 = .ok (.invokevirtual 402, 3) := by decide +kernel
theorem dX12_pages_145 : decode cX12_pages 145 = .ok (.aload_n 0, 1) := by decide +kernel
theorem dX12_pages_146 : decode cX12_pages 146 = .ok (.invokevirtual 355, 3) := by decide +kernel
theorem dX12_pages_149 : decode cX12_pages 149 = .ok (.aload_n 0, 1) := by decide +kernel
theorem dX12_pages_150 : decode cX12_pages 150 = .ok (.getfield 93, 3) := by decide +kernel
theorem dX12_pages_153 : decode cX12_pages 153 = .ok (.iconst 1, 1) := by decide +kernel
theorem dX12_pages_154 : decode cX12_pages 154 = .ok (.aload_n 0, 1) := by decide +kernel
theorem dX12_pages_155 : decode cX12_pages 155 = .ok (.iload_n 1, 1) := by decide +kernel
theorem dX12_pages_156 : decode cX12_pages 156 = .ok (.iconst 1, 1) := by decide +kernel
theorem dX12_pages_157 : decode cX12_pages 157 = .ok (.invokevirtual 406, 3) := by decide +kernel
theorem dX12_pages_160 : decode cX12_pages 160 = .ok (.iastore, 1) := by decide +kernel
theorem dX12_pages_161 : decode cX12_pages 161 = .ok (.aload_n 0, 1) := by decide +kernel
theorem dX12_pages_162 : decode cX12_pages 162 = .ok (.getfield 392, 3) := by decide +kernel
theorem dX12_pages_165 : decode cX12_pages 165 = .ok (.ireturn, 1) := by decide +kernel
theorem dX12_pages_166 : decode cX12_pages 166 = .ok (.iconst 0, 1) := by decide +kernel
theorem dX12_pages_167 : decode cX12_pages 167 = .ok (.istore 4, 2) := by decide +kernel
theorem dX12_pages_169 : decode cX12_pages 169 = .ok (.iload 4, 2) := by decide +kernel
theorem dX12_pages_171 : decode cX12_pages 171 = .ok (.iconst 2, 1) := by decide +kernel
theorem dX12_pages_172 : decode cX12_pages 172 = .ok (.if_icmp .ge 67, 3) := by decide +kernel
theorem dX12_pages_175 : decode cX12_pages 175 = .ok (.aload_n 0, 1) := by decide +kernel
theorem dX12_pages_176 : decode cX12_pages 176 = .ok (.getfield 90, 3) := by decide +kernel
theorem dX12_pages_179 : decode cX12_pages 179 = .ok (.iload 4, 2) := by decide +kernel
theorem dX12_pages_181 : decode cX12_pages 181 = .ok (.aload_n 0, 1) := by decide +kernel
theorem dX12_pages_182 : decode cX12_pages 182 = .ok (.getfield 409, 3) := by decide +kernel
theorem dX12_pages_185 : decode cX12_pages 185 = .ok (.iastore, 1) := by decide +kernel
theorem dX12_pages_186 : decode cX12_pages 186 = .ok (.iconst 0, 1) := by decide +kernel
theorem dX12_pages_187 : decode cX12_pages 187 = .ok (.istore 5, 2) := by decide +kernel
theorem dX12_pages_189 : decode cX12_pages 189 = .ok (.iload 5, 2) := by decide +kernel
theorem dX12_pages_191 : decode cX12_pages 191 = .ok (.aload_n 0, 1) := by decide +kernel
theorem dX12_pages_192 : decode cX12_pages 192 = .ok (.getfield 409, 3) := by decide +kernel
theorem dX12_pages_195 : decode cX12_pages 195 = .ok (.if_icmp .ge 30, 3) := by decide +kernel
theorem dX12_pages_198 : decode cX12_pages 198 = .ok (.aload_n 0, 1) := by decide +kernel
theorem dX12_pages_199 : decode cX12_pages 199 = .ok (.getfield 87, 3) := by decide +kernel
theorem dX12_pages_202 : decode cX12_pages 202 = .ok (.sipush 900, 3) := by decide +kernel
theorem dX12_pages_205 : decode cX12_pages 205 = .ok (.iload 4, 2) := by decide +kernel
theorem dX12_pages_207 : decode cX12_pages 207 = .ok (.imul, 1) := by decide +kernel
theorem dX12_pages_208 : decode cX12_pages 208 = .ok (.iload 5, 2) := by decide +kernel
theorem dX12_pages_210 : decode cX12_pages 210 = .ok (.iadd, 1) := by decide +kernel
theorem dX12_pages_211 : decode cX12_pages 211 = .ok (.aload_n 0, 1) := by decide +kernel
theorem dX12_pages_212 : decode cX12_pages 212 = .ok (.getfield 96, 3) := by decide +kernel
theorem dX12_pages_215 : decode cX12_pages 215 = .ok (.iload 5, 2) := by decide +kernel
theorem dX12_pages_217 : decode cX12_pages 217 = .ok (.iaload, 1) := by decide +kernel
theorem dX12_pages_218 : decode cX12_pages 218 = .ok (.iastore, 1) := by decide +kernel
theorem dX12_pages_219 : decode cX12_pages 219 = .ok (.iinc 5 1, 3) := by decide +kernel
theorem dX12_pages_222 : decode cX12_pages 222 = .ok (.goto (-33), 3) := by decide +kernel
theorem dX12_pages_225 : decode cX12_pages 225 = .ok (.aload_n 0, 1) := by decide +kernel
theorem dX12_pages_226 : decode cX12_pages 226 = .ok (.getfield 93, 3) := by decide +kernel
theorem dX12_pages_229 : decode cX12_pages 229 = .ok (.iload 4, 2) := by decide +kernel
theorem dX12_pages_231 : decode cX12_pages 231 = .ok (.iconst 0, 1) := by decide +kernel
theorem dX12_pages_232 : decode cX12_pages 232 = .ok (.iastore, 1) := by decide +kernel
theorem dX12_pages_233 : decode cX12_pages 233 = .ok (.iinc 4 1, 3) := by decide +kernel
theorem dX12_pages_236 : decode cX12_pages 236 = .ok (.goto (-67), 3) := by decide +kernel
theorem dX12_pages_239 : decode cX12_pages 239 = .ok (.iconst 0, 1) := by decide +kernel
theorem dX12_pages_240 : decode cX12_pages 240 = .ok (.ireturn, 1) := by decide +kernel
theorem dX12_marksNothing_0 : decode cX12_marksNothing 0 = .ok (.aload_n 0, 1) := by decide +kernel
theorem dX12_marksNothing_1 : decode cX12_marksNothing 1 = .ok (.iconst 0, 1) := by decide +kernel
theorem dX12_marksNothing_2 : decode cX12_marksNothing 2 = .ok (.putfield 348, 3) := by decide +kernel
theorem dX12_marksNothing_5 : decode cX12_marksNothing 5 = .ok (.aload_n 0, 1) := by decide +kernel
theorem dX12_marksNothing_6 : decode cX12_marksNothing 6 = .ok (.iconst 0, 1) := by decide +kernel
theorem dX12_marksNothing_7 : decode cX12_marksNothing 7 = .ok (.putfield 409, 3) := by decide +kernel
theorem dX12_marksNothing_10 : decode cX12_marksNothing 10 = .ok (.return_, 1) := by decide +kernel
theorem dX12_page_0 : decode cX12_page 0 = .ok (.aload_n 0, 1) := by decide +kernel
theorem dX12_page_1 : decode cX12_page 1 = .ok (.aload_n 0, 1) := by decide +kernel
theorem dX12_page_2 : decode cX12_page 2 = .ok (.getfield 296, 3) := by decide +kernel
theorem dX12_page_5 : decode cX12_page 5 = .ok (.ifCond .ne 7, 3) := by decide +kernel
theorem dX12_page_8 : decode cX12_page 8 = .ok (.iconst 1, 1) := by decide +kernel
theorem dX12_page_9 : decode cX12_page 9 = .ok (.goto 20, 3) := by decide +kernel
theorem dX12_page_12 : decode cX12_page 12 = .ok (.iload_n 1, 1) := by decide +kernel
theorem dX12_page_13 : decode cX12_page 13 = .ok (.i2l, 1) := by decide +kernel
theorem dX12_page_14 : decode cX12_page 14 = .ok (.lconst 1, 1) := by decide +kernel
theorem dX12_page_15 : decode cX12_page 15 = .ok (.ldc2_w 412, 3) := by decide +kernel
theorem dX12_page_18 : decode cX12_page 18 = .ok (.invokestatic 159, 3) := by decide +kernel
theorem dX12_page_21 : decode cX12_page 21 = .ok (.ifCond .eq 7, 3) := by decide +kernel
theorem dX12_page_24 : decode cX12_page 24 = .ok (.iconst 0, 1) := by decide +kernel
theorem dX12_page_25 : decode cX12_page 25 = .ok (.goto 4, 3) := by decide +kernel
theorem dX12_page_28 : decode cX12_page 28 = .ok (.iconst 2, 1) := by decide +kernel
theorem dX12_page_29 : decode cX12_page 29 = .ok (.invokevirtual 256, 3) := by decide +kernel
theorem dX12_page_32 : decode cX12_page 32 = .ok (.ifCond .eq 5, 3) := by decide +kernel
theorem dX12_page_35 : decode cX12_page 35 = .ok (.iconst (-1), 1) := by decide +kernel
theorem dX12_page_36 : decode cX12_page 36 = .ok (.ireturn, 1) := by decide +kernel
theorem dX12_page_37 : decode cX12_page 37 = .ok (.aload_n 0, 1) := by decide +kernel
theorem dX12_page_38 : decode cX12_page 38 = .ok (.invokevirtual 414, 3) := by decide +kernel
theorem dX12_page_41 : decode cX12_page 41 = .ok (.aload_n 0, 1) := by decide +kernel
theorem dX12_page_42 : decode cX12_page 42 = .ok (.aload_n 0, 1) := by decide +kernel
theorem dX12_page_43 : decode cX12_page 43 = .ok (.getfield 277, 3) := by decide +kernel
theorem dX12_page_46 : decode cX12_page 46 = .ok (.iload_n 1, 1) := by decide +kernel
theorem dX12_page_47 : decode cX12_page 47 = .ok (.iconst 0, 1) := by decide +kernel
theorem dX12_page_48 : decode cX12_page 48 = .ok (.invokevirtual 417, 3) := by decide +kernel
theorem dX12_page_51 : decode cX12_page 51 = .ok (.aload_n 0, 1) := by decide +kernel
theorem dX12_page_52 : decode cX12_page 52 = .ok (.aload_n 0, 1) := by decide +kernel
theorem dX12_page_53 : decode cX12_page 53 = .ok (.getfield 277, 3) := by decide +kernel
theorem dX12_page_56 : decode cX12_page 56 = .ok (.iload_n 1, 1) := by decide +kernel
theorem dX12_page_57 : decode cX12_page 57 = .ok (.iload_n 2, 1) := by decide +kernel
theorem dX12_page_58 : decode cX12_page 58 = .ok (.invokevirtual 421, 3) := by decide +kernel
theorem dX12_page_61 : decode cX12_page 61 = .ok (.ireturn, 1) := by decide +kernel
theorem dX12_checkOf_0 : decode cX12_checkOf 0 = .ok (.bipush 7, 2) := by decide +kernel
theorem dX12_checkOf_2 : decode cX12_checkOf 2 = .ok (.istore_n 2, 1) := by decide +kernel
theorem dX12_checkOf_3 : decode cX12_checkOf 3 = .ok (.iconst 0, 1) := by decide +kernel
theorem dX12_checkOf_4 : decode cX12_checkOf 4 = .ok (.istore_n 3, 1) := by decide +kernel
theorem dX12_checkOf_5 : decode cX12_checkOf 5 = .ok (.iload_n 3, 1) := by decide +kernel
theorem dX12_checkOf_6 : decode cX12_checkOf 6 = .ok (.iload_n 1, 1) := by decide +kernel
theorem dX12_checkOf_7 : decode cX12_checkOf 7 = .ok (.iconst 1, 1) := by decide +kernel
theorem dX12_checkOf_8 : decode cX12_checkOf 8 = .ok (.isub, 1) := by decide +kernel
theorem dX12_checkOf_9 : decode cX12_checkOf 9 = .ok (.if_icmp .ge 25, 3) := by decide +kernel
theorem dX12_checkOf_12 : decode cX12_checkOf 12 = .ok (.bipush 31, 2) := by decide +kernel
theorem dX12_checkOf_14 : decode cX12_checkOf 14 = .ok (.iload_n 2, 1) := by decide +kernel
theorem dX12_checkOf_15 : decode cX12_checkOf 15 = .ok (.imul, 1) := by decide +kernel
theorem dX12_checkOf_16 : decode cX12_checkOf 16 = .ok (.aload_n 0, 1) := by decide +kernel
theorem dX12_checkOf_17 : decode cX12_checkOf 17 = .ok (.getfield 15, 3) := by decide +kernel
theorem dX12_checkOf_20 : decode cX12_checkOf 20 = .ok (.iload_n 3, 1) := by decide +kernel
theorem dX12_checkOf_21 : decode cX12_checkOf 21 = .ok (.iaload, 1) := by decide +kernel
theorem dX12_checkOf_22 : decode cX12_checkOf 22 = .ok (.iadd, 1) := by decide +kernel
theorem dX12_checkOf_23 : decode cX12_checkOf 23 = .ok (.sipush 251, 3) := by decide +kernel
theorem dX12_checkOf_26 : decode cX12_checkOf 26 = .ok (.irem, 1) := by decide +kernel
theorem dX12_checkOf_27 : decode cX12_checkOf 27 = .ok (.istore_n 2, 1) := by decide +kernel
theorem dX12_checkOf_28 : decode cX12_checkOf 28 = .ok (.iinc 3 1, 3) := by decide +kernel
theorem dX12_checkOf_31 : decode cX12_checkOf 31 = .ok (.goto (-26), 3) := by decide +kernel
theorem dX12_checkOf_34 : decode cX12_checkOf 34 = .ok (.iload_n 2, 1) := by decide +kernel
theorem dX12_checkOf_35 : decode cX12_checkOf 35 = .ok (.ireturn, 1) := by decide +kernel
theorem dX12_wrongToken_0 : decode cX12_wrongToken 0 = .ok (.iload_n 1, 1) := by decide +kernel
theorem dX12_wrongToken_1 : decode cX12_wrongToken 1 = .ok (.bipush 8, 2) := by decide +kernel
theorem dX12_wrongToken_3 : decode cX12_wrongToken 3 = .ok (.if_icmp .lt 47, 3) := by decide +kernel
theorem dX12_wrongToken_6 : decode cX12_wrongToken 6 = .ok (.aload_n 0, 1) := by decide +kernel
theorem dX12_wrongToken_7 : decode cX12_wrongToken 7 = .ok (.getfield 15, 3) := by decide +kernel
theorem dX12_wrongToken_10 : decode cX12_wrongToken 10 = .ok (.iconst 0, 1) := by decide +kernel
theorem dX12_wrongToken_11 : decode cX12_wrongToken 11 = .ok (.iaload, 1) := by decide +kernel
theorem dX12_wrongToken_12 : decode cX12_wrongToken 12 = .ok (.bipush 84, 2) := by decide +kernel
theorem dX12_wrongToken_14 : decode cX12_wrongToken 14 = .ok (.if_icmp .ne 36, 3) := by decide +kernel
theorem dX12_wrongToken_17 : decode cX12_wrongToken 17 = .ok (.aload_n 0, 1) := by decide +kernel
theorem dX12_wrongToken_18 : decode cX12_wrongToken 18 = .ok (.getfield 15, 3) := by decide +kernel
theorem dX12_wrongToken_21 : decode cX12_wrongToken 21 = .ok (.iload_n 1, 1) := by decide +kernel
theorem dX12_wrongToken_22 : decode cX12_wrongToken 22 = .ok (.iconst 1, 1) := by decide +kernel
theorem dX12_wrongToken_23 : decode cX12_wrongToken 23 = .ok (.isub, 1) := by decide +kernel
theorem dX12_wrongToken_24 : decode cX12_wrongToken 24 = .ok (.iaload, 1) := by decide +kernel
theorem dX12_wrongToken_25 : decode cX12_wrongToken 25 = .ok (.aload_n 0, 1) := by decide +kernel
theorem dX12_wrongToken_26 : decode cX12_wrongToken 26 = .ok (.iload_n 1, 1) := by decide +kernel
theorem dX12_wrongToken_27 : decode cX12_wrongToken 27 = .ok (.invokevirtual 425, 3) := by decide +kernel
theorem dX12_wrongToken_30 : decode cX12_wrongToken 30 = .ok (.if_icmp .ne 20, 3) := by decide +kernel
theorem dX12_wrongToken_33 : decode cX12_wrongToken 33 = .ok (.aload_n 0, 1) := by decide +kernel
theorem dX12_wrongToken_34 : decode cX12_wrongToken 34 = .ok (.getfield 15, 3) := by decide +kernel
theorem dX12_wrongToken_37 : decode cX12_wrongToken 37 = .ok (.iconst 2, 1) := by decide +kernel
theorem dX12_wrongToken_38 : decode cX12_wrongToken 38 = .ok (.iaload, 1) := by decide +kernel
theorem dX12_wrongToken_39 : decode cX12_wrongToken 39 = .ok (.i2l, 1) := by decide +kernel
theorem dX12_wrongToken_40 : decode cX12_wrongToken 40 = .ok (.lconst 1, 1) := by decide +kernel
theorem dX12_wrongToken_41 : decode cX12_wrongToken 41 = .ok (.ldc2_w 412, 3) := by decide +kernel
theorem dX12_wrongToken_44 : decode cX12_wrongToken 44 = .ok (.invokestatic 159, 3) := by decide +kernel
theorem dX12_wrongToken_47 : decode cX12_wrongToken 47 = .ok (.ifCond .ne 6, 3) := by decide +kernel
theorem dX12_wrongToken_50 : decode cX12_wrongToken 50 = .ok (.bipush 6, 2) := by decide +kernel
theorem dX12_wrongToken_52 : decode cX12_wrongToken 52 = .ok (.ireturn, 1) := by decide +kernel
theorem dX12_wrongToken_53 : decode cX12_wrongToken 53 = .ok (.aload_n 0, 1) := by decide +kernel
theorem dX12_wrongToken_54 : decode cX12_wrongToken 54 = .ok (.getfield 15, 3) := by decide +kernel
theorem dX12_wrongToken_57 : decode cX12_wrongToken 57 = .ok (.iconst 1, 1) := by decide +kernel
theorem dX12_wrongToken_58 : decode cX12_wrongToken 58 = .ok (.iaload, 1) := by decide +kernel
theorem dX12_wrongToken_59 : decode cX12_wrongToken 59 = .ok (.aload_n 0, 1) := by decide +kernel
theorem dX12_wrongToken_60 : decode cX12_wrongToken 60 = .ok (.getfield 280, 3) := by decide +kernel
theorem dX12_wrongToken_63 : decode cX12_wrongToken 63 = .ok (.sipush 256, 3) := by decide +kernel
theorem dX12_wrongToken_66 : decode cX12_wrongToken 66 = .ok (.irem, 1) := by decide +kernel
theorem dX12_wrongToken_67 : decode cX12_wrongToken 67 = .ok (.if_icmp .eq 6, 3) := by decide +kernel
theorem dX12_wrongToken_70 : decode cX12_wrongToken 70 = .ok (.bipush 7, 2) := by decide +kernel
theorem dX12_wrongToken_72 : decode cX12_wrongToken 72 = .ok (.ireturn, 1) := by decide +kernel
theorem dX12_wrongToken_73 : decode cX12_wrongToken 73 = .ok (.sipush 256, 3) := by decide +kernel
theorem dX12_wrongToken_76 : decode cX12_wrongToken 76 = .ok (.aload_n 0, 1) := by decide +kernel
theorem dX12_wrongToken_77 : decode cX12_wrongToken 77 = .ok (.getfield 15, 3) := by decide +kernel
theorem dX12_wrongToken_80 : decode cX12_wrongToken 80 = .ok (.iconst 3, 1) := by decide +kernel
theorem dX12_wrongToken_81 : decode cX12_wrongToken 81 = .ok (.iaload, 1) := by decide +kernel
theorem dX12_wrongToken_82 : decode cX12_wrongToken 82 = .ok (.imul, 1) := by decide +kernel
theorem dX12_wrongToken_83 : decode cX12_wrongToken 83 = .ok (.aload_n 0, 1) := by decide +kernel
theorem dX12_wrongToken_84 : decode cX12_wrongToken 84 = .ok (.getfield 15, 3) := by decide +kernel
theorem dX12_wrongToken_87 : decode cX12_wrongToken 87 = .ok (.iconst 4, 1) := by decide +kernel
theorem dX12_wrongToken_88 : decode cX12_wrongToken 88 = .ok (.iaload, 1) := by decide +kernel
theorem dX12_wrongToken_89 : decode cX12_wrongToken 89 = .ok (.iadd, 1) := by decide +kernel
theorem dX12_wrongToken_90 : decode cX12_wrongToken 90 = .ok (.istore_n 2, 1) := by decide +kernel
theorem dX12_wrongToken_91 : decode cX12_wrongToken 91 = .ok (.iload_n 2, 1) := by decide +kernel
theorem dX12_wrongToken_92 : decode cX12_wrongToken 92 = .ok (.ifCond .le 18, 3) := by decide +kernel
theorem dX12_wrongToken_95 : decode cX12_wrongToken 95 = .ok (.aload_n 0, 1) := by decide +kernel
theorem dX12_wrongToken_96 : decode cX12_wrongToken 96 = .ok (.iload_n 2, 1) := by decide +kernel
theorem dX12_wrongToken_97 : decode cX12_wrongToken 97 = .ok (.iconst 1, 1) := by decide +kernel
theorem dX12_wrongToken_98 : decode cX12_wrongToken 98 = .ok (.isub, 1) := by decide +kernel
theorem dX12_wrongToken_99 : decode cX12_wrongToken 99 = .ok (.invokevirtual 331, 3) := by decide +kernel
theorem dX12_wrongToken_102 : decode cX12_wrongToken 102 = .ok (.ifCond .ne 8, 3) := by decide +kernel
theorem dX12_wrongToken_105 : decode cX12_wrongToken 105 = .ok (.bipush 8, 2) := by decide +kernel
theorem dX12_wrongToken_107 : decode cX12_wrongToken 107 = .ok (.goto 4, 3) := by decide +kernel
theorem dX12_wrongToken_110 : decode cX12_wrongToken 110 = .ok (.iconst 0, 1) := by decide +kernel
theorem dX12_wrongToken_111 : decode cX12_wrongToken 111 = .ok (.ireturn, 1) := by decide +kernel
theorem dX12_goesBy_0 : decode cX12_goesBy 0 = .ok (.aload_n 0, 1) := by decide +kernel
theorem dX12_goesBy_1 : decode cX12_goesBy 1 = .ok (.aload_n 0, 1) := by decide +kernel
theorem dX12_goesBy_2 : decode cX12_goesBy 2 = .ok (.getfield 296, 3) := by decide +kernel
theorem dX12_goesBy_5 : decode cX12_goesBy 5 = .ok (.ifCond .ne 7, 3) := by decide +kernel
theorem dX12_goesBy_8 : decode cX12_goesBy 8 = .ok (.iconst 1, 1) := by decide +kernel
theorem dX12_goesBy_9 : decode cX12_goesBy 9 = .ok (.goto 22, 3) := by decide +kernel
theorem dX12_goesBy_12 : decode cX12_goesBy 12 = .ok (.iload_n 1, 1) := by decide +kernel
theorem dX12_goesBy_13 : decode cX12_goesBy 13 = .ok (.i2l, 1) := by decide +kernel
theorem dX12_goesBy_14 : decode cX12_goesBy 14 = .ok (.lconst 0, 1) := by decide +kernel
theorem dX12_goesBy_15 : decode cX12_goesBy 15 = .ok (.aload_n 0, 1) := by decide +kernel
theorem dX12_goesBy_16 : decode cX12_goesBy 16 = .ok (.getfield 132, 3) := by decide +kernel
theorem dX12_goesBy_19 : decode cX12_goesBy 19 = .ok (.i2l, 1) := by decide +kernel
theorem dX12_goesBy_20 : decode cX12_goesBy 20 = .ok (.invokestatic 159, 3) := by decide +kernel
theorem dX12_goesBy_23 : decode cX12_goesBy 23 = .ok (.ifCond .eq 7, 3) := by decide +kernel
theorem dX12_goesBy_26 : decode cX12_goesBy 26 = .ok (.iconst 0, 1) := by decide +kernel
theorem dX12_goesBy_27 : decode cX12_goesBy 27 = .ok (.goto 4, 3) := by decide +kernel
theorem dX12_goesBy_30 : decode cX12_goesBy 30 = .ok (.iconst 2, 1) := by decide +kernel
theorem dX12_goesBy_31 : decode cX12_goesBy 31 = .ok (.invokevirtual 256, 3) := by decide +kernel
theorem dX12_goesBy_34 : decode cX12_goesBy 34 = .ok (.ifCond .eq 5, 3) := by decide +kernel
theorem dX12_goesBy_37 : decode cX12_goesBy 37 = .ok (.iconst (-1), 1) := by decide +kernel
theorem dX12_goesBy_38 : decode cX12_goesBy 38 = .ok (.ireturn, 1) := by decide +kernel
theorem dX12_goesBy_39 : decode cX12_goesBy 39 = .ok (.aload_n 0, 1) := by decide +kernel
theorem dX12_goesBy_40 : decode cX12_goesBy 40 = .ok (.iconst 0, 1) := by decide +kernel
theorem dX12_goesBy_41 : decode cX12_goesBy 41 = .ok (.putfield 132, 3) := by decide +kernel
theorem dX12_goesBy_44 : decode cX12_goesBy 44 = .ok (.aload_n 0, 1) := by decide +kernel
theorem dX12_goesBy_45 : decode cX12_goesBy 45 = .ok (.iload_n 1, 1) := by decide +kernel
theorem dX12_goesBy_46 : decode cX12_goesBy 46 = .ok (.invokevirtual 428, 3) := by decide +kernel
theorem dX12_goesBy_49 : decode cX12_goesBy 49 = .ok (.istore_n 3, 1) := by decide +kernel
theorem dX12_goesBy_50 : decode cX12_goesBy 50 = .ok (.iload_n 3, 1) := by decide +kernel
theorem dX12_goesBy_51 : decode cX12_goesBy 51 = .ok (.ifCond .eq 9, 3) := by decide +kernel
theorem dX12_goesBy_54 : decode cX12_goesBy 54 = .ok (.aload_n 0, 1) := by decide +kernel
theorem dX12_goesBy_55 : decode cX12_goesBy 55 = .ok (.iload_n 3, 1) := by decide +kernel
theorem dX12_goesBy_56 : decode cX12_goesBy 56 = .ok (.invokevirtual 265, 3) := by decide +kernel
theorem dX12_goesBy_59 : decode cX12_goesBy 59 = .ok (.ireturn, 1) := by decide +kernel
theorem dX12_goesBy_60 : decode cX12_goesBy 60 = .ok (.sipush 256, 3) := by decide +kernel
theorem dX12_goesBy_63 : decode cX12_goesBy 63 = .ok (.aload_n 0, 1) := by decide +kernel
theorem dX12_goesBy_64 : decode cX12_goesBy 64 = .ok (.getfield 15, 3) := by decide +kernel
theorem dX12_goesBy_67 : decode cX12_goesBy 67 = .ok (.iconst 3, 1) := by decide +kernel
theorem dX12_goesBy_68 : decode cX12_goesBy 68 = .ok (.iaload, 1) := by decide +kernel
theorem dX12_goesBy_69 : decode cX12_goesBy 69 = .ok (.imul, 1) := by decide +kernel
theorem dX12_goesBy_70 : decode cX12_goesBy 70 = .ok (.aload_n 0, 1) := by decide +kernel
theorem dX12_goesBy_71 : decode cX12_goesBy 71 = .ok (.getfield 15, 3) := by decide +kernel
theorem dX12_goesBy_74 : decode cX12_goesBy 74 = .ok (.iconst 4, 1) := by decide +kernel
theorem dX12_goesBy_75 : decode cX12_goesBy 75 = .ok (.iaload, 1) := by decide +kernel
theorem dX12_goesBy_76 : decode cX12_goesBy 76 = .ok (.iadd, 1) := by decide +kernel
theorem dX12_goesBy_77 : decode cX12_goesBy 77 = .ok (.istore 4, 2) := by decide +kernel
theorem dX12_goesBy_79 : decode cX12_goesBy 79 = .ok (.iload 4, 2) := by decide +kernel
theorem dX12_goesBy_81 : decode cX12_goesBy 81 = .ok (.ifCond .ne 10, 3) := by decide +kernel
theorem dX12_goesBy_84 : decode cX12_goesBy 84 = .ok (.aload_n 0, 1) := by decide +kernel
theorem dX12_goesBy_85 : decode cX12_goesBy 85 = .ok (.getfield 277, 3) := by decide +kernel
theorem dX12_goesBy_88 : decode cX12_goesBy 88 = .ok (.goto 7, 3) := by decide +kernel
theorem dX12_goesBy_91 : decode cX12_goesBy 91 = .ok (.iload 4, 2) := by decide +kernel
theorem dX12_goesBy_93 : decode cX12_goesBy 93 = .ok (.iconst 1, 1) := by decide +kernel
theorem dX12_goesBy_94 : decode cX12_goesBy 94 = .ok (.isub, 1) := by decide +kernel
theorem dX12_goesBy_95 : decode cX12_goesBy 95 = .ok (.istore 5, 2) := by decide +kernel
theorem dX12_goesBy_97 : decode cX12_goesBy 97 = .ok (.aload_n 0, 1) := by decide +kernel
theorem dX12_goesBy_98 : decode cX12_goesBy 98 = .ok (.iload_n 1, 1) := by decide +kernel
theorem dX12_goesBy_99 : decode cX12_goesBy 99 = .ok (.invokevirtual 431, 3) := by decide +kernel
theorem dX12_goesBy_102 : decode cX12_goesBy 102 = .ok (.aload_n 0, 1) := by decide +kernel
theorem dX12_goesBy_103 : decode cX12_goesBy 103 = .ok (.iload 5, 2) := by decide +kernel
theorem dX12_goesBy_105 : decode cX12_goesBy 105 = .ok (.aload_n 0, 1) := by decide +kernel
theorem dX12_goesBy_106 : decode cX12_goesBy 106 = .ok (.getfield 15, 3) := by decide +kernel
theorem dX12_goesBy_109 : decode cX12_goesBy 109 = .ok (.iconst 2, 1) := by decide +kernel
theorem dX12_goesBy_110 : decode cX12_goesBy 110 = .ok (.iaload, 1) := by decide +kernel
theorem dX12_goesBy_111 : decode cX12_goesBy 111 = .ok (.iload_n 2, 1) := by decide +kernel
theorem dX12_goesBy_112 : decode cX12_goesBy 112 = .ok (.invokevirtual 417, 3) := by decide +kernel
theorem dX12_goesBy_115 : decode cX12_goesBy 115 = .ok (.aload_n 0, 1) := by decide +kernel
theorem dX12_goesBy_116 : decode cX12_goesBy 116 = .ok (.iload 5, 2) := by decide +kernel
theorem dX12_goesBy_118 : decode cX12_goesBy 118 = .ok (.aload_n 0, 1) := by decide +kernel
theorem dX12_goesBy_119 : decode cX12_goesBy 119 = .ok (.getfield 15, 3) := by decide +kernel
theorem dX12_goesBy_122 : decode cX12_goesBy 122 = .ok (.iconst 2, 1) := by decide +kernel
theorem dX12_goesBy_123 : decode cX12_goesBy 123 = .ok (.iaload, 1) := by decide +kernel
theorem dX12_goesBy_124 : decode cX12_goesBy 124 = .ok (.iload 4, 2) := by decide +kernel
theorem dX12_goesBy_126 : decode cX12_goesBy 126 = .ok (.ifCond .le 7, 3) := by decide +kernel
theorem dX12_goesBy_129 : decode cX12_goesBy 129 = .ok (.iconst 1, 1) := by decide +kernel
theorem dX12_goesBy_130 : decode cX12_goesBy 130 = .ok (.goto 4, 3) := by decide +kernel
theorem dX12_goesBy_133 : decode cX12_goesBy 133 = .ok (.iconst 0, 1) := by decide +kernel
theorem dX12_goesBy_134 : decode cX12_goesBy 134 = .ok (.invokevirtual 421, 3) := by decide +kernel
theorem dX12_goesBy_137 : decode cX12_goesBy 137 = .ok (.istore 6, 2) := by decide +kernel
theorem dX12_goesBy_139 : decode cX12_goesBy 139 = .ok (.iload 6, 2) := by decide +kernel
theorem dX12_goesBy_141 : decode cX12_goesBy 141 = .ok (.ifCond .ne 34, 3) := by decide +kernel
theorem dX12_goesBy_144 : decode cX12_goesBy 144 = .ok (.aload_n 0, 1) := by decide +kernel
theorem dX12_goesBy_145 : decode cX12_goesBy 145 = .ok (.iload_n 1, 1) := by decide +kernel
theorem dX12_goesBy_146 : decode cX12_goesBy 146 = .ok (.invokevirtual 431, 3) := by decide +kernel
theorem dX12_goesBy_149 : decode cX12_goesBy 149 = .ok (.aload_n 0, 1) := by decide +kernel
theorem dX12_goesBy_150 : decode cX12_goesBy 150 = .ok (.getfield 93, 3) := by decide +kernel
theorem dX12_goesBy_153 : decode cX12_goesBy 153 = .ok (.iconst 0, 1) := by decide +kernel
theorem dX12_goesBy_154 : decode cX12_goesBy 154 = .ok (.aload_n 0, 1) := by decide +kernel
theorem dX12_goesBy_155 : decode cX12_goesBy 155 = .ok (.iload 5, 2) := by decide +kernel
theorem dX12_goesBy_157 : decode cX12_goesBy 157 = .ok (.iconst 0, 1) := by decide +kernel
theorem dX12_goesBy_158 : decode cX12_goesBy 158 = .ok (.invokevirtual 406, 3) := by decide +kernel
theorem dX12_goesBy_161 : decode cX12_goesBy 161 = .ok (.iastore, 1) := by decide +kernel
theorem dX12_goesBy_162 : decode cX12_goesBy 162 = .ok (.aload_n 0, 1) := by decide +kernel
theorem dX12_goesBy_163 : decode cX12_goesBy 163 = .ok (.getfield 93, 3) := by decide +kernel
theorem dX12_goesBy_166 : decode cX12_goesBy 166 = .ok (.iconst 1, 1) := by decide +kernel
theorem dX12_goesBy_167 : decode cX12_goesBy 167 = .ok (.aload_n 0, 1) := by decide +kernel
theorem dX12_goesBy_168 : decode cX12_goesBy 168 = .ok (.iload 5, 2) := by decide +kernel
theorem dX12_goesBy_170 : decode cX12_goesBy 170 = .ok (.iconst 1, 1) := by decide +kernel
theorem dX12_goesBy_171 : decode cX12_goesBy 171 = .ok (.invokevirtual 406, 3) := by decide +kernel
theorem dX12_goesBy_174 : decode cX12_goesBy 174 = .ok (.iastore, 1) := by decide +kernel
theorem dX12_goesBy_175 : decode cX12_goesBy 175 = .ok (.iload 6, 2) := by decide +kernel
theorem dX12_goesBy_177 : decode cX12_goesBy 177 = .ok (.ireturn, 1) := by decide +kernel
theorem dX12_laysAsked_0 : decode cX12_laysAsked 0 = .ok (.aload_n 0, 1) := by decide +kernel
theorem dX12_laysAsked_1 : decode cX12_laysAsked 1 = .ok (.iload_n 1, 1) := by decide +kernel
theorem dX12_laysAsked_2 : decode cX12_laysAsked 2 = .ok (.putfield 409, 3) := by decide +kernel
theorem dX12_laysAsked_5 : decode cX12_laysAsked 5 = .ok (.iconst 0, 1) := by decide +kernel
theorem dX12_laysAsked_6 : decode cX12_laysAsked 6 = .ok (.istore_n 2, 1) := by decide +kernel
theorem dX12_laysAsked_7 : decode cX12_laysAsked 7 = .ok (.iload_n 2, 1) := by decide +kernel
theorem dX12_laysAsked_8 : decode cX12_laysAsked 8 = .ok (.iload_n 1, 1) := by decide +kernel
theorem dX12_laysAsked_9 : decode cX12_laysAsked 9 = .ok (.if_icmp .ge 21, 3) := by decide +kernel
theorem dX12_laysAsked_12 : decode cX12_laysAsked 12 = .ok (.aload_n 0, 1) := by decide +kernel
theorem dX12_laysAsked_13 : decode cX12_laysAsked 13 = .ok (.getfield 96, 3) := by decide +kernel
theorem dX12_laysAsked_16 : decode cX12_laysAsked 16 = .ok (.iload_n 2, 1) := by decide +kernel
theorem dX12_laysAsked_17 : decode cX12_laysAsked 17 = .ok (.aload_n 0, 1) := by decide +kernel
theorem dX12_laysAsked_18 : decode cX12_laysAsked 18 = .ok (.getfield 15, 3) := by decide +kernel
theorem dX12_laysAsked_21 : decode cX12_laysAsked 21 = .ok (.iload_n 2, 1) := by decide +kernel
theorem dX12_laysAsked_22 : decode cX12_laysAsked 22 = .ok (.iaload, 1) := by decide +kernel
theorem dX12_laysAsked_23 : decode cX12_laysAsked 23 = .ok (.iastore, 1) := by decide +kernel
theorem dX12_laysAsked_24 : decode cX12_laysAsked 24 = .ok (.iinc 2 1, 3) := by decide +kernel
theorem dX12_laysAsked_27 : decode cX12_laysAsked 27 = .ok (.goto (-20), 3) := by decide +kernel
theorem dX12_laysAsked_30 : decode cX12_laysAsked 30 = .ok (.aload_n 0, 1) := by decide +kernel
theorem dX12_laysAsked_31 : decode cX12_laysAsked 31 = .ok (.iload_n 1, 1) := by decide +kernel
theorem dX12_laysAsked_32 : decode cX12_laysAsked 32 = .ok (.bipush 6, 2) := by decide +kernel
theorem dX12_laysAsked_34 : decode cX12_laysAsked 34 = .ok (.isub, 1) := by decide +kernel
theorem dX12_laysAsked_35 : decode cX12_laysAsked 35 = .ok (.bipush 42, 2) := by decide +kernel
theorem dX12_laysAsked_37 : decode cX12_laysAsked 37 = .ok (.if_icmp .ge 10, 3) := by decide +kernel
theorem dX12_laysAsked_40 : decode cX12_laysAsked 40 = .ok (.iload_n 1, 1) := by decide +kernel
theorem dX12_laysAsked_41 : decode cX12_laysAsked 41 = .ok (.bipush 6, 2) := by decide +kernel
theorem dX12_laysAsked_43 : decode cX12_laysAsked 43 = .ok (.isub, 1) := by decide +kernel
theorem dX12_laysAsked_44 : decode cX12_laysAsked 44 = .ok (.goto 5, 3) := by decide +kernel
theorem dX12_laysAsked_47 : decode cX12_laysAsked 47 = .ok (.bipush 42, 2) := by decide +kernel
theorem dX12_laysAsked_49 : decode cX12_laysAsked 49 = .ok (.putfield 348, 3) := by decide +kernel
theorem dX12_laysAsked_52 : decode cX12_laysAsked 52 = .ok (.iconst 0, 1) := by decide +kernel
theorem dX12_laysAsked_53 : decode cX12_laysAsked 53 = .ok (.istore_n 2, 1) := by decide +kernel
theorem dX12_laysAsked_54 : decode cX12_laysAsked 54 = .ok (.iload_n 2, 1) := by decide +kernel
theorem dX12_laysAsked_55 : decode cX12_laysAsked 55 = .ok (.aload_n 0, 1) := by decide +kernel
theorem dX12_laysAsked_56 : decode cX12_laysAsked 56 = .ok (.getfield 348, 3) := by decide +kernel
theorem dX12_laysAsked_59 : decode cX12_laysAsked 59 = .ok (.if_icmp .ge 23, 3) := by decide +kernel
theorem dX12_laysAsked_62 : decode cX12_laysAsked 62 = .ok (.aload_n 0, 1) := by decide +kernel
theorem dX12_laysAsked_63 : decode cX12_laysAsked 63 = .ok (.getfield 63, 3) := by decide +kernel
theorem dX12_laysAsked_66 : decode cX12_laysAsked 66 = .ok (.iload_n 2, 1) := by decide +kernel
theorem dX12_laysAsked_67 : decode cX12_laysAsked 67 = .ok (.aload_n 0, 1) := by decide +kernel
theorem dX12_laysAsked_68 : decode cX12_laysAsked 68 = .ok (.getfield 15, 3) := by decide +kernel
theorem dX12_laysAsked_71 : decode cX12_laysAsked 71 = .ok (.iconst 5, 1) := by decide +kernel
theorem dX12_laysAsked_72 : decode cX12_laysAsked 72 = .ok (.iload_n 2, 1) := by decide +kernel
theorem dX12_laysAsked_73 : decode cX12_laysAsked 73 = .ok (.iadd, 1) := by decide +kernel
theorem dX12_laysAsked_74 : decode cX12_laysAsked 74 = .ok (.iaload, 1) := by decide +kernel
theorem dX12_laysAsked_75 : decode cX12_laysAsked 75 = .ok (.iastore, 1) := by decide +kernel
theorem dX12_laysAsked_76 : decode cX12_laysAsked 76 = .ok (.iinc 2 1, 3) := by decide +kernel
theorem dX12_laysAsked_79 : decode cX12_laysAsked 79 = .ok (.goto (-25), 3) := by decide +kernel
theorem dX12_laysAsked_82 : decode cX12_laysAsked 82 = .ok (.return_, 1) := by decide +kernel
theorem dX12_next_0 : decode cX12_next 0 = .ok (.aload_n 0, 1) := by decide +kernel
theorem dX12_next_1 : decode cX12_next 1 = .ok (.iload_n 1, 1) := by decide +kernel
theorem dX12_next_2 : decode cX12_next 2 = .ok (.iconst 0, 1) := by decide +kernel
theorem dX12_next_3 : decode cX12_next 3 = .ok (.invokevirtual 434, 3) := by decide +kernel
theorem dX12_next_6 : decode cX12_next 6 = .ok (.ireturn, 1) := by decide +kernel
theorem dX12_previous_0 : decode cX12_previous 0 = .ok (.aload_n 0, 1) := by decide +kernel
theorem dX12_previous_1 : decode cX12_previous 1 = .ok (.iload_n 1, 1) := by decide +kernel
theorem dX12_previous_2 : decode cX12_previous 2 = .ok (.iconst 1, 1) := by decide +kernel
theorem dX12_previous_3 : decode cX12_previous 3 = .ok (.invokevirtual 434, 3) := by decide +kernel
theorem dX12_previous_6 : decode cX12_previous 6 = .ok (.ireturn, 1) := by decide +kernel
theorem dX12_seek_0 : decode cX12_seek 0 = .ok (.aload_n 0, 1) := by decide +kernel
theorem dX12_seek_1 : decode cX12_seek 1 = .ok (.aload_n 0, 1) := by decide +kernel
theorem dX12_seek_2 : decode cX12_seek 2 = .ok (.getfield 296, 3) := by decide +kernel
theorem dX12_seek_5 : decode cX12_seek 5 = .ok (.ifCond .ne 7, 3) := by decide +kernel
theorem dX12_seek_8 : decode cX12_seek 8 = .ok (.iconst 1, 1) := by decide +kernel
theorem dX12_seek_9 : decode cX12_seek 9 = .ok (.goto 35, 3) := by decide +kernel
theorem dX12_seek_12 : decode cX12_seek 12 = .ok (.iload_n 1, 1) := by decide +kernel
theorem dX12_seek_13 : decode cX12_seek 13 = .ok (.i2l, 1) := by decide +kernel
theorem dX12_seek_14 : decode cX12_seek 14 = .ok (.lconst 1, 1) := by decide +kernel
theorem dX12_seek_15 : decode cX12_seek 15 = .ok (.ldc2_w 412, 3) := by decide +kernel
theorem dX12_seek_18 : decode cX12_seek 18 = .ok (.invokestatic 159, 3) := by decide +kernel
theorem dX12_seek_21 : decode cX12_seek 21 = .ok (.ifCond .eq 22, 3) := by decide +kernel
theorem dX12_seek_24 : decode cX12_seek 24 = .ok (.aload_n 0, 1) := by decide +kernel
theorem dX12_seek_25 : decode cX12_seek 25 = .ok (.aload_n 0, 1) := by decide +kernel
theorem dX12_seek_26 : decode cX12_seek 26 = .ok (.getfield 23, 3) := by decide +kernel
theorem dX12_seek_29 : decode cX12_seek 29 = .ok (.iconst 0, 1) := by decide +kernel
theorem dX12_seek_30 : decode cX12_seek 30 = .ok (.iaload, 1) := by decide +kernel
theorem dX12_seek_31 : decode cX12_seek 31 = .ok (.lload_n 2, 1) := by decide +kernel
theorem dX12_seek_32 : decode cX12_seek 32 = .ok (.iconst 1, 1) := by decide +kernel
theorem dX12_seek_33 : decode cX12_seek 33 = .ok (.invokevirtual 378, 3) := by decide +kernel
theorem dX12_seek_36 : decode cX12_seek 36 = .ok (.ifCond .eq 7, 3) := by decide +kernel
theorem dX12_seek_39 : decode cX12_seek 39 = .ok (.iconst 0, 1) := by decide +kernel
theorem dX12_seek_40 : decode cX12_seek 40 = .ok (.goto 4, 3) := by decide +kernel
theorem dX12_seek_43 : decode cX12_seek 43 = .ok (.iconst 2, 1) := by decide +kernel
theorem dX12_seek_44 : decode cX12_seek 44 = .ok (.invokevirtual 256, 3) := by decide +kernel
theorem dX12_seek_47 : decode cX12_seek 47 = .ok (.ifCond .eq 5, 3) := by decide +kernel
theorem dX12_seek_50 : decode cX12_seek 50 = .ok (.iconst (-1), 1) := by decide +kernel
theorem dX12_seek_51 : decode cX12_seek 51 = .ok (.ireturn, 1) := by decide +kernel
theorem dX12_seek_52 : decode cX12_seek 52 = .ok (.aload_n 0, 1) := by decide +kernel
theorem dX12_seek_53 : decode cX12_seek 53 = .ok (.iconst 0, 1) := by decide +kernel
theorem dX12_seek_54 : decode cX12_seek 54 = .ok (.putfield 409, 3) := by decide +kernel
theorem dX12_seek_57 : decode cX12_seek 57 = .ok (.aload_n 0, 1) := by decide +kernel
theorem dX12_seek_58 : decode cX12_seek 58 = .ok (.iconst 0, 1) := by decide +kernel
theorem dX12_seek_59 : decode cX12_seek 59 = .ok (.putfield 334, 3) := by decide +kernel
theorem dX12_seek_62 : decode cX12_seek 62 = .ok (.aload_n 0, 1) := by decide +kernel
theorem dX12_seek_63 : decode cX12_seek 63 = .ok (.iconst 0, 1) := by decide +kernel
theorem dX12_seek_64 : decode cX12_seek 64 = .ok (.lload_n 2, 1) := by decide +kernel
theorem dX12_seek_65 : decode cX12_seek 65 = .ok (.invokevirtual 344, 3) := by decide +kernel
theorem dX12_seek_68 : decode cX12_seek 68 = .ok (.aload_n 0, 1) := by decide +kernel
theorem dX12_seek_69 : decode cX12_seek 69 = .ok (.invokevirtual 355, 3) := by decide +kernel
theorem dX12_seek_72 : decode cX12_seek 72 = .ok (.aload_n 0, 1) := by decide +kernel
theorem dX12_seek_73 : decode cX12_seek 73 = .ok (.aload_n 0, 1) := by decide +kernel
theorem dX12_seek_74 : decode cX12_seek 74 = .ok (.getfield 277, 3) := by decide +kernel
theorem dX12_seek_77 : decode cX12_seek 77 = .ok (.iload_n 1, 1) := by decide +kernel
theorem dX12_seek_78 : decode cX12_seek 78 = .ok (.iconst 0, 1) := by decide +kernel
theorem dX12_seek_79 : decode cX12_seek 79 = .ok (.invokevirtual 417, 3) := by decide +kernel
theorem dX12_seek_82 : decode cX12_seek 82 = .ok (.aload_n 0, 1) := by decide +kernel
theorem dX12_seek_83 : decode cX12_seek 83 = .ok (.aload_n 0, 1) := by decide +kernel
theorem dX12_seek_84 : decode cX12_seek 84 = .ok (.getfield 277, 3) := by decide +kernel
theorem dX12_seek_87 : decode cX12_seek 87 = .ok (.iload_n 1, 1) := by decide +kernel
theorem dX12_seek_88 : decode cX12_seek 88 = .ok (.iconst 0, 1) := by decide +kernel
theorem dX12_seek_89 : decode cX12_seek 89 = .ok (.invokevirtual 421, 3) := by decide +kernel
theorem dX12_seek_92 : decode cX12_seek 92 = .ok (.ireturn, 1) := by decide +kernel
theorem dX12_at_0 : decode cX12_at 0 = .ok (.aload_n 0, 1) := by decide +kernel
theorem dX12_at_1 : decode cX12_at 1 = .ok (.aload_n 0, 1) := by decide +kernel
theorem dX12_at_2 : decode cX12_at 2 = .ok (.getfield 289, 3) := by decide +kernel
theorem dX12_at_5 : decode cX12_at 5 = .ok (.ifCond .eq 23, 3) := by decide +kernel
theorem dX12_at_8 : decode cX12_at 8 = .ok (.iload_n 1, 1) := by decide +kernel
theorem dX12_at_9 : decode cX12_at 9 = .ok (.i2l, 1) := by decide +kernel
theorem dX12_at_10 : decode cX12_at 10 = .ok (.lconst 0, 1) := by decide +kernel
theorem dX12_at_11 : decode cX12_at 11 = .ok (.aload_n 0, 1) := by decide +kernel
theorem dX12_at_12 : decode cX12_at 12 = .ok (.getfield 399, 3) := by decide +kernel
theorem dX12_at_15 : decode cX12_at 15 = .ok (.iconst 1, 1) := by decide +kernel
theorem dX12_at_16 : decode cX12_at 16 = .ok (.isub, 1) := by decide +kernel
theorem dX12_at_17 : decode cX12_at 17 = .ok (.i2l, 1) := by decide +kernel
theorem dX12_at_18 : decode cX12_at 18 = .ok (.invokestatic 159, 3) := by decide +kernel
theorem dX12_at_21 : decode cX12_at 21 = .ok (.ifCond .eq 7, 3) := by decide +kernel
theorem dX12_at_24 : decode cX12_at 24 = .ok (.iconst 1, 1) := by decide +kernel
theorem dX12_at_25 : decode cX12_at 25 = .ok (.goto 4, 3) := by decide +kernel
theorem dX12_at_28 : decode cX12_at 28 = .ok (.iconst 0, 1) := by decide +kernel
theorem dX12_at_29 : decode cX12_at 29 = .ok (.invokestatic 312, 3) := by decide +kernel
theorem dX12_at_32 : decode cX12_at 32 = .ok (.invokevirtual 256, 3) := by decide +kernel
theorem dX12_at_35 : decode cX12_at 35 = .ok (.ifCond .eq 7, 3) := by decide +kernel
theorem dX12_at_38 : decode cX12_at 38 = .ok (.iconst (-1), 1) := by decide +kernel
theorem dX12_at_39 : decode cX12_at 39 = .ok (.goto 9, 3) := by decide +kernel
theorem dX12_at_42 : decode cX12_at 42 = .ok (.aload_n 0, 1) := by decide +kernel
theorem dX12_at_43 : decode cX12_at 43 = .ok (.getfield 81, 3) := by decide +kernel
theorem dX12_at_46 : decode cX12_at 46 = .ok (.iload_n 1, 1) := by decide +kernel
theorem dX12_at_47 : decode cX12_at 47 = .ok (.iaload, 1) := by decide +kernel
theorem dX12_at_48 : decode cX12_at 48 = .ok (.ireturn, 1) := by decide +kernel
theorem dX12_cell_0 : decode cX12_cell 0 = .ok (.aload_n 0, 1) := by decide +kernel
theorem dX12_cell_1 : decode cX12_cell 1 = .ok (.aload_n 0, 1) := by decide +kernel
theorem dX12_cell_2 : decode cX12_cell 2 = .ok (.getfield 289, 3) := by decide +kernel
theorem dX12_cell_5 : decode cX12_cell 5 = .ok (.ifCond .eq 31, 3) := by decide +kernel
theorem dX12_cell_8 : decode cX12_cell 8 = .ok (.iload_n 1, 1) := by decide +kernel
theorem dX12_cell_9 : decode cX12_cell 9 = .ok (.i2l, 1) := by decide +kernel
theorem dX12_cell_10 : decode cX12_cell 10 = .ok (.lconst 0, 1) := by decide +kernel
theorem dX12_cell_11 : decode cX12_cell 11 = .ok (.aload_n 0, 1) := by decide +kernel
theorem dX12_cell_12 : decode cX12_cell 12 = .ok (.getfield 399, 3) := by decide +kernel
theorem dX12_cell_15 : decode cX12_cell 15 = .ok (.iconst 1, 1) := by decide +kernel
theorem dX12_cell_16 : decode cX12_cell 16 = .ok (.isub, 1) := by decide +kernel
theorem dX12_cell_17 : decode cX12_cell 17 = .ok (.i2l, 1) := by decide +kernel
theorem dX12_cell_18 : decode cX12_cell 18 = .ok (.invokestatic 159, 3) := by decide +kernel
theorem dX12_cell_21 : decode cX12_cell 21 = .ok (.ifCond .eq 15, 3) := by decide +kernel
theorem dX12_cell_24 : decode cX12_cell 24 = .ok (.aload_n 0, 1) := by decide +kernel
theorem dX12_cell_25 : decode cX12_cell 25 = .ok (.iload_n 2, 1) := by decide +kernel
theorem dX12_cell_26 : decode cX12_cell 26 = .ok (.invokevirtual 319, 3) := by decide +kernel
theorem dX12_cell_29 : decode cX12_cell 29 = .ok (.ifCond .eq 7, 3) := by decide +kernel
theorem dX12_cell_32 : decode cX12_cell 32 = .ok (.iconst 1, 1) := by decide +kernel
theorem dX12_cell_33 : decode cX12_cell 33 = .ok (.goto 4, 3) := by decide +kernel
theorem dX12_cell_36 : decode cX12_cell 36 = .ok (.iconst 0, 1) := by decide +kernel
theorem dX12_cell_37 : decode cX12_cell 37 = .ok (.invokestatic 312, 3) := by decide +kernel
theorem dX12_cell_40 : decode cX12_cell 40 = .ok (.invokevirtual 256, 3) := by decide +kernel
theorem dX12_cell_43 : decode cX12_cell 43 = .ok (.ifCond .eq 9, 3) := by decide +kernel
theorem dX12_cell_46 : decode cX12_cell 46 = .ok (.ldc2_w 229, 3) := by decide +kernel
theorem dX12_cell_49 : decode cX12_cell 49 = .ok (.goto 13, 3) := by decide +kernel
theorem dX12_cell_52 : decode cX12_cell 52 = .ok (.aload_n 0, 1) := by decide +kernel
theorem dX12_cell_53 : decode cX12_cell 53 = .ok (.getfield 84, 3) := by decide +kernel
theorem dX12_cell_56 : decode cX12_cell 56 = .ok (.iconst 4, 1) := by decide +kernel
theorem dX12_cell_57 : decode cX12_cell 57 = .ok (.iload_n 1, 1) := by decide +kernel
theorem dX12_cell_58 : decode cX12_cell 58 = .ok (.imul, 1) := by decide +kernel
theorem dX12_cell_59 : decode cX12_cell 59 = .ok (.iload_n 2, 1) := by decide +kernel
theorem dX12_cell_60 : decode cX12_cell 60 = .ok (.iadd, 1) := by decide +kernel
theorem dX12_cell_61 : decode cX12_cell 61 = .ok (.laload, 1) := by decide +kernel
theorem dX12_cell_62 : decode cX12_cell 62 = .ok (.lreturn, 1) := by decide +kernel
theorem dX12_tokenSize_0 : decode cX12_tokenSize 0 = .ok (.aload_n 0, 1) := by decide +kernel
theorem dX12_tokenSize_1 : decode cX12_tokenSize 1 = .ok (.aload_n 0, 1) := by decide +kernel
theorem dX12_tokenSize_2 : decode cX12_tokenSize 2 = .ok (.getfield 289, 3) := by decide +kernel
theorem dX12_tokenSize_5 : decode cX12_tokenSize 5 = .ok (.ifCond .eq 17, 3) := by decide +kernel
theorem dX12_tokenSize_8 : decode cX12_tokenSize 8 = .ok (.iload_n 1, 1) := by decide +kernel
theorem dX12_tokenSize_9 : decode cX12_tokenSize 9 = .ok (.i2l, 1) := by decide +kernel
theorem dX12_tokenSize_10 : decode cX12_tokenSize 10 = .ok (.lconst 0, 1) := by decide +kernel
theorem dX12_tokenSize_11 : decode cX12_tokenSize 11 = .ok (.lconst 1, 1) := by decide +kernel
theorem dX12_tokenSize_12 : decode cX12_tokenSize 12 = .ok (.invokestatic 159, 3) := by decide +kernel
theorem dX12_tokenSize_15 : decode cX12_tokenSize 15 = .ok (.ifCond .eq 7, 3) := by decide +kernel
theorem dX12_tokenSize_18 : decode cX12_tokenSize 18 = .ok (.iconst 1, 1) := by decide +kernel
theorem dX12_tokenSize_19 : decode cX12_tokenSize 19 = .ok (.goto 4, 3) := by decide +kernel
theorem dX12_tokenSize_22 : decode cX12_tokenSize 22 = .ok (.iconst 0, 1) := by decide +kernel
theorem dX12_tokenSize_23 : decode cX12_tokenSize 23 = .ok (.invokestatic 312, 3) := by decide +kernel
theorem dX12_tokenSize_26 : decode cX12_tokenSize 26 = .ok (.invokevirtual 256, 3) := by decide +kernel
theorem dX12_tokenSize_29 : decode cX12_tokenSize 29 = .ok (.ifCond .eq 7, 3) := by decide +kernel
theorem dX12_tokenSize_32 : decode cX12_tokenSize 32 = .ok (.iconst (-1), 1) := by decide +kernel
theorem dX12_tokenSize_33 : decode cX12_tokenSize 33 = .ok (.goto 9, 3) := by decide +kernel
theorem dX12_tokenSize_36 : decode cX12_tokenSize 36 = .ok (.aload_n 0, 1) := by decide +kernel
theorem dX12_tokenSize_37 : decode cX12_tokenSize 37 = .ok (.getfield 90, 3) := by decide +kernel
theorem dX12_tokenSize_40 : decode cX12_tokenSize 40 = .ok (.iload_n 1, 1) := by decide +kernel
theorem dX12_tokenSize_41 : decode cX12_tokenSize 41 = .ok (.iaload, 1) := by decide +kernel
theorem dX12_tokenSize_42 : decode cX12_tokenSize 42 = .ok (.ireturn, 1) := by decide +kernel
theorem dX12_tokenByte_0 : decode cX12_tokenByte 0 = .ok (.aload_n 0, 1) := by decide +kernel
theorem dX12_tokenByte_1 : decode cX12_tokenByte 1 = .ok (.aload_n 0, 1) := by decide +kernel
theorem dX12_tokenByte_2 : decode cX12_tokenByte 2 = .ok (.getfield 289, 3) := by decide +kernel
theorem dX12_tokenByte_5 : decode cX12_tokenByte 5 = .ok (.ifCond .eq 35, 3) := by decide +kernel
theorem dX12_tokenByte_8 : decode cX12_tokenByte 8 = .ok (.iload_n 1, 1) := by decide +kernel
theorem dX12_tokenByte_9 : decode cX12_tokenByte 9 = .ok (.i2l, 1) := by decide +kernel
theorem dX12_tokenByte_10 : decode cX12_tokenByte 10 = .ok (.lconst 0, 1) := by decide +kernel
theorem dX12_tokenByte_11 : decode cX12_tokenByte 11 = .ok (.lconst 1, 1) := by decide +kernel
theorem dX12_tokenByte_12 : decode cX12_tokenByte 12 = .ok (.invokestatic 159, 3) := by decide +kernel
theorem dX12_tokenByte_15 : decode cX12_tokenByte 15 = .ok (.ifCond .eq 25, 3) := by decide +kernel
theorem dX12_tokenByte_18 : decode cX12_tokenByte 18 = .ok (.iload_n 2, 1) := by decide +kernel
theorem dX12_tokenByte_19 : decode cX12_tokenByte 19 = .ok (.i2l, 1) := by decide +kernel
theorem dX12_tokenByte_20 : decode cX12_tokenByte 20 = .ok (.lconst 0, 1) := by decide +kernel
theorem dX12_tokenByte_21 : decode cX12_tokenByte 21 = .ok (.aload_n 0, 1) := by decide +kernel
theorem dX12_tokenByte_22 : decode cX12_tokenByte 22 = .ok (.getfield 90, 3) := by decide +kernel
theorem dX12_tokenByte_25 : decode cX12_tokenByte 25 = .ok (.iload_n 1, 1) := by decide +kernel
theorem dX12_tokenByte_26 : decode cX12_tokenByte 26 = .ok (.iaload, 1) := by decide +kernel
theorem dX12_tokenByte_27 : decode cX12_tokenByte 27 = .ok (.iconst 1, 1) := by decide +kernel
theorem dX12_tokenByte_28 : decode cX12_tokenByte 28 = .ok (.isub, 1) := by decide +kernel
theorem dX12_tokenByte_29 : decode cX12_tokenByte 29 = .ok (.i2l, 1) := by decide +kernel
theorem dX12_tokenByte_30 : decode cX12_tokenByte 30 = .ok (.invokestatic 159, 3) := by decide +kernel
theorem dX12_tokenByte_33 : decode cX12_tokenByte 33 = .ok (.ifCond .eq 7, 3) := by decide +kernel
theorem dX12_tokenByte_36 : decode cX12_tokenByte 36 = .ok (.iconst 1, 1) := by decide +kernel
theorem dX12_tokenByte_37 : decode cX12_tokenByte 37 = .ok (.goto 4, 3) := by decide +kernel
theorem dX12_tokenByte_40 : decode cX12_tokenByte 40 = .ok (.iconst 0, 1) := by decide +kernel
theorem dX12_tokenByte_41 : decode cX12_tokenByte 41 = .ok (.invokestatic 312, 3) := by decide +kernel
theorem dX12_tokenByte_44 : decode cX12_tokenByte 44 = .ok (.invokevirtual 256, 3) := by decide +kernel
theorem dX12_tokenByte_47 : decode cX12_tokenByte 47 = .ok (.ifCond .eq 7, 3) := by decide +kernel
theorem dX12_tokenByte_50 : decode cX12_tokenByte 50 = .ok (.iconst (-1), 1) := by decide +kernel
theorem dX12_tokenByte_51 : decode cX12_tokenByte 51 = .ok (.goto 15, 3) := by decide +kernel
theorem dX12_tokenByte_54 : decode cX12_tokenByte 54 = .ok (.aload_n 0, 1) := by decide +kernel
theorem dX12_tokenByte_55 : decode cX12_tokenByte 55 = .ok (.getfield 87, 3) := by decide +kernel
theorem dX12_tokenByte_58 : decode cX12_tokenByte 58 = .ok (.sipush 900, 3) := by decide +kernel
theorem dX12_tokenByte_61 : decode cX12_tokenByte 61 = .ok (.iload_n 1, 1) := by decide +kernel
theorem dX12_tokenByte_62 : decode cX12_tokenByte 62 = .ok (.imul, 1) := by decide +kernel
theorem dX12_tokenByte_63 : decode cX12_tokenByte 63 = .ok (.iload_n 2, 1) := by decide +kernel
theorem dX12_tokenByte_64 : decode cX12_tokenByte 64 = .ok (.iadd, 1) := by decide +kernel
theorem dX12_tokenByte_65 : decode cX12_tokenByte 65 = .ok (.iaload, 1) := by decide +kernel
theorem dX12_tokenByte_66 : decode cX12_tokenByte 66 = .ok (.ireturn, 1) := by decide +kernel
theorem dX12_beyond_0 : decode cX12_beyond 0 = .ok (.aload_n 0, 1) := by decide +kernel
theorem dX12_beyond_1 : decode cX12_beyond 1 = .ok (.aload_n 0, 1) := by decide +kernel
theorem dX12_beyond_2 : decode cX12_beyond 2 = .ok (.getfield 289, 3) := by decide +kernel
theorem dX12_beyond_5 : decode cX12_beyond 5 = .ok (.ifCond .eq 17, 3) := by decide +kernel
theorem dX12_beyond_8 : decode cX12_beyond 8 = .ok (.iload_n 1, 1) := by decide +kernel
theorem dX12_beyond_9 : decode cX12_beyond 9 = .ok (.i2l, 1) := by decide +kernel
theorem dX12_beyond_10 : decode cX12_beyond 10 = .ok (.lconst 0, 1) := by decide +kernel
theorem dX12_beyond_11 : decode cX12_beyond 11 = .ok (.lconst 1, 1) := by decide +kernel
theorem dX12_beyond_12 : decode cX12_beyond 12 = .ok (.invokestatic 159, 3) := by decide +kernel
theorem dX12_beyond_15 : decode cX12_beyond 15 = .ok (.ifCond .eq 7, 3) := by decide +kernel
theorem dX12_beyond_18 : decode cX12_beyond 18 = .ok (.iconst 1, 1) := by decide +kernel
theorem dX12_beyond_19 : decode cX12_beyond 19 = .ok (.goto 4, 3) := by decide +kernel
theorem dX12_beyond_22 : decode cX12_beyond 22 = .ok (.iconst 0, 1) := by decide +kernel
theorem dX12_beyond_23 : decode cX12_beyond 23 = .ok (.invokestatic 312, 3) := by decide +kernel
theorem dX12_beyond_26 : decode cX12_beyond 26 = .ok (.invokevirtual 256, 3) := by decide +kernel
theorem dX12_beyond_29 : decode cX12_beyond 29 = .ok (.ifCond .eq 7, 3) := by decide +kernel
theorem dX12_beyond_32 : decode cX12_beyond 32 = .ok (.iconst (-1), 1) := by decide +kernel
theorem dX12_beyond_33 : decode cX12_beyond 33 = .ok (.goto 9, 3) := by decide +kernel
theorem dX12_beyond_36 : decode cX12_beyond 36 = .ok (.aload_n 0, 1) := by decide +kernel
theorem dX12_beyond_37 : decode cX12_beyond 37 = .ok (.getfield 93, 3) := by decide +kernel
theorem dX12_beyond_40 : decode cX12_beyond 40 = .ok (.iload_n 1, 1) := by decide +kernel
theorem dX12_beyond_41 : decode cX12_beyond 41 = .ok (.iaload, 1) := by decide +kernel
theorem dX12_beyond_42 : decode cX12_beyond 42 = .ok (.ireturn, 1) := by decide +kernel
theorem dX12_checks_0 : decode cX12_checks 0 = .ok (.aload_n 0, 1) := by decide +kernel
theorem dX12_checks_1 : decode cX12_checks 1 = .ok (.aload_n 0, 1) := by decide +kernel
theorem dX12_checks_2 : decode cX12_checks 2 = .ok (.getfield 296, 3) := by decide +kernel
theorem dX12_checks_5 : decode cX12_checks 5 = .ok (.ifCond .ne 7, 3) := by decide +kernel
theorem dX12_checks_8 : decode cX12_checks 8 = .ok (.iconst 1, 1) := by decide +kernel
theorem dX12_checks_9 : decode cX12_checks 9 = .ok (.goto 22, 3) := by decide +kernel
theorem dX12_checks_12 : decode cX12_checks 12 = .ok (.iload_n 1, 1) := by decide +kernel
theorem dX12_checks_13 : decode cX12_checks 13 = .ok (.i2l, 1) := by decide +kernel
theorem dX12_checks_14 : decode cX12_checks 14 = .ok (.lconst 0, 1) := by decide +kernel
theorem dX12_checks_15 : decode cX12_checks 15 = .ok (.aload_n 0, 1) := by decide +kernel
theorem dX12_checks_16 : decode cX12_checks 16 = .ok (.getfield 132, 3) := by decide +kernel
theorem dX12_checks_19 : decode cX12_checks 19 = .ok (.i2l, 1) := by decide +kernel
theorem dX12_checks_20 : decode cX12_checks 20 = .ok (.invokestatic 159, 3) := by decide +kernel
theorem dX12_checks_23 : decode cX12_checks 23 = .ok (.ifCond .eq 7, 3) := by decide +kernel
theorem dX12_checks_26 : decode cX12_checks 26 = .ok (.iconst 0, 1) := by decide +kernel
theorem dX12_checks_27 : decode cX12_checks 27 = .ok (.goto 4, 3) := by decide +kernel
theorem dX12_checks_30 : decode cX12_checks 30 = .ok (.iconst 2, 1) := by decide +kernel
theorem dX12_checks_31 : decode cX12_checks 31 = .ok (.invokevirtual 256, 3) := by decide +kernel
theorem dX12_checks_34 : decode cX12_checks 34 = .ok (.ifCond .eq 7, 3) := by decide +kernel
theorem dX12_checks_37 : decode cX12_checks 37 = .ok (.iconst (-1), 1) := by decide +kernel
theorem dX12_checks_38 : decode cX12_checks 38 = .ok (.goto 8, 3) := by decide +kernel
theorem dX12_checks_41 : decode cX12_checks 41 = .ok (.aload_n 0, 1) := by decide +kernel
theorem dX12_checks_42 : decode cX12_checks 42 = .ok (.iload_n 1, 1) := by decide +kernel
theorem dX12_checks_43 : decode cX12_checks 43 = .ok (.invokevirtual 428, 3) := by decide +kernel
theorem dX12_checks_46 : decode cX12_checks 46 = .ok (.ireturn, 1) := by decide +kernel
theorem dX12_nobodyReads_0 : decode cX12_nobodyReads 0 = .ok (.iconst 0, 1) := by decide +kernel
theorem dX12_nobodyReads_1 : decode cX12_nobodyReads 1 = .ok (.istore_n 1, 1) := by decide +kernel
theorem dX12_nobodyReads_2 : decode cX12_nobodyReads 2 = .ok (.iload_n 1, 1) := by decide +kernel
theorem dX12_nobodyReads_3 : decode cX12_nobodyReads 3 = .ok (.iconst 4, 1) := by decide +kernel
theorem dX12_nobodyReads_4 : decode cX12_nobodyReads 4 = .ok (.if_icmp .ge 16, 3) := by decide +kernel
theorem dX12_nobodyReads_7 : decode cX12_nobodyReads 7 = .ok (.aload_n 0, 1) := by decide +kernel
theorem dX12_nobodyReads_8 : decode cX12_nobodyReads 8 = .ok (.getfield 99, 3) := by decide +kernel
theorem dX12_nobodyReads_11 : decode cX12_nobodyReads 11 = .ok (.iload_n 1, 1) := by decide +kernel
theorem dX12_nobodyReads_12 : decode cX12_nobodyReads 12 = .ok (.iconst 0, 1) := by decide +kernel
theorem dX12_nobodyReads_13 : decode cX12_nobodyReads 13 = .ok (.iastore, 1) := by decide +kernel
theorem dX12_nobodyReads_14 : decode cX12_nobodyReads 14 = .ok (.iinc 1 1, 3) := by decide +kernel
theorem dX12_nobodyReads_17 : decode cX12_nobodyReads 17 = .ok (.goto (-15), 3) := by decide +kernel
theorem dX12_nobodyReads_20 : decode cX12_nobodyReads 20 = .ok (.return_, 1) := by decide +kernel
theorem dX12_isReader_0 : decode cX12_isReader 0 = .ok (.aload_n 0, 1) := by decide +kernel
theorem dX12_isReader_1 : decode cX12_isReader 1 = .ok (.getfield 296, 3) := by decide +kernel
theorem dX12_isReader_4 : decode cX12_isReader 4 = .ok (.ifCond .eq 28, 3) := by decide +kernel
theorem dX12_isReader_7 : decode cX12_isReader 7 = .ok (.iload_n 1, 1) := by decide +kernel
theorem dX12_isReader_8 : decode cX12_isReader 8 = .ok (.i2l, 1) := by decide +kernel
theorem dX12_isReader_9 : decode cX12_isReader 9 = .ok (.lconst 0, 1) := by decide +kernel
theorem dX12_isReader_10 : decode cX12_isReader 10 = .ok (.ldc2_w 437, 3) := by decide +kernel
theorem dX12_isReader_13 : decode cX12_isReader 13 = .ok (.invokestatic 159, 3) := by decide +kernel
theorem dX12_isReader_16 : decode cX12_isReader 16 = .ok (.ifCond .eq 16, 3) := by decide +kernel
theorem dX12_isReader_19 : decode cX12_isReader 19 = .ok (.aload_n 0, 1) := by decide +kernel
theorem dX12_isReader_20 : decode cX12_isReader 20 = .ok (.getfield 99, 3) := by decide +kernel
theorem dX12_isReader_23 : decode cX12_isReader 23 = .ok (.iload_n 1, 1) := by decide +kernel
theorem dX12_isReader_24 : decode cX12_isReader 24 = .ok (.iaload, 1) := by decide +kernel
theorem dX12_isReader_25 : decode cX12_isReader 25 = .ok (.ifCond .le 7, 3) := by decide +kernel
theorem dX12_isReader_28 : decode cX12_isReader 28 = .ok (.iconst 1, 1) := by decide +kernel
theorem dX12_isReader_29 : decode cX12_isReader 29 = .ok (.goto 4, 3) := by decide +kernel
theorem dX12_isReader_32 : decode cX12_isReader 32 = .ok (.iconst 0, 1) := by decide +kernel
theorem dX12_isReader_33 : decode cX12_isReader 33 = .ok (.ireturn, 1) := by decide +kernel
theorem dX12_begin_0 : decode cX12_begin 0 = .ok (.aload_n 0, 1) := by decide +kernel
theorem dX12_begin_1 : decode cX12_begin 1 = .ok (.aload_n 0, 1) := by decide +kernel
theorem dX12_begin_2 : decode cX12_begin 2 = .ok (.getfield 296, 3) := by decide +kernel
theorem dX12_begin_5 : decode cX12_begin 5 = .ok (.ifCond .eq 15, 3) := by decide +kernel
theorem dX12_begin_8 : decode cX12_begin 8 = .ok (.iload_n 1, 1) := by decide +kernel
theorem dX12_begin_9 : decode cX12_begin 9 = .ok (.i2l, 1) := by decide +kernel
theorem dX12_begin_10 : decode cX12_begin 10 = .ok (.lconst 0, 1) := by decide +kernel
theorem dX12_begin_11 : decode cX12_begin 11 = .ok (.ldc2_w 437, 3) := by decide +kernel
theorem dX12_begin_14 : decode cX12_begin 14 = .ok (.invokestatic 159, 3) := by decide +kernel
theorem dX12_begin_17 : decode cX12_begin 17 = .ok (.ifCond .ne 7, 3) := by decide +kernel
theorem dX12_begin_20 : decode cX12_begin 20 = .ok (.iconst 1, 1) := by decide +kernel
theorem dX12_begin_21 : decode cX12_begin 21 = .ok (.goto 20, 3) := by decide +kernel
theorem dX12_begin_24 : decode cX12_begin 24 = .ok (.iload_n 2, 1) := by decide +kernel
theorem dX12_begin_25 : decode cX12_begin 25 = .ok (.i2l, 1) := by decide +kernel
theorem dX12_begin_26 : decode cX12_begin 26 = .ok (.lconst 1, 1) := by decide +kernel
theorem dX12_begin_27 : decode cX12_begin 27 = .ok (.ldc2_w 412, 3) := by decide +kernel
theorem dX12_begin_30 : decode cX12_begin 30 = .ok (.invokestatic 159, 3) := by decide +kernel
theorem dX12_begin_33 : decode cX12_begin 33 = .ok (.ifCond .eq 7, 3) := by decide +kernel
theorem dX12_begin_36 : decode cX12_begin 36 = .ok (.iconst 0, 1) := by decide +kernel
theorem dX12_begin_37 : decode cX12_begin 37 = .ok (.goto 4, 3) := by decide +kernel
theorem dX12_begin_40 : decode cX12_begin 40 = .ok (.iconst 2, 1) := by decide +kernel
theorem dX12_begin_41 : decode cX12_begin 41 = .ok (.invokevirtual 256, 3) := by decide +kernel
theorem dX12_begin_44 : decode cX12_begin 44 = .ok (.ifCond .eq 5, 3) := by decide +kernel
theorem dX12_begin_47 : decode cX12_begin 47 = .ok (.iconst 0, 1) := by decide +kernel
theorem dX12_begin_48 : decode cX12_begin 48 = .ok (.ireturn, 1) := by decide +kernel
theorem dX12_begin_49 : decode cX12_begin 49 = .ok (.aload_n 0, 1) := by decide +kernel
theorem dX12_begin_50 : decode cX12_begin 50 = .ok (.getfield 99, 3) := by decide +kernel
theorem dX12_begin_53 : decode cX12_begin 53 = .ok (.iload_n 1, 1) := by decide +kernel
theorem dX12_begin_54 : decode cX12_begin 54 = .ok (.iload_n 2, 1) := by decide +kernel
theorem dX12_begin_55 : decode cX12_begin 55 = .ok (.iastore, 1) := by decide +kernel
theorem dX12_begin_56 : decode cX12_begin 56 = .ok (.aload_n 0, 1) := by decide +kernel
theorem dX12_begin_57 : decode cX12_begin 57 = .ok (.getfield 102, 3) := by decide +kernel
theorem dX12_begin_60 : decode cX12_begin 60 = .ok (.iload_n 1, 1) := by decide +kernel
theorem dX12_begin_61 : decode cX12_begin 61 = .ok (.iload_n 3, 1) := by decide +kernel
theorem dX12_begin_62 : decode cX12_begin 62 = .ok (.ifCond .eq 10, 3) := by decide +kernel
theorem dX12_begin_65 : decode cX12_begin 65 = .ok (.aload_n 0, 1) := by decide +kernel
theorem dX12_begin_66 : decode cX12_begin 66 = .ok (.getfield 277, 3) := by decide +kernel
theorem dX12_begin_69 : decode cX12_begin 69 = .ok (.goto 4, 3) := by decide +kernel
theorem dX12_begin_72 : decode cX12_begin 72 = .ok (.iconst (-1), 1) := by decide +kernel
theorem dX12_begin_73 : decode cX12_begin 73 = .ok (.iastore, 1) := by decide +kernel
theorem dX12_begin_74 : decode cX12_begin 74 = .ok (.aload_n 0, 1) := by decide +kernel
theorem dX12_begin_75 : decode cX12_begin 75 = .ok (.getfield 105, 3) := by decide +kernel
theorem dX12_begin_78 : decode cX12_begin 78 = .ok (.iload_n 1, 1) := by decide +kernel
theorem dX12_begin_79 : decode cX12_begin 79 = .ok (.iconst 0, 1) := by decide +kernel
theorem dX12_begin_80 : decode cX12_begin 80 = .ok (.bastore, 1) := by decide +kernel
theorem dX12_begin_81 : decode cX12_begin 81 = .ok (.aload_n 0, 1) := by decide +kernel
theorem dX12_begin_82 : decode cX12_begin 82 = .ok (.getfield 108, 3) := by decide +kernel
theorem dX12_begin_85 : decode cX12_begin 85 = .ok (.iload_n 1, 1) := by decide +kernel
theorem dX12_begin_86 : decode cX12_begin 86 = .ok (.iconst 0, 1) := by decide +kernel
theorem dX12_begin_87 : decode cX12_begin 87 = .ok (.iastore, 1) := by decide +kernel
theorem dX12_begin_88 : decode cX12_begin 88 = .ok (.aload_n 0, 1) := by decide +kernel
theorem dX12_begin_89 : decode cX12_begin 89 = .ok (.getfield 111, 3) := by decide +kernel
theorem dX12_begin_92 : decode cX12_begin 92 = .ok (.iload_n 1, 1) := by decide +kernel
theorem dX12_begin_93 : decode cX12_begin 93 = .ok (.iconst 0, 1) := by decide +kernel
theorem dX12_begin_94 : decode cX12_begin 94 = .ok (.iastore, 1) := by decide +kernel
theorem dX12_begin_95 : decode cX12_begin 95 = .ok (.iconst 0, 1) := by decide +kernel
theorem dX12_begin_96 : decode cX12_begin 96 = .ok (.istore 4, 2) := by decide +kernel
theorem dX12_begin_98 : decode cX12_begin 98 = .ok (.iload 4, 2) := by decide +kernel
theorem dX12_begin_100 : decode cX12_begin 100 = .ok (.bipush 64, 2) := by decide +kernel
theorem dX12_begin_102 : decode cX12_begin 102 = .ok (.if_icmp .ge 22, 3) := by decide +kernel
theorem dX12_begin_105 : decode cX12_begin 105 = .ok (.aload_n 0, 1) := by decide +kernel
theorem dX12_begin_106 : decode cX12_begin 106 = .ok (.getfield 117, 3) := by decide +kernel
theorem dX12_begin_109 : decode cX12_begin 109 = .ok (.bipush 64, 2) := by decide +kernel
theorem dX12_begin_111 : decode cX12_begin 111 = .ok (.iload_n 1, 1) := by decide +kernel
theorem dX12_begin_112 : decode cX12_begin 112 = .ok (.imul, 1) := by decide +kernel
theorem dX12_begin_113 : decode cX12_begin 113 = .ok (.iload 4, 2) := by decide +kernel
theorem dX12_begin_115 : decode cX12_begin 115 = .ok (.iadd, 1) := by decide +kernel
theorem dX12_begin_116 : decode cX12_begin 116 = .ok (.iconst 0, 1) := by decide +kernel
theorem dX12_begin_117 : decode cX12_begin 117 = .ok (.iastore, 1) := by decide +kernel
theorem dX12_begin_118 : decode cX12_begin 118 = .ok (.iinc 4 1, 3) := by decide +kernel
theorem dX12_begin_121 : decode cX12_begin 121 = .ok (.goto (-23), 3) := by decide +kernel
theorem dX12_begin_124 : decode cX12_begin 124 = .ok (.iconst 1, 1) := by decide +kernel
theorem dX12_begin_125 : decode cX12_begin 125 = .ok (.ireturn, 1) := by decide +kernel
theorem dX12_goesReader_0 : decode cX12_goesReader 0 = .ok (.aload_n 0, 1) := by decide +kernel
theorem dX12_goesReader_1 : decode cX12_goesReader 1 = .ok (.aload_n 0, 1) := by decide +kernel
theorem dX12_goesReader_2 : decode cX12_goesReader 2 = .ok (.iload_n 1, 1) := by decide +kernel
theorem dX12_goesReader_3 : decode cX12_goesReader 3 = .ok (.invokevirtual 439, 3) := by decide +kernel
theorem dX12_goesReader_6 : decode cX12_goesReader 6 = .ok (.invokestatic 312, 3) := by decide +kernel
theorem dX12_goesReader_9 : decode cX12_goesReader 9 = .ok (.invokevirtual 256, 3) := by decide +kernel
theorem dX12_goesReader_12 : decode cX12_goesReader 12 = .ok (.ifCond .eq 5, 3) := by decide +kernel
theorem dX12_goesReader_15 : decode cX12_goesReader 15 = .ok (.iconst (-1), 1) := by decide +kernel
theorem dX12_goesReader_16 : decode cX12_goesReader 16 = .ok (.ireturn, 1) := by decide +kernel
theorem dX12_goesReader_17 : decode cX12_goesReader 17 = .ok (.aload_n 0, 1) := by decide +kernel
theorem dX12_goesReader_18 : decode cX12_goesReader 18 = .ok (.getfield 102, 3) := by decide +kernel
theorem dX12_goesReader_21 : decode cX12_goesReader 21 = .ok (.iload_n 1, 1) := by decide +kernel
theorem dX12_goesReader_22 : decode cX12_goesReader 22 = .ok (.iaload, 1) := by decide +kernel
theorem dX12_goesReader_23 : decode cX12_goesReader 23 = .ok (.iconst (-1), 1) := by decide +kernel
theorem dX12_goesReader_24 : decode cX12_goesReader 24 = .ok (.if_icmp .ne 10, 3) := by decide +kernel
theorem dX12_goesReader_27 : decode cX12_goesReader 27 = .ok (.aload_n 0, 1) := by decide +kernel
theorem dX12_goesReader_28 : decode cX12_goesReader 28 = .ok (.getfield 277, 3) := by decide +kernel
theorem dX12_goesReader_31 : decode cX12_goesReader 31 = .ok (.goto 9, 3) := by decide +kernel
theorem dX12_goesReader_34 : decode cX12_goesReader 34 = .ok (.aload_n 0, 1) := by decide +kernel
theorem dX12_goesReader_35 : decode cX12_goesReader 35 = .ok (.getfield 102, 3) := by decide +kernel
theorem dX12_goesReader_38 : decode cX12_goesReader 38 = .ok (.iload_n 1, 1) := by decide +kernel
theorem dX12_goesReader_39 : decode cX12_goesReader 39 = .ok (.iaload, 1) := by decide +kernel
theorem dX12_goesReader_40 : decode cX12_goesReader 40 = .ok (.istore_n 3, 1) := by decide +kernel
theorem dX12_goesReader_41 : decode cX12_goesReader 41 = .ok (.aload_n 0, 1) := by decide +kernel
theorem dX12_goesReader_42 : decode cX12_goesReader 42 = .ok (.iload_n 3, 1) := by decide +kernel
theorem dX12_goesReader_43 : decode cX12_goesReader 43 = .ok (.invokevirtual 331, 3) := by decide +kernel
theorem dX12_goesReader_46 : decode cX12_goesReader 46 = .ok (.ifCond .ne 10, 3) := by decide +kernel
theorem dX12_goesReader_49 : decode cX12_goesReader 49 = .ok (.aload_n 0, 1) := by decide +kernel
theorem dX12_goesReader_50 : decode cX12_goesReader 50 = .ok (.bipush 8, 2) := by decide +kernel
theorem dX12_goesReader_52 : decode cX12_goesReader 52 = .ok (.invokevirtual 265, 3) := by decide +kernel
theorem dX12_goesReader_55 : decode cX12_goesReader 55 = .ok (.ireturn, 1) := by decide +kernel
theorem dX12_goesReader_56 : decode cX12_goesReader 56 = .ok (.aload_n 0, 1) := by decide +kernel
theorem dX12_goesReader_57 : decode cX12_goesReader 57 = .ok (.aload_n 0, 1) := by decide +kernel
theorem dX12_goesReader_58 : decode cX12_goesReader 58 = .ok (.getfield 111, 3) := by decide +kernel
theorem dX12_goesReader_61 : decode cX12_goesReader 61 = .ok (.iload_n 1, 1) := by decide +kernel
theorem dX12_goesReader_62 : decode cX12_goesReader 62 = .ok (.iaload, 1) := by decide +kernel
theorem dX12_goesReader_63 : decode cX12_goesReader 63 = .ok (.putfield 348, 3) := by decide +kernel
theorem dX12_goesReader_66 : decode cX12_goesReader 66 = .ok (.iconst 0, 1) := by decide +kernel
theorem dX12_goesReader_67 : decode cX12_goesReader 67 = .ok (.istore 4, 2) := by decide +kernel
theorem dX12_goesReader_69 : decode cX12_goesReader 69 = .ok (.iload 4, 2) := by decide +kernel
theorem dX12_goesReader_71 : decode cX12_goesReader 71 = .ok (.aload_n 0, 1) := by decide +kernel
theorem dX12_goesReader_72 : decode cX12_goesReader 72 = .ok (.getfield 348, 3) := by decide +kernel
theorem dX12_goesReader_75 : decode cX12_goesReader 75 = .ok (.if_icmp .ge 28, 3) := by decide +kernel
theorem dX12_goesReader_78 : decode cX12_goesReader 78 = .ok (.aload_n 0, 1) := by decide +kernel
theorem dX12_goesReader_79 : decode cX12_goesReader 79 = .ok (.getfield 63, 3) := by decide +kernel
theorem dX12_goesReader_82 : decode cX12_goesReader 82 = .ok (.iload 4, 2) := by decide +kernel
theorem dX12_goesReader_84 : decode cX12_goesReader 84 = .ok (.aload_n 0, 1) := by decide +kernel
theorem dX12_goesReader_85 : decode cX12_goesReader 85 = .ok (.getfield 114, 3) := by decide +kernel
theorem dX12_goesReader_88 : decode cX12_goesReader 88 = .ok (.bipush 36, 2) := by decide +kernel
theorem dX12_goesReader_90 : decode cX12_goesReader 90 = .ok (.iload_n 1, 1) := by decide +kernel
theorem dX12_goesReader_91 : decode cX12_goesReader 91 = .ok (.imul, 1) := by decide +kernel
theorem dX12_goesReader_92 : decode cX12_goesReader 92 = .ok (.iload 4, 2) := by decide +kernel
theorem dX12_goesReader_94 : decode cX12_goesReader 94 = .ok (.iadd, 1) := by decide +kernel
theorem dX12_goesReader_95 : decode cX12_goesReader 95 = .ok (.iaload, 1) := by decide +kernel
theorem dX12_goesReader_96 : decode cX12_goesReader 96 = .ok (.iastore, 1) := by decide +kernel
theorem dX12_goesReader_97 : decode cX12_goesReader 97 = .ok (.iinc 4 1, 3) := by decide +kernel
theorem dX12_goesReader_100 : decode cX12_goesReader 100 = .ok (.goto (-31), 3) := by decide +kernel
theorem dX12_goesReader_103 : decode cX12_goesReader 103 = .ok (.aload_n 0, 1) := by decide +kernel
theorem dX12_goesReader_104 : decode cX12_goesReader 104 = .ok (.iload_n 3, 1) := by decide +kernel
theorem dX12_goesReader_105 : decode cX12_goesReader 105 = .ok (.aload_n 0, 1) := by decide +kernel
theorem dX12_goesReader_106 : decode cX12_goesReader 106 = .ok (.getfield 99, 3) := by decide +kernel
theorem dX12_goesReader_109 : decode cX12_goesReader 109 = .ok (.iload_n 1, 1) := by decide +kernel
theorem dX12_goesReader_110 : decode cX12_goesReader 110 = .ok (.iaload, 1) := by decide +kernel
theorem dX12_goesReader_111 : decode cX12_goesReader 111 = .ok (.iload_n 2, 1) := by decide +kernel
theorem dX12_goesReader_112 : decode cX12_goesReader 112 = .ok (.invokevirtual 417, 3) := by decide +kernel
theorem dX12_goesReader_115 : decode cX12_goesReader 115 = .ok (.aload_n 0, 1) := by decide +kernel
theorem dX12_goesReader_116 : decode cX12_goesReader 116 = .ok (.getfield 108, 3) := by decide +kernel
theorem dX12_goesReader_119 : decode cX12_goesReader 119 = .ok (.iload_n 1, 1) := by decide +kernel
theorem dX12_goesReader_120 : decode cX12_goesReader 120 = .ok (.dup2, 1) := by decide +kernel
theorem dX12_goesReader_121 : decode cX12_goesReader 121 = .ok (.iaload, 1) := by decide +kernel
theorem dX12_goesReader_122 : decode cX12_goesReader 122 = .ok (.iconst 1, 1) := by decide +kernel
theorem dX12_goesReader_123 : decode cX12_goesReader 123 = .ok (.iadd, 1) := by decide +kernel
theorem dX12_goesReader_124 : decode cX12_goesReader 124 = .ok (.iastore, 1) := by decide +kernel
theorem dX12_goesReader_125 : decode cX12_goesReader 125 = .ok (.aload_n 0, 1) := by decide +kernel
theorem dX12_goesReader_126 : decode cX12_goesReader 126 = .ok (.getfield 105, 3) := by decide +kernel
theorem dX12_goesReader_129 : decode cX12_goesReader 129 = .ok (.iload_n 1, 1) := by decide +kernel
theorem dX12_goesReader_130 : decode cX12_goesReader 130 = .ok (.aload_n 0, 1) := by decide +kernel
theorem dX12_goesReader_131 : decode cX12_goesReader 131 = .ok (.getfield 392, 3) := by decide +kernel
theorem dX12_goesReader_134 : decode cX12_goesReader 134 = .ok (.ifCond .ne 20, 3) := by decide +kernel
theorem dX12_goesReader_137 : decode cX12_goesReader 137 = .ok (.iload_n 2, 1) := by decide +kernel
theorem dX12_goesReader_138 : decode cX12_goesReader 138 = .ok (.ifCond .eq 12, 3) := by decide +kernel
theorem dX12_goesReader_141 : decode cX12_goesReader 141 = .ok (.aload_n 0, 1) := by decide +kernel
theorem dX12_goesReader_142 : decode cX12_goesReader 142 = .ok (.getfield 105, 3) := by decide +kernel
theorem dX12_goesReader_145 : decode cX12_goesReader 145 = .ok (.iload_n 1, 1) := by decide +kernel
theorem dX12_goesReader_146 : decode cX12_goesReader 146 = .ok (.baload, 1) := by decide +kernel
theorem dX12_goesReader_147 : decode cX12_goesReader 147 = .ok (.ifCond .eq 7, 3) := by decide +kernel
theorem dX12_goesReader_150 : decode cX12_goesReader 150 = .ok (.iconst 1, 1) := by decide +kernel
theorem dX12_goesReader_151 : decode cX12_goesReader 151 = .ok (.goto 4, 3) := by decide +kernel
theorem dX12_goesReader_154 : decode cX12_goesReader 154 = .ok (.iconst 0, 1) := by decide +kernel
theorem dX12_goesReader_155 : decode cX12_goesReader 155 = .ok (.bastore, 1) := by decide +kernel
theorem dX12_goesReader_156 : decode cX12_goesReader 156 = .ok (.aload_n 0, 1) := by decide +kernel
theorem dX12_goesReader_157 : decode cX12_goesReader 157 = .ok (.getfield 392, 3) := by decide +kernel
theorem dX12_goesReader_160 : decode cX12_goesReader 160 = .ok (.ifCond .ne 5, 3) := by decide +kernel
theorem dX12_goesReader_163 : decode cX12_goesReader 163 = .ok (.iconst 0, 1) := by decide +kernel
theorem dX12_goesReader_164 : decode cX12_goesReader 164 = .ok (.ireturn, 1) := by decide +kernel
theorem dX12_goesReader_165 : decode cX12_goesReader 165 = .ok (.iconst 0, 1) := by decide +kernel
theorem dX12_goesReader_166 : decode cX12_goesReader 166 = .ok (.istore 4, 2) := by decide +kernel
theorem dX12_goesReader_168 : decode cX12_goesReader 168 = .ok (.iload 4, 2) := by decide +kernel
theorem dX12_goesReader_170 : decode cX12_goesReader 170 = .ok (.aload_n 0, 1) := by decide +kernel
theorem dX12_goesReader_171 : decode cX12_goesReader 171 = .ok (.getfield 392, 3) := by decide +kernel
theorem dX12_goesReader_174 : decode cX12_goesReader 174 = .ok (.if_icmp .ge 51, 3) := by decide +kernel
theorem dX12_goesReader_177 : decode cX12_goesReader 177 = .ok (.aload_n 0, 1) := by decide +kernel
theorem dX12_goesReader_178 : decode cX12_goesReader 178 = .ok (.getfield 117, 3) := by decide +kernel
theorem dX12_goesReader_181 : decode cX12_goesReader 181 = .ok (.bipush 64, 2) := by decide +kernel
theorem dX12_goesReader_183 : decode cX12_goesReader 183 = .ok (.iload_n 1, 1) := by decide +kernel
theorem dX12_goesReader_184 : decode cX12_goesReader 184 = .ok (.imul, 1) := by decide +kernel
theorem dX12_goesReader_185 : decode cX12_goesReader 185 = .ok (.aload_n 0, 1) := by decide +kernel
theorem dX12_goesReader_186 : decode cX12_goesReader 186 = .ok (.getfield 75, 3) := by decide +kernel
theorem dX12_goesReader_189 : decode cX12_goesReader 189 = .ok (.iload 4, 2) := by decide +kernel
theorem dX12_goesReader_191 : decode cX12_goesReader 191 = .ok (.iaload, 1) := by decide +kernel
theorem dX12_goesReader_192 : decode cX12_goesReader 192 = .ok (.iadd, 1) := by decide +kernel
theorem dX12_goesReader_193 : decode cX12_goesReader 193 = .ok (.dup2, 1) := by decide +kernel
theorem dX12_goesReader_194 : decode cX12_goesReader 194 = .ok (.iaload, 1) := by decide +kernel
theorem dX12_goesReader_195 : decode cX12_goesReader 195 = .ok (.iconst 1, 1) := by decide +kernel
theorem dX12_goesReader_196 : decode cX12_goesReader 196 = .ok (.iadd, 1) := by decide +kernel
theorem dX12_goesReader_197 : decode cX12_goesReader 197 = .ok (.iastore, 1) := by decide +kernel
theorem dX12_goesReader_198 : decode cX12_goesReader 198 = .ok (.aload_n 0, 1) := by decide +kernel
theorem dX12_goesReader_199 : decode cX12_goesReader 199 = .ok (.getfield 120, 3) := by decide +kernel
theorem dX12_goesReader_202 : decode cX12_goesReader 202 = .ok (.bipush 64, 2) := by decide +kernel
theorem dX12_goesReader_204 : decode cX12_goesReader 204 = .ok (.iload_n 1, 1) := by decide +kernel
theorem dX12_goesReader_205 : decode cX12_goesReader 205 = .ok (.imul, 1) := by decide +kernel
theorem dX12_goesReader_206 : decode cX12_goesReader 206 = .ok (.aload_n 0, 1) := by decide +kernel
theorem dX12_goesReader_207 : decode cX12_goesReader 207 = .ok (.getfield 75, 3) := by decide +kernel
theorem dX12_goesReader_210 : decode cX12_goesReader 210 = .ok (.iload 4, 2) := by decide +kernel
theorem dX12_goesReader_212 : decode cX12_goesReader 212 = .ok (.iaload, 1) := by decide +kernel
theorem dX12_goesReader_213 : decode cX12_goesReader 213 = .ok (.iadd, 1) := by decide +kernel
theorem dX12_goesReader_214 : decode cX12_goesReader 214 = .ok (.aload_n 0, 1) := by decide +kernel
theorem dX12_goesReader_215 : decode cX12_goesReader 215 = .ok (.getfield 277, 3) := by decide +kernel
theorem dX12_goesReader_218 : decode cX12_goesReader 218 = .ok (.iastore, 1) := by decide +kernel
theorem dX12_goesReader_219 : decode cX12_goesReader 219 = .ok (.iinc 4 1, 3) := by decide +kernel
theorem dX12_goesReader_222 : decode cX12_goesReader 222 = .ok (.goto (-54), 3) := by decide +kernel
theorem dX12_goesReader_225 : decode cX12_goesReader 225 = .ok (.aload_n 0, 1) := by decide +kernel
theorem dX12_goesReader_226 : decode cX12_goesReader 226 = .ok (.iload_n 3, 1) := by decide +kernel
theorem dX12_goesReader_227 : decode cX12_goesReader 227 = .ok (.aload_n 0, 1) := by decide +kernel
theorem dX12_goesReader_228 : decode cX12_goesReader 228 = .ok (.getfield 75, 3) := by decide +kernel
theorem dX12_goesReader_231 : decode cX12_goesReader 231 = .ok (.iload_n 2, 1) := by decide +kernel
theorem dX12_goesReader_232 : decode cX12_goesReader 232 = .ok (.ifCond .eq 7, 3) := by decide +kernel
theorem dX12_goesReader_235 : decode cX12_goesReader 235 = .ok (.iconst 0, 1) := by decide +kernel
theorem dX12_goesReader_236 : decode cX12_goesReader 236 = .ok (.goto 9, 3) := by decide +kernel
theorem dX12_goesReader_239 : decode cX12_goesReader 239 = .ok (.aload_n 0, 1) := by decide +kernel
theorem dX12_goesReader_240 : decode cX12_goesReader 240 = .ok (.getfield 392, 3) := by decide +kernel
theorem dX12_goesReader_243 : decode cX12_goesReader 243 = .ok (.iconst 1, 1) := by decide +kernel
theorem dX12_goesReader_244 : decode cX12_goesReader 244 = .ok (.isub, 1) := by decide +kernel
theorem dX12_goesReader_245 : decode cX12_goesReader 245 = .ok (.iaload, 1) := by decide +kernel
theorem dX12_goesReader_246 : decode cX12_goesReader 246 = .ok (.invokevirtual 351, 3) := by decide +kernel
theorem dX12_goesReader_249 : decode cX12_goesReader 249 = .ok (.aload_n 0, 1) := by decide +kernel
theorem dX12_goesReader_250 : decode cX12_goesReader 250 = .ok (.getfield 111, 3) := by decide +kernel
theorem dX12_goesReader_253 : decode cX12_goesReader 253 = .ok (.iload_n 1, 1) := by decide +kernel
theorem dX12_goesReader_254 : decode cX12_goesReader 254 = .ok (.aload_n 0, 1) := by decide +kernel
theorem dX12_goesReader_255 : decode cX12_goesReader 255 = .ok (.getfield 334, 3) := by decide +kernel
theorem dX12_goesReader_258 : decode cX12_goesReader 258 = .ok (.iastore, 1) := by decide +kernel
theorem dX12_goesReader_259 : decode cX12_goesReader 259 = .ok (.iconst 0, 1) := by decide +kernel
theorem dX12_goesReader_260 : decode cX12_goesReader 260 = .ok (.istore 4, 2) := by decide +kernel
theorem dX12_goesReader_262 : decode cX12_goesReader 262 = .ok (.iload 4, 2) := by decide +kernel
theorem dX12_goesReader_264 : decode cX12_goesReader 264 = .ok (.aload_n 0, 1) := by decide +kernel
theorem dX12_goesReader_265 : decode cX12_goesReader 265 = .ok (.getfield 334, 3) := by decide +kernel
theorem dX12_goesReader_268 : decode cX12_goesReader 268 = .ok (.if_icmp .ge 28, 3) := by decide +kernel
theorem dX12_goesReader_271 : decode cX12_goesReader 271 = .ok (.aload_n 0, 1) := by decide +kernel
theorem dX12_goesReader_272 : decode cX12_goesReader 272 = .ok (.getfield 114, 3) := by decide +kernel
theorem dX12_goesReader_275 : decode cX12_goesReader 275 = .ok (.bipush 36, 2) := by decide +kernel
theorem dX12_goesReader_277 : decode cX12_goesReader 277 = .ok (.iload_n 1, 1) := by decide +kernel
theorem dX12_goesReader_278 : decode cX12_goesReader 278 = .ok (.imul, 1) := by decide +kernel
theorem dX12_goesReader_279 : decode cX12_goesReader 279 = .ok (.iload 4, 2) := by decide +kernel
theorem dX12_goesReader_281 : decode cX12_goesReader 281 = .ok (.iadd, 1) := by decide +kernel
theorem dX12_goesReader_282 : decode cX12_goesReader 282 = .ok (.aload_n 0, 1) := by decide +kernel
theorem dX12_goesReader_283 : decode cX12_goesReader 283 = .ok (.getfield 60, 3) := by decide +kernel
theorem dX12_goesReader_286 : decode cX12_goesReader 286 = .ok (.iload 4, 2) := by decide +kernel
theorem dX12_goesReader_288 : decode cX12_goesReader 288 = .ok (.iaload, 1) := by decide +kernel
theorem dX12_goesReader_289 : decode cX12_goesReader 289 = .ok (.iastore, 1) := by decide +kernel
theorem dX12_goesReader_290 : decode cX12_goesReader 290 = .ok (.iinc 4 1, 3) := by decide +kernel
theorem dX12_goesReader_293 : decode cX12_goesReader 293 = .ok (.goto (-31), 3) := by decide +kernel
theorem dX12_goesReader_296 : decode cX12_goesReader 296 = .ok (.aload_n 0, 1) := by decide +kernel
theorem dX12_goesReader_297 : decode cX12_goesReader 297 = .ok (.getfield 392, 3) := by decide +kernel
theorem dX12_goesReader_300 : decode cX12_goesReader 300 = .ok (.ireturn, 1) := by decide +kernel
theorem dX12_on_0 : decode cX12_on 0 = .ok (.aload_n 0, 1) := by decide +kernel
theorem dX12_on_1 : decode cX12_on 1 = .ok (.iload_n 1, 1) := by decide +kernel
theorem dX12_on_2 : decode cX12_on 2 = .ok (.iconst 0, 1) := by decide +kernel
theorem dX12_on_3 : decode cX12_on 3 = .ok (.invokevirtual 442, 3) := by decide +kernel
theorem dX12_on_6 : decode cX12_on 6 = .ok (.ireturn, 1) := by decide +kernel
theorem dX12_back_0 : decode cX12_back 0 = .ok (.aload_n 0, 1) := by decide +kernel
theorem dX12_back_1 : decode cX12_back 1 = .ok (.iload_n 1, 1) := by decide +kernel
theorem dX12_back_2 : decode cX12_back 2 = .ok (.iconst 1, 1) := by decide +kernel
theorem dX12_back_3 : decode cX12_back 3 = .ok (.invokevirtual 442, 3) := by decide +kernel
theorem dX12_back_6 : decode cX12_back 6 = .ok (.ireturn, 1) := by decide +kernel
theorem dX12_isCounted_0 : decode cX12_isCounted 0 = .ok (.aload_n 0, 1) := by decide +kernel
theorem dX12_isCounted_1 : decode cX12_isCounted 1 = .ok (.getfield 117, 3) := by decide +kernel
theorem dX12_isCounted_4 : decode cX12_isCounted 4 = .ok (.bipush 64, 2) := by decide +kernel
theorem dX12_isCounted_6 : decode cX12_isCounted 6 = .ok (.iload_n 1, 1) := by decide +kernel
theorem dX12_isCounted_7 : decode cX12_isCounted 7 = .ok (.imul, 1) := by decide +kernel
theorem dX12_isCounted_8 : decode cX12_isCounted 8 = .ok (.iload_n 3, 1) := by decide +kernel
theorem dX12_isCounted_9 : decode cX12_isCounted 9 = .ok (.iadd, 1) := by decide +kernel
theorem dX12_isCounted_10 : decode cX12_isCounted 10 = .ok (.iaload, 1) := by decide +kernel
theorem dX12_isCounted_11 : decode cX12_isCounted 11 = .ok (.istore 4, 2) := by decide +kernel
theorem dX12_isCounted_13 : decode cX12_isCounted 13 = .ok (.iload_n 2, 1) := by decide +kernel
theorem dX12_isCounted_14 : decode cX12_isCounted 14 = .ok (.tableswitch 100 0 3 #[30, 42, 54, 77], 30) := by decide +kernel
theorem dX12_isCounted_44 : decode cX12_isCounted 44 = .ok (.iload 4, 2) := by decide +kernel
theorem dX12_isCounted_46 : decode cX12_isCounted 46 = .ok (.iconst 1, 1) := by decide +kernel
theorem dX12_isCounted_47 : decode cX12_isCounted 47 = .ok (.if_icmp .ne 7, 3) := by decide +kernel
theorem dX12_isCounted_50 : decode cX12_isCounted 50 = .ok (.iconst 1, 1) := by decide +kernel
theorem dX12_isCounted_51 : decode cX12_isCounted 51 = .ok (.goto 4, 3) := by decide +kernel
theorem dX12_isCounted_54 : decode cX12_isCounted 54 = .ok (.iconst 0, 1) := by decide +kernel
theorem dX12_isCounted_55 : decode cX12_isCounted 55 = .ok (.ireturn, 1) := by decide +kernel
theorem dX12_isCounted_56 : decode cX12_isCounted 56 = .ok (.iload 4, 2) := by decide +kernel
theorem dX12_isCounted_58 : decode cX12_isCounted 58 = .ok (.iconst 1, 1) := by decide +kernel
theorem dX12_isCounted_59 : decode cX12_isCounted 59 = .ok (.if_icmp .le 7, 3) := by decide +kernel
theorem dX12_isCounted_62 : decode cX12_isCounted 62 = .ok (.iconst 1, 1) := by decide +kernel
theorem dX12_isCounted_63 : decode cX12_isCounted 63 = .ok (.goto 4, 3) := by decide +kernel
theorem dX12_isCounted_66 : decode cX12_isCounted 66 = .ok (.iconst 0, 1) := by decide +kernel
theorem dX12_isCounted_67 : decode cX12_isCounted 67 = .ok (.ireturn, 1) := by decide +kernel
theorem dX12_isCounted_68 : decode cX12_isCounted 68 = .ok (.iload 4, 2) := by decide +kernel
theorem dX12_isCounted_70 : decode cX12_isCounted 70 = .ok (.ifCond .ne 19, 3) := by decide +kernel
theorem dX12_isCounted_73 : decode cX12_isCounted 73 = .ok (.aload_n 0, 1) := by decide +kernel
theorem dX12_isCounted_74 : decode cX12_isCounted 74 = .ok (.aload_n 0, 1) := by decide +kernel
theorem dX12_isCounted_75 : decode cX12_isCounted 75 = .ok (.getfield 277, 3) := by decide +kernel
theorem dX12_isCounted_78 : decode cX12_isCounted 78 = .ok (.iload_n 3, 1) := by decide +kernel
theorem dX12_isCounted_79 : decode cX12_isCounted 79 = .ok (.invokevirtual 385, 3) := by decide +kernel
theorem dX12_isCounted_82 : decode cX12_isCounted 82 = .ok (.ifCond .eq 7, 3) := by decide +kernel
theorem dX12_isCounted_85 : decode cX12_isCounted 85 = .ok (.iconst 1, 1) := by decide +kernel
theorem dX12_isCounted_86 : decode cX12_isCounted 86 = .ok (.goto 4, 3) := by decide +kernel
theorem dX12_isCounted_89 : decode cX12_isCounted 89 = .ok (.iconst 0, 1) := by decide +kernel
theorem dX12_isCounted_90 : decode cX12_isCounted 90 = .ok (.ireturn, 1) := by decide +kernel
theorem dX12_isCounted_91 : decode cX12_isCounted 91 = .ok (.iload 4, 2) := by decide +kernel
theorem dX12_isCounted_93 : decode cX12_isCounted 93 = .ok (.ifCond .le 19, 3) := by decide +kernel
theorem dX12_isCounted_96 : decode cX12_isCounted 96 = .ok (.aload_n 0, 1) := by decide +kernel
theorem dX12_isCounted_97 : decode cX12_isCounted 97 = .ok (.aload_n 0, 1) := by decide +kernel
theorem dX12_isCounted_98 : decode cX12_isCounted 98 = .ok (.getfield 277, 3) := by decide +kernel
theorem dX12_isCounted_101 : decode cX12_isCounted 101 = .ok (.iload_n 3, 1) := by decide +kernel
theorem dX12_isCounted_102 : decode cX12_isCounted 102 = .ok (.invokevirtual 305, 3) := by decide +kernel
theorem dX12_isCounted_105 : decode cX12_isCounted 105 = .ok (.ifCond .ne 7, 3) := by decide +kernel
theorem dX12_isCounted_108 : decode cX12_isCounted 108 = .ok (.iconst 1, 1) := by decide +kernel
theorem dX12_isCounted_109 : decode cX12_isCounted 109 = .ok (.goto 4, 3) := by decide +kernel
theorem dX12_isCounted_112 : decode cX12_isCounted 112 = .ok (.iconst 0, 1) := by decide +kernel
theorem dX12_isCounted_113 : decode cX12_isCounted 113 = .ok (.ireturn, 1) := by decide +kernel
theorem dX12_isCounted_114 : decode cX12_isCounted 114 = .ok (.iload 4, 2) := by decide +kernel
theorem dX12_isCounted_116 : decode cX12_isCounted 116 = .ok (.ifCond .le 39, 3) := by decide +kernel
theorem dX12_isCounted_119 : decode cX12_isCounted 119 = .ok (.aload_n 0, 1) := by decide +kernel
theorem dX12_isCounted_120 : decode cX12_isCounted 120 = .ok (.aload_n 0, 1) := by decide +kernel
theorem dX12_isCounted_121 : decode cX12_isCounted 121 = .ok (.getfield 277, 3) := by decide +kernel
theorem dX12_isCounted_124 : decode cX12_isCounted 124 = .ok (.iload_n 3, 1) := by decide +kernel
theorem dX12_isCounted_125 : decode cX12_isCounted 125 = .ok (.invokevirtual 305, 3) := by decide +kernel
theorem dX12_isCounted_128 : decode cX12_isCounted 128 = .ok (.ifCond .eq 27, 3) := by decide +kernel
theorem dX12_isCounted_131 : decode cX12_isCounted 131 = .ok (.aload_n 0, 1) := by decide +kernel
theorem dX12_isCounted_132 : decode cX12_isCounted 132 = .ok (.getfield 57, 3) := by decide +kernel
theorem dX12_isCounted_135 : decode cX12_isCounted 135 = .ok (.iload_n 3, 1) := by decide +kernel
theorem dX12_isCounted_136 : decode cX12_isCounted 136 = .ok (.iaload, 1) := by decide +kernel
theorem dX12_isCounted_137 : decode cX12_isCounted 137 = .ok (.aload_n 0, 1) := by decide +kernel
theorem dX12_isCounted_138 : decode cX12_isCounted 138 = .ok (.getfield 120, 3) := by decide +kernel
theorem dX12_isCounted_141 : decode cX12_isCounted 141 = .ok (.bipush 64, 2) := by decide +kernel
theorem dX12_isCounted_143 : decode cX12_isCounted 143 = .ok (.iload_n 1, 1) := by decide +kernel
theorem dX12_isCounted_144 : decode cX12_isCounted 144 = .ok (.imul, 1) := by decide +kernel
theorem dX12_isCounted_145 : decode cX12_isCounted 145 = .ok (.iload_n 3, 1) := by decide +kernel
theorem dX12_isCounted_146 : decode cX12_isCounted 146 = .ok (.iadd, 1) := by decide +kernel
theorem dX12_isCounted_147 : decode cX12_isCounted 147 = .ok (.iaload, 1) := by decide +kernel
theorem dX12_isCounted_148 : decode cX12_isCounted 148 = .ok (.if_icmp .le 7, 3) := by decide +kernel
theorem dX12_isCounted_151 : decode cX12_isCounted 151 = .ok (.iconst 1, 1) := by decide +kernel
theorem dX12_isCounted_152 : decode cX12_isCounted 152 = .ok (.goto 4, 3) := by decide +kernel
theorem dX12_isCounted_155 : decode cX12_isCounted 155 = .ok (.iconst 0, 1) := by decide +kernel
theorem dX12_isCounted_156 : decode cX12_isCounted 156 = .ok (.ireturn, 1) := by decide +kernel
theorem dX12_account_0 : decode cX12_account 0 = .ok (.aload_n 0, 1) := by decide +kernel
theorem dX12_account_1 : decode cX12_account 1 = .ok (.aload_n 0, 1) := by decide +kernel
theorem dX12_account_2 : decode cX12_account 2 = .ok (.iload_n 1, 1) := by decide +kernel
theorem dX12_account_3 : decode cX12_account 3 = .ok (.invokevirtual 439, 3) := by decide +kernel
theorem dX12_account_6 : decode cX12_account 6 = .ok (.ifCond .eq 19, 3) := by decide +kernel
theorem dX12_account_9 : decode cX12_account 9 = .ok (.iload_n 2, 1) := by decide +kernel
theorem dX12_account_10 : decode cX12_account 10 = .ok (.i2l, 1) := by decide +kernel
theorem dX12_account_11 : decode cX12_account 11 = .ok (.lconst 0, 1) := by decide +kernel
theorem dX12_account_12 : decode cX12_account 12 = .ok (.ldc2_w 445, 3) := by decide +kernel
theorem dX12_account_15 : decode cX12_account 15 = .ok (.invokestatic 159, 3) := by decide +kernel
theorem dX12_account_18 : decode cX12_account 18 = .ok (.ifCond .eq 7, 3) := by decide +kernel
theorem dX12_account_21 : decode cX12_account 21 = .ok (.iconst 1, 1) := by decide +kernel
theorem dX12_account_22 : decode cX12_account 22 = .ok (.goto 4, 3) := by decide +kernel
theorem dX12_account_25 : decode cX12_account 25 = .ok (.iconst 0, 1) := by decide +kernel
theorem dX12_account_26 : decode cX12_account 26 = .ok (.invokestatic 312, 3) := by decide +kernel
theorem dX12_account_29 : decode cX12_account 29 = .ok (.invokevirtual 256, 3) := by decide +kernel
theorem dX12_account_32 : decode cX12_account 32 = .ok (.ifCond .eq 5, 3) := by decide +kernel
theorem dX12_account_35 : decode cX12_account 35 = .ok (.iconst (-1), 1) := by decide +kernel
theorem dX12_account_36 : decode cX12_account 36 = .ok (.ireturn, 1) := by decide +kernel
theorem dX12_account_37 : decode cX12_account 37 = .ok (.iload_n 2, 1) := by decide +kernel
theorem dX12_account_38 : decode cX12_account 38 = .ok (.iconst 4, 1) := by decide +kernel
theorem dX12_account_39 : decode cX12_account 39 = .ok (.if_icmp .le 32, 3) := by decide +kernel
theorem dX12_account_42 : decode cX12_account 42 = .ok (.iload_n 2, 1) := by decide +kernel
theorem dX12_account_43 : decode cX12_account 43 = .ok (.iconst 5, 1) := by decide +kernel
theorem dX12_account_44 : decode cX12_account 44 = .ok (.if_icmp .ne 20, 3) := by decide +kernel
theorem dX12_account_47 : decode cX12_account 47 = .ok (.aload_n 0, 1) := by decide +kernel
theorem dX12_account_48 : decode cX12_account 48 = .ok (.getfield 105, 3) := by decide +kernel
theorem dX12_account_51 : decode cX12_account 51 = .ok (.iload_n 1, 1) := by decide +kernel
theorem dX12_account_52 : decode cX12_account 52 = .ok (.baload, 1) := by decide +kernel
theorem dX12_account_53 : decode cX12_account 53 = .ok (.ifCond .eq 7, 3) := by decide +kernel
theorem dX12_account_56 : decode cX12_account 56 = .ok (.iconst 1, 1) := by decide +kernel
theorem dX12_account_57 : decode cX12_account 57 = .ok (.goto 13, 3) := by decide +kernel
theorem dX12_account_60 : decode cX12_account 60 = .ok (.iconst 0, 1) := by decide +kernel
theorem dX12_account_61 : decode cX12_account 61 = .ok (.goto 9, 3) := by decide +kernel
theorem dX12_account_64 : decode cX12_account 64 = .ok (.aload_n 0, 1) := by decide +kernel
theorem dX12_account_65 : decode cX12_account 65 = .ok (.getfield 108, 3) := by decide +kernel
theorem dX12_account_68 : decode cX12_account 68 = .ok (.iload_n 1, 1) := by decide +kernel
theorem dX12_account_69 : decode cX12_account 69 = .ok (.iaload, 1) := by decide +kernel
theorem dX12_account_70 : decode cX12_account 70 = .ok (.ireturn, 1) := by decide +kernel
theorem dX12_account_71 : decode cX12_account 71 = .ok (.iconst 0, 1) := by decide +kernel
theorem dX12_account_72 : decode cX12_account 72 = .ok (.istore_n 3, 1) := by decide +kernel
theorem dX12_account_73 : decode cX12_account 73 = .ok (.iconst 0, 1) := by decide +kernel
theorem dX12_account_74 : decode cX12_account 74 = .ok (.istore 4, 2) := by decide +kernel
theorem dX12_account_76 : decode cX12_account 76 = .ok (.iload 4, 2) := by decide +kernel
theorem dX12_account_78 : decode cX12_account 78 = .ok (.aload_n 0, 1) := by decide +kernel
theorem dX12_account_79 : decode cX12_account 79 = .ok (.getfield 283, 3) := by decide +kernel
theorem dX12_account_82 : decode cX12_account 82 = .ok (.if_icmp .ge 28, 3) := by decide +kernel
theorem dX12_account_85 : decode cX12_account 85 = .ok (.iload_n 3, 1) := by decide +kernel
theorem dX12_account_86 : decode cX12_account 86 = .ok (.aload_n 0, 1) := by decide +kernel
theorem dX12_account_87 : decode cX12_account 87 = .ok (.iload_n 1, 1) := by decide +kernel
theorem dX12_account_88 : decode cX12_account 88 = .ok (.iload_n 2, 1) := by decide +kernel
theorem dX12_account_89 : decode cX12_account 89 = .ok (.iload 4, 2) := by decide +kernel
theorem dX12_account_91 : decode cX12_account 91 = .ok (.invokevirtual 447, 3) := by decide +kernel
theorem dX12_account_94 : decode cX12_account 94 = .ok (.ifCond .eq 7, 3) := by decide +kernel
theorem dX12_account_97 : decode cX12_account 97 = .ok (.iconst 1, 1) := by decide +kernel
theorem dX12_account_98 : decode cX12_account 98 = .ok (.goto 4, 3) := by decide +kernel
theorem dX12_account_101 : decode cX12_account 101 = .ok (.iconst 0, 1) := by decide +kernel
theorem dX12_account_102 : decode cX12_account 102 = .ok (.iadd, 1) := by decide +kernel
theorem dX12_account_103 : decode cX12_account 103 = .ok (.istore_n 3, 1) := by decide +kernel
theorem dX12_account_104 : decode cX12_account 104 = .ok (.iinc 4 1, 3) := by decide +kernel
theorem dX12_account_107 : decode cX12_account 107 = .ok (.goto (-31), 3) := by decide +kernel
theorem dX12_account_110 : decode cX12_account 110 = .ok (.iload_n 3, 1) := by decide +kernel
theorem dX12_account_111 : decode cX12_account 111 = .ok (.ireturn, 1) := by decide +kernel
theorem dX12_seen_0 : decode cX12_seen 0 = .ok (.aload_n 0, 1) := by decide +kernel
theorem dX12_seen_1 : decode cX12_seen 1 = .ok (.aload_n 0, 1) := by decide +kernel
theorem dX12_seen_2 : decode cX12_seen 2 = .ok (.iload_n 1, 1) := by decide +kernel
theorem dX12_seen_3 : decode cX12_seen 3 = .ok (.invokevirtual 439, 3) := by decide +kernel
theorem dX12_seen_6 : decode cX12_seen 6 = .ok (.ifCond .eq 23, 3) := by decide +kernel
theorem dX12_seen_9 : decode cX12_seen 9 = .ok (.iload_n 2, 1) := by decide +kernel
theorem dX12_seen_10 : decode cX12_seen 10 = .ok (.i2l, 1) := by decide +kernel
theorem dX12_seen_11 : decode cX12_seen 11 = .ok (.lconst 0, 1) := by decide +kernel
theorem dX12_seen_12 : decode cX12_seen 12 = .ok (.aload_n 0, 1) := by decide +kernel
theorem dX12_seen_13 : decode cX12_seen 13 = .ok (.getfield 283, 3) := by decide +kernel
theorem dX12_seen_16 : decode cX12_seen 16 = .ok (.iconst 1, 1) := by decide +kernel
theorem dX12_seen_17 : decode cX12_seen 17 = .ok (.isub, 1) := by decide +kernel
theorem dX12_seen_18 : decode cX12_seen 18 = .ok (.i2l, 1) := by decide +kernel
theorem dX12_seen_19 : decode cX12_seen 19 = .ok (.invokestatic 159, 3) := by decide +kernel
theorem dX12_seen_22 : decode cX12_seen 22 = .ok (.ifCond .eq 7, 3) := by decide +kernel
theorem dX12_seen_25 : decode cX12_seen 25 = .ok (.iconst 1, 1) := by decide +kernel
theorem dX12_seen_26 : decode cX12_seen 26 = .ok (.goto 4, 3) := by decide +kernel
theorem dX12_seen_29 : decode cX12_seen 29 = .ok (.iconst 0, 1) := by decide +kernel
theorem dX12_seen_30 : decode cX12_seen 30 = .ok (.invokestatic 312, 3) := by decide +kernel
theorem dX12_seen_33 : decode cX12_seen 33 = .ok (.invokevirtual 256, 3) := by decide +kernel
theorem dX12_seen_36 : decode cX12_seen 36 = .ok (.ifCond .eq 7, 3) := by decide +kernel
theorem dX12_seen_39 : decode cX12_seen 39 = .ok (.iconst (-1), 1) := by decide +kernel
theorem dX12_seen_40 : decode cX12_seen 40 = .ok (.goto 14, 3) := by decide +kernel
theorem dX12_seen_43 : decode cX12_seen 43 = .ok (.aload_n 0, 1) := by decide +kernel
theorem dX12_seen_44 : decode cX12_seen 44 = .ok (.getfield 117, 3) := by decide +kernel
theorem dX12_seen_47 : decode cX12_seen 47 = .ok (.bipush 64, 2) := by decide +kernel
theorem dX12_seen_49 : decode cX12_seen 49 = .ok (.iload_n 1, 1) := by decide +kernel
theorem dX12_seen_50 : decode cX12_seen 50 = .ok (.imul, 1) := by decide +kernel
theorem dX12_seen_51 : decode cX12_seen 51 = .ok (.iload_n 2, 1) := by decide +kernel
theorem dX12_seen_52 : decode cX12_seen 52 = .ok (.iadd, 1) := by decide +kernel
theorem dX12_seen_53 : decode cX12_seen 53 = .ok (.iaload, 1) := by decide +kernel
theorem dX12_seen_54 : decode cX12_seen 54 = .ok (.ireturn, 1) := by decide +kernel
theorem dX12_offered_0 : decode cX12_offered 0 = .ok (.iload_n 1, 1) := by decide +kernel
theorem dX12_offered_1 : decode cX12_offered 1 = .ok (.ifCond .ne 7, 3) := by decide +kernel
theorem dX12_offered_4 : decode cX12_offered 4 = .ok (.lload_n 2, 1) := by decide +kernel
theorem dX12_offered_5 : decode cX12_offered 5 = .ok (.goto 25, 3) := by decide +kernel
theorem dX12_offered_8 : decode cX12_offered 8 = .ok (.iload_n 1, 1) := by decide +kernel
theorem dX12_offered_9 : decode cX12_offered 9 = .ok (.iconst 1, 1) := by decide +kernel
theorem dX12_offered_10 : decode cX12_offered 10 = .ok (.if_icmp .ne 8, 3) := by decide +kernel
theorem dX12_offered_13 : decode cX12_offered 13 = .ok (.lload 4, 2) := by decide +kernel
theorem dX12_offered_15 : decode cX12_offered 15 = .ok (.goto 15, 3) := by decide +kernel
theorem dX12_offered_18 : decode cX12_offered 18 = .ok (.iload_n 1, 1) := by decide +kernel
theorem dX12_offered_19 : decode cX12_offered 19 = .ok (.iconst 2, 1) := by decide +kernel
theorem dX12_offered_20 : decode cX12_offered 20 = .ok (.if_icmp .ne 8, 3) := by decide +kernel
theorem dX12_offered_23 : decode cX12_offered 23 = .ok (.lload 6, 2) := by decide +kernel
theorem dX12_offered_25 : decode cX12_offered 25 = .ok (.goto 5, 3) := by decide +kernel
theorem dX12_offered_28 : decode cX12_offered 28 = .ok (.lload 8, 2) := by decide +kernel
theorem dX12_offered_30 : decode cX12_offered 30 = .ok (.lreturn, 1) := by decide +kernel
theorem dX12_insert_0 : decode cX12_insert 0 = .ok (.aload_n 0, 1) := by decide +kernel
theorem dX12_insert_1 : decode cX12_insert 1 = .ok (.aload_n 0, 1) := by decide +kernel
theorem dX12_insert_2 : decode cX12_insert 2 = .ok (.getfield 296, 3) := by decide +kernel
theorem dX12_insert_5 : decode cX12_insert 5 = .ok (.invokestatic 312, 3) := by decide +kernel
theorem dX12_insert_8 : decode cX12_insert 8 = .ok (.invokevirtual 256, 3) := by decide +kernel
theorem dX12_insert_11 : decode cX12_insert 11 = .ok (.ifCond .eq 5, 3) := by decide +kernel
theorem dX12_insert_14 : decode cX12_insert 14 = .ok (.iconst (-1), 1) := by decide +kernel
theorem dX12_insert_15 : decode cX12_insert 15 = .ok (.ireturn, 1) := by decide +kernel
theorem dX12_insert_16 : decode cX12_insert 16 = .ok (.iconst 0, 1) := by decide +kernel
theorem dX12_insert_17 : decode cX12_insert 17 = .ok (.istore 9, 2) := by decide +kernel
theorem dX12_insert_19 : decode cX12_insert 19 = .ok (.iload 9, 2) := by decide +kernel
theorem dX12_insert_21 : decode cX12_insert 21 = .ok (.aload_n 0, 1) := by decide +kernel
theorem dX12_insert_22 : decode cX12_insert 22 = .ok (.getfield 271, 3) := by decide +kernel
theorem dX12_insert_25 : decode cX12_insert 25 = .ok (.if_icmp .ge 37, 3) := by decide +kernel
theorem dX12_insert_28 : decode cX12_insert 28 = .ok (.aload_n 0, 1) := by decide +kernel
theorem dX12_insert_29 : decode cX12_insert 29 = .ok (.iload 9, 2) := by decide +kernel
theorem dX12_insert_31 : decode cX12_insert 31 = .ok (.aload_n 0, 1) := by decide +kernel
theorem dX12_insert_32 : decode cX12_insert 32 = .ok (.iload 9, 2) := by decide +kernel
theorem dX12_insert_34 : decode cX12_insert 34 = .ok (.lload_n 1, 1) := by decide +kernel
theorem dX12_insert_35 : decode cX12_insert 35 = .ok (.lload_n 3, 1) := by decide +kernel
theorem dX12_insert_36 : decode cX12_insert 36 = .ok (.lload 5, 2) := by decide +kernel
theorem dX12_insert_38 : decode cX12_insert 38 = .ok (.lload 7, 2) := by decide +kernel
theorem dX12_insert_40 : decode cX12_insert 40 = .ok (.invokevirtual 451, 3) := by decide +kernel
theorem dX12_insert_43 : decode cX12_insert 43 = .ok (.iconst 1, 1) := by decide +kernel
theorem dX12_insert_44 : decode cX12_insert 44 = .ok (.invokevirtual 378, 3) := by decide +kernel
theorem dX12_insert_47 : decode cX12_insert 47 = .ok (.ifCond .ne 9, 3) := by decide +kernel
theorem dX12_insert_50 : decode cX12_insert 50 = .ok (.aload_n 0, 1) := by decide +kernel
theorem dX12_insert_51 : decode cX12_insert 51 = .ok (.iconst 2, 1) := by decide +kernel
theorem dX12_insert_52 : decode cX12_insert 52 = .ok (.invokevirtual 265, 3) := by decide +kernel
theorem dX12_insert_55 : decode cX12_insert 55 = .ok (.ireturn, 1) := by decide +kernel
theorem dX12_insert_56 : decode cX12_insert 56 = .ok (.iinc 9 1, 3) := by decide +kernel
theorem dX12_insert_59 : decode cX12_insert 59 = .ok (.goto (-40), 3) := by decide +kernel
theorem dX12_insert_62 : decode cX12_insert 62 = .ok (.aload_n 0, 1) := by decide +kernel
theorem dX12_insert_63 : decode cX12_insert 63 = .ok (.invokevirtual 316, 3) := by decide +kernel
theorem dX12_insert_66 : decode cX12_insert 66 = .ok (.bipush 40, 2) := by decide +kernel
theorem dX12_insert_68 : decode cX12_insert 68 = .ok (.if_icmp .eq 12, 3) := by decide +kernel
theorem dX12_insert_71 : decode cX12_insert 71 = .ok (.aload_n 0, 1) := by decide +kernel
theorem dX12_insert_72 : decode cX12_insert 72 = .ok (.getfield 283, 3) := by decide +kernel
theorem dX12_insert_75 : decode cX12_insert 75 = .ok (.bipush 64, 2) := by decide +kernel
theorem dX12_insert_77 : decode cX12_insert 77 = .ok (.if_icmp .ne 9, 3) := by decide +kernel
theorem dX12_insert_80 : decode cX12_insert 80 = .ok (.aload_n 0, 1) := by decide +kernel
theorem dX12_insert_81 : decode cX12_insert 81 = .ok (.iconst 3, 1) := by decide +kernel
theorem dX12_insert_82 : decode cX12_insert 82 = .ok (.invokevirtual 265, 3) := by decide +kernel
theorem dX12_insert_85 : decode cX12_insert 85 = .ok (.ireturn, 1) := by decide +kernel
theorem dX12_insert_86 : decode cX12_insert 86 = .ok (.aload_n 0, 1) := by decide +kernel
theorem dX12_insert_87 : decode cX12_insert 87 = .ok (.invokevirtual 455, 3) := by decide +kernel
theorem dX12_insert_90 : decode cX12_insert 90 = .ok (.aload_n 0, 1) := by decide +kernel
theorem dX12_insert_91 : decode cX12_insert 91 = .ok (.getfield 283, 3) := by decide +kernel
theorem dX12_insert_94 : decode cX12_insert 94 = .ok (.istore 9, 2) := by decide +kernel
theorem dX12_insert_96 : decode cX12_insert 96 = .ok (.aload_n 0, 1) := by decide +kernel
theorem dX12_insert_97 : decode cX12_insert 97 = .ok (.dup, 1) := by decide +kernel
theorem dX12_insert_98 : decode cX12_insert 98 = .ok (.getfield 283, 3) := by decide +kernel
theorem dX12_insert_101 : decode cX12_insert 101 = .ok (.iconst 1, 1) := by decide +kernel
theorem dX12_insert_102 : decode cX12_insert 102 = .ok (.iadd, 1) := by decide +kernel
theorem dX12_insert_103 : decode cX12_insert 103 = .ok (.putfield 283, 3) := by decide +kernel
theorem dX12_insert_106 : decode cX12_insert 106 = .ok (.aload_n 0, 1) := by decide +kernel
theorem dX12_insert_107 : decode cX12_insert 107 = .ok (.getfield 51, 3) := by decide +kernel
theorem dX12_insert_110 : decode cX12_insert 110 = .ok (.aload_n 0, 1) := by decide +kernel
theorem dX12_insert_111 : decode cX12_insert 111 = .ok (.getfield 277, 3) := by decide +kernel
theorem dX12_insert_114 : decode cX12_insert 114 = .ok (.iload 9, 2) := by decide +kernel
theorem dX12_insert_116 : decode cX12_insert 116 = .ok (.invokestatic 301, 3) := by decide +kernel
theorem dX12_insert_119 : decode cX12_insert 119 = .ok (.iconst 1, 1) := by decide +kernel
theorem dX12_insert_120 : decode cX12_insert 120 = .ok (.bastore, 1) := by decide +kernel
theorem dX12_insert_121 : decode cX12_insert 121 = .ok (.aload_n 0, 1) := by decide +kernel
theorem dX12_insert_122 : decode cX12_insert 122 = .ok (.getfield 57, 3) := by decide +kernel
theorem dX12_insert_125 : decode cX12_insert 125 = .ok (.iload 9, 2) := by decide +kernel
theorem dX12_insert_127 : decode cX12_insert 127 = .ok (.aload_n 0, 1) := by decide +kernel
theorem dX12_insert_128 : decode cX12_insert 128 = .ok (.getfield 277, 3) := by decide +kernel
theorem dX12_insert_131 : decode cX12_insert 131 = .ok (.iastore, 1) := by decide +kernel
theorem dX12_insert_132 : decode cX12_insert 132 = .ok (.iconst 0, 1) := by decide +kernel
theorem dX12_insert_133 : decode cX12_insert 133 = .ok (.istore 10, 2) := by decide +kernel
theorem dX12_insert_135 : decode cX12_insert 135 = .ok (.iload 10, 2) := by decide +kernel
theorem dX12_insert_137 : decode cX12_insert 137 = .ok (.aload_n 0, 1) := by decide +kernel
theorem dX12_insert_138 : decode cX12_insert 138 = .ok (.getfield 271, 3) := by decide +kernel
theorem dX12_insert_141 : decode cX12_insert 141 = .ok (.if_icmp .ge 40, 3) := by decide +kernel
theorem dX12_insert_144 : decode cX12_insert 144 = .ok (.aload_n 0, 1) := by decide +kernel
theorem dX12_insert_145 : decode cX12_insert 145 = .ok (.getfield 54, 3) := by decide +kernel
theorem dX12_insert_148 : decode cX12_insert 148 = .ok (.iconst 4, 1) := by decide +kernel
theorem dX12_insert_149 : decode cX12_insert 149 = .ok (.aload_n 0, 1) := by decide +kernel
theorem dX12_insert_150 : decode cX12_insert 150 = .ok (.getfield 277, 3) := by decide +kernel
theorem dX12_insert_153 : decode cX12_insert 153 = .ok (.iload 9, 2) := by decide +kernel
theorem dX12_insert_155 : decode cX12_insert 155 = .ok (.invokestatic 301, 3) := by decide +kernel
theorem dX12_insert_158 : decode cX12_insert 158 = .ok (.imul, 1) := by decide +kernel
theorem dX12_insert_159 : decode cX12_insert 159 = .ok (.iload 10, 2) := by decide +kernel
theorem dX12_insert_161 : decode cX12_insert 161 = .ok (.iadd, 1) := by decide +kernel
theorem dX12_insert_162 : decode cX12_insert 162 = .ok (.aload_n 0, 1) := by decide +kernel
theorem dX12_insert_163 : decode cX12_insert 163 = .ok (.iload 10, 2) := by decide +kernel
theorem dX12_insert_165 : decode cX12_insert 165 = .ok (.lload_n 1, 1) := by decide +kernel
theorem dX12_insert_166 : decode cX12_insert 166 = .ok (.lload_n 3, 1) := by decide +kernel
theorem dX12_insert_167 : decode cX12_insert 167 = .ok (.lload 5, 2) := by decide +kernel
theorem dX12_insert_169 : decode cX12_insert 169 = .ok (.lload 7, 2) := by decide +kernel
theorem dX12_insert_171 : decode cX12_insert 171 = .ok (.invokevirtual 451, 3) := by decide +kernel
theorem dX12_insert_174 : decode cX12_insert 174 = .ok (.lastore, 1) := by decide +kernel
theorem dX12_insert_175 : decode cX12_insert 175 = .ok (.iinc 10 1, 3) := by decide +kernel
theorem dX12_insert_178 : decode cX12_insert 178 = .ok (.goto (-43), 3) := by decide +kernel
theorem dX12_insert_181 : decode cX12_insert 181 = .ok (.iload 9, 2) := by decide +kernel
theorem dX12_insert_183 : decode cX12_insert 183 = .ok (.ireturn, 1) := by decide +kernel
theorem dX12_remove_0 : decode cX12_remove 0 = .ok (.aload_n 0, 1) := by decide +kernel
theorem dX12_remove_1 : decode cX12_remove 1 = .ok (.aload_n 0, 1) := by decide +kernel
theorem dX12_remove_2 : decode cX12_remove 2 = .ok (.iload_n 1, 1) := by decide +kernel
theorem dX12_remove_3 : decode cX12_remove 3 = .ok (.invokevirtual 324, 3) := by decide +kernel
theorem dX12_remove_6 : decode cX12_remove 6 = .ok (.invokestatic 312, 3) := by decide +kernel
theorem dX12_remove_9 : decode cX12_remove 9 = .ok (.invokevirtual 256, 3) := by decide +kernel
theorem dX12_remove_12 : decode cX12_remove 12 = .ok (.ifCond .eq 5, 3) := by decide +kernel
theorem dX12_remove_15 : decode cX12_remove 15 = .ok (.iconst (-1), 1) := by decide +kernel
theorem dX12_remove_16 : decode cX12_remove 16 = .ok (.ireturn, 1) := by decide +kernel
theorem dX12_remove_17 : decode cX12_remove 17 = .ok (.aload_n 0, 1) := by decide +kernel
theorem dX12_remove_18 : decode cX12_remove 18 = .ok (.invokevirtual 455, 3) := by decide +kernel
theorem dX12_remove_21 : decode cX12_remove 21 = .ok (.aload_n 0, 1) := by decide +kernel
theorem dX12_remove_22 : decode cX12_remove 22 = .ok (.getfield 51, 3) := by decide +kernel
theorem dX12_remove_25 : decode cX12_remove 25 = .ok (.aload_n 0, 1) := by decide +kernel
theorem dX12_remove_26 : decode cX12_remove 26 = .ok (.getfield 277, 3) := by decide +kernel
theorem dX12_remove_29 : decode cX12_remove 29 = .ok (.iload_n 1, 1) := by decide +kernel
theorem dX12_remove_30 : decode cX12_remove 30 = .ok (.invokestatic 301, 3) := by decide +kernel
theorem dX12_remove_33 : decode cX12_remove 33 = .ok (.iconst 0, 1) := by decide +kernel
theorem dX12_remove_34 : decode cX12_remove 34 = .ok (.bastore, 1) := by decide +kernel
theorem dX12_remove_35 : decode cX12_remove 35 = .ok (.aload_n 0, 1) := by decide +kernel
theorem dX12_remove_36 : decode cX12_remove 36 = .ok (.invokevirtual 316, 3) := by decide +kernel
theorem dX12_remove_39 : decode cX12_remove 39 = .ok (.ireturn, 1) := by decide +kernel
theorem dX12_change_0 : decode cX12_change 0 = .ok (.aload_n 0, 1) := by decide +kernel
theorem dX12_change_1 : decode cX12_change 1 = .ok (.aload_n 0, 1) := by decide +kernel
theorem dX12_change_2 : decode cX12_change 2 = .ok (.iload_n 1, 1) := by decide +kernel
theorem dX12_change_3 : decode cX12_change 3 = .ok (.invokevirtual 324, 3) := by decide +kernel
theorem dX12_change_6 : decode cX12_change 6 = .ok (.ifCond .eq 15, 3) := by decide +kernel
theorem dX12_change_9 : decode cX12_change 9 = .ok (.aload_n 0, 1) := by decide +kernel
theorem dX12_change_10 : decode cX12_change 10 = .ok (.iload_n 2, 1) := by decide +kernel
theorem dX12_change_11 : decode cX12_change 11 = .ok (.invokevirtual 319, 3) := by decide +kernel
theorem dX12_change_14 : decode cX12_change 14 = .ok (.ifCond .eq 7, 3) := by decide +kernel
theorem dX12_change_17 : decode cX12_change 17 = .ok (.iconst 1, 1) := by decide +kernel
theorem dX12_change_18 : decode cX12_change 18 = .ok (.goto 4, 3) := by decide +kernel
theorem dX12_change_21 : decode cX12_change 21 = .ok (.iconst 0, 1) := by decide +kernel
theorem dX12_change_22 : decode cX12_change 22 = .ok (.invokestatic 312, 3) := by decide +kernel
theorem dX12_change_25 : decode cX12_change 25 = .ok (.invokevirtual 256, 3) := by decide +kernel
theorem dX12_change_28 : decode cX12_change 28 = .ok (.ifCond .eq 5, 3) := by decide +kernel
theorem dX12_change_31 : decode cX12_change 31 = .ok (.iconst (-1), 1) := by decide +kernel
theorem dX12_change_32 : decode cX12_change 32 = .ok (.ireturn, 1) := by decide +kernel
theorem dX12_change_33 : decode cX12_change 33 = .ok (.aload_n 0, 1) := by decide +kernel
theorem dX12_change_34 : decode cX12_change 34 = .ok (.iload_n 2, 1) := by decide +kernel
theorem dX12_change_35 : decode cX12_change 35 = .ok (.lload_n 3, 1) := by decide +kernel
theorem dX12_change_36 : decode cX12_change 36 = .ok (.iconst 1, 1) := by decide +kernel
theorem dX12_change_37 : decode cX12_change 37 = .ok (.invokevirtual 378, 3) := by decide +kernel
theorem dX12_change_40 : decode cX12_change 40 = .ok (.ifCond .ne 9, 3) := by decide +kernel
theorem dX12_change_43 : decode cX12_change 43 = .ok (.aload_n 0, 1) := by decide +kernel
theorem dX12_change_44 : decode cX12_change 44 = .ok (.iconst 2, 1) := by decide +kernel
theorem dX12_change_45 : decode cX12_change 45 = .ok (.invokevirtual 265, 3) := by decide +kernel
theorem dX12_change_48 : decode cX12_change 48 = .ok (.ireturn, 1) := by decide +kernel
theorem dX12_change_49 : decode cX12_change 49 = .ok (.aload_n 0, 1) := by decide +kernel
theorem dX12_change_50 : decode cX12_change 50 = .ok (.invokevirtual 455, 3) := by decide +kernel
theorem dX12_change_53 : decode cX12_change 53 = .ok (.aload_n 0, 1) := by decide +kernel
theorem dX12_change_54 : decode cX12_change 54 = .ok (.getfield 54, 3) := by decide +kernel
theorem dX12_change_57 : decode cX12_change 57 = .ok (.iconst 4, 1) := by decide +kernel
theorem dX12_change_58 : decode cX12_change 58 = .ok (.aload_n 0, 1) := by decide +kernel
theorem dX12_change_59 : decode cX12_change 59 = .ok (.getfield 277, 3) := by decide +kernel
theorem dX12_change_62 : decode cX12_change 62 = .ok (.iload_n 1, 1) := by decide +kernel
theorem dX12_change_63 : decode cX12_change 63 = .ok (.invokestatic 301, 3) := by decide +kernel
theorem dX12_change_66 : decode cX12_change 66 = .ok (.imul, 1) := by decide +kernel
theorem dX12_change_67 : decode cX12_change 67 = .ok (.iload_n 2, 1) := by decide +kernel
theorem dX12_change_68 : decode cX12_change 68 = .ok (.iadd, 1) := by decide +kernel
theorem dX12_change_69 : decode cX12_change 69 = .ok (.lload_n 3, 1) := by decide +kernel
theorem dX12_change_70 : decode cX12_change 70 = .ok (.lastore, 1) := by decide +kernel
theorem dX12_change_71 : decode cX12_change 71 = .ok (.aload_n 0, 1) := by decide +kernel
theorem dX12_change_72 : decode cX12_change 72 = .ok (.getfield 57, 3) := by decide +kernel
theorem dX12_change_75 : decode cX12_change 75 = .ok (.iload_n 1, 1) := by decide +kernel
theorem dX12_change_76 : decode cX12_change 76 = .ok (.aload_n 0, 1) := by decide +kernel
theorem dX12_change_77 : decode cX12_change 77 = .ok (.getfield 277, 3) := by decide +kernel
theorem dX12_change_80 : decode cX12_change 80 = .ok (.iastore, 1) := by decide +kernel
theorem dX12_change_81 : decode cX12_change 81 = .ok (.aload_n 0, 1) := by decide +kernel
theorem dX12_change_82 : decode cX12_change 82 = .ok (.iload_n 1, 1) := by decide +kernel
theorem dX12_change_83 : decode cX12_change 83 = .ok (.invokevirtual 361, 3) := by decide +kernel
theorem dX12_change_86 : decode cX12_change 86 = .ok (.ireturn, 1) := by decide +kernel
theorem dX12_turnMany_0 : decode cX12_turnMany 0 = .ok (.iconst 0, 1) := by decide +kernel
theorem dX12_turnMany_1 : decode cX12_turnMany 1 = .ok (.istore_n 1, 1) := by decide +kernel
theorem dX12_turnMany_2 : decode cX12_turnMany 2 = .ok (.iconst 0, 1) := by decide +kernel
theorem dX12_turnMany_3 : decode cX12_turnMany 3 = .ok (.istore_n 2, 1) := by decide +kernel
theorem dX12_turnMany_4 : decode cX12_turnMany 4 = .ok (.iload_n 2, 1) := by decide +kernel
theorem dX12_turnMany_5 : decode cX12_turnMany 5 = .ok (.iconst 4, 1) := by decide +kernel
theorem dX12_turnMany_6 : decode cX12_turnMany 6 = .ok (.if_icmp .ge 89, 3) := by decide +kernel
theorem dX12_turnMany_9 : decode cX12_turnMany 9 = .ok (.aload_n 0, 1) := by decide +kernel
theorem dX12_turnMany_10 : decode cX12_turnMany 10 = .ok (.getfield 123, 3) := by decide +kernel
theorem dX12_turnMany_13 : decode cX12_turnMany 13 = .ok (.iload_n 2, 1) := by decide +kernel
theorem dX12_turnMany_14 : decode cX12_turnMany 14 = .ok (.iaload, 1) := by decide +kernel
theorem dX12_turnMany_15 : decode cX12_turnMany 15 = .ok (.iconst (-1), 1) := by decide +kernel
theorem dX12_turnMany_16 : decode cX12_turnMany 16 = .ok (.if_icmp .ne 6, 3) := by decide +kernel
theorem dX12_turnMany_19 : decode cX12_turnMany 19 = .ok (.goto 70, 3) := by decide +kernel
theorem dX12_turnMany_22 : decode cX12_turnMany 22 = .ok (.iload_n 1, 1) := by decide +kernel
theorem dX12_turnMany_23 : decode cX12_turnMany 23 = .ok (.iload_n 2, 1) := by decide +kernel
theorem dX12_turnMany_24 : decode cX12_turnMany 24 = .ok (.if_icmp .ne 26, 3) := by decide +kernel
theorem dX12_turnMany_27 : decode cX12_turnMany 27 = .ok (.aload_n 0, 1) := by decide +kernel
theorem dX12_turnMany_28 : decode cX12_turnMany 28 = .ok (.getfield 123, 3) := by decide +kernel
theorem dX12_turnMany_31 : decode cX12_turnMany 31 = .ok (.iload_n 2, 1) := by decide +kernel
theorem dX12_turnMany_32 : decode cX12_turnMany 32 = .ok (.iaload, 1) := by decide +kernel
theorem dX12_turnMany_33 : decode cX12_turnMany 33 = .ok (.i2l, 1) := by decide +kernel
theorem dX12_turnMany_34 : decode cX12_turnMany 34 = .ok (.lconst 0, 1) := by decide +kernel
theorem dX12_turnMany_35 : decode cX12_turnMany 35 = .ok (.iconst 4, 1) := by decide +kernel
theorem dX12_turnMany_36 : decode cX12_turnMany 36 = .ok (.aload_n 0, 1) := by decide +kernel
theorem dX12_turnMany_37 : decode cX12_turnMany 37 = .ok (.getfield 271, 3) := by decide +kernel
theorem dX12_turnMany_40 : decode cX12_turnMany 40 = .ok (.imul, 1) := by decide +kernel
theorem dX12_turnMany_41 : decode cX12_turnMany 41 = .ok (.iconst 1, 1) := by decide +kernel
theorem dX12_turnMany_42 : decode cX12_turnMany 42 = .ok (.isub, 1) := by decide +kernel
theorem dX12_turnMany_43 : decode cX12_turnMany 43 = .ok (.i2l, 1) := by decide +kernel
theorem dX12_turnMany_44 : decode cX12_turnMany 44 = .ok (.invokestatic 159, 3) := by decide +kernel
theorem dX12_turnMany_47 : decode cX12_turnMany 47 = .ok (.ifCond .ne 5, 3) := by decide +kernel
theorem dX12_turnMany_50 : decode cX12_turnMany 50 = .ok (.iconst (-1), 1) := by decide +kernel
theorem dX12_turnMany_51 : decode cX12_turnMany 51 = .ok (.ireturn, 1) := by decide +kernel
theorem dX12_turnMany_52 : decode cX12_turnMany 52 = .ok (.iconst 0, 1) := by decide +kernel
theorem dX12_turnMany_53 : decode cX12_turnMany 53 = .ok (.istore_n 3, 1) := by decide +kernel
theorem dX12_turnMany_54 : decode cX12_turnMany 54 = .ok (.iload_n 3, 1) := by decide +kernel
theorem dX12_turnMany_55 : decode cX12_turnMany 55 = .ok (.iload_n 2, 1) := by decide +kernel
theorem dX12_turnMany_56 : decode cX12_turnMany 56 = .ok (.if_icmp .ge 30, 3) := by decide +kernel
theorem dX12_turnMany_59 : decode cX12_turnMany 59 = .ok (.aload_n 0, 1) := by decide +kernel
theorem dX12_turnMany_60 : decode cX12_turnMany 60 = .ok (.getfield 123, 3) := by decide +kernel
theorem dX12_turnMany_63 : decode cX12_turnMany 63 = .ok (.iload_n 3, 1) := by decide +kernel
theorem dX12_turnMany_64 : decode cX12_turnMany 64 = .ok (.iaload, 1) := by decide +kernel
theorem dX12_turnMany_65 : decode cX12_turnMany 65 = .ok (.iconst 4, 1) := by decide +kernel
theorem dX12_turnMany_66 : decode cX12_turnMany 66 = .ok (.idiv, 1) := by decide +kernel
theorem dX12_turnMany_67 : decode cX12_turnMany 67 = .ok (.aload_n 0, 1) := by decide +kernel
theorem dX12_turnMany_68 : decode cX12_turnMany 68 = .ok (.getfield 123, 3) := by decide +kernel
theorem dX12_turnMany_71 : decode cX12_turnMany 71 = .ok (.iload_n 2, 1) := by decide +kernel
theorem dX12_turnMany_72 : decode cX12_turnMany 72 = .ok (.iaload, 1) := by decide +kernel
theorem dX12_turnMany_73 : decode cX12_turnMany 73 = .ok (.iconst 4, 1) := by decide +kernel
theorem dX12_turnMany_74 : decode cX12_turnMany 74 = .ok (.idiv, 1) := by decide +kernel
theorem dX12_turnMany_75 : decode cX12_turnMany 75 = .ok (.if_icmp .ne 5, 3) := by decide +kernel
theorem dX12_turnMany_78 : decode cX12_turnMany 78 = .ok (.iconst (-1), 1) := by decide +kernel
theorem dX12_turnMany_79 : decode cX12_turnMany 79 = .ok (.ireturn, 1) := by decide +kernel
theorem dX12_turnMany_80 : decode cX12_turnMany 80 = .ok (.iinc 3 1, 3) := by decide +kernel
theorem dX12_turnMany_83 : decode cX12_turnMany 83 = .ok (.goto (-29), 3) := by decide +kernel
theorem dX12_turnMany_86 : decode cX12_turnMany 86 = .ok (.iinc 1 1, 3) := by decide +kernel
theorem dX12_turnMany_89 : decode cX12_turnMany 89 = .ok (.iinc 2 1, 3) := by decide +kernel
theorem dX12_turnMany_92 : decode cX12_turnMany 92 = .ok (.goto (-88), 3) := by decide +kernel
theorem dX12_turnMany_95 : decode cX12_turnMany 95 = .ok (.iload_n 1, 1) := by decide +kernel
theorem dX12_turnMany_96 : decode cX12_turnMany 96 = .ok (.ifCond .ne 7, 3) := by decide +kernel
theorem dX12_turnMany_99 : decode cX12_turnMany 99 = .ok (.iconst (-1), 1) := by decide +kernel
theorem dX12_turnMany_100 : decode cX12_turnMany 100 = .ok (.goto 4, 3) := by decide +kernel
theorem dX12_turnMany_103 : decode cX12_turnMany 103 = .ok (.iload_n 1, 1) := by decide +kernel
theorem dX12_turnMany_104 : decode cX12_turnMany 104 = .ok (.ireturn, 1) := by decide +kernel
theorem dX12_turn_0 : decode cX12_turn 0 = .ok (.aload_n 0, 1) := by decide +kernel
theorem dX12_turn_1 : decode cX12_turn 1 = .ok (.aload_n 0, 1) := by decide +kernel
theorem dX12_turn_2 : decode cX12_turn 2 = .ok (.getfield 296, 3) := by decide +kernel
theorem dX12_turn_5 : decode cX12_turn 5 = .ok (.invokestatic 312, 3) := by decide +kernel
theorem dX12_turn_8 : decode cX12_turn 8 = .ok (.invokevirtual 256, 3) := by decide +kernel
theorem dX12_turn_11 : decode cX12_turn 11 = .ok (.ifCond .eq 5, 3) := by decide +kernel
theorem dX12_turn_14 : decode cX12_turn 14 = .ok (.iconst (-1), 1) := by decide +kernel
theorem dX12_turn_15 : decode cX12_turn 15 = .ok (.ireturn, 1) := by decide +kernel
theorem dX12_turn_16 : decode cX12_turn 16 = .ok (.aload_n 0, 1) := by decide +kernel
theorem dX12_turn_17 : decode cX12_turn 17 = .ok (.getfield 123, 3) := by decide +kernel
theorem dX12_turn_20 : decode cX12_turn 20 = .ok (.iconst 0, 1) := by decide +kernel
theorem dX12_turn_21 : decode cX12_turn 21 = .ok (.iload_n 1, 1) := by decide +kernel
theorem dX12_turn_22 : decode cX12_turn 22 = .ok (.iastore, 1) := by decide +kernel
theorem dX12_turn_23 : decode cX12_turn 23 = .ok (.aload_n 0, 1) := by decide +kernel
theorem dX12_turn_24 : decode cX12_turn 24 = .ok (.getfield 123, 3) := by decide +kernel
theorem dX12_turn_27 : decode cX12_turn 27 = .ok (.iconst 1, 1) := by decide +kernel
theorem dX12_turn_28 : decode cX12_turn 28 = .ok (.iload_n 2, 1) := by decide +kernel
theorem dX12_turn_29 : decode cX12_turn 29 = .ok (.iastore, 1) := by decide +kernel
theorem dX12_turn_30 : decode cX12_turn 30 = .ok (.aload_n 0, 1) := by decide +kernel
theorem dX12_turn_31 : decode cX12_turn 31 = .ok (.getfield 123, 3) := by decide +kernel
theorem dX12_turn_34 : decode cX12_turn 34 = .ok (.iconst 2, 1) := by decide +kernel
theorem dX12_turn_35 : decode cX12_turn 35 = .ok (.iload_n 3, 1) := by decide +kernel
theorem dX12_turn_36 : decode cX12_turn 36 = .ok (.iastore, 1) := by decide +kernel
theorem dX12_turn_37 : decode cX12_turn 37 = .ok (.aload_n 0, 1) := by decide +kernel
theorem dX12_turn_38 : decode cX12_turn 38 = .ok (.getfield 123, 3) := by decide +kernel
theorem dX12_turn_41 : decode cX12_turn 41 = .ok (.iconst 3, 1) := by decide +kernel
theorem dX12_turn_42 : decode cX12_turn 42 = .ok (.iload 4, 2) := by decide +kernel
theorem dX12_turn_44 : decode cX12_turn 44 = .ok (.iastore, 1) := by decide +kernel
theorem dX12_turn_45 : decode cX12_turn 45 = .ok (.aload_n 0, 1) := by decide +kernel
theorem dX12_turn_46 : decode cX12_turn 46 = .ok (.invokevirtual 458, 3) := by decide +kernel
theorem dX12_turn_49 : decode cX12_turn 49 = .ok (.istore 5, 2) := by decide +kernel
theorem dX12_turn_51 : decode cX12_turn 51 = .ok (.iload 5, 2) := by decide +kernel
theorem dX12_turn_53 : decode cX12_turn 53 = .ok (.iconst (-1), 1) := by decide +kernel
theorem dX12_turn_54 : decode cX12_turn 54 = .ok (.if_icmp .ne 9, 3) := by decide +kernel
theorem dX12_turn_57 : decode cX12_turn 57 = .ok (.aload_n 0, 1) := by decide +kernel
theorem dX12_turn_58 : decode cX12_turn 58 = .ok (.iconst 2, 1) := by decide +kernel
theorem dX12_turn_59 : decode cX12_turn 59 = .ok (.invokevirtual 265, 3) := by decide +kernel
theorem dX12_turn_62 : decode cX12_turn 62 = .ok (.ireturn, 1) := by decide +kernel
theorem dX12_turn_63 : decode cX12_turn 63 = .ok (.aload_n 0, 1) := by decide +kernel
theorem dX12_turn_64 : decode cX12_turn 64 = .ok (.iload 5, 2) := by decide +kernel
theorem dX12_turn_66 : decode cX12_turn 66 = .ok (.putfield 274, 3) := by decide +kernel
theorem dX12_turn_69 : decode cX12_turn 69 = .ok (.iconst 0, 1) := by decide +kernel
theorem dX12_turn_70 : decode cX12_turn 70 = .ok (.istore 6, 2) := by decide +kernel
theorem dX12_turn_72 : decode cX12_turn 72 = .ok (.iload 6, 2) := by decide +kernel
theorem dX12_turn_74 : decode cX12_turn 74 = .ok (.iload 5, 2) := by decide +kernel
theorem dX12_turn_76 : decode cX12_turn 76 = .ok (.if_icmp .ge 77, 3) := by decide +kernel
theorem dX12_turn_79 : decode cX12_turn 79 = .ok (.aload_n 0, 1) := by decide +kernel
theorem dX12_turn_80 : decode cX12_turn 80 = .ok (.getfield 23, 3) := by decide +kernel
theorem dX12_turn_83 : decode cX12_turn 83 = .ok (.iload 6, 2) := by decide +kernel
theorem dX12_turn_85 : decode cX12_turn 85 = .ok (.aload_n 0, 1) := by decide +kernel
theorem dX12_turn_86 : decode cX12_turn 86 = .ok (.getfield 123, 3) := by decide +kernel
theorem dX12_turn_89 : decode cX12_turn 89 = .ok (.iload 6, 2) := by decide +kernel
theorem dX12_turn_91 : decode cX12_turn 91 = .ok (.iaload, 1) := by decide +kernel
theorem dX12_turn_92 : decode cX12_turn 92 = .ok (.iconst 4, 1) := by decide +kernel
theorem dX12_turn_93 : decode cX12_turn 93 = .ok (.idiv, 1) := by decide +kernel
theorem dX12_turn_94 : decode cX12_turn 94 = .ok (.iastore, 1) := by decide +kernel
theorem dX12_turn_95 : decode cX12_turn 95 = .ok (.aload_n 0, 1) := by decide +kernel
theorem dX12_turn_96 : decode cX12_turn 96 = .ok (.getfield 26, 3) := by decide +kernel
theorem dX12_turn_99 : decode cX12_turn 99 = .ok (.iload 6, 2) := by decide +kernel
theorem dX12_turn_101 : decode cX12_turn 101 = .ok (.aload_n 0, 1) := by decide +kernel
theorem dX12_turn_102 : decode cX12_turn 102 = .ok (.getfield 123, 3) := by decide +kernel
theorem dX12_turn_105 : decode cX12_turn 105 = .ok (.iload 6, 2) := by decide +kernel
theorem dX12_turn_107 : decode cX12_turn 107 = .ok (.iaload, 1) := by decide +kernel
theorem dX12_turn_108 : decode cX12_turn 108 = .ok (.iconst 2, 1) := by decide +kernel
theorem dX12_turn_109 : decode cX12_turn 109 = .ok (.idiv, 1) := by decide +kernel
theorem dX12_turn_110 : decode cX12_turn 110 = .ok (.iconst 2, 1) := by decide +kernel
theorem dX12_turn_111 : decode cX12_turn 111 = .ok (.irem, 1) := by decide +kernel
theorem dX12_turn_112 : decode cX12_turn 112 = .ok (.iconst 1, 1) := by decide +kernel
theorem dX12_turn_113 : decode cX12_turn 113 = .ok (.if_icmp .ne 7, 3) := by decide +kernel
theorem dX12_turn_116 : decode cX12_turn 116 = .ok (.iconst 1, 1) := by decide +kernel
theorem dX12_turn_117 : decode cX12_turn 117 = .ok (.goto 4, 3) := by decide +kernel
theorem dX12_turn_120 : decode cX12_turn 120 = .ok (.iconst 0, 1) := by decide +kernel
theorem dX12_turn_121 : decode cX12_turn 121 = .ok (.bastore, 1) := by decide +kernel
theorem dX12_turn_122 : decode cX12_turn 122 = .ok (.aload_n 0, 1) := by decide +kernel
theorem dX12_turn_123 : decode cX12_turn 123 = .ok (.getfield 29, 3) := by decide +kernel
theorem dX12_turn_126 : decode cX12_turn 126 = .ok (.iload 6, 2) := by decide +kernel
theorem dX12_turn_128 : decode cX12_turn 128 = .ok (.aload_n 0, 1) := by decide +kernel
theorem dX12_turn_129 : decode cX12_turn 129 = .ok (.getfield 123, 3) := by decide +kernel
theorem dX12_turn_132 : decode cX12_turn 132 = .ok (.iload 6, 2) := by decide +kernel
theorem dX12_turn_134 : decode cX12_turn 134 = .ok (.iaload, 1) := by decide +kernel
theorem dX12_turn_135 : decode cX12_turn 135 = .ok (.iconst 2, 1) := by decide +kernel
theorem dX12_turn_136 : decode cX12_turn 136 = .ok (.irem, 1) := by decide +kernel
theorem dX12_turn_137 : decode cX12_turn 137 = .ok (.iconst 1, 1) := by decide +kernel
theorem dX12_turn_138 : decode cX12_turn 138 = .ok (.if_icmp .ne 7, 3) := by decide +kernel
theorem dX12_turn_141 : decode cX12_turn 141 = .ok (.iconst 1, 1) := by decide +kernel
theorem dX12_turn_142 : decode cX12_turn 142 = .ok (.goto 4, 3) := by decide +kernel
theorem dX12_turn_145 : decode cX12_turn 145 = .ok (.iconst 0, 1) := by decide +kernel
theorem dX12_turn_146 : decode cX12_turn 146 = .ok (.bastore, 1) := by decide +kernel
theorem dX12_turn_147 : decode cX12_turn 147 = .ok (.iinc 6 1, 3) := by decide +kernel
theorem dX12_turn_150 : decode cX12_turn 150 = .ok (.goto (-78), 3) := by decide +kernel
theorem dX12_turn_153 : decode cX12_turn 153 = .ok (.aload_n 0, 1) := by decide +kernel
theorem dX12_turn_154 : decode cX12_turn 154 = .ok (.invokevirtual 382, 3) := by decide +kernel
theorem dX12_turn_157 : decode cX12_turn 157 = .ok (.iload 5, 2) := by decide +kernel
theorem dX12_turn_159 : decode cX12_turn 159 = .ok (.ireturn, 1) := by decide +kernel
theorem dX12_isLacking_0 : decode cX12_isLacking 0 = .ok (.iconst 0, 1) := by decide +kernel
theorem dX12_isLacking_1 : decode cX12_isLacking 1 = .ok (.istore_n 2, 1) := by decide +kernel
theorem dX12_isLacking_2 : decode cX12_isLacking 2 = .ok (.iload_n 2, 1) := by decide +kernel
theorem dX12_isLacking_3 : decode cX12_isLacking 3 = .ok (.aload_n 0, 1) := by decide +kernel
theorem dX12_isLacking_4 : decode cX12_isLacking 4 = .ok (.getfield 271, 3) := by decide +kernel
theorem dX12_isLacking_7 : decode cX12_isLacking 7 = .ok (.if_icmp .ge 28, 3) := by decide +kernel
theorem dX12_isLacking_10 : decode cX12_isLacking 10 = .ok (.aload_n 0, 1) := by decide +kernel
theorem dX12_isLacking_11 : decode cX12_isLacking 11 = .ok (.aload_n 0, 1) := by decide +kernel
theorem dX12_isLacking_12 : decode cX12_isLacking 12 = .ok (.getfield 277, 3) := by decide +kernel
theorem dX12_isLacking_15 : decode cX12_isLacking 15 = .ok (.iload_n 1, 1) := by decide +kernel
theorem dX12_isLacking_16 : decode cX12_isLacking 16 = .ok (.iload_n 2, 1) := by decide +kernel
theorem dX12_isLacking_17 : decode cX12_isLacking 17 = .ok (.invokevirtual 327, 3) := by decide +kernel
theorem dX12_isLacking_20 : decode cX12_isLacking 20 = .ok (.ldc2_w 229, 3) := by decide +kernel
theorem dX12_isLacking_23 : decode cX12_isLacking 23 = .ok (.lcmp, 1) := by decide +kernel
theorem dX12_isLacking_24 : decode cX12_isLacking 24 = .ok (.ifCond .ne 5, 3) := by decide +kernel
theorem dX12_isLacking_27 : decode cX12_isLacking 27 = .ok (.iconst 1, 1) := by decide +kernel
theorem dX12_isLacking_28 : decode cX12_isLacking 28 = .ok (.ireturn, 1) := by decide +kernel
theorem dX12_isLacking_29 : decode cX12_isLacking 29 = .ok (.iinc 2 1, 3) := by decide +kernel
theorem dX12_isLacking_32 : decode cX12_isLacking 32 = .ok (.goto (-30), 3) := by decide +kernel
theorem dX12_isLacking_35 : decode cX12_isLacking 35 = .ok (.iconst 0, 1) := by decide +kernel
theorem dX12_isLacking_36 : decode cX12_isLacking 36 = .ok (.ireturn, 1) := by decide +kernel
theorem dX12_lacking_0 : decode cX12_lacking 0 = .ok (.aload_n 0, 1) := by decide +kernel
theorem dX12_lacking_1 : decode cX12_lacking 1 = .ok (.iconst 0, 1) := by decide +kernel
theorem dX12_lacking_2 : decode cX12_lacking 2 = .ok (.putfield 126, 3) := by decide +kernel
theorem dX12_lacking_5 : decode cX12_lacking 5 = .ok (.iconst 0, 1) := by decide +kernel
theorem dX12_lacking_6 : decode cX12_lacking 6 = .ok (.istore_n 2, 1) := by decide +kernel
theorem dX12_lacking_7 : decode cX12_lacking 7 = .ok (.iconst 0, 1) := by decide +kernel
theorem dX12_lacking_8 : decode cX12_lacking 8 = .ok (.istore_n 3, 1) := by decide +kernel
theorem dX12_lacking_9 : decode cX12_lacking 9 = .ok (.aload_n 0, 1) := by decide +kernel
theorem dX12_lacking_10 : decode cX12_lacking 10 = .ok (.getfield 296, 3) := by decide +kernel
theorem dX12_lacking_13 : decode cX12_lacking 13 = .ok (.ifCond .eq 45, 3) := by decide +kernel
theorem dX12_lacking_16 : decode cX12_lacking 16 = .ok (.iload_n 3, 1) := by decide +kernel
theorem dX12_lacking_17 : decode cX12_lacking 17 = .ok (.bipush 64, 2) := by decide +kernel
theorem dX12_lacking_19 : decode cX12_lacking 19 = .ok (.if_icmp .ge 39, 3) := by decide +kernel
theorem dX12_lacking_22 : decode cX12_lacking 22 = .ok (.aload_n 0, 1) := by decide +kernel
theorem dX12_lacking_23 : decode cX12_lacking 23 = .ok (.aload_n 0, 1) := by decide +kernel
theorem dX12_lacking_24 : decode cX12_lacking 24 = .ok (.getfield 277, 3) := by decide +kernel
theorem dX12_lacking_27 : decode cX12_lacking 27 = .ok (.iload_n 3, 1) := by decide +kernel
theorem dX12_lacking_28 : decode cX12_lacking 28 = .ok (.invokevirtual 305, 3) := by decide +kernel
theorem dX12_lacking_31 : decode cX12_lacking 31 = .ok (.ifCond .eq 21, 3) := by decide +kernel
theorem dX12_lacking_34 : decode cX12_lacking 34 = .ok (.aload_n 0, 1) := by decide +kernel
theorem dX12_lacking_35 : decode cX12_lacking 35 = .ok (.iload_n 3, 1) := by decide +kernel
theorem dX12_lacking_36 : decode cX12_lacking 36 = .ok (.invokevirtual 461, 3) := by decide +kernel
theorem dX12_lacking_39 : decode cX12_lacking 39 = .ok (.ifCond .eq 13, 3) := by decide +kernel
theorem dX12_lacking_42 : decode cX12_lacking 42 = .ok (.iload_n 2, 1) := by decide +kernel
theorem dX12_lacking_43 : decode cX12_lacking 43 = .ok (.iload_n 1, 1) := by decide +kernel
theorem dX12_lacking_44 : decode cX12_lacking 44 = .ok (.if_icmp .ne 5, 3) := by decide +kernel
theorem dX12_lacking_47 : decode cX12_lacking 47 = .ok (.iload_n 3, 1) := by decide +kernel
theorem dX12_lacking_48 : decode cX12_lacking 48 = .ok (.ireturn, 1) := by decide +kernel
theorem dX12_lacking_49 : decode cX12_lacking 49 = .ok (.iinc 2 1, 3) := by decide +kernel
theorem dX12_lacking_52 : decode cX12_lacking 52 = .ok (.iinc 3 1, 3) := by decide +kernel
theorem dX12_lacking_55 : decode cX12_lacking 55 = .ok (.goto (-46), 3) := by decide +kernel
theorem dX12_lacking_58 : decode cX12_lacking 58 = .ok (.aload_n 0, 1) := by decide +kernel
theorem dX12_lacking_59 : decode cX12_lacking 59 = .ok (.iconst 1, 1) := by decide +kernel
theorem dX12_lacking_60 : decode cX12_lacking 60 = .ok (.putfield 126, 3) := by decide +kernel
theorem dX12_lacking_63 : decode cX12_lacking 63 = .ok (.iconst 0, 1) := by decide +kernel
theorem dX12_lacking_64 : decode cX12_lacking 64 = .ok (.ireturn, 1) := by decide +kernel
theorem dX12_readerMany_0 : decode cX12_readerMany 0 = .ok (.iconst 0, 1) := by decide +kernel
theorem dX12_readerMany_1 : decode cX12_readerMany 1 = .ok (.istore_n 1, 1) := by decide +kernel
theorem dX12_readerMany_2 : decode cX12_readerMany 2 = .ok (.iconst 0, 1) := by decide +kernel
theorem dX12_readerMany_3 : decode cX12_readerMany 3 = .ok (.istore_n 2, 1) := by decide +kernel
theorem dX12_readerMany_4 : decode cX12_readerMany 4 = .ok (.iload_n 2, 1) := by decide +kernel
theorem dX12_readerMany_5 : decode cX12_readerMany 5 = .ok (.iconst 4, 1) := by decide +kernel
theorem dX12_readerMany_6 : decode cX12_readerMany 6 = .ok (.if_icmp .ge 26, 3) := by decide +kernel
theorem dX12_readerMany_9 : decode cX12_readerMany 9 = .ok (.iload_n 1, 1) := by decide +kernel
theorem dX12_readerMany_10 : decode cX12_readerMany 10 = .ok (.aload_n 0, 1) := by decide +kernel
theorem dX12_readerMany_11 : decode cX12_readerMany 11 = .ok (.getfield 99, 3) := by decide +kernel
theorem dX12_readerMany_14 : decode cX12_readerMany 14 = .ok (.iload_n 2, 1) := by decide +kernel
theorem dX12_readerMany_15 : decode cX12_readerMany 15 = .ok (.iaload, 1) := by decide +kernel
theorem dX12_readerMany_16 : decode cX12_readerMany 16 = .ok (.ifCond .le 7, 3) := by decide +kernel
theorem dX12_readerMany_19 : decode cX12_readerMany 19 = .ok (.iconst 1, 1) := by decide +kernel
theorem dX12_readerMany_20 : decode cX12_readerMany 20 = .ok (.goto 4, 3) := by decide +kernel
theorem dX12_readerMany_23 : decode cX12_readerMany 23 = .ok (.iconst 0, 1) := by decide +kernel
theorem dX12_readerMany_24 : decode cX12_readerMany 24 = .ok (.iadd, 1) := by decide +kernel
theorem dX12_readerMany_25 : decode cX12_readerMany 25 = .ok (.istore_n 1, 1) := by decide +kernel
theorem dX12_readerMany_26 : decode cX12_readerMany 26 = .ok (.iinc 2 1, 3) := by decide +kernel
theorem dX12_readerMany_29 : decode cX12_readerMany 29 = .ok (.goto (-25), 3) := by decide +kernel
theorem dX12_readerMany_32 : decode cX12_readerMany 32 = .ok (.iload_n 1, 1) := by decide +kernel
theorem dX12_readerMany_33 : decode cX12_readerMany 33 = .ok (.ireturn, 1) := by decide +kernel
theorem dX12_size_0 : decode cX12_size 0 = .ok (.aload_n 0, 1) := by decide +kernel
theorem dX12_size_1 : decode cX12_size 1 = .ok (.iconst 0, 1) := by decide +kernel
theorem dX12_size_2 : decode cX12_size 2 = .ok (.putfield 126, 3) := by decide +kernel
theorem dX12_size_5 : decode cX12_size 5 = .ok (.iload_n 1, 1) := by decide +kernel
theorem dX12_size_6 : decode cX12_size 6 = .ok (.tableswitch 75 0 3 #[30, 35, 51, 70], 30) := by decide +kernel
theorem dX12_size_36 : decode cX12_size 36 = .ok (.aload_n 0, 1) := by decide +kernel
theorem dX12_size_37 : decode cX12_size 37 = .ok (.getfield 132, 3) := by decide +kernel
theorem dX12_size_40 : decode cX12_size 40 = .ok (.ireturn, 1) := by decide +kernel
theorem dX12_size_41 : decode cX12_size 41 = .ok (.aload_n 0, 1) := by decide +kernel
theorem dX12_size_42 : decode cX12_size 42 = .ok (.getfield 289, 3) := by decide +kernel
theorem dX12_size_45 : decode cX12_size 45 = .ok (.ifCond .eq 10, 3) := by decide +kernel
theorem dX12_size_48 : decode cX12_size 48 = .ok (.aload_n 0, 1) := by decide +kernel
theorem dX12_size_49 : decode cX12_size 49 = .ok (.getfield 399, 3) := by decide +kernel
theorem dX12_size_52 : decode cX12_size 52 = .ok (.goto 4, 3) := by decide +kernel
theorem dX12_size_55 : decode cX12_size 55 = .ok (.iconst 0, 1) := by decide +kernel
theorem dX12_size_56 : decode cX12_size 56 = .ok (.ireturn, 1) := by decide +kernel
theorem dX12_size_57 : decode cX12_size 57 = .ok (.aload_n 0, 1) := by decide +kernel
theorem dX12_size_58 : decode cX12_size 58 = .ok (.getfield 277, 3) := by decide +kernel
theorem dX12_size_61 : decode cX12_size 61 = .ok (.bipush 40, 2) := by decide +kernel
theorem dX12_size_63 : decode cX12_size 63 = .ok (.if_icmp .ge 10, 3) := by decide +kernel
theorem dX12_size_66 : decode cX12_size 66 = .ok (.aload_n 0, 1) := by decide +kernel
theorem dX12_size_67 : decode cX12_size 67 = .ok (.getfield 277, 3) := by decide +kernel
theorem dX12_size_70 : decode cX12_size 70 = .ok (.goto 5, 3) := by decide +kernel
theorem dX12_size_73 : decode cX12_size 73 = .ok (.bipush 40, 2) := by decide +kernel
theorem dX12_size_75 : decode cX12_size 75 = .ok (.ireturn, 1) := by decide +kernel
theorem dX12_size_76 : decode cX12_size 76 = .ok (.aload_n 0, 1) := by decide +kernel
theorem dX12_size_77 : decode cX12_size 77 = .ok (.invokevirtual 464, 3) := by decide +kernel
theorem dX12_size_80 : decode cX12_size 80 = .ok (.ireturn, 1) := by decide +kernel
theorem dX12_size_81 : decode cX12_size 81 = .ok (.iconst (-1), 1) := by decide +kernel
theorem dX12_size_82 : decode cX12_size 82 = .ok (.ireturn, 1) := by decide +kernel
theorem dX12_trouble_0 : decode cX12_trouble 0 = .ok (.aload_n 0, 1) := by decide +kernel
theorem dX12_trouble_1 : decode cX12_trouble 1 = .ok (.iconst 0, 1) := by decide +kernel
theorem dX12_trouble_2 : decode cX12_trouble 2 = .ok (.putfield 126, 3) := by decide +kernel
theorem dX12_trouble_5 : decode cX12_trouble 5 = .ok (.aload_n 0, 1) := by decide +kernel
theorem dX12_trouble_6 : decode cX12_trouble 6 = .ok (.getfield 129, 3) := by decide +kernel
theorem dX12_trouble_9 : decode cX12_trouble 9 = .ok (.ireturn, 1) := by decide +kernel
