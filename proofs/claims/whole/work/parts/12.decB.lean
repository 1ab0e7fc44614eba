theorem dX6_init_0 : decode cX6_init 0 = .ok (.aload_n 0, 1) := by decide +kernel
theorem dX6_init_1 : decode cX6_init 1 = .ok (.invokespecial 3, 3) := by decide +kernel
theorem dX6_init_4 : decode cX6_init 4 = .ok (.aload_n 0, 1) := by decide +kernel
theorem dX6_init_5 : decode cX6_init 5 = .ok (.bipush 64, 2) := by decide +kernel
theorem dX6_init_7 : decode cX6_init 7 = .ok (.newarray .int, 2) := by decide +kernel
theorem dX6_init_9 : decode cX6_init 9 = .ok (.putfield 9, 3) := by decide +kernel
theorem dX6_init_12 : decode cX6_init 12 = .ok (.aload_n 0, 1) := by decide +kernel
theorem dX6_init_13 : decode cX6_init 13 = .ok (.bipush 64, 2) := by decide +kernel
theorem dX6_init_15 : decode cX6_init 15 = .ok (.newarray .int, 2) := by decide +kernel
theorem dX6_init_17 : decode cX6_init 17 = .ok (.putfield 15, 3) := by decide +kernel
theorem dX6_init_20 : decode cX6_init 20 = .ok (.aload_n 0, 1) := by decide +kernel
theorem dX6_init_21 : decode cX6_init 21 = .ok (.new 18, 3) := by decide +kernel
theorem dX6_init_24 : decode cX6_init 24 = .ok (.dup, 1) := by decide +kernel
theorem dX6_init_25 : decode cX6_init 25 = .ok (.bipush 34, 2) := by decide +kernel
theorem dX6_init_27 : decode cX6_init 27 = .ok (.invokespecial 20, 3) := by decide +kernel
theorem dX6_init_30 : decode cX6_init 30 = .ok (.putfield 23, 3) := by decide +kernel
theorem dX6_init_33 : decode cX6_init 33 = .ok (.aload_n 0, 1) := by decide +kernel
theorem dX6_init_34 : decode cX6_init 34 = .ok (.iconst 0, 1) := by decide +kernel
theorem dX6_init_35 : decode cX6_init 35 = .ok (.putfield 27, 3) := by decide +kernel
theorem dX6_init_38 : decode cX6_init 38 = .ok (.aload_n 0, 1) := by decide +kernel
theorem dX6_init_39 : decode cX6_init 39 = .ok (.iconst 0, 1) := by decide +kernel
theorem dX6_init_40 : decode cX6_init 40 = .ok (.putfield 31, 3) := by decide +kernel
theorem dX6_init_43 : decode cX6_init 43 = .ok (.aload_n 0, 1) := by decide +kernel
theorem dX6_init_44 : decode cX6_init 44 = .ok (.iconst 0, 1) := by decide +kernel
theorem dX6_init_45 : decode cX6_init 45 = .ok (.putfield 34, 3) := by decide +kernel
theorem dX6_init_48 : decode cX6_init 48 = .ok (.aload_n 0, 1) := by decide +kernel
theorem dX6_init_49 : decode cX6_init 49 = .ok (.iconst 0, 1) := by decide +kernel
theorem dX6_init_50 : decode cX6_init 50 = .ok (.putfield 37, 3) := by decide +kernel
theorem dX6_init_53 : decode cX6_init 53 = .ok (.aload_n 0, 1) := by decide +kernel
theorem dX6_init_54 : decode cX6_init 54 = .ok (.iconst 0, 1) := by decide +kernel
theorem dX6_init_55 : decode cX6_init 55 = .ok (.putfield 41, 3) := by decide +kernel
theorem dX6_init_58 : decode cX6_init 58 = .ok (.aload_n 0, 1) := by decide +kernel
theorem dX6_init_59 : decode cX6_init 59 = .ok (.iconst 0, 1) := by decide +kernel
theorem dX6_init_60 : decode cX6_init 60 = .ok (.putfield 44, 3) := by decide +kernel
theorem dX6_init_63 : decode cX6_init 63 = .ok (.return_, 1) := by decide +kernel
theorem dX6_start_0 : decode cX6_start 0 = .ok (.aload_n 0, 1) := by decide +kernel
theorem dX6_start_1 : decode cX6_start 1 = .ok (.iconst 1, 1) := by decide +kernel
theorem dX6_start_2 : decode cX6_start 2 = .ok (.putfield 27, 3) := by decide +kernel
theorem dX6_start_5 : decode cX6_start 5 = .ok (.aload_n 0, 1) := by decide +kernel
theorem dX6_start_6 : decode cX6_start 6 = .ok (.iload_n 2, 1) := by decide +kernel
theorem dX6_start_7 : decode cX6_start 7 = .ok (.putfield 31, 3) := by decide +kernel
theorem dX6_start_10 : decode cX6_start 10 = .ok (.aload_n 0, 1) := by decide +kernel
theorem dX6_start_11 : decode cX6_start 11 = .ok (.iconst 0, 1) := by decide +kernel
theorem dX6_start_12 : decode cX6_start 12 = .ok (.putfield 34, 3) := by decide +kernel
theorem dX6_start_15 : decode cX6_start 15 = .ok (.aload_n 0, 1) := by decide +kernel
theorem dX6_start_16 : decode cX6_start 16 = .ok (.iload_n 1, 1) := by decide +kernel
theorem dX6_start_17 : decode cX6_start 17 = .ok (.putfield 37, 3) := by decide +kernel
theorem dX6_start_20 : decode cX6_start 20 = .ok (.aload_n 0, 1) := by decide +kernel
theorem dX6_start_21 : decode cX6_start 21 = .ok (.iload_n 3, 1) := by decide +kernel
theorem dX6_start_22 : decode cX6_start 22 = .ok (.putfield 41, 3) := by decide +kernel
theorem dX6_start_25 : decode cX6_start 25 = .ok (.aload_n 0, 1) := by decide +kernel
theorem dX6_start_26 : decode cX6_start 26 = .ok (.iconst 0, 1) := by decide +kernel
theorem dX6_start_27 : decode cX6_start 27 = .ok (.putfield 44, 3) := by decide +kernel
theorem dX6_start_30 : decode cX6_start 30 = .ok (.aload_n 0, 1) := by decide +kernel
theorem dX6_start_31 : decode cX6_start 31 = .ok (.getfield 23, 3) := by decide +kernel
theorem dX6_start_34 : decode cX6_start 34 = .ok (.invokevirtual 47, 3) := by decide +kernel
theorem dX6_start_37 : decode cX6_start 37 = .ok (.iconst 0, 1) := by decide +kernel
theorem dX6_start_38 : decode cX6_start 38 = .ok (.istore 4, 2) := by decide +kernel
theorem dX6_start_40 : decode cX6_start 40 = .ok (.iload 4, 2) := by decide +kernel
theorem dX6_start_42 : decode cX6_start 42 = .ok (.bipush 64, 2) := by decide +kernel
theorem dX6_start_44 : decode cX6_start 44 = .ok (.if_icmp .ge 25, 3) := by decide +kernel
theorem dX6_start_47 : decode cX6_start 47 = .ok (.aload_n 0, 1) := by decide +kernel
theorem dX6_start_48 : decode cX6_start 48 = .ok (.getfield 9, 3) := by decide +kernel
theorem dX6_start_51 : decode cX6_start 51 = .ok (.iload 4, 2) := by decide +kernel
theorem dX6_start_53 : decode cX6_start 53 = .ok (.iconst 0, 1) := by decide +kernel
theorem dX6_start_54 : decode cX6_start 54 = .ok (.iastore, 1) := by decide +kernel
theorem dX6_start_55 : decode cX6_start 55 = .ok (.aload_n 0, 1) := by decide +kernel
theorem dX6_start_56 : decode cX6_start 56 = .ok (.getfield 15, 3) := by decide +kernel
theorem dX6_start_59 : decode cX6_start 59 = .ok (.iload 4, 2) := by decide +kernel
theorem dX6_start_61 : decode cX6_start 61 = .ok (.iconst 0, 1) := by decide +kernel
theorem dX6_start_62 : decode cX6_start 62 = .ok (.iastore, 1) := by decide +kernel
theorem dX6_start_63 : decode cX6_start 63 = .ok (.iinc 4 1, 3) := by decide +kernel
theorem dX6_start_66 : decode cX6_start 66 = .ok (.goto (-26), 3) := by decide +kernel
theorem dX6_start_69 : decode cX6_start 69 = .ok (.return_, 1) := by decide +kernel
theorem dX6_take_0 : decode cX6_take 0 = .ok (.aload_n 0, 1) := by decide +kernel
theorem dX6_take_1 : decode cX6_take 1 = .ok (.dup, 1) := by decide +kernel
theorem dX6_take_2 : decode cX6_take 2 = .ok (.getfield 44, 3) := by decide +kernel
theorem dX6_take_5 : decode cX6_take 5 = .ok (.iconst 1, 1) := by decide +kernel
theorem dX6_take_6 : decode cX6_take 6 = .ok (.iadd, 1) := by decide +kernel
theorem dX6_take_7 : decode cX6_take 7 = .ok (.putfield 44, 3) := by decide +kernel
theorem dX6_take_10 : decode cX6_take 10 = .ok (.aload_n 1, 1) := by decide +kernel
theorem dX6_take_11 : decode cX6_take 11 = .ok (.getfield 50, 3) := by decide +kernel
theorem dX6_take_14 : decode cX6_take 14 = .ok (.istore 4, 2) := by decide +kernel
theorem dX6_take_16 : decode cX6_take 16 = .ok (.iload 4, 2) := by decide +kernel
theorem dX6_take_18 : decode cX6_take 18 = .ok (.aload_n 1, 1) := by decide +kernel
theorem dX6_take_19 : decode cX6_take 19 = .ok (.getfield 55, 3) := by decide +kernel
theorem dX6_take_22 : decode cX6_take 22 = .ok (.if_icmp .ge 36, 3) := by decide +kernel
theorem dX6_take_25 : decode cX6_take 25 = .ok (.aload_n 1, 1) := by decide +kernel
theorem dX6_take_26 : decode cX6_take 26 = .ok (.iload 4, 2) := by decide +kernel
theorem dX6_take_28 : decode cX6_take 28 = .ok (.invokevirtual 58, 3) := by decide +kernel
theorem dX6_take_31 : decode cX6_take 31 = .ok (.istore 5, 2) := by decide +kernel
theorem dX6_take_33 : decode cX6_take 33 = .ok (.aload_n 0, 1) := by decide +kernel
theorem dX6_take_34 : decode cX6_take 34 = .ok (.getfield 9, 3) := by decide +kernel
theorem dX6_take_37 : decode cX6_take 37 = .ok (.iload 5, 2) := by decide +kernel
theorem dX6_take_39 : decode cX6_take 39 = .ok (.dup2, 1) := by decide +kernel
theorem dX6_take_40 : decode cX6_take 40 = .ok (.iaload, 1) := by decide +kernel
theorem dX6_take_41 : decode cX6_take 41 = .ok (.iconst 1, 1) := by decide +kernel
theorem dX6_take_42 : decode cX6_take 42 = .ok (.iadd, 1) := by decide +kernel
theorem dX6_take_43 : decode cX6_take 43 = .ok (.iastore, 1) := by decide +kernel
theorem dX6_take_44 : decode cX6_take 44 = .ok (.aload_n 0, 1) := by decide +kernel
theorem dX6_take_45 : decode cX6_take 45 = .ok (.getfield 15, 3) := by decide +kernel
theorem dX6_take_48 : decode cX6_take 48 = .ok (.iload 5, 2) := by decide +kernel
theorem dX6_take_50 : decode cX6_take 50 = .ok (.iload_n 3, 1) := by decide +kernel
theorem dX6_take_51 : decode cX6_take 51 = .ok (.iastore, 1) := by decide +kernel
theorem dX6_take_52 : decode cX6_take 52 = .ok (.iinc 4 1, 3) := by decide +kernel
theorem dX6_take_55 : decode cX6_take 55 = .ok (.goto (-39), 3) := by decide +kernel
theorem dX6_take_58 : decode cX6_take 58 = .ok (.aload_n 1, 1) := by decide +kernel
theorem dX6_take_59 : decode cX6_take 59 = .ok (.getfield 50, 3) := by decide +kernel
theorem dX6_take_62 : decode cX6_take 62 = .ok (.aload_n 1, 1) := by decide +kernel
theorem dX6_take_63 : decode cX6_take 63 = .ok (.getfield 55, 3) := by decide +kernel
theorem dX6_take_66 : decode cX6_take 66 = .ok (.if_icmp .ge 56, 3) := by decide +kernel
theorem dX6_take_69 : decode cX6_take 69 = .ok (.aload_n 1, 1) := by decide +kernel
theorem dX6_take_70 : decode cX6_take 70 = .ok (.iload_n 2, 1) := by decide +kernel
theorem dX6_take_71 : decode cX6_take 71 = .ok (.ifCond .eq 12, 3) := by decide +kernel
theorem dX6_take_74 : decode cX6_take 74 = .ok (.aload_n 1, 1) := by decide +kernel
theorem dX6_take_75 : decode cX6_take 75 = .ok (.getfield 55, 3) := by decide +kernel
theorem dX6_take_78 : decode cX6_take 78 = .ok (.iconst 1, 1) := by decide +kernel
theorem dX6_take_79 : decode cX6_take 79 = .ok (.isub, 1) := by decide +kernel
theorem dX6_take_80 : decode cX6_take 80 = .ok (.goto 7, 3) := by decide +kernel
theorem dX6_take_83 : decode cX6_take 83 = .ok (.aload_n 1, 1) := by decide +kernel
theorem dX6_take_84 : decode cX6_take 84 = .ok (.getfield 50, 3) := by decide +kernel
theorem dX6_take_87 : decode cX6_take 87 = .ok (.invokevirtual 62, 3) := by decide +kernel
theorem dX6_take_90 : decode cX6_take 90 = .ok (.astore 4, 2) := by decide +kernel
theorem dX6_take_92 : decode cX6_take 92 = .ok (.aload_n 0, 1) := by decide +kernel
theorem dX6_take_93 : decode cX6_take 93 = .ok (.getfield 23, 3) := by decide +kernel
theorem dX6_take_96 : decode cX6_take 96 = .ok (.invokevirtual 47, 3) := by decide +kernel
theorem dX6_take_99 : decode cX6_take 99 = .ok (.aload_n 0, 1) := by decide +kernel
theorem dX6_take_100 : decode cX6_take 100 = .ok (.getfield 23, 3) := by decide +kernel
theorem dX6_take_103 : decode cX6_take 103 = .ok (.aload 4, 2) := by decide +kernel
theorem dX6_take_105 : decode cX6_take 105 = .ok (.iconst 0, 1) := by decide +kernel
theorem dX6_take_106 : decode cX6_take 106 = .ok (.aload 4, 2) := by decide +kernel
theorem dX6_take_108 : decode cX6_take 108 = .ok (.getfield 66, 3) := by decide +kernel
theorem dX6_take_111 : decode cX6_take 111 = .ok (.invokevirtual 69, 3) := by decide +kernel
theorem dX6_take_114 : decode cX6_take 114 = .ok (.aload_n 0, 1) := by decide +kernel
theorem dX6_take_115 : decode cX6_take 115 = .ok (.iconst 0, 1) := by decide +kernel
theorem dX6_take_116 : decode cX6_take 116 = .ok (.putfield 34, 3) := by decide +kernel
theorem dX6_take_119 : decode cX6_take 119 = .ok (.goto 12, 3) := by decide +kernel
theorem dX6_take_122 : decode cX6_take 122 = .ok (.iload_n 2, 1) := by decide +kernel
theorem dX6_take_123 : decode cX6_take 123 = .ok (.ifCond .eq 8, 3) := by decide +kernel
theorem dX6_take_126 : decode cX6_take 126 = .ok (.aload_n 0, 1) := by decide +kernel
theorem dX6_take_127 : decode cX6_take 127 = .ok (.iconst 1, 1) := by decide +kernel
theorem dX6_take_128 : decode cX6_take 128 = .ok (.putfield 34, 3) := by decide +kernel
theorem dX6_take_131 : decode cX6_take 131 = .ok (.return_, 1) := by decide +kernel
theorem dX6_counts_0 : decode cX6_counts 0 = .ok (.aload_n 3, 1) := by decide +kernel
theorem dX6_counts_1 : decode cX6_counts 1 = .ok (.getfield 73, 3) := by decide +kernel
theorem dX6_counts_4 : decode cX6_counts 4 = .ok (.iload_n 2, 1) := by decide +kernel
theorem dX6_counts_5 : decode cX6_counts 5 = .ok (.invokevirtual 79, 3) := by decide +kernel
theorem dX6_counts_8 : decode cX6_counts 8 = .ok (.istore 4, 2) := by decide +kernel
theorem dX6_counts_10 : decode cX6_counts 10 = .ok (.iload_n 1, 1) := by decide +kernel
theorem dX6_counts_11 : decode cX6_counts 11 = .ok (.tableswitch 116 0 3 #[29, 45, 61, 96], 29) := by decide +kernel
theorem dX6_counts_40 : decode cX6_counts 40 = .ok (.aload_n 0, 1) := by decide +kernel
theorem dX6_counts_41 : decode cX6_counts 41 = .ok (.getfield 9, 3) := by decide +kernel
theorem dX6_counts_44 : decode cX6_counts 44 = .ok (.iload_n 2, 1) := by decide +kernel
theorem dX6_counts_45 : decode cX6_counts 45 = .ok (.iaload, 1) := by decide +kernel
theorem dX6_counts_46 : decode cX6_counts 46 = .ok (.iconst 1, 1) := by decide +kernel
theorem dX6_counts_47 : decode cX6_counts 47 = .ok (.if_icmp .ne 7, 3) := by decide +kernel
theorem dX6_counts_50 : decode cX6_counts 50 = .ok (.iconst 1, 1) := by decide +kernel
theorem dX6_counts_51 : decode cX6_counts 51 = .ok (.goto 4, 3) := by decide +kernel
theorem dX6_counts_54 : decode cX6_counts 54 = .ok (.iconst 0, 1) := by decide +kernel
theorem dX6_counts_55 : decode cX6_counts 55 = .ok (.ireturn, 1) := by decide +kernel
theorem dX6_counts_56 : decode cX6_counts 56 = .ok (.aload_n 0, 1) := by decide +kernel
theorem dX6_counts_57 : decode cX6_counts 57 = .ok (.getfield 9, 3) := by decide +kernel
theorem dX6_counts_60 : decode cX6_counts 60 = .ok (.iload_n 2, 1) := by decide +kernel
theorem dX6_counts_61 : decode cX6_counts 61 = .ok (.iaload, 1) := by decide +kernel
theorem dX6_counts_62 : decode cX6_counts 62 = .ok (.iconst 1, 1) := by decide +kernel
theorem dX6_counts_63 : decode cX6_counts 63 = .ok (.if_icmp .le 7, 3) := by decide +kernel
theorem dX6_counts_66 : decode cX6_counts 66 = .ok (.iconst 1, 1) := by decide +kernel
theorem dX6_counts_67 : decode cX6_counts 67 = .ok (.goto 4, 3) := by decide +kernel
theorem dX6_counts_70 : decode cX6_counts 70 = .ok (.iconst 0, 1) := by decide +kernel
theorem dX6_counts_71 : decode cX6_counts 71 = .ok (.ireturn, 1) := by decide +kernel
theorem dX6_counts_72 : decode cX6_counts 72 = .ok (.iload 4, 2) := by decide +kernel
theorem dX6_counts_74 : decode cX6_counts 74 = .ok (.ifCond .eq 31, 3) := by decide +kernel
theorem dX6_counts_77 : decode cX6_counts 77 = .ok (.aload_n 0, 1) := by decide +kernel
theorem dX6_counts_78 : decode cX6_counts 78 = .ok (.getfield 9, 3) := by decide +kernel
theorem dX6_counts_81 : decode cX6_counts 81 = .ok (.iload_n 2, 1) := by decide +kernel
theorem dX6_counts_82 : decode cX6_counts 82 = .ok (.iaload, 1) := by decide +kernel
theorem dX6_counts_83 : decode cX6_counts 83 = .ok (.ifCond .ne 22, 3) := by decide +kernel
theorem dX6_counts_86 : decode cX6_counts 86 = .ok (.aload_n 3, 1) := by decide +kernel
theorem dX6_counts_87 : decode cX6_counts 87 = .ok (.getfield 85, 3) := by decide +kernel
theorem dX6_counts_90 : decode cX6_counts 90 = .ok (.aload_n 3, 1) := by decide +kernel
theorem dX6_counts_91 : decode cX6_counts 91 = .ok (.getfield 73, 3) := by decide +kernel
theorem dX6_counts_94 : decode cX6_counts 94 = .ok (.iload_n 2, 1) := by decide +kernel
theorem dX6_counts_95 : decode cX6_counts 95 = .ok (.invokevirtual 89, 3) := by decide +kernel
theorem dX6_counts_98 : decode cX6_counts 98 = .ok (.ifCond .eq 7, 3) := by decide +kernel
theorem dX6_counts_101 : decode cX6_counts 101 = .ok (.iconst 1, 1) := by decide +kernel
theorem dX6_counts_102 : decode cX6_counts 102 = .ok (.goto 4, 3) := by decide +kernel
theorem dX6_counts_105 : decode cX6_counts 105 = .ok (.iconst 0, 1) := by decide +kernel
theorem dX6_counts_106 : decode cX6_counts 106 = .ok (.ireturn, 1) := by decide +kernel
theorem dX6_counts_107 : decode cX6_counts 107 = .ok (.iload 4, 2) := by decide +kernel
theorem dX6_counts_109 : decode cX6_counts 109 = .ok (.ifCond .ne 16, 3) := by decide +kernel
theorem dX6_counts_112 : decode cX6_counts 112 = .ok (.aload_n 0, 1) := by decide +kernel
theorem dX6_counts_113 : decode cX6_counts 113 = .ok (.getfield 9, 3) := by decide +kernel
theorem dX6_counts_116 : decode cX6_counts 116 = .ok (.iload_n 2, 1) := by decide +kernel
theorem dX6_counts_117 : decode cX6_counts 117 = .ok (.iaload, 1) := by decide +kernel
theorem dX6_counts_118 : decode cX6_counts 118 = .ok (.ifCond .le 7, 3) := by decide +kernel
theorem dX6_counts_121 : decode cX6_counts 121 = .ok (.iconst 1, 1) := by decide +kernel
theorem dX6_counts_122 : decode cX6_counts 122 = .ok (.goto 4, 3) := by decide +kernel
theorem dX6_counts_125 : decode cX6_counts 125 = .ok (.iconst 0, 1) := by decide +kernel
theorem dX6_counts_126 : decode cX6_counts 126 = .ok (.ireturn, 1) := by decide +kernel
theorem dX6_counts_127 : decode cX6_counts 127 = .ok (.iload 4, 2) := by decide +kernel
theorem dX6_counts_129 : decode cX6_counts 129 = .ok (.ifCond .eq 31, 3) := by decide +kernel
theorem dX6_counts_132 : decode cX6_counts 132 = .ok (.aload_n 0, 1) := by decide +kernel
theorem dX6_counts_133 : decode cX6_counts 133 = .ok (.getfield 9, 3) := by decide +kernel
theorem dX6_counts_136 : decode cX6_counts 136 = .ok (.iload_n 2, 1) := by decide +kernel
theorem dX6_counts_137 : decode cX6_counts 137 = .ok (.iaload, 1) := by decide +kernel
theorem dX6_counts_138 : decode cX6_counts 138 = .ok (.ifCond .le 22, 3) := by decide +kernel
theorem dX6_counts_141 : decode cX6_counts 141 = .ok (.aload_n 3, 1) := by decide +kernel
theorem dX6_counts_142 : decode cX6_counts 142 = .ok (.getfield 95, 3) := by decide +kernel
theorem dX6_counts_145 : decode cX6_counts 145 = .ok (.iload_n 2, 1) := by decide +kernel
theorem dX6_counts_146 : decode cX6_counts 146 = .ok (.iaload, 1) := by decide +kernel
theorem dX6_counts_147 : decode cX6_counts 147 = .ok (.aload_n 0, 1) := by decide +kernel
theorem dX6_counts_148 : decode cX6_counts 148 = .ok (.getfield 15, 3) := by decide +kernel
theorem dX6_counts_151 : decode cX6_counts 151 = .ok (.iload_n 2, 1) := by decide +kernel
theorem dX6_counts_152 : decode cX6_counts 152 = .ok (.iaload, 1) := by decide +kernel
theorem dX6_counts_153 : decode cX6_counts 153 = .ok (.if_icmp .le 7, 3) := by decide +kernel
theorem dX6_counts_156 : decode cX6_counts 156 = .ok (.iconst 1, 1) := by decide +kernel
theorem dX6_counts_157 : decode cX6_counts 157 = .ok (.goto 4, 3) := by decide +kernel
theorem dX6_counts_160 : decode cX6_counts 160 = .ok (.iconst 0, 1) := by decide +kernel
theorem dX6_counts_161 : decode cX6_counts 161 = .ok (.ireturn, 1) := by decide +kernel
theorem dX7_init_0 : decode cX7_init 0 = .ok (.aload_n 0, 1) := by decide +kernel
theorem dX7_init_1 : decode cX7_init 1 = .ok (.invokespecial 3, 3) := by decide +kernel
theorem dX7_init_4 : decode cX7_init 4 = .ok (.aload_n 0, 1) := by decide +kernel
theorem dX7_init_5 : decode cX7_init 5 = .ok (.bipush 64, 2) := by decide +kernel
theorem dX7_init_7 : decode cX7_init 7 = .ok (.newarray .boolean, 2) := by decide +kernel
theorem dX7_init_9 : decode cX7_init 9 = .ok (.putfield 9, 3) := by decide +kernel
theorem dX7_init_12 : decode cX7_init 12 = .ok (.aload_n 0, 1) := by decide +kernel
theorem dX7_init_13 : decode cX7_init 13 = .ok (.sipush 256, 3) := by decide +kernel
theorem dX7_init_16 : decode cX7_init 16 = .ok (.newarray .long, 2) := by decide +kernel
theorem dX7_init_18 : decode cX7_init 18 = .ok (.putfield 15, 3) := by decide +kernel
theorem dX7_init_21 : decode cX7_init 21 = .ok (.aload_n 0, 1) := by decide +kernel
theorem dX7_init_22 : decode cX7_init 22 = .ok (.iconst 0, 1) := by decide +kernel
theorem dX7_init_23 : decode cX7_init 23 = .ok (.putfield 19, 3) := by decide +kernel
theorem dX7_init_26 : decode cX7_init 26 = .ok (.aload_n 0, 1) := by decide +kernel
theorem dX7_init_27 : decode cX7_init 27 = .ok (.iconst 0, 1) := by decide +kernel
theorem dX7_init_28 : decode cX7_init 28 = .ok (.putfield 23, 3) := by decide +kernel
theorem dX7_init_31 : decode cX7_init 31 = .ok (.return_, 1) := by decide +kernel
theorem dX7_has_0 : decode cX7_has 0 = .ok (.iload_n 1, 1) := by decide +kernel
theorem dX7_has_1 : decode cX7_has 1 = .ok (.ifCond .lt 22, 3) := by decide +kernel
theorem dX7_has_4 : decode cX7_has 4 = .ok (.iload_n 1, 1) := by decide +kernel
theorem dX7_has_5 : decode cX7_has 5 = .ok (.bipush 64, 2) := by decide +kernel
theorem dX7_has_7 : decode cX7_has 7 = .ok (.if_icmp .ge 16, 3) := by decide +kernel
theorem dX7_has_10 : decode cX7_has 10 = .ok (.aload_n 0, 1) := by decide +kernel
theorem dX7_has_11 : decode cX7_has 11 = .ok (.getfield 9, 3) := by decide +kernel
theorem dX7_has_14 : decode cX7_has 14 = .ok (.iload_n 1, 1) := by decide +kernel
theorem dX7_has_15 : decode cX7_has 15 = .ok (.baload, 1) := by decide +kernel
theorem dX7_has_16 : decode cX7_has 16 = .ok (.ifCond .eq 7, 3) := by decide +kernel
theorem dX7_has_19 : decode cX7_has 19 = .ok (.iconst 1, 1) := by decide +kernel
theorem dX7_has_20 : decode cX7_has 20 = .ok (.goto 4, 3) := by decide +kernel
theorem dX7_has_23 : decode cX7_has 23 = .ok (.iconst 0, 1) := by decide +kernel
theorem dX7_has_24 : decode cX7_has 24 = .ok (.ireturn, 1) := by decide +kernel
theorem dX7_add_0 : decode cX7_add 0 = .ok (.aload_n 0, 1) := by decide +kernel
theorem dX7_add_1 : decode cX7_add 1 = .ok (.getfield 19, 3) := by decide +kernel
theorem dX7_add_4 : decode cX7_add 4 = .ok (.istore_n 1, 1) := by decide +kernel
theorem dX7_add_5 : decode cX7_add 5 = .ok (.iload_n 1, 1) := by decide +kernel
theorem dX7_add_6 : decode cX7_add 6 = .ok (.bipush 64, 2) := by decide +kernel
theorem dX7_add_8 : decode cX7_add 8 = .ok (.if_icmp .ge 19, 3) := by decide +kernel
theorem dX7_add_11 : decode cX7_add 11 = .ok (.aload_n 0, 1) := by decide +kernel
theorem dX7_add_12 : decode cX7_add 12 = .ok (.dup, 1) := by decide +kernel
theorem dX7_add_13 : decode cX7_add 13 = .ok (.getfield 19, 3) := by decide +kernel
theorem dX7_add_16 : decode cX7_add 16 = .ok (.iconst 1, 1) := by decide +kernel
theorem dX7_add_17 : decode cX7_add 17 = .ok (.iadd, 1) := by decide +kernel
theorem dX7_add_18 : decode cX7_add 18 = .ok (.putfield 19, 3) := by decide +kernel
theorem dX7_add_21 : decode cX7_add 21 = .ok (.aload_n 0, 1) := by decide +kernel
theorem dX7_add_22 : decode cX7_add 22 = .ok (.iload_n 1, 1) := by decide +kernel
theorem dX7_add_23 : decode cX7_add 23 = .ok (.iconst 1, 1) := by decide +kernel
theorem dX7_add_24 : decode cX7_add 24 = .ok (.invokevirtual 26, 3) := by decide +kernel
theorem dX7_add_27 : decode cX7_add 27 = .ok (.iload_n 1, 1) := by decide +kernel
theorem dX7_add_28 : decode cX7_add 28 = .ok (.ireturn, 1) := by decide +kernel
theorem dX7_set_0 : decode cX7_set 0 = .ok (.iload_n 1, 1) := by decide +kernel
theorem dX7_set_1 : decode cX7_set 1 = .ok (.ifCond .lt 44, 3) := by decide +kernel
theorem dX7_set_4 : decode cX7_set 4 = .ok (.iload_n 1, 1) := by decide +kernel
theorem dX7_set_5 : decode cX7_set 5 = .ok (.bipush 64, 2) := by decide +kernel
theorem dX7_set_7 : decode cX7_set 7 = .ok (.if_icmp .ge 38, 3) := by decide +kernel
theorem dX7_set_10 : decode cX7_set 10 = .ok (.aload_n 0, 1) := by decide +kernel
theorem dX7_set_11 : decode cX7_set 11 = .ok (.getfield 9, 3) := by decide +kernel
theorem dX7_set_14 : decode cX7_set 14 = .ok (.iload_n 1, 1) := by decide +kernel
theorem dX7_set_15 : decode cX7_set 15 = .ok (.baload, 1) := by decide +kernel
theorem dX7_set_16 : decode cX7_set 16 = .ok (.iload_n 2, 1) := by decide +kernel
theorem dX7_set_17 : decode cX7_set 17 = .ok (.if_icmp .eq 28, 3) := by decide +kernel
theorem dX7_set_20 : decode cX7_set 20 = .ok (.aload_n 0, 1) := by decide +kernel
theorem dX7_set_21 : decode cX7_set 21 = .ok (.getfield 9, 3) := by decide +kernel
theorem dX7_set_24 : decode cX7_set 24 = .ok (.iload_n 1, 1) := by decide +kernel
theorem dX7_set_25 : decode cX7_set 25 = .ok (.iload_n 2, 1) := by decide +kernel
theorem dX7_set_26 : decode cX7_set 26 = .ok (.bastore, 1) := by decide +kernel
theorem dX7_set_27 : decode cX7_set 27 = .ok (.aload_n 0, 1) := by decide +kernel
theorem dX7_set_28 : decode cX7_set 28 = .ok (.dup, 1) := by decide +kernel
theorem dX7_set_29 : decode cX7_set 29 = .ok (.getfield 23, 3) := by decide +kernel
theorem dX7_set_32 : decode cX7_set 32 = .ok (.iload_n 2, 1) := by decide +kernel
theorem dX7_set_33 : decode cX7_set 33 = .ok (.ifCond .eq 7, 3) := by decide +kernel
theorem dX7_set_36 : decode cX7_set 36 = .ok (.iconst 1, 1) := by decide +kernel
theorem dX7_set_37 : decode cX7_set 37 = .ok (.goto 4, 3) := by decide +kernel
theorem dX7_set_40 : decode cX7_set 40 = .ok (.iconst (-1), 1) := by decide +kernel
theorem dX7_set_41 : decode cX7_set 41 = .ok (.iadd, 1) := by decide +kernel
theorem dX7_set_42 : decode cX7_set 42 = .ok (.putfield 23, 3) := by decide +kernel
theorem dX7_set_45 : decode cX7_set 45 = .ok (.return_, 1) := by decide +kernel
theorem dX7_isCell_0 : decode cX7_isCell 0 = .ok (.iload_n 0, 1) := by decide +kernel
theorem dX7_isCell_1 : decode cX7_isCell 1 = .ok (.ifCond .lt 22, 3) := by decide +kernel
theorem dX7_isCell_4 : decode cX7_isCell 4 = .ok (.iload_n 0, 1) := by decide +kernel
theorem dX7_isCell_5 : decode cX7_isCell 5 = .ok (.bipush 64, 2) := by decide +kernel
theorem dX7_isCell_7 : decode cX7_isCell 7 = .ok (.if_icmp .ge 16, 3) := by decide +kernel
theorem dX7_isCell_10 : decode cX7_isCell 10 = .ok (.iload_n 1, 1) := by decide +kernel
theorem dX7_isCell_11 : decode cX7_isCell 11 = .ok (.ifCond .lt 12, 3) := by decide +kernel
theorem dX7_isCell_14 : decode cX7_isCell 14 = .ok (.iload_n 1, 1) := by decide +kernel
theorem dX7_isCell_15 : decode cX7_isCell 15 = .ok (.iconst 4, 1) := by decide +kernel
theorem dX7_isCell_16 : decode cX7_isCell 16 = .ok (.if_icmp .ge 7, 3) := by decide +kernel
theorem dX7_isCell_19 : decode cX7_isCell 19 = .ok (.iconst 1, 1) := by decide +kernel
theorem dX7_isCell_20 : decode cX7_isCell 20 = .ok (.goto 4, 3) := by decide +kernel
theorem dX7_isCell_23 : decode cX7_isCell 23 = .ok (.iconst 0, 1) := by decide +kernel
theorem dX7_isCell_24 : decode cX7_isCell 24 = .ok (.ireturn, 1) := by decide +kernel
theorem dX7_read_0 : decode cX7_read 0 = .ok (.iload_n 1, 1) := by decide +kernel
theorem dX7_read_1 : decode cX7_read 1 = .ok (.iload_n 2, 1) := by decide +kernel
theorem dX7_read_2 : decode cX7_read 2 = .ok (.invokestatic 30, 3) := by decide +kernel
theorem dX7_read_5 : decode cX7_read 5 = .ok (.ifCond .eq 16, 3) := by decide +kernel
theorem dX7_read_8 : decode cX7_read 8 = .ok (.aload_n 0, 1) := by decide +kernel
theorem dX7_read_9 : decode cX7_read 9 = .ok (.getfield 15, 3) := by decide +kernel
theorem dX7_read_12 : decode cX7_read 12 = .ok (.iload_n 1, 1) := by decide +kernel
theorem dX7_read_13 : decode cX7_read 13 = .ok (.iconst 4, 1) := by decide +kernel
theorem dX7_read_14 : decode cX7_read 14 = .ok (.imul, 1) := by decide +kernel
theorem dX7_read_15 : decode cX7_read 15 = .ok (.iload_n 2, 1) := by decide +kernel
theorem dX7_read_16 : decode cX7_read 16 = .ok (.iadd, 1) := by decide +kernel
theorem dX7_read_17 : decode cX7_read 17 = .ok (.laload, 1) := by decide +kernel
theorem dX7_read_18 : decode cX7_read 18 = .ok (.goto 6, 3) := by decide +kernel
theorem dX7_read_21 : decode cX7_read 21 = .ok (.ldc2_w 34, 3) := by decide +kernel
theorem dX7_read_24 : decode cX7_read 24 = .ok (.lreturn, 1) := by decide +kernel
theorem dX7_write_0 : decode cX7_write 0 = .ok (.iload_n 1, 1) := by decide +kernel
theorem dX7_write_1 : decode cX7_write 1 = .ok (.iload_n 2, 1) := by decide +kernel
theorem dX7_write_2 : decode cX7_write 2 = .ok (.invokestatic 30, 3) := by decide +kernel
theorem dX7_write_5 : decode cX7_write 5 = .ok (.ifCond .eq 14, 3) := by decide +kernel
theorem dX7_write_8 : decode cX7_write 8 = .ok (.aload_n 0, 1) := by decide +kernel
theorem dX7_write_9 : decode cX7_write 9 = .ok (.getfield 15, 3) := by decide +kernel
theorem dX7_write_12 : decode cX7_write 12 = .ok (.iload_n 1, 1) := by decide +kernel
theorem dX7_write_13 : decode cX7_write 13 = .ok (.iconst 4, 1) := by decide +kernel
theorem dX7_write_14 : decode cX7_write 14 = .ok (.imul, 1) := by decide +kernel
theorem dX7_write_15 : decode cX7_write 15 = .ok (.iload_n 2, 1) := by decide +kernel
theorem dX7_write_16 : decode cX7_write 16 = .ok (.iadd, 1) := by decide +kernel
theorem dX7_write_17 : decode cX7_write 17 = .ok (.lload_n 3, 1) := by decide +kernel
theorem dX7_write_18 : decode cX7_write 18 = .ok (.lastore, 1) := by decide +kernel
theorem dX7_write_19 : decode cX7_write 19 = .ok (.return_, 1) := by decide +kernel
theorem dX7_copy_0 : decode cX7_copy 0 = .ok (.aload_n 0, 1) := by decide +kernel
theorem dX7_copy_1 : decode cX7_copy 1 = .ok (.aload_n 1, 1) := by decide +kernel
theorem dX7_copy_2 : decode cX7_copy 2 = .ok (.getfield 19, 3) := by decide +kernel
theorem dX7_copy_5 : decode cX7_copy 5 = .ok (.putfield 19, 3) := by decide +kernel
theorem dX7_copy_8 : decode cX7_copy 8 = .ok (.aload_n 0, 1) := by decide +kernel
theorem dX7_copy_9 : decode cX7_copy 9 = .ok (.aload_n 1, 1) := by decide +kernel
theorem dX7_copy_10 : decode cX7_copy 10 = .ok (.getfield 23, 3) := by decide +kernel
theorem dX7_copy_13 : decode cX7_copy 13 = .ok (.putfield 23, 3) := by decide +kernel
theorem dX7_copy_16 : decode cX7_copy 16 = .ok (.aload_n 1, 1) := by decide +kernel
theorem dX7_copy_17 : decode cX7_copy 17 = .ok (.getfield 15, 3) := by decide +kernel
theorem dX7_copy_20 : decode cX7_copy 20 = .ok (.iconst 0, 1) := by decide +kernel
theorem dX7_copy_21 : decode cX7_copy 21 = .ok (.aload_n 0, 1) := by decide +kernel
theorem dX7_copy_22 : decode cX7_copy 22 = .ok (.getfield 15, 3) := by decide +kernel
theorem dX7_copy_25 : decode cX7_copy 25 = .ok (.iconst 0, 1) := by decide +kernel
theorem dX7_copy_26 : decode cX7_copy 26 = .ok (.sipush 256, 3) := by decide +kernel
theorem dX7_copy_29 : decode cX7_copy 29 = .ok (.invokestatic 36, 3) := by decide +kernel
theorem dX7_copy_32 : decode cX7_copy 32 = .ok (.iconst 0, 1) := by decide +kernel
theorem dX7_copy_33 : decode cX7_copy 33 = .ok (.istore_n 2, 1) := by decide +kernel
theorem dX7_copy_34 : decode cX7_copy 34 = .ok (.iload_n 2, 1) := by decide +kernel
theorem dX7_copy_35 : decode cX7_copy 35 = .ok (.bipush 64, 2) := by decide +kernel
theorem dX7_copy_37 : decode cX7_copy 37 = .ok (.if_icmp .ge 21, 3) := by decide +kernel
theorem dX7_copy_40 : decode cX7_copy 40 = .ok (.aload_n 0, 1) := by decide +kernel
theorem dX7_copy_41 : decode cX7_copy 41 = .ok (.getfield 9, 3) := by decide +kernel
theorem dX7_copy_44 : decode cX7_copy 44 = .ok (.iload_n 2, 1) := by decide +kernel
theorem dX7_copy_45 : decode cX7_copy 45 = .ok (.aload_n 1, 1) := by decide +kernel
theorem dX7_copy_46 : decode cX7_copy 46 = .ok (.getfield 9, 3) := by decide +kernel
theorem dX7_copy_49 : decode cX7_copy 49 = .ok (.iload_n 2, 1) := by decide +kernel
theorem dX7_copy_50 : decode cX7_copy 50 = .ok (.baload, 1) := by decide +kernel
theorem dX7_copy_51 : decode cX7_copy 51 = .ok (.bastore, 1) := by decide +kernel
theorem dX7_copy_52 : decode cX7_copy 52 = .ok (.iinc 2 1, 3) := by decide +kernel
theorem dX7_copy_55 : decode cX7_copy 55 = .ok (.goto (-21), 3) := by decide +kernel
theorem dX7_copy_58 : decode cX7_copy 58 = .ok (.return_, 1) := by decide +kernel
theorem dX8_init_0 : decode cX8_init 0 = .ok (.aload_n 0, 1) := by decide +kernel
theorem dX8_init_1 : decode cX8_init 1 = .ok (.invokespecial 3, 3) := by decide +kernel
theorem dX8_init_4 : decode cX8_init 4 = .ok (.aload_n 0, 1) := by decide +kernel
theorem dX8_init_5 : decode cX8_init 5 = .ok (.iconst 2, 1) := by decide +kernel
theorem dX8_init_6 : decode cX8_init 6 = .ok (.newarray .int, 2) := by decide +kernel
theorem dX8_init_8 : decode cX8_init 8 = .ok (.putfield 9, 3) := by decide +kernel
theorem dX8_init_11 : decode cX8_init 11 = .ok (.aload_n 0, 1) := by decide +kernel
theorem dX8_init_12 : decode cX8_init 12 = .ok (.iconst 2, 1) := by decide +kernel
theorem dX8_init_13 : decode cX8_init 13 = .ok (.newarray .int, 2) := by decide +kernel
theorem dX8_init_15 : decode cX8_init 15 = .ok (.putfield 15, 3) := by decide +kernel
theorem dX8_init_18 : decode cX8_init 18 = .ok (.aload_n 0, 1) := by decide +kernel
theorem dX8_init_19 : decode cX8_init 19 = .ok (.iconst 2, 1) := by decide +kernel
theorem dX8_init_20 : decode cX8_init 20 = .ok (.newarray .int, 2) := by decide +kernel
theorem dX8_init_22 : decode cX8_init 22 = .ok (.putfield 18, 3) := by decide +kernel
theorem dX8_init_25 : decode cX8_init 25 = .ok (.aload_n 0, 1) := by decide +kernel
theorem dX8_init_26 : decode cX8_init 26 = .ok (.iconst 2, 1) := by decide +kernel
theorem dX8_init_27 : decode cX8_init 27 = .ok (.newarray .long, 2) := by decide +kernel
theorem dX8_init_29 : decode cX8_init 29 = .ok (.putfield 21, 3) := by decide +kernel
theorem dX8_init_32 : decode cX8_init 32 = .ok (.aload_n 0, 1) := by decide +kernel
theorem dX8_init_33 : decode cX8_init 33 = .ok (.iconst 0, 1) := by decide +kernel
theorem dX8_init_34 : decode cX8_init 34 = .ok (.putfield 25, 3) := by decide +kernel
theorem dX8_init_37 : decode cX8_init 37 = .ok (.return_, 1) := by decide +kernel
theorem dX8_add_0 : decode cX8_add 0 = .ok (.aload_n 0, 1) := by decide +kernel
theorem dX8_add_1 : decode cX8_add 1 = .ok (.getfield 25, 3) := by decide +kernel
theorem dX8_add_4 : decode cX8_add 4 = .ok (.iconst 2, 1) := by decide +kernel
theorem dX8_add_5 : decode cX8_add 5 = .ok (.if_icmp .ge 54, 3) := by decide +kernel
theorem dX8_add_8 : decode cX8_add 8 = .ok (.aload_n 0, 1) := by decide +kernel
theorem dX8_add_9 : decode cX8_add 9 = .ok (.getfield 9, 3) := by decide +kernel
theorem dX8_add_12 : decode cX8_add 12 = .ok (.aload_n 0, 1) := by decide +kernel
theorem dX8_add_13 : decode cX8_add 13 = .ok (.getfield 25, 3) := by decide +kernel
theorem dX8_add_16 : decode cX8_add 16 = .ok (.iload_n 1, 1) := by decide +kernel
theorem dX8_add_17 : decode cX8_add 17 = .ok (.iastore, 1) := by decide +kernel
theorem dX8_add_18 : decode cX8_add 18 = .ok (.aload_n 0, 1) := by decide +kernel
theorem dX8_add_19 : decode cX8_add 19 = .ok (.getfield 15, 3) := by decide +kernel
theorem dX8_add_22 : decode cX8_add 22 = .ok (.aload_n 0, 1) := by decide +kernel
theorem dX8_add_23 : decode cX8_add 23 = .ok (.getfield 25, 3) := by decide +kernel
theorem dX8_add_26 : decode cX8_add 26 = .ok (.iload_n 2, 1) := by decide +kernel
theorem dX8_add_27 : decode cX8_add 27 = .ok (.iastore, 1) := by decide +kernel
theorem dX8_add_28 : decode cX8_add 28 = .ok (.aload_n 0, 1) := by decide +kernel
theorem dX8_add_29 : decode cX8_add 29 = .ok (.getfield 18, 3) := by decide +kernel
theorem dX8_add_32 : decode cX8_add 32 = .ok (.aload_n 0, 1) := by decide +kernel
theorem dX8_add_33 : decode cX8_add 33 = .ok (.getfield 25, 3) := by decide +kernel
theorem dX8_add_36 : decode cX8_add 36 = .ok (.iload_n 3, 1) := by decide +kernel
theorem dX8_add_37 : decode cX8_add 37 = .ok (.iastore, 1) := by decide +kernel
theorem dX8_add_38 : decode cX8_add 38 = .ok (.aload_n 0, 1) := by decide +kernel
theorem dX8_add_39 : decode cX8_add 39 = .ok (.getfield 21, 3) := by decide +kernel
theorem dX8_add_42 : decode cX8_add 42 = .ok (.aload_n 0, 1) := by decide +kernel
theorem dX8_add_43 : decode cX8_add 43 = .ok (.getfield 25, 3) := by decide +kernel
theorem dX8_add_46 : decode cX8_add 46 = .ok (.lload 4, 2) := by decide +kernel
theorem dX8_add_48 : decode cX8_add 48 = .ok (.lastore, 1) := by decide +kernel
theorem dX8_add_49 : decode cX8_add 49 = .ok (.aload_n 0, 1) := by decide +kernel
theorem dX8_add_50 : decode cX8_add 50 = .ok (.dup, 1) := by decide +kernel
theorem dX8_add_51 : decode cX8_add 51 = .ok (.getfield 25, 3) := by decide +kernel
theorem dX8_add_54 : decode cX8_add 54 = .ok (.iconst 1, 1) := by decide +kernel
theorem dX8_add_55 : decode cX8_add 55 = .ok (.iadd, 1) := by decide +kernel
theorem dX8_add_56 : decode cX8_add 56 = .ok (.putfield 25, 3) := by decide +kernel
theorem dX8_add_59 : decode cX8_add 59 = .ok (.return_, 1) := by decide +kernel
theorem dX8_lets_0 : decode cX8_lets 0 = .ok (.iconst 0, 1) := by decide +kernel
theorem dX8_lets_1 : decode cX8_lets 1 = .ok (.istore_n 3, 1) := by decide +kernel
theorem dX8_lets_2 : decode cX8_lets 2 = .ok (.iload_n 3, 1) := by decide +kernel
theorem dX8_lets_3 : decode cX8_lets 3 = .ok (.aload_n 0, 1) := by decide +kernel
theorem dX8_lets_4 : decode cX8_lets 4 = .ok (.getfield 25, 3) := by decide +kernel
theorem dX8_lets_7 : decode cX8_lets 7 = .ok (.if_icmp .ge 30, 3) := by decide +kernel
theorem dX8_lets_10 : decode cX8_lets 10 = .ok (.aload_n 0, 1) := by decide +kernel
theorem dX8_lets_11 : decode cX8_lets 11 = .ok (.iload_n 3, 1) := by decide +kernel
theorem dX8_lets_12 : decode cX8_lets 12 = .ok (.aload_n 1, 1) := by decide +kernel
theorem dX8_lets_13 : decode cX8_lets 13 = .ok (.iload_n 2, 1) := by decide +kernel
theorem dX8_lets_14 : decode cX8_lets 14 = .ok (.aload_n 0, 1) := by decide +kernel
theorem dX8_lets_15 : decode cX8_lets 15 = .ok (.getfield 9, 3) := by decide +kernel
theorem dX8_lets_18 : decode cX8_lets 18 = .ok (.iload_n 3, 1) := by decide +kernel
theorem dX8_lets_19 : decode cX8_lets 19 = .ok (.iaload, 1) := by decide +kernel
theorem dX8_lets_20 : decode cX8_lets 20 = .ok (.invokevirtual 29, 3) := by decide +kernel
theorem dX8_lets_23 : decode cX8_lets 23 = .ok (.invokevirtual 35, 3) := by decide +kernel
theorem dX8_lets_26 : decode cX8_lets 26 = .ok (.ifCond .ne 5, 3) := by decide +kernel
theorem dX8_lets_29 : decode cX8_lets 29 = .ok (.iconst 0, 1) := by decide +kernel
theorem dX8_lets_30 : decode cX8_lets 30 = .ok (.ireturn, 1) := by decide +kernel
theorem dX8_lets_31 : decode cX8_lets 31 = .ok (.iinc 3 1, 3) := by decide +kernel
theorem dX8_lets_34 : decode cX8_lets 34 = .ok (.goto (-32), 3) := by decide +kernel
theorem dX8_lets_37 : decode cX8_lets 37 = .ok (.iconst 1, 1) := by decide +kernel
theorem dX8_lets_38 : decode cX8_lets 38 = .ok (.ireturn, 1) := by decide +kernel
theorem dX8_meets_0 : decode cX8_meets 0 = .ok (.aload_n 0, 1) := by decide +kernel
theorem dX8_meets_1 : decode cX8_meets 1 = .ok (.getfield 18, 3) := by decide +kernel
theorem dX8_meets_4 : decode cX8_meets 4 = .ok (.iload_n 1, 1) := by decide +kernel
theorem dX8_meets_5 : decode cX8_meets 5 = .ok (.iaload, 1) := by decide +kernel
theorem dX8_meets_6 : decode cX8_meets 6 = .ok (.istore 4, 2) := by decide +kernel
theorem dX8_meets_8 : decode cX8_meets 8 = .ok (.lload_n 2, 1) := by decide +kernel
theorem dX8_meets_9 : decode cX8_meets 9 = .ok (.ldc2_w 39, 3) := by decide +kernel
theorem dX8_meets_12 : decode cX8_meets 12 = .ok (.lcmp, 1) := by decide +kernel
theorem dX8_meets_13 : decode cX8_meets 13 = .ok (.ifCond .ne 15, 3) := by decide +kernel
theorem dX8_meets_16 : decode cX8_meets 16 = .ok (.iload 4, 2) := by decide +kernel
theorem dX8_meets_18 : decode cX8_meets 18 = .ok (.iconst 3, 1) := by decide +kernel
theorem dX8_meets_19 : decode cX8_meets 19 = .ok (.if_icmp .ne 7, 3) := by decide +kernel
theorem dX8_meets_22 : decode cX8_meets 22 = .ok (.iconst 1, 1) := by decide +kernel
theorem dX8_meets_23 : decode cX8_meets 23 = .ok (.goto 4, 3) := by decide +kernel
theorem dX8_meets_26 : decode cX8_meets 26 = .ok (.iconst 0, 1) := by decide +kernel
theorem dX8_meets_27 : decode cX8_meets 27 = .ok (.ireturn, 1) := by decide +kernel
theorem dX8_meets_28 : decode cX8_meets 28 = .ok (.iload 4, 2) := by decide +kernel
theorem dX8_meets_30 : decode cX8_meets 30 = .ok (.iconst 3, 1) := by decide +kernel
theorem dX8_meets_31 : decode cX8_meets 31 = .ok (.if_icmp .lt 15, 3) := by decide +kernel
theorem dX8_meets_34 : decode cX8_meets 34 = .ok (.iload 4, 2) := by decide +kernel
theorem dX8_meets_36 : decode cX8_meets 36 = .ok (.iconst 4, 1) := by decide +kernel
theorem dX8_meets_37 : decode cX8_meets 37 = .ok (.if_icmp .ne 7, 3) := by decide +kernel
theorem dX8_meets_40 : decode cX8_meets 40 = .ok (.iconst 1, 1) := by decide +kernel
theorem dX8_meets_41 : decode cX8_meets 41 = .ok (.goto 4, 3) := by decide +kernel
theorem dX8_meets_44 : decode cX8_meets 44 = .ok (.iconst 0, 1) := by decide +kernel
theorem dX8_meets_45 : decode cX8_meets 45 = .ok (.ireturn, 1) := by decide +kernel
theorem dX8_meets_46 : decode cX8_meets 46 = .ok (.aload_n 0, 1) := by decide +kernel
theorem dX8_meets_47 : decode cX8_meets 47 = .ok (.getfield 15, 3) := by decide +kernel
theorem dX8_meets_50 : decode cX8_meets 50 = .ok (.iload_n 1, 1) := by decide +kernel
theorem dX8_meets_51 : decode cX8_meets 51 = .ok (.iaload, 1) := by decide +kernel
theorem dX8_meets_52 : decode cX8_meets 52 = .ok (.ifCond .ne 16, 3) := by decide +kernel
theorem dX8_meets_55 : decode cX8_meets 55 = .ok (.lload_n 2, 1) := by decide +kernel
theorem dX8_meets_56 : decode cX8_meets 56 = .ok (.aload_n 0, 1) := by decide +kernel
theorem dX8_meets_57 : decode cX8_meets 57 = .ok (.getfield 21, 3) := by decide +kernel
theorem dX8_meets_60 : decode cX8_meets 60 = .ok (.iload_n 1, 1) := by decide +kernel
theorem dX8_meets_61 : decode cX8_meets 61 = .ok (.laload, 1) := by decide +kernel
theorem dX8_meets_62 : decode cX8_meets 62 = .ok (.invokestatic 41, 3) := by decide +kernel
theorem dX8_meets_65 : decode cX8_meets 65 = .ok (.goto 19, 3) := by decide +kernel
theorem dX8_meets_68 : decode cX8_meets 68 = .ok (.lload_n 2, 1) := by decide +kernel
theorem dX8_meets_69 : decode cX8_meets 69 = .ok (.invokestatic 47, 3) := by decide +kernel
theorem dX8_meets_72 : decode cX8_meets 72 = .ok (.aload_n 0, 1) := by decide +kernel
theorem dX8_meets_73 : decode cX8_meets 73 = .ok (.getfield 21, 3) := by decide +kernel
theorem dX8_meets_76 : decode cX8_meets 76 = .ok (.iload_n 1, 1) := by decide +kernel
theorem dX8_meets_77 : decode cX8_meets 77 = .ok (.laload, 1) := by decide +kernel
theorem dX8_meets_78 : decode cX8_meets 78 = .ok (.invokestatic 47, 3) := by decide +kernel
theorem dX8_meets_81 : decode cX8_meets 81 = .ok (.invokestatic 41, 3) := by decide +kernel
theorem dX8_meets_84 : decode cX8_meets 84 = .ok (.istore 5, 2) := by decide +kernel
theorem dX8_meets_86 : decode cX8_meets 86 = .ok (.iload 4, 2) := by decide +kernel
theorem dX8_meets_88 : decode cX8_meets 88 = .ok (.ifCond .ne 14, 3) := by decide +kernel
theorem dX8_meets_91 : decode cX8_meets 91 = .ok (.iload 5, 2) := by decide +kernel
theorem dX8_meets_93 : decode cX8_meets 93 = .ok (.ifCond .ne 7, 3) := by decide +kernel
theorem dX8_meets_96 : decode cX8_meets 96 = .ok (.iconst 1, 1) := by decide +kernel
theorem dX8_meets_97 : decode cX8_meets 97 = .ok (.goto 4, 3) := by decide +kernel
theorem dX8_meets_100 : decode cX8_meets 100 = .ok (.iconst 0, 1) := by decide +kernel
theorem dX8_meets_101 : decode cX8_meets 101 = .ok (.ireturn, 1) := by decide +kernel
theorem dX8_meets_102 : decode cX8_meets 102 = .ok (.iload 4, 2) := by decide +kernel
theorem dX8_meets_104 : decode cX8_meets 104 = .ok (.iconst 1, 1) := by decide +kernel
theorem dX8_meets_105 : decode cX8_meets 105 = .ok (.if_icmp .ne 16, 3) := by decide +kernel
theorem dX8_meets_108 : decode cX8_meets 108 = .ok (.iload 5, 2) := by decide +kernel
theorem dX8_meets_110 : decode cX8_meets 110 = .ok (.ifCond .ge 7, 3) := by decide +kernel
theorem dX8_meets_113 : decode cX8_meets 113 = .ok (.iconst 1, 1) := by decide +kernel
theorem dX8_meets_114 : decode cX8_meets 114 = .ok (.goto 17, 3) := by decide +kernel
theorem dX8_meets_117 : decode cX8_meets 117 = .ok (.iconst 0, 1) := by decide +kernel
theorem dX8_meets_118 : decode cX8_meets 118 = .ok (.goto 13, 3) := by decide +kernel
theorem dX8_meets_121 : decode cX8_meets 121 = .ok (.iload 5, 2) := by decide +kernel
theorem dX8_meets_123 : decode cX8_meets 123 = .ok (.ifCond .le 7, 3) := by decide +kernel
theorem dX8_meets_126 : decode cX8_meets 126 = .ok (.iconst 1, 1) := by decide +kernel
theorem dX8_meets_127 : decode cX8_meets 127 = .ok (.goto 4, 3) := by decide +kernel
theorem dX8_meets_130 : decode cX8_meets 130 = .ok (.iconst 0, 1) := by decide +kernel
theorem dX8_meets_131 : decode cX8_meets 131 = .ok (.ireturn, 1) := by decide +kernel
theorem dX9_init_0 : decode cX9_init 0 = .ok (.aload_n 0, 1) := by decide +kernel
theorem dX9_init_1 : decode cX9_init 1 = .ok (.invokespecial 3, 3) := by decide +kernel
theorem dX9_init_4 : decode cX9_init 4 = .ok (.aload_n 0, 1) := by decide +kernel
theorem dX9_init_5 : decode cX9_init 5 = .ok (.iconst 4, 1) := by decide +kernel
theorem dX9_init_6 : decode cX9_init 6 = .ok (.newarray .long, 2) := by decide +kernel
theorem dX9_init_8 : decode cX9_init 8 = .ok (.putfield 9, 3) := by decide +kernel
theorem dX9_init_11 : decode cX9_init 11 = .ok (.aload_n 0, 1) := by decide +kernel
theorem dX9_init_12 : decode cX9_init 12 = .ok (.iconst 4, 1) := by decide +kernel
theorem dX9_init_13 : decode cX9_init 13 = .ok (.newarray .int, 2) := by decide +kernel
theorem dX9_init_15 : decode cX9_init 15 = .ok (.putfield 15, 3) := by decide +kernel
theorem dX9_init_18 : decode cX9_init 18 = .ok (.aload_n 0, 1) := by decide +kernel
theorem dX9_init_19 : decode cX9_init 19 = .ok (.new 19, 3) := by decide +kernel
theorem dX9_init_22 : decode cX9_init 22 = .ok (.dup, 1) := by decide +kernel
theorem dX9_init_23 : decode cX9_init 23 = .ok (.invokespecial 21, 3) := by decide +kernel
theorem dX9_init_26 : decode cX9_init 26 = .ok (.putfield 22, 3) := by decide +kernel
theorem dX9_init_29 : decode cX9_init 29 = .ok (.aload_n 0, 1) := by decide +kernel
theorem dX9_init_30 : decode cX9_init 30 = .ok (.new 26, 3) := by decide +kernel
theorem dX9_init_33 : decode cX9_init 33 = .ok (.dup, 1) := by decide +kernel
theorem dX9_init_34 : decode cX9_init 34 = .ok (.invokespecial 28, 3) := by decide +kernel
theorem dX9_init_37 : decode cX9_init 37 = .ok (.putfield 29, 3) := by decide +kernel
theorem dX9_init_40 : decode cX9_init 40 = .ok (.aload_n 0, 1) := by decide +kernel
theorem dX9_init_41 : decode cX9_init 41 = .ok (.new 33, 3) := by decide +kernel
theorem dX9_init_44 : decode cX9_init 44 = .ok (.dup, 1) := by decide +kernel
theorem dX9_init_45 : decode cX9_init 45 = .ok (.invokespecial 35, 3) := by decide +kernel
theorem dX9_init_48 : decode cX9_init 48 = .ok (.putfield 36, 3) := by decide +kernel
theorem dX9_init_51 : decode cX9_init 51 = .ok (.aload_n 0, 1) := by decide +kernel
theorem dX9_init_52 : decode cX9_init 52 = .ok (.new 40, 3) := by decide +kernel
theorem dX9_init_55 : decode cX9_init 55 = .ok (.dup, 1) := by decide +kernel
theorem dX9_init_56 : decode cX9_init 56 = .ok (.invokespecial 42, 3) := by decide +kernel
theorem dX9_init_59 : decode cX9_init 59 = .ok (.putfield 43, 3) := by decide +kernel
theorem dX9_init_62 : decode cX9_init 62 = .ok (.aload_n 0, 1) := by decide +kernel
theorem dX9_init_63 : decode cX9_init 63 = .ok (.bipush 64, 2) := by decide +kernel
theorem dX9_init_65 : decode cX9_init 65 = .ok (.newarray .int, 2) := by decide +kernel
theorem dX9_init_67 : decode cX9_init 67 = .ok (.putfield 47, 3) := by decide +kernel
theorem dX9_init_70 : decode cX9_init 70 = .ok (.aload_n 0, 1) := by decide +kernel
theorem dX9_init_71 : decode cX9_init 71 = .ok (.iconst 0, 1) := by decide +kernel
theorem dX9_init_72 : decode cX9_init 72 = .ok (.putfield 50, 3) := by decide +kernel
theorem dX9_init_75 : decode cX9_init 75 = .ok (.aload_n 0, 1) := by decide +kernel
theorem dX9_init_76 : decode cX9_init 76 = .ok (.iconst 0, 1) := by decide +kernel
theorem dX9_init_77 : decode cX9_init 77 = .ok (.putfield 54, 3) := by decide +kernel
theorem dX9_init_80 : decode cX9_init 80 = .ok (.return_, 1) := by decide +kernel
theorem dX9_addColumn_0 : decode cX9_addColumn 0 = .ok (.aload_n 0, 1) := by decide +kernel
theorem dX9_addColumn_1 : decode cX9_addColumn 1 = .ok (.getfield 50, 3) := by decide +kernel
theorem dX9_addColumn_4 : decode cX9_addColumn 4 = .ok (.iconst 4, 1) := by decide +kernel
theorem dX9_addColumn_5 : decode cX9_addColumn 5 = .ok (.if_icmp .ge 33, 3) := by decide +kernel
theorem dX9_addColumn_8 : decode cX9_addColumn 8 = .ok (.aload_n 0, 1) := by decide +kernel
theorem dX9_addColumn_9 : decode cX9_addColumn 9 = .ok (.getfield 9, 3) := by decide +kernel
theorem dX9_addColumn_12 : decode cX9_addColumn 12 = .ok (.aload_n 0, 1) := by decide +kernel
theorem dX9_addColumn_13 : decode cX9_addColumn 13 = .ok (.getfield 50, 3) := by decide +kernel
theorem dX9_addColumn_16 : decode cX9_addColumn 16 = .ok (.lload_n 1, 1) := by decide +kernel
theorem dX9_addColumn_17 : decode cX9_addColumn 17 = .ok (.lastore, 1) := by decide +kernel
theorem dX9_addColumn_18 : decode cX9_addColumn 18 = .ok (.aload_n 0, 1) := by decide +kernel
theorem dX9_addColumn_19 : decode cX9_addColumn 19 = .ok (.getfield 15, 3) := by decide +kernel
theorem dX9_addColumn_22 : decode cX9_addColumn 22 = .ok (.aload_n 0, 1) := by decide +kernel
theorem dX9_addColumn_23 : decode cX9_addColumn 23 = .ok (.getfield 50, 3) := by decide +kernel
theorem dX9_addColumn_26 : decode cX9_addColumn 26 = .ok (.iload_n 3, 1) := by decide +kernel
theorem dX9_addColumn_27 : decode cX9_addColumn 27 = .ok (.iastore, 1) := by decide +kernel
theorem dX9_addColumn_28 : decode cX9_addColumn 28 = .ok (.aload_n 0, 1) := by decide +kernel
theorem dX9_addColumn_29 : decode cX9_addColumn 29 = .ok (.dup, 1) := by decide +kernel
theorem dX9_addColumn_30 : decode cX9_addColumn 30 = .ok (.getfield 50, 3) := by decide +kernel
theorem dX9_addColumn_33 : decode cX9_addColumn 33 = .ok (.iconst 1, 1) := by decide +kernel
theorem dX9_addColumn_34 : decode cX9_addColumn 34 = .ok (.iadd, 1) := by decide +kernel
theorem dX9_addColumn_35 : decode cX9_addColumn 35 = .ok (.putfield 50, 3) := by decide +kernel
theorem dX9_addColumn_38 : decode cX9_addColumn 38 = .ok (.return_, 1) := by decide +kernel
theorem dX9_columnOf_0 : decode cX9_columnOf 0 = .ok (.iconst 0, 1) := by decide +kernel
theorem dX9_columnOf_1 : decode cX9_columnOf 1 = .ok (.istore_n 3, 1) := by decide +kernel
theorem dX9_columnOf_2 : decode cX9_columnOf 2 = .ok (.iload_n 3, 1) := by decide +kernel
theorem dX9_columnOf_3 : decode cX9_columnOf 3 = .ok (.aload_n 0, 1) := by decide +kernel
theorem dX9_columnOf_4 : decode cX9_columnOf 4 = .ok (.getfield 50, 3) := by decide +kernel
theorem dX9_columnOf_7 : decode cX9_columnOf 7 = .ok (.if_icmp .ge 22, 3) := by decide +kernel
theorem dX9_columnOf_10 : decode cX9_columnOf 10 = .ok (.aload_n 0, 1) := by decide +kernel
theorem dX9_columnOf_11 : decode cX9_columnOf 11 = .ok (.getfield 9, 3) := by decide +kernel
theorem dX9_columnOf_14 : decode cX9_columnOf 14 = .ok (.iload_n 3, 1) := by decide +kernel
theorem dX9_columnOf_15 : decode cX9_columnOf 15 = .ok (.laload, 1) := by decide +kernel
theorem dX9_columnOf_16 : decode cX9_columnOf 16 = .ok (.lload_n 1, 1) := by decide +kernel
theorem dX9_columnOf_17 : decode cX9_columnOf 17 = .ok (.lcmp, 1) := by decide +kernel
theorem dX9_columnOf_18 : decode cX9_columnOf 18 = .ok (.ifCond .ne 5, 3) := by decide +kernel
theorem dX9_columnOf_21 : decode cX9_columnOf 21 = .ok (.iload_n 3, 1) := by decide +kernel
theorem dX9_columnOf_22 : decode cX9_columnOf 22 = .ok (.ireturn, 1) := by decide +kernel
theorem dX9_columnOf_23 : decode cX9_columnOf 23 = .ok (.iinc 3 1, 3) := by decide +kernel
theorem dX9_columnOf_26 : decode cX9_columnOf 26 = .ok (.goto (-24), 3) := by decide +kernel
theorem dX9_columnOf_29 : decode cX9_columnOf 29 = .ok (.iconst (-1), 1) := by decide +kernel
theorem dX9_columnOf_30 : decode cX9_columnOf 30 = .ok (.ireturn, 1) := by decide +kernel
theorem dX9_canHold_0 : decode cX9_canHold 0 = .ok (.iload_n 1, 1) := by decide +kernel
theorem dX9_canHold_1 : decode cX9_canHold 1 = .ok (.ifCond .lt 11, 3) := by decide +kernel
theorem dX9_canHold_4 : decode cX9_canHold 4 = .ok (.iload_n 1, 1) := by decide +kernel
theorem dX9_canHold_5 : decode cX9_canHold 5 = .ok (.aload_n 0, 1) := by decide +kernel
theorem dX9_canHold_6 : decode cX9_canHold 6 = .ok (.getfield 50, 3) := by decide +kernel
theorem dX9_canHold_9 : decode cX9_canHold 9 = .ok (.if_icmp .lt 5, 3) := by decide +kernel
theorem dX9_canHold_12 : decode cX9_canHold 12 = .ok (.iconst 0, 1) := by decide +kernel
theorem dX9_canHold_13 : decode cX9_canHold 13 = .ok (.ireturn, 1) := by decide +kernel
theorem dX9_canHold_14 : decode cX9_canHold 14 = .ok (.lload_n 2, 1) := by decide +kernel
theorem dX9_canHold_15 : decode cX9_canHold 15 = .ok (.ldc2_w 57, 3) := by decide +kernel
theorem dX9_canHold_18 : decode cX9_canHold 18 = .ok (.lcmp, 1) := by decide +kernel
theorem dX9_canHold_19 : decode cX9_canHold 19 = .ok (.ifCond .ne 5, 3) := by decide +kernel
theorem dX9_canHold_22 : decode cX9_canHold 22 = .ok (.iconst 1, 1) := by decide +kernel
theorem dX9_canHold_23 : decode cX9_canHold 23 = .ok (.ireturn, 1) := by decide +kernel
theorem dX9_canHold_24 : decode cX9_canHold 24 = .ok (.aload_n 0, 1) := by decide +kernel
theorem dX9_canHold_25 : decode cX9_canHold 25 = .ok (.getfield 15, 3) := by decide +kernel
theorem dX9_canHold_28 : decode cX9_canHold 28 = .ok (.iload_n 1, 1) := by decide +kernel
theorem dX9_canHold_29 : decode cX9_canHold 29 = .ok (.iaload, 1) := by decide +kernel
theorem dX9_canHold_30 : decode cX9_canHold 30 = .ok (.iconst 1, 1) := by decide +kernel
theorem dX9_canHold_31 : decode cX9_canHold 31 = .ok (.if_icmp .ne 10, 3) := by decide +kernel
theorem dX9_canHold_34 : decode cX9_canHold 34 = .ok (.lload_n 2, 1) := by decide +kernel
theorem dX9_canHold_35 : decode cX9_canHold 35 = .ok (.invokestatic 59, 3) := by decide +kernel
theorem dX9_canHold_38 : decode cX9_canHold 38 = .ok (.goto 24, 3) := by decide +kernel
theorem dX9_canHold_41 : decode cX9_canHold 41 = .ok (.lload_n 2, 1) := by decide +kernel
theorem dX9_canHold_42 : decode cX9_canHold 42 = .ok (.ldc2_w 63, 3) := by decide +kernel
theorem dX9_canHold_45 : decode cX9_canHold 45 = .ok (.lcmp, 1) := by decide +kernel
theorem dX9_canHold_46 : decode cX9_canHold 46 = .ok (.ifCond .lt 15, 3) := by decide +kernel
theorem dX9_canHold_49 : decode cX9_canHold 49 = .ok (.lload_n 2, 1) := by decide +kernel
theorem dX9_canHold_50 : decode cX9_canHold 50 = .ok (.ldc2_w 65, 3) := by decide +kernel
theorem dX9_canHold_53 : decode cX9_canHold 53 = .ok (.lcmp, 1) := by decide +kernel
theorem dX9_canHold_54 : decode cX9_canHold 54 = .ok (.ifCond .gt 7, 3) := by decide +kernel
theorem dX9_canHold_57 : decode cX9_canHold 57 = .ok (.iconst 1, 1) := by decide +kernel
theorem dX9_canHold_58 : decode cX9_canHold 58 = .ok (.goto 4, 3) := by decide +kernel
theorem dX9_canHold_61 : decode cX9_canHold 61 = .ok (.iconst 0, 1) := by decide +kernel
theorem dX9_canHold_62 : decode cX9_canHold 62 = .ok (.ireturn, 1) := by decide +kernel
theorem dX9_lacksValue_0 : decode cX9_lacksValue 0 = .ok (.iconst 0, 1) := by decide +kernel
theorem dX9_lacksValue_1 : decode cX9_lacksValue 1 = .ok (.istore_n 2, 1) := by decide +kernel
theorem dX9_lacksValue_2 : decode cX9_lacksValue 2 = .ok (.iload_n 2, 1) := by decide +kernel
theorem dX9_lacksValue_3 : decode cX9_lacksValue 3 = .ok (.aload_n 0, 1) := by decide +kernel
theorem dX9_lacksValue_4 : decode cX9_lacksValue 4 = .ok (.getfield 50, 3) := by decide +kernel
theorem dX9_lacksValue_7 : decode cX9_lacksValue 7 = .ok (.if_icmp .ge 27, 3) := by decide +kernel
theorem dX9_lacksValue_10 : decode cX9_lacksValue 10 = .ok (.aload_n 0, 1) := by decide +kernel
theorem dX9_lacksValue_11 : decode cX9_lacksValue 11 = .ok (.getfield 36, 3) := by decide +kernel
theorem dX9_lacksValue_14 : decode cX9_lacksValue 14 = .ok (.iload_n 1, 1) := by decide +kernel
theorem dX9_lacksValue_15 : decode cX9_lacksValue 15 = .ok (.iload_n 2, 1) := by decide +kernel
theorem dX9_lacksValue_16 : decode cX9_lacksValue 16 = .ok (.invokevirtual 67, 3) := by decide +kernel
theorem dX9_lacksValue_19 : decode cX9_lacksValue 19 = .ok (.ldc2_w 57, 3) := by decide +kernel
theorem dX9_lacksValue_22 : decode cX9_lacksValue 22 = .ok (.lcmp, 1) := by decide +kernel
theorem dX9_lacksValue_23 : decode cX9_lacksValue 23 = .ok (.ifCond .ne 5, 3) := by decide +kernel
theorem dX9_lacksValue_26 : decode cX9_lacksValue 26 = .ok (.iconst 1, 1) := by decide +kernel
theorem dX9_lacksValue_27 : decode cX9_lacksValue 27 = .ok (.ireturn, 1) := by decide +kernel
theorem dX9_lacksValue_28 : decode cX9_lacksValue 28 = .ok (.iinc 2 1, 3) := by decide +kernel
theorem dX9_lacksValue_31 : decode cX9_lacksValue 31 = .ok (.goto (-29), 3) := by decide +kernel
theorem dX9_lacksValue_34 : decode cX9_lacksValue 34 = .ok (.iconst 0, 1) := by decide +kernel
theorem dX9_lacksValue_35 : decode cX9_lacksValue 35 = .ok (.ireturn, 1) := by decide +kernel
theorem dX10_init_0 : decode cX10_init 0 = .ok (.aload_n 0, 1) := by decide +kernel
theorem dX10_init_1 : decode cX10_init 1 = .ok (.invokespecial 3, 3) := by decide +kernel
theorem dX10_init_4 : decode cX10_init 4 = .ok (.aload_n 0, 1) := by decide +kernel
theorem dX10_init_5 : decode cX10_init 5 = .ok (.new 9, 3) := by decide +kernel
theorem dX10_init_8 : decode cX10_init 8 = .ok (.dup, 1) := by decide +kernel
theorem dX10_init_9 : decode cX10_init 9 = .ok (.invokespecial 11, 3) := by decide +kernel
theorem dX10_init_12 : decode cX10_init 12 = .ok (.putfield 12, 3) := by decide +kernel
theorem dX10_init_15 : decode cX10_init 15 = .ok (.aload_n 0, 1) := by decide +kernel
theorem dX10_init_16 : decode cX10_init 16 = .ok (.bipush 40, 2) := by decide +kernel
theorem dX10_init_18 : decode cX10_init 18 = .ok (.newarray .int, 2) := by decide +kernel
theorem dX10_init_20 : decode cX10_init 20 = .ok (.putfield 18, 3) := by decide +kernel
theorem dX10_init_23 : decode cX10_init 23 = .ok (.aload_n 0, 1) := by decide +kernel
theorem dX10_init_24 : decode cX10_init 24 = .ok (.bipush 40, 2) := by decide +kernel
theorem dX10_init_26 : decode cX10_init 26 = .ok (.anewarray 22, 3) := by decide +kernel
theorem dX10_init_29 : decode cX10_init 29 = .ok (.putfield 24, 3) := by decide +kernel
theorem dX10_init_32 : decode cX10_init 32 = .ok (.iconst 0, 1) := by decide +kernel
theorem dX10_init_33 : decode cX10_init 33 = .ok (.istore_n 1, 1) := by decide +kernel
theorem dX10_init_34 : decode cX10_init 34 = .ok (.iload_n 1, 1) := by decide +kernel
theorem dX10_init_35 : decode cX10_init 35 = .ok (.bipush 40, 2) := by decide +kernel
theorem dX10_init_37 : decode cX10_init 37 = .ok (.if_icmp .ge 24, 3) := by decide +kernel
theorem dX10_init_40 : decode cX10_init 40 = .ok (.aload_n 0, 1) := by decide +kernel
theorem dX10_init_41 : decode cX10_init 41 = .ok (.getfield 24, 3) := by decide +kernel
theorem dX10_init_44 : decode cX10_init 44 = .ok (.iload_n 1, 1) := by decide +kernel
theorem dX10_init_45 : decode cX10_init 45 = .ok (.new 22, 3) := by decide +kernel
theorem dX10_init_48 : decode cX10_init 48 = .ok (.dup, 1) := by decide +kernel
theorem dX10_init_49 : decode cX10_init 49 = .ok (.bipush 34, 2) := by decide +kernel
theorem dX10_init_51 : decode cX10_init 51 = .ok (.invokespecial 28, 3) := by decide +kernel
theorem dX10_init_54 : decode cX10_init 54 = .ok (.aastore, 1) := by decide +kernel
theorem dX10_init_55 : decode cX10_init 55 = .ok (.iinc 1 1, 3) := by decide +kernel
theorem dX10_init_58 : decode cX10_init 58 = .ok (.goto (-24), 3) := by decide +kernel
theorem dX10_init_61 : decode cX10_init 61 = .ok (.aload_n 0, 1) := by decide +kernel
theorem dX10_init_62 : decode cX10_init 62 = .ok (.bipush 40, 2) := by decide +kernel
theorem dX10_init_64 : decode cX10_init 64 = .ok (.newarray .int, 2) := by decide +kernel
theorem dX10_init_66 : decode cX10_init 66 = .ok (.putfield 31, 3) := by decide +kernel
theorem dX10_init_69 : decode cX10_init 69 = .ok (.aload_n 0, 1) := by decide +kernel
theorem dX10_init_70 : decode cX10_init 70 = .ok (.iconst 0, 1) := by decide +kernel
theorem dX10_init_71 : decode cX10_init 71 = .ok (.putfield 34, 3) := by decide +kernel
theorem dX10_init_74 : decode cX10_init 74 = .ok (.aload_n 0, 1) := by decide +kernel
theorem dX10_init_75 : decode cX10_init 75 = .ok (.iconst 0, 1) := by decide +kernel
theorem dX10_init_76 : decode cX10_init 76 = .ok (.putfield 38, 3) := by decide +kernel
theorem dX10_init_79 : decode cX10_init 79 = .ok (.aload_n 0, 1) := by decide +kernel
theorem dX10_init_80 : decode cX10_init 80 = .ok (.iconst 0, 1) := by decide +kernel
theorem dX10_init_81 : decode cX10_init 81 = .ok (.putfield 41, 3) := by decide +kernel
theorem dX10_init_84 : decode cX10_init 84 = .ok (.aload_n 0, 1) := by decide +kernel
theorem dX10_init_85 : decode cX10_init 85 = .ok (.iconst 0, 1) := by decide +kernel
theorem dX10_init_86 : decode cX10_init 86 = .ok (.putfield 44, 3) := by decide +kernel
theorem dX10_init_89 : decode cX10_init 89 = .ok (.aload_n 0, 1) := by decide +kernel
theorem dX10_init_90 : decode cX10_init 90 = .ok (.aconst_null, 1) := by decide +kernel
theorem dX10_init_91 : decode cX10_init 91 = .ok (.putfield 47, 3) := by decide +kernel
theorem dX10_init_94 : decode cX10_init 94 = .ok (.aload_n 0, 1) := by decide +kernel
theorem dX10_init_95 : decode cX10_init 95 = .ok (.iconst 0, 1) := by decide +kernel
theorem dX10_init_96 : decode cX10_init 96 = .ok (.putfield 51, 3) := by decide +kernel
theorem dX10_init_99 : decode cX10_init 99 = .ok (.aload_n 0, 1) := by decide +kernel
theorem dX10_init_100 : decode cX10_init 100 = .ok (.iconst 0, 1) := by decide +kernel
theorem dX10_init_101 : decode cX10_init 101 = .ok (.putfield 54, 3) := by decide +kernel
theorem dX10_init_104 : decode cX10_init 104 = .ok (.return_, 1) := by decide +kernel
theorem dX10_show_0 : decode cX10_show 0 = .ok (.aload_n 0, 1) := by decide +kernel
theorem dX10_show_1 : decode cX10_show 1 = .ok (.getfield 47, 3) := by decide +kernel
theorem dX10_show_4 : decode cX10_show 4 = .ok (.aload_n 1, 1) := by decide +kernel
theorem dX10_show_5 : decode cX10_show 5 = .ok (.if_acmp .ne 23, 3) := by decide +kernel
theorem dX10_show_8 : decode cX10_show 8 = .ok (.aload_n 0, 1) := by decide +kernel
theorem dX10_show_9 : decode cX10_show 9 = .ok (.getfield 51, 3) := by decide +kernel
theorem dX10_show_12 : decode cX10_show 12 = .ok (.iload_n 2, 1) := by decide +kernel
theorem dX10_show_13 : decode cX10_show 13 = .ok (.if_icmp .ne 15, 3) := by decide +kernel
theorem dX10_show_16 : decode cX10_show 16 = .ok (.aload_n 0, 1) := by decide +kernel
theorem dX10_show_17 : decode cX10_show 17 = .ok (.getfield 54, 3) := by decide +kernel
theorem dX10_show_20 : decode cX10_show 20 = .ok (.aload_n 1, 1) := by decide +kernel
theorem dX10_show_21 : decode cX10_show 21 = .ok (.getfield 57, 3) := by decide +kernel
theorem dX10_show_24 : decode cX10_show 24 = .ok (.if_icmp .ne 4, 3) := by decide +kernel
theorem dX10_show_27 : decode cX10_show 27 = .ok (.return_, 1) := by decide +kernel
theorem dX10_show_28 : decode cX10_show 28 = .ok (.aload_n 0, 1) := by decide +kernel
theorem dX10_show_29 : decode cX10_show 29 = .ok (.aload_n 1, 1) := by decide +kernel
theorem dX10_show_30 : decode cX10_show 30 = .ok (.putfield 47, 3) := by decide +kernel
theorem dX10_show_33 : decode cX10_show 33 = .ok (.aload_n 0, 1) := by decide +kernel
theorem dX10_show_34 : decode cX10_show 34 = .ok (.iload_n 2, 1) := by decide +kernel
theorem dX10_show_35 : decode cX10_show 35 = .ok (.putfield 51, 3) := by decide +kernel
theorem dX10_show_38 : decode cX10_show 38 = .ok (.aload_n 0, 1) := by decide +kernel
theorem dX10_show_39 : decode cX10_show 39 = .ok (.aload_n 1, 1) := by decide +kernel
theorem dX10_show_40 : decode cX10_show 40 = .ok (.getfield 57, 3) := by decide +kernel
theorem dX10_show_43 : decode cX10_show 43 = .ok (.putfield 54, 3) := by decide +kernel
theorem dX10_show_46 : decode cX10_show 46 = .ok (.aload_n 0, 1) := by decide +kernel
theorem dX10_show_47 : decode cX10_show 47 = .ok (.getfield 12, 3) := by decide +kernel
theorem dX10_show_50 : decode cX10_show 50 = .ok (.aload_n 1, 1) := by decide +kernel
theorem dX10_show_51 : decode cX10_show 51 = .ok (.getfield 60, 3) := by decide +kernel
theorem dX10_show_54 : decode cX10_show 54 = .ok (.invokevirtual 61, 3) := by decide +kernel
theorem dX10_show_57 : decode cX10_show 57 = .ok (.aload_n 1, 1) := by decide +kernel
theorem dX10_show_58 : decode cX10_show 58 = .ok (.getfield 65, 3) := by decide +kernel
theorem dX10_show_61 : decode cX10_show 61 = .ok (.aload_n 0, 1) := by decide +kernel
theorem dX10_show_62 : decode cX10_show 62 = .ok (.getfield 12, 3) := by decide +kernel
theorem dX10_show_65 : decode cX10_show 65 = .ok (.iload_n 2, 1) := by decide +kernel
theorem dX10_show_66 : decode cX10_show 66 = .ok (.invokevirtual 69, 3) := by decide +kernel
theorem dX10_show_69 : decode cX10_show 69 = .ok (.aload_n 0, 1) := by decide +kernel
theorem dX10_show_70 : decode cX10_show 70 = .ok (.iconst 0, 1) := by decide +kernel
theorem dX10_show_71 : decode cX10_show 71 = .ok (.putfield 34, 3) := by decide +kernel
theorem dX10_show_74 : decode cX10_show 74 = .ok (.aload_n 0, 1) := by decide +kernel
theorem dX10_show_75 : decode cX10_show 75 = .ok (.iconst 0, 1) := by decide +kernel
theorem dX10_show_76 : decode cX10_show 76 = .ok (.putfield 38, 3) := by decide +kernel
theorem dX10_show_79 : decode cX10_show 79 = .ok (.iconst 0, 1) := by decide +kernel
theorem dX10_show_80 : decode cX10_show 80 = .ok (.istore_n 3, 1) := by decide +kernel
theorem dX10_show_81 : decode cX10_show 81 = .ok (.iload_n 3, 1) := by decide +kernel
theorem dX10_show_82 : decode cX10_show 82 = .ok (.aload_n 0, 1) := by decide +kernel
theorem dX10_show_83 : decode cX10_show 83 = .ok (.getfield 12, 3) := by decide +kernel
theorem dX10_show_86 : decode cX10_show 86 = .ok (.getfield 75, 3) := by decide +kernel
theorem dX10_show_89 : decode cX10_show 89 = .ok (.if_icmp .ge 29, 3) := by decide +kernel
theorem dX10_show_92 : decode cX10_show 92 = .ok (.aload_n 0, 1) := by decide +kernel
theorem dX10_show_93 : decode cX10_show 93 = .ok (.getfield 12, 3) := by decide +kernel
theorem dX10_show_96 : decode cX10_show 96 = .ok (.iload_n 3, 1) := by decide +kernel
theorem dX10_show_97 : decode cX10_show 97 = .ok (.invokevirtual 78, 3) := by decide +kernel
theorem dX10_show_100 : decode cX10_show 100 = .ok (.ifCond .eq 12, 3) := by decide +kernel
theorem dX10_show_103 : decode cX10_show 103 = .ok (.aload_n 0, 1) := by decide +kernel
theorem dX10_show_104 : decode cX10_show 104 = .ok (.iload_n 3, 1) := by decide +kernel
theorem dX10_show_105 : decode cX10_show 105 = .ok (.aload_n 1, 1) := by decide +kernel
theorem dX10_show_106 : decode cX10_show 106 = .ok (.getfield 82, 3) := by decide +kernel
theorem dX10_show_109 : decode cX10_show 109 = .ok (.invokevirtual 86, 3) := by decide +kernel
theorem dX10_show_112 : decode cX10_show 112 = .ok (.iinc 3 1, 3) := by decide +kernel
theorem dX10_show_115 : decode cX10_show 115 = .ok (.goto (-34), 3) := by decide +kernel
theorem dX10_show_118 : decode cX10_show 118 = .ok (.iconst 0, 1) := by decide +kernel
theorem dX10_show_119 : decode cX10_show 119 = .ok (.istore_n 3, 1) := by decide +kernel
theorem dX10_show_120 : decode cX10_show 120 = .ok (.iload_n 3, 1) := by decide +kernel
theorem dX10_show_121 : decode cX10_show 121 = .ok (.aload_n 0, 1) := by decide +kernel
theorem dX10_show_122 : decode cX10_show 122 = .ok (.getfield 34, 3) := by decide +kernel
theorem dX10_show_125 : decode cX10_show 125 = .ok (.if_icmp .ge 49, 3) := by decide +kernel
theorem dX10_show_128 : decode cX10_show 128 = .ok (.aload_n 1, 1) := by decide +kernel
theorem dX10_show_129 : decode cX10_show 129 = .ok (.getfield 90, 3) := by decide +kernel
theorem dX10_show_132 : decode cX10_show 132 = .ok (.aload_n 0, 1) := by decide +kernel
theorem dX10_show_133 : decode cX10_show 133 = .ok (.getfield 12, 3) := by decide +kernel
theorem dX10_show_136 : decode cX10_show 136 = .ok (.aload_n 0, 1) := by decide +kernel
theorem dX10_show_137 : decode cX10_show 137 = .ok (.getfield 18, 3) := by decide +kernel
theorem dX10_show_140 : decode cX10_show 140 = .ok (.iload_n 3, 1) := by decide +kernel
theorem dX10_show_141 : decode cX10_show 141 = .ok (.iaload, 1) := by decide +kernel
theorem dX10_show_142 : decode cX10_show 142 = .ok (.invokevirtual 94, 3) := by decide +kernel
theorem dX10_show_145 : decode cX10_show 145 = .ok (.ifCond .eq 23, 3) := by decide +kernel
theorem dX10_show_148 : decode cX10_show 148 = .ok (.aload_n 0, 1) := by decide +kernel
theorem dX10_show_149 : decode cX10_show 149 = .ok (.getfield 31, 3) := by decide +kernel
theorem dX10_show_152 : decode cX10_show 152 = .ok (.aload_n 0, 1) := by decide +kernel
theorem dX10_show_153 : decode cX10_show 153 = .ok (.getfield 38, 3) := by decide +kernel
theorem dX10_show_156 : decode cX10_show 156 = .ok (.iload_n 3, 1) := by decide +kernel
theorem dX10_show_157 : decode cX10_show 157 = .ok (.iastore, 1) := by decide +kernel
theorem dX10_show_158 : decode cX10_show 158 = .ok (.aload_n 0, 1) := by decide +kernel
theorem dX10_show_159 : decode cX10_show 159 = .ok (.dup, 1) := by decide +kernel
theorem dX10_show_160 : decode cX10_show 160 = .ok (.getfield 38, 3) := by decide +kernel
theorem dX10_show_163 : decode cX10_show 163 = .ok (.iconst 1, 1) := by decide +kernel
theorem dX10_show_164 : decode cX10_show 164 = .ok (.iadd, 1) := by decide +kernel
theorem dX10_show_165 : decode cX10_show 165 = .ok (.putfield 38, 3) := by decide +kernel
theorem dX10_show_168 : decode cX10_show 168 = .ok (.iinc 3 1, 3) := by decide +kernel
theorem dX10_show_171 : decode cX10_show 171 = .ok (.goto (-51), 3) := by decide +kernel
theorem dX10_show_174 : decode cX10_show 174 = .ok (.return_, 1) := by decide +kernel
theorem dX10_enter_0 : decode cX10_enter 0 = .ok (.aload_n 0, 1) := by decide +kernel
theorem dX10_enter_1 : decode cX10_enter 1 = .ok (.getfield 34, 3) := by decide +kernel
theorem dX10_enter_4 : decode cX10_enter 4 = .ok (.bipush 40, 2) := by decide +kernel
theorem dX10_enter_6 : decode cX10_enter 6 = .ok (.if_icmp .lt 4, 3) := by decide +kernel
theorem dX10_enter_9 : decode cX10_enter 9 = .ok (.return_, 1) := by decide +kernel
theorem dX10_enter_10 : decode cX10_enter 10 = .ok (.aload_n 0, 1) := by decide +kernel
theorem dX10_enter_11 : decode cX10_enter 11 = .ok (.getfield 24, 3) := by decide +kernel
theorem dX10_enter_14 : decode cX10_enter 14 = .ok (.aload_n 0, 1) := by decide +kernel
theorem dX10_enter_15 : decode cX10_enter 15 = .ok (.getfield 34, 3) := by decide +kernel
theorem dX10_enter_18 : decode cX10_enter 18 = .ok (.aaload, 1) := by decide +kernel
theorem dX10_enter_19 : decode cX10_enter 19 = .ok (.astore_n 3, 1) := by decide +kernel
theorem dX10_enter_20 : decode cX10_enter 20 = .ok (.aload_n 2, 1) := by decide +kernel
theorem dX10_enter_21 : decode cX10_enter 21 = .ok (.aload_n 0, 1) := by decide +kernel
theorem dX10_enter_22 : decode cX10_enter 22 = .ok (.getfield 12, 3) := by decide +kernel
theorem dX10_enter_25 : decode cX10_enter 25 = .ok (.iload_n 1, 1) := by decide +kernel
theorem dX10_enter_26 : decode cX10_enter 26 = .ok (.aload_n 3, 1) := by decide +kernel
theorem dX10_enter_27 : decode cX10_enter 27 = .ok (.invokevirtual 100, 3) := by decide +kernel
theorem dX10_enter_30 : decode cX10_enter 30 = .ok (.iconst 0, 1) := by decide +kernel
theorem dX10_enter_31 : decode cX10_enter 31 = .ok (.istore 4, 2) := by decide +kernel
theorem dX10_enter_33 : decode cX10_enter 33 = .ok (.aload_n 0, 1) := by decide +kernel
theorem dX10_enter_34 : decode cX10_enter 34 = .ok (.getfield 34, 3) := by decide +kernel
theorem dX10_enter_37 : decode cX10_enter 37 = .ok (.istore 5, 2) := by decide +kernel
theorem dX10_enter_39 : decode cX10_enter 39 = .ok (.iload 4, 2) := by decide +kernel
theorem dX10_enter_41 : decode cX10_enter 41 = .ok (.iload 5, 2) := by decide +kernel
theorem dX10_enter_43 : decode cX10_enter 43 = .ok (.if_icmp .ge 42, 3) := by decide +kernel
theorem dX10_enter_46 : decode cX10_enter 46 = .ok (.iload 4, 2) := by decide +kernel
theorem dX10_enter_48 : decode cX10_enter 48 = .ok (.iload 5, 2) := by decide +kernel
theorem dX10_enter_50 : decode cX10_enter 50 = .ok (.iadd, 1) := by decide +kernel
theorem dX10_enter_51 : decode cX10_enter 51 = .ok (.iconst 2, 1) := by decide +kernel
theorem dX10_enter_52 : decode cX10_enter 52 = .ok (.idiv, 1) := by decide +kernel
theorem dX10_enter_53 : decode cX10_enter 53 = .ok (.istore 6, 2) := by decide +kernel
theorem dX10_enter_55 : decode cX10_enter 55 = .ok (.aload_n 0, 1) := by decide +kernel
theorem dX10_enter_56 : decode cX10_enter 56 = .ok (.getfield 24, 3) := by decide +kernel
theorem dX10_enter_59 : decode cX10_enter 59 = .ok (.iload 6, 2) := by decide +kernel
theorem dX10_enter_61 : decode cX10_enter 61 = .ok (.aaload, 1) := by decide +kernel
theorem dX10_enter_62 : decode cX10_enter 62 = .ok (.aload_n 3, 1) := by decide +kernel
theorem dX10_enter_63 : decode cX10_enter 63 = .ok (.invokevirtual 106, 3) := by decide +kernel
theorem dX10_enter_66 : decode cX10_enter 66 = .ok (.ifCond .ge 12, 3) := by decide +kernel
theorem dX10_enter_69 : decode cX10_enter 69 = .ok (.iload 6, 2) := by decide +kernel
theorem dX10_enter_71 : decode cX10_enter 71 = .ok (.iconst 1, 1) := by decide +kernel
theorem dX10_enter_72 : decode cX10_enter 72 = .ok (.iadd, 1) := by decide +kernel
theorem dX10_enter_73 : decode cX10_enter 73 = .ok (.istore 4, 2) := by decide +kernel
theorem dX10_enter_75 : decode cX10_enter 75 = .ok (.goto 7, 3) := by decide +kernel
theorem dX10_enter_78 : decode cX10_enter 78 = .ok (.iload 6, 2) := by decide +kernel
theorem dX10_enter_80 : decode cX10_enter 80 = .ok (.istore 5, 2) := by decide +kernel
theorem dX10_enter_82 : decode cX10_enter 82 = .ok (.goto (-43), 3) := by decide +kernel
theorem dX10_enter_85 : decode cX10_enter 85 = .ok (.aload_n 0, 1) := by decide +kernel
theorem dX10_enter_86 : decode cX10_enter 86 = .ok (.getfield 34, 3) := by decide +kernel
theorem dX10_enter_89 : decode cX10_enter 89 = .ok (.istore 6, 2) := by decide +kernel
theorem dX10_enter_91 : decode cX10_enter 91 = .ok (.iload 6, 2) := by decide +kernel
theorem dX10_enter_93 : decode cX10_enter 93 = .ok (.iload 4, 2) := by decide +kernel
theorem dX10_enter_95 : decode cX10_enter 95 = .ok (.if_icmp .le 41, 3) := by decide +kernel
theorem dX10_enter_98 : decode cX10_enter 98 = .ok (.aload_n 0, 1) := by decide +kernel
theorem dX10_enter_99 : decode cX10_enter 99 = .ok (.getfield 24, 3) := by decide +kernel
theorem dX10_enter_102 : decode cX10_enter 102 = .ok (.iload 6, 2) := by decide +kernel
theorem dX10_enter_104 : decode cX10_enter 104 = .ok (.aload_n 0, 1) := by decide +kernel
theorem dX10_enter_105 : decode cX10_enter 105 = .ok (.getfield 24, 3) := by decide +kernel
theorem dX10_enter_108 : decode cX10_enter 108 = .ok (.iload 6, 2) := by decide +kernel
theorem dX10_enter_110 : decode cX10_enter 110 = .ok (.iconst 1, 1) := by decide +kernel
theorem dX10_enter_111 : decode cX10_enter 111 = .ok (.isub, 1) := by decide +kernel
theorem dX10_enter_112 : decode cX10_enter 112 = .ok (.aaload, 1) := by decide +kernel
theorem dX10_enter_113 : decode cX10_enter 113 = .ok (.aastore, 1) := by decide +kernel
theorem dX10_enter_114 : decode cX10_enter 114 = .ok (.aload_n 0, 1) := by decide +kernel
theorem dX10_enter_115 : decode cX10_enter 115 = .ok (.getfield 18, 3) := by decide +kernel
theorem dX10_enter_118 : decode cX10_enter 118 = .ok (.iload 6, 2) := by decide +kernel
theorem dX10_enter_120 : decode cX10_enter 120 = .ok (.aload_n 0, 1) := by decide +kernel
theorem dX10_enter_121 : decode cX10_enter 121 = .ok (.getfield 18, 3) := by decide +kernel
theorem dX10_enter_124 : decode cX10_enter 124 = .ok (.iload 6, 2) := by decide +kernel
theorem dX10_enter_126 : decode cX10_enter 126 = .ok (.iconst 1, 1) := by decide +kernel
theorem dX10_enter_127 : decode cX10_enter 127 = .ok (.isub, 1) := by decide +kernel
theorem dX10_enter_128 : decode cX10_enter 128 = .ok (.iaload, 1) := by decide +kernel
theorem dX10_enter_129 : decode cX10_enter 129 = .ok (.iastore, 1) := by decide +kernel
theorem dX10_enter_130 : decode cX10_enter 130 = .ok (.iinc 6 (-1), 3) := by decide +kernel
theorem dX10_enter_133 : decode cX10_enter 133 = .ok (.goto (-42), 3) := by decide +kernel
theorem dX10_enter_136 : decode cX10_enter 136 = .ok (.aload_n 0, 1) := by decide +kernel
theorem dX10_enter_137 : decode cX10_enter 137 = .ok (.getfield 24, 3) := by decide +kernel
theorem dX10_enter_140 : decode cX10_enter 140 = .ok (.iload 4, 2) := by decide +kernel
theorem dX10_enter_142 : decode cX10_enter 142 = .ok (.aload_n 3, 1) := by decide +kernel
theorem dX10_enter_143 : decode cX10_enter 143 = .ok (.aastore, 1) := by decide +kernel
theorem dX10_enter_144 : decode cX10_enter 144 = .ok (.aload_n 0, 1) := by decide +kernel
theorem dX10_enter_145 : decode cX10_enter 145 = .ok (.getfield 18, 3) := by decide +kernel
theorem dX10_enter_148 : decode cX10_enter 148 = .ok (.iload 4, 2) := by decide +kernel
theorem dX10_enter_150 : decode cX10_enter 150 = .ok (.iload_n 1, 1) := by decide +kernel
theorem dX10_enter_151 : decode cX10_enter 151 = .ok (.iastore, 1) := by decide +kernel
theorem dX10_enter_152 : decode cX10_enter 152 = .ok (.aload_n 0, 1) := by decide +kernel
theorem dX10_enter_153 : decode cX10_enter 153 = .ok (.dup, 1) := by decide +kernel
theorem dX10_enter_154 : decode cX10_enter 154 = .ok (.getfield 34, 3) := by decide +kernel
theorem dX10_enter_157 : decode cX10_enter 157 = .ok (.iconst 1, 1) := by decide +kernel
theorem dX10_enter_158 : decode cX10_enter 158 = .ok (.iadd, 1) := by decide +kernel
theorem dX10_enter_159 : decode cX10_enter 159 = .ok (.putfield 34, 3) := by decide +kernel
theorem dX10_enter_162 : decode cX10_enter 162 = .ok (.return_, 1) := by decide +kernel
theorem dX10_placeOf_0 : decode cX10_placeOf 0 = .ok (.iconst 0, 1) := by decide +kernel
theorem dX10_placeOf_1 : decode cX10_placeOf 1 = .ok (.istore_n 2, 1) := by decide +kernel
theorem dX10_placeOf_2 : decode cX10_placeOf 2 = .ok (.iload_n 2, 1) := by decide +kernel
theorem dX10_placeOf_3 : decode cX10_placeOf 3 = .ok (.aload_n 0, 1) := by decide +kernel
theorem dX10_placeOf_4 : decode cX10_placeOf 4 = .ok (.getfield 34, 3) := by decide +kernel
theorem dX10_placeOf_7 : decode cX10_placeOf 7 = .ok (.if_icmp .ge 21, 3) := by decide +kernel
theorem dX10_placeOf_10 : decode cX10_placeOf 10 = .ok (.aload_n 0, 1) := by decide +kernel
theorem dX10_placeOf_11 : decode cX10_placeOf 11 = .ok (.getfield 18, 3) := by decide +kernel
theorem dX10_placeOf_14 : decode cX10_placeOf 14 = .ok (.iload_n 2, 1) := by decide +kernel
theorem dX10_placeOf_15 : decode cX10_placeOf 15 = .ok (.iaload, 1) := by decide +kernel
theorem dX10_placeOf_16 : decode cX10_placeOf 16 = .ok (.iload_n 1, 1) := by decide +kernel
theorem dX10_placeOf_17 : decode cX10_placeOf 17 = .ok (.if_icmp .ne 5, 3) := by decide +kernel
theorem dX10_placeOf_20 : decode cX10_placeOf 20 = .ok (.iload_n 2, 1) := by decide +kernel
theorem dX10_placeOf_21 : decode cX10_placeOf 21 = .ok (.ireturn, 1) := by decide +kernel
theorem dX10_placeOf_22 : decode cX10_placeOf 22 = .ok (.iinc 2 1, 3) := by decide +kernel
theorem dX10_placeOf_25 : decode cX10_placeOf 25 = .ok (.goto (-23), 3) := by decide +kernel
theorem dX10_placeOf_28 : decode cX10_placeOf 28 = .ok (.iconst (-1), 1) := by decide +kernel
theorem dX10_placeOf_29 : decode cX10_placeOf 29 = .ok (.ireturn, 1) := by decide +kernel
theorem dX10_keyAt_0 : decode cX10_keyAt 0 = .ok (.aload_n 0, 1) := by decide +kernel
theorem dX10_keyAt_1 : decode cX10_keyAt 1 = .ok (.getfield 24, 3) := by decide +kernel
theorem dX10_keyAt_4 : decode cX10_keyAt 4 = .ok (.iconst 0, 1) := by decide +kernel
theorem dX10_keyAt_5 : decode cX10_keyAt 5 = .ok (.iload_n 1, 1) := by decide +kernel
theorem dX10_keyAt_6 : decode cX10_keyAt 6 = .ok (.bipush 39, 2) := by decide +kernel
theorem dX10_keyAt_8 : decode cX10_keyAt 8 = .ok (.invokestatic 110, 3) := by decide +kernel
theorem dX10_keyAt_11 : decode cX10_keyAt 11 = .ok (.invokestatic 116, 3) := by decide +kernel
theorem dX10_keyAt_14 : decode cX10_keyAt 14 = .ok (.aaload, 1) := by decide +kernel
theorem dX10_keyAt_15 : decode cX10_keyAt 15 = .ok (.areturn, 1) := by decide +kernel
theorem dX10_idPassing_0 : decode cX10_idPassing 0 = .ok (.aload_n 0, 1) := by decide +kernel
theorem dX10_idPassing_1 : decode cX10_idPassing 1 = .ok (.getfield 18, 3) := by decide +kernel
theorem dX10_idPassing_4 : decode cX10_idPassing 4 = .ok (.aload_n 0, 1) := by decide +kernel
theorem dX10_idPassing_5 : decode cX10_idPassing 5 = .ok (.getfield 31, 3) := by decide +kernel
theorem dX10_idPassing_8 : decode cX10_idPassing 8 = .ok (.iload_n 1, 1) := by decide +kernel
theorem dX10_idPassing_9 : decode cX10_idPassing 9 = .ok (.iaload, 1) := by decide +kernel
theorem dX10_idPassing_10 : decode cX10_idPassing 10 = .ok (.iaload, 1) := by decide +kernel
theorem dX10_idPassing_11 : decode cX10_idPassing 11 = .ok (.ireturn, 1) := by decide +kernel
theorem dX10_keyPassing_0 : decode cX10_keyPassing 0 = .ok (.aload_n 0, 1) := by decide +kernel
theorem dX10_keyPassing_1 : decode cX10_keyPassing 1 = .ok (.getfield 24, 3) := by decide +kernel
theorem dX10_keyPassing_4 : decode cX10_keyPassing 4 = .ok (.aload_n 0, 1) := by decide +kernel
theorem dX10_keyPassing_5 : decode cX10_keyPassing 5 = .ok (.getfield 31, 3) := by decide +kernel
theorem dX10_keyPassing_8 : decode cX10_keyPassing 8 = .ok (.iload_n 1, 1) := by decide +kernel
theorem dX10_keyPassing_9 : decode cX10_keyPassing 9 = .ok (.iaload, 1) := by decide +kernel
theorem dX10_keyPassing_10 : decode cX10_keyPassing 10 = .ok (.aaload, 1) := by decide +kernel
theorem dX10_keyPassing_11 : decode cX10_keyPassing 11 = .ok (.areturn, 1) := by decide +kernel
theorem dX10_countBelow_0 : decode cX10_countBelow 0 = .ok (.iconst 0, 1) := by decide +kernel
theorem dX10_countBelow_1 : decode cX10_countBelow 1 = .ok (.istore_n 2, 1) := by decide +kernel
theorem dX10_countBelow_2 : decode cX10_countBelow 2 = .ok (.iload_n 2, 1) := by decide +kernel
theorem dX10_countBelow_3 : decode cX10_countBelow 3 = .ok (.aload_n 0, 1) := by decide +kernel
theorem dX10_countBelow_4 : decode cX10_countBelow 4 = .ok (.getfield 38, 3) := by decide +kernel
theorem dX10_countBelow_7 : decode cX10_countBelow 7 = .ok (.if_icmp .ge 21, 3) := by decide +kernel
theorem dX10_countBelow_10 : decode cX10_countBelow 10 = .ok (.aload_n 0, 1) := by decide +kernel
theorem dX10_countBelow_11 : decode cX10_countBelow 11 = .ok (.iload_n 2, 1) := by decide +kernel
theorem dX10_countBelow_12 : decode cX10_countBelow 12 = .ok (.invokevirtual 119, 3) := by decide +kernel
theorem dX10_countBelow_15 : decode cX10_countBelow 15 = .ok (.aload_n 1, 1) := by decide +kernel
theorem dX10_countBelow_16 : decode cX10_countBelow 16 = .ok (.invokevirtual 106, 3) := by decide +kernel
theorem dX10_countBelow_19 : decode cX10_countBelow 19 = .ok (.ifCond .ge 9, 3) := by decide +kernel
theorem dX10_countBelow_22 : decode cX10_countBelow 22 = .ok (.iinc 2 1, 3) := by decide +kernel
theorem dX10_countBelow_25 : decode cX10_countBelow 25 = .ok (.goto (-23), 3) := by decide +kernel
theorem dX10_countBelow_28 : decode cX10_countBelow 28 = .ok (.iload_n 2, 1) := by decide +kernel
theorem dX10_countBelow_29 : decode cX10_countBelow 29 = .ok (.ireturn, 1) := by decide +kernel
theorem dX10_countNotAbove_0 : decode cX10_countNotAbove 0 = .ok (.iconst 0, 1) := by decide +kernel
theorem dX10_countNotAbove_1 : decode cX10_countNotAbove 1 = .ok (.istore_n 2, 1) := by decide +kernel
theorem dX10_countNotAbove_2 : decode cX10_countNotAbove 2 = .ok (.iload_n 2, 1) := by decide +kernel
theorem dX10_countNotAbove_3 : decode cX10_countNotAbove 3 = .ok (.aload_n 0, 1) := by decide +kernel
theorem dX10_countNotAbove_4 : decode cX10_countNotAbove 4 = .ok (.getfield 38, 3) := by decide +kernel
theorem dX10_countNotAbove_7 : decode cX10_countNotAbove 7 = .ok (.if_icmp .ge 21, 3) := by decide +kernel
theorem dX10_countNotAbove_10 : decode cX10_countNotAbove 10 = .ok (.aload_n 0, 1) := by decide +kernel
theorem dX10_countNotAbove_11 : decode cX10_countNotAbove 11 = .ok (.iload_n 2, 1) := by decide +kernel
theorem dX10_countNotAbove_12 : decode cX10_countNotAbove 12 = .ok (.invokevirtual 119, 3) := by decide +kernel
theorem dX10_countNotAbove_15 : decode cX10_countNotAbove 15 = .ok (.aload_n 1, 1) := by decide +kernel
theorem dX10_countNotAbove_16 : decode cX10_countNotAbove 16 = .ok (.invokevirtual 106, 3) := by decide +kernel
theorem dX10_countNotAbove_19 : decode cX10_countNotAbove 19 = .ok (.ifCond .gt 9, 3) := by decide +kernel
theorem dX10_countNotAbove_22 : decode cX10_countNotAbove 22 = .ok (.iinc 2 1, 3) := by decide +kernel
theorem dX10_countNotAbove_25 : decode cX10_countNotAbove 25 = .ok (.goto (-23), 3) := by decide +kernel
theorem dX10_countNotAbove_28 : decode cX10_countNotAbove 28 = .ok (.iload_n 2, 1) := by decide +kernel
theorem dX10_countNotAbove_29 : decode cX10_countNotAbove 29 = .ok (.ireturn, 1) := by decide +kernel
theorem dX10_chooseFrom_0 : decode cX10_chooseFrom 0 = .ok (.aload_n 0, 1) := by decide +kernel
theorem dX10_chooseFrom_1 : decode cX10_chooseFrom 1 = .ok (.iload_n 1, 1) := by decide +kernel
theorem dX10_chooseFrom_2 : decode cX10_chooseFrom 2 = .ok (.putfield 41, 3) := by decide +kernel
theorem dX10_chooseFrom_5 : decode cX10_chooseFrom 5 = .ok (.aload_n 0, 1) := by decide +kernel
theorem dX10_chooseFrom_6 : decode cX10_chooseFrom 6 = .ok (.iload_n 1, 1) := by decide +kernel
theorem dX10_chooseFrom_7 : decode cX10_chooseFrom 7 = .ok (.iload_n 2, 1) := by decide +kernel
theorem dX10_chooseFrom_8 : decode cX10_chooseFrom 8 = .ok (.iadd, 1) := by decide +kernel
theorem dX10_chooseFrom_9 : decode cX10_chooseFrom 9 = .ok (.aload_n 0, 1) := by decide +kernel
theorem dX10_chooseFrom_10 : decode cX10_chooseFrom 10 = .ok (.getfield 38, 3) := by decide +kernel
theorem dX10_chooseFrom_13 : decode cX10_chooseFrom 13 = .ok (.invokestatic 110, 3) := by decide +kernel
theorem dX10_chooseFrom_16 : decode cX10_chooseFrom 16 = .ok (.putfield 44, 3) := by decide +kernel
theorem dX10_chooseFrom_19 : decode cX10_chooseFrom 19 = .ok (.return_, 1) := by decide +kernel
theorem dX10_chooseBeside_0 : decode cX10_chooseBeside 0 = .ok (.iload_n 3, 1) := by decide +kernel
theorem dX10_chooseBeside_1 : decode cX10_chooseBeside 1 = .ok (.ifCond .eq 16, 3) := by decide +kernel
theorem dX10_chooseBeside_4 : decode cX10_chooseBeside 4 = .ok (.aload_n 0, 1) := by decide +kernel
theorem dX10_chooseBeside_5 : decode cX10_chooseBeside 5 = .ok (.aload_n 0, 1) := by decide +kernel
theorem dX10_chooseBeside_6 : decode cX10_chooseBeside 6 = .ok (.aload_n 1, 1) := by decide +kernel
theorem dX10_chooseBeside_7 : decode cX10_chooseBeside 7 = .ok (.invokevirtual 123, 3) := by decide +kernel
theorem dX10_chooseBeside_10 : decode cX10_chooseBeside 10 = .ok (.iload_n 2, 1) := by decide +kernel
theorem dX10_chooseBeside_11 : decode cX10_chooseBeside 11 = .ok (.invokevirtual 126, 3) := by decide +kernel
theorem dX10_chooseBeside_14 : decode cX10_chooseBeside 14 = .ok (.goto 26, 3) := by decide +kernel
theorem dX10_chooseBeside_17 : decode cX10_chooseBeside 17 = .ok (.aload_n 0, 1) := by decide +kernel
theorem dX10_chooseBeside_18 : decode cX10_chooseBeside 18 = .ok (.aload_n 0, 1) := by decide +kernel
theorem dX10_chooseBeside_19 : decode cX10_chooseBeside 19 = .ok (.aload_n 1, 1) := by decide +kernel
theorem dX10_chooseBeside_20 : decode cX10_chooseBeside 20 = .ok (.invokevirtual 130, 3) := by decide +kernel
theorem dX10_chooseBeside_23 : decode cX10_chooseBeside 23 = .ok (.putfield 44, 3) := by decide +kernel
theorem dX10_chooseBeside_26 : decode cX10_chooseBeside 26 = .ok (.aload_n 0, 1) := by decide +kernel
theorem dX10_chooseBeside_27 : decode cX10_chooseBeside 27 = .ok (.iconst 0, 1) := by decide +kernel
theorem dX10_chooseBeside_28 : decode cX10_chooseBeside 28 = .ok (.aload_n 0, 1) := by decide +kernel
theorem dX10_chooseBeside_29 : decode cX10_chooseBeside 29 = .ok (.getfield 44, 3) := by decide +kernel
theorem dX10_chooseBeside_32 : decode cX10_chooseBeside 32 = .ok (.iload_n 2, 1) := by decide +kernel
theorem dX10_chooseBeside_33 : decode cX10_chooseBeside 33 = .ok (.isub, 1) := by decide +kernel
theorem dX10_chooseBeside_34 : decode cX10_chooseBeside 34 = .ok (.invokestatic 116, 3) := by decide +kernel
theorem dX10_chooseBeside_37 : decode cX10_chooseBeside 37 = .ok (.putfield 41, 3) := by decide +kernel
theorem dX10_chooseBeside_40 : decode cX10_chooseBeside 40 = .ok (.return_, 1) := by decide +kernel
theorem dJ13_compare_74951_0 : decode cJ13_compare_74951 0 = .ok (.lload_n 0, 1) := by decide +kernel
theorem dJ13_compare_74951_1 : decode cJ13_compare_74951 1 = .ok (.lload_n 2, 1) := by decide +kernel
theorem dJ13_compare_74951_2 : decode cJ13_compare_74951 2 = .ok (.lcmp, 1) := by decide +kernel
theorem dJ13_compare_74951_3 : decode cJ13_compare_74951 3 = .ok (.ifCond .ge 7, 3) := by decide +kernel
theorem dJ13_compare_74951_6 : decode cJ13_compare_74951 6 = .ok (.iconst (-1), 1) := by decide +kernel
theorem dJ13_compare_74951_7 : decode cJ13_compare_74951 7 = .ok (.goto 14, 3) := by decide +kernel
theorem dJ13_compare_74951_10 : decode cJ13_compare_74951 10 = .ok (.lload_n 0, 1) := by decide +kernel
theorem dJ13_compare_74951_11 : decode cJ13_compare_74951 11 = .ok (.lload_n 2, 1) := by decide +kernel
theorem dJ13_compare_74951_12 : decode cJ13_compare_74951 12 = .ok (.lcmp, 1) := by decide +kernel
theorem dJ13_compare_74951_13 : decode cJ13_compare_74951 13 = .ok (.ifCond .ne 7, 3) := by decide +kernel
theorem dJ13_compare_74951_16 : decode cJ13_compare_74951 16 = .ok (.iconst 0, 1) := by decide +kernel
theorem dJ13_compare_74951_17 : decode cJ13_compare_74951 17 = .ok (.goto 4, 3) := by decide +kernel
theorem dJ13_compare_74951_20 : decode cJ13_compare_74951 20 = .ok (.iconst 1, 1) := by decide +kernel
theorem dJ13_compare_74951_21 : decode cJ13_compare_74951 21 = .ok (.ireturn, 1) := by decide +kernel
theorem dJ9_floorMod_7cf53_0 : decode cJ9_floorMod_7cf53 0 = .ok (.iload_n 0, 1) := by decide +kernel
theorem dJ9_floorMod_7cf53_1 : decode cJ9_floorMod_7cf53 1 = .ok (.iload_n 1, 1) := by decide +kernel
theorem dJ9_floorMod_7cf53_2 : decode cJ9_floorMod_7cf53 2 = .ok (.irem, 1) := by decide +kernel
theorem dJ9_floorMod_7cf53_3 : decode cJ9_floorMod_7cf53 3 = .ok (.istore_n 2, 1) := by decide +kernel
theorem dJ9_floorMod_7cf53_4 : decode cJ9_floorMod_7cf53 4 = .ok (.iload_n 0, 1) := by decide +kernel
theorem dJ9_floorMod_7cf53_5 : decode cJ9_floorMod_7cf53 5 = .ok (.iload_n 1, 1) := by decide +kernel
theorem dJ9_floorMod_7cf53_6 : decode cJ9_floorMod_7cf53 6 = .ok (.ixor, 1) := by decide +kernel
theorem dJ9_floorMod_7cf53_7 : decode cJ9_floorMod_7cf53 7 = .ok (.ifCond .ge 11, 3) := by decide +kernel
theorem dJ9_floorMod_7cf53_10 : decode cJ9_floorMod_7cf53 10 = .ok (.iload_n 2, 1) := by decide +kernel
theorem dJ9_floorMod_7cf53_11 : decode cJ9_floorMod_7cf53 11 = .ok (.ifCond .eq 7, 3) := by decide +kernel
theorem dJ9_floorMod_7cf53_14 : decode cJ9_floorMod_7cf53 14 = .ok (.iload_n 2, 1) := by decide +kernel
theorem dJ9_floorMod_7cf53_15 : decode cJ9_floorMod_7cf53 15 = .ok (.iload_n 1, 1) := by decide +kernel
theorem dJ9_floorMod_7cf53_16 : decode cJ9_floorMod_7cf53 16 = .ok (.iadd, 1) := by decide +kernel
theorem dJ9_floorMod_7cf53_17 : decode cJ9_floorMod_7cf53 17 = .ok (.ireturn, 1) := by decide +kernel
theorem dJ9_floorMod_7cf53_18 : decode cJ9_floorMod_7cf53 18 = .ok (.iload_n 2, 1) := by decide +kernel
theorem dJ9_floorMod_7cf53_19 : decode cJ9_floorMod_7cf53 19 = .ok (.ireturn, 1) := by decide +kernel
theorem dJ9_max_7cf53_0 : decode cJ9_max_7cf53 0 = .ok (.iload_n 0, 1) := by decide +kernel
theorem dJ9_max_7cf53_1 : decode cJ9_max_7cf53 1 = .ok (.iload_n 1, 1) := by decide +kernel
theorem dJ9_max_7cf53_2 : decode cJ9_max_7cf53 2 = .ok (.if_icmp .lt 7, 3) := by decide +kernel
theorem dJ9_max_7cf53_5 : decode cJ9_max_7cf53 5 = .ok (.iload_n 0, 1) := by decide +kernel
theorem dJ9_max_7cf53_6 : decode cJ9_max_7cf53 6 = .ok (.goto 4, 3) := by decide +kernel
theorem dJ9_max_7cf53_9 : decode cJ9_max_7cf53 9 = .ok (.iload_n 1, 1) := by decide +kernel
theorem dJ9_max_7cf53_10 : decode cJ9_max_7cf53 10 = .ok (.ireturn, 1) := by decide +kernel
theorem dJ9_min_7cf53_0 : decode cJ9_min_7cf53 0 = .ok (.iload_n 0, 1) := by decide +kernel
theorem dJ9_min_7cf53_1 : decode cJ9_min_7cf53 1 = .ok (.iload_n 1, 1) := by decide +kernel
theorem dJ9_min_7cf53_2 : decode cJ9_min_7cf53 2 = .ok (.if_icmp .gt 7, 3) := by decide +kernel
theorem dJ9_min_7cf53_5 : decode cJ9_min_7cf53 5 = .ok (.iload_n 0, 1) := by decide +kernel
theorem dJ9_min_7cf53_6 : decode cJ9_min_7cf53 6 = .ok (.goto 4, 3) := by decide +kernel
theorem dJ9_min_7cf53_9 : decode cJ9_min_7cf53 9 = .ok (.iload_n 1, 1) := by decide +kernel
theorem dJ9_min_7cf53_10 : decode cJ9_min_7cf53 10 = .ok (.ireturn, 1) := by decide +kernel
theorem dJ0_length_8abf5_0 : decode cJ0_length_8abf5 0 = .ok (.aload_n 0, 1) := by decide +kernel
theorem dJ0_length_8abf5_1 : decode cJ0_length_8abf5 1 = .ok (.getfield 9, 3) := by decide +kernel
theorem dJ0_length_8abf5_4 : decode cJ0_length_8abf5 4 = .ok (.arraylength, 1) := by decide +kernel
theorem dJ0_length_8abf5_5 : decode cJ0_length_8abf5 5 = .ok (.aload_n 0, 1) := by decide +kernel
theorem dJ0_length_8abf5_6 : decode cJ0_length_8abf5 6 = .ok (.invokevirtual 335, 3) := by decide +kernel
theorem dJ0_length_8abf5_9 : decode cJ0_length_8abf5 9 = .ok (.ishr, 1) := by decide +kernel
theorem dJ0_length_8abf5_10 : decode cJ0_length_8abf5 10 = .ok (.ireturn, 1) := by decide +kernel
theorem dJ0_charAt_5068e_0 : decode cJ0_charAt_5068e 0 = .ok (.aload_n 0, 1) := by decide +kernel
theorem dJ0_charAt_5068e_1 : decode cJ0_charAt_5068e 1 = .ok (.invokevirtual 492, 3) := by decide +kernel
theorem dJ0_charAt_5068e_4 : decode cJ0_charAt_5068e 4 = .ok (.ifCond .eq 12, 3) := by decide +kernel
theorem dJ0_charAt_5068e_7 : decode cJ0_charAt_5068e 7 = .ok (.aload_n 0, 1) := by decide +kernel
theorem dJ0_charAt_5068e_8 : decode cJ0_charAt_5068e 8 = .ok (.getfield 9, 3) := by decide +kernel
theorem dJ0_charAt_5068e_11 : decode cJ0_charAt_5068e 11 = .ok (.iload_n 1, 1) := by decide +kernel
theorem dJ0_charAt_5068e_12 : decode cJ0_charAt_5068e 12 = .ok (.invokestatic 495, 3) := by decide +kernel
theorem dJ0_charAt_5068e_15 : decode cJ0_charAt_5068e 15 = .ok (.ireturn, 1) := by decide +kernel
theorem dJ0_charAt_5068e_16 : decode cJ0_charAt_5068e 16 = .ok (.aload_n 0, 1) := by decide +kernel
theorem dJ0_charAt_5068e_17 : decode cJ0_charAt_5068e 17 = .ok (.getfield 9, 3) := by decide +kernel
theorem dJ0_charAt_5068e_20 : decode cJ0_charAt_5068e 20 = .ok (.iload_n 1, 1) := by decide +kernel
theorem dJ0_charAt_5068e_21 : decode cJ0_charAt_5068e 21 = .ok (.invokestatic 498, 3) := by decide +kernel
theorem dJ0_charAt_5068e_24 : decode cJ0_charAt_5068e 24 = .ok (.ireturn, 1) := by decide +kernel
theorem dJ0_coder_7d493_0 : decode cJ0_coder_7d493 0 = .ok (.getstatic 38, 3) := by decide +kernel
theorem dJ0_coder_7d493_3 : decode cJ0_coder_7d493 3 = .ok (.ifCond .eq 10, 3) := by decide +kernel
theorem dJ0_coder_7d493_6 : decode cJ0_coder_7d493 6 = .ok (.aload_n 0, 1) := by decide +kernel
theorem dJ0_coder_7d493_7 : decode cJ0_coder_7d493 7 = .ok (.getfield 15, 3) := by decide +kernel
theorem dJ0_coder_7d493_10 : decode cJ0_coder_7d493 10 = .ok (.goto 4, 3) := by decide +kernel
theorem dJ0_coder_7d493_13 : decode cJ0_coder_7d493 13 = .ok (.iconst 1, 1) := by decide +kernel
theorem dJ0_coder_7d493_14 : decode cJ0_coder_7d493 14 = .ok (.ireturn, 1) := by decide +kernel
theorem dJ0_isLatin1_aae02_0 : decode cJ0_isLatin1_aae02 0 = .ok (.getstatic 38, 3) := by decide +kernel
theorem dJ0_isLatin1_aae02_3 : decode cJ0_isLatin1_aae02 3 = .ok (.ifCond .eq 14, 3) := by decide +kernel
theorem dJ0_isLatin1_aae02_6 : decode cJ0_isLatin1_aae02 6 = .ok (.aload_n 0, 1) := by decide +kernel
theorem dJ0_isLatin1_aae02_7 : decode cJ0_isLatin1_aae02 7 = .ok (.getfield 15, 3) := by decide +kernel
theorem dJ0_isLatin1_aae02_10 : decode cJ0_isLatin1_aae02 10 = .ok (.ifCond .ne 7, 3) := by decide +kernel
theorem dJ0_isLatin1_aae02_13 : decode cJ0_isLatin1_aae02 13 = .ok (.iconst 1, 1) := by decide +kernel
theorem dJ0_isLatin1_aae02_14 : decode cJ0_isLatin1_aae02 14 = .ok (.goto 4, 3) := by decide +kernel
theorem dJ0_isLatin1_aae02_17 : decode cJ0_isLatin1_aae02 17 = .ok (.iconst 0, 1) := by decide +kernel
theorem dJ0_isLatin1_aae02_18 : decode cJ0_isLatin1_aae02 18 = .ok (.ireturn, 1) := by decide +kernel
theorem dJ0_checkIndex_df160_0 : decode cJ0_checkIndex_df160 0 = .ok (.iload_n 0, 1) := by decide +kernel
theorem dJ0_checkIndex_df160_1 : decode cJ0_checkIndex_df160 1 = .ok (.iload_n 1, 1) := by decide +kernel
theorem dJ0_checkIndex_df160_2 : decode cJ0_checkIndex_df160 2 = .ok (.getstatic 1053, 3) := by decide +kernel
theorem dJ0_checkIndex_df160_5 : decode cJ0_checkIndex_df160 5 = .ok (.invokestatic 1059, 3) := by decide +kernel
theorem dJ0_checkIndex_df160_8 : decode cJ0_checkIndex_df160 8 = .ok (.pop, 1) := by decide +kernel
theorem dJ0_checkIndex_df160_9 : decode cJ0_checkIndex_df160 9 = .ok (.return_, 1) := by decide +kernel
theorem dJ1_charAt_3b067_0 : decode cJ1_charAt_3b067 0 = .ok (.iload_n 1, 1) := by decide +kernel
theorem dJ1_charAt_3b067_1 : decode cJ1_charAt_3b067 1 = .ok (.aload_n 0, 1) := by decide +kernel
theorem dJ1_charAt_3b067_2 : decode cJ1_charAt_3b067 2 = .ok (.arraylength, 1) := by decide +kernel
theorem dJ1_charAt_3b067_3 : decode cJ1_charAt_3b067 3 = .ok (.invokestatic 9, 3) := by decide +kernel
theorem dJ1_charAt_3b067_6 : decode cJ1_charAt_3b067 6 = .ok (.aload_n 0, 1) := by decide +kernel
theorem dJ1_charAt_3b067_7 : decode cJ1_charAt_3b067 7 = .ok (.iload_n 1, 1) := by decide +kernel
theorem dJ1_charAt_3b067_8 : decode cJ1_charAt_3b067 8 = .ok (.baload, 1) := by decide +kernel
theorem dJ1_charAt_3b067_9 : decode cJ1_charAt_3b067 9 = .ok (.sipush 255, 3) := by decide +kernel
theorem dJ1_charAt_3b067_12 : decode cJ1_charAt_3b067 12 = .ok (.iand, 1) := by decide +kernel
theorem dJ1_charAt_3b067_13 : decode cJ1_charAt_3b067 13 = .ok (.i2c, 1) := by decide +kernel
theorem dJ1_charAt_3b067_14 : decode cJ1_charAt_3b067 14 = .ok (.ireturn, 1) := by decide +kernel
theorem dJ2_getChar_3b067_0 : decode cJ2_getChar_3b067 0 = .ok (.getstatic 44, 3) := by decide +kernel
theorem dJ2_getChar_3b067_3 : decode cJ2_getChar_3b067 3 = .ok (.ifCond .ne 25, 3) := by decide +kernel
theorem dJ2_getChar_3b067_6 : decode cJ2_getChar_3b067 6 = .ok (.iload_n 1, 1) := by decide +kernel
theorem dJ2_getChar_3b067_7 : decode cJ2_getChar_3b067 7 = .ok (.ifCond .lt 11, 3) := by decide +kernel
theorem dJ2_getChar_3b067_10 : decode cJ2_getChar_3b067 10 = .ok (.iload_n 1, 1) := by decide +kernel
theorem dJ2_getChar_3b067_11 : decode cJ2_getChar_3b067 11 = .ok (.aload_n 0, 1) := by decide +kernel
theorem dJ2_getChar_3b067_12 : decode cJ2_getChar_3b067 12 = .ok (.invokestatic 48, 3) := by decide +kernel
theorem dJ2_getChar_3b067_15 : decode cJ2_getChar_3b067 15 = .ok (.if_icmp .lt 13, 3) := by decide +kernel
theorem dJ2_getChar_3b067_18 : decode cJ2_getChar_3b067 18 = .ok (.new 52, 3) := by decide +kernel
theorem dJ2_getChar_3b067_21 : decode cJ2_getChar_3b067 21 = .ok (.dup, 1) := by decide +kernel
theorem dJ2_getChar_3b067_22 : decode cJ2_getChar_3b067 22 = .ok (.ldc 54, 2) := by decide +kernel
theorem dJ2_getChar_3b067_24 : decode cJ2_getChar_3b067 24 = .ok (.invokespecial 56, 3) := by decide +kernel
theorem dJ2_getChar_3b067_27 : decode cJ2_getChar_3b067 27 = .ok (.athrow, 1) := by decide +kernel
theorem dJ2_getChar_3b067_28 : decode cJ2_getChar_3b067 28 = .ok (.iload_n 1, 1) := by decide +kernel
theorem dJ2_getChar_3b067_29 : decode cJ2_getChar_3b067 29 = .ok (.iconst 1, 1) := by decide +kernel
theorem dJ2_getChar_3b067_30 : decode cJ2_getChar_3b067 30 = .ok (.ishl, 1) := by decide +kernel
theorem dJ2_getChar_3b067_31 : decode cJ2_getChar_3b067 31 = .ok (.istore_n 1, 1) := by decide +kernel
theorem dJ2_getChar_3b067_32 : decode cJ2_getChar_3b067 32 = .ok (.aload_n 0, 1) := by decide +kernel
theorem dJ2_getChar_3b067_33 : decode cJ2_getChar_3b067 33 = .ok (.iload_n 1, 1) := by decide +kernel
theorem dJ2_getChar_3b067_34 : decode cJ2_getChar_3b067 34 = .ok (.iinc 1 1, 3) := by decide +kernel
theorem dJ2_getChar_3b067_37 : decode cJ2_getChar_3b067 37 = .ok (.baload, 1) := by decide +kernel
theorem dJ2_getChar_3b067_38 : decode cJ2_getChar_3b067 38 = .ok (.sipush 255, 3) := by decide +kernel
theorem dJ2_getChar_3b067_41 : decode cJ2_getChar_3b067 41 = .ok (.iand, 1) := by decide +kernel
theorem dJ2_getChar_3b067_42 : decode cJ2_getChar_3b067 42 = .ok (.getstatic 59, 3) := by decide +kernel
theorem dJ2_getChar_3b067_45 : decode cJ2_getChar_3b067 45 = .ok (.ishl, 1) := by decide +kernel
theorem dJ2_getChar_3b067_46 : decode cJ2_getChar_3b067 46 = .ok (.aload_n 0, 1) := by decide +kernel
theorem dJ2_getChar_3b067_47 : decode cJ2_getChar_3b067 47 = .ok (.iload_n 1, 1) := by decide +kernel
theorem dJ2_getChar_3b067_48 : decode cJ2_getChar_3b067 48 = .ok (.baload, 1) := by decide +kernel
theorem dJ2_getChar_3b067_49 : decode cJ2_getChar_3b067 49 = .ok (.sipush 255, 3) := by decide +kernel
theorem dJ2_getChar_3b067_52 : decode cJ2_getChar_3b067 52 = .ok (.iand, 1) := by decide +kernel
theorem dJ2_getChar_3b067_53 : decode cJ2_getChar_3b067 53 = .ok (.getstatic 63, 3) := by decide +kernel
theorem dJ2_getChar_3b067_56 : decode cJ2_getChar_3b067 56 = .ok (.ishl, 1) := by decide +kernel
theorem dJ2_getChar_3b067_57 : decode cJ2_getChar_3b067 57 = .ok (.ior, 1) := by decide +kernel
theorem dJ2_getChar_3b067_58 : decode cJ2_getChar_3b067 58 = .ok (.i2c, 1) := by decide +kernel
theorem dJ2_getChar_3b067_59 : decode cJ2_getChar_3b067 59 = .ok (.ireturn, 1) := by decide +kernel
theorem dJ2_length_9d52b_0 : decode cJ2_length_9d52b 0 = .ok (.aload_n 0, 1) := by decide +kernel
theorem dJ2_length_9d52b_1 : decode cJ2_length_9d52b 1 = .ok (.arraylength, 1) := by decide +kernel
theorem dJ2_length_9d52b_2 : decode cJ2_length_9d52b 2 = .ok (.iconst 1, 1) := by decide +kernel
theorem dJ2_length_9d52b_3 : decode cJ2_length_9d52b 3 = .ok (.ishr, 1) := by decide +kernel
theorem dJ2_length_9d52b_4 : decode cJ2_length_9d52b 4 = .ok (.ireturn, 1) := by decide +kernel
theorem dJ2_charAt_3b067_0 : decode cJ2_charAt_3b067 0 = .ok (.iload_n 1, 1) := by decide +kernel
theorem dJ2_charAt_3b067_1 : decode cJ2_charAt_3b067 1 = .ok (.aload_n 0, 1) := by decide +kernel
theorem dJ2_charAt_3b067_2 : decode cJ2_charAt_3b067 2 = .ok (.invokestatic 67, 3) := by decide +kernel
theorem dJ2_charAt_3b067_5 : decode cJ2_charAt_3b067 5 = .ok (.aload_n 0, 1) := by decide +kernel
theorem dJ2_charAt_3b067_6 : decode cJ2_charAt_3b067 6 = .ok (.iload_n 1, 1) := by decide +kernel
theorem dJ2_charAt_3b067_7 : decode cJ2_charAt_3b067 7 = .ok (.invokestatic 71, 3) := by decide +kernel
theorem dJ2_charAt_3b067_10 : decode cJ2_charAt_3b067 10 = .ok (.ireturn, 1) := by decide +kernel
theorem dJ2_checkIndex_2214a_0 : decode cJ2_checkIndex_2214a 0 = .ok (.iload_n 0, 1) := by decide +kernel
theorem dJ2_checkIndex_2214a_1 : decode cJ2_checkIndex_2214a 1 = .ok (.aload_n 1, 1) := by decide +kernel
theorem dJ2_checkIndex_2214a_2 : decode cJ2_checkIndex_2214a 2 = .ok (.invokestatic 48, 3) := by decide +kernel
theorem dJ2_checkIndex_2214a_5 : decode cJ2_checkIndex_2214a 5 = .ok (.invokestatic 414, 3) := by decide +kernel
theorem dJ2_checkIndex_2214a_8 : decode cJ2_checkIndex_2214a 8 = .ok (.return_, 1) := by decide +kernel
theorem dJ3_checkIndex_8e157_0 : decode cJ3_checkIndex_8e157 0 = .ok (.iload_n 0, 1) := by decide +kernel
theorem dJ3_checkIndex_8e157_1 : decode cJ3_checkIndex_8e157 1 = .ok (.ifCond .lt 8, 3) := by decide +kernel
theorem dJ3_checkIndex_8e157_4 : decode cJ3_checkIndex_8e157 4 = .ok (.iload_n 0, 1) := by decide +kernel
theorem dJ3_checkIndex_8e157_5 : decode cJ3_checkIndex_8e157 5 = .ok (.iload_n 1, 1) := by decide +kernel
theorem dJ3_checkIndex_8e157_6 : decode cJ3_checkIndex_8e157 6 = .ok (.if_icmp .lt 10, 3) := by decide +kernel
theorem dJ3_checkIndex_8e157_9 : decode cJ3_checkIndex_8e157 9 = .ok (.aload_n 2, 1) := by decide +kernel
theorem dJ3_checkIndex_8e157_10 : decode cJ3_checkIndex_8e157 10 = .ok (.iload_n 0, 1) := by decide +kernel
theorem dJ3_checkIndex_8e157_11 : decode cJ3_checkIndex_8e157 11 = .ok (.iload_n 1, 1) := by decide +kernel
theorem dJ3_checkIndex_8e157_12 : decode cJ3_checkIndex_8e157 12 = .ok (.invokestatic 95, 3) := by decide +kernel
theorem dJ3_checkIndex_8e157_15 : decode cJ3_checkIndex_8e157 15 = .ok (.athrow, 1) := by decide +kernel
theorem dJ3_checkIndex_8e157_16 : decode cJ3_checkIndex_8e157 16 = .ok (.iload_n 0, 1) := by decide +kernel
theorem dJ3_checkIndex_8e157_17 : decode cJ3_checkIndex_8e157 17 = .ok (.ireturn, 1) := by decide +kernel
