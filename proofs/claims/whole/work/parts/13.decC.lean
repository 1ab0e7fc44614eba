theorem dX11_init_0 : decode cX11_init 0 = .ok (.aload_n 0, 1) := by decide +kernel
theorem dX11_init_1 : decode cX11_init 1 = .ok (.invokespecial 5, 3) := by decide +kernel
theorem dX11_init_4 : decode cX11_init 4 = .ok (.aload_n 0, 1) := by decide +kernel
theorem dX11_init_5 : decode cX11_init 5 = .ok (.new 11, 3) := by decide +kernel
theorem dX11_init_8 : decode cX11_init 8 = .ok (.dup, 1) := by decide +kernel
theorem dX11_init_9 : decode cX11_init 9 = .ok (.sipush 900, 3) := by decide +kernel
theorem dX11_init_12 : decode cX11_init 12 = .ok (.invokespecial 13, 3) := by decide +kernel
theorem dX11_init_15 : decode cX11_init 15 = .ok (.putfield 16, 3) := by decide +kernel
theorem dX11_init_18 : decode cX11_init 18 = .ok (.aload_n 0, 1) := by decide +kernel
theorem dX11_init_19 : decode cX11_init 19 = .ok (.new 11, 3) := by decide +kernel
theorem dX11_init_22 : decode cX11_init 22 = .ok (.dup, 1) := by decide +kernel
theorem dX11_init_23 : decode cX11_init 23 = .ok (.sipush 900, 3) := by decide +kernel
theorem dX11_init_26 : decode cX11_init 26 = .ok (.invokespecial 13, 3) := by decide +kernel
theorem dX11_init_29 : decode cX11_init 29 = .ok (.putfield 20, 3) := by decide +kernel
theorem dX11_init_32 : decode cX11_init 32 = .ok (.aload_n 0, 1) := by decide +kernel
theorem dX11_init_33 : decode cX11_init 33 = .ok (.new 23, 3) := by decide +kernel
theorem dX11_init_36 : decode cX11_init 36 = .ok (.dup, 1) := by decide +kernel
theorem dX11_init_37 : decode cX11_init 37 = .ok (.invokespecial 25, 3) := by decide +kernel
theorem dX11_init_40 : decode cX11_init 40 = .ok (.putfield 26, 3) := by decide +kernel
theorem dX11_init_43 : decode cX11_init 43 = .ok (.aload_n 0, 1) := by decide +kernel
theorem dX11_init_44 : decode cX11_init 44 = .ok (.new 30, 3) := by decide +kernel
theorem dX11_init_47 : decode cX11_init 47 = .ok (.dup, 1) := by decide +kernel
theorem dX11_init_48 : decode cX11_init 48 = .ok (.invokespecial 32, 3) := by decide +kernel
theorem dX11_init_51 : decode cX11_init 51 = .ok (.putfield 33, 3) := by decide +kernel
theorem dX11_init_54 : decode cX11_init 54 = .ok (.aload_n 0, 1) := by decide +kernel
theorem dX11_init_55 : decode cX11_init 55 = .ok (.iconst 4, 1) := by decide +kernel
theorem dX11_init_56 : decode cX11_init 56 = .ok (.anewarray 37, 3) := by decide +kernel
theorem dX11_init_59 : decode cX11_init 59 = .ok (.putfield 39, 3) := by decide +kernel
theorem dX11_init_62 : decode cX11_init 62 = .ok (.iconst 0, 1) := by decide +kernel
theorem dX11_init_63 : decode cX11_init 63 = .ok (.istore_n 1, 1) := by decide +kernel
theorem dX11_init_64 : decode cX11_init 64 = .ok (.iload_n 1, 1) := by decide +kernel
theorem dX11_init_65 : decode cX11_init 65 = .ok (.iconst 4, 1) := by decide +kernel
theorem dX11_init_66 : decode cX11_init 66 = .ok (.if_icmp .ge 22, 3) := by decide +kernel
theorem dX11_init_69 : decode cX11_init 69 = .ok (.aload_n 0, 1) := by decide +kernel
theorem dX11_init_70 : decode cX11_init 70 = .ok (.getfield 39, 3) := by decide +kernel
theorem dX11_init_73 : decode cX11_init 73 = .ok (.iload_n 1, 1) := by decide +kernel
theorem dX11_init_74 : decode cX11_init 74 = .ok (.new 37, 3) := by decide +kernel
theorem dX11_init_77 : decode cX11_init 77 = .ok (.dup, 1) := by decide +kernel
theorem dX11_init_78 : decode cX11_init 78 = .ok (.invokespecial 43, 3) := by decide +kernel
theorem dX11_init_81 : decode cX11_init 81 = .ok (.aastore, 1) := by decide +kernel
theorem dX11_init_82 : decode cX11_init 82 = .ok (.iinc 1 1, 3) := by decide +kernel
theorem dX11_init_85 : decode cX11_init 85 = .ok (.goto (-21), 3) := by decide +kernel
theorem dX11_init_88 : decode cX11_init 88 = .ok (.aload_n 0, 1) := by decide +kernel
theorem dX11_init_89 : decode cX11_init 89 = .ok (.aconst_null, 1) := by decide +kernel
theorem dX11_init_90 : decode cX11_init 90 = .ok (.putfield 44, 3) := by decide +kernel
theorem dX11_init_93 : decode cX11_init 93 = .ok (.aload_n 0, 1) := by decide +kernel
theorem dX11_init_94 : decode cX11_init 94 = .ok (.iconst 0, 1) := by decide +kernel
theorem dX11_init_95 : decode cX11_init 95 = .ok (.putfield 48, 3) := by decide +kernel
theorem dX11_init_98 : decode cX11_init 98 = .ok (.aload_n 0, 1) := by decide +kernel
theorem dX11_init_99 : decode cX11_init 99 = .ok (.iconst 0, 1) := by decide +kernel
theorem dX11_init_100 : decode cX11_init 100 = .ok (.putfield 52, 3) := by decide +kernel
theorem dX11_init_103 : decode cX11_init 103 = .ok (.aload_n 0, 1) := by decide +kernel
theorem dX11_init_104 : decode cX11_init 104 = .ok (.iconst (-1), 1) := by decide +kernel
theorem dX11_init_105 : decode cX11_init 105 = .ok (.putfield 55, 3) := by decide +kernel
theorem dX11_init_108 : decode cX11_init 108 = .ok (.return_, 1) := by decide +kernel
theorem dX11_feed_0 : decode cX11_feed 0 = .ok (.aload_n 0, 1) := by decide +kernel
theorem dX11_feed_1 : decode cX11_feed 1 = .ok (.getfield 16, 3) := by decide +kernel
theorem dX11_feed_4 : decode cX11_feed 4 = .ok (.getfield 58, 3) := by decide +kernel
theorem dX11_feed_7 : decode cX11_feed 7 = .ok (.bipush 20, 2) := by decide +kernel
theorem dX11_feed_9 : decode cX11_feed 9 = .ok (.iadd, 1) := by decide +kernel
theorem dX11_feed_10 : decode cX11_feed 10 = .ok (.sipush 900, 3) := by decide +kernel
theorem dX11_feed_13 : decode cX11_feed 13 = .ok (.if_icmp .le 5, 3) := by decide +kernel
theorem dX11_feed_16 : decode cX11_feed 16 = .ok (.iconst (-1), 1) := by decide +kernel
theorem dX11_feed_17 : decode cX11_feed 17 = .ok (.ireturn, 1) := by decide +kernel
theorem dX11_feed_18 : decode cX11_feed 18 = .ok (.aload_n 0, 1) := by decide +kernel
theorem dX11_feed_19 : decode cX11_feed 19 = .ok (.getfield 16, 3) := by decide +kernel
theorem dX11_feed_22 : decode cX11_feed 22 = .ok (.iload_n 1, 1) := by decide +kernel
theorem dX11_feed_23 : decode cX11_feed 23 = .ok (.invokevirtual 61, 3) := by decide +kernel
theorem dX11_feed_26 : decode cX11_feed 26 = .ok (.aload_n 0, 1) := by decide +kernel
theorem dX11_feed_27 : decode cX11_feed 27 = .ok (.getfield 16, 3) := by decide +kernel
theorem dX11_feed_30 : decode cX11_feed 30 = .ok (.iload_n 2, 1) := by decide +kernel
theorem dX11_feed_31 : decode cX11_feed 31 = .ok (.invokevirtual 61, 3) := by decide +kernel
theorem dX11_feed_34 : decode cX11_feed 34 = .ok (.aload_n 0, 1) := by decide +kernel
theorem dX11_feed_35 : decode cX11_feed 35 = .ok (.getfield 16, 3) := by decide +kernel
theorem dX11_feed_38 : decode cX11_feed 38 = .ok (.iload_n 3, 1) := by decide +kernel
theorem dX11_feed_39 : decode cX11_feed 39 = .ok (.invokevirtual 61, 3) := by decide +kernel
theorem dX11_feed_42 : decode cX11_feed 42 = .ok (.aload_n 0, 1) := by decide +kernel
theorem dX11_feed_43 : decode cX11_feed 43 = .ok (.getfield 16, 3) := by decide +kernel
theorem dX11_feed_46 : decode cX11_feed 46 = .ok (.iload 4, 2) := by decide +kernel
theorem dX11_feed_48 : decode cX11_feed 48 = .ok (.invokevirtual 61, 3) := by decide +kernel
theorem dX11_feed_51 : decode cX11_feed 51 = .ok (.aload_n 0, 1) := by decide +kernel
theorem dX11_feed_52 : decode cX11_feed 52 = .ok (.getfield 16, 3) := by decide +kernel
theorem dX11_feed_55 : decode cX11_feed 55 = .ok (.iload 5, 2) := by decide +kernel
theorem dX11_feed_57 : decode cX11_feed 57 = .ok (.invokevirtual 61, 3) := by decide +kernel
theorem dX11_feed_60 : decode cX11_feed 60 = .ok (.aload_n 0, 1) := by decide +kernel
theorem dX11_feed_61 : decode cX11_feed 61 = .ok (.getfield 16, 3) := by decide +kernel
theorem dX11_feed_64 : decode cX11_feed 64 = .ok (.getfield 58, 3) := by decide +kernel
theorem dX11_feed_67 : decode cX11_feed 67 = .ok (.ireturn, 1) := by decide +kernel
theorem dX11_table_0 : decode cX11_table 0 = .ok (.aload_n 0, 1) := by decide +kernel
theorem dX11_table_1 : decode cX11_table 1 = .ok (.iload_n 1, 1) := by decide +kernel
theorem dX11_table_2 : decode cX11_table 2 = .ok (.invokevirtual 64, 3) := by decide +kernel
theorem dX11_table_5 : decode cX11_table 5 = .ok (.ifCond .ne 9, 3) := by decide +kernel
theorem dX11_table_8 : decode cX11_table 8 = .ok (.aload_n 0, 1) := by decide +kernel
theorem dX11_table_9 : decode cX11_table 9 = .ok (.iconst 2, 1) := by decide +kernel
theorem dX11_table_10 : decode cX11_table 10 = .ok (.invokevirtual 68, 3) := by decide +kernel
theorem dX11_table_13 : decode cX11_table 13 = .ok (.ireturn, 1) := by decide +kernel
theorem dX11_table_14 : decode cX11_table 14 = .ok (.new 72, 3) := by decide +kernel
theorem dX11_table_17 : decode cX11_table 17 = .ok (.dup, 1) := by decide +kernel
theorem dX11_table_18 : decode cX11_table 18 = .ok (.invokespecial 74, 3) := by decide +kernel
theorem dX11_table_21 : decode cX11_table 21 = .ok (.astore_n 2, 1) := by decide +kernel
theorem dX11_table_22 : decode cX11_table 22 = .ok (.new 75, 3) := by decide +kernel
theorem dX11_table_25 : decode cX11_table 25 = .ok (.dup, 1) := by decide +kernel
theorem dX11_table_26 : decode cX11_table 26 = .ok (.aload_n 0, 1) := by decide +kernel
theorem dX11_table_27 : decode cX11_table 27 = .ok (.getfield 16, 3) := by decide +kernel
theorem dX11_table_30 : decode cX11_table 30 = .ok (.iload_n 1, 1) := by decide +kernel
theorem dX11_table_31 : decode cX11_table 31 = .ok (.aload_n 2, 1) := by decide +kernel
theorem dX11_table_32 : decode cX11_table 32 = .ok (.invokespecial 77, 3) := by decide +kernel
theorem dX11_table_35 : decode cX11_table 35 = .ok (.astore_n 3, 1) := by decide +kernel
theorem dX11_table_36 : decode cX11_table 36 = .ok (.aload_n 3, 1) := by decide +kernel
theorem dX11_table_37 : decode cX11_table 37 = .ok (.invokevirtual 80, 3) := by decide +kernel
theorem dX11_table_40 : decode cX11_table 40 = .ok (.istore 4, 2) := by decide +kernel
theorem dX11_table_42 : decode cX11_table 42 = .ok (.aload_n 0, 1) := by decide +kernel
theorem dX11_table_43 : decode cX11_table 43 = .ok (.getfield 16, 3) := by decide +kernel
theorem dX11_table_46 : decode cX11_table 46 = .ok (.invokevirtual 84, 3) := by decide +kernel
theorem dX11_table_49 : decode cX11_table 49 = .ok (.aload_n 0, 1) := by decide +kernel
theorem dX11_table_50 : decode cX11_table 50 = .ok (.aload_n 3, 1) := by decide +kernel
theorem dX11_table_51 : decode cX11_table 51 = .ok (.getfield 87, 3) := by decide +kernel
theorem dX11_table_54 : decode cX11_table 54 = .ok (.putfield 52, 3) := by decide +kernel
theorem dX11_table_57 : decode cX11_table 57 = .ok (.iload 4, 2) := by decide +kernel
theorem dX11_table_59 : decode cX11_table 59 = .ok (.ifCond .ne 17, 3) := by decide +kernel
theorem dX11_table_62 : decode cX11_table 62 = .ok (.aload_n 0, 1) := by decide +kernel
theorem dX11_table_63 : decode cX11_table 63 = .ok (.aload_n 3, 1) := by decide +kernel
theorem dX11_table_64 : decode cX11_table 64 = .ok (.getfield 88, 3) := by decide +kernel
theorem dX11_table_67 : decode cX11_table 67 = .ok (.putfield 55, 3) := by decide +kernel
theorem dX11_table_70 : decode cX11_table 70 = .ok (.aload_n 0, 1) := by decide +kernel
theorem dX11_table_71 : decode cX11_table 71 = .ok (.iconst 4, 1) := by decide +kernel
theorem dX11_table_72 : decode cX11_table 72 = .ok (.invokevirtual 68, 3) := by decide +kernel
theorem dX11_table_75 : decode cX11_table 75 = .ok (.ireturn, 1) := by decide +kernel
theorem dX11_table_76 : decode cX11_table 76 = .ok (.aload_n 0, 1) := by decide +kernel
theorem dX11_table_77 : decode cX11_table 77 = .ok (.aload_n 2, 1) := by decide +kernel
theorem dX11_table_78 : decode cX11_table 78 = .ok (.putfield 44, 3) := by decide +kernel
theorem dX11_table_81 : decode cX11_table 81 = .ok (.aload_n 0, 1) := by decide +kernel
theorem dX11_table_82 : decode cX11_table 82 = .ok (.getfield 33, 3) := by decide +kernel
theorem dX11_table_85 : decode cX11_table 85 = .ok (.iconst 0, 1) := by decide +kernel
theorem dX11_table_86 : decode cX11_table 86 = .ok (.putfield 89, 3) := by decide +kernel
theorem dX11_table_89 : decode cX11_table 89 = .ok (.aload_n 0, 1) := by decide +kernel
theorem dX11_table_90 : decode cX11_table 90 = .ok (.invokevirtual 93, 3) := by decide +kernel
theorem dX11_table_93 : decode cX11_table 93 = .ok (.aload_n 0, 1) := by decide +kernel
theorem dX11_table_94 : decode cX11_table 94 = .ok (.aload_n 2, 1) := by decide +kernel
theorem dX11_table_95 : decode cX11_table 95 = .ok (.getfield 96, 3) := by decide +kernel
theorem dX11_table_98 : decode cX11_table 98 = .ok (.getfield 100, 3) := by decide +kernel
theorem dX11_table_101 : decode cX11_table 101 = .ok (.invokevirtual 103, 3) := by decide +kernel
theorem dX11_table_104 : decode cX11_table 104 = .ok (.ireturn, 1) := by decide +kernel
theorem dX11_fault_0 : decode cX11_fault 0 = .ok (.aload_n 0, 1) := by decide +kernel
theorem dX11_fault_1 : decode cX11_fault 1 = .ok (.getfield 52, 3) := by decide +kernel
theorem dX11_fault_4 : decode cX11_fault 4 = .ok (.ireturn, 1) := by decide +kernel
theorem dX11_where_0 : decode cX11_where 0 = .ok (.aload_n 0, 1) := by decide +kernel
theorem dX11_where_1 : decode cX11_where 1 = .ok (.getfield 48, 3) := by decide +kernel
theorem dX11_where_4 : decode cX11_where 4 = .ok (.iconst 4, 1) := by decide +kernel
theorem dX11_where_5 : decode cX11_where 5 = .ok (.if_icmp .ne 10, 3) := by decide +kernel
theorem dX11_where_8 : decode cX11_where 8 = .ok (.aload_n 0, 1) := by decide +kernel
theorem dX11_where_9 : decode cX11_where 9 = .ok (.getfield 55, 3) := by decide +kernel
theorem dX11_where_12 : decode cX11_where 12 = .ok (.goto 4, 3) := by decide +kernel
theorem dX11_where_15 : decode cX11_where 15 = .ok (.iconst (-1), 1) := by decide +kernel
theorem dX11_where_16 : decode cX11_where 16 = .ok (.ireturn, 1) := by decide +kernel
theorem dX11_about_0 : decode cX11_about 0 = .ok (.aload_n 0, 1) := by decide +kernel
theorem dX11_about_1 : decode cX11_about 1 = .ok (.getfield 44, 3) := by decide +kernel
theorem dX11_about_4 : decode cX11_about 4 = .ok (.ifnull 13, 3) := by decide +kernel
theorem dX11_about_7 : decode cX11_about 7 = .ok (.iload_n 1, 1) := by decide +kernel
theorem dX11_about_8 : decode cX11_about 8 = .ok (.ifCond .lt 9, 3) := by decide +kernel
theorem dX11_about_11 : decode cX11_about 11 = .ok (.iload_n 1, 1) := by decide +kernel
theorem dX11_about_12 : decode cX11_about 12 = .ok (.bipush 6, 2) := by decide +kernel
theorem dX11_about_14 : decode cX11_about 14 = .ok (.if_icmp .le 9, 3) := by decide +kernel
theorem dX11_about_17 : decode cX11_about 17 = .ok (.aload_n 0, 1) := by decide +kernel
theorem dX11_about_18 : decode cX11_about 18 = .ok (.iconst 1, 1) := by decide +kernel
theorem dX11_about_19 : decode cX11_about 19 = .ok (.invokevirtual 68, 3) := by decide +kernel
theorem dX11_about_22 : decode cX11_about 22 = .ok (.ireturn, 1) := by decide +kernel
theorem dX11_about_23 : decode cX11_about 23 = .ok (.iload_n 1, 1) := by decide +kernel
theorem dX11_about_24 : decode cX11_about 24 = .ok (.tableswitch 128 0 5 #[40, 52, 67, 82, 97, 112], 40) := by decide +kernel
theorem dX11_about_64 : decode cX11_about 64 = .ok (.aload_n 0, 1) := by decide +kernel
theorem dX11_about_65 : decode cX11_about 65 = .ok (.aload_n 0, 1) := by decide +kernel
theorem dX11_about_66 : decode cX11_about 66 = .ok (.getfield 44, 3) := by decide +kernel
theorem dX11_about_69 : decode cX11_about 69 = .ok (.getfield 106, 3) := by decide +kernel
theorem dX11_about_72 : decode cX11_about 72 = .ok (.invokevirtual 103, 3) := by decide +kernel
theorem dX11_about_75 : decode cX11_about 75 = .ok (.ireturn, 1) := by decide +kernel
theorem dX11_about_76 : decode cX11_about 76 = .ok (.aload_n 0, 1) := by decide +kernel
theorem dX11_about_77 : decode cX11_about 77 = .ok (.aload_n 0, 1) := by decide +kernel
theorem dX11_about_78 : decode cX11_about 78 = .ok (.getfield 44, 3) := by decide +kernel
theorem dX11_about_81 : decode cX11_about 81 = .ok (.getfield 109, 3) := by decide +kernel
theorem dX11_about_84 : decode cX11_about 84 = .ok (.getfield 113, 3) := by decide +kernel
theorem dX11_about_87 : decode cX11_about 87 = .ok (.invokevirtual 103, 3) := by decide +kernel
theorem dX11_about_90 : decode cX11_about 90 = .ok (.ireturn, 1) := by decide +kernel
theorem dX11_about_91 : decode cX11_about 91 = .ok (.aload_n 0, 1) := by decide +kernel
theorem dX11_about_92 : decode cX11_about 92 = .ok (.aload_n 0, 1) := by decide +kernel
theorem dX11_about_93 : decode cX11_about 93 = .ok (.getfield 44, 3) := by decide +kernel
theorem dX11_about_96 : decode cX11_about 96 = .ok (.getfield 96, 3) := by decide +kernel
theorem dX11_about_99 : decode cX11_about 99 = .ok (.getfield 100, 3) := by decide +kernel
theorem dX11_about_102 : decode cX11_about 102 = .ok (.invokevirtual 103, 3) := by decide +kernel
theorem dX11_about_105 : decode cX11_about 105 = .ok (.ireturn, 1) := by decide +kernel
theorem dX11_about_106 : decode cX11_about 106 = .ok (.aload_n 0, 1) := by decide +kernel
theorem dX11_about_107 : decode cX11_about 107 = .ok (.aload_n 0, 1) := by decide +kernel
theorem dX11_about_108 : decode cX11_about 108 = .ok (.getfield 44, 3) := by decide +kernel
theorem dX11_about_111 : decode cX11_about 111 = .ok (.getfield 96, 3) := by decide +kernel
theorem dX11_about_114 : decode cX11_about 114 = .ok (.getfield 116, 3) := by decide +kernel
theorem dX11_about_117 : decode cX11_about 117 = .ok (.invokevirtual 103, 3) := by decide +kernel
theorem dX11_about_120 : decode cX11_about 120 = .ok (.ireturn, 1) := by decide +kernel
theorem dX11_about_121 : decode cX11_about 121 = .ok (.aload_n 0, 1) := by decide +kernel
theorem dX11_about_122 : decode cX11_about 122 = .ok (.aload_n 0, 1) := by decide +kernel
theorem dX11_about_123 : decode cX11_about 123 = .ok (.getfield 44, 3) := by decide +kernel
theorem dX11_about_126 : decode cX11_about 126 = .ok (.getfield 119, 3) := by decide +kernel
theorem dX11_about_129 : decode cX11_about 129 = .ok (.getfield 123, 3) := by decide +kernel
theorem dX11_about_132 : decode cX11_about 132 = .ok (.invokevirtual 103, 3) := by decide +kernel
theorem dX11_about_135 : decode cX11_about 135 = .ok (.ireturn, 1) := by decide +kernel
theorem dX11_about_136 : decode cX11_about 136 = .ok (.aload_n 0, 1) := by decide +kernel
theorem dX11_about_137 : decode cX11_about 137 = .ok (.aload_n 0, 1) := by decide +kernel
theorem dX11_about_138 : decode cX11_about 138 = .ok (.getfield 44, 3) := by decide +kernel
theorem dX11_about_141 : decode cX11_about 141 = .ok (.getfield 128, 3) := by decide +kernel
theorem dX11_about_144 : decode cX11_about 144 = .ok (.sipush 255, 3) := by decide +kernel
theorem dX11_about_147 : decode cX11_about 147 = .ok (.iand, 1) := by decide +kernel
theorem dX11_about_148 : decode cX11_about 148 = .ok (.invokevirtual 103, 3) := by decide +kernel
theorem dX11_about_151 : decode cX11_about 151 = .ok (.ireturn, 1) := by decide +kernel
theorem dX11_about_152 : decode cX11_about 152 = .ok (.aload_n 0, 1) := by decide +kernel
theorem dX11_about_153 : decode cX11_about 153 = .ok (.aload_n 0, 1) := by decide +kernel
theorem dX11_about_154 : decode cX11_about 154 = .ok (.getfield 44, 3) := by decide +kernel
theorem dX11_about_157 : decode cX11_about 157 = .ok (.getfield 119, 3) := by decide +kernel
theorem dX11_about_160 : decode cX11_about 160 = .ok (.invokevirtual 131, 3) := by decide +kernel
theorem dX11_about_163 : decode cX11_about 163 = .ok (.invokevirtual 103, 3) := by decide +kernel
theorem dX11_about_166 : decode cX11_about 166 = .ok (.ireturn, 1) := by decide +kernel
theorem dX11_kind_0 : decode cX11_kind 0 = .ok (.aload_n 0, 1) := by decide +kernel
theorem dX11_kind_1 : decode cX11_kind 1 = .ok (.iload_n 1, 1) := by decide +kernel
theorem dX11_kind_2 : decode cX11_kind 2 = .ok (.invokevirtual 135, 3) := by decide +kernel
theorem dX11_kind_5 : decode cX11_kind 5 = .ok (.ifCond .ne 9, 3) := by decide +kernel
theorem dX11_kind_8 : decode cX11_kind 8 = .ok (.aload_n 0, 1) := by decide +kernel
theorem dX11_kind_9 : decode cX11_kind 9 = .ok (.iconst 1, 1) := by decide +kernel
theorem dX11_kind_10 : decode cX11_kind 10 = .ok (.invokevirtual 68, 3) := by decide +kernel
theorem dX11_kind_13 : decode cX11_kind 13 = .ok (.ireturn, 1) := by decide +kernel
theorem dX11_kind_14 : decode cX11_kind 14 = .ok (.aload_n 0, 1) := by decide +kernel
theorem dX11_kind_15 : decode cX11_kind 15 = .ok (.aload_n 0, 1) := by decide +kernel
theorem dX11_kind_16 : decode cX11_kind 16 = .ok (.getfield 44, 3) := by decide +kernel
theorem dX11_kind_19 : decode cX11_kind 19 = .ok (.getfield 138, 3) := by decide +kernel
theorem dX11_kind_22 : decode cX11_kind 22 = .ok (.iload_n 1, 1) := by decide +kernel
theorem dX11_kind_23 : decode cX11_kind 23 = .ok (.iaload, 1) := by decide +kernel
theorem dX11_kind_24 : decode cX11_kind 24 = .ok (.invokevirtual 103, 3) := by decide +kernel
theorem dX11_kind_27 : decode cX11_kind 27 = .ok (.ireturn, 1) := by decide +kernel
theorem dX11_orderAt_0 : decode cX11_orderAt 0 = .ok (.aload_n 0, 1) := by decide +kernel
theorem dX11_orderAt_1 : decode cX11_orderAt 1 = .ok (.getfield 44, 3) := by decide +kernel
theorem dX11_orderAt_4 : decode cX11_orderAt 4 = .ok (.ifnull 30, 3) := by decide +kernel
theorem dX11_orderAt_7 : decode cX11_orderAt 7 = .ok (.iload_n 1, 1) := by decide +kernel
theorem dX11_orderAt_8 : decode cX11_orderAt 8 = .ok (.ifCond .lt 26, 3) := by decide +kernel
theorem dX11_orderAt_11 : decode cX11_orderAt 11 = .ok (.iload_n 1, 1) := by decide +kernel
theorem dX11_orderAt_12 : decode cX11_orderAt 12 = .ok (.aload_n 0, 1) := by decide +kernel
theorem dX11_orderAt_13 : decode cX11_orderAt 13 = .ok (.getfield 44, 3) := by decide +kernel
theorem dX11_orderAt_16 : decode cX11_orderAt 16 = .ok (.getfield 109, 3) := by decide +kernel
theorem dX11_orderAt_19 : decode cX11_orderAt 19 = .ok (.getfield 113, 3) := by decide +kernel
theorem dX11_orderAt_22 : decode cX11_orderAt 22 = .ok (.if_icmp .ge 12, 3) := by decide +kernel
theorem dX11_orderAt_25 : decode cX11_orderAt 25 = .ok (.iload_n 2, 1) := by decide +kernel
theorem dX11_orderAt_26 : decode cX11_orderAt 26 = .ok (.ifCond .lt 8, 3) := by decide +kernel
theorem dX11_orderAt_29 : decode cX11_orderAt 29 = .ok (.iload_n 2, 1) := by decide +kernel
theorem dX11_orderAt_30 : decode cX11_orderAt 30 = .ok (.iconst 2, 1) := by decide +kernel
theorem dX11_orderAt_31 : decode cX11_orderAt 31 = .ok (.if_icmp .le 9, 3) := by decide +kernel
theorem dX11_orderAt_34 : decode cX11_orderAt 34 = .ok (.aload_n 0, 1) := by decide +kernel
theorem dX11_orderAt_35 : decode cX11_orderAt 35 = .ok (.iconst 1, 1) := by decide +kernel
theorem dX11_orderAt_36 : decode cX11_orderAt 36 = .ok (.invokevirtual 68, 3) := by decide +kernel
theorem dX11_orderAt_39 : decode cX11_orderAt 39 = .ok (.ireturn, 1) := by decide +kernel
theorem dX11_orderAt_40 : decode cX11_orderAt 40 = .ok (.iload_n 2, 1) := by decide +kernel
theorem dX11_orderAt_41 : decode cX11_orderAt 41 = .ok (.ifCond .ne 20, 3) := by decide +kernel
theorem dX11_orderAt_44 : decode cX11_orderAt 44 = .ok (.aload_n 0, 1) := by decide +kernel
theorem dX11_orderAt_45 : decode cX11_orderAt 45 = .ok (.aload_n 0, 1) := by decide +kernel
theorem dX11_orderAt_46 : decode cX11_orderAt 46 = .ok (.getfield 44, 3) := by decide +kernel
theorem dX11_orderAt_49 : decode cX11_orderAt 49 = .ok (.getfield 109, 3) := by decide +kernel
theorem dX11_orderAt_52 : decode cX11_orderAt 52 = .ok (.getfield 142, 3) := by decide +kernel
theorem dX11_orderAt_55 : decode cX11_orderAt 55 = .ok (.iload_n 1, 1) := by decide +kernel
theorem dX11_orderAt_56 : decode cX11_orderAt 56 = .ok (.iaload, 1) := by decide +kernel
theorem dX11_orderAt_57 : decode cX11_orderAt 57 = .ok (.invokevirtual 103, 3) := by decide +kernel
theorem dX11_orderAt_60 : decode cX11_orderAt 60 = .ok (.ireturn, 1) := by decide +kernel
theorem dX11_orderAt_61 : decode cX11_orderAt 61 = .ok (.iload_n 2, 1) := by decide +kernel
theorem dX11_orderAt_62 : decode cX11_orderAt 62 = .ok (.iconst 1, 1) := by decide +kernel
theorem dX11_orderAt_63 : decode cX11_orderAt 63 = .ok (.if_icmp .ne 18, 3) := by decide +kernel
theorem dX11_orderAt_66 : decode cX11_orderAt 66 = .ok (.aload_n 0, 1) := by decide +kernel
theorem dX11_orderAt_67 : decode cX11_orderAt 67 = .ok (.getfield 44, 3) := by decide +kernel
theorem dX11_orderAt_70 : decode cX11_orderAt 70 = .ok (.getfield 109, 3) := by decide +kernel
theorem dX11_orderAt_73 : decode cX11_orderAt 73 = .ok (.getfield 144, 3) := by decide +kernel
theorem dX11_orderAt_76 : decode cX11_orderAt 76 = .ok (.iload_n 1, 1) := by decide +kernel
theorem dX11_orderAt_77 : decode cX11_orderAt 77 = .ok (.baload, 1) := by decide +kernel
theorem dX11_orderAt_78 : decode cX11_orderAt 78 = .ok (.goto 15, 3) := by decide +kernel
theorem dX11_orderAt_81 : decode cX11_orderAt 81 = .ok (.aload_n 0, 1) := by decide +kernel
theorem dX11_orderAt_82 : decode cX11_orderAt 82 = .ok (.getfield 44, 3) := by decide +kernel
theorem dX11_orderAt_85 : decode cX11_orderAt 85 = .ok (.getfield 109, 3) := by decide +kernel
theorem dX11_orderAt_88 : decode cX11_orderAt 88 = .ok (.getfield 148, 3) := by decide +kernel
theorem dX11_orderAt_91 : decode cX11_orderAt 91 = .ok (.iload_n 1, 1) := by decide +kernel
theorem dX11_orderAt_92 : decode cX11_orderAt 92 = .ok (.baload, 1) := by decide +kernel
theorem dX11_orderAt_93 : decode cX11_orderAt 93 = .ok (.istore_n 3, 1) := by decide +kernel
theorem dX11_orderAt_94 : decode cX11_orderAt 94 = .ok (.aload_n 0, 1) := by decide +kernel
theorem dX11_orderAt_95 : decode cX11_orderAt 95 = .ok (.iload_n 3, 1) := by decide +kernel
theorem dX11_orderAt_96 : decode cX11_orderAt 96 = .ok (.ifCond .eq 7, 3) := by decide +kernel
theorem dX11_orderAt_99 : decode cX11_orderAt 99 = .ok (.iconst 1, 1) := by decide +kernel
theorem dX11_orderAt_100 : decode cX11_orderAt 100 = .ok (.goto 4, 3) := by decide +kernel
theorem dX11_orderAt_103 : decode cX11_orderAt 103 = .ok (.iconst 0, 1) := by decide +kernel
theorem dX11_orderAt_104 : decode cX11_orderAt 104 = .ok (.invokevirtual 103, 3) := by decide +kernel
theorem dX11_orderAt_107 : decode cX11_orderAt 107 = .ok (.ireturn, 1) := by decide +kernel
theorem dX11_value_0 : decode cX11_value 0 = .ok (.aload_n 0, 1) := by decide +kernel
theorem dX11_value_1 : decode cX11_value 1 = .ok (.iload_n 1, 1) := by decide +kernel
theorem dX11_value_2 : decode cX11_value 2 = .ok (.invokevirtual 151, 3) := by decide +kernel
theorem dX11_value_5 : decode cX11_value 5 = .ok (.ifCond .eq 11, 3) := by decide +kernel
theorem dX11_value_8 : decode cX11_value 8 = .ok (.aload_n 0, 1) := by decide +kernel
theorem dX11_value_9 : decode cX11_value 9 = .ok (.iload_n 2, 1) := by decide +kernel
theorem dX11_value_10 : decode cX11_value 10 = .ok (.invokevirtual 135, 3) := by decide +kernel
theorem dX11_value_13 : decode cX11_value 13 = .ok (.ifCond .ne 9, 3) := by decide +kernel
theorem dX11_value_16 : decode cX11_value 16 = .ok (.aload_n 0, 1) := by decide +kernel
theorem dX11_value_17 : decode cX11_value 17 = .ok (.iconst 1, 1) := by decide +kernel
theorem dX11_value_18 : decode cX11_value 18 = .ok (.invokevirtual 154, 3) := by decide +kernel
theorem dX11_value_21 : decode cX11_value 21 = .ok (.lreturn, 1) := by decide +kernel
theorem dX11_value_22 : decode cX11_value 22 = .ok (.aload_n 0, 1) := by decide +kernel
theorem dX11_value_23 : decode cX11_value 23 = .ok (.aload_n 0, 1) := by decide +kernel
theorem dX11_value_24 : decode cX11_value 24 = .ok (.getfield 44, 3) := by decide +kernel
theorem dX11_value_27 : decode cX11_value 27 = .ok (.getfield 96, 3) := by decide +kernel
theorem dX11_value_30 : decode cX11_value 30 = .ok (.iload_n 1, 1) := by decide +kernel
theorem dX11_value_31 : decode cX11_value 31 = .ok (.iload_n 2, 1) := by decide +kernel
theorem dX11_value_32 : decode cX11_value 32 = .ok (.invokevirtual 158, 3) := by decide +kernel
theorem dX11_value_35 : decode cX11_value 35 = .ok (.invokevirtual 162, 3) := by decide +kernel
theorem dX11_value_38 : decode cX11_value 38 = .ok (.lreturn, 1) := by decide +kernel
theorem dX11_was_0 : decode cX11_was 0 = .ok (.aload_n 0, 1) := by decide +kernel
theorem dX11_was_1 : decode cX11_was 1 = .ok (.getfield 44, 3) := by decide +kernel
theorem dX11_was_4 : decode cX11_was 4 = .ok (.ifnonnull 9, 3) := by decide +kernel
theorem dX11_was_7 : decode cX11_was 7 = .ok (.aload_n 0, 1) := by decide +kernel
theorem dX11_was_8 : decode cX11_was 8 = .ok (.iconst 1, 1) := by decide +kernel
theorem dX11_was_9 : decode cX11_was 9 = .ok (.invokevirtual 154, 3) := by decide +kernel
theorem dX11_was_12 : decode cX11_was 12 = .ok (.lreturn, 1) := by decide +kernel
theorem dX11_was_13 : decode cX11_was 13 = .ok (.aload_n 0, 1) := by decide +kernel
theorem dX11_was_14 : decode cX11_was 14 = .ok (.getfield 44, 3) := by decide +kernel
theorem dX11_was_17 : decode cX11_was 17 = .ok (.getfield 119, 3) := by decide +kernel
theorem dX11_was_20 : decode cX11_was 20 = .ok (.iload_n 1, 1) := by decide +kernel
theorem dX11_was_21 : decode cX11_was 21 = .ok (.invokevirtual 166, 3) := by decide +kernel
theorem dX11_was_24 : decode cX11_was 24 = .ok (.ifCond .ne 10, 3) := by decide +kernel
theorem dX11_was_27 : decode cX11_was 27 = .ok (.aload_n 0, 1) := by decide +kernel
theorem dX11_was_28 : decode cX11_was 28 = .ok (.bipush 8, 2) := by decide +kernel
theorem dX11_was_30 : decode cX11_was 30 = .ok (.invokevirtual 154, 3) := by decide +kernel
theorem dX11_was_33 : decode cX11_was 33 = .ok (.lreturn, 1) := by decide +kernel
theorem dX11_was_34 : decode cX11_was 34 = .ok (.aload_n 0, 1) := by decide +kernel
theorem dX11_was_35 : decode cX11_was 35 = .ok (.iload_n 3, 1) := by decide +kernel
theorem dX11_was_36 : decode cX11_was 36 = .ok (.invokevirtual 135, 3) := by decide +kernel
theorem dX11_was_39 : decode cX11_was 39 = .ok (.ifCond .ne 9, 3) := by decide +kernel
theorem dX11_was_42 : decode cX11_was 42 = .ok (.aload_n 0, 1) := by decide +kernel
theorem dX11_was_43 : decode cX11_was 43 = .ok (.iconst 1, 1) := by decide +kernel
theorem dX11_was_44 : decode cX11_was 44 = .ok (.invokevirtual 154, 3) := by decide +kernel
theorem dX11_was_47 : decode cX11_was 47 = .ok (.lreturn, 1) := by decide +kernel
theorem dX11_was_48 : decode cX11_was 48 = .ok (.aload_n 0, 1) := by decide +kernel
theorem dX11_was_49 : decode cX11_was 49 = .ok (.getfield 26, 3) := by decide +kernel
theorem dX11_was_52 : decode cX11_was 52 = .ok (.aload_n 0, 1) := by decide +kernel
theorem dX11_was_53 : decode cX11_was 53 = .ok (.getfield 44, 3) := by decide +kernel
theorem dX11_was_56 : decode cX11_was 56 = .ok (.iload_n 1, 1) := by decide +kernel
theorem dX11_was_57 : decode cX11_was 57 = .ok (.invokevirtual 169, 3) := by decide +kernel
theorem dX11_was_60 : decode cX11_was 60 = .ok (.aload_n 0, 1) := by decide +kernel
theorem dX11_was_61 : decode cX11_was 61 = .ok (.getfield 26, 3) := by decide +kernel
theorem dX11_was_64 : decode cX11_was 64 = .ok (.getfield 173, 3) := by decide +kernel
theorem dX11_was_67 : decode cX11_was 67 = .ok (.iload_n 2, 1) := by decide +kernel
theorem dX11_was_68 : decode cX11_was 68 = .ok (.invokevirtual 174, 3) := by decide +kernel
theorem dX11_was_71 : decode cX11_was 71 = .ok (.ifCond .ne 9, 3) := by decide +kernel
theorem dX11_was_74 : decode cX11_was 74 = .ok (.aload_n 0, 1) := by decide +kernel
theorem dX11_was_75 : decode cX11_was 75 = .ok (.iconst 1, 1) := by decide +kernel
theorem dX11_was_76 : decode cX11_was 76 = .ok (.invokevirtual 154, 3) := by decide +kernel
theorem dX11_was_79 : decode cX11_was 79 = .ok (.lreturn, 1) := by decide +kernel
theorem dX11_was_80 : decode cX11_was 80 = .ok (.aload_n 0, 1) := by decide +kernel
theorem dX11_was_81 : decode cX11_was 81 = .ok (.aload_n 0, 1) := by decide +kernel
theorem dX11_was_82 : decode cX11_was 82 = .ok (.getfield 26, 3) := by decide +kernel
theorem dX11_was_85 : decode cX11_was 85 = .ok (.getfield 173, 3) := by decide +kernel
theorem dX11_was_88 : decode cX11_was 88 = .ok (.iload_n 2, 1) := by decide +kernel
theorem dX11_was_89 : decode cX11_was 89 = .ok (.iload_n 3, 1) := by decide +kernel
theorem dX11_was_90 : decode cX11_was 90 = .ok (.invokevirtual 158, 3) := by decide +kernel
theorem dX11_was_93 : decode cX11_was 93 = .ok (.invokevirtual 162, 3) := by decide +kernel
theorem dX11_was_96 : decode cX11_was 96 = .ok (.lreturn, 1) := by decide +kernel
theorem dX11_keySize_0 : decode cX11_keySize 0 = .ok (.aload_n 0, 1) := by decide +kernel
theorem dX11_keySize_1 : decode cX11_keySize 1 = .ok (.iload_n 1, 1) := by decide +kernel
theorem dX11_keySize_2 : decode cX11_keySize 2 = .ok (.invokevirtual 151, 3) := by decide +kernel
theorem dX11_keySize_5 : decode cX11_keySize 5 = .ok (.ifCond .ne 9, 3) := by decide +kernel
theorem dX11_keySize_8 : decode cX11_keySize 8 = .ok (.aload_n 0, 1) := by decide +kernel
theorem dX11_keySize_9 : decode cX11_keySize 9 = .ok (.iconst 1, 1) := by decide +kernel
theorem dX11_keySize_10 : decode cX11_keySize 10 = .ok (.invokevirtual 68, 3) := by decide +kernel
theorem dX11_keySize_13 : decode cX11_keySize 13 = .ok (.ireturn, 1) := by decide +kernel
theorem dX11_keySize_14 : decode cX11_keySize 14 = .ok (.aload_n 0, 1) := by decide +kernel
theorem dX11_keySize_15 : decode cX11_keySize 15 = .ok (.aload_n 0, 1) := by decide +kernel
theorem dX11_keySize_16 : decode cX11_keySize 16 = .ok (.iload_n 1, 1) := by decide +kernel
theorem dX11_keySize_17 : decode cX11_keySize 17 = .ok (.invokevirtual 177, 3) := by decide +kernel
theorem dX11_keySize_20 : decode cX11_keySize 20 = .ok (.getfield 58, 3) := by decide +kernel
theorem dX11_keySize_23 : decode cX11_keySize 23 = .ok (.invokevirtual 103, 3) := by decide +kernel
theorem dX11_keySize_26 : decode cX11_keySize 26 = .ok (.ireturn, 1) := by decide +kernel
theorem dX11_keyByte_0 : decode cX11_keyByte 0 = .ok (.aload_n 0, 1) := by decide +kernel
theorem dX11_keyByte_1 : decode cX11_keyByte 1 = .ok (.iload_n 1, 1) := by decide +kernel
theorem dX11_keyByte_2 : decode cX11_keyByte 2 = .ok (.invokevirtual 151, 3) := by decide +kernel
theorem dX11_keyByte_5 : decode cX11_keyByte 5 = .ok (.ifCond .ne 9, 3) := by decide +kernel
theorem dX11_keyByte_8 : decode cX11_keyByte 8 = .ok (.aload_n 0, 1) := by decide +kernel
theorem dX11_keyByte_9 : decode cX11_keyByte 9 = .ok (.iconst 1, 1) := by decide +kernel
theorem dX11_keyByte_10 : decode cX11_keyByte 10 = .ok (.invokevirtual 68, 3) := by decide +kernel
theorem dX11_keyByte_13 : decode cX11_keyByte 13 = .ok (.ireturn, 1) := by decide +kernel
theorem dX11_keyByte_14 : decode cX11_keyByte 14 = .ok (.aload_n 0, 1) := by decide +kernel
theorem dX11_keyByte_15 : decode cX11_keyByte 15 = .ok (.aload_n 0, 1) := by decide +kernel
theorem dX11_keyByte_16 : decode cX11_keyByte 16 = .ok (.iload_n 1, 1) := by decide +kernel
theorem dX11_keyByte_17 : decode cX11_keyByte 17 = .ok (.invokevirtual 177, 3) := by decide +kernel
theorem dX11_keyByte_20 : decode cX11_keyByte 20 = .ok (.iload_n 2, 1) := by decide +kernel
theorem dX11_keyByte_21 : decode cX11_keyByte 21 = .ok (.invokevirtual 181, 3) := by decide +kernel
theorem dX11_keyByte_24 : decode cX11_keyByte 24 = .ok (.invokevirtual 184, 3) := by decide +kernel
theorem dX11_keyByte_27 : decode cX11_keyByte 27 = .ok (.ireturn, 1) := by decide +kernel
theorem dX11_rank_0 : decode cX11_rank 0 = .ok (.aload_n 0, 1) := by decide +kernel
theorem dX11_rank_1 : decode cX11_rank 1 = .ok (.iload_n 1, 1) := by decide +kernel
theorem dX11_rank_2 : decode cX11_rank 2 = .ok (.invokevirtual 151, 3) := by decide +kernel
theorem dX11_rank_5 : decode cX11_rank 5 = .ok (.ifCond .ne 9, 3) := by decide +kernel
theorem dX11_rank_8 : decode cX11_rank 8 = .ok (.aload_n 0, 1) := by decide +kernel
theorem dX11_rank_9 : decode cX11_rank 9 = .ok (.iconst 1, 1) := by decide +kernel
theorem dX11_rank_10 : decode cX11_rank 10 = .ok (.invokevirtual 68, 3) := by decide +kernel
theorem dX11_rank_13 : decode cX11_rank 13 = .ok (.ireturn, 1) := by decide +kernel
theorem dX11_rank_14 : decode cX11_rank 14 = .ok (.aload_n 0, 1) := by decide +kernel
theorem dX11_rank_15 : decode cX11_rank 15 = .ok (.aload_n 0, 1) := by decide +kernel
theorem dX11_rank_16 : decode cX11_rank 16 = .ok (.iload_n 1, 1) := by decide +kernel
theorem dX11_rank_17 : decode cX11_rank 17 = .ok (.invokevirtual 187, 3) := by decide +kernel
theorem dX11_rank_20 : decode cX11_rank 20 = .ok (.invokevirtual 103, 3) := by decide +kernel
theorem dX11_rank_23 : decode cX11_rank 23 = .ok (.ireturn, 1) := by decide +kernel
theorem dX11_ranked_0 : decode cX11_ranked 0 = .ok (.aload_n 0, 1) := by decide +kernel
theorem dX11_ranked_1 : decode cX11_ranked 1 = .ok (.getfield 44, 3) := by decide +kernel
theorem dX11_ranked_4 : decode cX11_ranked 4 = .ok (.ifnull 21, 3) := by decide +kernel
theorem dX11_ranked_7 : decode cX11_ranked 7 = .ok (.iload_n 1, 1) := by decide +kernel
theorem dX11_ranked_8 : decode cX11_ranked 8 = .ok (.ifCond .lt 17, 3) := by decide +kernel
theorem dX11_ranked_11 : decode cX11_ranked 11 = .ok (.iload_n 1, 1) := by decide +kernel
theorem dX11_ranked_12 : decode cX11_ranked 12 = .ok (.aload_n 0, 1) := by decide +kernel
theorem dX11_ranked_13 : decode cX11_ranked 13 = .ok (.getfield 44, 3) := by decide +kernel
theorem dX11_ranked_16 : decode cX11_ranked 16 = .ok (.getfield 96, 3) := by decide +kernel
theorem dX11_ranked_19 : decode cX11_ranked 19 = .ok (.getfield 100, 3) := by decide +kernel
theorem dX11_ranked_22 : decode cX11_ranked 22 = .ok (.if_icmp .lt 9, 3) := by decide +kernel
theorem dX11_ranked_25 : decode cX11_ranked 25 = .ok (.aload_n 0, 1) := by decide +kernel
theorem dX11_ranked_26 : decode cX11_ranked 26 = .ok (.iconst 1, 1) := by decide +kernel
theorem dX11_ranked_27 : decode cX11_ranked 27 = .ok (.invokevirtual 68, 3) := by decide +kernel
theorem dX11_ranked_30 : decode cX11_ranked 30 = .ok (.ireturn, 1) := by decide +kernel
theorem dX11_ranked_31 : decode cX11_ranked 31 = .ok (.aload_n 0, 1) := by decide +kernel
theorem dX11_ranked_32 : decode cX11_ranked 32 = .ok (.getfield 26, 3) := by decide +kernel
theorem dX11_ranked_35 : decode cX11_ranked 35 = .ok (.aload_n 0, 1) := by decide +kernel
theorem dX11_ranked_36 : decode cX11_ranked 36 = .ok (.getfield 44, 3) := by decide +kernel
theorem dX11_ranked_39 : decode cX11_ranked 39 = .ok (.aload_n 0, 1) := by decide +kernel
theorem dX11_ranked_40 : decode cX11_ranked 40 = .ok (.getfield 44, 3) := by decide +kernel
theorem dX11_ranked_43 : decode cX11_ranked 43 = .ok (.getfield 119, 3) := by decide +kernel
theorem dX11_ranked_46 : decode cX11_ranked 46 = .ok (.getfield 123, 3) := by decide +kernel
theorem dX11_ranked_49 : decode cX11_ranked 49 = .ok (.invokevirtual 169, 3) := by decide +kernel
theorem dX11_ranked_52 : decode cX11_ranked 52 = .ok (.aload_n 0, 1) := by decide +kernel
theorem dX11_ranked_53 : decode cX11_ranked 53 = .ok (.aload_n 0, 1) := by decide +kernel
theorem dX11_ranked_54 : decode cX11_ranked 54 = .ok (.getfield 26, 3) := by decide +kernel
theorem dX11_ranked_57 : decode cX11_ranked 57 = .ok (.getfield 190, 3) := by decide +kernel
theorem dX11_ranked_60 : decode cX11_ranked 60 = .ok (.iload_n 1, 1) := by decide +kernel
theorem dX11_ranked_61 : decode cX11_ranked 61 = .ok (.iaload, 1) := by decide +kernel
theorem dX11_ranked_62 : decode cX11_ranked 62 = .ok (.invokevirtual 103, 3) := by decide +kernel
theorem dX11_ranked_65 : decode cX11_ranked 65 = .ok (.ireturn, 1) := by decide +kernel
theorem dX11_differ_0 : decode cX11_differ 0 = .ok (.aload_n 0, 1) := by decide +kernel
theorem dX11_differ_1 : decode cX11_differ 1 = .ok (.iload_n 1, 1) := by decide +kernel
theorem dX11_differ_2 : decode cX11_differ 2 = .ok (.invokevirtual 151, 3) := by decide +kernel
theorem dX11_differ_5 : decode cX11_differ 5 = .ok (.ifCond .eq 16, 3) := by decide +kernel
theorem dX11_differ_8 : decode cX11_differ 8 = .ok (.aload_n 0, 1) := by decide +kernel
theorem dX11_differ_9 : decode cX11_differ 9 = .ok (.iload_n 2, 1) := by decide +kernel
theorem dX11_differ_10 : decode cX11_differ 10 = .ok (.invokevirtual 151, 3) := by decide +kernel
theorem dX11_differ_13 : decode cX11_differ 13 = .ok (.ifCond .eq 8, 3) := by decide +kernel
theorem dX11_differ_16 : decode cX11_differ 16 = .ok (.iload_n 1, 1) := by decide +kernel
theorem dX11_differ_17 : decode cX11_differ 17 = .ok (.iload_n 2, 1) := by decide +kernel
theorem dX11_differ_18 : decode cX11_differ 18 = .ok (.if_icmp .ne 9, 3) := by decide +kernel
theorem dX11_differ_21 : decode cX11_differ 21 = .ok (.aload_n 0, 1) := by decide +kernel
theorem dX11_differ_22 : decode cX11_differ 22 = .ok (.iconst 1, 1) := by decide +kernel
theorem dX11_differ_23 : decode cX11_differ 23 = .ok (.invokevirtual 68, 3) := by decide +kernel
theorem dX11_differ_26 : decode cX11_differ 26 = .ok (.ireturn, 1) := by decide +kernel
theorem dX11_differ_27 : decode cX11_differ 27 = .ok (.iconst 0, 1) := by decide +kernel
theorem dX11_differ_28 : decode cX11_differ 28 = .ok (.istore_n 3, 1) := by decide +kernel
theorem dX11_differ_29 : decode cX11_differ 29 = .ok (.iload_n 3, 1) := by decide +kernel
theorem dX11_differ_30 : decode cX11_differ 30 = .ok (.aload_n 0, 1) := by decide +kernel
theorem dX11_differ_31 : decode cX11_differ 31 = .ok (.getfield 44, 3) := by decide +kernel
theorem dX11_differ_34 : decode cX11_differ 34 = .ok (.getfield 109, 3) := by decide +kernel
theorem dX11_differ_37 : decode cX11_differ 37 = .ok (.getfield 113, 3) := by decide +kernel
theorem dX11_differ_40 : decode cX11_differ 40 = .ok (.if_icmp .ge 59, 3) := by decide +kernel
theorem dX11_differ_43 : decode cX11_differ 43 = .ok (.aload_n 0, 1) := by decide +kernel
theorem dX11_differ_44 : decode cX11_differ 44 = .ok (.getfield 44, 3) := by decide +kernel
theorem dX11_differ_47 : decode cX11_differ 47 = .ok (.getfield 109, 3) := by decide +kernel
theorem dX11_differ_50 : decode cX11_differ 50 = .ok (.getfield 142, 3) := by decide +kernel
theorem dX11_differ_53 : decode cX11_differ 53 = .ok (.iload_n 3, 1) := by decide +kernel
theorem dX11_differ_54 : decode cX11_differ 54 = .ok (.iaload, 1) := by decide +kernel
theorem dX11_differ_55 : decode cX11_differ 55 = .ok (.istore 4, 2) := by decide +kernel
theorem dX11_differ_57 : decode cX11_differ 57 = .ok (.aload_n 0, 1) := by decide +kernel
theorem dX11_differ_58 : decode cX11_differ 58 = .ok (.getfield 44, 3) := by decide +kernel
theorem dX11_differ_61 : decode cX11_differ 61 = .ok (.getfield 96, 3) := by decide +kernel
theorem dX11_differ_64 : decode cX11_differ 64 = .ok (.iload_n 1, 1) := by decide +kernel
theorem dX11_differ_65 : decode cX11_differ 65 = .ok (.iload 4, 2) := by decide +kernel
theorem dX11_differ_67 : decode cX11_differ 67 = .ok (.invokevirtual 158, 3) := by decide +kernel
theorem dX11_differ_70 : decode cX11_differ 70 = .ok (.aload_n 0, 1) := by decide +kernel
theorem dX11_differ_71 : decode cX11_differ 71 = .ok (.getfield 44, 3) := by decide +kernel
theorem dX11_differ_74 : decode cX11_differ 74 = .ok (.getfield 96, 3) := by decide +kernel
theorem dX11_differ_77 : decode cX11_differ 77 = .ok (.iload_n 2, 1) := by decide +kernel
theorem dX11_differ_78 : decode cX11_differ 78 = .ok (.iload 4, 2) := by decide +kernel
theorem dX11_differ_80 : decode cX11_differ 80 = .ok (.invokevirtual 158, 3) := by decide +kernel
theorem dX11_differ_83 : decode cX11_differ 83 = .ok (.lcmp, 1) := by decide +kernel
theorem dX11_differ_84 : decode cX11_differ 84 = .ok (.ifCond .eq 9, 3) := by decide +kernel
theorem dX11_differ_87 : decode cX11_differ 87 = .ok (.aload_n 0, 1) := by decide +kernel
theorem dX11_differ_88 : decode cX11_differ 88 = .ok (.iload_n 3, 1) := by decide +kernel
theorem dX11_differ_89 : decode cX11_differ 89 = .ok (.invokevirtual 103, 3) := by decide +kernel
theorem dX11_differ_92 : decode cX11_differ 92 = .ok (.ireturn, 1) := by decide +kernel
theorem dX11_differ_93 : decode cX11_differ 93 = .ok (.iinc 3 1, 3) := by decide +kernel
theorem dX11_differ_96 : decode cX11_differ 96 = .ok (.goto (-67), 3) := by decide +kernel
theorem dX11_differ_99 : decode cX11_differ 99 = .ok (.aload_n 0, 1) := by decide +kernel
theorem dX11_differ_100 : decode cX11_differ 100 = .ok (.bipush (-2), 2) := by decide +kernel
theorem dX11_differ_102 : decode cX11_differ 102 = .ok (.invokevirtual 103, 3) := by decide +kernel
theorem dX11_differ_105 : decode cX11_differ 105 = .ok (.ireturn, 1) := by decide +kernel
theorem dX11_page_0 : decode cX11_page 0 = .ok (.aload_n 0, 1) := by decide +kernel
theorem dX11_page_1 : decode cX11_page 1 = .ok (.getfield 44, 3) := by decide +kernel
theorem dX11_page_4 : decode cX11_page 4 = .ok (.ifnonnull 9, 3) := by decide +kernel
theorem dX11_page_7 : decode cX11_page 7 = .ok (.aload_n 0, 1) := by decide +kernel
theorem dX11_page_8 : decode cX11_page 8 = .ok (.iconst 1, 1) := by decide +kernel
theorem dX11_page_9 : decode cX11_page 9 = .ok (.invokevirtual 68, 3) := by decide +kernel
theorem dX11_page_12 : decode cX11_page 12 = .ok (.ireturn, 1) := by decide +kernel
theorem dX11_page_13 : decode cX11_page 13 = .ok (.iload_n 1, 1) := by decide +kernel
theorem dX11_page_14 : decode cX11_page 14 = .ok (.invokestatic 193, 3) := by decide +kernel
theorem dX11_page_17 : decode cX11_page 17 = .ok (.ifCond .ne 9, 3) := by decide +kernel
theorem dX11_page_20 : decode cX11_page 20 = .ok (.aload_n 0, 1) := by decide +kernel
theorem dX11_page_21 : decode cX11_page 21 = .ok (.iconst 2, 1) := by decide +kernel
theorem dX11_page_22 : decode cX11_page 22 = .ok (.invokevirtual 68, 3) := by decide +kernel
theorem dX11_page_25 : decode cX11_page 25 = .ok (.ireturn, 1) := by decide +kernel
theorem dX11_page_26 : decode cX11_page 26 = .ok (.aload_n 0, 1) := by decide +kernel
theorem dX11_page_27 : decode cX11_page 27 = .ok (.getfield 26, 3) := by decide +kernel
theorem dX11_page_30 : decode cX11_page 30 = .ok (.aload_n 0, 1) := by decide +kernel
theorem dX11_page_31 : decode cX11_page 31 = .ok (.getfield 44, 3) := by decide +kernel
theorem dX11_page_34 : decode cX11_page 34 = .ok (.aload_n 0, 1) := by decide +kernel
theorem dX11_page_35 : decode cX11_page 35 = .ok (.getfield 44, 3) := by decide +kernel
theorem dX11_page_38 : decode cX11_page 38 = .ok (.getfield 119, 3) := by decide +kernel
theorem dX11_page_41 : decode cX11_page 41 = .ok (.getfield 123, 3) := by decide +kernel
theorem dX11_page_44 : decode cX11_page 44 = .ok (.invokevirtual 169, 3) := by decide +kernel
theorem dX11_page_47 : decode cX11_page 47 = .ok (.aload_n 0, 1) := by decide +kernel
theorem dX11_page_48 : decode cX11_page 48 = .ok (.getfield 26, 3) := by decide +kernel
theorem dX11_page_51 : decode cX11_page 51 = .ok (.iconst 0, 1) := by decide +kernel
theorem dX11_page_52 : decode cX11_page 52 = .ok (.iload_n 1, 1) := by decide +kernel
theorem dX11_page_53 : decode cX11_page 53 = .ok (.invokevirtual 196, 3) := by decide +kernel
theorem dX11_page_56 : decode cX11_page 56 = .ok (.aload_n 0, 1) := by decide +kernel
theorem dX11_page_57 : decode cX11_page 57 = .ok (.getfield 33, 3) := by decide +kernel
theorem dX11_page_60 : decode cX11_page 60 = .ok (.aload_n 0, 1) := by decide +kernel
theorem dX11_page_61 : decode cX11_page 61 = .ok (.getfield 26, 3) := by decide +kernel
theorem dX11_page_64 : decode cX11_page 64 = .ok (.iload_n 1, 1) := by decide +kernel
theorem dX11_page_65 : decode cX11_page 65 = .ok (.iload_n 2, 1) := by decide +kernel
theorem dX11_page_66 : decode cX11_page 66 = .ok (.ifCond .eq 18, 3) := by decide +kernel
theorem dX11_page_69 : decode cX11_page 69 = .ok (.aload_n 0, 1) := by decide +kernel
theorem dX11_page_70 : decode cX11_page 70 = .ok (.getfield 44, 3) := by decide +kernel
theorem dX11_page_73 : decode cX11_page 73 = .ok (.getfield 119, 3) := by decide +kernel
theorem dX11_page_76 : decode cX11_page 76 = .ok (.getfield 123, 3) := by decide +kernel
theorem dX11_page_79 : decode cX11_page 79 = .ok (.iconst 1, 1) := by decide +kernel
theorem dX11_page_80 : decode cX11_page 80 = .ok (.iadd, 1) := by decide +kernel
theorem dX11_page_81 : decode cX11_page 81 = .ok (.goto 4, 3) := by decide +kernel
theorem dX11_page_84 : decode cX11_page 84 = .ok (.iconst 0, 1) := by decide +kernel
theorem dX11_page_85 : decode cX11_page 85 = .ok (.invokevirtual 200, 3) := by decide +kernel
theorem dX11_page_88 : decode cX11_page 88 = .ok (.aload_n 0, 1) := by decide +kernel
theorem dX11_page_89 : decode cX11_page 89 = .ok (.aload_n 0, 1) := by decide +kernel
theorem dX11_page_90 : decode cX11_page 90 = .ok (.getfield 33, 3) := by decide +kernel
theorem dX11_page_93 : decode cX11_page 93 = .ok (.getfield 204, 3) := by decide +kernel
theorem dX11_page_96 : decode cX11_page 96 = .ok (.invokevirtual 103, 3) := by decide +kernel
theorem dX11_page_99 : decode cX11_page 99 = .ok (.ireturn, 1) := by decide +kernel
theorem dX11_next_0 : decode cX11_next 0 = .ok (.aload_n 0, 1) := by decide +kernel
theorem dX11_next_1 : decode cX11_next 1 = .ok (.iload_n 1, 1) := by decide +kernel
theorem dX11_next_2 : decode cX11_next 2 = .ok (.iconst 1, 1) := by decide +kernel
theorem dX11_next_3 : decode cX11_next 3 = .ok (.invokevirtual 205, 3) := by decide +kernel
theorem dX11_next_6 : decode cX11_next 6 = .ok (.ireturn, 1) := by decide +kernel
theorem dX11_previous_0 : decode cX11_previous 0 = .ok (.aload_n 0, 1) := by decide +kernel
theorem dX11_previous_1 : decode cX11_previous 1 = .ok (.iload_n 1, 1) := by decide +kernel
theorem dX11_previous_2 : decode cX11_previous 2 = .ok (.iconst 0, 1) := by decide +kernel
theorem dX11_previous_3 : decode cX11_previous 3 = .ok (.invokevirtual 205, 3) := by decide +kernel
theorem dX11_previous_6 : decode cX11_previous 6 = .ok (.ireturn, 1) := by decide +kernel
theorem dX11_seek_0 : decode cX11_seek 0 = .ok (.aload_n 0, 1) := by decide +kernel
theorem dX11_seek_1 : decode cX11_seek 1 = .ok (.getfield 44, 3) := by decide +kernel
theorem dX11_seek_4 : decode cX11_seek 4 = .ok (.ifnonnull 9, 3) := by decide +kernel
theorem dX11_seek_7 : decode cX11_seek 7 = .ok (.aload_n 0, 1) := by decide +kernel
theorem dX11_seek_8 : decode cX11_seek 8 = .ok (.iconst 1, 1) := by decide +kernel
theorem dX11_seek_9 : decode cX11_seek 9 = .ok (.invokevirtual 68, 3) := by decide +kernel
theorem dX11_seek_12 : decode cX11_seek 12 = .ok (.ireturn, 1) := by decide +kernel
theorem dX11_seek_13 : decode cX11_seek 13 = .ok (.iload_n 1, 1) := by decide +kernel
theorem dX11_seek_14 : decode cX11_seek 14 = .ok (.invokestatic 193, 3) := by decide +kernel
theorem dX11_seek_17 : decode cX11_seek 17 = .ok (.ifCond .eq 26, 3) := by decide +kernel
theorem dX11_seek_20 : decode cX11_seek 20 = .ok (.aload_n 0, 1) := by decide +kernel
theorem dX11_seek_21 : decode cX11_seek 21 = .ok (.getfield 44, 3) := by decide +kernel
theorem dX11_seek_24 : decode cX11_seek 24 = .ok (.aload_n 0, 1) := by decide +kernel
theorem dX11_seek_25 : decode cX11_seek 25 = .ok (.getfield 44, 3) := by decide +kernel
theorem dX11_seek_28 : decode cX11_seek 28 = .ok (.getfield 109, 3) := by decide +kernel
theorem dX11_seek_31 : decode cX11_seek 31 = .ok (.getfield 142, 3) := by decide +kernel
theorem dX11_seek_34 : decode cX11_seek 34 = .ok (.iconst 0, 1) := by decide +kernel
theorem dX11_seek_35 : decode cX11_seek 35 = .ok (.iaload, 1) := by decide +kernel
theorem dX11_seek_36 : decode cX11_seek 36 = .ok (.lload_n 2, 1) := by decide +kernel
theorem dX11_seek_37 : decode cX11_seek 37 = .ok (.invokevirtual 209, 3) := by decide +kernel
theorem dX11_seek_40 : decode cX11_seek 40 = .ok (.ifCond .ne 9, 3) := by decide +kernel
theorem dX11_seek_43 : decode cX11_seek 43 = .ok (.aload_n 0, 1) := by decide +kernel
theorem dX11_seek_44 : decode cX11_seek 44 = .ok (.iconst 2, 1) := by decide +kernel
theorem dX11_seek_45 : decode cX11_seek 45 = .ok (.invokevirtual 68, 3) := by decide +kernel
theorem dX11_seek_48 : decode cX11_seek 48 = .ok (.ireturn, 1) := by decide +kernel
theorem dX11_seek_49 : decode cX11_seek 49 = .ok (.aload_n 0, 1) := by decide +kernel
theorem dX11_seek_50 : decode cX11_seek 50 = .ok (.getfield 20, 3) := by decide +kernel
theorem dX11_seek_53 : decode cX11_seek 53 = .ok (.invokevirtual 84, 3) := by decide +kernel
theorem dX11_seek_56 : decode cX11_seek 56 = .ok (.aload_n 0, 1) := by decide +kernel
theorem dX11_seek_57 : decode cX11_seek 57 = .ok (.getfield 44, 3) := by decide +kernel
theorem dX11_seek_60 : decode cX11_seek 60 = .ok (.getfield 109, 3) := by decide +kernel
theorem dX11_seek_63 : decode cX11_seek 63 = .ok (.iconst 0, 1) := by decide +kernel
theorem dX11_seek_64 : decode cX11_seek 64 = .ok (.lload_n 2, 1) := by decide +kernel
theorem dX11_seek_65 : decode cX11_seek 65 = .ok (.aload_n 0, 1) := by decide +kernel
theorem dX11_seek_66 : decode cX11_seek 66 = .ok (.getfield 20, 3) := by decide +kernel
theorem dX11_seek_69 : decode cX11_seek 69 = .ok (.invokevirtual 213, 3) := by decide +kernel
theorem dX11_seek_72 : decode cX11_seek 72 = .ok (.aload_n 0, 1) := by decide +kernel
theorem dX11_seek_73 : decode cX11_seek 73 = .ok (.getfield 26, 3) := by decide +kernel
theorem dX11_seek_76 : decode cX11_seek 76 = .ok (.aload_n 0, 1) := by decide +kernel
theorem dX11_seek_77 : decode cX11_seek 77 = .ok (.getfield 44, 3) := by decide +kernel
theorem dX11_seek_80 : decode cX11_seek 80 = .ok (.aload_n 0, 1) := by decide +kernel
theorem dX11_seek_81 : decode cX11_seek 81 = .ok (.getfield 44, 3) := by decide +kernel
theorem dX11_seek_84 : decode cX11_seek 84 = .ok (.getfield 119, 3) := by decide +kernel
theorem dX11_seek_87 : decode cX11_seek 87 = .ok (.getfield 123, 3) := by decide +kernel
theorem dX11_seek_90 : decode cX11_seek 90 = .ok (.invokevirtual 169, 3) := by decide +kernel
theorem dX11_seek_93 : decode cX11_seek 93 = .ok (.aload_n 0, 1) := by decide +kernel
theorem dX11_seek_94 : decode cX11_seek 94 = .ok (.getfield 26, 3) := by decide +kernel
theorem dX11_seek_97 : decode cX11_seek 97 = .ok (.aload_n 0, 1) := by decide +kernel
theorem dX11_seek_98 : decode cX11_seek 98 = .ok (.getfield 26, 3) := by decide +kernel
theorem dX11_seek_101 : decode cX11_seek 101 = .ok (.aload_n 0, 1) := by decide +kernel
theorem dX11_seek_102 : decode cX11_seek 102 = .ok (.getfield 20, 3) := by decide +kernel
theorem dX11_seek_105 : decode cX11_seek 105 = .ok (.invokevirtual 217, 3) := by decide +kernel
theorem dX11_seek_108 : decode cX11_seek 108 = .ok (.iload_n 1, 1) := by decide +kernel
theorem dX11_seek_109 : decode cX11_seek 109 = .ok (.invokevirtual 196, 3) := by decide +kernel
theorem dX11_seek_112 : decode cX11_seek 112 = .ok (.aload_n 0, 1) := by decide +kernel
theorem dX11_seek_113 : decode cX11_seek 113 = .ok (.getfield 33, 3) := by decide +kernel
theorem dX11_seek_116 : decode cX11_seek 116 = .ok (.aload_n 0, 1) := by decide +kernel
theorem dX11_seek_117 : decode cX11_seek 117 = .ok (.getfield 26, 3) := by decide +kernel
theorem dX11_seek_120 : decode cX11_seek 120 = .ok (.iload_n 1, 1) := by decide +kernel
theorem dX11_seek_121 : decode cX11_seek 121 = .ok (.iconst 0, 1) := by decide +kernel
theorem dX11_seek_122 : decode cX11_seek 122 = .ok (.invokevirtual 200, 3) := by decide +kernel
theorem dX11_seek_125 : decode cX11_seek 125 = .ok (.aload_n 0, 1) := by decide +kernel
theorem dX11_seek_126 : decode cX11_seek 126 = .ok (.aload_n 0, 1) := by decide +kernel
theorem dX11_seek_127 : decode cX11_seek 127 = .ok (.getfield 33, 3) := by decide +kernel
theorem dX11_seek_130 : decode cX11_seek 130 = .ok (.getfield 204, 3) := by decide +kernel
theorem dX11_seek_133 : decode cX11_seek 133 = .ok (.invokevirtual 103, 3) := by decide +kernel
theorem dX11_seek_136 : decode cX11_seek 136 = .ok (.ireturn, 1) := by decide +kernel
theorem dX11_at_0 : decode cX11_at 0 = .ok (.aload_n 0, 1) := by decide +kernel
theorem dX11_at_1 : decode cX11_at 1 = .ok (.getfield 33, 3) := by decide +kernel
theorem dX11_at_4 : decode cX11_at 4 = .ok (.iload_n 1, 1) := by decide +kernel
theorem dX11_at_5 : decode cX11_at 5 = .ok (.invokevirtual 221, 3) := by decide +kernel
theorem dX11_at_8 : decode cX11_at 8 = .ok (.ifCond .ne 9, 3) := by decide +kernel
theorem dX11_at_11 : decode cX11_at 11 = .ok (.aload_n 0, 1) := by decide +kernel
theorem dX11_at_12 : decode cX11_at 12 = .ok (.iconst 1, 1) := by decide +kernel
theorem dX11_at_13 : decode cX11_at 13 = .ok (.invokevirtual 68, 3) := by decide +kernel
theorem dX11_at_16 : decode cX11_at 16 = .ok (.ireturn, 1) := by decide +kernel
theorem dX11_at_17 : decode cX11_at 17 = .ok (.aload_n 0, 1) := by decide +kernel
theorem dX11_at_18 : decode cX11_at 18 = .ok (.aload_n 0, 1) := by decide +kernel
theorem dX11_at_19 : decode cX11_at 19 = .ok (.getfield 33, 3) := by decide +kernel
theorem dX11_at_22 : decode cX11_at 22 = .ok (.getfield 222, 3) := by decide +kernel
theorem dX11_at_25 : decode cX11_at 25 = .ok (.iload_n 1, 1) := by decide +kernel
theorem dX11_at_26 : decode cX11_at 26 = .ok (.iaload, 1) := by decide +kernel
theorem dX11_at_27 : decode cX11_at 27 = .ok (.invokevirtual 103, 3) := by decide +kernel
theorem dX11_at_30 : decode cX11_at 30 = .ok (.ireturn, 1) := by decide +kernel
theorem dX11_cell_0 : decode cX11_cell 0 = .ok (.aload_n 0, 1) := by decide +kernel
theorem dX11_cell_1 : decode cX11_cell 1 = .ok (.getfield 33, 3) := by decide +kernel
theorem dX11_cell_4 : decode cX11_cell 4 = .ok (.iload_n 1, 1) := by decide +kernel
theorem dX11_cell_5 : decode cX11_cell 5 = .ok (.invokevirtual 221, 3) := by decide +kernel
theorem dX11_cell_8 : decode cX11_cell 8 = .ok (.ifCond .eq 11, 3) := by decide +kernel
theorem dX11_cell_11 : decode cX11_cell 11 = .ok (.aload_n 0, 1) := by decide +kernel
theorem dX11_cell_12 : decode cX11_cell 12 = .ok (.iload_n 2, 1) := by decide +kernel
theorem dX11_cell_13 : decode cX11_cell 13 = .ok (.invokevirtual 135, 3) := by decide +kernel
theorem dX11_cell_16 : decode cX11_cell 16 = .ok (.ifCond .ne 9, 3) := by decide +kernel
theorem dX11_cell_19 : decode cX11_cell 19 = .ok (.aload_n 0, 1) := by decide +kernel
theorem dX11_cell_20 : decode cX11_cell 20 = .ok (.iconst 1, 1) := by decide +kernel
theorem dX11_cell_21 : decode cX11_cell 21 = .ok (.invokevirtual 154, 3) := by decide +kernel
theorem dX11_cell_24 : decode cX11_cell 24 = .ok (.lreturn, 1) := by decide +kernel
theorem dX11_cell_25 : decode cX11_cell 25 = .ok (.aload_n 0, 1) := by decide +kernel
theorem dX11_cell_26 : decode cX11_cell 26 = .ok (.aload_n 0, 1) := by decide +kernel
theorem dX11_cell_27 : decode cX11_cell 27 = .ok (.getfield 33, 3) := by decide +kernel
theorem dX11_cell_30 : decode cX11_cell 30 = .ok (.getfield 223, 3) := by decide +kernel
theorem dX11_cell_33 : decode cX11_cell 33 = .ok (.iload_n 1, 1) := by decide +kernel
theorem dX11_cell_34 : decode cX11_cell 34 = .ok (.iconst 4, 1) := by decide +kernel
theorem dX11_cell_35 : decode cX11_cell 35 = .ok (.imul, 1) := by decide +kernel
theorem dX11_cell_36 : decode cX11_cell 36 = .ok (.iload_n 2, 1) := by decide +kernel
theorem dX11_cell_37 : decode cX11_cell 37 = .ok (.iadd, 1) := by decide +kernel
theorem dX11_cell_38 : decode cX11_cell 38 = .ok (.laload, 1) := by decide +kernel
theorem dX11_cell_39 : decode cX11_cell 39 = .ok (.invokevirtual 162, 3) := by decide +kernel
theorem dX11_cell_42 : decode cX11_cell 42 = .ok (.lreturn, 1) := by decide +kernel
theorem dX11_tokenSize_0 : decode cX11_tokenSize 0 = .ok (.aload_n 0, 1) := by decide +kernel
theorem dX11_tokenSize_1 : decode cX11_tokenSize 1 = .ok (.getfield 33, 3) := by decide +kernel
theorem dX11_tokenSize_4 : decode cX11_tokenSize 4 = .ok (.getfield 89, 3) := by decide +kernel
theorem dX11_tokenSize_7 : decode cX11_tokenSize 7 = .ok (.ifCond .eq 12, 3) := by decide +kernel
theorem dX11_tokenSize_10 : decode cX11_tokenSize 10 = .ok (.iload_n 1, 1) := by decide +kernel
theorem dX11_tokenSize_11 : decode cX11_tokenSize 11 = .ok (.ifCond .lt 8, 3) := by decide +kernel
theorem dX11_tokenSize_14 : decode cX11_tokenSize 14 = .ok (.iload_n 1, 1) := by decide +kernel
theorem dX11_tokenSize_15 : decode cX11_tokenSize 15 = .ok (.iconst 1, 1) := by decide +kernel
theorem dX11_tokenSize_16 : decode cX11_tokenSize 16 = .ok (.if_icmp .le 9, 3) := by decide +kernel
theorem dX11_tokenSize_19 : decode cX11_tokenSize 19 = .ok (.aload_n 0, 1) := by decide +kernel
theorem dX11_tokenSize_20 : decode cX11_tokenSize 20 = .ok (.iconst 1, 1) := by decide +kernel
theorem dX11_tokenSize_21 : decode cX11_tokenSize 21 = .ok (.invokevirtual 68, 3) := by decide +kernel
theorem dX11_tokenSize_24 : decode cX11_tokenSize 24 = .ok (.ireturn, 1) := by decide +kernel
theorem dX11_tokenSize_25 : decode cX11_tokenSize 25 = .ok (.aload_n 0, 1) := by decide +kernel
theorem dX11_tokenSize_26 : decode cX11_tokenSize 26 = .ok (.aload_n 0, 1) := by decide +kernel
theorem dX11_tokenSize_27 : decode cX11_tokenSize 27 = .ok (.getfield 33, 3) := by decide +kernel
theorem dX11_tokenSize_30 : decode cX11_tokenSize 30 = .ok (.iload_n 1, 1) := by decide +kernel
theorem dX11_tokenSize_31 : decode cX11_tokenSize 31 = .ok (.invokevirtual 227, 3) := by decide +kernel
theorem dX11_tokenSize_34 : decode cX11_tokenSize 34 = .ok (.getfield 58, 3) := by decide +kernel
theorem dX11_tokenSize_37 : decode cX11_tokenSize 37 = .ok (.invokevirtual 103, 3) := by decide +kernel
theorem dX11_tokenSize_40 : decode cX11_tokenSize 40 = .ok (.ireturn, 1) := by decide +kernel
theorem dX11_tokenByte_0 : decode cX11_tokenByte 0 = .ok (.aload_n 0, 1) := by decide +kernel
theorem dX11_tokenByte_1 : decode cX11_tokenByte 1 = .ok (.getfield 33, 3) := by decide +kernel
theorem dX11_tokenByte_4 : decode cX11_tokenByte 4 = .ok (.getfield 89, 3) := by decide +kernel
theorem dX11_tokenByte_7 : decode cX11_tokenByte 7 = .ok (.ifCond .eq 12, 3) := by decide +kernel
theorem dX11_tokenByte_10 : decode cX11_tokenByte 10 = .ok (.iload_n 1, 1) := by decide +kernel
theorem dX11_tokenByte_11 : decode cX11_tokenByte 11 = .ok (.ifCond .lt 8, 3) := by decide +kernel
theorem dX11_tokenByte_14 : decode cX11_tokenByte 14 = .ok (.iload_n 1, 1) := by decide +kernel
theorem dX11_tokenByte_15 : decode cX11_tokenByte 15 = .ok (.iconst 1, 1) := by decide +kernel
theorem dX11_tokenByte_16 : decode cX11_tokenByte 16 = .ok (.if_icmp .le 9, 3) := by decide +kernel
theorem dX11_tokenByte_19 : decode cX11_tokenByte 19 = .ok (.aload_n 0, 1) := by decide +kernel
theorem dX11_tokenByte_20 : decode cX11_tokenByte 20 = .ok (.iconst 1, 1) := by decide +kernel
theorem dX11_tokenByte_21 : decode cX11_tokenByte 21 = .ok (.invokevirtual 68, 3) := by decide +kernel
theorem dX11_tokenByte_24 : decode cX11_tokenByte 24 = .ok (.ireturn, 1) := by decide +kernel
theorem dX11_tokenByte_25 : decode cX11_tokenByte 25 = .ok (.aload_n 0, 1) := by decide +kernel
theorem dX11_tokenByte_26 : decode cX11_tokenByte 26 = .ok (.aload_n 0, 1) := by decide +kernel
theorem dX11_tokenByte_27 : decode cX11_tokenByte 27 = .ok (.getfield 33, 3) := by decide +kernel
theorem dX11_tokenByte_30 : decode cX11_tokenByte 30 = .ok (.iload_n 1, 1) := by decide +kernel
theorem dX11_tokenByte_31 : decode cX11_tokenByte 31 = .ok (.invokevirtual 227, 3) := by decide +kernel
theorem dX11_tokenByte_34 : decode cX11_tokenByte 34 = .ok (.iload_n 2, 1) := by decide +kernel
theorem dX11_tokenByte_35 : decode cX11_tokenByte 35 = .ok (.invokevirtual 181, 3) := by decide +kernel
theorem dX11_tokenByte_38 : decode cX11_tokenByte 38 = .ok (.invokevirtual 184, 3) := by decide +kernel
theorem dX11_tokenByte_41 : decode cX11_tokenByte 41 = .ok (.ireturn, 1) := by decide +kernel
theorem dX11_beyond_0 : decode cX11_beyond 0 = .ok (.aload_n 0, 1) := by decide +kernel
theorem dX11_beyond_1 : decode cX11_beyond 1 = .ok (.getfield 33, 3) := by decide +kernel
theorem dX11_beyond_4 : decode cX11_beyond 4 = .ok (.getfield 89, 3) := by decide +kernel
theorem dX11_beyond_7 : decode cX11_beyond 7 = .ok (.ifCond .eq 12, 3) := by decide +kernel
theorem dX11_beyond_10 : decode cX11_beyond 10 = .ok (.iload_n 1, 1) := by decide +kernel
theorem dX11_beyond_11 : decode cX11_beyond 11 = .ok (.ifCond .lt 8, 3) := by decide +kernel
theorem dX11_beyond_14 : decode cX11_beyond 14 = .ok (.iload_n 1, 1) := by decide +kernel
theorem dX11_beyond_15 : decode cX11_beyond 15 = .ok (.iconst 1, 1) := by decide +kernel
theorem dX11_beyond_16 : decode cX11_beyond 16 = .ok (.if_icmp .le 9, 3) := by decide +kernel
theorem dX11_beyond_19 : decode cX11_beyond 19 = .ok (.aload_n 0, 1) := by decide +kernel
theorem dX11_beyond_20 : decode cX11_beyond 20 = .ok (.iconst 1, 1) := by decide +kernel
theorem dX11_beyond_21 : decode cX11_beyond 21 = .ok (.invokevirtual 68, 3) := by decide +kernel
theorem dX11_beyond_24 : decode cX11_beyond 24 = .ok (.ireturn, 1) := by decide +kernel
theorem dX11_beyond_25 : decode cX11_beyond 25 = .ok (.aload_n 0, 1) := by decide +kernel
theorem dX11_beyond_26 : decode cX11_beyond 26 = .ok (.iload_n 1, 1) := by decide +kernel
theorem dX11_beyond_27 : decode cX11_beyond 27 = .ok (.ifCond .ne 13, 3) := by decide +kernel
theorem dX11_beyond_30 : decode cX11_beyond 30 = .ok (.aload_n 0, 1) := by decide +kernel
theorem dX11_beyond_31 : decode cX11_beyond 31 = .ok (.getfield 33, 3) := by decide +kernel
theorem dX11_beyond_34 : decode cX11_beyond 34 = .ok (.getfield 230, 3) := by decide +kernel
theorem dX11_beyond_37 : decode cX11_beyond 37 = .ok (.goto 10, 3) := by decide +kernel
theorem dX11_beyond_40 : decode cX11_beyond 40 = .ok (.aload_n 0, 1) := by decide +kernel
theorem dX11_beyond_41 : decode cX11_beyond 41 = .ok (.getfield 33, 3) := by decide +kernel
theorem dX11_beyond_44 : decode cX11_beyond 44 = .ok (.getfield 233, 3) := by decide +kernel
theorem dX11_beyond_47 : decode cX11_beyond 47 = .ok (.invokevirtual 103, 3) := by decide +kernel
theorem dX11_beyond_50 : decode cX11_beyond 50 = .ok (.ireturn, 1) := by decide +kernel
theorem dX11_checks_0 : decode cX11_checks 0 = .ok (.aload_n 0, 1) := by decide +kernel
theorem dX11_checks_1 : decode cX11_checks 1 = .ok (.getfield 44, 3) := by decide +kernel
theorem dX11_checks_4 : decode cX11_checks 4 = .ok (.ifnonnull 9, 3) := by decide +kernel
theorem dX11_checks_7 : decode cX11_checks 7 = .ok (.aload_n 0, 1) := by decide +kernel
theorem dX11_checks_8 : decode cX11_checks 8 = .ok (.iconst 1, 1) := by decide +kernel
theorem dX11_checks_9 : decode cX11_checks 9 = .ok (.invokevirtual 68, 3) := by decide +kernel
theorem dX11_checks_12 : decode cX11_checks 12 = .ok (.ireturn, 1) := by decide +kernel
theorem dX11_checks_13 : decode cX11_checks 13 = .ok (.aload_n 0, 1) := by decide +kernel
theorem dX11_checks_14 : decode cX11_checks 14 = .ok (.iload_n 1, 1) := by decide +kernel
theorem dX11_checks_15 : decode cX11_checks 15 = .ok (.invokevirtual 64, 3) := by decide +kernel
theorem dX11_checks_18 : decode cX11_checks 18 = .ok (.ifCond .ne 9, 3) := by decide +kernel
theorem dX11_checks_21 : decode cX11_checks 21 = .ok (.aload_n 0, 1) := by decide +kernel
theorem dX11_checks_22 : decode cX11_checks 22 = .ok (.iconst 2, 1) := by decide +kernel
theorem dX11_checks_23 : decode cX11_checks 23 = .ok (.invokevirtual 68, 3) := by decide +kernel
theorem dX11_checks_26 : decode cX11_checks 26 = .ok (.ireturn, 1) := by decide +kernel
theorem dX11_checks_27 : decode cX11_checks 27 = .ok (.aload_n 0, 1) := by decide +kernel
theorem dX11_checks_28 : decode cX11_checks 28 = .ok (.aload_n 0, 1) := by decide +kernel
theorem dX11_checks_29 : decode cX11_checks 29 = .ok (.iload_n 1, 1) := by decide +kernel
theorem dX11_checks_30 : decode cX11_checks 30 = .ok (.invokevirtual 236, 3) := by decide +kernel
theorem dX11_checks_33 : decode cX11_checks 33 = .ok (.invokevirtual 103, 3) := by decide +kernel
theorem dX11_checks_36 : decode cX11_checks 36 = .ok (.ireturn, 1) := by decide +kernel
theorem dX11_begin_0 : decode cX11_begin 0 = .ok (.aload_n 0, 1) := by decide +kernel
theorem dX11_begin_1 : decode cX11_begin 1 = .ok (.getfield 44, 3) := by decide +kernel
theorem dX11_begin_4 : decode cX11_begin 4 = .ok (.ifnull 12, 3) := by decide +kernel
theorem dX11_begin_7 : decode cX11_begin 7 = .ok (.iload_n 1, 1) := by decide +kernel
theorem dX11_begin_8 : decode cX11_begin 8 = .ok (.ifCond .lt 8, 3) := by decide +kernel
theorem dX11_begin_11 : decode cX11_begin 11 = .ok (.iload_n 1, 1) := by decide +kernel
theorem dX11_begin_12 : decode cX11_begin 12 = .ok (.iconst 4, 1) := by decide +kernel
theorem dX11_begin_13 : decode cX11_begin 13 = .ok (.if_icmp .lt 10, 3) := by decide +kernel
theorem dX11_begin_16 : decode cX11_begin 16 = .ok (.aload_n 0, 1) := by decide +kernel
theorem dX11_begin_17 : decode cX11_begin 17 = .ok (.iconst 1, 1) := by decide +kernel
theorem dX11_begin_18 : decode cX11_begin 18 = .ok (.putfield 48, 3) := by decide +kernel
theorem dX11_begin_21 : decode cX11_begin 21 = .ok (.iconst 0, 1) := by decide +kernel
theorem dX11_begin_22 : decode cX11_begin 22 = .ok (.ireturn, 1) := by decide +kernel
theorem dX11_begin_23 : decode cX11_begin 23 = .ok (.iload_n 2, 1) := by decide +kernel
theorem dX11_begin_24 : decode cX11_begin 24 = .ok (.invokestatic 193, 3) := by decide +kernel
theorem dX11_begin_27 : decode cX11_begin 27 = .ok (.ifCond .ne 10, 3) := by decide +kernel
theorem dX11_begin_30 : decode cX11_begin 30 = .ok (.aload_n 0, 1) := by decide +kernel
theorem dX11_begin_31 : decode cX11_begin 31 = .ok (.iconst 2, 1) := by decide +kernel
theorem dX11_begin_32 : decode cX11_begin 32 = .ok (.putfield 48, 3) := by decide +kernel
theorem dX11_begin_35 : decode cX11_begin 35 = .ok (.iconst 0, 1) := by decide +kernel
theorem dX11_begin_36 : decode cX11_begin 36 = .ok (.ireturn, 1) := by decide +kernel
theorem dX11_begin_37 : decode cX11_begin 37 = .ok (.aload_n 0, 1) := by decide +kernel
theorem dX11_begin_38 : decode cX11_begin 38 = .ok (.getfield 39, 3) := by decide +kernel
theorem dX11_begin_41 : decode cX11_begin 41 = .ok (.iload_n 1, 1) := by decide +kernel
theorem dX11_begin_42 : decode cX11_begin 42 = .ok (.aaload, 1) := by decide +kernel
theorem dX11_begin_43 : decode cX11_begin 43 = .ok (.iload_n 2, 1) := by decide +kernel
theorem dX11_begin_44 : decode cX11_begin 44 = .ok (.iload_n 3, 1) := by decide +kernel
theorem dX11_begin_45 : decode cX11_begin 45 = .ok (.aload_n 0, 1) := by decide +kernel
theorem dX11_begin_46 : decode cX11_begin 46 = .ok (.getfield 44, 3) := by decide +kernel
theorem dX11_begin_49 : decode cX11_begin 49 = .ok (.getfield 119, 3) := by decide +kernel
theorem dX11_begin_52 : decode cX11_begin 52 = .ok (.getfield 123, 3) := by decide +kernel
theorem dX11_begin_55 : decode cX11_begin 55 = .ok (.invokevirtual 239, 3) := by decide +kernel
theorem dX11_begin_58 : decode cX11_begin 58 = .ok (.aload_n 0, 1) := by decide +kernel
theorem dX11_begin_59 : decode cX11_begin 59 = .ok (.iconst 0, 1) := by decide +kernel
theorem dX11_begin_60 : decode cX11_begin 60 = .ok (.putfield 48, 3) := by decide +kernel
theorem dX11_begin_63 : decode cX11_begin 63 = .ok (.iconst 1, 1) := by decide +kernel
theorem dX11_begin_64 : decode cX11_begin 64 = .ok (.ireturn, 1) := by decide +kernel
theorem dX11_on_0 : decode cX11_on 0 = .ok (.aload_n 0, 1) := by decide +kernel
theorem dX11_on_1 : decode cX11_on 1 = .ok (.iload_n 1, 1) := by decide +kernel
theorem dX11_on_2 : decode cX11_on 2 = .ok (.iconst 1, 1) := by decide +kernel
theorem dX11_on_3 : decode cX11_on 3 = .ok (.invokevirtual 243, 3) := by decide +kernel
theorem dX11_on_6 : decode cX11_on 6 = .ok (.ireturn, 1) := by decide +kernel
theorem dX11_back_0 : decode cX11_back 0 = .ok (.aload_n 0, 1) := by decide +kernel
theorem dX11_back_1 : decode cX11_back 1 = .ok (.iload_n 1, 1) := by decide +kernel
theorem dX11_back_2 : decode cX11_back 2 = .ok (.iconst 0, 1) := by decide +kernel
theorem dX11_back_3 : decode cX11_back 3 = .ok (.invokevirtual 243, 3) := by decide +kernel
theorem dX11_back_6 : decode cX11_back 6 = .ok (.ireturn, 1) := by decide +kernel
theorem dX11_account_0 : decode cX11_account 0 = .ok (.aload_n 0, 1) := by decide +kernel
theorem dX11_account_1 : decode cX11_account 1 = .ok (.iload_n 1, 1) := by decide +kernel
theorem dX11_account_2 : decode cX11_account 2 = .ok (.invokevirtual 246, 3) := by decide +kernel
theorem dX11_account_5 : decode cX11_account 5 = .ok (.ifCond .eq 13, 3) := by decide +kernel
theorem dX11_account_8 : decode cX11_account 8 = .ok (.iload_n 2, 1) := by decide +kernel
theorem dX11_account_9 : decode cX11_account 9 = .ok (.ifCond .lt 9, 3) := by decide +kernel
theorem dX11_account_12 : decode cX11_account 12 = .ok (.iload_n 2, 1) := by decide +kernel
theorem dX11_account_13 : decode cX11_account 13 = .ok (.bipush 6, 2) := by decide +kernel
theorem dX11_account_15 : decode cX11_account 15 = .ok (.if_icmp .le 9, 3) := by decide +kernel
theorem dX11_account_18 : decode cX11_account 18 = .ok (.aload_n 0, 1) := by decide +kernel
theorem dX11_account_19 : decode cX11_account 19 = .ok (.iconst 1, 1) := by decide +kernel
theorem dX11_account_20 : decode cX11_account 20 = .ok (.invokevirtual 68, 3) := by decide +kernel
theorem dX11_account_23 : decode cX11_account 23 = .ok (.ireturn, 1) := by decide +kernel
theorem dX11_account_24 : decode cX11_account 24 = .ok (.aload_n 0, 1) := by decide +kernel
theorem dX11_account_25 : decode cX11_account 25 = .ok (.getfield 39, 3) := by decide +kernel
theorem dX11_account_28 : decode cX11_account 28 = .ok (.iload_n 1, 1) := by decide +kernel
theorem dX11_account_29 : decode cX11_account 29 = .ok (.aaload, 1) := by decide +kernel
theorem dX11_account_30 : decode cX11_account 30 = .ok (.astore_n 3, 1) := by decide +kernel
theorem dX11_account_31 : decode cX11_account 31 = .ok (.iload_n 2, 1) := by decide +kernel
theorem dX11_account_32 : decode cX11_account 32 = .ok (.iconst 5, 1) := by decide +kernel
theorem dX11_account_33 : decode cX11_account 33 = .ok (.if_icmp .ne 20, 3) := by decide +kernel
theorem dX11_account_36 : decode cX11_account 36 = .ok (.aload_n 0, 1) := by decide +kernel
theorem dX11_account_37 : decode cX11_account 37 = .ok (.aload_n 3, 1) := by decide +kernel
theorem dX11_account_38 : decode cX11_account 38 = .ok (.getfield 249, 3) := by decide +kernel
theorem dX11_account_41 : decode cX11_account 41 = .ok (.ifCond .eq 7, 3) := by decide +kernel
theorem dX11_account_44 : decode cX11_account 44 = .ok (.iconst 1, 1) := by decide +kernel
theorem dX11_account_45 : decode cX11_account 45 = .ok (.goto 4, 3) := by decide +kernel
theorem dX11_account_48 : decode cX11_account 48 = .ok (.iconst 0, 1) := by decide +kernel
theorem dX11_account_49 : decode cX11_account 49 = .ok (.invokevirtual 103, 3) := by decide +kernel
theorem dX11_account_52 : decode cX11_account 52 = .ok (.ireturn, 1) := by decide +kernel
theorem dX11_account_53 : decode cX11_account 53 = .ok (.iload_n 2, 1) := by decide +kernel
theorem dX11_account_54 : decode cX11_account 54 = .ok (.bipush 6, 2) := by decide +kernel
theorem dX11_account_56 : decode cX11_account 56 = .ok (.if_icmp .ne 12, 3) := by decide +kernel
theorem dX11_account_59 : decode cX11_account 59 = .ok (.aload_n 0, 1) := by decide +kernel
theorem dX11_account_60 : decode cX11_account 60 = .ok (.aload_n 3, 1) := by decide +kernel
theorem dX11_account_61 : decode cX11_account 61 = .ok (.getfield 252, 3) := by decide +kernel
theorem dX11_account_64 : decode cX11_account 64 = .ok (.invokevirtual 103, 3) := by decide +kernel
theorem dX11_account_67 : decode cX11_account 67 = .ok (.ireturn, 1) := by decide +kernel
theorem dX11_account_68 : decode cX11_account 68 = .ok (.iconst 0, 1) := by decide +kernel
theorem dX11_account_69 : decode cX11_account 69 = .ok (.istore 4, 2) := by decide +kernel
theorem dX11_account_71 : decode cX11_account 71 = .ok (.iconst 0, 1) := by decide +kernel
theorem dX11_account_72 : decode cX11_account 72 = .ok (.istore 5, 2) := by decide +kernel
theorem dX11_account_74 : decode cX11_account 74 = .ok (.iload 5, 2) := by decide +kernel
theorem dX11_account_76 : decode cX11_account 76 = .ok (.aload_n 0, 1) := by decide +kernel
theorem dX11_account_77 : decode cX11_account 77 = .ok (.getfield 44, 3) := by decide +kernel
theorem dX11_account_80 : decode cX11_account 80 = .ok (.getfield 96, 3) := by decide +kernel
theorem dX11_account_83 : decode cX11_account 83 = .ok (.getfield 116, 3) := by decide +kernel
theorem dX11_account_86 : decode cX11_account 86 = .ok (.if_icmp .ge 33, 3) := by decide +kernel
theorem dX11_account_89 : decode cX11_account 89 = .ok (.iload 5, 2) := by decide +kernel
theorem dX11_account_91 : decode cX11_account 91 = .ok (.bipush 64, 2) := by decide +kernel
theorem dX11_account_93 : decode cX11_account 93 = .ok (.if_icmp .ge 26, 3) := by decide +kernel
theorem dX11_account_96 : decode cX11_account 96 = .ok (.aload_n 3, 1) := by decide +kernel
theorem dX11_account_97 : decode cX11_account 97 = .ok (.iload_n 2, 1) := by decide +kernel
theorem dX11_account_98 : decode cX11_account 98 = .ok (.iload 5, 2) := by decide +kernel
theorem dX11_account_100 : decode cX11_account 100 = .ok (.aload_n 0, 1) := by decide +kernel
theorem dX11_account_101 : decode cX11_account 101 = .ok (.getfield 44, 3) := by decide +kernel
theorem dX11_account_104 : decode cX11_account 104 = .ok (.invokevirtual 255, 3) := by decide +kernel
theorem dX11_account_107 : decode cX11_account 107 = .ok (.ifCond .eq 6, 3) := by decide +kernel
theorem dX11_account_110 : decode cX11_account 110 = .ok (.iinc 4 1, 3) := by decide +kernel
theorem dX11_account_113 : decode cX11_account 113 = .ok (.iinc 5 1, 3) := by decide +kernel
theorem dX11_account_116 : decode cX11_account 116 = .ok (.goto (-42), 3) := by decide +kernel
theorem dX11_account_119 : decode cX11_account 119 = .ok (.aload_n 0, 1) := by decide +kernel
theorem dX11_account_120 : decode cX11_account 120 = .ok (.iload 4, 2) := by decide +kernel
theorem dX11_account_122 : decode cX11_account 122 = .ok (.invokevirtual 103, 3) := by decide +kernel
theorem dX11_account_125 : decode cX11_account 125 = .ok (.ireturn, 1) := by decide +kernel
theorem dX11_seen_0 : decode cX11_seen 0 = .ok (.aload_n 0, 1) := by decide +kernel
theorem dX11_seen_1 : decode cX11_seen 1 = .ok (.iload_n 1, 1) := by decide +kernel
theorem dX11_seen_2 : decode cX11_seen 2 = .ok (.invokevirtual 246, 3) := by decide +kernel
theorem dX11_seen_5 : decode cX11_seen 5 = .ok (.ifCond .eq 27, 3) := by decide +kernel
theorem dX11_seen_8 : decode cX11_seen 8 = .ok (.iload_n 2, 1) := by decide +kernel
theorem dX11_seen_9 : decode cX11_seen 9 = .ok (.ifCond .lt 23, 3) := by decide +kernel
theorem dX11_seen_12 : decode cX11_seen 12 = .ok (.iload_n 2, 1) := by decide +kernel
theorem dX11_seen_13 : decode cX11_seen 13 = .ok (.bipush 64, 2) := by decide +kernel
theorem dX11_seen_15 : decode cX11_seen 15 = .ok (.if_icmp .ge 17, 3) := by decide +kernel
theorem dX11_seen_18 : decode cX11_seen 18 = .ok (.iload_n 2, 1) := by decide +kernel
theorem dX11_seen_19 : decode cX11_seen 19 = .ok (.aload_n 0, 1) := by decide +kernel
theorem dX11_seen_20 : decode cX11_seen 20 = .ok (.getfield 44, 3) := by decide +kernel
theorem dX11_seen_23 : decode cX11_seen 23 = .ok (.getfield 96, 3) := by decide +kernel
theorem dX11_seen_26 : decode cX11_seen 26 = .ok (.getfield 116, 3) := by decide +kernel
theorem dX11_seen_29 : decode cX11_seen 29 = .ok (.if_icmp .lt 9, 3) := by decide +kernel
theorem dX11_seen_32 : decode cX11_seen 32 = .ok (.aload_n 0, 1) := by decide +kernel
theorem dX11_seen_33 : decode cX11_seen 33 = .ok (.iconst 1, 1) := by decide +kernel
theorem dX11_seen_34 : decode cX11_seen 34 = .ok (.invokevirtual 68, 3) := by decide +kernel
theorem dX11_seen_37 : decode cX11_seen 37 = .ok (.ireturn, 1) := by decide +kernel
theorem dX11_seen_38 : decode cX11_seen 38 = .ok (.aload_n 0, 1) := by decide +kernel
theorem dX11_seen_39 : decode cX11_seen 39 = .ok (.aload_n 0, 1) := by decide +kernel
theorem dX11_seen_40 : decode cX11_seen 40 = .ok (.getfield 39, 3) := by decide +kernel
theorem dX11_seen_43 : decode cX11_seen 43 = .ok (.iload_n 1, 1) := by decide +kernel
theorem dX11_seen_44 : decode cX11_seen 44 = .ok (.aaload, 1) := by decide +kernel
theorem dX11_seen_45 : decode cX11_seen 45 = .ok (.getfield 259, 3) := by decide +kernel
theorem dX11_seen_48 : decode cX11_seen 48 = .ok (.iload_n 2, 1) := by decide +kernel
theorem dX11_seen_49 : decode cX11_seen 49 = .ok (.iaload, 1) := by decide +kernel
theorem dX11_seen_50 : decode cX11_seen 50 = .ok (.invokevirtual 103, 3) := by decide +kernel
theorem dX11_seen_53 : decode cX11_seen 53 = .ok (.ireturn, 1) := by decide +kernel
theorem dX11_insert_0 : decode cX11_insert 0 = .ok (.aload_n 0, 1) := by decide +kernel
theorem dX11_insert_1 : decode cX11_insert 1 = .ok (.getfield 44, 3) := by decide +kernel
theorem dX11_insert_4 : decode cX11_insert 4 = .ok (.ifnonnull 9, 3) := by decide +kernel
theorem dX11_insert_7 : decode cX11_insert 7 = .ok (.aload_n 0, 1) := by decide +kernel
theorem dX11_insert_8 : decode cX11_insert 8 = .ok (.iconst 1, 1) := by decide +kernel
theorem dX11_insert_9 : decode cX11_insert 9 = .ok (.invokevirtual 68, 3) := by decide +kernel
theorem dX11_insert_12 : decode cX11_insert 12 = .ok (.ireturn, 1) := by decide +kernel
theorem dX11_insert_13 : decode cX11_insert 13 = .ok (.iconst 4, 1) := by decide +kernel
theorem dX11_insert_14 : decode cX11_insert 14 = .ok (.newarray .long, 2) := by decide +kernel
theorem dX11_insert_16 : decode cX11_insert 16 = .ok (.dup, 1) := by decide +kernel
theorem dX11_insert_17 : decode cX11_insert 17 = .ok (.iconst 0, 1) := by decide +kernel
theorem dX11_insert_18 : decode cX11_insert 18 = .ok (.lload_n 1, 1) := by decide +kernel
theorem dX11_insert_19 : decode cX11_insert 19 = .ok (.lastore, 1) := by decide +kernel
theorem dX11_insert_20 : decode cX11_insert 20 = .ok (.dup, 1) := by decide +kernel
theorem dX11_insert_21 : decode cX11_insert 21 = .ok (.iconst 1, 1) := by decide +kernel
theorem dX11_insert_22 : decode cX11_insert 22 = .ok (.lload_n 3, 1) := by decide +kernel
theorem dX11_insert_23 : decode cX11_insert 23 = .ok (.lastore, 1) := by decide +kernel
theorem dX11_insert_24 : decode cX11_insert 24 = .ok (.dup, 1) := by decide +kernel
theorem dX11_insert_25 : decode cX11_insert 25 = .ok (.iconst 2, 1) := by decide +kernel
theorem dX11_insert_26 : decode cX11_insert 26 = .ok (.lload 5, 2) := by decide +kernel
theorem dX11_insert_28 : decode cX11_insert 28 = .ok (.lastore, 1) := by decide +kernel
theorem dX11_insert_29 : decode cX11_insert 29 = .ok (.dup, 1) := by decide +kernel
theorem dX11_insert_30 : decode cX11_insert 30 = .ok (.iconst 3, 1) := by decide +kernel
theorem dX11_insert_31 : decode cX11_insert 31 = .ok (.lload 7, 2) := by decide +kernel
theorem dX11_insert_33 : decode cX11_insert 33 = .ok (.lastore, 1) := by decide +kernel
theorem dX11_insert_34 : decode cX11_insert 34 = .ok (.astore 9, 2) := by decide +kernel
theorem dX11_insert_36 : decode cX11_insert 36 = .ok (.iconst 0, 1) := by decide +kernel
theorem dX11_insert_37 : decode cX11_insert 37 = .ok (.istore 10, 2) := by decide +kernel
theorem dX11_insert_39 : decode cX11_insert 39 = .ok (.iload 10, 2) := by decide +kernel
theorem dX11_insert_41 : decode cX11_insert 41 = .ok (.aload_n 0, 1) := by decide +kernel
theorem dX11_insert_42 : decode cX11_insert 42 = .ok (.getfield 44, 3) := by decide +kernel
theorem dX11_insert_45 : decode cX11_insert 45 = .ok (.getfield 106, 3) := by decide +kernel
theorem dX11_insert_48 : decode cX11_insert 48 = .ok (.if_icmp .ge 32, 3) := by decide +kernel
theorem dX11_insert_51 : decode cX11_insert 51 = .ok (.aload_n 0, 1) := by decide +kernel
theorem dX11_insert_52 : decode cX11_insert 52 = .ok (.getfield 44, 3) := by decide +kernel
theorem dX11_insert_55 : decode cX11_insert 55 = .ok (.iload 10, 2) := by decide +kernel
theorem dX11_insert_57 : decode cX11_insert 57 = .ok (.aload 9, 2) := by decide +kernel
theorem dX11_insert_59 : decode cX11_insert 59 = .ok (.iload 10, 2) := by decide +kernel
theorem dX11_insert_61 : decode cX11_insert 61 = .ok (.laload, 1) := by decide +kernel
theorem dX11_insert_62 : decode cX11_insert 62 = .ok (.invokevirtual 209, 3) := by decide +kernel
theorem dX11_insert_65 : decode cX11_insert 65 = .ok (.ifCond .ne 9, 3) := by decide +kernel
theorem dX11_insert_68 : decode cX11_insert 68 = .ok (.aload_n 0, 1) := by decide +kernel
theorem dX11_insert_69 : decode cX11_insert 69 = .ok (.iconst 2, 1) := by decide +kernel
theorem dX11_insert_70 : decode cX11_insert 70 = .ok (.invokevirtual 68, 3) := by decide +kernel
theorem dX11_insert_73 : decode cX11_insert 73 = .ok (.ireturn, 1) := by decide +kernel
theorem dX11_insert_74 : decode cX11_insert 74 = .ok (.iinc 10 1, 3) := by decide +kernel
theorem dX11_insert_77 : decode cX11_insert 77 = .ok (.goto (-38), 3) := by decide +kernel
theorem dX11_insert_80 : decode cX11_insert 80 = .ok (.aload_n 0, 1) := by decide +kernel
theorem dX11_insert_81 : decode cX11_insert 81 = .ok (.getfield 44, 3) := by decide +kernel
theorem dX11_insert_84 : decode cX11_insert 84 = .ok (.getfield 96, 3) := by decide +kernel
theorem dX11_insert_87 : decode cX11_insert 87 = .ok (.getfield 100, 3) := by decide +kernel
theorem dX11_insert_90 : decode cX11_insert 90 = .ok (.bipush 40, 2) := by decide +kernel
theorem dX11_insert_92 : decode cX11_insert 92 = .ok (.if_icmp .ge 18, 3) := by decide +kernel
theorem dX11_insert_95 : decode cX11_insert 95 = .ok (.aload_n 0, 1) := by decide +kernel
theorem dX11_insert_96 : decode cX11_insert 96 = .ok (.getfield 44, 3) := by decide +kernel
theorem dX11_insert_99 : decode cX11_insert 99 = .ok (.getfield 96, 3) := by decide +kernel
theorem dX11_insert_102 : decode cX11_insert 102 = .ok (.getfield 116, 3) := by decide +kernel
theorem dX11_insert_105 : decode cX11_insert 105 = .ok (.bipush 64, 2) := by decide +kernel
theorem dX11_insert_107 : decode cX11_insert 107 = .ok (.if_icmp .lt 9, 3) := by decide +kernel
theorem dX11_insert_110 : decode cX11_insert 110 = .ok (.aload_n 0, 1) := by decide +kernel
theorem dX11_insert_111 : decode cX11_insert 111 = .ok (.iconst 3, 1) := by decide +kernel
theorem dX11_insert_112 : decode cX11_insert 112 = .ok (.invokevirtual 68, 3) := by decide +kernel
theorem dX11_insert_115 : decode cX11_insert 115 = .ok (.ireturn, 1) := by decide +kernel
theorem dX11_insert_116 : decode cX11_insert 116 = .ok (.aload_n 0, 1) := by decide +kernel
theorem dX11_insert_117 : decode cX11_insert 117 = .ok (.getfield 44, 3) := by decide +kernel
theorem dX11_insert_120 : decode cX11_insert 120 = .ok (.getfield 96, 3) := by decide +kernel
theorem dX11_insert_123 : decode cX11_insert 123 = .ok (.invokevirtual 262, 3) := by decide +kernel
theorem dX11_insert_126 : decode cX11_insert 126 = .ok (.istore 10, 2) := by decide +kernel
theorem dX11_insert_128 : decode cX11_insert 128 = .ok (.iconst 0, 1) := by decide +kernel
theorem dX11_insert_129 : decode cX11_insert 129 = .ok (.istore 11, 2) := by decide +kernel
theorem dX11_insert_131 : decode cX11_insert 131 = .ok (.iload 11, 2) := by decide +kernel
theorem dX11_insert_133 : decode cX11_insert 133 = .ok (.aload_n 0, 1) := by decide +kernel
theorem dX11_insert_134 : decode cX11_insert 134 = .ok (.getfield 44, 3) := by decide +kernel
theorem dX11_insert_137 : decode cX11_insert 137 = .ok (.getfield 106, 3) := by decide +kernel
theorem dX11_insert_140 : decode cX11_insert 140 = .ok (.if_icmp .ge 28, 3) := by decide +kernel
theorem dX11_insert_143 : decode cX11_insert 143 = .ok (.aload_n 0, 1) := by decide +kernel
theorem dX11_insert_144 : decode cX11_insert 144 = .ok (.getfield 44, 3) := by decide +kernel
theorem dX11_insert_147 : decode cX11_insert 147 = .ok (.getfield 96, 3) := by decide +kernel
theorem dX11_insert_150 : decode cX11_insert 150 = .ok (.iload 10, 2) := by decide +kernel
theorem dX11_insert_152 : decode cX11_insert 152 = .ok (.iload 11, 2) := by decide +kernel
theorem dX11_insert_154 : decode cX11_insert 154 = .ok (.aload 9, 2) := by decide +kernel
theorem dX11_insert_156 : decode cX11_insert 156 = .ok (.iload 11, 2) := by decide +kernel
theorem dX11_insert_158 : decode cX11_insert 158 = .ok (.laload, 1) := by decide +kernel
theorem dX11_insert_159 : decode cX11_insert 159 = .ok (.invokevirtual 265, 3) := by decide +kernel
theorem dX11_insert_162 : decode cX11_insert 162 = .ok (.iinc 11 1, 3) := by decide +kernel
theorem dX11_insert_165 : decode cX11_insert 165 = .ok (.goto (-34), 3) := by decide +kernel
theorem dX11_insert_168 : decode cX11_insert 168 = .ok (.aload_n 0, 1) := by decide +kernel
theorem dX11_insert_169 : decode cX11_insert 169 = .ok (.getfield 44, 3) := by decide +kernel
theorem dX11_insert_172 : decode cX11_insert 172 = .ok (.getfield 119, 3) := by decide +kernel
theorem dX11_insert_175 : decode cX11_insert 175 = .ok (.iconst 0, 1) := by decide +kernel
theorem dX11_insert_176 : decode cX11_insert 176 = .ok (.iload 10, 2) := by decide +kernel
theorem dX11_insert_178 : decode cX11_insert 178 = .ok (.iconst 0, 1) := by decide +kernel
theorem dX11_insert_179 : decode cX11_insert 179 = .ok (.lconst 0, 1) := by decide +kernel
theorem dX11_insert_180 : decode cX11_insert 180 = .ok (.invokevirtual 269, 3) := by decide +kernel
theorem dX11_insert_183 : decode cX11_insert 183 = .ok (.aload_n 0, 1) := by decide +kernel
theorem dX11_insert_184 : decode cX11_insert 184 = .ok (.iload 10, 2) := by decide +kernel
theorem dX11_insert_186 : decode cX11_insert 186 = .ok (.invokevirtual 103, 3) := by decide +kernel
theorem dX11_insert_189 : decode cX11_insert 189 = .ok (.ireturn, 1) := by decide +kernel
theorem dX11_remove_0 : decode cX11_remove 0 = .ok (.aload_n 0, 1) := by decide +kernel
theorem dX11_remove_1 : decode cX11_remove 1 = .ok (.iload_n 1, 1) := by decide +kernel
theorem dX11_remove_2 : decode cX11_remove 2 = .ok (.invokevirtual 151, 3) := by decide +kernel
theorem dX11_remove_5 : decode cX11_remove 5 = .ok (.ifCond .ne 9, 3) := by decide +kernel
theorem dX11_remove_8 : decode cX11_remove 8 = .ok (.aload_n 0, 1) := by decide +kernel
theorem dX11_remove_9 : decode cX11_remove 9 = .ok (.iconst 1, 1) := by decide +kernel
theorem dX11_remove_10 : decode cX11_remove 10 = .ok (.invokevirtual 68, 3) := by decide +kernel
theorem dX11_remove_13 : decode cX11_remove 13 = .ok (.ireturn, 1) := by decide +kernel
theorem dX11_remove_14 : decode cX11_remove 14 = .ok (.aload_n 0, 1) := by decide +kernel
theorem dX11_remove_15 : decode cX11_remove 15 = .ok (.getfield 44, 3) := by decide +kernel
theorem dX11_remove_18 : decode cX11_remove 18 = .ok (.getfield 96, 3) := by decide +kernel
theorem dX11_remove_21 : decode cX11_remove 21 = .ok (.iload_n 1, 1) := by decide +kernel
theorem dX11_remove_22 : decode cX11_remove 22 = .ok (.iconst 0, 1) := by decide +kernel
theorem dX11_remove_23 : decode cX11_remove 23 = .ok (.invokevirtual 273, 3) := by decide +kernel
theorem dX11_remove_26 : decode cX11_remove 26 = .ok (.aload_n 0, 1) := by decide +kernel
theorem dX11_remove_27 : decode cX11_remove 27 = .ok (.getfield 44, 3) := by decide +kernel
theorem dX11_remove_30 : decode cX11_remove 30 = .ok (.getfield 119, 3) := by decide +kernel
theorem dX11_remove_33 : decode cX11_remove 33 = .ok (.iconst 1, 1) := by decide +kernel
theorem dX11_remove_34 : decode cX11_remove 34 = .ok (.iload_n 1, 1) := by decide +kernel
theorem dX11_remove_35 : decode cX11_remove 35 = .ok (.iconst 0, 1) := by decide +kernel
theorem dX11_remove_36 : decode cX11_remove 36 = .ok (.lconst 0, 1) := by decide +kernel
theorem dX11_remove_37 : decode cX11_remove 37 = .ok (.invokevirtual 269, 3) := by decide +kernel
theorem dX11_remove_40 : decode cX11_remove 40 = .ok (.aload_n 0, 1) := by decide +kernel
theorem dX11_remove_41 : decode cX11_remove 41 = .ok (.aload_n 0, 1) := by decide +kernel
theorem dX11_remove_42 : decode cX11_remove 42 = .ok (.getfield 44, 3) := by decide +kernel
theorem dX11_remove_45 : decode cX11_remove 45 = .ok (.getfield 96, 3) := by decide +kernel
theorem dX11_remove_48 : decode cX11_remove 48 = .ok (.getfield 100, 3) := by decide +kernel
theorem dX11_remove_51 : decode cX11_remove 51 = .ok (.invokevirtual 103, 3) := by decide +kernel
theorem dX11_remove_54 : decode cX11_remove 54 = .ok (.ireturn, 1) := by decide +kernel
theorem dX11_change_0 : decode cX11_change 0 = .ok (.aload_n 0, 1) := by decide +kernel
theorem dX11_change_1 : decode cX11_change 1 = .ok (.iload_n 1, 1) := by decide +kernel
theorem dX11_change_2 : decode cX11_change 2 = .ok (.invokevirtual 151, 3) := by decide +kernel
theorem dX11_change_5 : decode cX11_change 5 = .ok (.ifCond .eq 11, 3) := by decide +kernel
theorem dX11_change_8 : decode cX11_change 8 = .ok (.aload_n 0, 1) := by decide +kernel
theorem dX11_change_9 : decode cX11_change 9 = .ok (.iload_n 2, 1) := by decide +kernel
theorem dX11_change_10 : decode cX11_change 10 = .ok (.invokevirtual 135, 3) := by decide +kernel
theorem dX11_change_13 : decode cX11_change 13 = .ok (.ifCond .ne 9, 3) := by decide +kernel
theorem dX11_change_16 : decode cX11_change 16 = .ok (.aload_n 0, 1) := by decide +kernel
theorem dX11_change_17 : decode cX11_change 17 = .ok (.iconst 1, 1) := by decide +kernel
theorem dX11_change_18 : decode cX11_change 18 = .ok (.invokevirtual 68, 3) := by decide +kernel
theorem dX11_change_21 : decode cX11_change 21 = .ok (.ireturn, 1) := by decide +kernel
theorem dX11_change_22 : decode cX11_change 22 = .ok (.aload_n 0, 1) := by decide +kernel
theorem dX11_change_23 : decode cX11_change 23 = .ok (.getfield 44, 3) := by decide +kernel
theorem dX11_change_26 : decode cX11_change 26 = .ok (.iload_n 2, 1) := by decide +kernel
theorem dX11_change_27 : decode cX11_change 27 = .ok (.lload_n 3, 1) := by decide +kernel
theorem dX11_change_28 : decode cX11_change 28 = .ok (.invokevirtual 209, 3) := by decide +kernel
theorem dX11_change_31 : decode cX11_change 31 = .ok (.ifCond .ne 9, 3) := by decide +kernel
theorem dX11_change_34 : decode cX11_change 34 = .ok (.aload_n 0, 1) := by decide +kernel
theorem dX11_change_35 : decode cX11_change 35 = .ok (.iconst 2, 1) := by decide +kernel
theorem dX11_change_36 : decode cX11_change 36 = .ok (.invokevirtual 68, 3) := by decide +kernel
theorem dX11_change_39 : decode cX11_change 39 = .ok (.ireturn, 1) := by decide +kernel
theorem dX11_change_40 : decode cX11_change 40 = .ok (.aload_n 0, 1) := by decide +kernel
theorem dX11_change_41 : decode cX11_change 41 = .ok (.getfield 44, 3) := by decide +kernel
theorem dX11_change_44 : decode cX11_change 44 = .ok (.getfield 119, 3) := by decide +kernel
theorem dX11_change_47 : decode cX11_change 47 = .ok (.iconst 2, 1) := by decide +kernel
theorem dX11_change_48 : decode cX11_change 48 = .ok (.iload_n 1, 1) := by decide +kernel
theorem dX11_change_49 : decode cX11_change 49 = .ok (.iload_n 2, 1) := by decide +kernel
theorem dX11_change_50 : decode cX11_change 50 = .ok (.aload_n 0, 1) := by decide +kernel
theorem dX11_change_51 : decode cX11_change 51 = .ok (.getfield 44, 3) := by decide +kernel
theorem dX11_change_54 : decode cX11_change 54 = .ok (.getfield 96, 3) := by decide +kernel
theorem dX11_change_57 : decode cX11_change 57 = .ok (.iload_n 1, 1) := by decide +kernel
theorem dX11_change_58 : decode cX11_change 58 = .ok (.iload_n 2, 1) := by decide +kernel
theorem dX11_change_59 : decode cX11_change 59 = .ok (.invokevirtual 158, 3) := by decide +kernel
theorem dX11_change_62 : decode cX11_change 62 = .ok (.invokevirtual 269, 3) := by decide +kernel
theorem dX11_change_65 : decode cX11_change 65 = .ok (.aload_n 0, 1) := by decide +kernel
theorem dX11_change_66 : decode cX11_change 66 = .ok (.getfield 44, 3) := by decide +kernel
theorem dX11_change_69 : decode cX11_change 69 = .ok (.getfield 96, 3) := by decide +kernel
theorem dX11_change_72 : decode cX11_change 72 = .ok (.iload_n 1, 1) := by decide +kernel
theorem dX11_change_73 : decode cX11_change 73 = .ok (.iload_n 2, 1) := by decide +kernel
theorem dX11_change_74 : decode cX11_change 74 = .ok (.lload_n 3, 1) := by decide +kernel
theorem dX11_change_75 : decode cX11_change 75 = .ok (.invokevirtual 265, 3) := by decide +kernel
theorem dX11_change_78 : decode cX11_change 78 = .ok (.aload_n 0, 1) := by decide +kernel
theorem dX11_change_79 : decode cX11_change 79 = .ok (.getfield 44, 3) := by decide +kernel
theorem dX11_change_82 : decode cX11_change 82 = .ok (.getfield 277, 3) := by decide +kernel
theorem dX11_change_85 : decode cX11_change 85 = .ok (.iload_n 1, 1) := by decide +kernel
theorem dX11_change_86 : decode cX11_change 86 = .ok (.aload_n 0, 1) := by decide +kernel
theorem dX11_change_87 : decode cX11_change 87 = .ok (.getfield 44, 3) := by decide +kernel
theorem dX11_change_90 : decode cX11_change 90 = .ok (.getfield 119, 3) := by decide +kernel
theorem dX11_change_93 : decode cX11_change 93 = .ok (.getfield 123, 3) := by decide +kernel
theorem dX11_change_96 : decode cX11_change 96 = .ok (.iastore, 1) := by decide +kernel
theorem dX11_change_97 : decode cX11_change 97 = .ok (.aload_n 0, 1) := by decide +kernel
theorem dX11_change_98 : decode cX11_change 98 = .ok (.aload_n 0, 1) := by decide +kernel
theorem dX11_change_99 : decode cX11_change 99 = .ok (.iload_n 1, 1) := by decide +kernel
theorem dX11_change_100 : decode cX11_change 100 = .ok (.invokevirtual 187, 3) := by decide +kernel
theorem dX11_change_103 : decode cX11_change 103 = .ok (.invokevirtual 103, 3) := by decide +kernel
theorem dX11_change_106 : decode cX11_change 106 = .ok (.ireturn, 1) := by decide +kernel
theorem dX11_turn_0 : decode cX11_turn 0 = .ok (.aload_n 0, 1) := by decide +kernel
theorem dX11_turn_1 : decode cX11_turn 1 = .ok (.getfield 44, 3) := by decide +kernel
theorem dX11_turn_4 : decode cX11_turn 4 = .ok (.ifnonnull 9, 3) := by decide +kernel
theorem dX11_turn_7 : decode cX11_turn 7 = .ok (.aload_n 0, 1) := by decide +kernel
theorem dX11_turn_8 : decode cX11_turn 8 = .ok (.iconst 1, 1) := by decide +kernel
theorem dX11_turn_9 : decode cX11_turn 9 = .ok (.invokevirtual 68, 3) := by decide +kernel
theorem dX11_turn_12 : decode cX11_turn 12 = .ok (.ireturn, 1) := by decide +kernel
theorem dX11_turn_13 : decode cX11_turn 13 = .ok (.iconst 4, 1) := by decide +kernel
theorem dX11_turn_14 : decode cX11_turn 14 = .ok (.newarray .int, 2) := by decide +kernel
theorem dX11_turn_16 : decode cX11_turn 16 = .ok (.dup, 1) := by decide +kernel
theorem dX11_turn_17 : decode cX11_turn 17 = .ok (.iconst 0, 1) := by decide +kernel
theorem dX11_turn_18 : decode cX11_turn 18 = .ok (.iload_n 1, 1) := by decide +kernel
theorem dX11_turn_19 : decode cX11_turn 19 = .ok (.iastore, 1) := by decide +kernel
theorem dX11_turn_20 : decode cX11_turn 20 = .ok (.dup, 1) := by decide +kernel
theorem dX11_turn_21 : decode cX11_turn 21 = .ok (.iconst 1, 1) := by decide +kernel
theorem dX11_turn_22 : decode cX11_turn 22 = .ok (.iload_n 2, 1) := by decide +kernel
theorem dX11_turn_23 : decode cX11_turn 23 = .ok (.iastore, 1) := by decide +kernel
theorem dX11_turn_24 : decode cX11_turn 24 = .ok (.dup, 1) := by decide +kernel
theorem dX11_turn_25 : decode cX11_turn 25 = .ok (.iconst 2, 1) := by decide +kernel
theorem dX11_turn_26 : decode cX11_turn 26 = .ok (.iload_n 3, 1) := by decide +kernel
theorem dX11_turn_27 : decode cX11_turn 27 = .ok (.iastore, 1) := by decide +kernel
theorem dX11_turn_28 : decode cX11_turn 28 = .ok (.dup, 1) := by decide +kernel
theorem dX11_turn_29 : decode cX11_turn 29 = .ok (.iconst 3, 1) := by decide +kernel
theorem dX11_turn_30 : decode cX11_turn 30 = .ok (.iload 4, 2) := by decide +kernel
theorem dX11_turn_32 : decode cX11_turn 32 = .ok (.iastore, 1) := by decide +kernel
theorem dX11_turn_33 : decode cX11_turn 33 = .ok (.astore 5, 2) := by decide +kernel
theorem dX11_turn_35 : decode cX11_turn 35 = .ok (.aload 5, 2) := by decide +kernel
theorem dX11_turn_37 : decode cX11_turn 37 = .ok (.aload_n 0, 1) := by decide +kernel
theorem dX11_turn_38 : decode cX11_turn 38 = .ok (.getfield 44, 3) := by decide +kernel
theorem dX11_turn_41 : decode cX11_turn 41 = .ok (.getfield 106, 3) := by decide +kernel
theorem dX11_turn_44 : decode cX11_turn 44 = .ok (.invokestatic 280, 3) := by decide +kernel
theorem dX11_turn_47 : decode cX11_turn 47 = .ok (.istore 6, 2) := by decide +kernel
theorem dX11_turn_49 : decode cX11_turn 49 = .ok (.iload 6, 2) := by decide +kernel
theorem dX11_turn_51 : decode cX11_turn 51 = .ok (.ifCond .ne 9, 3) := by decide +kernel
theorem dX11_turn_54 : decode cX11_turn 54 = .ok (.aload_n 0, 1) := by decide +kernel
theorem dX11_turn_55 : decode cX11_turn 55 = .ok (.iconst 2, 1) := by decide +kernel
theorem dX11_turn_56 : decode cX11_turn 56 = .ok (.invokevirtual 68, 3) := by decide +kernel
theorem dX11_turn_59 : decode cX11_turn 59 = .ok (.ireturn, 1) := by decide +kernel
theorem dX11_turn_60 : decode cX11_turn 60 = .ok (.aload_n 0, 1) := by decide +kernel
theorem dX11_turn_61 : decode cX11_turn 61 = .ok (.getfield 44, 3) := by decide +kernel
theorem dX11_turn_64 : decode cX11_turn 64 = .ok (.getfield 109, 3) := by decide +kernel
theorem dX11_turn_67 : decode cX11_turn 67 = .ok (.iconst 0, 1) := by decide +kernel
theorem dX11_turn_68 : decode cX11_turn 68 = .ok (.putfield 113, 3) := by decide +kernel
theorem dX11_turn_71 : decode cX11_turn 71 = .ok (.iconst 0, 1) := by decide +kernel
theorem dX11_turn_72 : decode cX11_turn 72 = .ok (.istore 7, 2) := by decide +kernel
theorem dX11_turn_74 : decode cX11_turn 74 = .ok (.iload 7, 2) := by decide +kernel
theorem dX11_turn_76 : decode cX11_turn 76 = .ok (.iload 6, 2) := by decide +kernel
theorem dX11_turn_78 : decode cX11_turn 78 = .ok (.if_icmp .ge 76, 3) := by decide +kernel
theorem dX11_turn_81 : decode cX11_turn 81 = .ok (.iload 7, 2) := by decide +kernel
theorem dX11_turn_83 : decode cX11_turn 83 = .ok (.iconst 4, 1) := by decide +kernel
theorem dX11_turn_84 : decode cX11_turn 84 = .ok (.if_icmp .ge 70, 3) := by decide +kernel
theorem dX11_turn_87 : decode cX11_turn 87 = .ok (.aload 5, 2) := by decide +kernel
theorem dX11_turn_89 : decode cX11_turn 89 = .ok (.iload 7, 2) := by decide +kernel
theorem dX11_turn_91 : decode cX11_turn 91 = .ok (.iaload, 1) := by decide +kernel
theorem dX11_turn_92 : decode cX11_turn 92 = .ok (.iconst 2, 1) := by decide +kernel
theorem dX11_turn_93 : decode cX11_turn 93 = .ok (.ishr, 1) := by decide +kernel
theorem dX11_turn_94 : decode cX11_turn 94 = .ok (.istore 8, 2) := by decide +kernel
theorem dX11_turn_96 : decode cX11_turn 96 = .ok (.aload_n 0, 1) := by decide +kernel
theorem dX11_turn_97 : decode cX11_turn 97 = .ok (.getfield 44, 3) := by decide +kernel
theorem dX11_turn_100 : decode cX11_turn 100 = .ok (.getfield 109, 3) := by decide +kernel
theorem dX11_turn_103 : decode cX11_turn 103 = .ok (.iload 8, 2) := by decide +kernel
theorem dX11_turn_105 : decode cX11_turn 105 = .ok (.aload_n 0, 1) := by decide +kernel
theorem dX11_turn_106 : decode cX11_turn 106 = .ok (.getfield 44, 3) := by decide +kernel
theorem dX11_turn_109 : decode cX11_turn 109 = .ok (.getfield 138, 3) := by decide +kernel
theorem dX11_turn_112 : decode cX11_turn 112 = .ok (.iload 8, 2) := by decide +kernel
theorem dX11_turn_114 : decode cX11_turn 114 = .ok (.iaload, 1) := by decide +kernel
theorem dX11_turn_115 : decode cX11_turn 115 = .ok (.aload 5, 2) := by decide +kernel
theorem dX11_turn_117 : decode cX11_turn 117 = .ok (.iload 7, 2) := by decide +kernel
theorem dX11_turn_119 : decode cX11_turn 119 = .ok (.iaload, 1) := by decide +kernel
theorem dX11_turn_120 : decode cX11_turn 120 = .ok (.iconst 2, 1) := by decide +kernel
theorem dX11_turn_121 : decode cX11_turn 121 = .ok (.iand, 1) := by decide +kernel
theorem dX11_turn_122 : decode cX11_turn 122 = .ok (.ifCond .eq 7, 3) := by decide +kernel
theorem dX11_turn_125 : decode cX11_turn 125 = .ok (.iconst 1, 1) := by decide +kernel
theorem dX11_turn_126 : decode cX11_turn 126 = .ok (.goto 4, 3) := by decide +kernel
theorem dX11_turn_129 : decode cX11_turn 129 = .ok (.iconst 0, 1) := by decide +kernel
theorem dX11_turn_130 : decode cX11_turn 130 = .ok (.aload 5, 2) := by decide +kernel
theorem dX11_turn_132 : decode cX11_turn 132 = .ok (.iload 7, 2) := by decide +kernel
theorem dX11_turn_134 : decode cX11_turn 134 = .ok (.iaload, 1) := by decide +kernel
theorem dX11_turn_135 : decode cX11_turn 135 = .ok (.iconst 1, 1) := by decide +kernel
theorem dX11_turn_136 : decode cX11_turn 136 = .ok (.iand, 1) := by decide +kernel
theorem dX11_turn_137 : decode cX11_turn 137 = .ok (.ifCond .eq 7, 3) := by decide +kernel
theorem dX11_turn_140 : decode cX11_turn 140 = .ok (.iconst 1, 1) := by decide +kernel
theorem dX11_turn_141 : decode cX11_turn 141 = .ok (.goto 4, 3) := by decide +kernel
theorem dX11_turn_144 : decode cX11_turn 144 = .ok (.iconst 0, 1) := by decide +kernel
theorem dX11_turn_145 : decode cX11_turn 145 = .ok (.invokevirtual 284, 3) := by decide +kernel
theorem dX11_turn_148 : decode cX11_turn 148 = .ok (.iinc 7 1, 3) := by decide +kernel
theorem dX11_turn_151 : decode cX11_turn 151 = .ok (.goto (-77), 3) := by decide +kernel
theorem dX11_turn_154 : decode cX11_turn 154 = .ok (.aload_n 0, 1) := by decide +kernel
theorem dX11_turn_155 : decode cX11_turn 155 = .ok (.invokevirtual 287, 3) := by decide +kernel
theorem dX11_turn_158 : decode cX11_turn 158 = .ok (.aload_n 0, 1) := by decide +kernel
theorem dX11_turn_159 : decode cX11_turn 159 = .ok (.iload 6, 2) := by decide +kernel
theorem dX11_turn_161 : decode cX11_turn 161 = .ok (.invokevirtual 103, 3) := by decide +kernel
theorem dX11_turn_164 : decode cX11_turn 164 = .ok (.ireturn, 1) := by decide +kernel
theorem dX11_sieve_0 : decode cX11_sieve 0 = .ok (.aload_n 0, 1) := by decide +kernel
theorem dX11_sieve_1 : decode cX11_sieve 1 = .ok (.iload_n 1, 1) := by decide +kernel
theorem dX11_sieve_2 : decode cX11_sieve 2 = .ok (.invokevirtual 135, 3) := by decide +kernel
theorem dX11_sieve_5 : decode cX11_sieve 5 = .ok (.ifCond .ne 9, 3) := by decide +kernel
theorem dX11_sieve_8 : decode cX11_sieve 8 = .ok (.aload_n 0, 1) := by decide +kernel
theorem dX11_sieve_9 : decode cX11_sieve 9 = .ok (.iconst 1, 1) := by decide +kernel
theorem dX11_sieve_10 : decode cX11_sieve 10 = .ok (.invokevirtual 68, 3) := by decide +kernel
theorem dX11_sieve_13 : decode cX11_sieve 13 = .ok (.ireturn, 1) := by decide +kernel
theorem dX11_sieve_14 : decode cX11_sieve 14 = .ok (.iload_n 2, 1) := by decide +kernel
theorem dX11_sieve_15 : decode cX11_sieve 15 = .ok (.ifCond .lt 8, 3) := by decide +kernel
theorem dX11_sieve_18 : decode cX11_sieve 18 = .ok (.iload_n 2, 1) := by decide +kernel
theorem dX11_sieve_19 : decode cX11_sieve 19 = .ok (.iconst 4, 1) := by decide +kernel
theorem dX11_sieve_20 : decode cX11_sieve 20 = .ok (.if_icmp .le 9, 3) := by decide +kernel
theorem dX11_sieve_23 : decode cX11_sieve 23 = .ok (.aload_n 0, 1) := by decide +kernel
theorem dX11_sieve_24 : decode cX11_sieve 24 = .ok (.iconst 2, 1) := by decide +kernel
theorem dX11_sieve_25 : decode cX11_sieve 25 = .ok (.invokevirtual 68, 3) := by decide +kernel
theorem dX11_sieve_28 : decode cX11_sieve 28 = .ok (.ireturn, 1) := by decide +kernel
theorem dX11_sieve_29 : decode cX11_sieve 29 = .ok (.iload_n 2, 1) := by decide +kernel
theorem dX11_sieve_30 : decode cX11_sieve 30 = .ok (.iconst 3, 1) := by decide +kernel
theorem dX11_sieve_31 : decode cX11_sieve 31 = .ok (.if_icmp .ge 29, 3) := by decide +kernel
theorem dX11_sieve_34 : decode cX11_sieve 34 = .ok (.lload_n 3, 1) := by decide +kernel
theorem dX11_sieve_35 : decode cX11_sieve 35 = .ok (.ldc2_w 292, 3) := by decide +kernel
theorem dX11_sieve_38 : decode cX11_sieve 38 = .ok (.lcmp, 1) := by decide +kernel
theorem dX11_sieve_39 : decode cX11_sieve 39 = .ok (.ifCond .eq 15, 3) := by decide +kernel
theorem dX11_sieve_42 : decode cX11_sieve 42 = .ok (.aload_n 0, 1) := by decide +kernel
theorem dX11_sieve_43 : decode cX11_sieve 43 = .ok (.getfield 44, 3) := by decide +kernel
theorem dX11_sieve_46 : decode cX11_sieve 46 = .ok (.iload_n 1, 1) := by decide +kernel
theorem dX11_sieve_47 : decode cX11_sieve 47 = .ok (.lload_n 3, 1) := by decide +kernel
theorem dX11_sieve_48 : decode cX11_sieve 48 = .ok (.invokevirtual 209, 3) := by decide +kernel
theorem dX11_sieve_51 : decode cX11_sieve 51 = .ok (.ifCond .ne 9, 3) := by decide +kernel
theorem dX11_sieve_54 : decode cX11_sieve 54 = .ok (.aload_n 0, 1) := by decide +kernel
theorem dX11_sieve_55 : decode cX11_sieve 55 = .ok (.iconst 2, 1) := by decide +kernel
theorem dX11_sieve_56 : decode cX11_sieve 56 = .ok (.invokevirtual 68, 3) := by decide +kernel
theorem dX11_sieve_59 : decode cX11_sieve 59 = .ok (.ireturn, 1) := by decide +kernel
theorem dX11_sieve_60 : decode cX11_sieve 60 = .ok (.aload_n 0, 1) := by decide +kernel
theorem dX11_sieve_61 : decode cX11_sieve 61 = .ok (.getfield 44, 3) := by decide +kernel
theorem dX11_sieve_64 : decode cX11_sieve 64 = .ok (.getfield 294, 3) := by decide +kernel
theorem dX11_sieve_67 : decode cX11_sieve 67 = .ok (.getfield 298, 3) := by decide +kernel
theorem dX11_sieve_70 : decode cX11_sieve 70 = .ok (.iconst 2, 1) := by decide +kernel
theorem dX11_sieve_71 : decode cX11_sieve 71 = .ok (.if_icmp .lt 9, 3) := by decide +kernel
theorem dX11_sieve_74 : decode cX11_sieve 74 = .ok (.aload_n 0, 1) := by decide +kernel
theorem dX11_sieve_75 : decode cX11_sieve 75 = .ok (.iconst 3, 1) := by decide +kernel
theorem dX11_sieve_76 : decode cX11_sieve 76 = .ok (.invokevirtual 68, 3) := by decide +kernel
theorem dX11_sieve_79 : decode cX11_sieve 79 = .ok (.ireturn, 1) := by decide +kernel
theorem dX11_sieve_80 : decode cX11_sieve 80 = .ok (.aload_n 0, 1) := by decide +kernel
theorem dX11_sieve_81 : decode cX11_sieve 81 = .ok (.getfield 44, 3) := by decide +kernel
theorem dX11_sieve_84 : decode cX11_sieve 84 = .ok (.getfield 294, 3) := by decide +kernel
theorem dX11_sieve_87 : decode cX11_sieve 87 = .ok (.iload_n 1, 1) := by decide +kernel
theorem dX11_sieve_88 : decode cX11_sieve 88 = .ok (.aload_n 0, 1) := by decide +kernel
theorem dX11_sieve_89 : decode cX11_sieve 89 = .ok (.getfield 44, 3) := by decide +kernel
theorem dX11_sieve_92 : decode cX11_sieve 92 = .ok (.getfield 138, 3) := by decide +kernel
theorem dX11_sieve_95 : decode cX11_sieve 95 = .ok (.iload_n 1, 1) := by decide +kernel
theorem dX11_sieve_96 : decode cX11_sieve 96 = .ok (.iaload, 1) := by decide +kernel
theorem dX11_sieve_97 : decode cX11_sieve 97 = .ok (.iload_n 2, 1) := by decide +kernel
theorem dX11_sieve_98 : decode cX11_sieve 98 = .ok (.lload_n 3, 1) := by decide +kernel
theorem dX11_sieve_99 : decode cX11_sieve 99 = .ok (.invokevirtual 299, 3) := by decide +kernel
theorem dX11_sieve_102 : decode cX11_sieve 102 = .ok (.aload_n 0, 1) := by decide +kernel
theorem dX11_sieve_103 : decode cX11_sieve 103 = .ok (.invokevirtual 287, 3) := by decide +kernel
theorem dX11_sieve_106 : decode cX11_sieve 106 = .ok (.aload_n 0, 1) := by decide +kernel
theorem dX11_sieve_107 : decode cX11_sieve 107 = .ok (.aload_n 0, 1) := by decide +kernel
theorem dX11_sieve_108 : decode cX11_sieve 108 = .ok (.getfield 44, 3) := by decide +kernel
theorem dX11_sieve_111 : decode cX11_sieve 111 = .ok (.getfield 294, 3) := by decide +kernel
theorem dX11_sieve_114 : decode cX11_sieve 114 = .ok (.getfield 298, 3) := by decide +kernel
theorem dX11_sieve_117 : decode cX11_sieve 117 = .ok (.invokevirtual 103, 3) := by decide +kernel
theorem dX11_sieve_120 : decode cX11_sieve 120 = .ok (.ireturn, 1) := by decide +kernel
theorem dX11_clear_0 : decode cX11_clear 0 = .ok (.aload_n 0, 1) := by decide +kernel
theorem dX11_clear_1 : decode cX11_clear 1 = .ok (.getfield 44, 3) := by decide +kernel
theorem dX11_clear_4 : decode cX11_clear 4 = .ok (.ifnonnull 9, 3) := by decide +kernel
theorem dX11_clear_7 : decode cX11_clear 7 = .ok (.aload_n 0, 1) := by decide +kernel
theorem dX11_clear_8 : decode cX11_clear 8 = .ok (.iconst 1, 1) := by decide +kernel
theorem dX11_clear_9 : decode cX11_clear 9 = .ok (.invokevirtual 68, 3) := by decide +kernel
theorem dX11_clear_12 : decode cX11_clear 12 = .ok (.ireturn, 1) := by decide +kernel
theorem dX11_clear_13 : decode cX11_clear 13 = .ok (.aload_n 0, 1) := by decide +kernel
theorem dX11_clear_14 : decode cX11_clear 14 = .ok (.getfield 44, 3) := by decide +kernel
theorem dX11_clear_17 : decode cX11_clear 17 = .ok (.getfield 294, 3) := by decide +kernel
theorem dX11_clear_20 : decode cX11_clear 20 = .ok (.getfield 298, 3) := by decide +kernel
theorem dX11_clear_23 : decode cX11_clear 23 = .ok (.istore_n 1, 1) := by decide +kernel
theorem dX11_clear_24 : decode cX11_clear 24 = .ok (.aload_n 0, 1) := by decide +kernel
theorem dX11_clear_25 : decode cX11_clear 25 = .ok (.getfield 44, 3) := by decide +kernel
theorem dX11_clear_28 : decode cX11_clear 28 = .ok (.getfield 294, 3) := by decide +kernel
theorem dX11_clear_31 : decode cX11_clear 31 = .ok (.iconst 0, 1) := by decide +kernel
theorem dX11_clear_32 : decode cX11_clear 32 = .ok (.putfield 298, 3) := by decide +kernel
theorem dX11_clear_35 : decode cX11_clear 35 = .ok (.aload_n 0, 1) := by decide +kernel
theorem dX11_clear_36 : decode cX11_clear 36 = .ok (.invokevirtual 287, 3) := by decide +kernel
theorem dX11_clear_39 : decode cX11_clear 39 = .ok (.aload_n 0, 1) := by decide +kernel
theorem dX11_clear_40 : decode cX11_clear 40 = .ok (.iload_n 1, 1) := by decide +kernel
theorem dX11_clear_41 : decode cX11_clear 41 = .ok (.invokevirtual 103, 3) := by decide +kernel
theorem dX11_clear_44 : decode cX11_clear 44 = .ok (.ireturn, 1) := by decide +kernel
theorem dX11_passes_0 : decode cX11_passes 0 = .ok (.aload_n 0, 1) := by decide +kernel
theorem dX11_passes_1 : decode cX11_passes 1 = .ok (.iload_n 1, 1) := by decide +kernel
theorem dX11_passes_2 : decode cX11_passes 2 = .ok (.invokevirtual 151, 3) := by decide +kernel
theorem dX11_passes_5 : decode cX11_passes 5 = .ok (.ifCond .ne 9, 3) := by decide +kernel
theorem dX11_passes_8 : decode cX11_passes 8 = .ok (.aload_n 0, 1) := by decide +kernel
theorem dX11_passes_9 : decode cX11_passes 9 = .ok (.iconst 1, 1) := by decide +kernel
theorem dX11_passes_10 : decode cX11_passes 10 = .ok (.invokevirtual 68, 3) := by decide +kernel
theorem dX11_passes_13 : decode cX11_passes 13 = .ok (.ireturn, 1) := by decide +kernel
theorem dX11_passes_14 : decode cX11_passes 14 = .ok (.aload_n 0, 1) := by decide +kernel
theorem dX11_passes_15 : decode cX11_passes 15 = .ok (.aload_n 0, 1) := by decide +kernel
theorem dX11_passes_16 : decode cX11_passes 16 = .ok (.getfield 44, 3) := by decide +kernel
theorem dX11_passes_19 : decode cX11_passes 19 = .ok (.getfield 294, 3) := by decide +kernel
theorem dX11_passes_22 : decode cX11_passes 22 = .ok (.aload_n 0, 1) := by decide +kernel
theorem dX11_passes_23 : decode cX11_passes 23 = .ok (.getfield 44, 3) := by decide +kernel
theorem dX11_passes_26 : decode cX11_passes 26 = .ok (.getfield 96, 3) := by decide +kernel
theorem dX11_passes_29 : decode cX11_passes 29 = .ok (.iload_n 1, 1) := by decide +kernel
theorem dX11_passes_30 : decode cX11_passes 30 = .ok (.invokevirtual 301, 3) := by decide +kernel
theorem dX11_passes_33 : decode cX11_passes 33 = .ok (.ifCond .eq 7, 3) := by decide +kernel
theorem dX11_passes_36 : decode cX11_passes 36 = .ok (.iconst 1, 1) := by decide +kernel
theorem dX11_passes_37 : decode cX11_passes 37 = .ok (.goto 4, 3) := by decide +kernel
theorem dX11_passes_40 : decode cX11_passes 40 = .ok (.iconst 0, 1) := by decide +kernel
theorem dX11_passes_41 : decode cX11_passes 41 = .ok (.invokevirtual 103, 3) := by decide +kernel
theorem dX11_passes_44 : decode cX11_passes 44 = .ok (.ireturn, 1) := by decide +kernel
theorem dX11_condition_0 : decode cX11_condition 0 = .ok (.aload_n 0, 1) := by decide +kernel
theorem dX11_condition_1 : decode cX11_condition 1 = .ok (.getfield 44, 3) := by decide +kernel
theorem dX11_condition_4 : decode cX11_condition 4 = .ok (.ifnull 30, 3) := by decide +kernel
theorem dX11_condition_7 : decode cX11_condition 7 = .ok (.iload_n 1, 1) := by decide +kernel
theorem dX11_condition_8 : decode cX11_condition 8 = .ok (.ifCond .lt 26, 3) := by decide +kernel
theorem dX11_condition_11 : decode cX11_condition 11 = .ok (.iload_n 1, 1) := by decide +kernel
theorem dX11_condition_12 : decode cX11_condition 12 = .ok (.aload_n 0, 1) := by decide +kernel
theorem dX11_condition_13 : decode cX11_condition 13 = .ok (.getfield 44, 3) := by decide +kernel
theorem dX11_condition_16 : decode cX11_condition 16 = .ok (.getfield 294, 3) := by decide +kernel
theorem dX11_condition_19 : decode cX11_condition 19 = .ok (.getfield 298, 3) := by decide +kernel
theorem dX11_condition_22 : decode cX11_condition 22 = .ok (.if_icmp .ge 12, 3) := by decide +kernel
theorem dX11_condition_25 : decode cX11_condition 25 = .ok (.iload_n 2, 1) := by decide +kernel
theorem dX11_condition_26 : decode cX11_condition 26 = .ok (.ifCond .lt 8, 3) := by decide +kernel
theorem dX11_condition_29 : decode cX11_condition 29 = .ok (.iload_n 2, 1) := by decide +kernel
theorem dX11_condition_30 : decode cX11_condition 30 = .ok (.iconst 1, 1) := by decide +kernel
theorem dX11_condition_31 : decode cX11_condition 31 = .ok (.if_icmp .le 9, 3) := by decide +kernel
theorem dX11_condition_34 : decode cX11_condition 34 = .ok (.aload_n 0, 1) := by decide +kernel
theorem dX11_condition_35 : decode cX11_condition 35 = .ok (.iconst 1, 1) := by decide +kernel
theorem dX11_condition_36 : decode cX11_condition 36 = .ok (.invokevirtual 68, 3) := by decide +kernel
theorem dX11_condition_39 : decode cX11_condition 39 = .ok (.ireturn, 1) := by decide +kernel
theorem dX11_condition_40 : decode cX11_condition 40 = .ok (.aload_n 0, 1) := by decide +kernel
theorem dX11_condition_41 : decode cX11_condition 41 = .ok (.iload_n 2, 1) := by decide +kernel
theorem dX11_condition_42 : decode cX11_condition 42 = .ok (.ifCond .ne 18, 3) := by decide +kernel
theorem dX11_condition_45 : decode cX11_condition 45 = .ok (.aload_n 0, 1) := by decide +kernel
theorem dX11_condition_46 : decode cX11_condition 46 = .ok (.getfield 44, 3) := by decide +kernel
theorem dX11_condition_49 : decode cX11_condition 49 = .ok (.getfield 294, 3) := by decide +kernel
theorem dX11_condition_52 : decode cX11_condition 52 = .ok (.getfield 305, 3) := by decide +kernel
theorem dX11_condition_55 : decode cX11_condition 55 = .ok (.iload_n 1, 1) := by decide +kernel
theorem dX11_condition_56 : decode cX11_condition 56 = .ok (.iaload, 1) := by decide +kernel
theorem dX11_condition_57 : decode cX11_condition 57 = .ok (.goto 15, 3) := by decide +kernel
theorem dX11_condition_60 : decode cX11_condition 60 = .ok (.aload_n 0, 1) := by decide +kernel
theorem dX11_condition_61 : decode cX11_condition 61 = .ok (.getfield 44, 3) := by decide +kernel
theorem dX11_condition_64 : decode cX11_condition 64 = .ok (.getfield 294, 3) := by decide +kernel
theorem dX11_condition_67 : decode cX11_condition 67 = .ok (.getfield 306, 3) := by decide +kernel
theorem dX11_condition_70 : decode cX11_condition 70 = .ok (.iload_n 1, 1) := by decide +kernel
theorem dX11_condition_71 : decode cX11_condition 71 = .ok (.iaload, 1) := by decide +kernel
theorem dX11_condition_72 : decode cX11_condition 72 = .ok (.invokevirtual 103, 3) := by decide +kernel
theorem dX11_condition_75 : decode cX11_condition 75 = .ok (.ireturn, 1) := by decide +kernel
theorem dX11_lacking_0 : decode cX11_lacking 0 = .ok (.iconst 0, 1) := by decide +kernel
theorem dX11_lacking_1 : decode cX11_lacking 1 = .ok (.istore_n 2, 1) := by decide +kernel
theorem dX11_lacking_2 : decode cX11_lacking 2 = .ok (.aload_n 0, 1) := by decide +kernel
theorem dX11_lacking_3 : decode cX11_lacking 3 = .ok (.getfield 44, 3) := by decide +kernel
theorem dX11_lacking_6 : decode cX11_lacking 6 = .ok (.ifnonnull 7, 3) := by decide +kernel
theorem dX11_lacking_9 : decode cX11_lacking 9 = .ok (.iconst 0, 1) := by decide +kernel
theorem dX11_lacking_10 : decode cX11_lacking 10 = .ok (.goto 13, 3) := by decide +kernel
theorem dX11_lacking_13 : decode cX11_lacking 13 = .ok (.aload_n 0, 1) := by decide +kernel
theorem dX11_lacking_14 : decode cX11_lacking 14 = .ok (.getfield 44, 3) := by decide +kernel
theorem dX11_lacking_17 : decode cX11_lacking 17 = .ok (.getfield 96, 3) := by decide +kernel
theorem dX11_lacking_20 : decode cX11_lacking 20 = .ok (.getfield 116, 3) := by decide +kernel
theorem dX11_lacking_23 : decode cX11_lacking 23 = .ok (.istore_n 3, 1) := by decide +kernel
theorem dX11_lacking_24 : decode cX11_lacking 24 = .ok (.iconst 0, 1) := by decide +kernel
theorem dX11_lacking_25 : decode cX11_lacking 25 = .ok (.istore 4, 2) := by decide +kernel
theorem dX11_lacking_27 : decode cX11_lacking 27 = .ok (.iload 4, 2) := by decide +kernel
theorem dX11_lacking_29 : decode cX11_lacking 29 = .ok (.iload_n 3, 1) := by decide +kernel
theorem dX11_lacking_30 : decode cX11_lacking 30 = .ok (.if_icmp .ge 41, 3) := by decide +kernel
theorem dX11_lacking_33 : decode cX11_lacking 33 = .ok (.aload_n 0, 1) := by decide +kernel
theorem dX11_lacking_34 : decode cX11_lacking 34 = .ok (.iload 4, 2) := by decide +kernel
theorem dX11_lacking_36 : decode cX11_lacking 36 = .ok (.invokevirtual 151, 3) := by decide +kernel
theorem dX11_lacking_39 : decode cX11_lacking 39 = .ok (.ifCond .eq 26, 3) := by decide +kernel
theorem dX11_lacking_42 : decode cX11_lacking 42 = .ok (.aload_n 0, 1) := by decide +kernel
theorem dX11_lacking_43 : decode cX11_lacking 43 = .ok (.getfield 44, 3) := by decide +kernel
theorem dX11_lacking_46 : decode cX11_lacking 46 = .ok (.iload 4, 2) := by decide +kernel
theorem dX11_lacking_48 : decode cX11_lacking 48 = .ok (.invokevirtual 309, 3) := by decide +kernel
theorem dX11_lacking_51 : decode cX11_lacking 51 = .ok (.ifCond .eq 14, 3) := by decide +kernel
theorem dX11_lacking_54 : decode cX11_lacking 54 = .ok (.iload_n 2, 1) := by decide +kernel
theorem dX11_lacking_55 : decode cX11_lacking 55 = .ok (.iload_n 1, 1) := by decide +kernel
theorem dX11_lacking_56 : decode cX11_lacking 56 = .ok (.if_icmp .ne 6, 3) := by decide +kernel
theorem dX11_lacking_59 : decode cX11_lacking 59 = .ok (.iload 4, 2) := by decide +kernel
theorem dX11_lacking_61 : decode cX11_lacking 61 = .ok (.ireturn, 1) := by decide +kernel
theorem dX11_lacking_62 : decode cX11_lacking 62 = .ok (.iinc 2 1, 3) := by decide +kernel
theorem dX11_lacking_65 : decode cX11_lacking 65 = .ok (.iinc 4 1, 3) := by decide +kernel
theorem dX11_lacking_68 : decode cX11_lacking 68 = .ok (.goto (-41), 3) := by decide +kernel
theorem dX11_lacking_71 : decode cX11_lacking 71 = .ok (.new 312, 3) := by decide +kernel
theorem dX11_lacking_74 : decode cX11_lacking 74 = .ok (.dup, 1) := by decide +kernel
theorem dX11_lacking_75 : decode cX11_lacking 75 = .ok (.ldc_w 314, 3) := by decide +kernel
theorem dX11_lacking_78 : decode cX11_lacking 78 = .ok (.invokespecial 316, 3) := by decide +kernel
theorem dX11_lacking_81 : decode cX11_lacking 81 = .ok (.athrow, 1) := by decide +kernel
theorem dX11_size_0 : decode cX11_size 0 = .ok (.iload_n 1, 1) := by decide +kernel
theorem dX11_size_1 : decode cX11_size 1 = .ok (.tableswitch 99 0 3 #[31, 39, 61, 94], 31) := by decide +kernel
theorem dX11_size_32 : decode cX11_size 32 = .ok (.aload_n 0, 1) := by decide +kernel
theorem dX11_size_33 : decode cX11_size 33 = .ok (.getfield 16, 3) := by decide +kernel
theorem dX11_size_36 : decode cX11_size 36 = .ok (.getfield 58, 3) := by decide +kernel
theorem dX11_size_39 : decode cX11_size 39 = .ok (.ireturn, 1) := by decide +kernel
theorem dX11_size_40 : decode cX11_size 40 = .ok (.aload_n 0, 1) := by decide +kernel
theorem dX11_size_41 : decode cX11_size 41 = .ok (.getfield 33, 3) := by decide +kernel
theorem dX11_size_44 : decode cX11_size 44 = .ok (.getfield 89, 3) := by decide +kernel
theorem dX11_size_47 : decode cX11_size 47 = .ok (.ifCond .eq 13, 3) := by decide +kernel
theorem dX11_size_50 : decode cX11_size 50 = .ok (.aload_n 0, 1) := by decide +kernel
theorem dX11_size_51 : decode cX11_size 51 = .ok (.getfield 33, 3) := by decide +kernel
theorem dX11_size_54 : decode cX11_size 54 = .ok (.getfield 204, 3) := by decide +kernel
theorem dX11_size_57 : decode cX11_size 57 = .ok (.goto 4, 3) := by decide +kernel
theorem dX11_size_60 : decode cX11_size 60 = .ok (.iconst 0, 1) := by decide +kernel
theorem dX11_size_61 : decode cX11_size 61 = .ok (.ireturn, 1) := by decide +kernel
theorem dX11_size_62 : decode cX11_size 62 = .ok (.aload_n 0, 1) := by decide +kernel
theorem dX11_size_63 : decode cX11_size 63 = .ok (.getfield 44, 3) := by decide +kernel
theorem dX11_size_66 : decode cX11_size 66 = .ok (.ifnonnull 7, 3) := by decide +kernel
theorem dX11_size_69 : decode cX11_size 69 = .ok (.iconst 0, 1) := by decide +kernel
theorem dX11_size_70 : decode cX11_size 70 = .ok (.goto 24, 3) := by decide +kernel
theorem dX11_size_73 : decode cX11_size 73 = .ok (.aload_n 0, 1) := by decide +kernel
theorem dX11_size_74 : decode cX11_size 74 = .ok (.getfield 44, 3) := by decide +kernel
theorem dX11_size_77 : decode cX11_size 77 = .ok (.getfield 119, 3) := by decide +kernel
theorem dX11_size_80 : decode cX11_size 80 = .ok (.getfield 123, 3) := by decide +kernel
theorem dX11_size_83 : decode cX11_size 83 = .ok (.aload_n 0, 1) := by decide +kernel
theorem dX11_size_84 : decode cX11_size 84 = .ok (.getfield 44, 3) := by decide +kernel
theorem dX11_size_87 : decode cX11_size 87 = .ok (.getfield 119, 3) := by decide +kernel
theorem dX11_size_90 : decode cX11_size 90 = .ok (.invokevirtual 131, 3) := by decide +kernel
theorem dX11_size_93 : decode cX11_size 93 = .ok (.isub, 1) := by decide +kernel
theorem dX11_size_94 : decode cX11_size 94 = .ok (.ireturn, 1) := by decide +kernel
theorem dX11_size_95 : decode cX11_size 95 = .ok (.aload_n 0, 1) := by decide +kernel
theorem dX11_size_96 : decode cX11_size 96 = .ok (.invokevirtual 319, 3) := by decide +kernel
theorem dX11_size_99 : decode cX11_size 99 = .ok (.ireturn, 1) := by decide +kernel
theorem dX11_size_100 : decode cX11_size 100 = .ok (.iconst (-1), 1) := by decide +kernel
theorem dX11_size_101 : decode cX11_size 101 = .ok (.ireturn, 1) := by decide +kernel
theorem dX11_trouble_0 : decode cX11_trouble 0 = .ok (.aload_n 0, 1) := by decide +kernel
theorem dX11_trouble_1 : decode cX11_trouble 1 = .ok (.getfield 48, 3) := by decide +kernel
theorem dX11_trouble_4 : decode cX11_trouble 4 = .ok (.ireturn, 1) := by decide +kernel
theorem dX11_refused_0 : decode cX11_refused 0 = .ok (.aload_n 0, 1) := by decide +kernel
theorem dX11_refused_1 : decode cX11_refused 1 = .ok (.iload_n 1, 1) := by decide +kernel
theorem dX11_refused_2 : decode cX11_refused 2 = .ok (.putfield 48, 3) := by decide +kernel
theorem dX11_refused_5 : decode cX11_refused 5 = .ok (.iconst (-1), 1) := by decide +kernel
theorem dX11_refused_6 : decode cX11_refused 6 = .ok (.ireturn, 1) := by decide +kernel
theorem dX11_refusedValue_0 : decode cX11_refusedValue 0 = .ok (.aload_n 0, 1) := by decide +kernel
theorem dX11_refusedValue_1 : decode cX11_refusedValue 1 = .ok (.iload_n 1, 1) := by decide +kernel
theorem dX11_refusedValue_2 : decode cX11_refusedValue 2 = .ok (.putfield 48, 3) := by decide +kernel
theorem dX11_refusedValue_5 : decode cX11_refusedValue 5 = .ok (.ldc2_w 292, 3) := by decide +kernel
theorem dX11_refusedValue_8 : decode cX11_refusedValue 8 = .ok (.lreturn, 1) := by decide +kernel
theorem dX11_answered_0 : decode cX11_answered 0 = .ok (.aload_n 0, 1) := by decide +kernel
theorem dX11_answered_1 : decode cX11_answered 1 = .ok (.iconst 0, 1) := by decide +kernel
theorem dX11_answered_2 : decode cX11_answered 2 = .ok (.putfield 48, 3) := by decide +kernel
theorem dX11_answered_5 : decode cX11_answered 5 = .ok (.iload_n 1, 1) := by decide +kernel
theorem dX11_answered_6 : decode cX11_answered 6 = .ok (.ireturn, 1) := by decide +kernel
theorem dX11_answeredValue_0 : decode cX11_answeredValue 0 = .ok (.aload_n 0, 1) := by decide +kernel
theorem dX11_answeredValue_1 : decode cX11_answeredValue 1 = .ok (.iconst 0, 1) := by decide +kernel
theorem dX11_answeredValue_2 : decode cX11_answeredValue 2 = .ok (.putfield 48, 3) := by decide +kernel
theorem dX11_answeredValue_5 : decode cX11_answeredValue 5 = .ok (.lload_n 1, 1) := by decide +kernel
theorem dX11_answeredValue_6 : decode cX11_answeredValue 6 = .ok (.lreturn, 1) := by decide +kernel
theorem dX11_answeredOrNone_0 : decode cX11_answeredOrNone 0 = .ok (.iload_n 1, 1) := by decide +kernel
theorem dX11_answeredOrNone_1 : decode cX11_answeredOrNone 1 = .ok (.iconst (-1), 1) := by decide +kernel
theorem dX11_answeredOrNone_2 : decode cX11_answeredOrNone 2 = .ok (.if_icmp .ne 11, 3) := by decide +kernel
theorem dX11_answeredOrNone_5 : decode cX11_answeredOrNone 5 = .ok (.aload_n 0, 1) := by decide +kernel
theorem dX11_answeredOrNone_6 : decode cX11_answeredOrNone 6 = .ok (.iconst 1, 1) := by decide +kernel
theorem dX11_answeredOrNone_7 : decode cX11_answeredOrNone 7 = .ok (.invokevirtual 68, 3) := by decide +kernel
theorem dX11_answeredOrNone_10 : decode cX11_answeredOrNone 10 = .ok (.goto 8, 3) := by decide +kernel
theorem dX11_answeredOrNone_13 : decode cX11_answeredOrNone 13 = .ok (.aload_n 0, 1) := by decide +kernel
theorem dX11_answeredOrNone_14 : decode cX11_answeredOrNone 14 = .ok (.iload_n 1, 1) := by decide +kernel
theorem dX11_answeredOrNone_15 : decode cX11_answeredOrNone 15 = .ok (.invokevirtual 103, 3) := by decide +kernel
theorem dX11_answeredOrNone_18 : decode cX11_answeredOrNone 18 = .ok (.ireturn, 1) := by decide +kernel
theorem dX11_isOnTape_0 : decode cX11_isOnTape 0 = .ok (.iload_n 1, 1) := by decide +kernel
theorem dX11_isOnTape_1 : decode cX11_isOnTape 1 = .ok (.ifCond .lt 18, 3) := by decide +kernel
theorem dX11_isOnTape_4 : decode cX11_isOnTape 4 = .ok (.iload_n 1, 1) := by decide +kernel
theorem dX11_isOnTape_5 : decode cX11_isOnTape 5 = .ok (.aload_n 0, 1) := by decide +kernel
theorem dX11_isOnTape_6 : decode cX11_isOnTape 6 = .ok (.getfield 16, 3) := by decide +kernel
theorem dX11_isOnTape_9 : decode cX11_isOnTape 9 = .ok (.getfield 58, 3) := by decide +kernel
theorem dX11_isOnTape_12 : decode cX11_isOnTape 12 = .ok (.if_icmp .gt 7, 3) := by decide +kernel
theorem dX11_isOnTape_15 : decode cX11_isOnTape 15 = .ok (.iconst 1, 1) := by decide +kernel
theorem dX11_isOnTape_16 : decode cX11_isOnTape 16 = .ok (.goto 4, 3) := by decide +kernel
theorem dX11_isOnTape_19 : decode cX11_isOnTape 19 = .ok (.iconst 0, 1) := by decide +kernel
theorem dX11_isOnTape_20 : decode cX11_isOnTape 20 = .ok (.ireturn, 1) := by decide +kernel
theorem dX11_isColumn_0 : decode cX11_isColumn 0 = .ok (.aload_n 0, 1) := by decide +kernel
theorem dX11_isColumn_1 : decode cX11_isColumn 1 = .ok (.getfield 44, 3) := by decide +kernel
theorem dX11_isColumn_4 : decode cX11_isColumn 4 = .ok (.ifnull 22, 3) := by decide +kernel
theorem dX11_isColumn_7 : decode cX11_isColumn 7 = .ok (.iload_n 1, 1) := by decide +kernel
theorem dX11_isColumn_8 : decode cX11_isColumn 8 = .ok (.ifCond .lt 18, 3) := by decide +kernel
theorem dX11_isColumn_11 : decode cX11_isColumn 11 = .ok (.iload_n 1, 1) := by decide +kernel
theorem dX11_isColumn_12 : decode cX11_isColumn 12 = .ok (.aload_n 0, 1) := by decide +kernel
theorem dX11_isColumn_13 : decode cX11_isColumn 13 = .ok (.getfield 44, 3) := by decide +kernel
theorem dX11_isColumn_16 : decode cX11_isColumn 16 = .ok (.getfield 106, 3) := by decide +kernel
theorem dX11_isColumn_19 : decode cX11_isColumn 19 = .ok (.if_icmp .ge 7, 3) := by decide +kernel
theorem dX11_isColumn_22 : decode cX11_isColumn 22 = .ok (.iconst 1, 1) := by decide +kernel
theorem dX11_isColumn_23 : decode cX11_isColumn 23 = .ok (.goto 4, 3) := by decide +kernel
theorem dX11_isColumn_26 : decode cX11_isColumn 26 = .ok (.iconst 0, 1) := by decide +kernel
theorem dX11_isColumn_27 : decode cX11_isColumn 27 = .ok (.ireturn, 1) := by decide +kernel
theorem dX11_isRow_0 : decode cX11_isRow 0 = .ok (.aload_n 0, 1) := by decide +kernel
theorem dX11_isRow_1 : decode cX11_isRow 1 = .ok (.getfield 44, 3) := by decide +kernel
theorem dX11_isRow_4 : decode cX11_isRow 4 = .ok (.ifnull 21, 3) := by decide +kernel
theorem dX11_isRow_7 : decode cX11_isRow 7 = .ok (.aload_n 0, 1) := by decide +kernel
theorem dX11_isRow_8 : decode cX11_isRow 8 = .ok (.getfield 44, 3) := by decide +kernel
theorem dX11_isRow_11 : decode cX11_isRow 11 = .ok (.getfield 96, 3) := by decide +kernel
theorem dX11_isRow_14 : decode cX11_isRow 14 = .ok (.iload_n 1, 1) := by decide +kernel
theorem dX11_isRow_15 : decode cX11_isRow 15 = .ok (.invokevirtual 174, 3) := by decide +kernel
theorem dX11_isRow_18 : decode cX11_isRow 18 = .ok (.ifCond .eq 7, 3) := by decide +kernel
theorem dX11_isRow_21 : decode cX11_isRow 21 = .ok (.iconst 1, 1) := by decide +kernel
theorem dX11_isRow_22 : decode cX11_isRow 22 = .ok (.goto 4, 3) := by decide +kernel
theorem dX11_isRow_25 : decode cX11_isRow 25 = .ok (.iconst 0, 1) := by decide +kernel
theorem dX11_isRow_26 : decode cX11_isRow 26 = .ok (.ireturn, 1) := by decide +kernel
theorem dX11_isPageSize_0 : decode cX11_isPageSize 0 = .ok (.iload_n 0, 1) := by decide +kernel
theorem dX11_isPageSize_1 : decode cX11_isPageSize 1 = .ok (.iconst 1, 1) := by decide +kernel
theorem dX11_isPageSize_2 : decode cX11_isPageSize 2 = .ok (.if_icmp .lt 13, 3) := by decide +kernel
theorem dX11_isPageSize_5 : decode cX11_isPageSize 5 = .ok (.iload_n 0, 1) := by decide +kernel
theorem dX11_isPageSize_6 : decode cX11_isPageSize 6 = .ok (.bipush 20, 2) := by decide +kernel
theorem dX11_isPageSize_8 : decode cX11_isPageSize 8 = .ok (.if_icmp .gt 7, 3) := by decide +kernel
theorem dX11_isPageSize_11 : decode cX11_isPageSize 11 = .ok (.iconst 1, 1) := by decide +kernel
theorem dX11_isPageSize_12 : decode cX11_isPageSize 12 = .ok (.goto 4, 3) := by decide +kernel
theorem dX11_isPageSize_15 : decode cX11_isPageSize 15 = .ok (.iconst 0, 1) := by decide +kernel
theorem dX11_isPageSize_16 : decode cX11_isPageSize 16 = .ok (.ireturn, 1) := by decide +kernel
theorem dX11_isWordValue_0 : decode cX11_isWordValue 0 = .ok (.lload_n 0, 1) := by decide +kernel
theorem dX11_isWordValue_1 : decode cX11_isWordValue 1 = .ok (.lconst 0, 1) := by decide +kernel
theorem dX11_isWordValue_2 : decode cX11_isWordValue 2 = .ok (.lcmp, 1) := by decide +kernel
theorem dX11_isWordValue_3 : decode cX11_isWordValue 3 = .ok (.ifCond .le 11, 3) := by decide +kernel
theorem dX11_isWordValue_6 : decode cX11_isWordValue 6 = .ok (.lload_n 0, 1) := by decide +kernel
theorem dX11_isWordValue_7 : decode cX11_isWordValue 7 = .ok (.ldc2_w 322, 3) := by decide +kernel
theorem dX11_isWordValue_10 : decode cX11_isWordValue 10 = .ok (.lcmp, 1) := by decide +kernel
theorem dX11_isWordValue_11 : decode cX11_isWordValue 11 = .ok (.ifCond .lt 5, 3) := by decide +kernel
theorem dX11_isWordValue_14 : decode cX11_isWordValue 14 = .ok (.iconst 0, 1) := by decide +kernel
theorem dX11_isWordValue_15 : decode cX11_isWordValue 15 = .ok (.ireturn, 1) := by decide +kernel
theorem dX11_isWordValue_16 : decode cX11_isWordValue 16 = .ok (.iconst 0, 1) := by decide +kernel
theorem dX11_isWordValue_17 : decode cX11_isWordValue 17 = .ok (.istore_n 2, 1) := by decide +kernel
theorem dX11_isWordValue_18 : decode cX11_isWordValue 18 = .ok (.iload_n 2, 1) := by decide +kernel
theorem dX11_isWordValue_19 : decode cX11_isWordValue 19 = .ok (.bipush 48, 2) := by decide +kernel
theorem dX11_isWordValue_21 : decode cX11_isWordValue 21 = .ok (.if_icmp .ge 43, 3) := by decide +kernel
theorem dX11_isWordValue_24 : decode cX11_isWordValue 24 = .ok (.lload_n 0, 1) := by decide +kernel
theorem dX11_isWordValue_25 : decode cX11_isWordValue 25 = .ok (.iload_n 2, 1) := by decide +kernel
theorem dX11_isWordValue_26 : decode cX11_isWordValue 26 = .ok (.lshr, 1) := by decide +kernel
theorem dX11_isWordValue_27 : decode cX11_isWordValue 27 = .ok (.lconst 0, 1) := by decide +kernel
theorem dX11_isWordValue_28 : decode cX11_isWordValue 28 = .ok (.lcmp, 1) := by decide +kernel
theorem dX11_isWordValue_29 : decode cX11_isWordValue 29 = .ok (.ifCond .eq 35, 3) := by decide +kernel
theorem dX11_isWordValue_32 : decode cX11_isWordValue 32 = .ok (.lload_n 0, 1) := by decide +kernel
theorem dX11_isWordValue_33 : decode cX11_isWordValue 33 = .ok (.iload_n 2, 1) := by decide +kernel
theorem dX11_isWordValue_34 : decode cX11_isWordValue 34 = .ok (.lshr, 1) := by decide +kernel
theorem dX11_isWordValue_35 : decode cX11_isWordValue 35 = .ok (.ldc2_w 324, 3) := by decide +kernel
theorem dX11_isWordValue_38 : decode cX11_isWordValue 38 = .ok (.land, 1) := by decide +kernel
theorem dX11_isWordValue_39 : decode cX11_isWordValue 39 = .ok (.lstore_n 3, 1) := by decide +kernel
theorem dX11_isWordValue_40 : decode cX11_isWordValue 40 = .ok (.lload_n 3, 1) := by decide +kernel
theorem dX11_isWordValue_41 : decode cX11_isWordValue 41 = .ok (.ldc2_w 326, 3) := by decide +kernel
theorem dX11_isWordValue_44 : decode cX11_isWordValue 44 = .ok (.lcmp, 1) := by decide +kernel
theorem dX11_isWordValue_45 : decode cX11_isWordValue 45 = .ok (.ifCond .lt 11, 3) := by decide +kernel
theorem dX11_isWordValue_48 : decode cX11_isWordValue 48 = .ok (.lload_n 3, 1) := by decide +kernel
theorem dX11_isWordValue_49 : decode cX11_isWordValue 49 = .ok (.ldc2_w 328, 3) := by decide +kernel
theorem dX11_isWordValue_52 : decode cX11_isWordValue 52 = .ok (.lcmp, 1) := by decide +kernel
theorem dX11_isWordValue_53 : decode cX11_isWordValue 53 = .ok (.ifCond .le 5, 3) := by decide +kernel
theorem dX11_isWordValue_56 : decode cX11_isWordValue 56 = .ok (.iconst 0, 1) := by decide +kernel
theorem dX11_isWordValue_57 : decode cX11_isWordValue 57 = .ok (.ireturn, 1) := by decide +kernel
theorem dX11_isWordValue_58 : decode cX11_isWordValue 58 = .ok (.iinc 2 8, 3) := by decide +kernel
theorem dX11_isWordValue_61 : decode cX11_isWordValue 61 = .ok (.goto (-43), 3) := by decide +kernel
theorem dX11_isWordValue_64 : decode cX11_isWordValue 64 = .ok (.iconst 1, 1) := by decide +kernel
theorem dX11_isWordValue_65 : decode cX11_isWordValue 65 = .ok (.ireturn, 1) := by decide +kernel
theorem dX11_raisedWord_0 : decode cX11_raisedWord 0 = .ok (.lload_n 0, 1) := by decide +kernel
theorem dX11_raisedWord_1 : decode cX11_raisedWord 1 = .ok (.lstore_n 2, 1) := by decide +kernel
theorem dX11_raisedWord_2 : decode cX11_raisedWord 2 = .ok (.iconst 1, 1) := by decide +kernel
theorem dX11_raisedWord_3 : decode cX11_raisedWord 3 = .ok (.istore 4, 2) := by decide +kernel
theorem dX11_raisedWord_5 : decode cX11_raisedWord 5 = .ok (.iload 4, 2) := by decide +kernel
theorem dX11_raisedWord_7 : decode cX11_raisedWord 7 = .ok (.bipush 6, 2) := by decide +kernel
theorem dX11_raisedWord_9 : decode cX11_raisedWord 9 = .ok (.if_icmp .ge 22, 3) := by decide +kernel
theorem dX11_raisedWord_12 : decode cX11_raisedWord 12 = .ok (.lload_n 2, 1) := by decide +kernel
theorem dX11_raisedWord_13 : decode cX11_raisedWord 13 = .ok (.ldc2_w 330, 3) := by decide +kernel
theorem dX11_raisedWord_16 : decode cX11_raisedWord 16 = .ok (.lcmp, 1) := by decide +kernel
theorem dX11_raisedWord_17 : decode cX11_raisedWord 17 = .ok (.ifCond .ge 14, 3) := by decide +kernel
theorem dX11_raisedWord_20 : decode cX11_raisedWord 20 = .ok (.lload_n 2, 1) := by decide +kernel
theorem dX11_raisedWord_21 : decode cX11_raisedWord 21 = .ok (.bipush 8, 2) := by decide +kernel
theorem dX11_raisedWord_23 : decode cX11_raisedWord 23 = .ok (.lshl, 1) := by decide +kernel
theorem dX11_raisedWord_24 : decode cX11_raisedWord 24 = .ok (.lstore_n 2, 1) := by decide +kernel
theorem dX11_raisedWord_25 : decode cX11_raisedWord 25 = .ok (.iinc 4 1, 3) := by decide +kernel
theorem dX11_raisedWord_28 : decode cX11_raisedWord 28 = .ok (.goto (-23), 3) := by decide +kernel
theorem dX11_raisedWord_31 : decode cX11_raisedWord 31 = .ok (.lload_n 2, 1) := by decide +kernel
theorem dX11_raisedWord_32 : decode cX11_raisedWord 32 = .ok (.lreturn, 1) := by decide +kernel
theorem dX11_hasBegun_0 : decode cX11_hasBegun 0 = .ok (.aload_n 0, 1) := by decide +kernel
theorem dX11_hasBegun_1 : decode cX11_hasBegun 1 = .ok (.getfield 44, 3) := by decide +kernel
theorem dX11_hasBegun_4 : decode cX11_hasBegun 4 = .ok (.ifnull 28, 3) := by decide +kernel
theorem dX11_hasBegun_7 : decode cX11_hasBegun 7 = .ok (.iload_n 1, 1) := by decide +kernel
theorem dX11_hasBegun_8 : decode cX11_hasBegun 8 = .ok (.ifCond .lt 24, 3) := by decide +kernel
theorem dX11_hasBegun_11 : decode cX11_hasBegun 11 = .ok (.iload_n 1, 1) := by decide +kernel
theorem dX11_hasBegun_12 : decode cX11_hasBegun 12 = .ok (.iconst 4, 1) := by decide +kernel
theorem dX11_hasBegun_13 : decode cX11_hasBegun 13 = .ok (.if_icmp .ge 19, 3) := by decide +kernel
theorem dX11_hasBegun_16 : decode cX11_hasBegun 16 = .ok (.aload_n 0, 1) := by decide +kernel
theorem dX11_hasBegun_17 : decode cX11_hasBegun 17 = .ok (.getfield 39, 3) := by decide +kernel
theorem dX11_hasBegun_20 : decode cX11_hasBegun 20 = .ok (.iload_n 1, 1) := by decide +kernel
theorem dX11_hasBegun_21 : decode cX11_hasBegun 21 = .ok (.aaload, 1) := by decide +kernel
theorem dX11_hasBegun_22 : decode cX11_hasBegun 22 = .ok (.getfield 332, 3) := by decide +kernel
theorem dX11_hasBegun_25 : decode cX11_hasBegun 25 = .ok (.ifCond .eq 7, 3) := by decide +kernel
theorem dX11_hasBegun_28 : decode cX11_hasBegun 28 = .ok (.iconst 1, 1) := by decide +kernel
theorem dX11_hasBegun_29 : decode cX11_hasBegun 29 = .ok (.goto 4, 3) := by decide +kernel
theorem dX11_hasBegun_32 : decode cX11_hasBegun 32 = .ok (.iconst 0, 1) := by decide +kernel
theorem dX11_hasBegun_33 : decode cX11_hasBegun 33 = .ok (.ireturn, 1) := by decide +kernel
theorem dX11_rankNow_0 : decode cX11_rankNow 0 = .ok (.aload_n 0, 1) := by decide +kernel
theorem dX11_rankNow_1 : decode cX11_rankNow 1 = .ok (.getfield 26, 3) := by decide +kernel
theorem dX11_rankNow_4 : decode cX11_rankNow 4 = .ok (.aload_n 0, 1) := by decide +kernel
theorem dX11_rankNow_5 : decode cX11_rankNow 5 = .ok (.getfield 44, 3) := by decide +kernel
theorem dX11_rankNow_8 : decode cX11_rankNow 8 = .ok (.aload_n 0, 1) := by decide +kernel
theorem dX11_rankNow_9 : decode cX11_rankNow 9 = .ok (.getfield 44, 3) := by decide +kernel
theorem dX11_rankNow_12 : decode cX11_rankNow 12 = .ok (.getfield 119, 3) := by decide +kernel
theorem dX11_rankNow_15 : decode cX11_rankNow 15 = .ok (.getfield 123, 3) := by decide +kernel
theorem dX11_rankNow_18 : decode cX11_rankNow 18 = .ok (.invokevirtual 169, 3) := by decide +kernel
theorem dX11_rankNow_21 : decode cX11_rankNow 21 = .ok (.aload_n 0, 1) := by decide +kernel
theorem dX11_rankNow_22 : decode cX11_rankNow 22 = .ok (.getfield 26, 3) := by decide +kernel
theorem dX11_rankNow_25 : decode cX11_rankNow 25 = .ok (.iload_n 1, 1) := by decide +kernel
theorem dX11_rankNow_26 : decode cX11_rankNow 26 = .ok (.invokevirtual 335, 3) := by decide +kernel
theorem dX11_rankNow_29 : decode cX11_rankNow 29 = .ok (.ireturn, 1) := by decide +kernel
theorem dX11_keyNow_0 : decode cX11_keyNow 0 = .ok (.aload_n 0, 1) := by decide +kernel
theorem dX11_keyNow_1 : decode cX11_keyNow 1 = .ok (.getfield 26, 3) := by decide +kernel
theorem dX11_keyNow_4 : decode cX11_keyNow 4 = .ok (.aload_n 0, 1) := by decide +kernel
theorem dX11_keyNow_5 : decode cX11_keyNow 5 = .ok (.getfield 44, 3) := by decide +kernel
theorem dX11_keyNow_8 : decode cX11_keyNow 8 = .ok (.aload_n 0, 1) := by decide +kernel
theorem dX11_keyNow_9 : decode cX11_keyNow 9 = .ok (.getfield 44, 3) := by decide +kernel
theorem dX11_keyNow_12 : decode cX11_keyNow 12 = .ok (.getfield 119, 3) := by decide +kernel
theorem dX11_keyNow_15 : decode cX11_keyNow 15 = .ok (.getfield 123, 3) := by decide +kernel
theorem dX11_keyNow_18 : decode cX11_keyNow 18 = .ok (.invokevirtual 169, 3) := by decide +kernel
theorem dX11_keyNow_21 : decode cX11_keyNow 21 = .ok (.aload_n 0, 1) := by decide +kernel
theorem dX11_keyNow_22 : decode cX11_keyNow 22 = .ok (.getfield 26, 3) := by decide +kernel
theorem dX11_keyNow_25 : decode cX11_keyNow 25 = .ok (.aload_n 0, 1) := by decide +kernel
theorem dX11_keyNow_26 : decode cX11_keyNow 26 = .ok (.getfield 26, 3) := by decide +kernel
theorem dX11_keyNow_29 : decode cX11_keyNow 29 = .ok (.iload_n 1, 1) := by decide +kernel
theorem dX11_keyNow_30 : decode cX11_keyNow 30 = .ok (.invokevirtual 335, 3) := by decide +kernel
theorem dX11_keyNow_33 : decode cX11_keyNow 33 = .ok (.invokevirtual 338, 3) := by decide +kernel
theorem dX11_keyNow_36 : decode cX11_keyNow 36 = .ok (.areturn, 1) := by decide +kernel
theorem dX11_pageByToken_0 : decode cX11_pageByToken 0 = .ok (.aload_n 0, 1) := by decide +kernel
theorem dX11_pageByToken_1 : decode cX11_pageByToken 1 = .ok (.getfield 44, 3) := by decide +kernel
theorem dX11_pageByToken_4 : decode cX11_pageByToken 4 = .ok (.ifnonnull 9, 3) := by decide +kernel
theorem dX11_pageByToken_7 : decode cX11_pageByToken 7 = .ok (.aload_n 0, 1) := by decide +kernel
theorem dX11_pageByToken_8 : decode cX11_pageByToken 8 = .ok (.iconst 1, 1) := by decide +kernel
theorem dX11_pageByToken_9 : decode cX11_pageByToken 9 = .ok (.invokevirtual 68, 3) := by decide +kernel
theorem dX11_pageByToken_12 : decode cX11_pageByToken 12 = .ok (.ireturn, 1) := by decide +kernel
theorem dX11_pageByToken_13 : decode cX11_pageByToken 13 = .ok (.aload_n 0, 1) := by decide +kernel
theorem dX11_pageByToken_14 : decode cX11_pageByToken 14 = .ok (.iload_n 1, 1) := by decide +kernel
theorem dX11_pageByToken_15 : decode cX11_pageByToken 15 = .ok (.invokevirtual 64, 3) := by decide +kernel
theorem dX11_pageByToken_18 : decode cX11_pageByToken 18 = .ok (.ifCond .ne 9, 3) := by decide +kernel
theorem dX11_pageByToken_21 : decode cX11_pageByToken 21 = .ok (.aload_n 0, 1) := by decide +kernel
theorem dX11_pageByToken_22 : decode cX11_pageByToken 22 = .ok (.iconst 2, 1) := by decide +kernel
theorem dX11_pageByToken_23 : decode cX11_pageByToken 23 = .ok (.invokevirtual 68, 3) := by decide +kernel
theorem dX11_pageByToken_26 : decode cX11_pageByToken 26 = .ok (.ireturn, 1) := by decide +kernel
theorem dX11_pageByToken_27 : decode cX11_pageByToken 27 = .ok (.aload_n 0, 1) := by decide +kernel
theorem dX11_pageByToken_28 : decode cX11_pageByToken 28 = .ok (.iload_n 1, 1) := by decide +kernel
theorem dX11_pageByToken_29 : decode cX11_pageByToken 29 = .ok (.invokevirtual 236, 3) := by decide +kernel
theorem dX11_pageByToken_32 : decode cX11_pageByToken 32 = .ok (.istore_n 3, 1) := by decide +kernel
theorem dX11_pageByToken_33 : decode cX11_pageByToken 33 = .ok (.iload_n 3, 1) := by decide +kernel
theorem dX11_pageByToken_34 : decode cX11_pageByToken 34 = .ok (.ifCond .eq 16, 3) := by decide +kernel
theorem dX11_pageByToken_37 : decode cX11_pageByToken 37 = .ok (.aload_n 0, 1) := by decide +kernel
theorem dX11_pageByToken_38 : decode cX11_pageByToken 38 = .ok (.getfield 16, 3) := by decide +kernel
theorem dX11_pageByToken_41 : decode cX11_pageByToken 41 = .ok (.invokevirtual 84, 3) := by decide +kernel
theorem dX11_pageByToken_44 : decode cX11_pageByToken 44 = .ok (.aload_n 0, 1) := by decide +kernel
theorem dX11_pageByToken_45 : decode cX11_pageByToken 45 = .ok (.iload_n 3, 1) := by decide +kernel
theorem dX11_pageByToken_46 : decode cX11_pageByToken 46 = .ok (.invokevirtual 68, 3) := by decide +kernel
theorem dX11_pageByToken_49 : decode cX11_pageByToken 49 = .ok (.ireturn, 1) := by decide +kernel
theorem dX11_pageByToken_50 : decode cX11_pageByToken 50 = .ok (.aload_n 0, 1) := by decide +kernel
theorem dX11_pageByToken_51 : decode cX11_pageByToken 51 = .ok (.getfield 16, 3) := by decide +kernel
theorem dX11_pageByToken_54 : decode cX11_pageByToken 54 = .ok (.iconst 2, 1) := by decide +kernel
theorem dX11_pageByToken_55 : decode cX11_pageByToken 55 = .ok (.invokevirtual 181, 3) := by decide +kernel
theorem dX11_pageByToken_58 : decode cX11_pageByToken 58 = .ok (.istore 4, 2) := by decide +kernel
theorem dX11_pageByToken_60 : decode cX11_pageByToken 60 = .ok (.aload_n 0, 1) := by decide +kernel
theorem dX11_pageByToken_61 : decode cX11_pageByToken 61 = .ok (.getfield 16, 3) := by decide +kernel
theorem dX11_pageByToken_64 : decode cX11_pageByToken 64 = .ok (.iconst 3, 1) := by decide +kernel
theorem dX11_pageByToken_65 : decode cX11_pageByToken 65 = .ok (.invokevirtual 341, 3) := by decide +kernel
theorem dX11_pageByToken_68 : decode cX11_pageByToken 68 = .ok (.istore 5, 2) := by decide +kernel
theorem dX11_pageByToken_70 : decode cX11_pageByToken 70 = .ok (.aload_n 0, 1) := by decide +kernel
theorem dX11_pageByToken_71 : decode cX11_pageByToken 71 = .ok (.getfield 20, 3) := by decide +kernel
theorem dX11_pageByToken_74 : decode cX11_pageByToken 74 = .ok (.invokevirtual 84, 3) := by decide +kernel
theorem dX11_pageByToken_77 : decode cX11_pageByToken 77 = .ok (.aload_n 0, 1) := by decide +kernel
theorem dX11_pageByToken_78 : decode cX11_pageByToken 78 = .ok (.getfield 20, 3) := by decide +kernel
theorem dX11_pageByToken_81 : decode cX11_pageByToken 81 = .ok (.aload_n 0, 1) := by decide +kernel
theorem dX11_pageByToken_82 : decode cX11_pageByToken 82 = .ok (.getfield 16, 3) := by decide +kernel
theorem dX11_pageByToken_85 : decode cX11_pageByToken 85 = .ok (.iconst 5, 1) := by decide +kernel
theorem dX11_pageByToken_86 : decode cX11_pageByToken 86 = .ok (.iload_n 1, 1) := by decide +kernel
theorem dX11_pageByToken_87 : decode cX11_pageByToken 87 = .ok (.iconst 1, 1) := by decide +kernel
theorem dX11_pageByToken_88 : decode cX11_pageByToken 88 = .ok (.isub, 1) := by decide +kernel
theorem dX11_pageByToken_89 : decode cX11_pageByToken 89 = .ok (.invokevirtual 344, 3) := by decide +kernel
theorem dX11_pageByToken_92 : decode cX11_pageByToken 92 = .ok (.aload_n 0, 1) := by decide +kernel
theorem dX11_pageByToken_93 : decode cX11_pageByToken 93 = .ok (.getfield 26, 3) := by decide +kernel
theorem dX11_pageByToken_96 : decode cX11_pageByToken 96 = .ok (.aload_n 0, 1) := by decide +kernel
theorem dX11_pageByToken_97 : decode cX11_pageByToken 97 = .ok (.getfield 44, 3) := by decide +kernel
theorem dX11_pageByToken_100 : decode cX11_pageByToken 100 = .ok (.iload 5, 2) := by decide +kernel
theorem dX11_pageByToken_102 : decode cX11_pageByToken 102 = .ok (.ifCond .ne 16, 3) := by decide +kernel
theorem dX11_pageByToken_105 : decode cX11_pageByToken 105 = .ok (.aload_n 0, 1) := by decide +kernel
theorem dX11_pageByToken_106 : decode cX11_pageByToken 106 = .ok (.getfield 44, 3) := by decide +kernel
theorem dX11_pageByToken_109 : decode cX11_pageByToken 109 = .ok (.getfield 119, 3) := by decide +kernel
theorem dX11_pageByToken_112 : decode cX11_pageByToken 112 = .ok (.getfield 123, 3) := by decide +kernel
theorem dX11_pageByToken_115 : decode cX11_pageByToken 115 = .ok (.goto 7, 3) := by decide +kernel
theorem dX11_pageByToken_118 : decode cX11_pageByToken 118 = .ok (.iload 5, 2) := by decide +kernel
theorem dX11_pageByToken_120 : decode cX11_pageByToken 120 = .ok (.iconst 1, 1) := by decide +kernel
theorem dX11_pageByToken_121 : decode cX11_pageByToken 121 = .ok (.isub, 1) := by decide +kernel
theorem dX11_pageByToken_122 : decode cX11_pageByToken 122 = .ok (.invokevirtual 169, 3) := by decide +kernel
theorem dX11_pageByToken_125 : decode cX11_pageByToken 125 = .ok (.aload_n 0, 1) := by decide +kernel
theorem dX11_pageByToken_126 : decode cX11_pageByToken 126 = .ok (.getfield 26, 3) := by decide +kernel
theorem dX11_pageByToken_129 : decode cX11_pageByToken 129 = .ok (.aload_n 0, 1) := by decide +kernel
theorem dX11_pageByToken_130 : decode cX11_pageByToken 130 = .ok (.getfield 20, 3) := by decide +kernel
theorem dX11_pageByToken_133 : decode cX11_pageByToken 133 = .ok (.iload 4, 2) := by decide +kernel
theorem dX11_pageByToken_135 : decode cX11_pageByToken 135 = .ok (.iload_n 2, 1) := by decide +kernel
theorem dX11_pageByToken_136 : decode cX11_pageByToken 136 = .ok (.invokevirtual 348, 3) := by decide +kernel
theorem dX11_pageByToken_139 : decode cX11_pageByToken 139 = .ok (.aload_n 0, 1) := by decide +kernel
theorem dX11_pageByToken_140 : decode cX11_pageByToken 140 = .ok (.getfield 33, 3) := by decide +kernel
theorem dX11_pageByToken_143 : decode cX11_pageByToken 143 = .ok (.aload_n 0, 1) := by decide +kernel
theorem dX11_pageByToken_144 : decode cX11_pageByToken 144 = .ok (.getfield 26, 3) := by decide +kernel
theorem dX11_pageByToken_147 : decode cX11_pageByToken 147 = .ok (.iload 4, 2) := by decide +kernel
theorem dX11_pageByToken_149 : decode cX11_pageByToken 149 = .ok (.iload 5, 2) := by decide +kernel
theorem dX11_pageByToken_151 : decode cX11_pageByToken 151 = .ok (.invokevirtual 200, 3) := by decide +kernel
theorem dX11_pageByToken_154 : decode cX11_pageByToken 154 = .ok (.aload_n 0, 1) := by decide +kernel
theorem dX11_pageByToken_155 : decode cX11_pageByToken 155 = .ok (.getfield 33, 3) := by decide +kernel
theorem dX11_pageByToken_158 : decode cX11_pageByToken 158 = .ok (.aload_n 0, 1) := by decide +kernel
theorem dX11_pageByToken_159 : decode cX11_pageByToken 159 = .ok (.getfield 16, 3) := by decide +kernel
theorem dX11_pageByToken_162 : decode cX11_pageByToken 162 = .ok (.iload_n 1, 1) := by decide +kernel
theorem dX11_pageByToken_163 : decode cX11_pageByToken 163 = .ok (.aload_n 0, 1) := by decide +kernel
theorem dX11_pageByToken_164 : decode cX11_pageByToken 164 = .ok (.getfield 26, 3) := by decide +kernel
theorem dX11_pageByToken_167 : decode cX11_pageByToken 167 = .ok (.aload_n 0, 1) := by decide +kernel
theorem dX11_pageByToken_168 : decode cX11_pageByToken 168 = .ok (.getfield 20, 3) := by decide +kernel
theorem dX11_pageByToken_171 : decode cX11_pageByToken 171 = .ok (.invokevirtual 352, 3) := by decide +kernel
theorem dX11_pageByToken_174 : decode cX11_pageByToken 174 = .ok (.aload_n 0, 1) := by decide +kernel
theorem dX11_pageByToken_175 : decode cX11_pageByToken 175 = .ok (.getfield 16, 3) := by decide +kernel
theorem dX11_pageByToken_178 : decode cX11_pageByToken 178 = .ok (.invokevirtual 84, 3) := by decide +kernel
theorem dX11_pageByToken_181 : decode cX11_pageByToken 181 = .ok (.aload_n 0, 1) := by decide +kernel
theorem dX11_pageByToken_182 : decode cX11_pageByToken 182 = .ok (.aload_n 0, 1) := by decide +kernel
theorem dX11_pageByToken_183 : decode cX11_pageByToken 183 = .ok (.getfield 33, 3) := by decide +kernel
theorem dX11_pageByToken_186 : decode cX11_pageByToken 186 = .ok (.getfield 204, 3) := by decide +kernel
theorem dX11_pageByToken_189 : decode cX11_pageByToken 189 = .ok (.invokevirtual 103, 3) := by decide +kernel
theorem dX11_pageByToken_192 : decode cX11_pageByToken 192 = .ok (.ireturn, 1) := by decide +kernel
theorem dX11_troubleOfToken_0 : decode cX11_troubleOfToken 0 = .ok (.iload_n 1, 1) := by decide +kernel
theorem dX11_troubleOfToken_1 : decode cX11_troubleOfToken 1 = .ok (.bipush 8, 2) := by decide +kernel
theorem dX11_troubleOfToken_3 : decode cX11_troubleOfToken 3 = .ok (.if_icmp .lt 53, 3) := by decide +kernel
theorem dX11_troubleOfToken_6 : decode cX11_troubleOfToken 6 = .ok (.aload_n 0, 1) := by decide +kernel
theorem dX11_troubleOfToken_7 : decode cX11_troubleOfToken 7 = .ok (.getfield 16, 3) := by decide +kernel
theorem dX11_troubleOfToken_10 : decode cX11_troubleOfToken 10 = .ok (.iconst 0, 1) := by decide +kernel
theorem dX11_troubleOfToken_11 : decode cX11_troubleOfToken 11 = .ok (.invokevirtual 181, 3) := by decide +kernel
theorem dX11_troubleOfToken_14 : decode cX11_troubleOfToken 14 = .ok (.bipush 84, 2) := by decide +kernel
theorem dX11_troubleOfToken_16 : decode cX11_troubleOfToken 16 = .ok (.if_icmp .ne 40, 3) := by decide +kernel
theorem dX11_troubleOfToken_19 : decode cX11_troubleOfToken 19 = .ok (.aload_n 0, 1) := by decide +kernel
theorem dX11_troubleOfToken_20 : decode cX11_troubleOfToken 20 = .ok (.getfield 16, 3) := by decide +kernel
theorem dX11_troubleOfToken_23 : decode cX11_troubleOfToken 23 = .ok (.iload_n 1, 1) := by decide +kernel
theorem dX11_troubleOfToken_24 : decode cX11_troubleOfToken 24 = .ok (.iconst 1, 1) := by decide +kernel
theorem dX11_troubleOfToken_25 : decode cX11_troubleOfToken 25 = .ok (.isub, 1) := by decide +kernel
theorem dX11_troubleOfToken_26 : decode cX11_troubleOfToken 26 = .ok (.invokevirtual 181, 3) := by decide +kernel
theorem dX11_troubleOfToken_29 : decode cX11_troubleOfToken 29 = .ok (.aload_n 0, 1) := by decide +kernel
theorem dX11_troubleOfToken_30 : decode cX11_troubleOfToken 30 = .ok (.getfield 16, 3) := by decide +kernel
theorem dX11_troubleOfToken_33 : decode cX11_troubleOfToken 33 = .ok (.iload_n 1, 1) := by decide +kernel
theorem dX11_troubleOfToken_34 : decode cX11_troubleOfToken 34 = .ok (.iconst 1, 1) := by decide +kernel
theorem dX11_troubleOfToken_35 : decode cX11_troubleOfToken 35 = .ok (.isub, 1) := by decide +kernel
theorem dX11_troubleOfToken_36 : decode cX11_troubleOfToken 36 = .ok (.invokevirtual 356, 3) := by decide +kernel
theorem dX11_troubleOfToken_39 : decode cX11_troubleOfToken 39 = .ok (.if_icmp .ne 17, 3) := by decide +kernel
theorem dX11_troubleOfToken_42 : decode cX11_troubleOfToken 42 = .ok (.aload_n 0, 1) := by decide +kernel
theorem dX11_troubleOfToken_43 : decode cX11_troubleOfToken 43 = .ok (.getfield 16, 3) := by decide +kernel
theorem dX11_troubleOfToken_46 : decode cX11_troubleOfToken 46 = .ok (.iconst 2, 1) := by decide +kernel
theorem dX11_troubleOfToken_47 : decode cX11_troubleOfToken 47 = .ok (.invokevirtual 181, 3) := by decide +kernel
theorem dX11_troubleOfToken_50 : decode cX11_troubleOfToken 50 = .ok (.invokestatic 193, 3) := by decide +kernel
theorem dX11_troubleOfToken_53 : decode cX11_troubleOfToken 53 = .ok (.ifCond .ne 6, 3) := by decide +kernel
theorem dX11_troubleOfToken_56 : decode cX11_troubleOfToken 56 = .ok (.bipush 6, 2) := by decide +kernel
theorem dX11_troubleOfToken_58 : decode cX11_troubleOfToken 58 = .ok (.ireturn, 1) := by decide +kernel
theorem dX11_troubleOfToken_59 : decode cX11_troubleOfToken 59 = .ok (.aload_n 0, 1) := by decide +kernel
theorem dX11_troubleOfToken_60 : decode cX11_troubleOfToken 60 = .ok (.getfield 16, 3) := by decide +kernel
theorem dX11_troubleOfToken_63 : decode cX11_troubleOfToken 63 = .ok (.iconst 1, 1) := by decide +kernel
theorem dX11_troubleOfToken_64 : decode cX11_troubleOfToken 64 = .ok (.invokevirtual 181, 3) := by decide +kernel
theorem dX11_troubleOfToken_67 : decode cX11_troubleOfToken 67 = .ok (.aload_n 0, 1) := by decide +kernel
theorem dX11_troubleOfToken_68 : decode cX11_troubleOfToken 68 = .ok (.getfield 44, 3) := by decide +kernel
theorem dX11_troubleOfToken_71 : decode cX11_troubleOfToken 71 = .ok (.getfield 128, 3) := by decide +kernel
theorem dX11_troubleOfToken_74 : decode cX11_troubleOfToken 74 = .ok (.sipush 255, 3) := by decide +kernel
theorem dX11_troubleOfToken_77 : decode cX11_troubleOfToken 77 = .ok (.iand, 1) := by decide +kernel
theorem dX11_troubleOfToken_78 : decode cX11_troubleOfToken 78 = .ok (.if_icmp .eq 6, 3) := by decide +kernel
theorem dX11_troubleOfToken_81 : decode cX11_troubleOfToken 81 = .ok (.bipush 7, 2) := by decide +kernel
theorem dX11_troubleOfToken_83 : decode cX11_troubleOfToken 83 = .ok (.ireturn, 1) := by decide +kernel
theorem dX11_troubleOfToken_84 : decode cX11_troubleOfToken 84 = .ok (.aload_n 0, 1) := by decide +kernel
theorem dX11_troubleOfToken_85 : decode cX11_troubleOfToken 85 = .ok (.getfield 16, 3) := by decide +kernel
theorem dX11_troubleOfToken_88 : decode cX11_troubleOfToken 88 = .ok (.iconst 3, 1) := by decide +kernel
theorem dX11_troubleOfToken_89 : decode cX11_troubleOfToken 89 = .ok (.invokevirtual 341, 3) := by decide +kernel
theorem dX11_troubleOfToken_92 : decode cX11_troubleOfToken 92 = .ok (.istore_n 2, 1) := by decide +kernel
theorem dX11_troubleOfToken_93 : decode cX11_troubleOfToken 93 = .ok (.iload_n 2, 1) := by decide +kernel
theorem dX11_troubleOfToken_94 : decode cX11_troubleOfToken 94 = .ok (.ifCond .eq 24, 3) := by decide +kernel
theorem dX11_troubleOfToken_97 : decode cX11_troubleOfToken 97 = .ok (.aload_n 0, 1) := by decide +kernel
theorem dX11_troubleOfToken_98 : decode cX11_troubleOfToken 98 = .ok (.getfield 44, 3) := by decide +kernel
theorem dX11_troubleOfToken_101 : decode cX11_troubleOfToken 101 = .ok (.getfield 119, 3) := by decide +kernel
theorem dX11_troubleOfToken_104 : decode cX11_troubleOfToken 104 = .ok (.iload_n 2, 1) := by decide +kernel
theorem dX11_troubleOfToken_105 : decode cX11_troubleOfToken 105 = .ok (.iconst 1, 1) := by decide +kernel
theorem dX11_troubleOfToken_106 : decode cX11_troubleOfToken 106 = .ok (.isub, 1) := by decide +kernel
theorem dX11_troubleOfToken_107 : decode cX11_troubleOfToken 107 = .ok (.invokevirtual 166, 3) := by decide +kernel
theorem dX11_troubleOfToken_110 : decode cX11_troubleOfToken 110 = .ok (.ifCond .ne 8, 3) := by decide +kernel
theorem dX11_troubleOfToken_113 : decode cX11_troubleOfToken 113 = .ok (.bipush 8, 2) := by decide +kernel
theorem dX11_troubleOfToken_115 : decode cX11_troubleOfToken 115 = .ok (.goto 4, 3) := by decide +kernel
theorem dX11_troubleOfToken_118 : decode cX11_troubleOfToken 118 = .ok (.iconst 0, 1) := by decide +kernel
theorem dX11_troubleOfToken_119 : decode cX11_troubleOfToken 119 = .ok (.ireturn, 1) := by decide +kernel
theorem dX11_stepReader_0 : decode cX11_stepReader 0 = .ok (.aload_n 0, 1) := by decide +kernel
theorem dX11_stepReader_1 : decode cX11_stepReader 1 = .ok (.iload_n 1, 1) := by decide +kernel
theorem dX11_stepReader_2 : decode cX11_stepReader 2 = .ok (.invokevirtual 246, 3) := by decide +kernel
theorem dX11_stepReader_5 : decode cX11_stepReader 5 = .ok (.ifCond .ne 9, 3) := by decide +kernel
theorem dX11_stepReader_8 : decode cX11_stepReader 8 = .ok (.aload_n 0, 1) := by decide +kernel
theorem dX11_stepReader_9 : decode cX11_stepReader 9 = .ok (.iconst 1, 1) := by decide +kernel
theorem dX11_stepReader_10 : decode cX11_stepReader 10 = .ok (.invokevirtual 68, 3) := by decide +kernel
theorem dX11_stepReader_13 : decode cX11_stepReader 13 = .ok (.ireturn, 1) := by decide +kernel
theorem dX11_stepReader_14 : decode cX11_stepReader 14 = .ok (.aload_n 0, 1) := by decide +kernel
theorem dX11_stepReader_15 : decode cX11_stepReader 15 = .ok (.getfield 39, 3) := by decide +kernel
theorem dX11_stepReader_18 : decode cX11_stepReader 18 = .ok (.iload_n 1, 1) := by decide +kernel
theorem dX11_stepReader_19 : decode cX11_stepReader 19 = .ok (.aaload, 1) := by decide +kernel
theorem dX11_stepReader_20 : decode cX11_stepReader 20 = .ok (.astore_n 3, 1) := by decide +kernel
theorem dX11_stepReader_21 : decode cX11_stepReader 21 = .ok (.aload_n 3, 1) := by decide +kernel
theorem dX11_stepReader_22 : decode cX11_stepReader 22 = .ok (.getfield 359, 3) := by decide +kernel
theorem dX11_stepReader_25 : decode cX11_stepReader 25 = .ok (.ifCond .eq 10, 3) := by decide +kernel
theorem dX11_stepReader_28 : decode cX11_stepReader 28 = .ok (.aload_n 3, 1) := by decide +kernel
theorem dX11_stepReader_29 : decode cX11_stepReader 29 = .ok (.getfield 362, 3) := by decide +kernel
theorem dX11_stepReader_32 : decode cX11_stepReader 32 = .ok (.goto 13, 3) := by decide +kernel
theorem dX11_stepReader_35 : decode cX11_stepReader 35 = .ok (.aload_n 0, 1) := by decide +kernel
theorem dX11_stepReader_36 : decode cX11_stepReader 36 = .ok (.getfield 44, 3) := by decide +kernel
theorem dX11_stepReader_39 : decode cX11_stepReader 39 = .ok (.getfield 119, 3) := by decide +kernel
theorem dX11_stepReader_42 : decode cX11_stepReader 42 = .ok (.getfield 123, 3) := by decide +kernel
theorem dX11_stepReader_45 : decode cX11_stepReader 45 = .ok (.istore 4, 2) := by decide +kernel
theorem dX11_stepReader_47 : decode cX11_stepReader 47 = .ok (.aload_n 0, 1) := by decide +kernel
theorem dX11_stepReader_48 : decode cX11_stepReader 48 = .ok (.getfield 44, 3) := by decide +kernel
theorem dX11_stepReader_51 : decode cX11_stepReader 51 = .ok (.getfield 119, 3) := by decide +kernel
theorem dX11_stepReader_54 : decode cX11_stepReader 54 = .ok (.iload 4, 2) := by decide +kernel
theorem dX11_stepReader_56 : decode cX11_stepReader 56 = .ok (.invokevirtual 166, 3) := by decide +kernel
theorem dX11_stepReader_59 : decode cX11_stepReader 59 = .ok (.ifCond .ne 10, 3) := by decide +kernel
theorem dX11_stepReader_62 : decode cX11_stepReader 62 = .ok (.aload_n 0, 1) := by decide +kernel
theorem dX11_stepReader_63 : decode cX11_stepReader 63 = .ok (.bipush 8, 2) := by decide +kernel
theorem dX11_stepReader_65 : decode cX11_stepReader 65 = .ok (.invokevirtual 68, 3) := by decide +kernel
theorem dX11_stepReader_68 : decode cX11_stepReader 68 = .ok (.ireturn, 1) := by decide +kernel
theorem dX11_stepReader_69 : decode cX11_stepReader 69 = .ok (.aload_n 0, 1) := by decide +kernel
theorem dX11_stepReader_70 : decode cX11_stepReader 70 = .ok (.getfield 26, 3) := by decide +kernel
theorem dX11_stepReader_73 : decode cX11_stepReader 73 = .ok (.aload_n 0, 1) := by decide +kernel
theorem dX11_stepReader_74 : decode cX11_stepReader 74 = .ok (.getfield 44, 3) := by decide +kernel
theorem dX11_stepReader_77 : decode cX11_stepReader 77 = .ok (.iload 4, 2) := by decide +kernel
theorem dX11_stepReader_79 : decode cX11_stepReader 79 = .ok (.invokevirtual 169, 3) := by decide +kernel
theorem dX11_stepReader_82 : decode cX11_stepReader 82 = .ok (.aload_n 0, 1) := by decide +kernel
theorem dX11_stepReader_83 : decode cX11_stepReader 83 = .ok (.getfield 26, 3) := by decide +kernel
theorem dX11_stepReader_86 : decode cX11_stepReader 86 = .ok (.aload_n 3, 1) := by decide +kernel
theorem dX11_stepReader_87 : decode cX11_stepReader 87 = .ok (.getfield 363, 3) := by decide +kernel
theorem dX11_stepReader_90 : decode cX11_stepReader 90 = .ok (.aload_n 3, 1) := by decide +kernel
theorem dX11_stepReader_91 : decode cX11_stepReader 91 = .ok (.getfield 366, 3) := by decide +kernel
theorem dX11_stepReader_94 : decode cX11_stepReader 94 = .ok (.iload_n 2, 1) := by decide +kernel
theorem dX11_stepReader_95 : decode cX11_stepReader 95 = .ok (.invokevirtual 348, 3) := by decide +kernel
theorem dX11_stepReader_98 : decode cX11_stepReader 98 = .ok (.aload_n 3, 1) := by decide +kernel
theorem dX11_stepReader_99 : decode cX11_stepReader 99 = .ok (.aload_n 0, 1) := by decide +kernel
theorem dX11_stepReader_100 : decode cX11_stepReader 100 = .ok (.getfield 26, 3) := by decide +kernel
theorem dX11_stepReader_103 : decode cX11_stepReader 103 = .ok (.iload_n 2, 1) := by decide +kernel
theorem dX11_stepReader_104 : decode cX11_stepReader 104 = .ok (.aload_n 0, 1) := by decide +kernel
theorem dX11_stepReader_105 : decode cX11_stepReader 105 = .ok (.getfield 44, 3) := by decide +kernel
theorem dX11_stepReader_108 : decode cX11_stepReader 108 = .ok (.getfield 119, 3) := by decide +kernel
theorem dX11_stepReader_111 : decode cX11_stepReader 111 = .ok (.getfield 123, 3) := by decide +kernel
theorem dX11_stepReader_114 : decode cX11_stepReader 114 = .ok (.invokevirtual 369, 3) := by decide +kernel
theorem dX11_stepReader_117 : decode cX11_stepReader 117 = .ok (.aload_n 0, 1) := by decide +kernel
theorem dX11_stepReader_118 : decode cX11_stepReader 118 = .ok (.aload_n 0, 1) := by decide +kernel
theorem dX11_stepReader_119 : decode cX11_stepReader 119 = .ok (.getfield 26, 3) := by decide +kernel
theorem dX11_stepReader_122 : decode cX11_stepReader 122 = .ok (.getfield 373, 3) := by decide +kernel
theorem dX11_stepReader_125 : decode cX11_stepReader 125 = .ok (.aload_n 0, 1) := by decide +kernel
theorem dX11_stepReader_126 : decode cX11_stepReader 126 = .ok (.getfield 26, 3) := by decide +kernel
theorem dX11_stepReader_129 : decode cX11_stepReader 129 = .ok (.getfield 376, 3) := by decide +kernel
theorem dX11_stepReader_132 : decode cX11_stepReader 132 = .ok (.isub, 1) := by decide +kernel
theorem dX11_stepReader_133 : decode cX11_stepReader 133 = .ok (.invokevirtual 103, 3) := by decide +kernel
theorem dX11_stepReader_136 : decode cX11_stepReader 136 = .ok (.ireturn, 1) := by decide +kernel
theorem dX11_turned_0 : decode cX11_turned 0 = .ok (.aload_n 0, 1) := by decide +kernel
theorem dX11_turned_1 : decode cX11_turned 1 = .ok (.getfield 44, 3) := by decide +kernel
theorem dX11_turned_4 : decode cX11_turned 4 = .ok (.dup, 1) := by decide +kernel
theorem dX11_turned_5 : decode cX11_turned 5 = .ok (.getfield 128, 3) := by decide +kernel
theorem dX11_turned_8 : decode cX11_turned 8 = .ok (.iconst 1, 1) := by decide +kernel
theorem dX11_turned_9 : decode cX11_turned 9 = .ok (.iadd, 1) := by decide +kernel
theorem dX11_turned_10 : decode cX11_turned 10 = .ok (.putfield 128, 3) := by decide +kernel
theorem dX11_turned_13 : decode cX11_turned 13 = .ok (.aload_n 0, 1) := by decide +kernel
theorem dX11_turned_14 : decode cX11_turned 14 = .ok (.invokevirtual 93, 3) := by decide +kernel
theorem dX11_turned_17 : decode cX11_turned 17 = .ok (.return_, 1) := by decide +kernel
theorem dX11_dismissReaders_0 : decode cX11_dismissReaders 0 = .ok (.iconst 0, 1) := by decide +kernel
theorem dX11_dismissReaders_1 : decode cX11_dismissReaders 1 = .ok (.istore_n 1, 1) := by decide +kernel
theorem dX11_dismissReaders_2 : decode cX11_dismissReaders 2 = .ok (.iload_n 1, 1) := by decide +kernel
theorem dX11_dismissReaders_3 : decode cX11_dismissReaders 3 = .ok (.iconst 4, 1) := by decide +kernel
theorem dX11_dismissReaders_4 : decode cX11_dismissReaders 4 = .ok (.if_icmp .ge 19, 3) := by decide +kernel
theorem dX11_dismissReaders_7 : decode cX11_dismissReaders 7 = .ok (.aload_n 0, 1) := by decide +kernel
theorem dX11_dismissReaders_8 : decode cX11_dismissReaders 8 = .ok (.getfield 39, 3) := by decide +kernel
theorem dX11_dismissReaders_11 : decode cX11_dismissReaders 11 = .ok (.iload_n 1, 1) := by decide +kernel
theorem dX11_dismissReaders_12 : decode cX11_dismissReaders 12 = .ok (.aaload, 1) := by decide +kernel
theorem dX11_dismissReaders_13 : decode cX11_dismissReaders 13 = .ok (.iconst 0, 1) := by decide +kernel
theorem dX11_dismissReaders_14 : decode cX11_dismissReaders 14 = .ok (.putfield 332, 3) := by decide +kernel
theorem dX11_dismissReaders_17 : decode cX11_dismissReaders 17 = .ok (.iinc 1 1, 3) := by decide +kernel
theorem dX11_dismissReaders_20 : decode cX11_dismissReaders 20 = .ok (.goto (-18), 3) := by decide +kernel
theorem dX11_dismissReaders_23 : decode cX11_dismissReaders 23 = .ok (.return_, 1) := by decide +kernel
theorem dX11_countReaders_0 : decode cX11_countReaders 0 = .ok (.iconst 0, 1) := by decide +kernel
theorem dX11_countReaders_1 : decode cX11_countReaders 1 = .ok (.istore_n 1, 1) := by decide +kernel
theorem dX11_countReaders_2 : decode cX11_countReaders 2 = .ok (.iconst 0, 1) := by decide +kernel
theorem dX11_countReaders_3 : decode cX11_countReaders 3 = .ok (.istore_n 2, 1) := by decide +kernel
theorem dX11_countReaders_4 : decode cX11_countReaders 4 = .ok (.iload_n 2, 1) := by decide +kernel
theorem dX11_countReaders_5 : decode cX11_countReaders 5 = .ok (.iconst 4, 1) := by decide +kernel
theorem dX11_countReaders_6 : decode cX11_countReaders 6 = .ok (.if_icmp .ge 24, 3) := by decide +kernel
theorem dX11_countReaders_9 : decode cX11_countReaders 9 = .ok (.aload_n 0, 1) := by decide +kernel
theorem dX11_countReaders_10 : decode cX11_countReaders 10 = .ok (.getfield 39, 3) := by decide +kernel
theorem dX11_countReaders_13 : decode cX11_countReaders 13 = .ok (.iload_n 2, 1) := by decide +kernel
theorem dX11_countReaders_14 : decode cX11_countReaders 14 = .ok (.aaload, 1) := by decide +kernel
theorem dX11_countReaders_15 : decode cX11_countReaders 15 = .ok (.getfield 332, 3) := by decide +kernel
theorem dX11_countReaders_18 : decode cX11_countReaders 18 = .ok (.ifCond .eq 6, 3) := by decide +kernel
theorem dX11_countReaders_21 : decode cX11_countReaders 21 = .ok (.iinc 1 1, 3) := by decide +kernel
theorem dX11_countReaders_24 : decode cX11_countReaders 24 = .ok (.iinc 2 1, 3) := by decide +kernel
theorem dX11_countReaders_27 : decode cX11_countReaders 27 = .ok (.goto (-23), 3) := by decide +kernel
theorem dX11_countReaders_30 : decode cX11_countReaders 30 = .ok (.iload_n 1, 1) := by decide +kernel
theorem dX11_countReaders_31 : decode cX11_countReaders 31 = .ok (.ireturn, 1) := by decide +kernel
