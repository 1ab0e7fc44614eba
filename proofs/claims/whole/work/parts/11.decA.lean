theorem dX0_init_0 : decode cX0_init 0 = .ok (.aload_n 0, 1) := by decide +kernel
theorem dX0_init_1 : decode cX0_init 1 = .ok (.invokespecial 3, 3) := by decide +kernel
theorem dX0_init_4 : decode cX0_init 4 = .ok (.aload_n 0, 1) := by decide +kernel
theorem dX0_init_5 : decode cX0_init 5 = .ok (.bipush 40, 2) := by decide +kernel
theorem dX0_init_7 : decode cX0_init 7 = .ok (.newarray .int, 2) := by decide +kernel
theorem dX0_init_9 : decode cX0_init 9 = .ok (.putfield 9, 3) := by decide +kernel
theorem dX0_init_12 : decode cX0_init 12 = .ok (.aload_n 0, 1) := by decide +kernel
theorem dX0_init_13 : decode cX0_init 13 = .ok (.bipush 40, 2) := by decide +kernel
theorem dX0_init_15 : decode cX0_init 15 = .ok (.newarray .int, 2) := by decide +kernel
theorem dX0_init_17 : decode cX0_init 17 = .ok (.putfield 15, 3) := by decide +kernel
theorem dX0_init_20 : decode cX0_init 20 = .ok (.aload_n 0, 1) := by decide +kernel
theorem dX0_init_21 : decode cX0_init 21 = .ok (.bipush 40, 2) := by decide +kernel
theorem dX0_init_23 : decode cX0_init 23 = .ok (.newarray .int, 2) := by decide +kernel
theorem dX0_init_25 : decode cX0_init 25 = .ok (.putfield 18, 3) := by decide +kernel
theorem dX0_init_28 : decode cX0_init 28 = .ok (.aload_n 0, 1) := by decide +kernel
theorem dX0_init_29 : decode cX0_init 29 = .ok (.bipush 40, 2) := by decide +kernel
theorem dX0_init_31 : decode cX0_init 31 = .ok (.newarray .long, 2) := by decide +kernel
theorem dX0_init_33 : decode cX0_init 33 = .ok (.putfield 21, 3) := by decide +kernel
theorem dX0_init_36 : decode cX0_init 36 = .ok (.aload_n 0, 1) := by decide +kernel
theorem dX0_init_37 : decode cX0_init 37 = .ok (.iconst 0, 1) := by decide +kernel
theorem dX0_init_38 : decode cX0_init 38 = .ok (.putfield 25, 3) := by decide +kernel
theorem dX0_init_41 : decode cX0_init 41 = .ok (.return_, 1) := by decide +kernel
theorem dX0_earliest_0 : decode cX0_earliest 0 = .ok (.iconst 0, 1) := by decide +kernel
theorem dX0_earliest_1 : decode cX0_earliest 1 = .ok (.aload_n 0, 1) := by decide +kernel
theorem dX0_earliest_2 : decode cX0_earliest 2 = .ok (.getfield 25, 3) := by decide +kernel
theorem dX0_earliest_5 : decode cX0_earliest 5 = .ok (.bipush 40, 2) := by decide +kernel
theorem dX0_earliest_7 : decode cX0_earliest 7 = .ok (.isub, 1) := by decide +kernel
theorem dX0_earliest_8 : decode cX0_earliest 8 = .ok (.invokestatic 29, 3) := by decide +kernel
theorem dX0_earliest_11 : decode cX0_earliest 11 = .ok (.ireturn, 1) := by decide +kernel
theorem dX0_canView_0 : decode cX0_canView 0 = .ok (.iload_n 1, 1) := by decide +kernel
theorem dX0_canView_1 : decode cX0_canView 1 = .ok (.aload_n 0, 1) := by decide +kernel
theorem dX0_canView_2 : decode cX0_canView 2 = .ok (.invokevirtual 35, 3) := by decide +kernel
theorem dX0_canView_5 : decode cX0_canView 5 = .ok (.if_icmp .lt 15, 3) := by decide +kernel
theorem dX0_canView_8 : decode cX0_canView 8 = .ok (.iload_n 1, 1) := by decide +kernel
theorem dX0_canView_9 : decode cX0_canView 9 = .ok (.aload_n 0, 1) := by decide +kernel
theorem dX0_canView_10 : decode cX0_canView 10 = .ok (.getfield 25, 3) := by decide +kernel
theorem dX0_canView_13 : decode cX0_canView 13 = .ok (.if_icmp .gt 7, 3) := by decide +kernel
theorem dX0_canView_16 : decode cX0_canView 16 = .ok (.iconst 1, 1) := by decide +kernel
theorem dX0_canView_17 : decode cX0_canView 17 = .ok (.goto 4, 3) := by decide +kernel
theorem dX0_canView_20 : decode cX0_canView 20 = .ok (.iconst 0, 1) := by decide +kernel
theorem dX0_canView_21 : decode cX0_canView 21 = .ok (.ireturn, 1) := by decide +kernel
theorem dX0_note_0 : decode cX0_note 0 = .ok (.aload_n 0, 1) := by decide +kernel
theorem dX0_note_1 : decode cX0_note 1 = .ok (.getfield 25, 3) := by decide +kernel
theorem dX0_note_4 : decode cX0_note 4 = .ok (.bipush 40, 2) := by decide +kernel
theorem dX0_note_6 : decode cX0_note 6 = .ok (.invokestatic 39, 3) := by decide +kernel
theorem dX0_note_9 : decode cX0_note 9 = .ok (.istore 6, 2) := by decide +kernel
theorem dX0_note_11 : decode cX0_note 11 = .ok (.aload_n 0, 1) := by decide +kernel
theorem dX0_note_12 : decode cX0_note 12 = .ok (.getfield 9, 3) := by decide +kernel
theorem dX0_note_15 : decode cX0_note 15 = .ok (.iload 6, 2) := by decide +kernel
theorem dX0_note_17 : decode cX0_note 17 = .ok (.iload_n 1, 1) := by decide +kernel
theorem dX0_note_18 : decode cX0_note 18 = .ok (.iastore, 1) := by decide +kernel
theorem dX0_note_19 : decode cX0_note 19 = .ok (.aload_n 0, 1) := by decide +kernel
theorem dX0_note_20 : decode cX0_note 20 = .ok (.getfield 15, 3) := by decide +kernel
theorem dX0_note_23 : decode cX0_note 23 = .ok (.iload 6, 2) := by decide +kernel
theorem dX0_note_25 : decode cX0_note 25 = .ok (.iload_n 2, 1) := by decide +kernel
theorem dX0_note_26 : decode cX0_note 26 = .ok (.iastore, 1) := by decide +kernel
theorem dX0_note_27 : decode cX0_note 27 = .ok (.aload_n 0, 1) := by decide +kernel
theorem dX0_note_28 : decode cX0_note 28 = .ok (.getfield 18, 3) := by decide +kernel
theorem dX0_note_31 : decode cX0_note 31 = .ok (.iload 6, 2) := by decide +kernel
theorem dX0_note_33 : decode cX0_note 33 = .ok (.iload_n 3, 1) := by decide +kernel
theorem dX0_note_34 : decode cX0_note 34 = .ok (.iastore, 1) := by decide +kernel
theorem dX0_note_35 : decode cX0_note 35 = .ok (.aload_n 0, 1) := by decide +kernel
theorem dX0_note_36 : decode cX0_note 36 = .ok (.getfield 21, 3) := by decide +kernel
theorem dX0_note_39 : decode cX0_note 39 = .ok (.iload 6, 2) := by decide +kernel
theorem dX0_note_41 : decode cX0_note 41 = .ok (.lload 4, 2) := by decide +kernel
theorem dX0_note_43 : decode cX0_note 43 = .ok (.lastore, 1) := by decide +kernel
theorem dX0_note_44 : decode cX0_note 44 = .ok (.aload_n 0, 1) := by decide +kernel
theorem dX0_note_45 : decode cX0_note 45 = .ok (.dup, 1) := by decide +kernel
theorem dX0_note_46 : decode cX0_note 46 = .ok (.getfield 25, 3) := by decide +kernel
theorem dX0_note_49 : decode cX0_note 49 = .ok (.iconst 1, 1) := by decide +kernel
theorem dX0_note_50 : decode cX0_note 50 = .ok (.iadd, 1) := by decide +kernel
theorem dX0_note_51 : decode cX0_note 51 = .ok (.putfield 25, 3) := by decide +kernel
theorem dX0_note_54 : decode cX0_note 54 = .ok (.return_, 1) := by decide +kernel
theorem dX0_takeBack_0 : decode cX0_takeBack 0 = .ok (.aload_n 0, 1) := by decide +kernel
theorem dX0_takeBack_1 : decode cX0_takeBack 1 = .ok (.getfield 25, 3) := by decide +kernel
theorem dX0_takeBack_4 : decode cX0_takeBack 4 = .ok (.iconst 1, 1) := by decide +kernel
theorem dX0_takeBack_5 : decode cX0_takeBack 5 = .ok (.isub, 1) := by decide +kernel
theorem dX0_takeBack_6 : decode cX0_takeBack 6 = .ok (.istore_n 3, 1) := by decide +kernel
theorem dX0_takeBack_7 : decode cX0_takeBack 7 = .ok (.iload_n 3, 1) := by decide +kernel
theorem dX0_takeBack_8 : decode cX0_takeBack 8 = .ok (.iload_n 2, 1) := by decide +kernel
theorem dX0_takeBack_9 : decode cX0_takeBack 9 = .ok (.if_icmp .lt 91, 3) := by decide +kernel
theorem dX0_takeBack_12 : decode cX0_takeBack 12 = .ok (.iload_n 3, 1) := by decide +kernel
theorem dX0_takeBack_13 : decode cX0_takeBack 13 = .ok (.aload_n 0, 1) := by decide +kernel
theorem dX0_takeBack_14 : decode cX0_takeBack 14 = .ok (.invokevirtual 35, 3) := by decide +kernel
theorem dX0_takeBack_17 : decode cX0_takeBack 17 = .ok (.if_icmp .lt 83, 3) := by decide +kernel
theorem dX0_takeBack_20 : decode cX0_takeBack 20 = .ok (.iload_n 3, 1) := by decide +kernel
theorem dX0_takeBack_21 : decode cX0_takeBack 21 = .ok (.bipush 40, 2) := by decide +kernel
theorem dX0_takeBack_23 : decode cX0_takeBack 23 = .ok (.invokestatic 39, 3) := by decide +kernel
theorem dX0_takeBack_26 : decode cX0_takeBack 26 = .ok (.istore 4, 2) := by decide +kernel
theorem dX0_takeBack_28 : decode cX0_takeBack 28 = .ok (.aload_n 0, 1) := by decide +kernel
theorem dX0_takeBack_29 : decode cX0_takeBack 29 = .ok (.getfield 9, 3) := by decide +kernel
theorem dX0_takeBack_32 : decode cX0_takeBack 32 = .ok (.iload 4, 2) := by decide +kernel
theorem dX0_takeBack_34 : decode cX0_takeBack 34 = .ok (.iaload, 1) := by decide +kernel
theorem dX0_takeBack_35 : decode cX0_takeBack 35 = .ok (.iconst 2, 1) := by decide +kernel
theorem dX0_takeBack_36 : decode cX0_takeBack 36 = .ok (.if_icmp .ne 31, 3) := by decide +kernel
theorem dX0_takeBack_39 : decode cX0_takeBack 39 = .ok (.aload_n 1, 1) := by decide +kernel
theorem dX0_takeBack_40 : decode cX0_takeBack 40 = .ok (.aload_n 0, 1) := by decide +kernel
theorem dX0_takeBack_41 : decode cX0_takeBack 41 = .ok (.getfield 15, 3) := by decide +kernel
theorem dX0_takeBack_44 : decode cX0_takeBack 44 = .ok (.iload 4, 2) := by decide +kernel
theorem dX0_takeBack_46 : decode cX0_takeBack 46 = .ok (.iaload, 1) := by decide +kernel
theorem dX0_takeBack_47 : decode cX0_takeBack 47 = .ok (.aload_n 0, 1) := by decide +kernel
theorem dX0_takeBack_48 : decode cX0_takeBack 48 = .ok (.getfield 18, 3) := by decide +kernel
theorem dX0_takeBack_51 : decode cX0_takeBack 51 = .ok (.iload 4, 2) := by decide +kernel
theorem dX0_takeBack_53 : decode cX0_takeBack 53 = .ok (.iaload, 1) := by decide +kernel
theorem dX0_takeBack_54 : decode cX0_takeBack 54 = .ok (.aload_n 0, 1) := by decide +kernel
theorem dX0_takeBack_55 : decode cX0_takeBack 55 = .ok (.getfield 21, 3) := by decide +kernel
theorem dX0_takeBack_58 : decode cX0_takeBack 58 = .ok (.iload 4, 2) := by decide +kernel
theorem dX0_takeBack_60 : decode cX0_takeBack 60 = .ok (.laload, 1) := by decide +kernel
theorem dX0_takeBack_61 : decode cX0_takeBack 61 = .ok (.invokevirtual 42, 3) := by decide +kernel
theorem dX0_takeBack_64 : decode cX0_takeBack 64 = .ok (.goto 30, 3) := by decide +kernel
theorem dX0_takeBack_67 : decode cX0_takeBack 67 = .ok (.aload_n 1, 1) := by decide +kernel
theorem dX0_takeBack_68 : decode cX0_takeBack 68 = .ok (.aload_n 0, 1) := by decide +kernel
theorem dX0_takeBack_69 : decode cX0_takeBack 69 = .ok (.getfield 15, 3) := by decide +kernel
theorem dX0_takeBack_72 : decode cX0_takeBack 72 = .ok (.iload 4, 2) := by decide +kernel
theorem dX0_takeBack_74 : decode cX0_takeBack 74 = .ok (.iaload, 1) := by decide +kernel
theorem dX0_takeBack_75 : decode cX0_takeBack 75 = .ok (.aload_n 0, 1) := by decide +kernel
theorem dX0_takeBack_76 : decode cX0_takeBack 76 = .ok (.getfield 9, 3) := by decide +kernel
theorem dX0_takeBack_79 : decode cX0_takeBack 79 = .ok (.iload 4, 2) := by decide +kernel
theorem dX0_takeBack_81 : decode cX0_takeBack 81 = .ok (.iaload, 1) := by decide +kernel
theorem dX0_takeBack_82 : decode cX0_takeBack 82 = .ok (.iconst 1, 1) := by decide +kernel
theorem dX0_takeBack_83 : decode cX0_takeBack 83 = .ok (.if_icmp .ne 7, 3) := by decide +kernel
theorem dX0_takeBack_86 : decode cX0_takeBack 86 = .ok (.iconst 1, 1) := by decide +kernel
theorem dX0_takeBack_87 : decode cX0_takeBack 87 = .ok (.goto 4, 3) := by decide +kernel
theorem dX0_takeBack_90 : decode cX0_takeBack 90 = .ok (.iconst 0, 1) := by decide +kernel
theorem dX0_takeBack_91 : decode cX0_takeBack 91 = .ok (.invokevirtual 48, 3) := by decide +kernel
theorem dX0_takeBack_94 : decode cX0_takeBack 94 = .ok (.iinc 3 (-1), 3) := by decide +kernel
theorem dX0_takeBack_97 : decode cX0_takeBack 97 = .ok (.goto (-90), 3) := by decide +kernel
theorem dX0_takeBack_100 : decode cX0_takeBack 100 = .ok (.return_, 1) := by decide +kernel
theorem dX1_init_0 : decode cX1_init 0 = .ok (.aload_n 0, 1) := by decide +kernel
theorem dX1_init_1 : decode cX1_init 1 = .ok (.invokespecial 3, 3) := by decide +kernel
theorem dX1_init_4 : decode cX1_init 4 = .ok (.aload_n 0, 1) := by decide +kernel
theorem dX1_init_5 : decode cX1_init 5 = .ok (.iload_n 1, 1) := by decide +kernel
theorem dX1_init_6 : decode cX1_init 6 = .ok (.ifCond .ge 7, 3) := by decide +kernel
theorem dX1_init_9 : decode cX1_init 9 = .ok (.iconst 0, 1) := by decide +kernel
theorem dX1_init_10 : decode cX1_init 10 = .ok (.goto 4, 3) := by decide +kernel
theorem dX1_init_13 : decode cX1_init 13 = .ok (.iload_n 1, 1) := by decide +kernel
theorem dX1_init_14 : decode cX1_init 14 = .ok (.newarray .int, 2) := by decide +kernel
theorem dX1_init_16 : decode cX1_init 16 = .ok (.putfield 9, 3) := by decide +kernel
theorem dX1_init_19 : decode cX1_init 19 = .ok (.aload_n 0, 1) := by decide +kernel
theorem dX1_init_20 : decode cX1_init 20 = .ok (.iconst 0, 1) := by decide +kernel
theorem dX1_init_21 : decode cX1_init 21 = .ok (.putfield 15, 3) := by decide +kernel
theorem dX1_init_24 : decode cX1_init 24 = .ok (.return_, 1) := by decide +kernel
theorem dX1_empty_0 : decode cX1_empty 0 = .ok (.aload_n 0, 1) := by decide +kernel
theorem dX1_empty_1 : decode cX1_empty 1 = .ok (.iconst 0, 1) := by decide +kernel
theorem dX1_empty_2 : decode cX1_empty 2 = .ok (.putfield 15, 3) := by decide +kernel
theorem dX1_empty_5 : decode cX1_empty 5 = .ok (.return_, 1) := by decide +kernel
theorem dX1_put_0 : decode cX1_put 0 = .ok (.aload_n 0, 1) := by decide +kernel
theorem dX1_put_1 : decode cX1_put 1 = .ok (.getfield 15, 3) := by decide +kernel
theorem dX1_put_4 : decode cX1_put 4 = .ok (.aload_n 0, 1) := by decide +kernel
theorem dX1_put_5 : decode cX1_put 5 = .ok (.getfield 9, 3) := by decide +kernel
theorem dX1_put_8 : decode cX1_put 8 = .ok (.arraylength, 1) := by decide +kernel
theorem dX1_put_9 : decode cX1_put 9 = .ok (.if_icmp .ge 27, 3) := by decide +kernel
theorem dX1_put_12 : decode cX1_put 12 = .ok (.aload_n 0, 1) := by decide +kernel
theorem dX1_put_13 : decode cX1_put 13 = .ok (.getfield 9, 3) := by decide +kernel
theorem dX1_put_16 : decode cX1_put 16 = .ok (.aload_n 0, 1) := by decide +kernel
theorem dX1_put_17 : decode cX1_put 17 = .ok (.getfield 15, 3) := by decide +kernel
theorem dX1_put_20 : decode cX1_put 20 = .ok (.iload_n 1, 1) := by decide +kernel
theorem dX1_put_21 : decode cX1_put 21 = .ok (.sipush 255, 3) := by decide +kernel
theorem dX1_put_24 : decode cX1_put 24 = .ok (.iand, 1) := by decide +kernel
theorem dX1_put_25 : decode cX1_put 25 = .ok (.iastore, 1) := by decide +kernel
theorem dX1_put_26 : decode cX1_put 26 = .ok (.aload_n 0, 1) := by decide +kernel
theorem dX1_put_27 : decode cX1_put 27 = .ok (.dup, 1) := by decide +kernel
theorem dX1_put_28 : decode cX1_put 28 = .ok (.getfield 15, 3) := by decide +kernel
theorem dX1_put_31 : decode cX1_put 31 = .ok (.iconst 1, 1) := by decide +kernel
theorem dX1_put_32 : decode cX1_put 32 = .ok (.iadd, 1) := by decide +kernel
theorem dX1_put_33 : decode cX1_put 33 = .ok (.putfield 15, 3) := by decide +kernel
theorem dX1_put_36 : decode cX1_put 36 = .ok (.return_, 1) := by decide +kernel
theorem dX1_putTwo_0 : decode cX1_putTwo 0 = .ok (.aload_n 0, 1) := by decide +kernel
theorem dX1_putTwo_1 : decode cX1_putTwo 1 = .ok (.iload_n 1, 1) := by decide +kernel
theorem dX1_putTwo_2 : decode cX1_putTwo 2 = .ok (.bipush 8, 2) := by decide +kernel
theorem dX1_putTwo_4 : decode cX1_putTwo 4 = .ok (.ishr, 1) := by decide +kernel
theorem dX1_putTwo_5 : decode cX1_putTwo 5 = .ok (.invokevirtual 19, 3) := by decide +kernel
theorem dX1_putTwo_8 : decode cX1_putTwo 8 = .ok (.aload_n 0, 1) := by decide +kernel
theorem dX1_putTwo_9 : decode cX1_putTwo 9 = .ok (.iload_n 1, 1) := by decide +kernel
theorem dX1_putTwo_10 : decode cX1_putTwo 10 = .ok (.invokevirtual 19, 3) := by decide +kernel
theorem dX1_putTwo_13 : decode cX1_putTwo 13 = .ok (.return_, 1) := by decide +kernel
theorem dX1_putFour_0 : decode cX1_putFour 0 = .ok (.aload_n 0, 1) := by decide +kernel
theorem dX1_putFour_1 : decode cX1_putFour 1 = .ok (.iload_n 1, 1) := by decide +kernel
theorem dX1_putFour_2 : decode cX1_putFour 2 = .ok (.bipush 16, 2) := by decide +kernel
theorem dX1_putFour_4 : decode cX1_putFour 4 = .ok (.ishr, 1) := by decide +kernel
theorem dX1_putFour_5 : decode cX1_putFour 5 = .ok (.invokevirtual 23, 3) := by decide +kernel
theorem dX1_putFour_8 : decode cX1_putFour 8 = .ok (.aload_n 0, 1) := by decide +kernel
theorem dX1_putFour_9 : decode cX1_putFour 9 = .ok (.iload_n 1, 1) := by decide +kernel
theorem dX1_putFour_10 : decode cX1_putFour 10 = .ok (.invokevirtual 23, 3) := by decide +kernel
theorem dX1_putFour_13 : decode cX1_putFour 13 = .ok (.return_, 1) := by decide +kernel
theorem dX1_get_0 : decode cX1_get 0 = .ok (.iload_n 1, 1) := by decide +kernel
theorem dX1_get_1 : decode cX1_get 1 = .ok (.ifCond .lt 20, 3) := by decide +kernel
theorem dX1_get_4 : decode cX1_get 4 = .ok (.iload_n 1, 1) := by decide +kernel
theorem dX1_get_5 : decode cX1_get 5 = .ok (.aload_n 0, 1) := by decide +kernel
theorem dX1_get_6 : decode cX1_get 6 = .ok (.getfield 15, 3) := by decide +kernel
theorem dX1_get_9 : decode cX1_get 9 = .ok (.if_icmp .ge 12, 3) := by decide +kernel
theorem dX1_get_12 : decode cX1_get 12 = .ok (.aload_n 0, 1) := by decide +kernel
theorem dX1_get_13 : decode cX1_get 13 = .ok (.getfield 9, 3) := by decide +kernel
theorem dX1_get_16 : decode cX1_get 16 = .ok (.iload_n 1, 1) := by decide +kernel
theorem dX1_get_17 : decode cX1_get 17 = .ok (.iaload, 1) := by decide +kernel
theorem dX1_get_18 : decode cX1_get 18 = .ok (.goto 4, 3) := by decide +kernel
theorem dX1_get_21 : decode cX1_get 21 = .ok (.iconst (-1), 1) := by decide +kernel
theorem dX1_get_22 : decode cX1_get 22 = .ok (.ireturn, 1) := by decide +kernel
theorem dX1_getTwo_0 : decode cX1_getTwo 0 = .ok (.aload_n 0, 1) := by decide +kernel
theorem dX1_getTwo_1 : decode cX1_getTwo 1 = .ok (.iload_n 1, 1) := by decide +kernel
theorem dX1_getTwo_2 : decode cX1_getTwo 2 = .ok (.invokevirtual 26, 3) := by decide +kernel
theorem dX1_getTwo_5 : decode cX1_getTwo 5 = .ok (.sipush 256, 3) := by decide +kernel
theorem dX1_getTwo_8 : decode cX1_getTwo 8 = .ok (.imul, 1) := by decide +kernel
theorem dX1_getTwo_9 : decode cX1_getTwo 9 = .ok (.aload_n 0, 1) := by decide +kernel
theorem dX1_getTwo_10 : decode cX1_getTwo 10 = .ok (.iload_n 1, 1) := by decide +kernel
theorem dX1_getTwo_11 : decode cX1_getTwo 11 = .ok (.iconst 1, 1) := by decide +kernel
theorem dX1_getTwo_12 : decode cX1_getTwo 12 = .ok (.iadd, 1) := by decide +kernel
theorem dX1_getTwo_13 : decode cX1_getTwo 13 = .ok (.invokevirtual 26, 3) := by decide +kernel
theorem dX1_getTwo_16 : decode cX1_getTwo 16 = .ok (.iadd, 1) := by decide +kernel
theorem dX1_getTwo_17 : decode cX1_getTwo 17 = .ok (.ireturn, 1) := by decide +kernel
theorem dX1_append_0 : decode cX1_append 0 = .ok (.iload_n 2, 1) := by decide +kernel
theorem dX1_append_1 : decode cX1_append 1 = .ok (.istore 4, 2) := by decide +kernel
theorem dX1_append_3 : decode cX1_append 3 = .ok (.iload 4, 2) := by decide +kernel
theorem dX1_append_5 : decode cX1_append 5 = .ok (.iload_n 3, 1) := by decide +kernel
theorem dX1_append_6 : decode cX1_append 6 = .ok (.if_icmp .ge 19, 3) := by decide +kernel
theorem dX1_append_9 : decode cX1_append 9 = .ok (.aload_n 0, 1) := by decide +kernel
theorem dX1_append_10 : decode cX1_append 10 = .ok (.aload_n 1, 1) := by decide +kernel
theorem dX1_append_11 : decode cX1_append 11 = .ok (.iload 4, 2) := by decide +kernel
theorem dX1_append_13 : decode cX1_append 13 = .ok (.invokevirtual 26, 3) := by decide +kernel
theorem dX1_append_16 : decode cX1_append 16 = .ok (.invokevirtual 19, 3) := by decide +kernel
theorem dX1_append_19 : decode cX1_append 19 = .ok (.iinc 4 1, 3) := by decide +kernel
theorem dX1_append_22 : decode cX1_append 22 = .ok (.goto (-19), 3) := by decide +kernel
theorem dX1_append_25 : decode cX1_append 25 = .ok (.return_, 1) := by decide +kernel
theorem dX1_against_0 : decode cX1_against 0 = .ok (.aload_n 0, 1) := by decide +kernel
theorem dX1_against_1 : decode cX1_against 1 = .ok (.getfield 15, 3) := by decide +kernel
theorem dX1_against_4 : decode cX1_against 4 = .ok (.aload_n 1, 1) := by decide +kernel
theorem dX1_against_5 : decode cX1_against 5 = .ok (.getfield 15, 3) := by decide +kernel
theorem dX1_against_8 : decode cX1_against 8 = .ok (.invokestatic 30, 3) := by decide +kernel
theorem dX1_against_11 : decode cX1_against 11 = .ok (.istore_n 2, 1) := by decide +kernel
theorem dX1_against_12 : decode cX1_against 12 = .ok (.iconst 0, 1) := by decide +kernel
theorem dX1_against_13 : decode cX1_against 13 = .ok (.istore_n 3, 1) := by decide +kernel
theorem dX1_against_14 : decode cX1_against 14 = .ok (.iload_n 3, 1) := by decide +kernel
theorem dX1_against_15 : decode cX1_against 15 = .ok (.iload_n 2, 1) := by decide +kernel
theorem dX1_against_16 : decode cX1_against 16 = .ok (.if_icmp .ge 43, 3) := by decide +kernel
theorem dX1_against_19 : decode cX1_against 19 = .ok (.aload_n 0, 1) := by decide +kernel
theorem dX1_against_20 : decode cX1_against 20 = .ok (.iload_n 3, 1) := by decide +kernel
theorem dX1_against_21 : decode cX1_against 21 = .ok (.invokevirtual 26, 3) := by decide +kernel
theorem dX1_against_24 : decode cX1_against 24 = .ok (.istore 4, 2) := by decide +kernel
theorem dX1_against_26 : decode cX1_against 26 = .ok (.aload_n 1, 1) := by decide +kernel
theorem dX1_against_27 : decode cX1_against 27 = .ok (.iload_n 3, 1) := by decide +kernel
theorem dX1_against_28 : decode cX1_against 28 = .ok (.invokevirtual 26, 3) := by decide +kernel
theorem dX1_against_31 : decode cX1_against 31 = .ok (.istore 5, 2) := by decide +kernel
theorem dX1_against_33 : decode cX1_against 33 = .ok (.iload 4, 2) := by decide +kernel
theorem dX1_against_35 : decode cX1_against 35 = .ok (.iload 5, 2) := by decide +kernel
theorem dX1_against_37 : decode cX1_against 37 = .ok (.if_icmp .eq 16, 3) := by decide +kernel
theorem dX1_against_40 : decode cX1_against 40 = .ok (.iload 4, 2) := by decide +kernel
theorem dX1_against_42 : decode cX1_against 42 = .ok (.iload 5, 2) := by decide +kernel
theorem dX1_against_44 : decode cX1_against 44 = .ok (.if_icmp .ge 7, 3) := by decide +kernel
theorem dX1_against_47 : decode cX1_against 47 = .ok (.iconst (-1), 1) := by decide +kernel
theorem dX1_against_48 : decode cX1_against 48 = .ok (.goto 4, 3) := by decide +kernel
theorem dX1_against_51 : decode cX1_against 51 = .ok (.iconst 1, 1) := by decide +kernel
theorem dX1_against_52 : decode cX1_against 52 = .ok (.ireturn, 1) := by decide +kernel
theorem dX1_against_53 : decode cX1_against 53 = .ok (.iinc 3 1, 3) := by decide +kernel
theorem dX1_against_56 : decode cX1_against 56 = .ok (.goto (-42), 3) := by decide +kernel
theorem dX1_against_59 : decode cX1_against 59 = .ok (.iconst 0, 1) := by decide +kernel
theorem dX1_against_60 : decode cX1_against 60 = .ok (.ireturn, 1) := by decide +kernel
theorem dX1_checkOf_0 : decode cX1_checkOf 0 = .ok (.bipush 7, 2) := by decide +kernel
theorem dX1_checkOf_2 : decode cX1_checkOf 2 = .ok (.istore_n 2, 1) := by decide +kernel
theorem dX1_checkOf_3 : decode cX1_checkOf 3 = .ok (.iconst 0, 1) := by decide +kernel
theorem dX1_checkOf_4 : decode cX1_checkOf 4 = .ok (.istore_n 3, 1) := by decide +kernel
theorem dX1_checkOf_5 : decode cX1_checkOf 5 = .ok (.iload_n 3, 1) := by decide +kernel
theorem dX1_checkOf_6 : decode cX1_checkOf 6 = .ok (.iload_n 1, 1) := by decide +kernel
theorem dX1_checkOf_7 : decode cX1_checkOf 7 = .ok (.if_icmp .ge 24, 3) := by decide +kernel
theorem dX1_checkOf_10 : decode cX1_checkOf 10 = .ok (.bipush 31, 2) := by decide +kernel
theorem dX1_checkOf_12 : decode cX1_checkOf 12 = .ok (.iload_n 2, 1) := by decide +kernel
theorem dX1_checkOf_13 : decode cX1_checkOf 13 = .ok (.imul, 1) := by decide +kernel
theorem dX1_checkOf_14 : decode cX1_checkOf 14 = .ok (.aload_n 0, 1) := by decide +kernel
theorem dX1_checkOf_15 : decode cX1_checkOf 15 = .ok (.iload_n 3, 1) := by decide +kernel
theorem dX1_checkOf_16 : decode cX1_checkOf 16 = .ok (.invokevirtual 26, 3) := by decide +kernel
theorem dX1_checkOf_19 : decode cX1_checkOf 19 = .ok (.iadd, 1) := by decide +kernel
theorem dX1_checkOf_20 : decode cX1_checkOf 20 = .ok (.sipush 251, 3) := by decide +kernel
theorem dX1_checkOf_23 : decode cX1_checkOf 23 = .ok (.irem, 1) := by decide +kernel
theorem dX1_checkOf_24 : decode cX1_checkOf 24 = .ok (.istore_n 2, 1) := by decide +kernel
theorem dX1_checkOf_25 : decode cX1_checkOf 25 = .ok (.iinc 3 1, 3) := by decide +kernel
theorem dX1_checkOf_28 : decode cX1_checkOf 28 = .ok (.goto (-23), 3) := by decide +kernel
theorem dX1_checkOf_31 : decode cX1_checkOf 31 = .ok (.iload_n 2, 1) := by decide +kernel
theorem dX1_checkOf_32 : decode cX1_checkOf 32 = .ok (.ireturn, 1) := by decide +kernel
theorem dX2_init_0 : decode cX2_init 0 = .ok (.aload_n 0, 1) := by decide +kernel
theorem dX2_init_1 : decode cX2_init 1 = .ok (.invokespecial 3, 3) := by decide +kernel
theorem dX2_init_4 : decode cX2_init 4 = .ok (.aload_n 0, 1) := by decide +kernel
theorem dX2_init_5 : decode cX2_init 5 = .ok (.aload_n 1, 1) := by decide +kernel
theorem dX2_init_6 : decode cX2_init 6 = .ok (.putfield 9, 3) := by decide +kernel
theorem dX2_init_9 : decode cX2_init 9 = .ok (.aload_n 0, 1) := by decide +kernel
theorem dX2_init_10 : decode cX2_init 10 = .ok (.iload_n 2, 1) := by decide +kernel
theorem dX2_init_11 : decode cX2_init 11 = .ok (.putfield 15, 3) := by decide +kernel
theorem dX2_init_14 : decode cX2_init 14 = .ok (.aload_n 0, 1) := by decide +kernel
theorem dX2_init_15 : decode cX2_init 15 = .ok (.iconst 0, 1) := by decide +kernel
theorem dX2_init_16 : decode cX2_init 16 = .ok (.putfield 19, 3) := by decide +kernel
theorem dX2_init_19 : decode cX2_init 19 = .ok (.aload_n 0, 1) := by decide +kernel
theorem dX2_init_20 : decode cX2_init 20 = .ok (.iconst 4, 1) := by decide +kernel
theorem dX2_init_21 : decode cX2_init 21 = .ok (.putfield 22, 3) := by decide +kernel
theorem dX2_init_24 : decode cX2_init 24 = .ok (.aload_n 0, 1) := by decide +kernel
theorem dX2_init_25 : decode cX2_init 25 = .ok (.iconst 0, 1) := by decide +kernel
theorem dX2_init_26 : decode cX2_init 26 = .ok (.putfield 25, 3) := by decide +kernel
theorem dX2_init_29 : decode cX2_init 29 = .ok (.aload_n 0, 1) := by decide +kernel
theorem dX2_init_30 : decode cX2_init 30 = .ok (.lconst 0, 1) := by decide +kernel
theorem dX2_init_31 : decode cX2_init 31 = .ok (.putfield 28, 3) := by decide +kernel
theorem dX2_init_34 : decode cX2_init 34 = .ok (.return_, 1) := by decide +kernel
theorem dX2_advance_0 : decode cX2_advance 0 = .ok (.aload_n 0, 1) := by decide +kernel
theorem dX2_advance_1 : decode cX2_advance 1 = .ok (.getfield 19, 3) := by decide +kernel
theorem dX2_advance_4 : decode cX2_advance 4 = .ok (.aload_n 0, 1) := by decide +kernel
theorem dX2_advance_5 : decode cX2_advance 5 = .ok (.getfield 15, 3) := by decide +kernel
theorem dX2_advance_8 : decode cX2_advance 8 = .ok (.if_icmp .ge 32, 3) := by decide +kernel
theorem dX2_advance_11 : decode cX2_advance 11 = .ok (.aload_n 0, 1) := by decide +kernel
theorem dX2_advance_12 : decode cX2_advance 12 = .ok (.getfield 9, 3) := by decide +kernel
theorem dX2_advance_15 : decode cX2_advance 15 = .ok (.aload_n 0, 1) := by decide +kernel
theorem dX2_advance_16 : decode cX2_advance 16 = .ok (.getfield 19, 3) := by decide +kernel
theorem dX2_advance_19 : decode cX2_advance 19 = .ok (.invokevirtual 32, 3) := by decide +kernel
theorem dX2_advance_22 : decode cX2_advance 22 = .ok (.bipush 32, 2) := by decide +kernel
theorem dX2_advance_24 : decode cX2_advance 24 = .ok (.if_icmp .ne 16, 3) := by decide +kernel
theorem dX2_advance_27 : decode cX2_advance 27 = .ok (.aload_n 0, 1) := by decide +kernel
theorem dX2_advance_28 : decode cX2_advance 28 = .ok (.dup, 1) := by decide +kernel
theorem dX2_advance_29 : decode cX2_advance 29 = .ok (.getfield 19, 3) := by decide +kernel
theorem dX2_advance_32 : decode cX2_advance 32 = .ok (.iconst 1, 1) := by decide +kernel
theorem dX2_advance_33 : decode cX2_advance 33 = .ok (.iadd, 1) := by decide +kernel
theorem dX2_advance_34 : decode cX2_advance 34 = .ok (.putfield 19, 3) := by decide +kernel
theorem dX2_advance_37 : decode cX2_advance 37 = .ok (.goto (-37), 3) := by decide +kernel
theorem dX2_advance_40 : decode cX2_advance 40 = .ok (.aload_n 0, 1) := by decide +kernel
theorem dX2_advance_41 : decode cX2_advance 41 = .ok (.aload_n 0, 1) := by decide +kernel
theorem dX2_advance_42 : decode cX2_advance 42 = .ok (.getfield 19, 3) := by decide +kernel
theorem dX2_advance_45 : decode cX2_advance 45 = .ok (.putfield 25, 3) := by decide +kernel
theorem dX2_advance_48 : decode cX2_advance 48 = .ok (.aload_n 0, 1) := by decide +kernel
theorem dX2_advance_49 : decode cX2_advance 49 = .ok (.lconst 0, 1) := by decide +kernel
theorem dX2_advance_50 : decode cX2_advance 50 = .ok (.putfield 28, 3) := by decide +kernel
theorem dX2_advance_53 : decode cX2_advance 53 = .ok (.aload_n 0, 1) := by decide +kernel
theorem dX2_advance_54 : decode cX2_advance 54 = .ok (.getfield 19, 3) := by decide +kernel
theorem dX2_advance_57 : decode cX2_advance 57 = .ok (.aload_n 0, 1) := by decide +kernel
theorem dX2_advance_58 : decode cX2_advance 58 = .ok (.getfield 15, 3) := by decide +kernel
theorem dX2_advance_61 : decode cX2_advance 61 = .ok (.if_icmp .lt 9, 3) := by decide +kernel
theorem dX2_advance_64 : decode cX2_advance 64 = .ok (.aload_n 0, 1) := by decide +kernel
theorem dX2_advance_65 : decode cX2_advance 65 = .ok (.iconst 0, 1) := by decide +kernel
theorem dX2_advance_66 : decode cX2_advance 66 = .ok (.putfield 22, 3) := by decide +kernel
theorem dX2_advance_69 : decode cX2_advance 69 = .ok (.return_, 1) := by decide +kernel
theorem dX2_advance_70 : decode cX2_advance 70 = .ok (.aload_n 0, 1) := by decide +kernel
theorem dX2_advance_71 : decode cX2_advance 71 = .ok (.getfield 9, 3) := by decide +kernel
theorem dX2_advance_74 : decode cX2_advance 74 = .ok (.aload_n 0, 1) := by decide +kernel
theorem dX2_advance_75 : decode cX2_advance 75 = .ok (.getfield 19, 3) := by decide +kernel
theorem dX2_advance_78 : decode cX2_advance 78 = .ok (.invokevirtual 32, 3) := by decide +kernel
theorem dX2_advance_81 : decode cX2_advance 81 = .ok (.istore_n 1, 1) := by decide +kernel
theorem dX2_advance_82 : decode cX2_advance 82 = .ok (.iload_n 1, 1) := by decide +kernel
theorem dX2_advance_83 : decode cX2_advance 83 = .ok (.invokestatic 38, 3) := by decide +kernel
theorem dX2_advance_86 : decode cX2_advance 86 = .ok (.ifCond .eq 10, 3) := by decide +kernel
theorem dX2_advance_89 : decode cX2_advance 89 = .ok (.aload_n 0, 1) := by decide +kernel
theorem dX2_advance_90 : decode cX2_advance 90 = .ok (.invokevirtual 42, 3) := by decide +kernel
theorem dX2_advance_93 : decode cX2_advance 93 = .ok (.goto 60, 3) := by decide +kernel
theorem dX2_advance_96 : decode cX2_advance 96 = .ok (.iload_n 1, 1) := by decide +kernel
theorem dX2_advance_97 : decode cX2_advance 97 = .ok (.invokestatic 45, 3) := by decide +kernel
theorem dX2_advance_100 : decode cX2_advance 100 = .ok (.ifCond .eq 10, 3) := by decide +kernel
theorem dX2_advance_103 : decode cX2_advance 103 = .ok (.aload_n 0, 1) := by decide +kernel
theorem dX2_advance_104 : decode cX2_advance 104 = .ok (.invokevirtual 48, 3) := by decide +kernel
theorem dX2_advance_107 : decode cX2_advance 107 = .ok (.goto 46, 3) := by decide +kernel
theorem dX2_advance_110 : decode cX2_advance 110 = .ok (.aload_n 0, 1) := by decide +kernel
theorem dX2_advance_111 : decode cX2_advance 111 = .ok (.iload_n 1, 1) := by decide +kernel
theorem dX2_advance_112 : decode cX2_advance 112 = .ok (.bipush 59, 2) := by decide +kernel
theorem dX2_advance_114 : decode cX2_advance 114 = .ok (.if_icmp .eq 15, 3) := by decide +kernel
theorem dX2_advance_117 : decode cX2_advance 117 = .ok (.iload_n 1, 1) := by decide +kernel
theorem dX2_advance_118 : decode cX2_advance 118 = .ok (.bipush 44, 2) := by decide +kernel
theorem dX2_advance_120 : decode cX2_advance 120 = .ok (.if_icmp .eq 9, 3) := by decide +kernel
theorem dX2_advance_123 : decode cX2_advance 123 = .ok (.iload_n 1, 1) := by decide +kernel
theorem dX2_advance_124 : decode cX2_advance 124 = .ok (.bipush 45, 2) := by decide +kernel
theorem dX2_advance_126 : decode cX2_advance 126 = .ok (.if_icmp .ne 7, 3) := by decide +kernel
theorem dX2_advance_129 : decode cX2_advance 129 = .ok (.iconst 3, 1) := by decide +kernel
theorem dX2_advance_130 : decode cX2_advance 130 = .ok (.goto 4, 3) := by decide +kernel
theorem dX2_advance_133 : decode cX2_advance 133 = .ok (.iconst 4, 1) := by decide +kernel
theorem dX2_advance_134 : decode cX2_advance 134 = .ok (.putfield 22, 3) := by decide +kernel
theorem dX2_advance_137 : decode cX2_advance 137 = .ok (.aload_n 0, 1) := by decide +kernel
theorem dX2_advance_138 : decode cX2_advance 138 = .ok (.iload_n 1, 1) := by decide +kernel
theorem dX2_advance_139 : decode cX2_advance 139 = .ok (.i2l, 1) := by decide +kernel
theorem dX2_advance_140 : decode cX2_advance 140 = .ok (.putfield 28, 3) := by decide +kernel
theorem dX2_advance_143 : decode cX2_advance 143 = .ok (.aload_n 0, 1) := by decide +kernel
theorem dX2_advance_144 : decode cX2_advance 144 = .ok (.dup, 1) := by decide +kernel
theorem dX2_advance_145 : decode cX2_advance 145 = .ok (.getfield 19, 3) := by decide +kernel
theorem dX2_advance_148 : decode cX2_advance 148 = .ok (.iconst 1, 1) := by decide +kernel
theorem dX2_advance_149 : decode cX2_advance 149 = .ok (.iadd, 1) := by decide +kernel
theorem dX2_advance_150 : decode cX2_advance 150 = .ok (.putfield 19, 3) := by decide +kernel
theorem dX2_advance_153 : decode cX2_advance 153 = .ok (.return_, 1) := by decide +kernel
theorem dX2_takeLetters_0 : decode cX2_takeLetters 0 = .ok (.aload_n 0, 1) := by decide +kernel
theorem dX2_takeLetters_1 : decode cX2_takeLetters 1 = .ok (.getfield 19, 3) := by decide +kernel
theorem dX2_takeLetters_4 : decode cX2_takeLetters 4 = .ok (.aload_n 0, 1) := by decide +kernel
theorem dX2_takeLetters_5 : decode cX2_takeLetters 5 = .ok (.getfield 15, 3) := by decide +kernel
theorem dX2_takeLetters_8 : decode cX2_takeLetters 8 = .ok (.if_icmp .ge 57, 3) := by decide +kernel
theorem dX2_takeLetters_11 : decode cX2_takeLetters 11 = .ok (.aload_n 0, 1) := by decide +kernel
theorem dX2_takeLetters_12 : decode cX2_takeLetters 12 = .ok (.getfield 9, 3) := by decide +kernel
theorem dX2_takeLetters_15 : decode cX2_takeLetters 15 = .ok (.aload_n 0, 1) := by decide +kernel
theorem dX2_takeLetters_16 : decode cX2_takeLetters 16 = .ok (.getfield 19, 3) := by decide +kernel
theorem dX2_takeLetters_19 : decode cX2_takeLetters 19 = .ok (.invokevirtual 32, 3) := by decide +kernel
theorem dX2_takeLetters_22 : decode cX2_takeLetters 22 = .ok (.invokestatic 38, 3) := by decide +kernel
theorem dX2_takeLetters_25 : decode cX2_takeLetters 25 = .ok (.ifCond .eq 40, 3) := by decide +kernel
theorem dX2_takeLetters_28 : decode cX2_takeLetters 28 = .ok (.aload_n 0, 1) := by decide +kernel
theorem dX2_takeLetters_29 : decode cX2_takeLetters 29 = .ok (.aload_n 0, 1) := by decide +kernel
theorem dX2_takeLetters_30 : decode cX2_takeLetters 30 = .ok (.getfield 28, 3) := by decide +kernel
theorem dX2_takeLetters_33 : decode cX2_takeLetters 33 = .ok (.bipush 8, 2) := by decide +kernel
theorem dX2_takeLetters_35 : decode cX2_takeLetters 35 = .ok (.lshl, 1) := by decide +kernel
theorem dX2_takeLetters_36 : decode cX2_takeLetters 36 = .ok (.aload_n 0, 1) := by decide +kernel
theorem dX2_takeLetters_37 : decode cX2_takeLetters 37 = .ok (.getfield 9, 3) := by decide +kernel
theorem dX2_takeLetters_40 : decode cX2_takeLetters 40 = .ok (.aload_n 0, 1) := by decide +kernel
theorem dX2_takeLetters_41 : decode cX2_takeLetters 41 = .ok (.getfield 19, 3) := by decide +kernel
theorem dX2_takeLetters_44 : decode cX2_takeLetters 44 = .ok (.invokevirtual 32, 3) := by decide +kernel
theorem dX2_takeLetters_47 : decode cX2_takeLetters 47 = .ok (.i2l, 1) := by decide +kernel
theorem dX2_takeLetters_48 : decode cX2_takeLetters 48 = .ok (.lor, 1) := by decide +kernel
theorem dX2_takeLetters_49 : decode cX2_takeLetters 49 = .ok (.putfield 28, 3) := by decide +kernel
theorem dX2_takeLetters_52 : decode cX2_takeLetters 52 = .ok (.aload_n 0, 1) := by decide +kernel
theorem dX2_takeLetters_53 : decode cX2_takeLetters 53 = .ok (.dup, 1) := by decide +kernel
theorem dX2_takeLetters_54 : decode cX2_takeLetters 54 = .ok (.getfield 19, 3) := by decide +kernel
theorem dX2_takeLetters_57 : decode cX2_takeLetters 57 = .ok (.iconst 1, 1) := by decide +kernel
theorem dX2_takeLetters_58 : decode cX2_takeLetters 58 = .ok (.iadd, 1) := by decide +kernel
theorem dX2_takeLetters_59 : decode cX2_takeLetters 59 = .ok (.putfield 19, 3) := by decide +kernel
theorem dX2_takeLetters_62 : decode cX2_takeLetters 62 = .ok (.goto (-62), 3) := by decide +kernel
theorem dX2_takeLetters_65 : decode cX2_takeLetters 65 = .ok (.aload_n 0, 1) := by decide +kernel
theorem dX2_takeLetters_66 : decode cX2_takeLetters 66 = .ok (.aload_n 0, 1) := by decide +kernel
theorem dX2_takeLetters_67 : decode cX2_takeLetters 67 = .ok (.getfield 19, 3) := by decide +kernel
theorem dX2_takeLetters_70 : decode cX2_takeLetters 70 = .ok (.aload_n 0, 1) := by decide +kernel
theorem dX2_takeLetters_71 : decode cX2_takeLetters 71 = .ok (.getfield 25, 3) := by decide +kernel
theorem dX2_takeLetters_74 : decode cX2_takeLetters 74 = .ok (.isub, 1) := by decide +kernel
theorem dX2_takeLetters_75 : decode cX2_takeLetters 75 = .ok (.bipush 6, 2) := by decide +kernel
theorem dX2_takeLetters_77 : decode cX2_takeLetters 77 = .ok (.if_icmp .gt 7, 3) := by decide +kernel
theorem dX2_takeLetters_80 : decode cX2_takeLetters 80 = .ok (.iconst 1, 1) := by decide +kernel
theorem dX2_takeLetters_81 : decode cX2_takeLetters 81 = .ok (.goto 4, 3) := by decide +kernel
theorem dX2_takeLetters_84 : decode cX2_takeLetters 84 = .ok (.iconst 4, 1) := by decide +kernel
theorem dX2_takeLetters_85 : decode cX2_takeLetters 85 = .ok (.putfield 22, 3) := by decide +kernel
theorem dX2_takeLetters_88 : decode cX2_takeLetters 88 = .ok (.return_, 1) := by decide +kernel
theorem dX2_takeDigits_0 : decode cX2_takeDigits 0 = .ok (.aload_n 0, 1) := by decide +kernel
theorem dX2_takeDigits_1 : decode cX2_takeDigits 1 = .ok (.getfield 19, 3) := by decide +kernel
theorem dX2_takeDigits_4 : decode cX2_takeDigits 4 = .ok (.aload_n 0, 1) := by decide +kernel
theorem dX2_takeDigits_5 : decode cX2_takeDigits 5 = .ok (.getfield 15, 3) := by decide +kernel
theorem dX2_takeDigits_8 : decode cX2_takeDigits 8 = .ok (.if_icmp .ge 62, 3) := by decide +kernel
theorem dX2_takeDigits_11 : decode cX2_takeDigits 11 = .ok (.aload_n 0, 1) := by decide +kernel
theorem dX2_takeDigits_12 : decode cX2_takeDigits 12 = .ok (.getfield 9, 3) := by decide +kernel
theorem dX2_takeDigits_15 : decode cX2_takeDigits 15 = .ok (.aload_n 0, 1) := by decide +kernel
theorem dX2_takeDigits_16 : decode cX2_takeDigits 16 = .ok (.getfield 19, 3) := by decide +kernel
theorem dX2_takeDigits_19 : decode cX2_takeDigits 19 = .ok (.invokevirtual 32, 3) := by decide +kernel
theorem dX2_takeDigits_22 : decode cX2_takeDigits 22 = .ok (.invokestatic 45, 3) := by decide +kernel
theorem dX2_takeDigits_25 : decode cX2_takeDigits 25 = .ok (.ifCond .eq 45, 3) := by decide +kernel
theorem dX2_takeDigits_28 : decode cX2_takeDigits 28 = .ok (.aload_n 0, 1) := by decide +kernel
theorem dX2_takeDigits_29 : decode cX2_takeDigits 29 = .ok (.aload_n 0, 1) := by decide +kernel
theorem dX2_takeDigits_30 : decode cX2_takeDigits 30 = .ok (.getfield 28, 3) := by decide +kernel
theorem dX2_takeDigits_33 : decode cX2_takeDigits 33 = .ok (.ldc2_w 51, 3) := by decide +kernel
theorem dX2_takeDigits_36 : decode cX2_takeDigits 36 = .ok (.lmul, 1) := by decide +kernel
theorem dX2_takeDigits_37 : decode cX2_takeDigits 37 = .ok (.aload_n 0, 1) := by decide +kernel
theorem dX2_takeDigits_38 : decode cX2_takeDigits 38 = .ok (.getfield 9, 3) := by decide +kernel
theorem dX2_takeDigits_41 : decode cX2_takeDigits 41 = .ok (.aload_n 0, 1) := by decide +kernel
theorem dX2_takeDigits_42 : decode cX2_takeDigits 42 = .ok (.getfield 19, 3) := by decide +kernel
theorem dX2_takeDigits_45 : decode cX2_takeDigits 45 = .ok (.invokevirtual 32, 3) := by decide +kernel
theorem dX2_takeDigits_48 : decode cX2_takeDigits 48 = .ok (.i2l, 1) := by decide +kernel
theorem dX2_takeDigits_49 : decode cX2_takeDigits 49 = .ok (.ladd, 1) := by decide +kernel
theorem dX2_takeDigits_50 : decode cX2_takeDigits 50 = .ok (.ldc2_w 53, 3) := by decide +kernel
theorem dX2_takeDigits_53 : decode cX2_takeDigits 53 = .ok (.lsub, 1) := by decide +kernel
theorem dX2_takeDigits_54 : decode cX2_takeDigits 54 = .ok (.putfield 28, 3) := by decide +kernel
theorem dX2_takeDigits_57 : decode cX2_takeDigits 57 = .ok (.aload_n 0, 1) := by decide +kernel
theorem dX2_takeDigits_58 : decode cX2_takeDigits 58 = .ok (.dup, 1) := by decide +kernel
theorem dX2_takeDigits_59 : decode cX2_takeDigits 59 = .ok (.getfield 19, 3) := by decide +kernel
theorem dX2_takeDigits_62 : decode cX2_takeDigits 62 = .ok (.iconst 1, 1) := by decide +kernel
theorem dX2_takeDigits_63 : decode cX2_takeDigits 63 = .ok (.iadd, 1) := by decide +kernel
theorem dX2_takeDigits_64 : decode cX2_takeDigits 64 = .ok (.putfield 19, 3) := by decide +kernel
theorem dX2_takeDigits_67 : decode cX2_takeDigits 67 = .ok (.goto (-67), 3) := by decide +kernel
theorem dX2_takeDigits_70 : decode cX2_takeDigits 70 = .ok (.aload_n 0, 1) := by decide +kernel
theorem dX2_takeDigits_71 : decode cX2_takeDigits 71 = .ok (.aload_n 0, 1) := by decide +kernel
theorem dX2_takeDigits_72 : decode cX2_takeDigits 72 = .ok (.getfield 19, 3) := by decide +kernel
theorem dX2_takeDigits_75 : decode cX2_takeDigits 75 = .ok (.aload_n 0, 1) := by decide +kernel
theorem dX2_takeDigits_76 : decode cX2_takeDigits 76 = .ok (.getfield 25, 3) := by decide +kernel
theorem dX2_takeDigits_79 : decode cX2_takeDigits 79 = .ok (.isub, 1) := by decide +kernel
theorem dX2_takeDigits_80 : decode cX2_takeDigits 80 = .ok (.iconst 4, 1) := by decide +kernel
theorem dX2_takeDigits_81 : decode cX2_takeDigits 81 = .ok (.if_icmp .gt 7, 3) := by decide +kernel
theorem dX2_takeDigits_84 : decode cX2_takeDigits 84 = .ok (.iconst 2, 1) := by decide +kernel
theorem dX2_takeDigits_85 : decode cX2_takeDigits 85 = .ok (.goto 4, 3) := by decide +kernel
theorem dX2_takeDigits_88 : decode cX2_takeDigits 88 = .ok (.iconst 4, 1) := by decide +kernel
theorem dX2_takeDigits_89 : decode cX2_takeDigits 89 = .ok (.putfield 22, 3) := by decide +kernel
theorem dX2_takeDigits_92 : decode cX2_takeDigits 92 = .ok (.return_, 1) := by decide +kernel
theorem dX2_isSign_0 : decode cX2_isSign 0 = .ok (.aload_n 0, 1) := by decide +kernel
theorem dX2_isSign_1 : decode cX2_isSign 1 = .ok (.getfield 22, 3) := by decide +kernel
theorem dX2_isSign_4 : decode cX2_isSign 4 = .ok (.iconst 3, 1) := by decide +kernel
theorem dX2_isSign_5 : decode cX2_isSign 5 = .ok (.if_icmp .ne 17, 3) := by decide +kernel
theorem dX2_isSign_8 : decode cX2_isSign 8 = .ok (.aload_n 0, 1) := by decide +kernel
theorem dX2_isSign_9 : decode cX2_isSign 9 = .ok (.getfield 28, 3) := by decide +kernel
theorem dX2_isSign_12 : decode cX2_isSign 12 = .ok (.iload_n 1, 1) := by decide +kernel
theorem dX2_isSign_13 : decode cX2_isSign 13 = .ok (.i2l, 1) := by decide +kernel
theorem dX2_isSign_14 : decode cX2_isSign 14 = .ok (.lcmp, 1) := by decide +kernel
theorem dX2_isSign_15 : decode cX2_isSign 15 = .ok (.ifCond .ne 7, 3) := by decide +kernel
theorem dX2_isSign_18 : decode cX2_isSign 18 = .ok (.iconst 1, 1) := by decide +kernel
theorem dX2_isSign_19 : decode cX2_isSign 19 = .ok (.goto 4, 3) := by decide +kernel
theorem dX2_isSign_22 : decode cX2_isSign 22 = .ok (.iconst 0, 1) := by decide +kernel
theorem dX2_isSign_23 : decode cX2_isSign 23 = .ok (.ireturn, 1) := by decide +kernel
theorem dX2_isWord_0 : decode cX2_isWord 0 = .ok (.aload_n 0, 1) := by decide +kernel
theorem dX2_isWord_1 : decode cX2_isWord 1 = .ok (.getfield 22, 3) := by decide +kernel
theorem dX2_isWord_4 : decode cX2_isWord 4 = .ok (.iconst 1, 1) := by decide +kernel
theorem dX2_isWord_5 : decode cX2_isWord 5 = .ok (.if_icmp .ne 16, 3) := by decide +kernel
theorem dX2_isWord_8 : decode cX2_isWord 8 = .ok (.aload_n 0, 1) := by decide +kernel
theorem dX2_isWord_9 : decode cX2_isWord 9 = .ok (.getfield 28, 3) := by decide +kernel
theorem dX2_isWord_12 : decode cX2_isWord 12 = .ok (.lload_n 1, 1) := by decide +kernel
theorem dX2_isWord_13 : decode cX2_isWord 13 = .ok (.lcmp, 1) := by decide +kernel
theorem dX2_isWord_14 : decode cX2_isWord 14 = .ok (.ifCond .ne 7, 3) := by decide +kernel
theorem dX2_isWord_17 : decode cX2_isWord 17 = .ok (.iconst 1, 1) := by decide +kernel
theorem dX2_isWord_18 : decode cX2_isWord 18 = .ok (.goto 4, 3) := by decide +kernel
theorem dX2_isWord_21 : decode cX2_isWord 21 = .ok (.iconst 0, 1) := by decide +kernel
theorem dX2_isWord_22 : decode cX2_isWord 22 = .ok (.ireturn, 1) := by decide +kernel
theorem dX2_isLetter_0 : decode cX2_isLetter 0 = .ok (.iload_n 0, 1) := by decide +kernel
theorem dX2_isLetter_1 : decode cX2_isLetter 1 = .ok (.bipush 97, 2) := by decide +kernel
theorem dX2_isLetter_3 : decode cX2_isLetter 3 = .ok (.if_icmp .lt 13, 3) := by decide +kernel
theorem dX2_isLetter_6 : decode cX2_isLetter 6 = .ok (.iload_n 0, 1) := by decide +kernel
theorem dX2_isLetter_7 : decode cX2_isLetter 7 = .ok (.bipush 122, 2) := by decide +kernel
theorem dX2_isLetter_9 : decode cX2_isLetter 9 = .ok (.if_icmp .gt 7, 3) := by decide +kernel
theorem dX2_isLetter_12 : decode cX2_isLetter 12 = .ok (.iconst 1, 1) := by decide +kernel
theorem dX2_isLetter_13 : decode cX2_isLetter 13 = .ok (.goto 4, 3) := by decide +kernel
theorem dX2_isLetter_16 : decode cX2_isLetter 16 = .ok (.iconst 0, 1) := by decide +kernel
theorem dX2_isLetter_17 : decode cX2_isLetter 17 = .ok (.ireturn, 1) := by decide +kernel
theorem dX2_isDigit_0 : decode cX2_isDigit 0 = .ok (.iload_n 0, 1) := by decide +kernel
theorem dX2_isDigit_1 : decode cX2_isDigit 1 = .ok (.bipush 48, 2) := by decide +kernel
theorem dX2_isDigit_3 : decode cX2_isDigit 3 = .ok (.if_icmp .lt 13, 3) := by decide +kernel
theorem dX2_isDigit_6 : decode cX2_isDigit 6 = .ok (.iload_n 0, 1) := by decide +kernel
theorem dX2_isDigit_7 : decode cX2_isDigit 7 = .ok (.bipush 57, 2) := by decide +kernel
theorem dX2_isDigit_9 : decode cX2_isDigit 9 = .ok (.if_icmp .gt 7, 3) := by decide +kernel
theorem dX2_isDigit_12 : decode cX2_isDigit 12 = .ok (.iconst 1, 1) := by decide +kernel
theorem dX2_isDigit_13 : decode cX2_isDigit 13 = .ok (.goto 4, 3) := by decide +kernel
theorem dX2_isDigit_16 : decode cX2_isDigit 16 = .ok (.iconst 0, 1) := by decide +kernel
theorem dX2_isDigit_17 : decode cX2_isDigit 17 = .ok (.ireturn, 1) := by decide +kernel
theorem dX3_init_0 : decode cX3_init 0 = .ok (.aload_n 0, 1) := by decide +kernel
theorem dX3_init_1 : decode cX3_init 1 = .ok (.invokespecial 3, 3) := by decide +kernel
theorem dX3_init_4 : decode cX3_init 4 = .ok (.aload_n 0, 1) := by decide +kernel
theorem dX3_init_5 : decode cX3_init 5 = .ok (.iconst 4, 1) := by decide +kernel
theorem dX3_init_6 : decode cX3_init 6 = .ok (.newarray .int, 2) := by decide +kernel
theorem dX3_init_8 : decode cX3_init 8 = .ok (.putfield 9, 3) := by decide +kernel
theorem dX3_init_11 : decode cX3_init 11 = .ok (.aload_n 0, 1) := by decide +kernel
theorem dX3_init_12 : decode cX3_init 12 = .ok (.iconst 4, 1) := by decide +kernel
theorem dX3_init_13 : decode cX3_init 13 = .ok (.newarray .int, 2) := by decide +kernel
theorem dX3_init_15 : decode cX3_init 15 = .ok (.putfield 15, 3) := by decide +kernel
theorem dX3_init_18 : decode cX3_init 18 = .ok (.aload_n 0, 1) := by decide +kernel
theorem dX3_init_19 : decode cX3_init 19 = .ok (.iconst 4, 1) := by decide +kernel
theorem dX3_init_20 : decode cX3_init 20 = .ok (.newarray .boolean, 2) := by decide +kernel
theorem dX3_init_22 : decode cX3_init 22 = .ok (.putfield 18, 3) := by decide +kernel
theorem dX3_init_25 : decode cX3_init 25 = .ok (.aload_n 0, 1) := by decide +kernel
theorem dX3_init_26 : decode cX3_init 26 = .ok (.iconst 4, 1) := by decide +kernel
theorem dX3_init_27 : decode cX3_init 27 = .ok (.newarray .boolean, 2) := by decide +kernel
theorem dX3_init_29 : decode cX3_init 29 = .ok (.putfield 22, 3) := by decide +kernel
theorem dX3_init_32 : decode cX3_init 32 = .ok (.aload_n 0, 1) := by decide +kernel
theorem dX3_init_33 : decode cX3_init 33 = .ok (.iconst 0, 1) := by decide +kernel
theorem dX3_init_34 : decode cX3_init 34 = .ok (.putfield 25, 3) := by decide +kernel
theorem dX3_init_37 : decode cX3_init 37 = .ok (.return_, 1) := by decide +kernel
theorem dX3_add_0 : decode cX3_add 0 = .ok (.aload_n 0, 1) := by decide +kernel
theorem dX3_add_1 : decode cX3_add 1 = .ok (.getfield 25, 3) := by decide +kernel
theorem dX3_add_4 : decode cX3_add 4 = .ok (.iconst 4, 1) := by decide +kernel
theorem dX3_add_5 : decode cX3_add 5 = .ok (.if_icmp .ge 54, 3) := by decide +kernel
theorem dX3_add_8 : decode cX3_add 8 = .ok (.aload_n 0, 1) := by decide +kernel
theorem dX3_add_9 : decode cX3_add 9 = .ok (.getfield 9, 3) := by decide +kernel
theorem dX3_add_12 : decode cX3_add 12 = .ok (.aload_n 0, 1) := by decide +kernel
theorem dX3_add_13 : decode cX3_add 13 = .ok (.getfield 25, 3) := by decide +kernel
theorem dX3_add_16 : decode cX3_add 16 = .ok (.iload_n 1, 1) := by decide +kernel
theorem dX3_add_17 : decode cX3_add 17 = .ok (.iastore, 1) := by decide +kernel
theorem dX3_add_18 : decode cX3_add 18 = .ok (.aload_n 0, 1) := by decide +kernel
theorem dX3_add_19 : decode cX3_add 19 = .ok (.getfield 15, 3) := by decide +kernel
theorem dX3_add_22 : decode cX3_add 22 = .ok (.aload_n 0, 1) := by decide +kernel
theorem dX3_add_23 : decode cX3_add 23 = .ok (.getfield 25, 3) := by decide +kernel
theorem dX3_add_26 : decode cX3_add 26 = .ok (.iload_n 2, 1) := by decide +kernel
theorem dX3_add_27 : decode cX3_add 27 = .ok (.iastore, 1) := by decide +kernel
theorem dX3_add_28 : decode cX3_add 28 = .ok (.aload_n 0, 1) := by decide +kernel
theorem dX3_add_29 : decode cX3_add 29 = .ok (.getfield 18, 3) := by decide +kernel
theorem dX3_add_32 : decode cX3_add 32 = .ok (.aload_n 0, 1) := by decide +kernel
theorem dX3_add_33 : decode cX3_add 33 = .ok (.getfield 25, 3) := by decide +kernel
theorem dX3_add_36 : decode cX3_add 36 = .ok (.iload_n 3, 1) := by decide +kernel
theorem dX3_add_37 : decode cX3_add 37 = .ok (.bastore, 1) := by decide +kernel
theorem dX3_add_38 : decode cX3_add 38 = .ok (.aload_n 0, 1) := by decide +kernel
theorem dX3_add_39 : decode cX3_add 39 = .ok (.getfield 22, 3) := by decide +kernel
theorem dX3_add_42 : decode cX3_add 42 = .ok (.aload_n 0, 1) := by decide +kernel
theorem dX3_add_43 : decode cX3_add 43 = .ok (.getfield 25, 3) := by decide +kernel
theorem dX3_add_46 : decode cX3_add 46 = .ok (.iload 4, 2) := by decide +kernel
theorem dX3_add_48 : decode cX3_add 48 = .ok (.bastore, 1) := by decide +kernel
theorem dX3_add_49 : decode cX3_add 49 = .ok (.aload_n 0, 1) := by decide +kernel
theorem dX3_add_50 : decode cX3_add 50 = .ok (.dup, 1) := by decide +kernel
theorem dX3_add_51 : decode cX3_add 51 = .ok (.getfield 25, 3) := by decide +kernel
theorem dX3_add_54 : decode cX3_add 54 = .ok (.iconst 1, 1) := by decide +kernel
theorem dX3_add_55 : decode cX3_add 55 = .ok (.iadd, 1) := by decide +kernel
theorem dX3_add_56 : decode cX3_add 56 = .ok (.putfield 25, 3) := by decide +kernel
theorem dX3_add_59 : decode cX3_add 59 = .ok (.return_, 1) := by decide +kernel
theorem dX3_has_0 : decode cX3_has 0 = .ok (.iconst 0, 1) := by decide +kernel
theorem dX3_has_1 : decode cX3_has 1 = .ok (.istore_n 2, 1) := by decide +kernel
theorem dX3_has_2 : decode cX3_has 2 = .ok (.iload_n 2, 1) := by decide +kernel
theorem dX3_has_3 : decode cX3_has 3 = .ok (.aload_n 0, 1) := by decide +kernel
theorem dX3_has_4 : decode cX3_has 4 = .ok (.getfield 25, 3) := by decide +kernel
theorem dX3_has_7 : decode cX3_has 7 = .ok (.if_icmp .ge 21, 3) := by decide +kernel
theorem dX3_has_10 : decode cX3_has 10 = .ok (.aload_n 0, 1) := by decide +kernel
theorem dX3_has_11 : decode cX3_has 11 = .ok (.getfield 9, 3) := by decide +kernel
theorem dX3_has_14 : decode cX3_has 14 = .ok (.iload_n 2, 1) := by decide +kernel
theorem dX3_has_15 : decode cX3_has 15 = .ok (.iaload, 1) := by decide +kernel
theorem dX3_has_16 : decode cX3_has 16 = .ok (.iload_n 1, 1) := by decide +kernel
theorem dX3_has_17 : decode cX3_has 17 = .ok (.if_icmp .ne 5, 3) := by decide +kernel
theorem dX3_has_20 : decode cX3_has 20 = .ok (.iconst 1, 1) := by decide +kernel
theorem dX3_has_21 : decode cX3_has 21 = .ok (.ireturn, 1) := by decide +kernel
theorem dX3_has_22 : decode cX3_has 22 = .ok (.iinc 2 1, 3) := by decide +kernel
theorem dX3_has_25 : decode cX3_has 25 = .ok (.goto (-23), 3) := by decide +kernel
theorem dX3_has_28 : decode cX3_has 28 = .ok (.iconst 0, 1) := by decide +kernel
theorem dX3_has_29 : decode cX3_has 29 = .ok (.ireturn, 1) := by decide +kernel
theorem dX3_lengthOf_0 : decode cX3_lengthOf 0 = .ok (.iconst 0, 1) := by decide +kernel
theorem dX3_lengthOf_1 : decode cX3_lengthOf 1 = .ok (.istore_n 2, 1) := by decide +kernel
theorem dX3_lengthOf_2 : decode cX3_lengthOf 2 = .ok (.iconst 0, 1) := by decide +kernel
theorem dX3_lengthOf_3 : decode cX3_lengthOf 3 = .ok (.istore_n 3, 1) := by decide +kernel
theorem dX3_lengthOf_4 : decode cX3_lengthOf 4 = .ok (.iconst 0, 1) := by decide +kernel
theorem dX3_lengthOf_5 : decode cX3_lengthOf 5 = .ok (.istore 4, 2) := by decide +kernel
theorem dX3_lengthOf_7 : decode cX3_lengthOf 7 = .ok (.aload_n 0, 1) := by decide +kernel
theorem dX3_lengthOf_8 : decode cX3_lengthOf 8 = .ok (.astore 5, 2) := by decide +kernel
theorem dX3_lengthOf_10 : decode cX3_lengthOf 10 = .ok (.aload 5, 2) := by decide +kernel
theorem dX3_lengthOf_12 : decode cX3_lengthOf 12 = .ok (.arraylength, 1) := by decide +kernel
theorem dX3_lengthOf_13 : decode cX3_lengthOf 13 = .ok (.istore 6, 2) := by decide +kernel
theorem dX3_lengthOf_15 : decode cX3_lengthOf 15 = .ok (.iconst 0, 1) := by decide +kernel
theorem dX3_lengthOf_16 : decode cX3_lengthOf 16 = .ok (.istore 7, 2) := by decide +kernel
theorem dX3_lengthOf_18 : decode cX3_lengthOf 18 = .ok (.iload 7, 2) := by decide +kernel
theorem dX3_lengthOf_20 : decode cX3_lengthOf 20 = .ok (.iload 6, 2) := by decide +kernel
theorem dX3_lengthOf_22 : decode cX3_lengthOf 22 = .ok (.if_icmp .ge 71, 3) := by decide +kernel
theorem dX3_lengthOf_25 : decode cX3_lengthOf 25 = .ok (.aload 5, 2) := by decide +kernel
theorem dX3_lengthOf_27 : decode cX3_lengthOf 27 = .ok (.iload 7, 2) := by decide +kernel
theorem dX3_lengthOf_29 : decode cX3_lengthOf 29 = .ok (.iaload, 1) := by decide +kernel
theorem dX3_lengthOf_30 : decode cX3_lengthOf 30 = .ok (.istore 8, 2) := by decide +kernel
theorem dX3_lengthOf_32 : decode cX3_lengthOf 32 = .ok (.iload 8, 2) := by decide +kernel
theorem dX3_lengthOf_34 : decode cX3_lengthOf 34 = .ok (.iconst 2, 1) := by decide +kernel
theorem dX3_lengthOf_35 : decode cX3_lengthOf 35 = .ok (.ishr, 1) := by decide +kernel
theorem dX3_lengthOf_36 : decode cX3_lengthOf 36 = .ok (.istore 9, 2) := by decide +kernel
theorem dX3_lengthOf_38 : decode cX3_lengthOf 38 = .ok (.iload 8, 2) := by decide +kernel
theorem dX3_lengthOf_40 : decode cX3_lengthOf 40 = .ok (.iconst (-1), 1) := by decide +kernel
theorem dX3_lengthOf_41 : decode cX3_lengthOf 41 = .ok (.if_icmp .ne 9, 3) := by decide +kernel
theorem dX3_lengthOf_44 : decode cX3_lengthOf 44 = .ok (.iconst 1, 1) := by decide +kernel
theorem dX3_lengthOf_45 : decode cX3_lengthOf 45 = .ok (.istore 4, 2) := by decide +kernel
theorem dX3_lengthOf_47 : decode cX3_lengthOf 47 = .ok (.goto 40, 3) := by decide +kernel
theorem dX3_lengthOf_50 : decode cX3_lengthOf 50 = .ok (.iload 4, 2) := by decide +kernel
theorem dX3_lengthOf_52 : decode cX3_lengthOf 52 = .ok (.ifCond .ne 23, 3) := by decide +kernel
theorem dX3_lengthOf_55 : decode cX3_lengthOf 55 = .ok (.iload 9, 2) := by decide +kernel
theorem dX3_lengthOf_57 : decode cX3_lengthOf 57 = .ok (.ifCond .lt 18, 3) := by decide +kernel
theorem dX3_lengthOf_60 : decode cX3_lengthOf 60 = .ok (.iload 9, 2) := by decide +kernel
theorem dX3_lengthOf_62 : decode cX3_lengthOf 62 = .ok (.iload_n 1, 1) := by decide +kernel
theorem dX3_lengthOf_63 : decode cX3_lengthOf 63 = .ok (.if_icmp .ge 12, 3) := by decide +kernel
theorem dX3_lengthOf_66 : decode cX3_lengthOf 66 = .ok (.iload_n 3, 1) := by decide +kernel
theorem dX3_lengthOf_67 : decode cX3_lengthOf 67 = .ok (.iload 9, 2) := by decide +kernel
theorem dX3_lengthOf_69 : decode cX3_lengthOf 69 = .ok (.ishr, 1) := by decide +kernel
theorem dX3_lengthOf_70 : decode cX3_lengthOf 70 = .ok (.iconst 1, 1) := by decide +kernel
theorem dX3_lengthOf_71 : decode cX3_lengthOf 71 = .ok (.iand, 1) := by decide +kernel
theorem dX3_lengthOf_72 : decode cX3_lengthOf 72 = .ok (.ifCond .eq 5, 3) := by decide +kernel
theorem dX3_lengthOf_75 : decode cX3_lengthOf 75 = .ok (.iconst 0, 1) := by decide +kernel
theorem dX3_lengthOf_76 : decode cX3_lengthOf 76 = .ok (.ireturn, 1) := by decide +kernel
theorem dX3_lengthOf_77 : decode cX3_lengthOf 77 = .ok (.iload_n 3, 1) := by decide +kernel
theorem dX3_lengthOf_78 : decode cX3_lengthOf 78 = .ok (.iconst 1, 1) := by decide +kernel
theorem dX3_lengthOf_79 : decode cX3_lengthOf 79 = .ok (.iload 9, 2) := by decide +kernel
theorem dX3_lengthOf_81 : decode cX3_lengthOf 81 = .ok (.ishl, 1) := by decide +kernel
theorem dX3_lengthOf_82 : decode cX3_lengthOf 82 = .ok (.ior, 1) := by decide +kernel
theorem dX3_lengthOf_83 : decode cX3_lengthOf 83 = .ok (.istore_n 3, 1) := by decide +kernel
theorem dX3_lengthOf_84 : decode cX3_lengthOf 84 = .ok (.iinc 2 1, 3) := by decide +kernel
theorem dX3_lengthOf_87 : decode cX3_lengthOf 87 = .ok (.iinc 7 1, 3) := by decide +kernel
theorem dX3_lengthOf_90 : decode cX3_lengthOf 90 = .ok (.goto (-72), 3) := by decide +kernel
theorem dX3_lengthOf_93 : decode cX3_lengthOf 93 = .ok (.iload_n 2, 1) := by decide +kernel
theorem dX3_lengthOf_94 : decode cX3_lengthOf 94 = .ok (.ireturn, 1) := by decide +kernel
theorem dX3_writeKey_0 : decode cX3_writeKey 0 = .ok (.aload_n 3, 1) := by decide +kernel
theorem dX3_writeKey_1 : decode cX3_writeKey 1 = .ok (.invokevirtual 29, 3) := by decide +kernel
theorem dX3_writeKey_4 : decode cX3_writeKey 4 = .ok (.iconst 0, 1) := by decide +kernel
theorem dX3_writeKey_5 : decode cX3_writeKey 5 = .ok (.istore 4, 2) := by decide +kernel
theorem dX3_writeKey_7 : decode cX3_writeKey 7 = .ok (.iload 4, 2) := by decide +kernel
theorem dX3_writeKey_9 : decode cX3_writeKey 9 = .ok (.aload_n 0, 1) := by decide +kernel
theorem dX3_writeKey_10 : decode cX3_writeKey 10 = .ok (.getfield 25, 3) := by decide +kernel
theorem dX3_writeKey_13 : decode cX3_writeKey 13 = .ok (.if_icmp .ge 28, 3) := by decide +kernel
theorem dX3_writeKey_16 : decode cX3_writeKey 16 = .ok (.aload_n 0, 1) := by decide +kernel
theorem dX3_writeKey_17 : decode cX3_writeKey 17 = .ok (.iload 4, 2) := by decide +kernel
theorem dX3_writeKey_19 : decode cX3_writeKey 19 = .ok (.aload_n 1, 1) := by decide +kernel
theorem dX3_writeKey_20 : decode cX3_writeKey 20 = .ok (.iload_n 2, 1) := by decide +kernel
theorem dX3_writeKey_21 : decode cX3_writeKey 21 = .ok (.aload_n 0, 1) := by decide +kernel
theorem dX3_writeKey_22 : decode cX3_writeKey 22 = .ok (.getfield 9, 3) := by decide +kernel
theorem dX3_writeKey_25 : decode cX3_writeKey 25 = .ok (.iload 4, 2) := by decide +kernel
theorem dX3_writeKey_27 : decode cX3_writeKey 27 = .ok (.iaload, 1) := by decide +kernel
theorem dX3_writeKey_28 : decode cX3_writeKey 28 = .ok (.invokevirtual 34, 3) := by decide +kernel
theorem dX3_writeKey_31 : decode cX3_writeKey 31 = .ok (.aload_n 3, 1) := by decide +kernel
theorem dX3_writeKey_32 : decode cX3_writeKey 32 = .ok (.invokevirtual 40, 3) := by decide +kernel
theorem dX3_writeKey_35 : decode cX3_writeKey 35 = .ok (.iinc 4 1, 3) := by decide +kernel
theorem dX3_writeKey_38 : decode cX3_writeKey 38 = .ok (.goto (-31), 3) := by decide +kernel
theorem dX3_writeKey_41 : decode cX3_writeKey 41 = .ok (.aload_n 3, 1) := by decide +kernel
theorem dX3_writeKey_42 : decode cX3_writeKey 42 = .ok (.iload_n 2, 1) := by decide +kernel
theorem dX3_writeKey_43 : decode cX3_writeKey 43 = .ok (.invokevirtual 44, 3) := by decide +kernel
theorem dX3_writeKey_46 : decode cX3_writeKey 46 = .ok (.return_, 1) := by decide +kernel
theorem dX3_writePart_0 : decode cX3_writePart 0 = .ok (.iload_n 1, 1) := by decide +kernel
theorem dX3_writePart_1 : decode cX3_writePart 1 = .ok (.ifCond .lt 11, 3) := by decide +kernel
theorem dX3_writePart_4 : decode cX3_writePart 4 = .ok (.iload_n 1, 1) := by decide +kernel
theorem dX3_writePart_5 : decode cX3_writePart 5 = .ok (.aload_n 0, 1) := by decide +kernel
theorem dX3_writePart_6 : decode cX3_writePart 6 = .ok (.getfield 25, 3) := by decide +kernel
theorem dX3_writePart_9 : decode cX3_writePart 9 = .ok (.if_icmp .lt 4, 3) := by decide +kernel
theorem dX3_writePart_12 : decode cX3_writePart 12 = .ok (.return_, 1) := by decide +kernel
theorem dX3_writePart_13 : decode cX3_writePart 13 = .ok (.lload_n 2, 1) := by decide +kernel
theorem dX3_writePart_14 : decode cX3_writePart 14 = .ok (.ldc2_w 48, 3) := by decide +kernel
theorem dX3_writePart_17 : decode cX3_writePart 17 = .ok (.lcmp, 1) := by decide +kernel
theorem dX3_writePart_18 : decode cX3_writePart 18 = .ok (.ifCond .ne 23, 3) := by decide +kernel
theorem dX3_writePart_21 : decode cX3_writePart 21 = .ok (.aload 4, 2) := by decide +kernel
theorem dX3_writePart_23 : decode cX3_writePart 23 = .ok (.aload_n 0, 1) := by decide +kernel
theorem dX3_writePart_24 : decode cX3_writePart 24 = .ok (.getfield 22, 3) := by decide +kernel
theorem dX3_writePart_27 : decode cX3_writePart 27 = .ok (.iload_n 1, 1) := by decide +kernel
theorem dX3_writePart_28 : decode cX3_writePart 28 = .ok (.baload, 1) := by decide +kernel
theorem dX3_writePart_29 : decode cX3_writePart 29 = .ok (.ifCond .eq 7, 3) := by decide +kernel
theorem dX3_writePart_32 : decode cX3_writePart 32 = .ok (.iconst 0, 1) := by decide +kernel
theorem dX3_writePart_33 : decode cX3_writePart 33 = .ok (.goto 4, 3) := by decide +kernel
theorem dX3_writePart_36 : decode cX3_writePart 36 = .ok (.iconst 2, 1) := by decide +kernel
theorem dX3_writePart_37 : decode cX3_writePart 37 = .ok (.invokevirtual 50, 3) := by decide +kernel
theorem dX3_writePart_40 : decode cX3_writePart 40 = .ok (.return_, 1) := by decide +kernel
theorem dX3_writePart_41 : decode cX3_writePart 41 = .ok (.aload 4, 2) := by decide +kernel
theorem dX3_writePart_43 : decode cX3_writePart 43 = .ok (.iconst 1, 1) := by decide +kernel
theorem dX3_writePart_44 : decode cX3_writePart 44 = .ok (.invokevirtual 50, 3) := by decide +kernel
theorem dX3_writePart_47 : decode cX3_writePart 47 = .ok (.aload_n 0, 1) := by decide +kernel
theorem dX3_writePart_48 : decode cX3_writePart 48 = .ok (.getfield 18, 3) := by decide +kernel
theorem dX3_writePart_51 : decode cX3_writePart 51 = .ok (.iload_n 1, 1) := by decide +kernel
theorem dX3_writePart_52 : decode cX3_writePart 52 = .ok (.baload, 1) := by decide +kernel
theorem dX3_writePart_53 : decode cX3_writePart 53 = .ok (.ifCond .eq 9, 3) := by decide +kernel
theorem dX3_writePart_56 : decode cX3_writePart 56 = .ok (.sipush 255, 3) := by decide +kernel
theorem dX3_writePart_59 : decode cX3_writePart 59 = .ok (.goto 4, 3) := by decide +kernel
theorem dX3_writePart_62 : decode cX3_writePart 62 = .ok (.iconst 0, 1) := by decide +kernel
theorem dX3_writePart_63 : decode cX3_writePart 63 = .ok (.istore 5, 2) := by decide +kernel
theorem dX3_writePart_65 : decode cX3_writePart 65 = .ok (.aload_n 0, 1) := by decide +kernel
theorem dX3_writePart_66 : decode cX3_writePart 66 = .ok (.getfield 15, 3) := by decide +kernel
theorem dX3_writePart_69 : decode cX3_writePart 69 = .ok (.iload_n 1, 1) := by decide +kernel
theorem dX3_writePart_70 : decode cX3_writePart 70 = .ok (.iaload, 1) := by decide +kernel
theorem dX3_writePart_71 : decode cX3_writePart 71 = .ok (.ifCond .ne 34, 3) := by decide +kernel
theorem dX3_writePart_74 : decode cX3_writePart 74 = .ok (.lload_n 2, 1) := by decide +kernel
theorem dX3_writePart_75 : decode cX3_writePart 75 = .ok (.l2i, 1) := by decide +kernel
theorem dX3_writePart_76 : decode cX3_writePart 76 = .ok (.ldc 53, 2) := by decide +kernel
theorem dX3_writePart_78 : decode cX3_writePart 78 = .ok (.iadd, 1) := by decide +kernel
theorem dX3_writePart_79 : decode cX3_writePart 79 = .ok (.istore 6, 2) := by decide +kernel
theorem dX3_writePart_81 : decode cX3_writePart 81 = .ok (.aload 4, 2) := by decide +kernel
theorem dX3_writePart_83 : decode cX3_writePart 83 = .ok (.iload 6, 2) := by decide +kernel
theorem dX3_writePart_85 : decode cX3_writePart 85 = .ok (.bipush 8, 2) := by decide +kernel
theorem dX3_writePart_87 : decode cX3_writePart 87 = .ok (.ishr, 1) := by decide +kernel
theorem dX3_writePart_88 : decode cX3_writePart 88 = .ok (.iload 5, 2) := by decide +kernel
theorem dX3_writePart_90 : decode cX3_writePart 90 = .ok (.ixor, 1) := by decide +kernel
theorem dX3_writePart_91 : decode cX3_writePart 91 = .ok (.invokevirtual 50, 3) := by decide +kernel
theorem dX3_writePart_94 : decode cX3_writePart 94 = .ok (.aload 4, 2) := by decide +kernel
theorem dX3_writePart_96 : decode cX3_writePart 96 = .ok (.iload 6, 2) := by decide +kernel
theorem dX3_writePart_98 : decode cX3_writePart 98 = .ok (.iload 5, 2) := by decide +kernel
theorem dX3_writePart_100 : decode cX3_writePart 100 = .ok (.ixor, 1) := by decide +kernel
theorem dX3_writePart_101 : decode cX3_writePart 101 = .ok (.invokevirtual 50, 3) := by decide +kernel
theorem dX3_writePart_104 : decode cX3_writePart 104 = .ok (.return_, 1) := by decide +kernel
theorem dX3_writePart_105 : decode cX3_writePart 105 = .ok (.bipush 40, 2) := by decide +kernel
theorem dX3_writePart_107 : decode cX3_writePart 107 = .ok (.istore 6, 2) := by decide +kernel
theorem dX3_writePart_109 : decode cX3_writePart 109 = .ok (.iload 6, 2) := by decide +kernel
theorem dX3_writePart_111 : decode cX3_writePart 111 = .ok (.ifCond .lt 31, 3) := by decide +kernel
theorem dX3_writePart_114 : decode cX3_writePart 114 = .ok (.lload_n 2, 1) := by decide +kernel
theorem dX3_writePart_115 : decode cX3_writePart 115 = .ok (.iload 6, 2) := by decide +kernel
theorem dX3_writePart_117 : decode cX3_writePart 117 = .ok (.lshr, 1) := by decide +kernel
theorem dX3_writePart_118 : decode cX3_writePart 118 = .ok (.lconst 0, 1) := by decide +kernel
theorem dX3_writePart_119 : decode cX3_writePart 119 = .ok (.lcmp, 1) := by decide +kernel
theorem dX3_writePart_120 : decode cX3_writePart 120 = .ok (.ifCond .eq 16, 3) := by decide +kernel
theorem dX3_writePart_123 : decode cX3_writePart 123 = .ok (.aload 4, 2) := by decide +kernel
theorem dX3_writePart_125 : decode cX3_writePart 125 = .ok (.lload_n 2, 1) := by decide +kernel
theorem dX3_writePart_126 : decode cX3_writePart 126 = .ok (.iload 6, 2) := by decide +kernel
theorem dX3_writePart_128 : decode cX3_writePart 128 = .ok (.lshr, 1) := by decide +kernel
theorem dX3_writePart_129 : decode cX3_writePart 129 = .ok (.l2i, 1) := by decide +kernel
theorem dX3_writePart_130 : decode cX3_writePart 130 = .ok (.iload 5, 2) := by decide +kernel
theorem dX3_writePart_132 : decode cX3_writePart 132 = .ok (.ixor, 1) := by decide +kernel
theorem dX3_writePart_133 : decode cX3_writePart 133 = .ok (.invokevirtual 50, 3) := by decide +kernel
theorem dX3_writePart_136 : decode cX3_writePart 136 = .ok (.iinc 6 (-8), 3) := by decide +kernel
theorem dX3_writePart_139 : decode cX3_writePart 139 = .ok (.goto (-30), 3) := by decide +kernel
theorem dX3_writePart_142 : decode cX3_writePart 142 = .ok (.aload 4, 2) := by decide +kernel
theorem dX3_writePart_144 : decode cX3_writePart 144 = .ok (.iload 5, 2) := by decide +kernel
theorem dX3_writePart_146 : decode cX3_writePart 146 = .ok (.invokevirtual 50, 3) := by decide +kernel
theorem dX3_writePart_149 : decode cX3_writePart 149 = .ok (.return_, 1) := by decide +kernel
theorem dX4_init_0 : decode cX4_init 0 = .ok (.aload_n 0, 1) := by decide +kernel
theorem dX4_init_1 : decode cX4_init 1 = .ok (.invokespecial 3, 3) := by decide +kernel
theorem dX4_init_4 : decode cX4_init 4 = .ok (.aload_n 0, 1) := by decide +kernel
theorem dX4_init_5 : decode cX4_init 5 = .ok (.bipush 20, 2) := by decide +kernel
theorem dX4_init_7 : decode cX4_init 7 = .ok (.newarray .int, 2) := by decide +kernel
theorem dX4_init_9 : decode cX4_init 9 = .ok (.putfield 9, 3) := by decide +kernel
theorem dX4_init_12 : decode cX4_init 12 = .ok (.aload_n 0, 1) := by decide +kernel
theorem dX4_init_13 : decode cX4_init 13 = .ok (.bipush 80, 2) := by decide +kernel
theorem dX4_init_15 : decode cX4_init 15 = .ok (.newarray .long, 2) := by decide +kernel
theorem dX4_init_17 : decode cX4_init 17 = .ok (.putfield 15, 3) := by decide +kernel
theorem dX4_init_20 : decode cX4_init 20 = .ok (.aload_n 0, 1) := by decide +kernel
theorem dX4_init_21 : decode cX4_init 21 = .ok (.new 19, 3) := by decide +kernel
theorem dX4_init_24 : decode cX4_init 24 = .ok (.dup, 1) := by decide +kernel
theorem dX4_init_25 : decode cX4_init 25 = .ok (.bipush 40, 2) := by decide +kernel
theorem dX4_init_27 : decode cX4_init 27 = .ok (.invokespecial 21, 3) := by decide +kernel
theorem dX4_init_30 : decode cX4_init 30 = .ok (.putfield 24, 3) := by decide +kernel
theorem dX4_init_33 : decode cX4_init 33 = .ok (.aload_n 0, 1) := by decide +kernel
theorem dX4_init_34 : decode cX4_init 34 = .ok (.new 19, 3) := by decide +kernel
theorem dX4_init_37 : decode cX4_init 37 = .ok (.dup, 1) := by decide +kernel
theorem dX4_init_38 : decode cX4_init 38 = .ok (.bipush 40, 2) := by decide +kernel
theorem dX4_init_40 : decode cX4_init 40 = .ok (.invokespecial 21, 3) := by decide +kernel
theorem dX4_init_43 : decode cX4_init 43 = .ok (.putfield 28, 3) := by decide +kernel
theorem dX4_init_46 : decode cX4_init 46 = .ok (.aload_n 0, 1) := by decide +kernel
theorem dX4_init_47 : decode cX4_init 47 = .ok (.new 19, 3) := by decide +kernel
theorem dX4_init_50 : decode cX4_init 50 = .ok (.dup, 1) := by decide +kernel
theorem dX4_init_51 : decode cX4_init 51 = .ok (.sipush 900, 3) := by decide +kernel
theorem dX4_init_54 : decode cX4_init 54 = .ok (.invokespecial 21, 3) := by decide +kernel
theorem dX4_init_57 : decode cX4_init 57 = .ok (.putfield 31, 3) := by decide +kernel
theorem dX4_init_60 : decode cX4_init 60 = .ok (.aload_n 0, 1) := by decide +kernel
theorem dX4_init_61 : decode cX4_init 61 = .ok (.iconst 0, 1) := by decide +kernel
theorem dX4_init_62 : decode cX4_init 62 = .ok (.putfield 34, 3) := by decide +kernel
theorem dX4_init_65 : decode cX4_init 65 = .ok (.aload_n 0, 1) := by decide +kernel
theorem dX4_init_66 : decode cX4_init 66 = .ok (.iconst 0, 1) := by decide +kernel
theorem dX4_init_67 : decode cX4_init 67 = .ok (.putfield 38, 3) := by decide +kernel
theorem dX4_init_70 : decode cX4_init 70 = .ok (.aload_n 0, 1) := by decide +kernel
theorem dX4_init_71 : decode cX4_init 71 = .ok (.iconst 0, 1) := by decide +kernel
theorem dX4_init_72 : decode cX4_init 72 = .ok (.putfield 42, 3) := by decide +kernel
theorem dX4_init_75 : decode cX4_init 75 = .ok (.aload_n 0, 1) := by decide +kernel
theorem dX4_init_76 : decode cX4_init 76 = .ok (.iconst 0, 1) := by decide +kernel
theorem dX4_init_77 : decode cX4_init 77 = .ok (.putfield 45, 3) := by decide +kernel
theorem dX4_init_80 : decode cX4_init 80 = .ok (.return_, 1) := by decide +kernel
theorem dX4_has_0 : decode cX4_has 0 = .ok (.aload_n 0, 1) := by decide +kernel
theorem dX4_has_1 : decode cX4_has 1 = .ok (.getfield 34, 3) := by decide +kernel
theorem dX4_has_4 : decode cX4_has 4 = .ok (.ifCond .eq 19, 3) := by decide +kernel
theorem dX4_has_7 : decode cX4_has 7 = .ok (.iload_n 1, 1) := by decide +kernel
theorem dX4_has_8 : decode cX4_has 8 = .ok (.ifCond .lt 15, 3) := by decide +kernel
theorem dX4_has_11 : decode cX4_has 11 = .ok (.iload_n 1, 1) := by decide +kernel
theorem dX4_has_12 : decode cX4_has 12 = .ok (.aload_n 0, 1) := by decide +kernel
theorem dX4_has_13 : decode cX4_has 13 = .ok (.getfield 38, 3) := by decide +kernel
theorem dX4_has_16 : decode cX4_has 16 = .ok (.if_icmp .ge 7, 3) := by decide +kernel
theorem dX4_has_19 : decode cX4_has 19 = .ok (.iconst 1, 1) := by decide +kernel
theorem dX4_has_20 : decode cX4_has 20 = .ok (.goto 4, 3) := by decide +kernel
theorem dX4_has_23 : decode cX4_has 23 = .ok (.iconst 0, 1) := by decide +kernel
theorem dX4_has_24 : decode cX4_has 24 = .ok (.ireturn, 1) := by decide +kernel
theorem dX4_tokenOf_0 : decode cX4_tokenOf 0 = .ok (.aload_n 0, 1) := by decide +kernel
theorem dX4_tokenOf_1 : decode cX4_tokenOf 1 = .ok (.getfield 38, 3) := by decide +kernel
theorem dX4_tokenOf_4 : decode cX4_tokenOf 4 = .ok (.ifCond .ne 8, 3) := by decide +kernel
theorem dX4_tokenOf_7 : decode cX4_tokenOf 7 = .ok (.aload_n 0, 1) := by decide +kernel
theorem dX4_tokenOf_8 : decode cX4_tokenOf 8 = .ok (.getfield 31, 3) := by decide +kernel
theorem dX4_tokenOf_11 : decode cX4_tokenOf 11 = .ok (.areturn, 1) := by decide +kernel
theorem dX4_tokenOf_12 : decode cX4_tokenOf 12 = .ok (.iload_n 1, 1) := by decide +kernel
theorem dX4_tokenOf_13 : decode cX4_tokenOf 13 = .ok (.ifCond .ne 10, 3) := by decide +kernel
theorem dX4_tokenOf_16 : decode cX4_tokenOf 16 = .ok (.aload_n 0, 1) := by decide +kernel
theorem dX4_tokenOf_17 : decode cX4_tokenOf 17 = .ok (.getfield 24, 3) := by decide +kernel
theorem dX4_tokenOf_20 : decode cX4_tokenOf 20 = .ok (.goto 7, 3) := by decide +kernel
theorem dX4_tokenOf_23 : decode cX4_tokenOf 23 = .ok (.aload_n 0, 1) := by decide +kernel
theorem dX4_tokenOf_24 : decode cX4_tokenOf 24 = .ok (.getfield 28, 3) := by decide +kernel
theorem dX4_tokenOf_27 : decode cX4_tokenOf 27 = .ok (.areturn, 1) := by decide +kernel
theorem dX4_fill_0 : decode cX4_fill 0 = .ok (.aload_n 0, 1) := by decide +kernel
theorem dX4_fill_1 : decode cX4_fill 1 = .ok (.iconst 1, 1) := by decide +kernel
theorem dX4_fill_2 : decode cX4_fill 2 = .ok (.putfield 34, 3) := by decide +kernel
theorem dX4_fill_5 : decode cX4_fill 5 = .ok (.aload_n 0, 1) := by decide +kernel
theorem dX4_fill_6 : decode cX4_fill 6 = .ok (.iconst 0, 1) := by decide +kernel
theorem dX4_fill_7 : decode cX4_fill 7 = .ok (.putfield 38, 3) := by decide +kernel
theorem dX4_fill_10 : decode cX4_fill 10 = .ok (.aload_n 1, 1) := by decide +kernel
theorem dX4_fill_11 : decode cX4_fill 11 = .ok (.getfield 48, 3) := by decide +kernel
theorem dX4_fill_14 : decode cX4_fill 14 = .ok (.istore 4, 2) := by decide +kernel
theorem dX4_fill_16 : decode cX4_fill 16 = .ok (.iload 4, 2) := by decide +kernel
theorem dX4_fill_18 : decode cX4_fill 18 = .ok (.aload_n 1, 1) := by decide +kernel
theorem dX4_fill_19 : decode cX4_fill 19 = .ok (.getfield 53, 3) := by decide +kernel
theorem dX4_fill_22 : decode cX4_fill 22 = .ok (.if_icmp .ge 87, 3) := by decide +kernel
theorem dX4_fill_25 : decode cX4_fill 25 = .ok (.aload_n 0, 1) := by decide +kernel
theorem dX4_fill_26 : decode cX4_fill 26 = .ok (.getfield 38, 3) := by decide +kernel
theorem dX4_fill_29 : decode cX4_fill 29 = .ok (.bipush 20, 2) := by decide +kernel
theorem dX4_fill_31 : decode cX4_fill 31 = .ok (.if_icmp .ge 78, 3) := by decide +kernel
theorem dX4_fill_34 : decode cX4_fill 34 = .ok (.aload_n 1, 1) := by decide +kernel
theorem dX4_fill_35 : decode cX4_fill 35 = .ok (.iload 4, 2) := by decide +kernel
theorem dX4_fill_37 : decode cX4_fill 37 = .ok (.invokevirtual 56, 3) := by decide +kernel
theorem dX4_fill_40 : decode cX4_fill 40 = .ok (.istore 5, 2) := by decide +kernel
theorem dX4_fill_42 : decode cX4_fill 42 = .ok (.aload_n 0, 1) := by decide +kernel
theorem dX4_fill_43 : decode cX4_fill 43 = .ok (.getfield 9, 3) := by decide +kernel
theorem dX4_fill_46 : decode cX4_fill 46 = .ok (.aload_n 0, 1) := by decide +kernel
theorem dX4_fill_47 : decode cX4_fill 47 = .ok (.getfield 38, 3) := by decide +kernel
theorem dX4_fill_50 : decode cX4_fill 50 = .ok (.iload 5, 2) := by decide +kernel
theorem dX4_fill_52 : decode cX4_fill 52 = .ok (.iastore, 1) := by decide +kernel
theorem dX4_fill_53 : decode cX4_fill 53 = .ok (.iconst 0, 1) := by decide +kernel
theorem dX4_fill_54 : decode cX4_fill 54 = .ok (.istore 6, 2) := by decide +kernel
theorem dX4_fill_56 : decode cX4_fill 56 = .ok (.iload 6, 2) := by decide +kernel
theorem dX4_fill_58 : decode cX4_fill 58 = .ok (.iconst 4, 1) := by decide +kernel
theorem dX4_fill_59 : decode cX4_fill 59 = .ok (.if_icmp .ge 34, 3) := by decide +kernel
theorem dX4_fill_62 : decode cX4_fill 62 = .ok (.aload_n 0, 1) := by decide +kernel
theorem dX4_fill_63 : decode cX4_fill 63 = .ok (.getfield 15, 3) := by decide +kernel
theorem dX4_fill_66 : decode cX4_fill 66 = .ok (.aload_n 0, 1) := by decide +kernel
theorem dX4_fill_67 : decode cX4_fill 67 = .ok (.getfield 38, 3) := by decide +kernel
theorem dX4_fill_70 : decode cX4_fill 70 = .ok (.iconst 4, 1) := by decide +kernel
theorem dX4_fill_71 : decode cX4_fill 71 = .ok (.imul, 1) := by decide +kernel
theorem dX4_fill_72 : decode cX4_fill 72 = .ok (.iload 6, 2) := by decide +kernel
theorem dX4_fill_74 : decode cX4_fill 74 = .ok (.iadd, 1) := by decide +kernel
theorem dX4_fill_75 : decode cX4_fill 75 = .ok (.aload_n 1, 1) := by decide +kernel
theorem dX4_fill_76 : decode cX4_fill 76 = .ok (.getfield 60, 3) := by decide +kernel
theorem dX4_fill_79 : decode cX4_fill 79 = .ok (.iload 5, 2) := by decide +kernel
theorem dX4_fill_81 : decode cX4_fill 81 = .ok (.iload 6, 2) := by decide +kernel
theorem dX4_fill_83 : decode cX4_fill 83 = .ok (.invokevirtual 64, 3) := by decide +kernel
theorem dX4_fill_86 : decode cX4_fill 86 = .ok (.lastore, 1) := by decide +kernel
theorem dX4_fill_87 : decode cX4_fill 87 = .ok (.iinc 6 1, 3) := by decide +kernel
theorem dX4_fill_90 : decode cX4_fill 90 = .ok (.goto (-34), 3) := by decide +kernel
theorem dX4_fill_93 : decode cX4_fill 93 = .ok (.aload_n 0, 1) := by decide +kernel
theorem dX4_fill_94 : decode cX4_fill 94 = .ok (.dup, 1) := by decide +kernel
theorem dX4_fill_95 : decode cX4_fill 95 = .ok (.getfield 38, 3) := by decide +kernel
theorem dX4_fill_98 : decode cX4_fill 98 = .ok (.iconst 1, 1) := by decide +kernel
theorem dX4_fill_99 : decode cX4_fill 99 = .ok (.iadd, 1) := by decide +kernel
theorem dX4_fill_100 : decode cX4_fill 100 = .ok (.putfield 38, 3) := by decide +kernel
theorem dX4_fill_103 : decode cX4_fill 103 = .ok (.iinc 4 1, 3) := by decide +kernel
theorem dX4_fill_106 : decode cX4_fill 106 = .ok (.goto (-90), 3) := by decide +kernel
theorem dX4_fill_109 : decode cX4_fill 109 = .ok (.aload_n 0, 1) := by decide +kernel
theorem dX4_fill_110 : decode cX4_fill 110 = .ok (.getfield 31, 3) := by decide +kernel
theorem dX4_fill_113 : decode cX4_fill 113 = .ok (.invokevirtual 70, 3) := by decide +kernel
theorem dX4_fill_116 : decode cX4_fill 116 = .ok (.aload_n 0, 1) := by decide +kernel
theorem dX4_fill_117 : decode cX4_fill 117 = .ok (.iconst 0, 1) := by decide +kernel
theorem dX4_fill_118 : decode cX4_fill 118 = .ok (.putfield 42, 3) := by decide +kernel
theorem dX4_fill_121 : decode cX4_fill 121 = .ok (.aload_n 0, 1) := by decide +kernel
theorem dX4_fill_122 : decode cX4_fill 122 = .ok (.iconst 0, 1) := by decide +kernel
theorem dX4_fill_123 : decode cX4_fill 123 = .ok (.putfield 45, 3) := by decide +kernel
theorem dX4_fill_126 : decode cX4_fill 126 = .ok (.aload_n 0, 1) := by decide +kernel
theorem dX4_fill_127 : decode cX4_fill 127 = .ok (.getfield 38, 3) := by decide +kernel
theorem dX4_fill_130 : decode cX4_fill 130 = .ok (.ifCond .le 54, 3) := by decide +kernel
theorem dX4_fill_133 : decode cX4_fill 133 = .ok (.aload_n 0, 1) := by decide +kernel
theorem dX4_fill_134 : decode cX4_fill 134 = .ok (.aload_n 1, 1) := by decide +kernel
theorem dX4_fill_135 : decode cX4_fill 135 = .ok (.getfield 48, 3) := by decide +kernel
theorem dX4_fill_138 : decode cX4_fill 138 = .ok (.putfield 42, 3) := by decide +kernel
theorem dX4_fill_141 : decode cX4_fill 141 = .ok (.aload_n 0, 1) := by decide +kernel
theorem dX4_fill_142 : decode cX4_fill 142 = .ok (.aload_n 1, 1) := by decide +kernel
theorem dX4_fill_143 : decode cX4_fill 143 = .ok (.getfield 73, 3) := by decide +kernel
theorem dX4_fill_146 : decode cX4_fill 146 = .ok (.aload_n 1, 1) := by decide +kernel
theorem dX4_fill_147 : decode cX4_fill 147 = .ok (.getfield 53, 3) := by decide +kernel
theorem dX4_fill_150 : decode cX4_fill 150 = .ok (.isub, 1) := by decide +kernel
theorem dX4_fill_151 : decode cX4_fill 151 = .ok (.putfield 45, 3) := by decide +kernel
theorem dX4_fill_154 : decode cX4_fill 154 = .ok (.aload_n 0, 1) := by decide +kernel
theorem dX4_fill_155 : decode cX4_fill 155 = .ok (.getfield 24, 3) := by decide +kernel
theorem dX4_fill_158 : decode cX4_fill 158 = .ok (.aload_n 1, 1) := by decide +kernel
theorem dX4_fill_159 : decode cX4_fill 159 = .ok (.aload_n 1, 1) := by decide +kernel
theorem dX4_fill_160 : decode cX4_fill 160 = .ok (.getfield 48, 3) := by decide +kernel
theorem dX4_fill_163 : decode cX4_fill 163 = .ok (.iload_n 2, 1) := by decide +kernel
theorem dX4_fill_164 : decode cX4_fill 164 = .ok (.iload_n 3, 1) := by decide +kernel
theorem dX4_fill_165 : decode cX4_fill 165 = .ok (.invokestatic 76, 3) := by decide +kernel
theorem dX4_fill_168 : decode cX4_fill 168 = .ok (.aload_n 0, 1) := by decide +kernel
theorem dX4_fill_169 : decode cX4_fill 169 = .ok (.getfield 28, 3) := by decide +kernel
theorem dX4_fill_172 : decode cX4_fill 172 = .ok (.aload_n 1, 1) := by decide +kernel
theorem dX4_fill_173 : decode cX4_fill 173 = .ok (.aload_n 1, 1) := by decide +kernel
theorem dX4_fill_174 : decode cX4_fill 174 = .ok (.getfield 53, 3) := by decide +kernel
theorem dX4_fill_177 : decode cX4_fill 177 = .ok (.iconst 1, 1) := by decide +kernel
theorem dX4_fill_178 : decode cX4_fill 178 = .ok (.isub, 1) := by decide +kernel
theorem dX4_fill_179 : decode cX4_fill 179 = .ok (.iload_n 2, 1) := by decide +kernel
theorem dX4_fill_180 : decode cX4_fill 180 = .ok (.iload_n 3, 1) := by decide +kernel
theorem dX4_fill_181 : decode cX4_fill 181 = .ok (.invokestatic 76, 3) := by decide +kernel
theorem dX4_fill_184 : decode cX4_fill 184 = .ok (.return_, 1) := by decide +kernel
theorem dX4_keepToken_0 : decode cX4_keepToken 0 = .ok (.aload_n 0, 1) := by decide +kernel
theorem dX4_keepToken_1 : decode cX4_keepToken 1 = .ok (.getfield 38, 3) := by decide +kernel
theorem dX4_keepToken_4 : decode cX4_keepToken 4 = .ok (.ifCond .ne 38, 3) := by decide +kernel
theorem dX4_keepToken_7 : decode cX4_keepToken 7 = .ok (.aload_n 0, 1) := by decide +kernel
theorem dX4_keepToken_8 : decode cX4_keepToken 8 = .ok (.getfield 31, 3) := by decide +kernel
theorem dX4_keepToken_11 : decode cX4_keepToken 11 = .ok (.aload_n 1, 1) := by decide +kernel
theorem dX4_keepToken_12 : decode cX4_keepToken 12 = .ok (.iconst 0, 1) := by decide +kernel
theorem dX4_keepToken_13 : decode cX4_keepToken 13 = .ok (.iload_n 2, 1) := by decide +kernel
theorem dX4_keepToken_14 : decode cX4_keepToken 14 = .ok (.invokevirtual 80, 3) := by decide +kernel
theorem dX4_keepToken_17 : decode cX4_keepToken 17 = .ok (.aload_n 0, 1) := by decide +kernel
theorem dX4_keepToken_18 : decode cX4_keepToken 18 = .ok (.aload_n 3, 1) := by decide +kernel
theorem dX4_keepToken_19 : decode cX4_keepToken 19 = .ok (.aload 4, 2) := by decide +kernel
theorem dX4_keepToken_21 : decode cX4_keepToken 21 = .ok (.invokevirtual 84, 3) := by decide +kernel
theorem dX4_keepToken_24 : decode cX4_keepToken 24 = .ok (.putfield 42, 3) := by decide +kernel
theorem dX4_keepToken_27 : decode cX4_keepToken 27 = .ok (.aload_n 0, 1) := by decide +kernel
theorem dX4_keepToken_28 : decode cX4_keepToken 28 = .ok (.aload_n 3, 1) := by decide +kernel
theorem dX4_keepToken_29 : decode cX4_keepToken 29 = .ok (.getfield 73, 3) := by decide +kernel
theorem dX4_keepToken_32 : decode cX4_keepToken 32 = .ok (.aload_n 3, 1) := by decide +kernel
theorem dX4_keepToken_33 : decode cX4_keepToken 33 = .ok (.aload 4, 2) := by decide +kernel
theorem dX4_keepToken_35 : decode cX4_keepToken 35 = .ok (.invokevirtual 88, 3) := by decide +kernel
theorem dX4_keepToken_38 : decode cX4_keepToken 38 = .ok (.isub, 1) := by decide +kernel
theorem dX4_keepToken_39 : decode cX4_keepToken 39 = .ok (.putfield 45, 3) := by decide +kernel
theorem dX4_keepToken_42 : decode cX4_keepToken 42 = .ok (.return_, 1) := by decide +kernel
theorem dX4_writeToken_0 : decode cX4_writeToken 0 = .ok (.aload_n 1, 1) := by decide +kernel
theorem dX4_writeToken_1 : decode cX4_writeToken 1 = .ok (.iload_n 2, 1) := by decide +kernel
theorem dX4_writeToken_2 : decode cX4_writeToken 2 = .ok (.invokevirtual 91, 3) := by decide +kernel
theorem dX4_writeToken_5 : decode cX4_writeToken 5 = .ok (.astore 5, 2) := by decide +kernel
theorem dX4_writeToken_7 : decode cX4_writeToken 7 = .ok (.aload_n 0, 1) := by decide +kernel
theorem dX4_writeToken_8 : decode cX4_writeToken 8 = .ok (.invokevirtual 70, 3) := by decide +kernel
theorem dX4_writeToken_11 : decode cX4_writeToken 11 = .ok (.aload_n 0, 1) := by decide +kernel
theorem dX4_writeToken_12 : decode cX4_writeToken 12 = .ok (.bipush 84, 2) := by decide +kernel
theorem dX4_writeToken_14 : decode cX4_writeToken 14 = .ok (.invokevirtual 95, 3) := by decide +kernel
theorem dX4_writeToken_17 : decode cX4_writeToken 17 = .ok (.aload_n 0, 1) := by decide +kernel
theorem dX4_writeToken_18 : decode cX4_writeToken 18 = .ok (.aload_n 1, 1) := by decide +kernel
theorem dX4_writeToken_19 : decode cX4_writeToken 19 = .ok (.getfield 98, 3) := by decide +kernel
theorem dX4_writeToken_22 : decode cX4_writeToken 22 = .ok (.invokevirtual 95, 3) := by decide +kernel
theorem dX4_writeToken_25 : decode cX4_writeToken 25 = .ok (.aload_n 0, 1) := by decide +kernel
theorem dX4_writeToken_26 : decode cX4_writeToken 26 = .ok (.iload_n 3, 1) := by decide +kernel
theorem dX4_writeToken_27 : decode cX4_writeToken 27 = .ok (.invokevirtual 95, 3) := by decide +kernel
theorem dX4_writeToken_30 : decode cX4_writeToken 30 = .ok (.aload_n 0, 1) := by decide +kernel
theorem dX4_writeToken_31 : decode cX4_writeToken 31 = .ok (.iload 4, 2) := by decide +kernel
theorem dX4_writeToken_33 : decode cX4_writeToken 33 = .ok (.invokevirtual 101, 3) := by decide +kernel
theorem dX4_writeToken_36 : decode cX4_writeToken 36 = .ok (.aload_n 0, 1) := by decide +kernel
theorem dX4_writeToken_37 : decode cX4_writeToken 37 = .ok (.aload 5, 2) := by decide +kernel
theorem dX4_writeToken_39 : decode cX4_writeToken 39 = .ok (.iconst 0, 1) := by decide +kernel
theorem dX4_writeToken_40 : decode cX4_writeToken 40 = .ok (.aload 5, 2) := by decide +kernel
theorem dX4_writeToken_42 : decode cX4_writeToken 42 = .ok (.getfield 104, 3) := by decide +kernel
theorem dX4_writeToken_45 : decode cX4_writeToken 45 = .ok (.invokevirtual 80, 3) := by decide +kernel
theorem dX4_writeToken_48 : decode cX4_writeToken 48 = .ok (.aload_n 0, 1) := by decide +kernel
theorem dX4_writeToken_49 : decode cX4_writeToken 49 = .ok (.aload_n 0, 1) := by decide +kernel
theorem dX4_writeToken_50 : decode cX4_writeToken 50 = .ok (.aload_n 0, 1) := by decide +kernel
theorem dX4_writeToken_51 : decode cX4_writeToken 51 = .ok (.getfield 104, 3) := by decide +kernel
theorem dX4_writeToken_54 : decode cX4_writeToken 54 = .ok (.invokevirtual 105, 3) := by decide +kernel
theorem dX4_writeToken_57 : decode cX4_writeToken 57 = .ok (.invokevirtual 95, 3) := by decide +kernel
theorem dX4_writeToken_60 : decode cX4_writeToken 60 = .ok (.return_, 1) := by decide +kernel
theorem dX5_init_0 : decode cX5_init 0 = .ok (.aload_n 0, 1) := by decide +kernel
theorem dX5_init_1 : decode cX5_init 1 = .ok (.invokespecial 3, 3) := by decide +kernel
theorem dX5_init_4 : decode cX5_init 4 = .ok (.aload_n 0, 1) := by decide +kernel
theorem dX5_init_5 : decode cX5_init 5 = .ok (.new 9, 3) := by decide +kernel
theorem dX5_init_8 : decode cX5_init 8 = .ok (.dup, 1) := by decide +kernel
theorem dX5_init_9 : decode cX5_init 9 = .ok (.aload_n 1, 1) := by decide +kernel
theorem dX5_init_10 : decode cX5_init 10 = .ok (.iload_n 2, 1) := by decide +kernel
theorem dX5_init_11 : decode cX5_init 11 = .ok (.invokespecial 11, 3) := by decide +kernel
theorem dX5_init_14 : decode cX5_init 14 = .ok (.putfield 14, 3) := by decide +kernel
theorem dX5_init_17 : decode cX5_init 17 = .ok (.aload_n 0, 1) := by decide +kernel
theorem dX5_init_18 : decode cX5_init 18 = .ok (.aload_n 3, 1) := by decide +kernel
theorem dX5_init_19 : decode cX5_init 19 = .ok (.putfield 20, 3) := by decide +kernel
theorem dX5_init_22 : decode cX5_init 22 = .ok (.aload_n 0, 1) := by decide +kernel
theorem dX5_init_23 : decode cX5_init 23 = .ok (.iconst 0, 1) := by decide +kernel
theorem dX5_init_24 : decode cX5_init 24 = .ok (.putfield 24, 3) := by decide +kernel
theorem dX5_init_27 : decode cX5_init 27 = .ok (.aload_n 0, 1) := by decide +kernel
theorem dX5_init_28 : decode cX5_init 28 = .ok (.iconst (-1), 1) := by decide +kernel
theorem dX5_init_29 : decode cX5_init 29 = .ok (.putfield 28, 3) := by decide +kernel
theorem dX5_init_32 : decode cX5_init 32 = .ok (.return_, 1) := by decide +kernel
theorem dX5_readTable_0 : decode cX5_readTable 0 = .ok (.aload_n 0, 1) := by decide +kernel
theorem dX5_readTable_1 : decode cX5_readTable 1 = .ok (.getfield 14, 3) := by decide +kernel
theorem dX5_readTable_4 : decode cX5_readTable 4 = .ok (.invokevirtual 31, 3) := by decide +kernel
theorem dX5_readTable_7 : decode cX5_readTable 7 = .ok (.iconst 0, 1) := by decide +kernel
theorem dX5_readTable_8 : decode cX5_readTable 8 = .ok (.istore_n 1, 1) := by decide +kernel
theorem dX5_readTable_9 : decode cX5_readTable 9 = .ok (.iload_n 1, 1) := by decide +kernel
theorem dX5_readTable_10 : decode cX5_readTable 10 = .ok (.sipush 900, 3) := by decide +kernel
theorem dX5_readTable_13 : decode cX5_readTable 13 = .ok (.if_icmp .ge 143, 3) := by decide +kernel
theorem dX5_readTable_16 : decode cX5_readTable 16 = .ok (.aload_n 0, 1) := by decide +kernel
theorem dX5_readTable_17 : decode cX5_readTable 17 = .ok (.getfield 14, 3) := by decide +kernel
theorem dX5_readTable_20 : decode cX5_readTable 20 = .ok (.ldc2_w 34, 3) := by decide +kernel
theorem dX5_readTable_23 : decode cX5_readTable 23 = .ok (.invokevirtual 36, 3) := by decide +kernel
theorem dX5_readTable_26 : decode cX5_readTable 26 = .ok (.ifCond .eq 10, 3) := by decide +kernel
theorem dX5_readTable_29 : decode cX5_readTable 29 = .ok (.aload_n 0, 1) := by decide +kernel
theorem dX5_readTable_30 : decode cX5_readTable 30 = .ok (.invokevirtual 40, 3) := by decide +kernel
theorem dX5_readTable_33 : decode cX5_readTable 33 = .ok (.goto 48, 3) := by decide +kernel
theorem dX5_readTable_36 : decode cX5_readTable 36 = .ok (.aload_n 0, 1) := by decide +kernel
theorem dX5_readTable_37 : decode cX5_readTable 37 = .ok (.getfield 14, 3) := by decide +kernel
theorem dX5_readTable_40 : decode cX5_readTable 40 = .ok (.ldc2_w 44, 3) := by decide +kernel
theorem dX5_readTable_43 : decode cX5_readTable 43 = .ok (.invokevirtual 36, 3) := by decide +kernel
theorem dX5_readTable_46 : decode cX5_readTable 46 = .ok (.ifCond .eq 10, 3) := by decide +kernel
theorem dX5_readTable_49 : decode cX5_readTable 49 = .ok (.aload_n 0, 1) := by decide +kernel
theorem dX5_readTable_50 : decode cX5_readTable 50 = .ok (.invokevirtual 46, 3) := by decide +kernel
theorem dX5_readTable_53 : decode cX5_readTable 53 = .ok (.goto 28, 3) := by decide +kernel
theorem dX5_readTable_56 : decode cX5_readTable 56 = .ok (.aload_n 0, 1) := by decide +kernel
theorem dX5_readTable_57 : decode cX5_readTable 57 = .ok (.getfield 14, 3) := by decide +kernel
theorem dX5_readTable_60 : decode cX5_readTable 60 = .ok (.ldc2_w 49, 3) := by decide +kernel
theorem dX5_readTable_63 : decode cX5_readTable 63 = .ok (.invokevirtual 36, 3) := by decide +kernel
theorem dX5_readTable_66 : decode cX5_readTable 66 = .ok (.ifCond .eq 10, 3) := by decide +kernel
theorem dX5_readTable_69 : decode cX5_readTable 69 = .ok (.aload_n 0, 1) := by decide +kernel
theorem dX5_readTable_70 : decode cX5_readTable 70 = .ok (.invokevirtual 51, 3) := by decide +kernel
theorem dX5_readTable_73 : decode cX5_readTable 73 = .ok (.goto 8, 3) := by decide +kernel
theorem dX5_readTable_76 : decode cX5_readTable 76 = .ok (.aload_n 0, 1) := by decide +kernel
theorem dX5_readTable_77 : decode cX5_readTable 77 = .ok (.iconst 1, 1) := by decide +kernel
theorem dX5_readTable_78 : decode cX5_readTable 78 = .ok (.invokevirtual 54, 3) := by decide +kernel
theorem dX5_readTable_81 : decode cX5_readTable 81 = .ok (.istore_n 2, 1) := by decide +kernel
theorem dX5_readTable_82 : decode cX5_readTable 82 = .ok (.iload_n 2, 1) := by decide +kernel
theorem dX5_readTable_83 : decode cX5_readTable 83 = .ok (.ifCond .ne 5, 3) := by decide +kernel
theorem dX5_readTable_86 : decode cX5_readTable 86 = .ok (.iconst 0, 1) := by decide +kernel
theorem dX5_readTable_87 : decode cX5_readTable 87 = .ok (.ireturn, 1) := by decide +kernel
theorem dX5_readTable_88 : decode cX5_readTable 88 = .ok (.aload_n 0, 1) := by decide +kernel
theorem dX5_readTable_89 : decode cX5_readTable 89 = .ok (.getfield 14, 3) := by decide +kernel
theorem dX5_readTable_92 : decode cX5_readTable 92 = .ok (.getfield 58, 3) := by decide +kernel
theorem dX5_readTable_95 : decode cX5_readTable 95 = .ok (.ifCond .ne 30, 3) := by decide +kernel
theorem dX5_readTable_98 : decode cX5_readTable 98 = .ok (.aload_n 0, 1) := by decide +kernel
theorem dX5_readTable_99 : decode cX5_readTable 99 = .ok (.getfield 20, 3) := by decide +kernel
theorem dX5_readTable_102 : decode cX5_readTable 102 = .ok (.getfield 61, 3) := by decide +kernel
theorem dX5_readTable_105 : decode cX5_readTable 105 = .ok (.getfield 67, 3) := by decide +kernel
theorem dX5_readTable_108 : decode cX5_readTable 108 = .ok (.ifCond .gt 11, 3) := by decide +kernel
theorem dX5_readTable_111 : decode cX5_readTable 111 = .ok (.aload_n 0, 1) := by decide +kernel
theorem dX5_readTable_112 : decode cX5_readTable 112 = .ok (.iconst 5, 1) := by decide +kernel
theorem dX5_readTable_113 : decode cX5_readTable 113 = .ok (.invokevirtual 54, 3) := by decide +kernel
theorem dX5_readTable_116 : decode cX5_readTable 116 = .ok (.ifCond .eq 7, 3) := by decide +kernel
theorem dX5_readTable_119 : decode cX5_readTable 119 = .ok (.iconst 1, 1) := by decide +kernel
theorem dX5_readTable_120 : decode cX5_readTable 120 = .ok (.goto 4, 3) := by decide +kernel
theorem dX5_readTable_123 : decode cX5_readTable 123 = .ok (.iconst 0, 1) := by decide +kernel
theorem dX5_readTable_124 : decode cX5_readTable 124 = .ok (.ireturn, 1) := by decide +kernel
theorem dX5_readTable_125 : decode cX5_readTable 125 = .ok (.aload_n 0, 1) := by decide +kernel
theorem dX5_readTable_126 : decode cX5_readTable 126 = .ok (.getfield 14, 3) := by decide +kernel
theorem dX5_readTable_129 : decode cX5_readTable 129 = .ok (.bipush 59, 2) := by decide +kernel
theorem dX5_readTable_131 : decode cX5_readTable 131 = .ok (.invokevirtual 72, 3) := by decide +kernel
theorem dX5_readTable_134 : decode cX5_readTable 134 = .ok (.ifCond .ne 9, 3) := by decide +kernel
theorem dX5_readTable_137 : decode cX5_readTable 137 = .ok (.aload_n 0, 1) := by decide +kernel
theorem dX5_readTable_138 : decode cX5_readTable 138 = .ok (.iconst 1, 1) := by decide +kernel
theorem dX5_readTable_139 : decode cX5_readTable 139 = .ok (.invokevirtual 54, 3) := by decide +kernel
theorem dX5_readTable_142 : decode cX5_readTable 142 = .ok (.ireturn, 1) := by decide +kernel
theorem dX5_readTable_143 : decode cX5_readTable 143 = .ok (.aload_n 0, 1) := by decide +kernel
theorem dX5_readTable_144 : decode cX5_readTable 144 = .ok (.getfield 14, 3) := by decide +kernel
theorem dX5_readTable_147 : decode cX5_readTable 147 = .ok (.invokevirtual 31, 3) := by decide +kernel
theorem dX5_readTable_150 : decode cX5_readTable 150 = .ok (.iinc 1 1, 3) := by decide +kernel
theorem dX5_readTable_153 : decode cX5_readTable 153 = .ok (.goto (-144), 3) := by decide +kernel
theorem dX5_readTable_156 : decode cX5_readTable 156 = .ok (.aload_n 0, 1) := by decide +kernel
theorem dX5_readTable_157 : decode cX5_readTable 157 = .ok (.iconst 1, 1) := by decide +kernel
theorem dX5_readTable_158 : decode cX5_readTable 158 = .ok (.invokevirtual 54, 3) := by decide +kernel
theorem dX5_readTable_161 : decode cX5_readTable 161 = .ok (.ireturn, 1) := by decide +kernel
theorem dX5_fails_0 : decode cX5_fails 0 = .ok (.aload_n 0, 1) := by decide +kernel
theorem dX5_fails_1 : decode cX5_fails 1 = .ok (.iload_n 1, 1) := by decide +kernel
theorem dX5_fails_2 : decode cX5_fails 2 = .ok (.putfield 24, 3) := by decide +kernel
theorem dX5_fails_5 : decode cX5_fails 5 = .ok (.aload_n 0, 1) := by decide +kernel
theorem dX5_fails_6 : decode cX5_fails 6 = .ok (.aload_n 0, 1) := by decide +kernel
theorem dX5_fails_7 : decode cX5_fails 7 = .ok (.getfield 14, 3) := by decide +kernel
theorem dX5_fails_10 : decode cX5_fails 10 = .ok (.getfield 76, 3) := by decide +kernel
theorem dX5_fails_13 : decode cX5_fails 13 = .ok (.putfield 28, 3) := by decide +kernel
theorem dX5_fails_16 : decode cX5_fails 16 = .ok (.iconst 0, 1) := by decide +kernel
theorem dX5_fails_17 : decode cX5_fails 17 = .ok (.ireturn, 1) := by decide +kernel
theorem dX5_readColumns_0 : decode cX5_readColumns 0 = .ok (.aload_n 0, 1) := by decide +kernel
theorem dX5_readColumns_1 : decode cX5_readColumns 1 = .ok (.getfield 20, 3) := by decide +kernel
theorem dX5_readColumns_4 : decode cX5_readColumns 4 = .ok (.getfield 79, 3) := by decide +kernel
theorem dX5_readColumns_7 : decode cX5_readColumns 7 = .ok (.ifCond .le 9, 3) := by decide +kernel
theorem dX5_readColumns_10 : decode cX5_readColumns 10 = .ok (.aload_n 0, 1) := by decide +kernel
theorem dX5_readColumns_11 : decode cX5_readColumns 11 = .ok (.iconst 3, 1) := by decide +kernel
theorem dX5_readColumns_12 : decode cX5_readColumns 12 = .ok (.invokevirtual 54, 3) := by decide +kernel
theorem dX5_readColumns_15 : decode cX5_readColumns 15 = .ok (.ireturn, 1) := by decide +kernel
theorem dX5_readColumns_16 : decode cX5_readColumns 16 = .ok (.iconst 0, 1) := by decide +kernel
theorem dX5_readColumns_17 : decode cX5_readColumns 17 = .ok (.istore_n 1, 1) := by decide +kernel
theorem dX5_readColumns_18 : decode cX5_readColumns 18 = .ok (.iload_n 1, 1) := by decide +kernel
theorem dX5_readColumns_19 : decode cX5_readColumns 19 = .ok (.iconst 4, 1) := by decide +kernel
theorem dX5_readColumns_20 : decode cX5_readColumns 20 = .ok (.if_icmp .ge 39, 3) := by decide +kernel
theorem dX5_readColumns_23 : decode cX5_readColumns 23 = .ok (.aload_n 0, 1) := by decide +kernel
theorem dX5_readColumns_24 : decode cX5_readColumns 24 = .ok (.getfield 14, 3) := by decide +kernel
theorem dX5_readColumns_27 : decode cX5_readColumns 27 = .ok (.invokevirtual 31, 3) := by decide +kernel
theorem dX5_readColumns_30 : decode cX5_readColumns 30 = .ok (.aload_n 0, 1) := by decide +kernel
theorem dX5_readColumns_31 : decode cX5_readColumns 31 = .ok (.invokevirtual 82, 3) := by decide +kernel
theorem dX5_readColumns_34 : decode cX5_readColumns 34 = .ok (.ifCond .ne 5, 3) := by decide +kernel
theorem dX5_readColumns_37 : decode cX5_readColumns 37 = .ok (.iconst 0, 1) := by decide +kernel
theorem dX5_readColumns_38 : decode cX5_readColumns 38 = .ok (.ireturn, 1) := by decide +kernel
theorem dX5_readColumns_39 : decode cX5_readColumns 39 = .ok (.aload_n 0, 1) := by decide +kernel
theorem dX5_readColumns_40 : decode cX5_readColumns 40 = .ok (.getfield 14, 3) := by decide +kernel
theorem dX5_readColumns_43 : decode cX5_readColumns 43 = .ok (.bipush 44, 2) := by decide +kernel
theorem dX5_readColumns_45 : decode cX5_readColumns 45 = .ok (.invokevirtual 72, 3) := by decide +kernel
theorem dX5_readColumns_48 : decode cX5_readColumns 48 = .ok (.ifCond .ne 5, 3) := by decide +kernel
theorem dX5_readColumns_51 : decode cX5_readColumns 51 = .ok (.iconst 1, 1) := by decide +kernel
theorem dX5_readColumns_52 : decode cX5_readColumns 52 = .ok (.ireturn, 1) := by decide +kernel
theorem dX5_readColumns_53 : decode cX5_readColumns 53 = .ok (.iinc 1 1, 3) := by decide +kernel
theorem dX5_readColumns_56 : decode cX5_readColumns 56 = .ok (.goto (-38), 3) := by decide +kernel
theorem dX5_readColumns_59 : decode cX5_readColumns 59 = .ok (.aload_n 0, 1) := by decide +kernel
theorem dX5_readColumns_60 : decode cX5_readColumns 60 = .ok (.iconst 1, 1) := by decide +kernel
theorem dX5_readColumns_61 : decode cX5_readColumns 61 = .ok (.invokevirtual 54, 3) := by decide +kernel
theorem dX5_readColumns_64 : decode cX5_readColumns 64 = .ok (.ireturn, 1) := by decide +kernel
theorem dX5_readColumn_0 : decode cX5_readColumn 0 = .ok (.aload_n 0, 1) := by decide +kernel
theorem dX5_readColumn_1 : decode cX5_readColumn 1 = .ok (.getfield 14, 3) := by decide +kernel
theorem dX5_readColumn_4 : decode cX5_readColumn 4 = .ok (.getfield 58, 3) := by decide +kernel
theorem dX5_readColumn_7 : decode cX5_readColumn 7 = .ok (.iconst 1, 1) := by decide +kernel
theorem dX5_readColumn_8 : decode cX5_readColumn 8 = .ok (.if_icmp .eq 9, 3) := by decide +kernel
theorem dX5_readColumn_11 : decode cX5_readColumn 11 = .ok (.aload_n 0, 1) := by decide +kernel
theorem dX5_readColumn_12 : decode cX5_readColumn 12 = .ok (.iconst 1, 1) := by decide +kernel
theorem dX5_readColumn_13 : decode cX5_readColumn 13 = .ok (.invokevirtual 54, 3) := by decide +kernel
theorem dX5_readColumn_16 : decode cX5_readColumn 16 = .ok (.ireturn, 1) := by decide +kernel
theorem dX5_readColumn_17 : decode cX5_readColumn 17 = .ok (.aload_n 0, 1) := by decide +kernel
theorem dX5_readColumn_18 : decode cX5_readColumn 18 = .ok (.getfield 14, 3) := by decide +kernel
theorem dX5_readColumn_21 : decode cX5_readColumn 21 = .ok (.getfield 85, 3) := by decide +kernel
theorem dX5_readColumn_24 : decode cX5_readColumn 24 = .ok (.lstore_n 1, 1) := by decide +kernel
theorem dX5_readColumn_25 : decode cX5_readColumn 25 = .ok (.aload_n 0, 1) := by decide +kernel
theorem dX5_readColumn_26 : decode cX5_readColumn 26 = .ok (.getfield 20, 3) := by decide +kernel
theorem dX5_readColumn_29 : decode cX5_readColumn 29 = .ok (.lload_n 1, 1) := by decide +kernel
theorem dX5_readColumn_30 : decode cX5_readColumn 30 = .ok (.invokevirtual 89, 3) := by decide +kernel
theorem dX5_readColumn_33 : decode cX5_readColumn 33 = .ok (.iconst (-1), 1) := by decide +kernel
theorem dX5_readColumn_34 : decode cX5_readColumn 34 = .ok (.if_icmp .eq 9, 3) := by decide +kernel
theorem dX5_readColumn_37 : decode cX5_readColumn 37 = .ok (.aload_n 0, 1) := by decide +kernel
theorem dX5_readColumn_38 : decode cX5_readColumn 38 = .ok (.iconst 3, 1) := by decide +kernel
theorem dX5_readColumn_39 : decode cX5_readColumn 39 = .ok (.invokevirtual 54, 3) := by decide +kernel
theorem dX5_readColumn_42 : decode cX5_readColumn 42 = .ok (.ireturn, 1) := by decide +kernel
theorem dX5_readColumn_43 : decode cX5_readColumn 43 = .ok (.aload_n 0, 1) := by decide +kernel
theorem dX5_readColumn_44 : decode cX5_readColumn 44 = .ok (.getfield 14, 3) := by decide +kernel
theorem dX5_readColumn_47 : decode cX5_readColumn 47 = .ok (.invokevirtual 31, 3) := by decide +kernel
theorem dX5_readColumn_50 : decode cX5_readColumn 50 = .ok (.aload_n 0, 1) := by decide +kernel
theorem dX5_readColumn_51 : decode cX5_readColumn 51 = .ok (.getfield 14, 3) := by decide +kernel
theorem dX5_readColumn_54 : decode cX5_readColumn 54 = .ok (.ldc2_w 93, 3) := by decide +kernel
theorem dX5_readColumn_57 : decode cX5_readColumn 57 = .ok (.invokevirtual 36, 3) := by decide +kernel
theorem dX5_readColumn_60 : decode cX5_readColumn 60 = .ok (.ifCond .ne 22, 3) := by decide +kernel
theorem dX5_readColumn_63 : decode cX5_readColumn 63 = .ok (.aload_n 0, 1) := by decide +kernel
theorem dX5_readColumn_64 : decode cX5_readColumn 64 = .ok (.getfield 14, 3) := by decide +kernel
theorem dX5_readColumn_67 : decode cX5_readColumn 67 = .ok (.ldc2_w 95, 3) := by decide +kernel
theorem dX5_readColumn_70 : decode cX5_readColumn 70 = .ok (.invokevirtual 36, 3) := by decide +kernel
theorem dX5_readColumn_73 : decode cX5_readColumn 73 = .ok (.ifCond .ne 9, 3) := by decide +kernel
theorem dX5_readColumn_76 : decode cX5_readColumn 76 = .ok (.aload_n 0, 1) := by decide +kernel
theorem dX5_readColumn_77 : decode cX5_readColumn 77 = .ok (.iconst 1, 1) := by decide +kernel
theorem dX5_readColumn_78 : decode cX5_readColumn 78 = .ok (.invokevirtual 54, 3) := by decide +kernel
theorem dX5_readColumn_81 : decode cX5_readColumn 81 = .ok (.ireturn, 1) := by decide +kernel
theorem dX5_readColumn_82 : decode cX5_readColumn 82 = .ok (.aload_n 0, 1) := by decide +kernel
theorem dX5_readColumn_83 : decode cX5_readColumn 83 = .ok (.getfield 20, 3) := by decide +kernel
theorem dX5_readColumn_86 : decode cX5_readColumn 86 = .ok (.lload_n 1, 1) := by decide +kernel
theorem dX5_readColumn_87 : decode cX5_readColumn 87 = .ok (.aload_n 0, 1) := by decide +kernel
theorem dX5_readColumn_88 : decode cX5_readColumn 88 = .ok (.getfield 14, 3) := by decide +kernel
theorem dX5_readColumn_91 : decode cX5_readColumn 91 = .ok (.ldc2_w 95, 3) := by decide +kernel
theorem dX5_readColumn_94 : decode cX5_readColumn 94 = .ok (.invokevirtual 36, 3) := by decide +kernel
theorem dX5_readColumn_97 : decode cX5_readColumn 97 = .ok (.ifCond .eq 7, 3) := by decide +kernel
theorem dX5_readColumn_100 : decode cX5_readColumn 100 = .ok (.iconst 1, 1) := by decide +kernel
theorem dX5_readColumn_101 : decode cX5_readColumn 101 = .ok (.goto 4, 3) := by decide +kernel
theorem dX5_readColumn_104 : decode cX5_readColumn 104 = .ok (.iconst 0, 1) := by decide +kernel
theorem dX5_readColumn_105 : decode cX5_readColumn 105 = .ok (.invokevirtual 97, 3) := by decide +kernel
theorem dX5_readColumn_108 : decode cX5_readColumn 108 = .ok (.aload_n 0, 1) := by decide +kernel
theorem dX5_readColumn_109 : decode cX5_readColumn 109 = .ok (.getfield 14, 3) := by decide +kernel
theorem dX5_readColumn_112 : decode cX5_readColumn 112 = .ok (.invokevirtual 31, 3) := by decide +kernel
theorem dX5_readColumn_115 : decode cX5_readColumn 115 = .ok (.iconst 1, 1) := by decide +kernel
theorem dX5_readColumn_116 : decode cX5_readColumn 116 = .ok (.ireturn, 1) := by decide +kernel
theorem dX5_readOrder_0 : decode cX5_readOrder 0 = .ok (.aload_n 0, 1) := by decide +kernel
theorem dX5_readOrder_1 : decode cX5_readOrder 1 = .ok (.getfield 20, 3) := by decide +kernel
theorem dX5_readOrder_4 : decode cX5_readOrder 4 = .ok (.getfield 79, 3) := by decide +kernel
theorem dX5_readOrder_7 : decode cX5_readOrder 7 = .ok (.ifCond .ne 9, 3) := by decide +kernel
theorem dX5_readOrder_10 : decode cX5_readOrder 10 = .ok (.aload_n 0, 1) := by decide +kernel
theorem dX5_readOrder_11 : decode cX5_readOrder 11 = .ok (.iconst 5, 1) := by decide +kernel
theorem dX5_readOrder_12 : decode cX5_readOrder 12 = .ok (.invokevirtual 54, 3) := by decide +kernel
theorem dX5_readOrder_15 : decode cX5_readOrder 15 = .ok (.ireturn, 1) := by decide +kernel
theorem dX5_readOrder_16 : decode cX5_readOrder 16 = .ok (.aload_n 0, 1) := by decide +kernel
theorem dX5_readOrder_17 : decode cX5_readOrder 17 = .ok (.getfield 20, 3) := by decide +kernel
theorem dX5_readOrder_20 : decode cX5_readOrder 20 = .ok (.getfield 61, 3) := by decide +kernel
theorem dX5_readOrder_23 : decode cX5_readOrder 23 = .ok (.getfield 67, 3) := by decide +kernel
theorem dX5_readOrder_26 : decode cX5_readOrder 26 = .ok (.ifCond .le 9, 3) := by decide +kernel
theorem dX5_readOrder_29 : decode cX5_readOrder 29 = .ok (.aload_n 0, 1) := by decide +kernel
theorem dX5_readOrder_30 : decode cX5_readOrder 30 = .ok (.iconst 3, 1) := by decide +kernel
theorem dX5_readOrder_31 : decode cX5_readOrder 31 = .ok (.invokevirtual 54, 3) := by decide +kernel
theorem dX5_readOrder_34 : decode cX5_readOrder 34 = .ok (.ireturn, 1) := by decide +kernel
theorem dX5_readOrder_35 : decode cX5_readOrder 35 = .ok (.iconst 0, 1) := by decide +kernel
theorem dX5_readOrder_36 : decode cX5_readOrder 36 = .ok (.istore_n 1, 1) := by decide +kernel
theorem dX5_readOrder_37 : decode cX5_readOrder 37 = .ok (.iload_n 1, 1) := by decide +kernel
theorem dX5_readOrder_38 : decode cX5_readOrder 38 = .ok (.iconst 4, 1) := by decide +kernel
theorem dX5_readOrder_39 : decode cX5_readOrder 39 = .ok (.if_icmp .gt 39, 3) := by decide +kernel
theorem dX5_readOrder_42 : decode cX5_readOrder 42 = .ok (.aload_n 0, 1) := by decide +kernel
theorem dX5_readOrder_43 : decode cX5_readOrder 43 = .ok (.getfield 14, 3) := by decide +kernel
theorem dX5_readOrder_46 : decode cX5_readOrder 46 = .ok (.invokevirtual 31, 3) := by decide +kernel
theorem dX5_readOrder_49 : decode cX5_readOrder 49 = .ok (.aload_n 0, 1) := by decide +kernel
theorem dX5_readOrder_50 : decode cX5_readOrder 50 = .ok (.invokevirtual 101, 3) := by decide +kernel
theorem dX5_readOrder_53 : decode cX5_readOrder 53 = .ok (.ifCond .ne 5, 3) := by decide +kernel
theorem dX5_readOrder_56 : decode cX5_readOrder 56 = .ok (.iconst 0, 1) := by decide +kernel
theorem dX5_readOrder_57 : decode cX5_readOrder 57 = .ok (.ireturn, 1) := by decide +kernel
theorem dX5_readOrder_58 : decode cX5_readOrder 58 = .ok (.aload_n 0, 1) := by decide +kernel
theorem dX5_readOrder_59 : decode cX5_readOrder 59 = .ok (.getfield 14, 3) := by decide +kernel
theorem dX5_readOrder_62 : decode cX5_readOrder 62 = .ok (.bipush 44, 2) := by decide +kernel
theorem dX5_readOrder_64 : decode cX5_readOrder 64 = .ok (.invokevirtual 72, 3) := by decide +kernel
theorem dX5_readOrder_67 : decode cX5_readOrder 67 = .ok (.ifCond .ne 5, 3) := by decide +kernel
theorem dX5_readOrder_70 : decode cX5_readOrder 70 = .ok (.iconst 1, 1) := by decide +kernel
theorem dX5_readOrder_71 : decode cX5_readOrder 71 = .ok (.ireturn, 1) := by decide +kernel
theorem dX5_readOrder_72 : decode cX5_readOrder 72 = .ok (.iinc 1 1, 3) := by decide +kernel
theorem dX5_readOrder_75 : decode cX5_readOrder 75 = .ok (.goto (-38), 3) := by decide +kernel
theorem dX5_readOrder_78 : decode cX5_readOrder 78 = .ok (.aload_n 0, 1) := by decide +kernel
theorem dX5_readOrder_79 : decode cX5_readOrder 79 = .ok (.iconst 1, 1) := by decide +kernel
theorem dX5_readOrder_80 : decode cX5_readOrder 80 = .ok (.invokevirtual 54, 3) := by decide +kernel
theorem dX5_readOrder_83 : decode cX5_readOrder 83 = .ok (.ireturn, 1) := by decide +kernel
theorem dX5_readOrdered_0 : decode cX5_readOrdered 0 = .ok (.aload_n 0, 1) := by decide +kernel
theorem dX5_readOrdered_1 : decode cX5_readOrdered 1 = .ok (.getfield 14, 3) := by decide +kernel
theorem dX5_readOrdered_4 : decode cX5_readOrdered 4 = .ok (.getfield 58, 3) := by decide +kernel
theorem dX5_readOrdered_7 : decode cX5_readOrdered 7 = .ok (.iconst 1, 1) := by decide +kernel
theorem dX5_readOrdered_8 : decode cX5_readOrdered 8 = .ok (.if_icmp .eq 9, 3) := by decide +kernel
theorem dX5_readOrdered_11 : decode cX5_readOrdered 11 = .ok (.aload_n 0, 1) := by decide +kernel
theorem dX5_readOrdered_12 : decode cX5_readOrdered 12 = .ok (.iconst 1, 1) := by decide +kernel
theorem dX5_readOrdered_13 : decode cX5_readOrdered 13 = .ok (.invokevirtual 54, 3) := by decide +kernel
theorem dX5_readOrdered_16 : decode cX5_readOrdered 16 = .ok (.ireturn, 1) := by decide +kernel
theorem dX5_readOrdered_17 : decode cX5_readOrdered 17 = .ok (.aload_n 0, 1) := by decide +kernel
theorem dX5_readOrdered_18 : decode cX5_readOrdered 18 = .ok (.getfield 20, 3) := by decide +kernel
theorem dX5_readOrdered_21 : decode cX5_readOrdered 21 = .ok (.aload_n 0, 1) := by decide +kernel
theorem dX5_readOrdered_22 : decode cX5_readOrdered 22 = .ok (.getfield 14, 3) := by decide +kernel
theorem dX5_readOrdered_25 : decode cX5_readOrdered 25 = .ok (.getfield 85, 3) := by decide +kernel
theorem dX5_readOrdered_28 : decode cX5_readOrdered 28 = .ok (.invokevirtual 89, 3) := by decide +kernel
theorem dX5_readOrdered_31 : decode cX5_readOrdered 31 = .ok (.istore_n 1, 1) := by decide +kernel
theorem dX5_readOrdered_32 : decode cX5_readOrdered 32 = .ok (.iload_n 1, 1) := by decide +kernel
theorem dX5_readOrdered_33 : decode cX5_readOrdered 33 = .ok (.iconst (-1), 1) := by decide +kernel
theorem dX5_readOrdered_34 : decode cX5_readOrdered 34 = .ok (.if_icmp .ne 9, 3) := by decide +kernel
theorem dX5_readOrdered_37 : decode cX5_readOrdered 37 = .ok (.aload_n 0, 1) := by decide +kernel
theorem dX5_readOrdered_38 : decode cX5_readOrdered 38 = .ok (.iconst 2, 1) := by decide +kernel
theorem dX5_readOrdered_39 : decode cX5_readOrdered 39 = .ok (.invokevirtual 54, 3) := by decide +kernel
theorem dX5_readOrdered_42 : decode cX5_readOrdered 42 = .ok (.ireturn, 1) := by decide +kernel
theorem dX5_readOrdered_43 : decode cX5_readOrdered 43 = .ok (.aload_n 0, 1) := by decide +kernel
theorem dX5_readOrdered_44 : decode cX5_readOrdered 44 = .ok (.getfield 20, 3) := by decide +kernel
theorem dX5_readOrdered_47 : decode cX5_readOrdered 47 = .ok (.getfield 61, 3) := by decide +kernel
theorem dX5_readOrdered_50 : decode cX5_readOrdered 50 = .ok (.iload_n 1, 1) := by decide +kernel
theorem dX5_readOrdered_51 : decode cX5_readOrdered 51 = .ok (.invokevirtual 104, 3) := by decide +kernel
theorem dX5_readOrdered_54 : decode cX5_readOrdered 54 = .ok (.ifCond .eq 9, 3) := by decide +kernel
theorem dX5_readOrdered_57 : decode cX5_readOrdered 57 = .ok (.aload_n 0, 1) := by decide +kernel
theorem dX5_readOrdered_58 : decode cX5_readOrdered 58 = .ok (.iconst 3, 1) := by decide +kernel
theorem dX5_readOrdered_59 : decode cX5_readOrdered 59 = .ok (.invokevirtual 54, 3) := by decide +kernel
theorem dX5_readOrdered_62 : decode cX5_readOrdered 62 = .ok (.ireturn, 1) := by decide +kernel
theorem dX5_readOrdered_63 : decode cX5_readOrdered 63 = .ok (.aload_n 0, 1) := by decide +kernel
theorem dX5_readOrdered_64 : decode cX5_readOrdered 64 = .ok (.getfield 14, 3) := by decide +kernel
theorem dX5_readOrdered_67 : decode cX5_readOrdered 67 = .ok (.invokevirtual 31, 3) := by decide +kernel
theorem dX5_readOrdered_70 : decode cX5_readOrdered 70 = .ok (.aload_n 0, 1) := by decide +kernel
theorem dX5_readOrdered_71 : decode cX5_readOrdered 71 = .ok (.getfield 14, 3) := by decide +kernel
theorem dX5_readOrdered_74 : decode cX5_readOrdered 74 = .ok (.ldc2_w 107, 3) := by decide +kernel
theorem dX5_readOrdered_77 : decode cX5_readOrdered 77 = .ok (.invokevirtual 36, 3) := by decide +kernel
theorem dX5_readOrdered_80 : decode cX5_readOrdered 80 = .ok (.ifCond .ne 22, 3) := by decide +kernel
theorem dX5_readOrdered_83 : decode cX5_readOrdered 83 = .ok (.aload_n 0, 1) := by decide +kernel
theorem dX5_readOrdered_84 : decode cX5_readOrdered 84 = .ok (.getfield 14, 3) := by decide +kernel
theorem dX5_readOrdered_87 : decode cX5_readOrdered 87 = .ok (.ldc2_w 109, 3) := by decide +kernel
theorem dX5_readOrdered_90 : decode cX5_readOrdered 90 = .ok (.invokevirtual 36, 3) := by decide +kernel
theorem dX5_readOrdered_93 : decode cX5_readOrdered 93 = .ok (.ifCond .ne 9, 3) := by decide +kernel
theorem dX5_readOrdered_96 : decode cX5_readOrdered 96 = .ok (.aload_n 0, 1) := by decide +kernel
theorem dX5_readOrdered_97 : decode cX5_readOrdered 97 = .ok (.iconst 1, 1) := by decide +kernel
theorem dX5_readOrdered_98 : decode cX5_readOrdered 98 = .ok (.invokevirtual 54, 3) := by decide +kernel
theorem dX5_readOrdered_101 : decode cX5_readOrdered 101 = .ok (.ireturn, 1) := by decide +kernel
theorem dX5_readOrdered_102 : decode cX5_readOrdered 102 = .ok (.aload_n 0, 1) := by decide +kernel
theorem dX5_readOrdered_103 : decode cX5_readOrdered 103 = .ok (.getfield 14, 3) := by decide +kernel
theorem dX5_readOrdered_106 : decode cX5_readOrdered 106 = .ok (.ldc2_w 109, 3) := by decide +kernel
theorem dX5_readOrdered_109 : decode cX5_readOrdered 109 = .ok (.invokevirtual 36, 3) := by decide +kernel
theorem dX5_readOrdered_112 : decode cX5_readOrdered 112 = .ok (.istore_n 2, 1) := by decide +kernel
theorem dX5_readOrdered_113 : decode cX5_readOrdered 113 = .ok (.aload_n 0, 1) := by decide +kernel
theorem dX5_readOrdered_114 : decode cX5_readOrdered 114 = .ok (.getfield 14, 3) := by decide +kernel
theorem dX5_readOrdered_117 : decode cX5_readOrdered 117 = .ok (.invokevirtual 31, 3) := by decide +kernel
theorem dX5_readOrdered_120 : decode cX5_readOrdered 120 = .ok (.aload_n 0, 1) := by decide +kernel
theorem dX5_readOrdered_121 : decode cX5_readOrdered 121 = .ok (.getfield 14, 3) := by decide +kernel
theorem dX5_readOrdered_124 : decode cX5_readOrdered 124 = .ok (.ldc2_w 111, 3) := by decide +kernel
theorem dX5_readOrdered_127 : decode cX5_readOrdered 127 = .ok (.invokevirtual 36, 3) := by decide +kernel
theorem dX5_readOrdered_130 : decode cX5_readOrdered 130 = .ok (.istore_n 3, 1) := by decide +kernel
theorem dX5_readOrdered_131 : decode cX5_readOrdered 131 = .ok (.iload_n 3, 1) := by decide +kernel
theorem dX5_readOrdered_132 : decode cX5_readOrdered 132 = .ok (.ifCond .eq 10, 3) := by decide +kernel
theorem dX5_readOrdered_135 : decode cX5_readOrdered 135 = .ok (.aload_n 0, 1) := by decide +kernel
theorem dX5_readOrdered_136 : decode cX5_readOrdered 136 = .ok (.getfield 14, 3) := by decide +kernel
theorem dX5_readOrdered_139 : decode cX5_readOrdered 139 = .ok (.invokevirtual 31, 3) := by decide +kernel
theorem dX5_readOrdered_142 : decode cX5_readOrdered 142 = .ok (.aload_n 0, 1) := by decide +kernel
theorem dX5_readOrdered_143 : decode cX5_readOrdered 143 = .ok (.getfield 20, 3) := by decide +kernel
theorem dX5_readOrdered_146 : decode cX5_readOrdered 146 = .ok (.getfield 61, 3) := by decide +kernel
theorem dX5_readOrdered_149 : decode cX5_readOrdered 149 = .ok (.iload_n 1, 1) := by decide +kernel
theorem dX5_readOrdered_150 : decode cX5_readOrdered 150 = .ok (.aload_n 0, 1) := by decide +kernel
theorem dX5_readOrdered_151 : decode cX5_readOrdered 151 = .ok (.getfield 20, 3) := by decide +kernel
theorem dX5_readOrdered_154 : decode cX5_readOrdered 154 = .ok (.getfield 113, 3) := by decide +kernel
theorem dX5_readOrdered_157 : decode cX5_readOrdered 157 = .ok (.iload_n 1, 1) := by decide +kernel
theorem dX5_readOrdered_158 : decode cX5_readOrdered 158 = .ok (.iaload, 1) := by decide +kernel
theorem dX5_readOrdered_159 : decode cX5_readOrdered 159 = .ok (.iload_n 2, 1) := by decide +kernel
theorem dX5_readOrdered_160 : decode cX5_readOrdered 160 = .ok (.iload_n 3, 1) := by decide +kernel
theorem dX5_readOrdered_161 : decode cX5_readOrdered 161 = .ok (.invokevirtual 117, 3) := by decide +kernel
theorem dX5_readOrdered_164 : decode cX5_readOrdered 164 = .ok (.iconst 1, 1) := by decide +kernel
theorem dX5_readOrdered_165 : decode cX5_readOrdered 165 = .ok (.ireturn, 1) := by decide +kernel
theorem dX5_readRow_0 : decode cX5_readRow 0 = .ok (.aload_n 0, 1) := by decide +kernel
theorem dX5_readRow_1 : decode cX5_readRow 1 = .ok (.getfield 20, 3) := by decide +kernel
theorem dX5_readRow_4 : decode cX5_readRow 4 = .ok (.getfield 79, 3) := by decide +kernel
theorem dX5_readRow_7 : decode cX5_readRow 7 = .ok (.ifCond .eq 16, 3) := by decide +kernel
theorem dX5_readRow_10 : decode cX5_readRow 10 = .ok (.aload_n 0, 1) := by decide +kernel
theorem dX5_readRow_11 : decode cX5_readRow 11 = .ok (.getfield 20, 3) := by decide +kernel
theorem dX5_readRow_14 : decode cX5_readRow 14 = .ok (.getfield 61, 3) := by decide +kernel
theorem dX5_readRow_17 : decode cX5_readRow 17 = .ok (.getfield 67, 3) := by decide +kernel
theorem dX5_readRow_20 : decode cX5_readRow 20 = .ok (.ifCond .ne 9, 3) := by decide +kernel
theorem dX5_readRow_23 : decode cX5_readRow 23 = .ok (.aload_n 0, 1) := by decide +kernel
theorem dX5_readRow_24 : decode cX5_readRow 24 = .ok (.iconst 5, 1) := by decide +kernel
theorem dX5_readRow_25 : decode cX5_readRow 25 = .ok (.invokevirtual 54, 3) := by decide +kernel
theorem dX5_readRow_28 : decode cX5_readRow 28 = .ok (.ireturn, 1) := by decide +kernel
theorem dX5_readRow_29 : decode cX5_readRow 29 = .ok (.aload_n 0, 1) := by decide +kernel
theorem dX5_readRow_30 : decode cX5_readRow 30 = .ok (.getfield 20, 3) := by decide +kernel
theorem dX5_readRow_33 : decode cX5_readRow 33 = .ok (.getfield 121, 3) := by decide +kernel
theorem dX5_readRow_36 : decode cX5_readRow 36 = .ok (.getfield 125, 3) := by decide +kernel
theorem dX5_readRow_39 : decode cX5_readRow 39 = .ok (.bipush 30, 2) := by decide +kernel
theorem dX5_readRow_41 : decode cX5_readRow 41 = .ok (.if_icmp .lt 9, 3) := by decide +kernel
theorem dX5_readRow_44 : decode cX5_readRow 44 = .ok (.aload_n 0, 1) := by decide +kernel
theorem dX5_readRow_45 : decode cX5_readRow 45 = .ok (.iconst 4, 1) := by decide +kernel
theorem dX5_readRow_46 : decode cX5_readRow 46 = .ok (.invokevirtual 54, 3) := by decide +kernel
theorem dX5_readRow_49 : decode cX5_readRow 49 = .ok (.ireturn, 1) := by decide +kernel
theorem dX5_readRow_50 : decode cX5_readRow 50 = .ok (.aload_n 0, 1) := by decide +kernel
theorem dX5_readRow_51 : decode cX5_readRow 51 = .ok (.getfield 14, 3) := by decide +kernel
theorem dX5_readRow_54 : decode cX5_readRow 54 = .ok (.invokevirtual 31, 3) := by decide +kernel
theorem dX5_readRow_57 : decode cX5_readRow 57 = .ok (.aload_n 0, 1) := by decide +kernel
theorem dX5_readRow_58 : decode cX5_readRow 58 = .ok (.getfield 20, 3) := by decide +kernel
theorem dX5_readRow_61 : decode cX5_readRow 61 = .ok (.getfield 121, 3) := by decide +kernel
theorem dX5_readRow_64 : decode cX5_readRow 64 = .ok (.invokevirtual 130, 3) := by decide +kernel
theorem dX5_readRow_67 : decode cX5_readRow 67 = .ok (.istore_n 1, 1) := by decide +kernel
theorem dX5_readRow_68 : decode cX5_readRow 68 = .ok (.iconst 0, 1) := by decide +kernel
theorem dX5_readRow_69 : decode cX5_readRow 69 = .ok (.istore_n 2, 1) := by decide +kernel
theorem dX5_readRow_70 : decode cX5_readRow 70 = .ok (.iload_n 2, 1) := by decide +kernel
theorem dX5_readRow_71 : decode cX5_readRow 71 = .ok (.aload_n 0, 1) := by decide +kernel
theorem dX5_readRow_72 : decode cX5_readRow 72 = .ok (.getfield 20, 3) := by decide +kernel
theorem dX5_readRow_75 : decode cX5_readRow 75 = .ok (.getfield 79, 3) := by decide +kernel
theorem dX5_readRow_78 : decode cX5_readRow 78 = .ok (.if_icmp .ge 20, 3) := by decide +kernel
theorem dX5_readRow_81 : decode cX5_readRow 81 = .ok (.aload_n 0, 1) := by decide +kernel
theorem dX5_readRow_82 : decode cX5_readRow 82 = .ok (.iload_n 1, 1) := by decide +kernel
theorem dX5_readRow_83 : decode cX5_readRow 83 = .ok (.iload_n 2, 1) := by decide +kernel
theorem dX5_readRow_84 : decode cX5_readRow 84 = .ok (.invokevirtual 133, 3) := by decide +kernel
theorem dX5_readRow_87 : decode cX5_readRow 87 = .ok (.ifCond .ne 5, 3) := by decide +kernel
theorem dX5_readRow_90 : decode cX5_readRow 90 = .ok (.iconst 0, 1) := by decide +kernel
theorem dX5_readRow_91 : decode cX5_readRow 91 = .ok (.ireturn, 1) := by decide +kernel
theorem dX5_readRow_92 : decode cX5_readRow 92 = .ok (.iinc 2 1, 3) := by decide +kernel
theorem dX5_readRow_95 : decode cX5_readRow 95 = .ok (.goto (-25), 3) := by decide +kernel
theorem dX5_readRow_98 : decode cX5_readRow 98 = .ok (.iconst 1, 1) := by decide +kernel
theorem dX5_readRow_99 : decode cX5_readRow 99 = .ok (.ireturn, 1) := by decide +kernel
theorem dX5_readValue_0 : decode cX5_readValue 0 = .ok (.aload_n 0, 1) := by decide +kernel
theorem dX5_readValue_1 : decode cX5_readValue 1 = .ok (.getfield 20, 3) := by decide +kernel
theorem dX5_readValue_4 : decode cX5_readValue 4 = .ok (.getfield 113, 3) := by decide +kernel
theorem dX5_readValue_7 : decode cX5_readValue 7 = .ok (.iload_n 2, 1) := by decide +kernel
theorem dX5_readValue_8 : decode cX5_readValue 8 = .ok (.iaload, 1) := by decide +kernel
theorem dX5_readValue_9 : decode cX5_readValue 9 = .ok (.ifCond .ne 7, 3) := by decide +kernel
theorem dX5_readValue_12 : decode cX5_readValue 12 = .ok (.iconst 1, 1) := by decide +kernel
theorem dX5_readValue_13 : decode cX5_readValue 13 = .ok (.goto 4, 3) := by decide +kernel
theorem dX5_readValue_16 : decode cX5_readValue 16 = .ok (.iconst 0, 1) := by decide +kernel
theorem dX5_readValue_17 : decode cX5_readValue 17 = .ok (.istore_n 3, 1) := by decide +kernel
theorem dX5_readValue_18 : decode cX5_readValue 18 = .ok (.iload_n 3, 1) := by decide +kernel
theorem dX5_readValue_19 : decode cX5_readValue 19 = .ok (.ifCond .eq 19, 3) := by decide +kernel
theorem dX5_readValue_22 : decode cX5_readValue 22 = .ok (.aload_n 0, 1) := by decide +kernel
theorem dX5_readValue_23 : decode cX5_readValue 23 = .ok (.getfield 14, 3) := by decide +kernel
theorem dX5_readValue_26 : decode cX5_readValue 26 = .ok (.bipush 45, 2) := by decide +kernel
theorem dX5_readValue_28 : decode cX5_readValue 28 = .ok (.invokevirtual 72, 3) := by decide +kernel
theorem dX5_readValue_31 : decode cX5_readValue 31 = .ok (.ifCond .eq 7, 3) := by decide +kernel
theorem dX5_readValue_34 : decode cX5_readValue 34 = .ok (.iconst 1, 1) := by decide +kernel
theorem dX5_readValue_35 : decode cX5_readValue 35 = .ok (.goto 4, 3) := by decide +kernel
theorem dX5_readValue_38 : decode cX5_readValue 38 = .ok (.iconst 0, 1) := by decide +kernel
theorem dX5_readValue_39 : decode cX5_readValue 39 = .ok (.istore 4, 2) := by decide +kernel
theorem dX5_readValue_41 : decode cX5_readValue 41 = .ok (.iload 4, 2) := by decide +kernel
theorem dX5_readValue_43 : decode cX5_readValue 43 = .ok (.ifCond .eq 10, 3) := by decide +kernel
theorem dX5_readValue_46 : decode cX5_readValue 46 = .ok (.aload_n 0, 1) := by decide +kernel
theorem dX5_readValue_47 : decode cX5_readValue 47 = .ok (.getfield 14, 3) := by decide +kernel
theorem dX5_readValue_50 : decode cX5_readValue 50 = .ok (.invokevirtual 31, 3) := by decide +kernel
theorem dX5_readValue_53 : decode cX5_readValue 53 = .ok (.iload 4, 2) := by decide +kernel
theorem dX5_readValue_55 : decode cX5_readValue 55 = .ok (.ifCond .ne 20, 3) := by decide +kernel
theorem dX5_readValue_58 : decode cX5_readValue 58 = .ok (.aload_n 0, 1) := by decide +kernel
theorem dX5_readValue_59 : decode cX5_readValue 59 = .ok (.getfield 14, 3) := by decide +kernel
theorem dX5_readValue_62 : decode cX5_readValue 62 = .ok (.ldc2_w 137, 3) := by decide +kernel
theorem dX5_readValue_65 : decode cX5_readValue 65 = .ok (.invokevirtual 36, 3) := by decide +kernel
theorem dX5_readValue_68 : decode cX5_readValue 68 = .ok (.ifCond .eq 7, 3) := by decide +kernel
theorem dX5_readValue_71 : decode cX5_readValue 71 = .ok (.iconst 1, 1) := by decide +kernel
theorem dX5_readValue_72 : decode cX5_readValue 72 = .ok (.goto 4, 3) := by decide +kernel
theorem dX5_readValue_75 : decode cX5_readValue 75 = .ok (.iconst 0, 1) := by decide +kernel
theorem dX5_readValue_76 : decode cX5_readValue 76 = .ok (.istore 5, 2) := by decide +kernel
theorem dX5_readValue_78 : decode cX5_readValue 78 = .ok (.iload 5, 2) := by decide +kernel
theorem dX5_readValue_80 : decode cX5_readValue 80 = .ok (.ifCond .ne 28, 3) := by decide +kernel
theorem dX5_readValue_83 : decode cX5_readValue 83 = .ok (.aload_n 0, 1) := by decide +kernel
theorem dX5_readValue_84 : decode cX5_readValue 84 = .ok (.getfield 14, 3) := by decide +kernel
theorem dX5_readValue_87 : decode cX5_readValue 87 = .ok (.getfield 58, 3) := by decide +kernel
theorem dX5_readValue_90 : decode cX5_readValue 90 = .ok (.iload_n 3, 1) := by decide +kernel
theorem dX5_readValue_91 : decode cX5_readValue 91 = .ok (.ifCond .eq 7, 3) := by decide +kernel
theorem dX5_readValue_94 : decode cX5_readValue 94 = .ok (.iconst 2, 1) := by decide +kernel
theorem dX5_readValue_95 : decode cX5_readValue 95 = .ok (.goto 4, 3) := by decide +kernel
theorem dX5_readValue_98 : decode cX5_readValue 98 = .ok (.iconst 1, 1) := by decide +kernel
theorem dX5_readValue_99 : decode cX5_readValue 99 = .ok (.if_icmp .eq 9, 3) := by decide +kernel
theorem dX5_readValue_102 : decode cX5_readValue 102 = .ok (.aload_n 0, 1) := by decide +kernel
theorem dX5_readValue_103 : decode cX5_readValue 103 = .ok (.iconst 1, 1) := by decide +kernel
theorem dX5_readValue_104 : decode cX5_readValue 104 = .ok (.invokevirtual 54, 3) := by decide +kernel
theorem dX5_readValue_107 : decode cX5_readValue 107 = .ok (.ireturn, 1) := by decide +kernel
theorem dX5_readValue_108 : decode cX5_readValue 108 = .ok (.iload 4, 2) := by decide +kernel
theorem dX5_readValue_110 : decode cX5_readValue 110 = .ok (.ifCond .eq 14, 3) := by decide +kernel
theorem dX5_readValue_113 : decode cX5_readValue 113 = .ok (.aload_n 0, 1) := by decide +kernel
theorem dX5_readValue_114 : decode cX5_readValue 114 = .ok (.getfield 14, 3) := by decide +kernel
theorem dX5_readValue_117 : decode cX5_readValue 117 = .ok (.getfield 85, 3) := by decide +kernel
theorem dX5_readValue_120 : decode cX5_readValue 120 = .ok (.lneg, 1) := by decide +kernel
theorem dX5_readValue_121 : decode cX5_readValue 121 = .ok (.goto 10, 3) := by decide +kernel
theorem dX5_readValue_124 : decode cX5_readValue 124 = .ok (.aload_n 0, 1) := by decide +kernel
theorem dX5_readValue_125 : decode cX5_readValue 125 = .ok (.getfield 14, 3) := by decide +kernel
theorem dX5_readValue_128 : decode cX5_readValue 128 = .ok (.getfield 85, 3) := by decide +kernel
theorem dX5_readValue_131 : decode cX5_readValue 131 = .ok (.lstore 6, 2) := by decide +kernel
theorem dX5_readValue_133 : decode cX5_readValue 133 = .ok (.aload_n 0, 1) := by decide +kernel
theorem dX5_readValue_134 : decode cX5_readValue 134 = .ok (.getfield 20, 3) := by decide +kernel
theorem dX5_readValue_137 : decode cX5_readValue 137 = .ok (.getfield 121, 3) := by decide +kernel
theorem dX5_readValue_140 : decode cX5_readValue 140 = .ok (.iload_n 1, 1) := by decide +kernel
theorem dX5_readValue_141 : decode cX5_readValue 141 = .ok (.iload_n 2, 1) := by decide +kernel
theorem dX5_readValue_142 : decode cX5_readValue 142 = .ok (.iload 5, 2) := by decide +kernel
theorem dX5_readValue_144 : decode cX5_readValue 144 = .ok (.ifCond .eq 9, 3) := by decide +kernel
theorem dX5_readValue_147 : decode cX5_readValue 147 = .ok (.ldc2_w 139, 3) := by decide +kernel
theorem dX5_readValue_150 : decode cX5_readValue 150 = .ok (.goto 5, 3) := by decide +kernel
theorem dX5_readValue_153 : decode cX5_readValue 153 = .ok (.lload 6, 2) := by decide +kernel
theorem dX5_readValue_155 : decode cX5_readValue 155 = .ok (.invokevirtual 141, 3) := by decide +kernel
theorem dX5_readValue_158 : decode cX5_readValue 158 = .ok (.aload_n 0, 1) := by decide +kernel
theorem dX5_readValue_159 : decode cX5_readValue 159 = .ok (.getfield 14, 3) := by decide +kernel
theorem dX5_readValue_162 : decode cX5_readValue 162 = .ok (.invokevirtual 31, 3) := by decide +kernel
theorem dX5_readValue_165 : decode cX5_readValue 165 = .ok (.iconst 1, 1) := by decide +kernel
theorem dX5_readValue_166 : decode cX5_readValue 166 = .ok (.ireturn, 1) := by decide +kernel
