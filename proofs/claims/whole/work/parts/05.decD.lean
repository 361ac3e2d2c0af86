theorem dX8_init_0 : decode cX8_init 0 = .ok (.aload_n 0, 1) := by decide +kernel
theorem dX8_init_1 : decode cX8_init 1 = .ok (.invokespecial 1, 3) := by decide +kernel
theorem dX8_init_4 : decode cX8_init 4 = .ok (.aload_n 0, 1) := by decide +kernel
theorem dX8_init_5 : decode cX8_init 5 = .ok (.sipush 261, 3) := by decide +kernel
theorem dX8_init_8 : decode cX8_init 8 = .ok (.newarray .int, 2) := by decide +kernel
theorem dX8_init_10 : decode cX8_init 10 = .ok (.putfield 7, 3) := by decide +kernel
theorem dX8_init_13 : decode cX8_init 13 = .ok (.aload_n 0, 1) := by decide +kernel
theorem dX8_init_14 : decode cX8_init 14 = .ok (.sipush 2088, 3) := by decide +kernel
theorem dX8_init_17 : decode cX8_init 17 = .ok (.newarray .int, 2) := by decide +kernel
theorem dX8_init_19 : decode cX8_init 19 = .ok (.putfield 13, 3) := by decide +kernel
theorem dX8_init_22 : decode cX8_init 22 = .ok (.aload_n 0, 1) := by decide +kernel
theorem dX8_init_23 : decode cX8_init 23 = .ok (.sipush 522, 3) := by decide +kernel
theorem dX8_init_26 : decode cX8_init 26 = .ok (.newarray .int, 2) := by decide +kernel
theorem dX8_init_28 : decode cX8_init 28 = .ok (.putfield 16, 3) := by decide +kernel
theorem dX8_init_31 : decode cX8_init 31 = .ok (.aload_n 0, 1) := by decide +kernel
theorem dX8_init_32 : decode cX8_init 32 = .ok (.sipush 300, 3) := by decide +kernel
theorem dX8_init_35 : decode cX8_init 35 = .ok (.newarray .int, 2) := by decide +kernel
theorem dX8_init_37 : decode cX8_init 37 = .ok (.putfield 19, 3) := by decide +kernel
theorem dX8_init_40 : decode cX8_init 40 = .ok (.aload_n 0, 1) := by decide +kernel
theorem dX8_init_41 : decode cX8_init 41 = .ok (.sipush 261, 3) := by decide +kernel
theorem dX8_init_44 : decode cX8_init 44 = .ok (.newarray .int, 2) := by decide +kernel
theorem dX8_init_46 : decode cX8_init 46 = .ok (.putfield 22, 3) := by decide +kernel
theorem dX8_init_49 : decode cX8_init 49 = .ok (.aload_n 0, 1) := by decide +kernel
theorem dX8_init_50 : decode cX8_init 50 = .ok (.bipush 17, 2) := by decide +kernel
theorem dX8_init_52 : decode cX8_init 52 = .ok (.newarray .int, 2) := by decide +kernel
theorem dX8_init_54 : decode cX8_init 54 = .ok (.putfield 25, 3) := by decide +kernel
theorem dX8_init_57 : decode cX8_init 57 = .ok (.aload_n 0, 1) := by decide +kernel
theorem dX8_init_58 : decode cX8_init 58 = .ok (.bipush 6, 2) := by decide +kernel
theorem dX8_init_60 : decode cX8_init 60 = .ok (.newarray .int, 2) := by decide +kernel
theorem dX8_init_62 : decode cX8_init 62 = .ok (.putfield 28, 3) := by decide +kernel
theorem dX8_init_65 : decode cX8_init 65 = .ok (.aload_n 0, 1) := by decide +kernel
theorem dX8_init_66 : decode cX8_init 66 = .ok (.sipush 252, 3) := by decide +kernel
theorem dX8_init_69 : decode cX8_init 69 = .ok (.newarray .int, 2) := by decide +kernel
theorem dX8_init_71 : decode cX8_init 71 = .ok (.putfield 31, 3) := by decide +kernel
theorem dX8_init_74 : decode cX8_init 74 = .ok (.aload_n 0, 1) := by decide +kernel
theorem dX8_init_75 : decode cX8_init 75 = .ok (.bipush 8, 2) := by decide +kernel
theorem dX8_init_77 : decode cX8_init 77 = .ok (.newarray .int, 2) := by decide +kernel
theorem dX8_init_79 : decode cX8_init 79 = .ok (.putfield 34, 3) := by decide +kernel
theorem dX8_init_82 : decode cX8_init 82 = .ok (.aload_n 0, 1) := by decide +kernel
theorem dX8_init_83 : decode cX8_init 83 = .ok (.bipush 18, 2) := by decide +kernel
theorem dX8_init_85 : decode cX8_init 85 = .ok (.newarray .int, 2) := by decide +kernel
theorem dX8_init_87 : decode cX8_init 87 = .ok (.putfield 37, 3) := by decide +kernel
theorem dX8_init_90 : decode cX8_init 90 = .ok (.aload_n 0, 1) := by decide +kernel
theorem dX8_init_91 : decode cX8_init 91 = .ok (.bipush 18, 2) := by decide +kernel
theorem dX8_init_93 : decode cX8_init 93 = .ok (.newarray .int, 2) := by decide +kernel
theorem dX8_init_95 : decode cX8_init 95 = .ok (.putfield 40, 3) := by decide +kernel
theorem dX8_init_98 : decode cX8_init 98 = .ok (.aload_n 0, 1) := by decide +kernel
theorem dX8_init_99 : decode cX8_init 99 = .ok (.getfield 7, 3) := by decide +kernel
theorem dX8_init_102 : decode cX8_init 102 = .ok (.iconst 0, 1) := by decide +kernel
theorem dX8_init_103 : decode cX8_init 103 = .ok (.iconst 0, 1) := by decide +kernel
theorem dX8_init_104 : decode cX8_init 104 = .ok (.iastore, 1) := by decide +kernel
theorem dX8_init_105 : decode cX8_init 105 = .ok (.return_, 1) := by decide +kernel
theorem dX8_isIn_0 : decode cX8_isIn 0 = .ok (.iload_n 0, 1) := by decide +kernel
theorem dX8_isIn_1 : decode cX8_isIn 1 = .ok (.iload_n 1, 1) := by decide +kernel
theorem dX8_isIn_2 : decode cX8_isIn 2 = .ok (.if_icmp .lt 12, 3) := by decide +kernel
theorem dX8_isIn_5 : decode cX8_isIn 5 = .ok (.iload_n 0, 1) := by decide +kernel
theorem dX8_isIn_6 : decode cX8_isIn 6 = .ok (.iload_n 2, 1) := by decide +kernel
theorem dX8_isIn_7 : decode cX8_isIn 7 = .ok (.if_icmp .gt 7, 3) := by decide +kernel
theorem dX8_isIn_10 : decode cX8_isIn 10 = .ok (.iconst 1, 1) := by decide +kernel
theorem dX8_isIn_11 : decode cX8_isIn 11 = .ok (.goto 4, 3) := by decide +kernel
theorem dX8_isIn_14 : decode cX8_isIn 14 = .ok (.iconst 0, 1) := by decide +kernel
theorem dX8_isIn_15 : decode cX8_isIn 15 = .ok (.ireturn, 1) := by decide +kernel
theorem dX8_isRow_0 : decode cX8_isRow 0 = .ok (.iload_n 1, 1) := by decide +kernel
theorem dX8_isRow_1 : decode cX8_isRow 1 = .ok (.iconst 0, 1) := by decide +kernel
theorem dX8_isRow_2 : decode cX8_isRow 2 = .ok (.aload_n 0, 1) := by decide +kernel
theorem dX8_isRow_3 : decode cX8_isRow 3 = .ok (.getfield 7, 3) := by decide +kernel
theorem dX8_isRow_6 : decode cX8_isRow 6 = .ok (.iconst 0, 1) := by decide +kernel
theorem dX8_isRow_7 : decode cX8_isRow 7 = .ok (.iaload, 1) := by decide +kernel
theorem dX8_isRow_8 : decode cX8_isRow 8 = .ok (.iconst 1, 1) := by decide +kernel
theorem dX8_isRow_9 : decode cX8_isRow 9 = .ok (.isub, 1) := by decide +kernel
theorem dX8_isRow_10 : decode cX8_isRow 10 = .ok (.invokestatic 43, 3) := by decide +kernel
theorem dX8_isRow_13 : decode cX8_isRow 13 = .ok (.ireturn, 1) := by decide +kernel
theorem dX8_isColumn_0 : decode cX8_isColumn 0 = .ok (.iload_n 1, 1) := by decide +kernel
theorem dX8_isColumn_1 : decode cX8_isColumn 1 = .ok (.iconst 0, 1) := by decide +kernel
theorem dX8_isColumn_2 : decode cX8_isColumn 2 = .ok (.aload_n 0, 1) := by decide +kernel
theorem dX8_isColumn_3 : decode cX8_isColumn 3 = .ok (.getfield 7, 3) := by decide +kernel
theorem dX8_isColumn_6 : decode cX8_isColumn 6 = .ok (.iconst 1, 1) := by decide +kernel
theorem dX8_isColumn_7 : decode cX8_isColumn 7 = .ok (.iaload, 1) := by decide +kernel
theorem dX8_isColumn_8 : decode cX8_isColumn 8 = .ok (.iconst 1, 1) := by decide +kernel
theorem dX8_isColumn_9 : decode cX8_isColumn 9 = .ok (.isub, 1) := by decide +kernel
theorem dX8_isColumn_10 : decode cX8_isColumn 10 = .ok (.invokestatic 43, 3) := by decide +kernel
theorem dX8_isColumn_13 : decode cX8_isColumn 13 = .ok (.ireturn, 1) := by decide +kernel
theorem dX8_isLevels_0 : decode cX8_isLevels 0 = .ok (.iload_n 0, 1) := by decide +kernel
theorem dX8_isLevels_1 : decode cX8_isLevels 1 = .ok (.iconst 2, 1) := by decide +kernel
theorem dX8_isLevels_2 : decode cX8_isLevels 2 = .ok (.bipush 6, 2) := by decide +kernel
theorem dX8_isLevels_4 : decode cX8_isLevels 4 = .ok (.invokestatic 43, 3) := by decide +kernel
theorem dX8_isLevels_7 : decode cX8_isLevels 7 = .ok (.ireturn, 1) := by decide +kernel
theorem dX8_at_0 : decode cX8_at 0 = .ok (.aload_n 0, 1) := by decide +kernel
theorem dX8_at_1 : decode cX8_at 1 = .ok (.getfield 7, 3) := by decide +kernel
theorem dX8_at_4 : decode cX8_at 4 = .ok (.bipush 9, 2) := by decide +kernel
theorem dX8_at_6 : decode cX8_at 6 = .ok (.bipush 7, 2) := by decide +kernel
theorem dX8_at_8 : decode cX8_at 8 = .ok (.iload_n 1, 1) := by decide +kernel
theorem dX8_at_9 : decode cX8_at 9 = .ok (.imul, 1) := by decide +kernel
theorem dX8_at_10 : decode cX8_at 10 = .ok (.iadd, 1) := by decide +kernel
theorem dX8_at_11 : decode cX8_at 11 = .ok (.iload_n 2, 1) := by decide +kernel
theorem dX8_at_12 : decode cX8_at 12 = .ok (.iadd, 1) := by decide +kernel
theorem dX8_at_13 : decode cX8_at 13 = .ok (.iaload, 1) := by decide +kernel
theorem dX8_at_14 : decode cX8_at 14 = .ok (.ireturn, 1) := by decide +kernel
theorem dX8_set_0 : decode cX8_set 0 = .ok (.aload_n 0, 1) := by decide +kernel
theorem dX8_set_1 : decode cX8_set 1 = .ok (.getfield 7, 3) := by decide +kernel
theorem dX8_set_4 : decode cX8_set 4 = .ok (.bipush 9, 2) := by decide +kernel
theorem dX8_set_6 : decode cX8_set 6 = .ok (.bipush 7, 2) := by decide +kernel
theorem dX8_set_8 : decode cX8_set 8 = .ok (.iload_n 1, 1) := by decide +kernel
theorem dX8_set_9 : decode cX8_set 9 = .ok (.imul, 1) := by decide +kernel
theorem dX8_set_10 : decode cX8_set 10 = .ok (.iadd, 1) := by decide +kernel
theorem dX8_set_11 : decode cX8_set 11 = .ok (.iload_n 2, 1) := by decide +kernel
theorem dX8_set_12 : decode cX8_set 12 = .ok (.iadd, 1) := by decide +kernel
theorem dX8_set_13 : decode cX8_set 13 = .ok (.iload_n 3, 1) := by decide +kernel
theorem dX8_set_14 : decode cX8_set 14 = .ok (.iastore, 1) := by decide +kernel
theorem dX8_set_15 : decode cX8_set 15 = .ok (.return_, 1) := by decide +kernel
theorem dX8_remember_0 : decode cX8_remember 0 = .ok (.aload_n 0, 1) := by decide +kernel
theorem dX8_remember_1 : decode cX8_remember 1 = .ok (.getfield 47, 3) := by decide +kernel
theorem dX8_remember_4 : decode cX8_remember 4 = .ok (.bipush 8, 2) := by decide +kernel
theorem dX8_remember_6 : decode cX8_remember 6 = .ok (.if_icmp .ne 44, 3) := by decide +kernel
theorem dX8_remember_9 : decode cX8_remember 9 = .ok (.iconst 0, 1) := by decide +kernel
theorem dX8_remember_10 : decode cX8_remember 10 = .ok (.istore_n 1, 1) := by decide +kernel
theorem dX8_remember_11 : decode cX8_remember 11 = .ok (.iload_n 1, 1) := by decide +kernel
theorem dX8_remember_12 : decode cX8_remember 12 = .ok (.sipush 1827, 3) := by decide +kernel
theorem dX8_remember_15 : decode cX8_remember 15 = .ok (.if_icmp .ge 25, 3) := by decide +kernel
theorem dX8_remember_18 : decode cX8_remember 18 = .ok (.aload_n 0, 1) := by decide +kernel
theorem dX8_remember_19 : decode cX8_remember 19 = .ok (.getfield 13, 3) := by decide +kernel
theorem dX8_remember_22 : decode cX8_remember 22 = .ok (.iload_n 1, 1) := by decide +kernel
theorem dX8_remember_23 : decode cX8_remember 23 = .ok (.aload_n 0, 1) := by decide +kernel
theorem dX8_remember_24 : decode cX8_remember 24 = .ok (.getfield 13, 3) := by decide +kernel
theorem dX8_remember_27 : decode cX8_remember 27 = .ok (.iload_n 1, 1) := by decide +kernel
theorem dX8_remember_28 : decode cX8_remember 28 = .ok (.sipush 261, 3) := by decide +kernel
theorem dX8_remember_31 : decode cX8_remember 31 = .ok (.iadd, 1) := by decide +kernel
theorem dX8_remember_32 : decode cX8_remember 32 = .ok (.iaload, 1) := by decide +kernel
theorem dX8_remember_33 : decode cX8_remember 33 = .ok (.iastore, 1) := by decide +kernel
theorem dX8_remember_34 : decode cX8_remember 34 = .ok (.iinc 1 1, 3) := by decide +kernel
theorem dX8_remember_37 : decode cX8_remember 37 = .ok (.goto (-26), 3) := by decide +kernel
theorem dX8_remember_40 : decode cX8_remember 40 = .ok (.aload_n 0, 1) := by decide +kernel
theorem dX8_remember_41 : decode cX8_remember 41 = .ok (.dup, 1) := by decide +kernel
theorem dX8_remember_42 : decode cX8_remember 42 = .ok (.getfield 47, 3) := by decide +kernel
theorem dX8_remember_45 : decode cX8_remember 45 = .ok (.iconst 1, 1) := by decide +kernel
theorem dX8_remember_46 : decode cX8_remember 46 = .ok (.isub, 1) := by decide +kernel
theorem dX8_remember_47 : decode cX8_remember 47 = .ok (.putfield 47, 3) := by decide +kernel
theorem dX8_remember_50 : decode cX8_remember 50 = .ok (.iconst 0, 1) := by decide +kernel
theorem dX8_remember_51 : decode cX8_remember 51 = .ok (.istore_n 1, 1) := by decide +kernel
theorem dX8_remember_52 : decode cX8_remember 52 = .ok (.iload_n 1, 1) := by decide +kernel
theorem dX8_remember_53 : decode cX8_remember 53 = .ok (.sipush 261, 3) := by decide +kernel
theorem dX8_remember_56 : decode cX8_remember 56 = .ok (.if_icmp .ge 30, 3) := by decide +kernel
theorem dX8_remember_59 : decode cX8_remember 59 = .ok (.aload_n 0, 1) := by decide +kernel
theorem dX8_remember_60 : decode cX8_remember 60 = .ok (.getfield 13, 3) := by decide +kernel
theorem dX8_remember_63 : decode cX8_remember 63 = .ok (.sipush 261, 3) := by decide +kernel
theorem dX8_remember_66 : decode cX8_remember 66 = .ok (.aload_n 0, 1) := by decide +kernel
theorem dX8_remember_67 : decode cX8_remember 67 = .ok (.getfield 47, 3) := by decide +kernel
theorem dX8_remember_70 : decode cX8_remember 70 = .ok (.imul, 1) := by decide +kernel
theorem dX8_remember_71 : decode cX8_remember 71 = .ok (.iload_n 1, 1) := by decide +kernel
theorem dX8_remember_72 : decode cX8_remember 72 = .ok (.iadd, 1) := by decide +kernel
theorem dX8_remember_73 : decode cX8_remember 73 = .ok (.aload_n 0, 1) := by decide +kernel
theorem dX8_remember_74 : decode cX8_remember 74 = .ok (.getfield 7, 3) := by decide +kernel
theorem dX8_remember_77 : decode cX8_remember 77 = .ok (.iload_n 1, 1) := by decide +kernel
theorem dX8_remember_78 : decode cX8_remember 78 = .ok (.iaload, 1) := by decide +kernel
theorem dX8_remember_79 : decode cX8_remember 79 = .ok (.iastore, 1) := by decide +kernel
theorem dX8_remember_80 : decode cX8_remember 80 = .ok (.iinc 1 1, 3) := by decide +kernel
theorem dX8_remember_83 : decode cX8_remember 83 = .ok (.goto (-31), 3) := by decide +kernel
theorem dX8_remember_86 : decode cX8_remember 86 = .ok (.aload_n 0, 1) := by decide +kernel
theorem dX8_remember_87 : decode cX8_remember 87 = .ok (.dup, 1) := by decide +kernel
theorem dX8_remember_88 : decode cX8_remember 88 = .ok (.getfield 47, 3) := by decide +kernel
theorem dX8_remember_91 : decode cX8_remember 91 = .ok (.iconst 1, 1) := by decide +kernel
theorem dX8_remember_92 : decode cX8_remember 92 = .ok (.iadd, 1) := by decide +kernel
theorem dX8_remember_93 : decode cX8_remember 93 = .ok (.putfield 47, 3) := by decide +kernel
theorem dX8_remember_96 : decode cX8_remember 96 = .ok (.return_, 1) := by decide +kernel
theorem dX8_begin_0 : decode cX8_begin 0 = .ok (.iload_n 1, 1) := by decide +kernel
theorem dX8_begin_1 : decode cX8_begin 1 = .ok (.iconst 0, 1) := by decide +kernel
theorem dX8_begin_2 : decode cX8_begin 2 = .ok (.bipush 36, 2) := by decide +kernel
theorem dX8_begin_4 : decode cX8_begin 4 = .ok (.invokestatic 43, 3) := by decide +kernel
theorem dX8_begin_7 : decode cX8_begin 7 = .ok (.ifCond .ne 5, 3) := by decide +kernel
theorem dX8_begin_10 : decode cX8_begin 10 = .ok (.iconst (-1), 1) := by decide +kernel
theorem dX8_begin_11 : decode cX8_begin 11 = .ok (.ireturn, 1) := by decide +kernel
theorem dX8_begin_12 : decode cX8_begin 12 = .ok (.aload_n 0, 1) := by decide +kernel
theorem dX8_begin_13 : decode cX8_begin 13 = .ok (.invokevirtual 51, 3) := by decide +kernel
theorem dX8_begin_16 : decode cX8_begin 16 = .ok (.aload_n 0, 1) := by decide +kernel
theorem dX8_begin_17 : decode cX8_begin 17 = .ok (.getfield 7, 3) := by decide +kernel
theorem dX8_begin_20 : decode cX8_begin 20 = .ok (.iconst 0, 1) := by decide +kernel
theorem dX8_begin_21 : decode cX8_begin 21 = .ok (.iaload, 1) := by decide +kernel
theorem dX8_begin_22 : decode cX8_begin 22 = .ok (.istore_n 2, 1) := by decide +kernel
theorem dX8_begin_23 : decode cX8_begin 23 = .ok (.aload_n 0, 1) := by decide +kernel
theorem dX8_begin_24 : decode cX8_begin 24 = .ok (.getfield 7, 3) := by decide +kernel
theorem dX8_begin_27 : decode cX8_begin 27 = .ok (.iconst 0, 1) := by decide +kernel
theorem dX8_begin_28 : decode cX8_begin 28 = .ok (.iload_n 1, 1) := by decide +kernel
theorem dX8_begin_29 : decode cX8_begin 29 = .ok (.iastore, 1) := by decide +kernel
theorem dX8_begin_30 : decode cX8_begin 30 = .ok (.aload_n 0, 1) := by decide +kernel
theorem dX8_begin_31 : decode cX8_begin 31 = .ok (.getfield 7, 3) := by decide +kernel
theorem dX8_begin_34 : decode cX8_begin 34 = .ok (.iconst 1, 1) := by decide +kernel
theorem dX8_begin_35 : decode cX8_begin 35 = .ok (.iconst 0, 1) := by decide +kernel
theorem dX8_begin_36 : decode cX8_begin 36 = .ok (.iastore, 1) := by decide +kernel
theorem dX8_begin_37 : decode cX8_begin 37 = .ok (.iload_n 2, 1) := by decide +kernel
theorem dX8_begin_38 : decode cX8_begin 38 = .ok (.ireturn, 1) := by decide +kernel
theorem dX8_addColumn_0 : decode cX8_addColumn 0 = .ok (.iload_n 1, 1) := by decide +kernel
theorem dX8_addColumn_1 : decode cX8_addColumn 1 = .ok (.invokestatic 54, 3) := by decide +kernel
theorem dX8_addColumn_4 : decode cX8_addColumn 4 = .ok (.ifCond .ne 5, 3) := by decide +kernel
theorem dX8_addColumn_7 : decode cX8_addColumn 7 = .ok (.iconst (-1), 1) := by decide +kernel
theorem dX8_addColumn_8 : decode cX8_addColumn 8 = .ok (.ireturn, 1) := by decide +kernel
theorem dX8_addColumn_9 : decode cX8_addColumn 9 = .ok (.aload_n 0, 1) := by decide +kernel
theorem dX8_addColumn_10 : decode cX8_addColumn 10 = .ok (.getfield 7, 3) := by decide +kernel
theorem dX8_addColumn_13 : decode cX8_addColumn 13 = .ok (.iconst 1, 1) := by decide +kernel
theorem dX8_addColumn_14 : decode cX8_addColumn 14 = .ok (.iaload, 1) := by decide +kernel
theorem dX8_addColumn_15 : decode cX8_addColumn 15 = .ok (.bipush 7, 2) := by decide +kernel
theorem dX8_addColumn_17 : decode cX8_addColumn 17 = .ok (.if_icmp .ne 6, 3) := by decide +kernel
theorem dX8_addColumn_20 : decode cX8_addColumn 20 = .ok (.bipush (-3), 2) := by decide +kernel
theorem dX8_addColumn_22 : decode cX8_addColumn 22 = .ok (.ireturn, 1) := by decide +kernel
theorem dX8_addColumn_23 : decode cX8_addColumn 23 = .ok (.aload_n 0, 1) := by decide +kernel
theorem dX8_addColumn_24 : decode cX8_addColumn 24 = .ok (.invokevirtual 51, 3) := by decide +kernel
theorem dX8_addColumn_27 : decode cX8_addColumn 27 = .ok (.aload_n 0, 1) := by decide +kernel
theorem dX8_addColumn_28 : decode cX8_addColumn 28 = .ok (.getfield 7, 3) := by decide +kernel
theorem dX8_addColumn_31 : decode cX8_addColumn 31 = .ok (.iconst 1, 1) := by decide +kernel
theorem dX8_addColumn_32 : decode cX8_addColumn 32 = .ok (.iaload, 1) := by decide +kernel
theorem dX8_addColumn_33 : decode cX8_addColumn 33 = .ok (.istore_n 2, 1) := by decide +kernel
theorem dX8_addColumn_34 : decode cX8_addColumn 34 = .ok (.aload_n 0, 1) := by decide +kernel
theorem dX8_addColumn_35 : decode cX8_addColumn 35 = .ok (.getfield 7, 3) := by decide +kernel
theorem dX8_addColumn_38 : decode cX8_addColumn 38 = .ok (.iconst 2, 1) := by decide +kernel
theorem dX8_addColumn_39 : decode cX8_addColumn 39 = .ok (.iload_n 2, 1) := by decide +kernel
theorem dX8_addColumn_40 : decode cX8_addColumn 40 = .ok (.iadd, 1) := by decide +kernel
theorem dX8_addColumn_41 : decode cX8_addColumn 41 = .ok (.iload_n 1, 1) := by decide +kernel
theorem dX8_addColumn_42 : decode cX8_addColumn 42 = .ok (.iastore, 1) := by decide +kernel
theorem dX8_addColumn_43 : decode cX8_addColumn 43 = .ok (.aload_n 0, 1) := by decide +kernel
theorem dX8_addColumn_44 : decode cX8_addColumn 44 = .ok (.getfield 7, 3) := by decide +kernel
theorem dX8_addColumn_47 : decode cX8_addColumn 47 = .ok (.iconst 1, 1) := by decide +kernel
theorem dX8_addColumn_48 : decode cX8_addColumn 48 = .ok (.dup2, 1) := by decide +kernel
theorem dX8_addColumn_49 : decode cX8_addColumn 49 = .ok (.iaload, 1) := by decide +kernel
theorem dX8_addColumn_50 : decode cX8_addColumn 50 = .ok (.iconst 1, 1) := by decide +kernel
theorem dX8_addColumn_51 : decode cX8_addColumn 51 = .ok (.iadd, 1) := by decide +kernel
theorem dX8_addColumn_52 : decode cX8_addColumn 52 = .ok (.iastore, 1) := by decide +kernel
theorem dX8_addColumn_53 : decode cX8_addColumn 53 = .ok (.iconst 0, 1) := by decide +kernel
theorem dX8_addColumn_54 : decode cX8_addColumn 54 = .ok (.istore_n 3, 1) := by decide +kernel
theorem dX8_addColumn_55 : decode cX8_addColumn 55 = .ok (.iload_n 3, 1) := by decide +kernel
theorem dX8_addColumn_56 : decode cX8_addColumn 56 = .ok (.bipush 36, 2) := by decide +kernel
theorem dX8_addColumn_58 : decode cX8_addColumn 58 = .ok (.if_icmp .ge 16, 3) := by decide +kernel
theorem dX8_addColumn_61 : decode cX8_addColumn 61 = .ok (.aload_n 0, 1) := by decide +kernel
theorem dX8_addColumn_62 : decode cX8_addColumn 62 = .ok (.iload_n 3, 1) := by decide +kernel
theorem dX8_addColumn_63 : decode cX8_addColumn 63 = .ok (.iload_n 2, 1) := by decide +kernel
theorem dX8_addColumn_64 : decode cX8_addColumn 64 = .ok (.iconst 0, 1) := by decide +kernel
theorem dX8_addColumn_65 : decode cX8_addColumn 65 = .ok (.invokevirtual 58, 3) := by decide +kernel
theorem dX8_addColumn_68 : decode cX8_addColumn 68 = .ok (.iinc 3 1, 3) := by decide +kernel
theorem dX8_addColumn_71 : decode cX8_addColumn 71 = .ok (.goto (-16), 3) := by decide +kernel
theorem dX8_addColumn_74 : decode cX8_addColumn 74 = .ok (.iload_n 2, 1) := by decide +kernel
theorem dX8_addColumn_75 : decode cX8_addColumn 75 = .ok (.ireturn, 1) := by decide +kernel
theorem dX8_takeColumnOut_0 : decode cX8_takeColumnOut 0 = .ok (.aload_n 0, 1) := by decide +kernel
theorem dX8_takeColumnOut_1 : decode cX8_takeColumnOut 1 = .ok (.getfield 7, 3) := by decide +kernel
theorem dX8_takeColumnOut_4 : decode cX8_takeColumnOut 4 = .ok (.iconst 1, 1) := by decide +kernel
theorem dX8_takeColumnOut_5 : decode cX8_takeColumnOut 5 = .ok (.dup2, 1) := by decide +kernel
theorem dX8_takeColumnOut_6 : decode cX8_takeColumnOut 6 = .ok (.iaload, 1) := by decide +kernel
theorem dX8_takeColumnOut_7 : decode cX8_takeColumnOut 7 = .ok (.iconst 1, 1) := by decide +kernel
theorem dX8_takeColumnOut_8 : decode cX8_takeColumnOut 8 = .ok (.isub, 1) := by decide +kernel
theorem dX8_takeColumnOut_9 : decode cX8_takeColumnOut 9 = .ok (.iastore, 1) := by decide +kernel
theorem dX8_takeColumnOut_10 : decode cX8_takeColumnOut 10 = .ok (.iload_n 1, 1) := by decide +kernel
theorem dX8_takeColumnOut_11 : decode cX8_takeColumnOut 11 = .ok (.istore_n 2, 1) := by decide +kernel
theorem dX8_takeColumnOut_12 : decode cX8_takeColumnOut 12 = .ok (.iload_n 2, 1) := by decide +kernel
theorem dX8_takeColumnOut_13 : decode cX8_takeColumnOut 13 = .ok (.aload_n 0, 1) := by decide +kernel
theorem dX8_takeColumnOut_14 : decode cX8_takeColumnOut 14 = .ok (.getfield 7, 3) := by decide +kernel
theorem dX8_takeColumnOut_17 : decode cX8_takeColumnOut 17 = .ok (.iconst 1, 1) := by decide +kernel
theorem dX8_takeColumnOut_18 : decode cX8_takeColumnOut 18 = .ok (.iaload, 1) := by decide +kernel
theorem dX8_takeColumnOut_19 : decode cX8_takeColumnOut 19 = .ok (.if_icmp .ge 55, 3) := by decide +kernel
theorem dX8_takeColumnOut_22 : decode cX8_takeColumnOut 22 = .ok (.aload_n 0, 1) := by decide +kernel
theorem dX8_takeColumnOut_23 : decode cX8_takeColumnOut 23 = .ok (.getfield 7, 3) := by decide +kernel
theorem dX8_takeColumnOut_26 : decode cX8_takeColumnOut 26 = .ok (.iconst 2, 1) := by decide +kernel
theorem dX8_takeColumnOut_27 : decode cX8_takeColumnOut 27 = .ok (.iload_n 2, 1) := by decide +kernel
theorem dX8_takeColumnOut_28 : decode cX8_takeColumnOut 28 = .ok (.iadd, 1) := by decide +kernel
theorem dX8_takeColumnOut_29 : decode cX8_takeColumnOut 29 = .ok (.aload_n 0, 1) := by decide +kernel
theorem dX8_takeColumnOut_30 : decode cX8_takeColumnOut 30 = .ok (.getfield 7, 3) := by decide +kernel
theorem dX8_takeColumnOut_33 : decode cX8_takeColumnOut 33 = .ok (.iconst 2, 1) := by decide +kernel
theorem dX8_takeColumnOut_34 : decode cX8_takeColumnOut 34 = .ok (.iload_n 2, 1) := by decide +kernel
theorem dX8_takeColumnOut_35 : decode cX8_takeColumnOut 35 = .ok (.iadd, 1) := by decide +kernel
theorem dX8_takeColumnOut_36 : decode cX8_takeColumnOut 36 = .ok (.iconst 1, 1) := by decide +kernel
theorem dX8_takeColumnOut_37 : decode cX8_takeColumnOut 37 = .ok (.iadd, 1) := by decide +kernel
theorem dX8_takeColumnOut_38 : decode cX8_takeColumnOut 38 = .ok (.iaload, 1) := by decide +kernel
theorem dX8_takeColumnOut_39 : decode cX8_takeColumnOut 39 = .ok (.iastore, 1) := by decide +kernel
theorem dX8_takeColumnOut_40 : decode cX8_takeColumnOut 40 = .ok (.iconst 0, 1) := by decide +kernel
theorem dX8_takeColumnOut_41 : decode cX8_takeColumnOut 41 = .ok (.istore_n 3, 1) := by decide +kernel
theorem dX8_takeColumnOut_42 : decode cX8_takeColumnOut 42 = .ok (.iload_n 3, 1) := by decide +kernel
theorem dX8_takeColumnOut_43 : decode cX8_takeColumnOut 43 = .ok (.bipush 36, 2) := by decide +kernel
theorem dX8_takeColumnOut_45 : decode cX8_takeColumnOut 45 = .ok (.if_icmp .ge 23, 3) := by decide +kernel
theorem dX8_takeColumnOut_48 : decode cX8_takeColumnOut 48 = .ok (.aload_n 0, 1) := by decide +kernel
theorem dX8_takeColumnOut_49 : decode cX8_takeColumnOut 49 = .ok (.iload_n 3, 1) := by decide +kernel
theorem dX8_takeColumnOut_50 : decode cX8_takeColumnOut 50 = .ok (.iload_n 2, 1) := by decide +kernel
theorem dX8_takeColumnOut_51 : decode cX8_takeColumnOut 51 = .ok (.aload_n 0, 1) := by decide +kernel
theorem dX8_takeColumnOut_52 : decode cX8_takeColumnOut 52 = .ok (.iload_n 3, 1) := by decide +kernel
theorem dX8_takeColumnOut_53 : decode cX8_takeColumnOut 53 = .ok (.iload_n 2, 1) := by decide +kernel
theorem dX8_takeColumnOut_54 : decode cX8_takeColumnOut 54 = .ok (.iconst 1, 1) := by decide +kernel
theorem dX8_takeColumnOut_55 : decode cX8_takeColumnOut 55 = .ok (.iadd, 1) := by decide +kernel
theorem dX8_takeColumnOut_56 : decode cX8_takeColumnOut 56 = .ok (.invokevirtual 62, 3) := by decide +kernel
theorem dX8_takeColumnOut_59 : decode cX8_takeColumnOut 59 = .ok (.invokevirtual 58, 3) := by decide +kernel
theorem dX8_takeColumnOut_62 : decode cX8_takeColumnOut 62 = .ok (.iinc 3 1, 3) := by decide +kernel
theorem dX8_takeColumnOut_65 : decode cX8_takeColumnOut 65 = .ok (.goto (-23), 3) := by decide +kernel
theorem dX8_takeColumnOut_68 : decode cX8_takeColumnOut 68 = .ok (.iinc 2 1, 3) := by decide +kernel
theorem dX8_takeColumnOut_71 : decode cX8_takeColumnOut 71 = .ok (.goto (-59), 3) := by decide +kernel
theorem dX8_takeColumnOut_74 : decode cX8_takeColumnOut 74 = .ok (.return_, 1) := by decide +kernel
theorem dX8_dropColumn_0 : decode cX8_dropColumn 0 = .ok (.aload_n 0, 1) := by decide +kernel
theorem dX8_dropColumn_1 : decode cX8_dropColumn 1 = .ok (.iload_n 1, 1) := by decide +kernel
theorem dX8_dropColumn_2 : decode cX8_dropColumn 2 = .ok (.invokevirtual 66, 3) := by decide +kernel
theorem dX8_dropColumn_5 : decode cX8_dropColumn 5 = .ok (.ifCond .ne 5, 3) := by decide +kernel
theorem dX8_dropColumn_8 : decode cX8_dropColumn 8 = .ok (.iconst (-1), 1) := by decide +kernel
theorem dX8_dropColumn_9 : decode cX8_dropColumn 9 = .ok (.ireturn, 1) := by decide +kernel
theorem dX8_dropColumn_10 : decode cX8_dropColumn 10 = .ok (.aload_n 0, 1) := by decide +kernel
theorem dX8_dropColumn_11 : decode cX8_dropColumn 11 = .ok (.invokevirtual 51, 3) := by decide +kernel
theorem dX8_dropColumn_14 : decode cX8_dropColumn 14 = .ok (.aload_n 0, 1) := by decide +kernel
theorem dX8_dropColumn_15 : decode cX8_dropColumn 15 = .ok (.iload_n 1, 1) := by decide +kernel
theorem dX8_dropColumn_16 : decode cX8_dropColumn 16 = .ok (.invokevirtual 69, 3) := by decide +kernel
theorem dX8_dropColumn_19 : decode cX8_dropColumn 19 = .ok (.aload_n 0, 1) := by decide +kernel
theorem dX8_dropColumn_20 : decode cX8_dropColumn 20 = .ok (.getfield 7, 3) := by decide +kernel
theorem dX8_dropColumn_23 : decode cX8_dropColumn 23 = .ok (.iconst 1, 1) := by decide +kernel
theorem dX8_dropColumn_24 : decode cX8_dropColumn 24 = .ok (.iaload, 1) := by decide +kernel
theorem dX8_dropColumn_25 : decode cX8_dropColumn 25 = .ok (.ireturn, 1) := by decide +kernel
theorem dX8_put_0 : decode cX8_put 0 = .ok (.aload_n 0, 1) := by decide +kernel
theorem dX8_put_1 : decode cX8_put 1 = .ok (.iload_n 1, 1) := by decide +kernel
theorem dX8_put_2 : decode cX8_put 2 = .ok (.invokevirtual 73, 3) := by decide +kernel
theorem dX8_put_5 : decode cX8_put 5 = .ok (.ifCond .eq 29, 3) := by decide +kernel
theorem dX8_put_8 : decode cX8_put 8 = .ok (.aload_n 0, 1) := by decide +kernel
theorem dX8_put_9 : decode cX8_put 9 = .ok (.iload_n 2, 1) := by decide +kernel
theorem dX8_put_10 : decode cX8_put 10 = .ok (.invokevirtual 66, 3) := by decide +kernel
theorem dX8_put_13 : decode cX8_put 13 = .ok (.ifCond .eq 21, 3) := by decide +kernel
theorem dX8_put_16 : decode cX8_put 16 = .ok (.iload_n 3, 1) := by decide +kernel
theorem dX8_put_17 : decode cX8_put 17 = .ok (.iconst 0, 1) := by decide +kernel
theorem dX8_put_18 : decode cX8_put 18 = .ok (.aload_n 0, 1) := by decide +kernel
theorem dX8_put_19 : decode cX8_put 19 = .ok (.getfield 7, 3) := by decide +kernel
theorem dX8_put_22 : decode cX8_put 22 = .ok (.iconst 2, 1) := by decide +kernel
theorem dX8_put_23 : decode cX8_put 23 = .ok (.iload_n 2, 1) := by decide +kernel
theorem dX8_put_24 : decode cX8_put 24 = .ok (.iadd, 1) := by decide +kernel
theorem dX8_put_25 : decode cX8_put 25 = .ok (.iaload, 1) := by decide +kernel
theorem dX8_put_26 : decode cX8_put 26 = .ok (.iconst 1, 1) := by decide +kernel
theorem dX8_put_27 : decode cX8_put 27 = .ok (.isub, 1) := by decide +kernel
theorem dX8_put_28 : decode cX8_put 28 = .ok (.invokestatic 43, 3) := by decide +kernel
theorem dX8_put_31 : decode cX8_put 31 = .ok (.ifCond .ne 5, 3) := by decide +kernel
theorem dX8_put_34 : decode cX8_put 34 = .ok (.iconst (-1), 1) := by decide +kernel
theorem dX8_put_35 : decode cX8_put 35 = .ok (.ireturn, 1) := by decide +kernel
theorem dX8_put_36 : decode cX8_put 36 = .ok (.aload_n 0, 1) := by decide +kernel
theorem dX8_put_37 : decode cX8_put 37 = .ok (.invokevirtual 51, 3) := by decide +kernel
theorem dX8_put_40 : decode cX8_put 40 = .ok (.aload_n 0, 1) := by decide +kernel
theorem dX8_put_41 : decode cX8_put 41 = .ok (.iload_n 1, 1) := by decide +kernel
theorem dX8_put_42 : decode cX8_put 42 = .ok (.iload_n 2, 1) := by decide +kernel
theorem dX8_put_43 : decode cX8_put 43 = .ok (.invokevirtual 62, 3) := by decide +kernel
theorem dX8_put_46 : decode cX8_put 46 = .ok (.istore 4, 2) := by decide +kernel
theorem dX8_put_48 : decode cX8_put 48 = .ok (.aload_n 0, 1) := by decide +kernel
theorem dX8_put_49 : decode cX8_put 49 = .ok (.iload_n 1, 1) := by decide +kernel
theorem dX8_put_50 : decode cX8_put 50 = .ok (.iload_n 2, 1) := by decide +kernel
theorem dX8_put_51 : decode cX8_put 51 = .ok (.iload_n 3, 1) := by decide +kernel
theorem dX8_put_52 : decode cX8_put 52 = .ok (.invokevirtual 58, 3) := by decide +kernel
theorem dX8_put_55 : decode cX8_put 55 = .ok (.iload 4, 2) := by decide +kernel
theorem dX8_put_57 : decode cX8_put 57 = .ok (.ireturn, 1) := by decide +kernel
theorem dX8_copyRow_0 : decode cX8_copyRow 0 = .ok (.iconst 0, 1) := by decide +kernel
theorem dX8_copyRow_1 : decode cX8_copyRow 1 = .ok (.istore_n 3, 1) := by decide +kernel
theorem dX8_copyRow_2 : decode cX8_copyRow 2 = .ok (.iload_n 3, 1) := by decide +kernel
theorem dX8_copyRow_3 : decode cX8_copyRow 3 = .ok (.bipush 7, 2) := by decide +kernel
theorem dX8_copyRow_5 : decode cX8_copyRow 5 = .ok (.if_icmp .ge 21, 3) := by decide +kernel
theorem dX8_copyRow_8 : decode cX8_copyRow 8 = .ok (.aload_n 0, 1) := by decide +kernel
theorem dX8_copyRow_9 : decode cX8_copyRow 9 = .ok (.iload_n 2, 1) := by decide +kernel
theorem dX8_copyRow_10 : decode cX8_copyRow 10 = .ok (.iload_n 3, 1) := by decide +kernel
theorem dX8_copyRow_11 : decode cX8_copyRow 11 = .ok (.aload_n 0, 1) := by decide +kernel
theorem dX8_copyRow_12 : decode cX8_copyRow 12 = .ok (.iload_n 1, 1) := by decide +kernel
theorem dX8_copyRow_13 : decode cX8_copyRow 13 = .ok (.iload_n 3, 1) := by decide +kernel
theorem dX8_copyRow_14 : decode cX8_copyRow 14 = .ok (.invokevirtual 62, 3) := by decide +kernel
theorem dX8_copyRow_17 : decode cX8_copyRow 17 = .ok (.invokevirtual 58, 3) := by decide +kernel
theorem dX8_copyRow_20 : decode cX8_copyRow 20 = .ok (.iinc 3 1, 3) := by decide +kernel
theorem dX8_copyRow_23 : decode cX8_copyRow 23 = .ok (.goto (-21), 3) := by decide +kernel
theorem dX8_copyRow_26 : decode cX8_copyRow 26 = .ok (.return_, 1) := by decide +kernel
theorem dX8_takeRowOut_0 : decode cX8_takeRowOut 0 = .ok (.aload_n 0, 1) := by decide +kernel
theorem dX8_takeRowOut_1 : decode cX8_takeRowOut 1 = .ok (.getfield 7, 3) := by decide +kernel
theorem dX8_takeRowOut_4 : decode cX8_takeRowOut 4 = .ok (.iconst 0, 1) := by decide +kernel
theorem dX8_takeRowOut_5 : decode cX8_takeRowOut 5 = .ok (.dup2, 1) := by decide +kernel
theorem dX8_takeRowOut_6 : decode cX8_takeRowOut 6 = .ok (.iaload, 1) := by decide +kernel
theorem dX8_takeRowOut_7 : decode cX8_takeRowOut 7 = .ok (.iconst 1, 1) := by decide +kernel
theorem dX8_takeRowOut_8 : decode cX8_takeRowOut 8 = .ok (.isub, 1) := by decide +kernel
theorem dX8_takeRowOut_9 : decode cX8_takeRowOut 9 = .ok (.iastore, 1) := by decide +kernel
theorem dX8_takeRowOut_10 : decode cX8_takeRowOut 10 = .ok (.iload_n 1, 1) := by decide +kernel
theorem dX8_takeRowOut_11 : decode cX8_takeRowOut 11 = .ok (.istore_n 2, 1) := by decide +kernel
theorem dX8_takeRowOut_12 : decode cX8_takeRowOut 12 = .ok (.iload_n 2, 1) := by decide +kernel
theorem dX8_takeRowOut_13 : decode cX8_takeRowOut 13 = .ok (.aload_n 0, 1) := by decide +kernel
theorem dX8_takeRowOut_14 : decode cX8_takeRowOut 14 = .ok (.getfield 7, 3) := by decide +kernel
theorem dX8_takeRowOut_17 : decode cX8_takeRowOut 17 = .ok (.iconst 0, 1) := by decide +kernel
theorem dX8_takeRowOut_18 : decode cX8_takeRowOut 18 = .ok (.iaload, 1) := by decide +kernel
theorem dX8_takeRowOut_19 : decode cX8_takeRowOut 19 = .ok (.if_icmp .ge 17, 3) := by decide +kernel
theorem dX8_takeRowOut_22 : decode cX8_takeRowOut 22 = .ok (.aload_n 0, 1) := by decide +kernel
theorem dX8_takeRowOut_23 : decode cX8_takeRowOut 23 = .ok (.iload_n 2, 1) := by decide +kernel
theorem dX8_takeRowOut_24 : decode cX8_takeRowOut 24 = .ok (.iconst 1, 1) := by decide +kernel
theorem dX8_takeRowOut_25 : decode cX8_takeRowOut 25 = .ok (.iadd, 1) := by decide +kernel
theorem dX8_takeRowOut_26 : decode cX8_takeRowOut 26 = .ok (.iload_n 2, 1) := by decide +kernel
theorem dX8_takeRowOut_27 : decode cX8_takeRowOut 27 = .ok (.invokevirtual 76, 3) := by decide +kernel
theorem dX8_takeRowOut_30 : decode cX8_takeRowOut 30 = .ok (.iinc 2 1, 3) := by decide +kernel
theorem dX8_takeRowOut_33 : decode cX8_takeRowOut 33 = .ok (.goto (-21), 3) := by decide +kernel
theorem dX8_takeRowOut_36 : decode cX8_takeRowOut 36 = .ok (.return_, 1) := by decide +kernel
theorem dX8_dropRow_0 : decode cX8_dropRow 0 = .ok (.aload_n 0, 1) := by decide +kernel
theorem dX8_dropRow_1 : decode cX8_dropRow 1 = .ok (.iload_n 1, 1) := by decide +kernel
theorem dX8_dropRow_2 : decode cX8_dropRow 2 = .ok (.invokevirtual 73, 3) := by decide +kernel
theorem dX8_dropRow_5 : decode cX8_dropRow 5 = .ok (.ifCond .ne 5, 3) := by decide +kernel
theorem dX8_dropRow_8 : decode cX8_dropRow 8 = .ok (.iconst (-1), 1) := by decide +kernel
theorem dX8_dropRow_9 : decode cX8_dropRow 9 = .ok (.ireturn, 1) := by decide +kernel
theorem dX8_dropRow_10 : decode cX8_dropRow 10 = .ok (.aload_n 0, 1) := by decide +kernel
theorem dX8_dropRow_11 : decode cX8_dropRow 11 = .ok (.invokevirtual 51, 3) := by decide +kernel
theorem dX8_dropRow_14 : decode cX8_dropRow 14 = .ok (.aload_n 0, 1) := by decide +kernel
theorem dX8_dropRow_15 : decode cX8_dropRow 15 = .ok (.iload_n 1, 1) := by decide +kernel
theorem dX8_dropRow_16 : decode cX8_dropRow 16 = .ok (.invokevirtual 80, 3) := by decide +kernel
theorem dX8_dropRow_19 : decode cX8_dropRow 19 = .ok (.aload_n 0, 1) := by decide +kernel
theorem dX8_dropRow_20 : decode cX8_dropRow 20 = .ok (.getfield 7, 3) := by decide +kernel
theorem dX8_dropRow_23 : decode cX8_dropRow 23 = .ok (.iconst 0, 1) := by decide +kernel
theorem dX8_dropRow_24 : decode cX8_dropRow 24 = .ok (.iaload, 1) := by decide +kernel
theorem dX8_dropRow_25 : decode cX8_dropRow 25 = .ok (.ireturn, 1) := by decide +kernel
theorem dX8_order_0 : decode cX8_order 0 = .ok (.iconst 0, 1) := by decide +kernel
theorem dX8_order_1 : decode cX8_order 1 = .ok (.istore_n 3, 1) := by decide +kernel
theorem dX8_order_2 : decode cX8_order 2 = .ok (.iload_n 3, 1) := by decide +kernel
theorem dX8_order_3 : decode cX8_order 3 = .ok (.aload_n 0, 1) := by decide +kernel
theorem dX8_order_4 : decode cX8_order 4 = .ok (.getfield 7, 3) := by decide +kernel
theorem dX8_order_7 : decode cX8_order 7 = .ok (.iconst 1, 1) := by decide +kernel
theorem dX8_order_8 : decode cX8_order 8 = .ok (.iaload, 1) := by decide +kernel
theorem dX8_order_9 : decode cX8_order 9 = .ok (.if_icmp .ge 38, 3) := by decide +kernel
theorem dX8_order_12 : decode cX8_order 12 = .ok (.aload_n 0, 1) := by decide +kernel
theorem dX8_order_13 : decode cX8_order 13 = .ok (.iload_n 1, 1) := by decide +kernel
theorem dX8_order_14 : decode cX8_order 14 = .ok (.iload_n 3, 1) := by decide +kernel
theorem dX8_order_15 : decode cX8_order 15 = .ok (.invokevirtual 62, 3) := by decide +kernel
theorem dX8_order_18 : decode cX8_order 18 = .ok (.aload_n 0, 1) := by decide +kernel
theorem dX8_order_19 : decode cX8_order 19 = .ok (.iload_n 2, 1) := by decide +kernel
theorem dX8_order_20 : decode cX8_order 20 = .ok (.iload_n 3, 1) := by decide +kernel
theorem dX8_order_21 : decode cX8_order 21 = .ok (.invokevirtual 62, 3) := by decide +kernel
theorem dX8_order_24 : decode cX8_order 24 = .ok (.if_icmp .eq 17, 3) := by decide +kernel
theorem dX8_order_27 : decode cX8_order 27 = .ok (.aload_n 0, 1) := by decide +kernel
theorem dX8_order_28 : decode cX8_order 28 = .ok (.iload_n 1, 1) := by decide +kernel
theorem dX8_order_29 : decode cX8_order 29 = .ok (.iload_n 3, 1) := by decide +kernel
theorem dX8_order_30 : decode cX8_order 30 = .ok (.invokevirtual 62, 3) := by decide +kernel
theorem dX8_order_33 : decode cX8_order 33 = .ok (.aload_n 0, 1) := by decide +kernel
theorem dX8_order_34 : decode cX8_order 34 = .ok (.iload_n 2, 1) := by decide +kernel
theorem dX8_order_35 : decode cX8_order 35 = .ok (.iload_n 3, 1) := by decide +kernel
theorem dX8_order_36 : decode cX8_order 36 = .ok (.invokevirtual 62, 3) := by decide +kernel
theorem dX8_order_39 : decode cX8_order 39 = .ok (.isub, 1) := by decide +kernel
theorem dX8_order_40 : decode cX8_order 40 = .ok (.ireturn, 1) := by decide +kernel
theorem dX8_order_41 : decode cX8_order 41 = .ok (.iinc 3 1, 3) := by decide +kernel
theorem dX8_order_44 : decode cX8_order 44 = .ok (.goto (-42), 3) := by decide +kernel
theorem dX8_order_47 : decode cX8_order 47 = .ok (.iconst 0, 1) := by decide +kernel
theorem dX8_order_48 : decode cX8_order 48 = .ok (.ireturn, 1) := by decide +kernel
theorem dX8_isCopy_0 : decode cX8_isCopy 0 = .ok (.iconst 0, 1) := by decide +kernel
theorem dX8_isCopy_1 : decode cX8_isCopy 1 = .ok (.istore_n 2, 1) := by decide +kernel
theorem dX8_isCopy_2 : decode cX8_isCopy 2 = .ok (.iload_n 2, 1) := by decide +kernel
theorem dX8_isCopy_3 : decode cX8_isCopy 3 = .ok (.iload_n 1, 1) := by decide +kernel
theorem dX8_isCopy_4 : decode cX8_isCopy 4 = .ok (.if_icmp .ge 20, 3) := by decide +kernel
theorem dX8_isCopy_7 : decode cX8_isCopy 7 = .ok (.aload_n 0, 1) := by decide +kernel
theorem dX8_isCopy_8 : decode cX8_isCopy 8 = .ok (.iload_n 2, 1) := by decide +kernel
theorem dX8_isCopy_9 : decode cX8_isCopy 9 = .ok (.iload_n 1, 1) := by decide +kernel
theorem dX8_isCopy_10 : decode cX8_isCopy 10 = .ok (.invokevirtual 83, 3) := by decide +kernel
theorem dX8_isCopy_13 : decode cX8_isCopy 13 = .ok (.ifCond .ne 5, 3) := by decide +kernel
theorem dX8_isCopy_16 : decode cX8_isCopy 16 = .ok (.iconst 1, 1) := by decide +kernel
theorem dX8_isCopy_17 : decode cX8_isCopy 17 = .ok (.ireturn, 1) := by decide +kernel
theorem dX8_isCopy_18 : decode cX8_isCopy 18 = .ok (.iinc 2 1, 3) := by decide +kernel
theorem dX8_isCopy_21 : decode cX8_isCopy 21 = .ok (.goto (-19), 3) := by decide +kernel
theorem dX8_isCopy_24 : decode cX8_isCopy 24 = .ok (.iconst 0, 1) := by decide +kernel
theorem dX8_isCopy_25 : decode cX8_isCopy 25 = .ok (.ireturn, 1) := by decide +kernel
theorem dX8_copies_0 : decode cX8_copies 0 = .ok (.iconst 0, 1) := by decide +kernel
theorem dX8_copies_1 : decode cX8_copies 1 = .ok (.istore_n 1, 1) := by decide +kernel
theorem dX8_copies_2 : decode cX8_copies 2 = .ok (.iconst 0, 1) := by decide +kernel
theorem dX8_copies_3 : decode cX8_copies 3 = .ok (.istore_n 2, 1) := by decide +kernel
theorem dX8_copies_4 : decode cX8_copies 4 = .ok (.iload_n 2, 1) := by decide +kernel
theorem dX8_copies_5 : decode cX8_copies 5 = .ok (.aload_n 0, 1) := by decide +kernel
theorem dX8_copies_6 : decode cX8_copies 6 = .ok (.getfield 7, 3) := by decide +kernel
theorem dX8_copies_9 : decode cX8_copies 9 = .ok (.iconst 0, 1) := by decide +kernel
theorem dX8_copies_10 : decode cX8_copies 10 = .ok (.iaload, 1) := by decide +kernel
theorem dX8_copies_11 : decode cX8_copies 11 = .ok (.if_icmp .ge 25, 3) := by decide +kernel
theorem dX8_copies_14 : decode cX8_copies 14 = .ok (.iload_n 1, 1) := by decide +kernel
theorem dX8_copies_15 : decode cX8_copies 15 = .ok (.aload_n 0, 1) := by decide +kernel
theorem dX8_copies_16 : decode cX8_copies 16 = .ok (.iload_n 2, 1) := by decide +kernel
theorem dX8_copies_17 : decode cX8_copies 17 = .ok (.invokevirtual 86, 3) := by decide +kernel
theorem dX8_copies_20 : decode cX8_copies 20 = .ok (.ifCond .eq 7, 3) := by decide +kernel
theorem dX8_copies_23 : decode cX8_copies 23 = .ok (.iconst 1, 1) := by decide +kernel
theorem dX8_copies_24 : decode cX8_copies 24 = .ok (.goto 4, 3) := by decide +kernel
theorem dX8_copies_27 : decode cX8_copies 27 = .ok (.iconst 0, 1) := by decide +kernel
theorem dX8_copies_28 : decode cX8_copies 28 = .ok (.iadd, 1) := by decide +kernel
theorem dX8_copies_29 : decode cX8_copies 29 = .ok (.istore_n 1, 1) := by decide +kernel
theorem dX8_copies_30 : decode cX8_copies 30 = .ok (.iinc 2 1, 3) := by decide +kernel
theorem dX8_copies_33 : decode cX8_copies 33 = .ok (.goto (-29), 3) := by decide +kernel
theorem dX8_copies_36 : decode cX8_copies 36 = .ok (.iload_n 1, 1) := by decide +kernel
theorem dX8_copies_37 : decode cX8_copies 37 = .ok (.ireturn, 1) := by decide +kernel
theorem dX8_dropCopies_0 : decode cX8_dropCopies 0 = .ok (.aload_n 0, 1) := by decide +kernel
theorem dX8_dropCopies_1 : decode cX8_dropCopies 1 = .ok (.invokevirtual 51, 3) := by decide +kernel
theorem dX8_dropCopies_4 : decode cX8_dropCopies 4 = .ok (.iconst 0, 1) := by decide +kernel
theorem dX8_dropCopies_5 : decode cX8_dropCopies 5 = .ok (.istore_n 1, 1) := by decide +kernel
theorem dX8_dropCopies_6 : decode cX8_dropCopies 6 = .ok (.aload_n 0, 1) := by decide +kernel
theorem dX8_dropCopies_7 : decode cX8_dropCopies 7 = .ok (.getfield 7, 3) := by decide +kernel
theorem dX8_dropCopies_10 : decode cX8_dropCopies 10 = .ok (.iconst 0, 1) := by decide +kernel
theorem dX8_dropCopies_11 : decode cX8_dropCopies 11 = .ok (.iaload, 1) := by decide +kernel
theorem dX8_dropCopies_12 : decode cX8_dropCopies 12 = .ok (.iconst 1, 1) := by decide +kernel
theorem dX8_dropCopies_13 : decode cX8_dropCopies 13 = .ok (.isub, 1) := by decide +kernel
theorem dX8_dropCopies_14 : decode cX8_dropCopies 14 = .ok (.istore_n 2, 1) := by decide +kernel
theorem dX8_dropCopies_15 : decode cX8_dropCopies 15 = .ok (.iload_n 2, 1) := by decide +kernel
theorem dX8_dropCopies_16 : decode cX8_dropCopies 16 = .ok (.ifCond .lt 25, 3) := by decide +kernel
theorem dX8_dropCopies_19 : decode cX8_dropCopies 19 = .ok (.aload_n 0, 1) := by decide +kernel
theorem dX8_dropCopies_20 : decode cX8_dropCopies 20 = .ok (.iload_n 2, 1) := by decide +kernel
theorem dX8_dropCopies_21 : decode cX8_dropCopies 21 = .ok (.invokevirtual 86, 3) := by decide +kernel
theorem dX8_dropCopies_24 : decode cX8_dropCopies 24 = .ok (.ifCond .eq 11, 3) := by decide +kernel
theorem dX8_dropCopies_27 : decode cX8_dropCopies 27 = .ok (.aload_n 0, 1) := by decide +kernel
theorem dX8_dropCopies_28 : decode cX8_dropCopies 28 = .ok (.iload_n 2, 1) := by decide +kernel
theorem dX8_dropCopies_29 : decode cX8_dropCopies 29 = .ok (.invokevirtual 80, 3) := by decide +kernel
theorem dX8_dropCopies_32 : decode cX8_dropCopies 32 = .ok (.iinc 1 1, 3) := by decide +kernel
theorem dX8_dropCopies_35 : decode cX8_dropCopies 35 = .ok (.iinc 2 (-1), 3) := by decide +kernel
theorem dX8_dropCopies_38 : decode cX8_dropCopies 38 = .ok (.goto (-23), 3) := by decide +kernel
theorem dX8_dropCopies_41 : decode cX8_dropCopies 41 = .ok (.iload_n 1, 1) := by decide +kernel
theorem dX8_dropCopies_42 : decode cX8_dropCopies 42 = .ok (.ireturn, 1) := by decide +kernel
theorem dX8_exchange_0 : decode cX8_exchange 0 = .ok (.iconst 0, 1) := by decide +kernel
theorem dX8_exchange_1 : decode cX8_exchange 1 = .ok (.istore_n 3, 1) := by decide +kernel
theorem dX8_exchange_2 : decode cX8_exchange 2 = .ok (.iload_n 3, 1) := by decide +kernel
theorem dX8_exchange_3 : decode cX8_exchange 3 = .ok (.aload_n 0, 1) := by decide +kernel
theorem dX8_exchange_4 : decode cX8_exchange 4 = .ok (.getfield 7, 3) := by decide +kernel
theorem dX8_exchange_7 : decode cX8_exchange 7 = .ok (.iconst 1, 1) := by decide +kernel
theorem dX8_exchange_8 : decode cX8_exchange 8 = .ok (.iaload, 1) := by decide +kernel
theorem dX8_exchange_9 : decode cX8_exchange 9 = .ok (.if_icmp .ge 37, 3) := by decide +kernel
theorem dX8_exchange_12 : decode cX8_exchange 12 = .ok (.aload_n 0, 1) := by decide +kernel
theorem dX8_exchange_13 : decode cX8_exchange 13 = .ok (.iload_n 1, 1) := by decide +kernel
theorem dX8_exchange_14 : decode cX8_exchange 14 = .ok (.iload_n 3, 1) := by decide +kernel
theorem dX8_exchange_15 : decode cX8_exchange 15 = .ok (.invokevirtual 62, 3) := by decide +kernel
theorem dX8_exchange_18 : decode cX8_exchange 18 = .ok (.istore 4, 2) := by decide +kernel
theorem dX8_exchange_20 : decode cX8_exchange 20 = .ok (.aload_n 0, 1) := by decide +kernel
theorem dX8_exchange_21 : decode cX8_exchange 21 = .ok (.iload_n 1, 1) := by decide +kernel
theorem dX8_exchange_22 : decode cX8_exchange 22 = .ok (.iload_n 3, 1) := by decide +kernel
theorem dX8_exchange_23 : decode cX8_exchange 23 = .ok (.aload_n 0, 1) := by decide +kernel
theorem dX8_exchange_24 : decode cX8_exchange 24 = .ok (.iload_n 2, 1) := by decide +kernel
theorem dX8_exchange_25 : decode cX8_exchange 25 = .ok (.iload_n 3, 1) := by decide +kernel
theorem dX8_exchange_26 : decode cX8_exchange 26 = .ok (.invokevirtual 62, 3) := by decide +kernel
theorem dX8_exchange_29 : decode cX8_exchange 29 = .ok (.invokevirtual 58, 3) := by decide +kernel
theorem dX8_exchange_32 : decode cX8_exchange 32 = .ok (.aload_n 0, 1) := by decide +kernel
theorem dX8_exchange_33 : decode cX8_exchange 33 = .ok (.iload_n 2, 1) := by decide +kernel
theorem dX8_exchange_34 : decode cX8_exchange 34 = .ok (.iload_n 3, 1) := by decide +kernel
theorem dX8_exchange_35 : decode cX8_exchange 35 = .ok (.iload 4, 2) := by decide +kernel
theorem dX8_exchange_37 : decode cX8_exchange 37 = .ok (.invokevirtual 58, 3) := by decide +kernel
theorem dX8_exchange_40 : decode cX8_exchange 40 = .ok (.iinc 3 1, 3) := by decide +kernel
theorem dX8_exchange_43 : decode cX8_exchange 43 = .ok (.goto (-41), 3) := by decide +kernel
theorem dX8_exchange_46 : decode cX8_exchange 46 = .ok (.return_, 1) := by decide +kernel
theorem dX8_sort_0 : decode cX8_sort 0 = .ok (.aload_n 0, 1) := by decide +kernel
theorem dX8_sort_1 : decode cX8_sort 1 = .ok (.invokevirtual 51, 3) := by decide +kernel
theorem dX8_sort_4 : decode cX8_sort 4 = .ok (.iconst 0, 1) := by decide +kernel
theorem dX8_sort_5 : decode cX8_sort 5 = .ok (.istore_n 1, 1) := by decide +kernel
theorem dX8_sort_6 : decode cX8_sort 6 = .ok (.iconst 1, 1) := by decide +kernel
theorem dX8_sort_7 : decode cX8_sort 7 = .ok (.istore_n 2, 1) := by decide +kernel
theorem dX8_sort_8 : decode cX8_sort 8 = .ok (.iload_n 2, 1) := by decide +kernel
theorem dX8_sort_9 : decode cX8_sort 9 = .ok (.aload_n 0, 1) := by decide +kernel
theorem dX8_sort_10 : decode cX8_sort 10 = .ok (.getfield 7, 3) := by decide +kernel
theorem dX8_sort_13 : decode cX8_sort 13 = .ok (.iconst 0, 1) := by decide +kernel
theorem dX8_sort_14 : decode cX8_sort 14 = .ok (.iaload, 1) := by decide +kernel
theorem dX8_sort_15 : decode cX8_sort 15 = .ok (.if_icmp .ge 43, 3) := by decide +kernel
theorem dX8_sort_18 : decode cX8_sort 18 = .ok (.iload_n 2, 1) := by decide +kernel
theorem dX8_sort_19 : decode cX8_sort 19 = .ok (.istore_n 3, 1) := by decide +kernel
theorem dX8_sort_20 : decode cX8_sort 20 = .ok (.iload_n 3, 1) := by decide +kernel
theorem dX8_sort_21 : decode cX8_sort 21 = .ok (.ifCond .le 31, 3) := by decide +kernel
theorem dX8_sort_24 : decode cX8_sort 24 = .ok (.aload_n 0, 1) := by decide +kernel
theorem dX8_sort_25 : decode cX8_sort 25 = .ok (.iload_n 3, 1) := by decide +kernel
theorem dX8_sort_26 : decode cX8_sort 26 = .ok (.iconst 1, 1) := by decide +kernel
theorem dX8_sort_27 : decode cX8_sort 27 = .ok (.isub, 1) := by decide +kernel
theorem dX8_sort_28 : decode cX8_sort 28 = .ok (.iload_n 3, 1) := by decide +kernel
theorem dX8_sort_29 : decode cX8_sort 29 = .ok (.invokevirtual 83, 3) := by decide +kernel
theorem dX8_sort_32 : decode cX8_sort 32 = .ok (.ifCond .le 20, 3) := by decide +kernel
theorem dX8_sort_35 : decode cX8_sort 35 = .ok (.aload_n 0, 1) := by decide +kernel
theorem dX8_sort_36 : decode cX8_sort 36 = .ok (.iload_n 3, 1) := by decide +kernel
theorem dX8_sort_37 : decode cX8_sort 37 = .ok (.iconst 1, 1) := by decide +kernel
theorem dX8_sort_38 : decode cX8_sort 38 = .ok (.isub, 1) := by decide +kernel
theorem dX8_sort_39 : decode cX8_sort 39 = .ok (.iload_n 3, 1) := by decide +kernel
theorem dX8_sort_40 : decode cX8_sort 40 = .ok (.invokevirtual 89, 3) := by decide +kernel
theorem dX8_sort_43 : decode cX8_sort 43 = .ok (.iinc 1 1, 3) := by decide +kernel
theorem dX8_sort_46 : decode cX8_sort 46 = .ok (.iinc 3 (-1), 3) := by decide +kernel
theorem dX8_sort_49 : decode cX8_sort 49 = .ok (.goto (-29), 3) := by decide +kernel
theorem dX8_sort_52 : decode cX8_sort 52 = .ok (.iinc 2 1, 3) := by decide +kernel
theorem dX8_sort_55 : decode cX8_sort 55 = .ok (.goto (-47), 3) := by decide +kernel
theorem dX8_sort_58 : decode cX8_sort 58 = .ok (.iload_n 1, 1) := by decide +kernel
theorem dX8_sort_59 : decode cX8_sort 59 = .ok (.ireturn, 1) := by decide +kernel
theorem dX8_factorial_0 : decode cX8_factorial 0 = .ok (.iconst 0, 1) := by decide +kernel
theorem dX8_factorial_1 : decode cX8_factorial 1 = .ok (.istore_n 2, 1) := by decide +kernel
theorem dX8_factorial_2 : decode cX8_factorial 2 = .ok (.iconst 1, 1) := by decide +kernel
theorem dX8_factorial_3 : decode cX8_factorial 3 = .ok (.istore_n 3, 1) := by decide +kernel
theorem dX8_factorial_4 : decode cX8_factorial 4 = .ok (.iload_n 1, 1) := by decide +kernel
theorem dX8_factorial_5 : decode cX8_factorial 5 = .ok (.istore 4, 2) := by decide +kernel
theorem dX8_factorial_7 : decode cX8_factorial 7 = .ok (.iload 4, 2) := by decide +kernel
theorem dX8_factorial_9 : decode cX8_factorial 9 = .ok (.ifCond .le 47, 3) := by decide +kernel
theorem dX8_factorial_12 : decode cX8_factorial 12 = .ok (.iload 4, 2) := by decide +kernel
theorem dX8_factorial_14 : decode cX8_factorial 14 = .ok (.bipush 10, 2) := by decide +kernel
theorem dX8_factorial_16 : decode cX8_factorial 16 = .ok (.irem, 1) := by decide +kernel
theorem dX8_factorial_17 : decode cX8_factorial 17 = .ok (.invokestatic 54, 3) := by decide +kernel
theorem dX8_factorial_20 : decode cX8_factorial 20 = .ok (.ifCond .ne 5, 3) := by decide +kernel
theorem dX8_factorial_23 : decode cX8_factorial 23 = .ok (.iconst (-1), 1) := by decide +kernel
theorem dX8_factorial_24 : decode cX8_factorial 24 = .ok (.ireturn, 1) := by decide +kernel
theorem dX8_factorial_25 : decode cX8_factorial 25 = .ok (.iinc 2 1, 3) := by decide +kernel
theorem dX8_factorial_28 : decode cX8_factorial 28 = .ok (.iload_n 3, 1) := by decide +kernel
theorem dX8_factorial_29 : decode cX8_factorial 29 = .ok (.bipush 36, 2) := by decide +kernel
theorem dX8_factorial_31 : decode cX8_factorial 31 = .ok (.if_icmp .le 7, 3) := by decide +kernel
theorem dX8_factorial_34 : decode cX8_factorial 34 = .ok (.iload_n 3, 1) := by decide +kernel
theorem dX8_factorial_35 : decode cX8_factorial 35 = .ok (.goto 10, 3) := by decide +kernel
theorem dX8_factorial_38 : decode cX8_factorial 38 = .ok (.iload_n 3, 1) := by decide +kernel
theorem dX8_factorial_39 : decode cX8_factorial 39 = .ok (.iload 4, 2) := by decide +kernel
theorem dX8_factorial_41 : decode cX8_factorial 41 = .ok (.bipush 10, 2) := by decide +kernel
theorem dX8_factorial_43 : decode cX8_factorial 43 = .ok (.irem, 1) := by decide +kernel
theorem dX8_factorial_44 : decode cX8_factorial 44 = .ok (.imul, 1) := by decide +kernel
theorem dX8_factorial_45 : decode cX8_factorial 45 = .ok (.istore_n 3, 1) := by decide +kernel
theorem dX8_factorial_46 : decode cX8_factorial 46 = .ok (.iload 4, 2) := by decide +kernel
theorem dX8_factorial_48 : decode cX8_factorial 48 = .ok (.bipush 10, 2) := by decide +kernel
theorem dX8_factorial_50 : decode cX8_factorial 50 = .ok (.idiv, 1) := by decide +kernel
theorem dX8_factorial_51 : decode cX8_factorial 51 = .ok (.istore 4, 2) := by decide +kernel
theorem dX8_factorial_53 : decode cX8_factorial 53 = .ok (.goto (-46), 3) := by decide +kernel
theorem dX8_factorial_56 : decode cX8_factorial 56 = .ok (.iload_n 2, 1) := by decide +kernel
theorem dX8_factorial_57 : decode cX8_factorial 57 = .ok (.ifCond .eq 9, 3) := by decide +kernel
theorem dX8_factorial_60 : decode cX8_factorial 60 = .ok (.iload_n 2, 1) := by decide +kernel
theorem dX8_factorial_61 : decode cX8_factorial 61 = .ok (.bipush 7, 2) := by decide +kernel
theorem dX8_factorial_63 : decode cX8_factorial 63 = .ok (.if_icmp .le 5, 3) := by decide +kernel
theorem dX8_factorial_66 : decode cX8_factorial 66 = .ok (.iconst (-1), 1) := by decide +kernel
theorem dX8_factorial_67 : decode cX8_factorial 67 = .ok (.ireturn, 1) := by decide +kernel
theorem dX8_factorial_68 : decode cX8_factorial 68 = .ok (.iload_n 3, 1) := by decide +kernel
theorem dX8_factorial_69 : decode cX8_factorial 69 = .ok (.bipush 36, 2) := by decide +kernel
theorem dX8_factorial_71 : decode cX8_factorial 71 = .ok (.if_icmp .le 6, 3) := by decide +kernel
theorem dX8_factorial_74 : decode cX8_factorial 74 = .ok (.bipush (-3), 2) := by decide +kernel
theorem dX8_factorial_76 : decode cX8_factorial 76 = .ok (.ireturn, 1) := by decide +kernel
theorem dX8_factorial_77 : decode cX8_factorial 77 = .ok (.aload_n 0, 1) := by decide +kernel
theorem dX8_factorial_78 : decode cX8_factorial 78 = .ok (.invokevirtual 51, 3) := by decide +kernel
theorem dX8_factorial_81 : decode cX8_factorial 81 = .ok (.aload_n 0, 1) := by decide +kernel
theorem dX8_factorial_82 : decode cX8_factorial 82 = .ok (.getfield 7, 3) := by decide +kernel
theorem dX8_factorial_85 : decode cX8_factorial 85 = .ok (.iconst 0, 1) := by decide +kernel
theorem dX8_factorial_86 : decode cX8_factorial 86 = .ok (.iload_n 3, 1) := by decide +kernel
theorem dX8_factorial_87 : decode cX8_factorial 87 = .ok (.iastore, 1) := by decide +kernel
theorem dX8_factorial_88 : decode cX8_factorial 88 = .ok (.aload_n 0, 1) := by decide +kernel
theorem dX8_factorial_89 : decode cX8_factorial 89 = .ok (.getfield 7, 3) := by decide +kernel
theorem dX8_factorial_92 : decode cX8_factorial 92 = .ok (.iconst 1, 1) := by decide +kernel
theorem dX8_factorial_93 : decode cX8_factorial 93 = .ok (.iload_n 2, 1) := by decide +kernel
theorem dX8_factorial_94 : decode cX8_factorial 94 = .ok (.iastore, 1) := by decide +kernel
theorem dX8_factorial_95 : decode cX8_factorial 95 = .ok (.iload_n 1, 1) := by decide +kernel
theorem dX8_factorial_96 : decode cX8_factorial 96 = .ok (.istore 4, 2) := by decide +kernel
theorem dX8_factorial_98 : decode cX8_factorial 98 = .ok (.iconst 1, 1) := by decide +kernel
theorem dX8_factorial_99 : decode cX8_factorial 99 = .ok (.istore 5, 2) := by decide +kernel
theorem dX8_factorial_101 : decode cX8_factorial 101 = .ok (.iload_n 2, 1) := by decide +kernel
theorem dX8_factorial_102 : decode cX8_factorial 102 = .ok (.iconst 1, 1) := by decide +kernel
theorem dX8_factorial_103 : decode cX8_factorial 103 = .ok (.isub, 1) := by decide +kernel
theorem dX8_factorial_104 : decode cX8_factorial 104 = .ok (.istore 6, 2) := by decide +kernel
theorem dX8_factorial_106 : decode cX8_factorial 106 = .ok (.iload 6, 2) := by decide +kernel
theorem dX8_factorial_108 : decode cX8_factorial 108 = .ok (.ifCond .lt 74, 3) := by decide +kernel
theorem dX8_factorial_111 : decode cX8_factorial 111 = .ok (.aload_n 0, 1) := by decide +kernel
theorem dX8_factorial_112 : decode cX8_factorial 112 = .ok (.getfield 7, 3) := by decide +kernel
theorem dX8_factorial_115 : decode cX8_factorial 115 = .ok (.iconst 2, 1) := by decide +kernel
theorem dX8_factorial_116 : decode cX8_factorial 116 = .ok (.iload 6, 2) := by decide +kernel
theorem dX8_factorial_118 : decode cX8_factorial 118 = .ok (.iadd, 1) := by decide +kernel
theorem dX8_factorial_119 : decode cX8_factorial 119 = .ok (.iload 4, 2) := by decide +kernel
theorem dX8_factorial_121 : decode cX8_factorial 121 = .ok (.bipush 10, 2) := by decide +kernel
theorem dX8_factorial_123 : decode cX8_factorial 123 = .ok (.irem, 1) := by decide +kernel
theorem dX8_factorial_124 : decode cX8_factorial 124 = .ok (.iastore, 1) := by decide +kernel
theorem dX8_factorial_125 : decode cX8_factorial 125 = .ok (.iconst 0, 1) := by decide +kernel
theorem dX8_factorial_126 : decode cX8_factorial 126 = .ok (.istore 7, 2) := by decide +kernel
theorem dX8_factorial_128 : decode cX8_factorial 128 = .ok (.iload 7, 2) := by decide +kernel
theorem dX8_factorial_130 : decode cX8_factorial 130 = .ok (.iload_n 3, 1) := by decide +kernel
theorem dX8_factorial_131 : decode cX8_factorial 131 = .ok (.if_icmp .ge 28, 3) := by decide +kernel
theorem dX8_factorial_134 : decode cX8_factorial 134 = .ok (.aload_n 0, 1) := by decide +kernel
theorem dX8_factorial_135 : decode cX8_factorial 135 = .ok (.iload 7, 2) := by decide +kernel
theorem dX8_factorial_137 : decode cX8_factorial 137 = .ok (.iload 6, 2) := by decide +kernel
theorem dX8_factorial_139 : decode cX8_factorial 139 = .ok (.iload 7, 2) := by decide +kernel
theorem dX8_factorial_141 : decode cX8_factorial 141 = .ok (.iload 5, 2) := by decide +kernel
theorem dX8_factorial_143 : decode cX8_factorial 143 = .ok (.idiv, 1) := by decide +kernel
theorem dX8_factorial_144 : decode cX8_factorial 144 = .ok (.iload 4, 2) := by decide +kernel
theorem dX8_factorial_146 : decode cX8_factorial 146 = .ok (.bipush 10, 2) := by decide +kernel
theorem dX8_factorial_148 : decode cX8_factorial 148 = .ok (.irem, 1) := by decide +kernel
theorem dX8_factorial_149 : decode cX8_factorial 149 = .ok (.irem, 1) := by decide +kernel
theorem dX8_factorial_150 : decode cX8_factorial 150 = .ok (.invokevirtual 58, 3) := by decide +kernel
theorem dX8_factorial_153 : decode cX8_factorial 153 = .ok (.iinc 7 1, 3) := by decide +kernel
theorem dX8_factorial_156 : decode cX8_factorial 156 = .ok (.goto (-28), 3) := by decide +kernel
theorem dX8_factorial_159 : decode cX8_factorial 159 = .ok (.iload 5, 2) := by decide +kernel
theorem dX8_factorial_161 : decode cX8_factorial 161 = .ok (.iload 4, 2) := by decide +kernel
theorem dX8_factorial_163 : decode cX8_factorial 163 = .ok (.bipush 10, 2) := by decide +kernel
theorem dX8_factorial_165 : decode cX8_factorial 165 = .ok (.irem, 1) := by decide +kernel
theorem dX8_factorial_166 : decode cX8_factorial 166 = .ok (.imul, 1) := by decide +kernel
theorem dX8_factorial_167 : decode cX8_factorial 167 = .ok (.istore 5, 2) := by decide +kernel
theorem dX8_factorial_169 : decode cX8_factorial 169 = .ok (.iload 4, 2) := by decide +kernel
theorem dX8_factorial_171 : decode cX8_factorial 171 = .ok (.bipush 10, 2) := by decide +kernel
theorem dX8_factorial_173 : decode cX8_factorial 173 = .ok (.idiv, 1) := by decide +kernel
theorem dX8_factorial_174 : decode cX8_factorial 174 = .ok (.istore 4, 2) := by decide +kernel
theorem dX8_factorial_176 : decode cX8_factorial 176 = .ok (.iinc 6 (-1), 3) := by decide +kernel
theorem dX8_factorial_179 : decode cX8_factorial 179 = .ok (.goto (-73), 3) := by decide +kernel
theorem dX8_factorial_182 : decode cX8_factorial 182 = .ok (.iload_n 3, 1) := by decide +kernel
theorem dX8_factorial_183 : decode cX8_factorial 183 = .ok (.ireturn, 1) := by decide +kernel
theorem dX8_addSum_0 : decode cX8_addSum 0 = .ok (.aload_n 0, 1) := by decide +kernel
theorem dX8_addSum_1 : decode cX8_addSum 1 = .ok (.iload_n 1, 1) := by decide +kernel
theorem dX8_addSum_2 : decode cX8_addSum 2 = .ok (.invokevirtual 66, 3) := by decide +kernel
theorem dX8_addSum_5 : decode cX8_addSum 5 = .ok (.ifCond .eq 49, 3) := by decide +kernel
theorem dX8_addSum_8 : decode cX8_addSum 8 = .ok (.aload_n 0, 1) := by decide +kernel
theorem dX8_addSum_9 : decode cX8_addSum 9 = .ok (.iload_n 3, 1) := by decide +kernel
theorem dX8_addSum_10 : decode cX8_addSum 10 = .ok (.invokevirtual 66, 3) := by decide +kernel
theorem dX8_addSum_13 : decode cX8_addSum 13 = .ok (.ifCond .eq 41, 3) := by decide +kernel
theorem dX8_addSum_16 : decode cX8_addSum 16 = .ok (.iload_n 2, 1) := by decide +kernel
theorem dX8_addSum_17 : decode cX8_addSum 17 = .ok (.iconst 0, 1) := by decide +kernel
theorem dX8_addSum_18 : decode cX8_addSum 18 = .ok (.iconst 5, 1) := by decide +kernel
theorem dX8_addSum_19 : decode cX8_addSum 19 = .ok (.invokestatic 43, 3) := by decide +kernel
theorem dX8_addSum_22 : decode cX8_addSum 22 = .ok (.ifCond .eq 32, 3) := by decide +kernel
theorem dX8_addSum_25 : decode cX8_addSum 25 = .ok (.iload 4, 2) := by decide +kernel
theorem dX8_addSum_27 : decode cX8_addSum 27 = .ok (.iconst 0, 1) := by decide +kernel
theorem dX8_addSum_28 : decode cX8_addSum 28 = .ok (.iconst 5, 1) := by decide +kernel
theorem dX8_addSum_29 : decode cX8_addSum 29 = .ok (.invokestatic 43, 3) := by decide +kernel
theorem dX8_addSum_32 : decode cX8_addSum 32 = .ok (.ifCond .eq 22, 3) := by decide +kernel
theorem dX8_addSum_35 : decode cX8_addSum 35 = .ok (.aload_n 0, 1) := by decide +kernel
theorem dX8_addSum_36 : decode cX8_addSum 36 = .ok (.getfield 7, 3) := by decide +kernel
theorem dX8_addSum_39 : decode cX8_addSum 39 = .ok (.iconst 2, 1) := by decide +kernel
theorem dX8_addSum_40 : decode cX8_addSum 40 = .ok (.iload_n 1, 1) := by decide +kernel
theorem dX8_addSum_41 : decode cX8_addSum 41 = .ok (.iadd, 1) := by decide +kernel
theorem dX8_addSum_42 : decode cX8_addSum 42 = .ok (.iaload, 1) := by decide +kernel
theorem dX8_addSum_43 : decode cX8_addSum 43 = .ok (.aload_n 0, 1) := by decide +kernel
theorem dX8_addSum_44 : decode cX8_addSum 44 = .ok (.getfield 7, 3) := by decide +kernel
theorem dX8_addSum_47 : decode cX8_addSum 47 = .ok (.iconst 2, 1) := by decide +kernel
theorem dX8_addSum_48 : decode cX8_addSum 48 = .ok (.iload_n 3, 1) := by decide +kernel
theorem dX8_addSum_49 : decode cX8_addSum 49 = .ok (.iadd, 1) := by decide +kernel
theorem dX8_addSum_50 : decode cX8_addSum 50 = .ok (.iaload, 1) := by decide +kernel
theorem dX8_addSum_51 : decode cX8_addSum 51 = .ok (.if_icmp .eq 5, 3) := by decide +kernel
theorem dX8_addSum_54 : decode cX8_addSum 54 = .ok (.iconst (-1), 1) := by decide +kernel
theorem dX8_addSum_55 : decode cX8_addSum 55 = .ok (.ireturn, 1) := by decide +kernel
theorem dX8_addSum_56 : decode cX8_addSum 56 = .ok (.aload_n 0, 1) := by decide +kernel
theorem dX8_addSum_57 : decode cX8_addSum 57 = .ok (.getfield 7, 3) := by decide +kernel
theorem dX8_addSum_60 : decode cX8_addSum 60 = .ok (.iconst 1, 1) := by decide +kernel
theorem dX8_addSum_61 : decode cX8_addSum 61 = .ok (.iaload, 1) := by decide +kernel
theorem dX8_addSum_62 : decode cX8_addSum 62 = .ok (.bipush 7, 2) := by decide +kernel
theorem dX8_addSum_64 : decode cX8_addSum 64 = .ok (.if_icmp .ne 6, 3) := by decide +kernel
theorem dX8_addSum_67 : decode cX8_addSum 67 = .ok (.bipush (-3), 2) := by decide +kernel
theorem dX8_addSum_69 : decode cX8_addSum 69 = .ok (.ireturn, 1) := by decide +kernel
theorem dX8_addSum_70 : decode cX8_addSum 70 = .ok (.aload_n 0, 1) := by decide +kernel
theorem dX8_addSum_71 : decode cX8_addSum 71 = .ok (.invokevirtual 51, 3) := by decide +kernel
theorem dX8_addSum_74 : decode cX8_addSum 74 = .ok (.aload_n 0, 1) := by decide +kernel
theorem dX8_addSum_75 : decode cX8_addSum 75 = .ok (.getfield 7, 3) := by decide +kernel
theorem dX8_addSum_78 : decode cX8_addSum 78 = .ok (.iconst 1, 1) := by decide +kernel
theorem dX8_addSum_79 : decode cX8_addSum 79 = .ok (.iaload, 1) := by decide +kernel
theorem dX8_addSum_80 : decode cX8_addSum 80 = .ok (.istore 5, 2) := by decide +kernel
theorem dX8_addSum_82 : decode cX8_addSum 82 = .ok (.aload_n 0, 1) := by decide +kernel
theorem dX8_addSum_83 : decode cX8_addSum 83 = .ok (.getfield 7, 3) := by decide +kernel
theorem dX8_addSum_86 : decode cX8_addSum 86 = .ok (.iconst 2, 1) := by decide +kernel
theorem dX8_addSum_87 : decode cX8_addSum 87 = .ok (.iload 5, 2) := by decide +kernel
theorem dX8_addSum_89 : decode cX8_addSum 89 = .ok (.iadd, 1) := by decide +kernel
theorem dX8_addSum_90 : decode cX8_addSum 90 = .ok (.aload_n 0, 1) := by decide +kernel
theorem dX8_addSum_91 : decode cX8_addSum 91 = .ok (.getfield 7, 3) := by decide +kernel
theorem dX8_addSum_94 : decode cX8_addSum 94 = .ok (.iconst 2, 1) := by decide +kernel
theorem dX8_addSum_95 : decode cX8_addSum 95 = .ok (.iload_n 1, 1) := by decide +kernel
theorem dX8_addSum_96 : decode cX8_addSum 96 = .ok (.iadd, 1) := by decide +kernel
theorem dX8_addSum_97 : decode cX8_addSum 97 = .ok (.iaload, 1) := by decide +kernel
theorem dX8_addSum_98 : decode cX8_addSum 98 = .ok (.iastore, 1) := by decide +kernel
theorem dX8_addSum_99 : decode cX8_addSum 99 = .ok (.aload_n 0, 1) := by decide +kernel
theorem dX8_addSum_100 : decode cX8_addSum 100 = .ok (.getfield 7, 3) := by decide +kernel
theorem dX8_addSum_103 : decode cX8_addSum 103 = .ok (.iconst 1, 1) := by decide +kernel
theorem dX8_addSum_104 : decode cX8_addSum 104 = .ok (.dup2, 1) := by decide +kernel
theorem dX8_addSum_105 : decode cX8_addSum 105 = .ok (.iaload, 1) := by decide +kernel
theorem dX8_addSum_106 : decode cX8_addSum 106 = .ok (.iconst 1, 1) := by decide +kernel
theorem dX8_addSum_107 : decode cX8_addSum 107 = .ok (.iadd, 1) := by decide +kernel
theorem dX8_addSum_108 : decode cX8_addSum 108 = .ok (.iastore, 1) := by decide +kernel
theorem dX8_addSum_109 : decode cX8_addSum 109 = .ok (.iconst 0, 1) := by decide +kernel
theorem dX8_addSum_110 : decode cX8_addSum 110 = .ok (.istore 6, 2) := by decide +kernel
theorem dX8_addSum_112 : decode cX8_addSum 112 = .ok (.iload 6, 2) := by decide +kernel
theorem dX8_addSum_114 : decode cX8_addSum 114 = .ok (.aload_n 0, 1) := by decide +kernel
theorem dX8_addSum_115 : decode cX8_addSum 115 = .ok (.getfield 7, 3) := by decide +kernel
theorem dX8_addSum_118 : decode cX8_addSum 118 = .ok (.iconst 0, 1) := by decide +kernel
theorem dX8_addSum_119 : decode cX8_addSum 119 = .ok (.iaload, 1) := by decide +kernel
theorem dX8_addSum_120 : decode cX8_addSum 120 = .ok (.if_icmp .ge 46, 3) := by decide +kernel
theorem dX8_addSum_123 : decode cX8_addSum 123 = .ok (.aload_n 0, 1) := by decide +kernel
theorem dX8_addSum_124 : decode cX8_addSum 124 = .ok (.iload 6, 2) := by decide +kernel
theorem dX8_addSum_126 : decode cX8_addSum 126 = .ok (.iload 5, 2) := by decide +kernel
theorem dX8_addSum_128 : decode cX8_addSum 128 = .ok (.iload_n 2, 1) := by decide +kernel
theorem dX8_addSum_129 : decode cX8_addSum 129 = .ok (.aload_n 0, 1) := by decide +kernel
theorem dX8_addSum_130 : decode cX8_addSum 130 = .ok (.iload 6, 2) := by decide +kernel
theorem dX8_addSum_132 : decode cX8_addSum 132 = .ok (.iload_n 1, 1) := by decide +kernel
theorem dX8_addSum_133 : decode cX8_addSum 133 = .ok (.invokevirtual 62, 3) := by decide +kernel
theorem dX8_addSum_136 : decode cX8_addSum 136 = .ok (.imul, 1) := by decide +kernel
theorem dX8_addSum_137 : decode cX8_addSum 137 = .ok (.iload 4, 2) := by decide +kernel
theorem dX8_addSum_139 : decode cX8_addSum 139 = .ok (.aload_n 0, 1) := by decide +kernel
theorem dX8_addSum_140 : decode cX8_addSum 140 = .ok (.iload 6, 2) := by decide +kernel
theorem dX8_addSum_142 : decode cX8_addSum 142 = .ok (.iload_n 3, 1) := by decide +kernel
theorem dX8_addSum_143 : decode cX8_addSum 143 = .ok (.invokevirtual 62, 3) := by decide +kernel
theorem dX8_addSum_146 : decode cX8_addSum 146 = .ok (.imul, 1) := by decide +kernel
theorem dX8_addSum_147 : decode cX8_addSum 147 = .ok (.iadd, 1) := by decide +kernel
theorem dX8_addSum_148 : decode cX8_addSum 148 = .ok (.aload_n 0, 1) := by decide +kernel
theorem dX8_addSum_149 : decode cX8_addSum 149 = .ok (.getfield 7, 3) := by decide +kernel
theorem dX8_addSum_152 : decode cX8_addSum 152 = .ok (.iconst 2, 1) := by decide +kernel
theorem dX8_addSum_153 : decode cX8_addSum 153 = .ok (.iload_n 1, 1) := by decide +kernel
theorem dX8_addSum_154 : decode cX8_addSum 154 = .ok (.iadd, 1) := by decide +kernel
theorem dX8_addSum_155 : decode cX8_addSum 155 = .ok (.iaload, 1) := by decide +kernel
theorem dX8_addSum_156 : decode cX8_addSum 156 = .ok (.irem, 1) := by decide +kernel
theorem dX8_addSum_157 : decode cX8_addSum 157 = .ok (.invokevirtual 58, 3) := by decide +kernel
theorem dX8_addSum_160 : decode cX8_addSum 160 = .ok (.iinc 6 1, 3) := by decide +kernel
theorem dX8_addSum_163 : decode cX8_addSum 163 = .ok (.goto (-51), 3) := by decide +kernel
theorem dX8_addSum_166 : decode cX8_addSum 166 = .ok (.iload 5, 2) := by decide +kernel
theorem dX8_addSum_168 : decode cX8_addSum 168 = .ok (.ireturn, 1) := by decide +kernel
theorem dX8_isImage_0 : decode cX8_isImage 0 = .ok (.iload_n 0, 1) := by decide +kernel
theorem dX8_isImage_1 : decode cX8_isImage 1 = .ok (.iconst 0, 1) := by decide +kernel
theorem dX8_isImage_2 : decode cX8_isImage 2 = .ok (.iconst 1, 1) := by decide +kernel
theorem dX8_isImage_3 : decode cX8_isImage 3 = .ok (.invokestatic 43, 3) := by decide +kernel
theorem dX8_isImage_6 : decode cX8_isImage 6 = .ok (.ireturn, 1) := by decide +kernel
theorem dX8_isKept_0 : decode cX8_isKept 0 = .ok (.aload_n 0, 1) := by decide +kernel
theorem dX8_isKept_1 : decode cX8_isKept 1 = .ok (.getfield 92, 3) := by decide +kernel
theorem dX8_isKept_4 : decode cX8_isKept 4 = .ok (.iload_n 1, 1) := by decide +kernel
theorem dX8_isKept_5 : decode cX8_isKept 5 = .ok (.ishr, 1) := by decide +kernel
theorem dX8_isKept_6 : decode cX8_isKept 6 = .ok (.iconst 1, 1) := by decide +kernel
theorem dX8_isKept_7 : decode cX8_isKept 7 = .ok (.iand, 1) := by decide +kernel
theorem dX8_isKept_8 : decode cX8_isKept 8 = .ok (.iconst 1, 1) := by decide +kernel
theorem dX8_isKept_9 : decode cX8_isKept 9 = .ok (.if_icmp .ne 7, 3) := by decide +kernel
theorem dX8_isKept_12 : decode cX8_isKept 12 = .ok (.iconst 1, 1) := by decide +kernel
theorem dX8_isKept_13 : decode cX8_isKept 13 = .ok (.goto 4, 3) := by decide +kernel
theorem dX8_isKept_16 : decode cX8_isKept 16 = .ok (.iconst 0, 1) := by decide +kernel
theorem dX8_isKept_17 : decode cX8_isKept 17 = .ok (.ireturn, 1) := by decide +kernel
theorem dX8_ofImage_0 : decode cX8_ofImage 0 = .ok (.aload_n 0, 1) := by decide +kernel
theorem dX8_ofImage_1 : decode cX8_ofImage 1 = .ok (.getfield 16, 3) := by decide +kernel
theorem dX8_ofImage_4 : decode cX8_ofImage 4 = .ok (.sipush 261, 3) := by decide +kernel
theorem dX8_ofImage_7 : decode cX8_ofImage 7 = .ok (.iload_n 1, 1) := by decide +kernel
theorem dX8_ofImage_8 : decode cX8_ofImage 8 = .ok (.imul, 1) := by decide +kernel
theorem dX8_ofImage_9 : decode cX8_ofImage 9 = .ok (.iload_n 2, 1) := by decide +kernel
theorem dX8_ofImage_10 : decode cX8_ofImage 10 = .ok (.iadd, 1) := by decide +kernel
theorem dX8_ofImage_11 : decode cX8_ofImage 11 = .ok (.iaload, 1) := by decide +kernel
theorem dX8_ofImage_12 : decode cX8_ofImage 12 = .ok (.ireturn, 1) := by decide +kernel
theorem dX8_replace_0 : decode cX8_replace 0 = .ok (.aload_n 0, 1) := by decide +kernel
theorem dX8_replace_1 : decode cX8_replace 1 = .ok (.iload_n 1, 1) := by decide +kernel
theorem dX8_replace_2 : decode cX8_replace 2 = .ok (.invokevirtual 66, 3) := by decide +kernel
theorem dX8_replace_5 : decode cX8_replace 5 = .ok (.ifCond .eq 10, 3) := by decide +kernel
theorem dX8_replace_8 : decode cX8_replace 8 = .ok (.iload_n 2, 1) := by decide +kernel
theorem dX8_replace_9 : decode cX8_replace 9 = .ok (.invokestatic 95, 3) := by decide +kernel
theorem dX8_replace_12 : decode cX8_replace 12 = .ok (.ifCond .ne 5, 3) := by decide +kernel
theorem dX8_replace_15 : decode cX8_replace 15 = .ok (.iconst (-1), 1) := by decide +kernel
theorem dX8_replace_16 : decode cX8_replace 16 = .ok (.ireturn, 1) := by decide +kernel
theorem dX8_replace_17 : decode cX8_replace 17 = .ok (.aload_n 0, 1) := by decide +kernel
theorem dX8_replace_18 : decode cX8_replace 18 = .ok (.iload_n 2, 1) := by decide +kernel
theorem dX8_replace_19 : decode cX8_replace 19 = .ok (.invokevirtual 98, 3) := by decide +kernel
theorem dX8_replace_22 : decode cX8_replace 22 = .ok (.ifCond .eq 20, 3) := by decide +kernel
theorem dX8_replace_25 : decode cX8_replace 25 = .ok (.aload_n 0, 1) := by decide +kernel
theorem dX8_replace_26 : decode cX8_replace 26 = .ok (.iload_n 2, 1) := by decide +kernel
theorem dX8_replace_27 : decode cX8_replace 27 = .ok (.iconst 0, 1) := by decide +kernel
theorem dX8_replace_28 : decode cX8_replace 28 = .ok (.invokevirtual 101, 3) := by decide +kernel
theorem dX8_replace_31 : decode cX8_replace 31 = .ok (.aload_n 0, 1) := by decide +kernel
theorem dX8_replace_32 : decode cX8_replace 32 = .ok (.getfield 7, 3) := by decide +kernel
theorem dX8_replace_35 : decode cX8_replace 35 = .ok (.iconst 2, 1) := by decide +kernel
theorem dX8_replace_36 : decode cX8_replace 36 = .ok (.iload_n 1, 1) := by decide +kernel
theorem dX8_replace_37 : decode cX8_replace 37 = .ok (.iadd, 1) := by decide +kernel
theorem dX8_replace_38 : decode cX8_replace 38 = .ok (.iaload, 1) := by decide +kernel
theorem dX8_replace_39 : decode cX8_replace 39 = .ok (.if_icmp .eq 6, 3) := by decide +kernel
theorem dX8_replace_42 : decode cX8_replace 42 = .ok (.bipush (-2), 2) := by decide +kernel
theorem dX8_replace_44 : decode cX8_replace 44 = .ok (.ireturn, 1) := by decide +kernel
theorem dX8_replace_45 : decode cX8_replace 45 = .ok (.aload_n 0, 1) := by decide +kernel
theorem dX8_replace_46 : decode cX8_replace 46 = .ok (.iload_n 2, 1) := by decide +kernel
theorem dX8_replace_47 : decode cX8_replace 47 = .ok (.iconst 1, 1) := by decide +kernel
theorem dX8_replace_48 : decode cX8_replace 48 = .ok (.invokevirtual 101, 3) := by decide +kernel
theorem dX8_replace_51 : decode cX8_replace 51 = .ok (.istore_n 3, 1) := by decide +kernel
theorem dX8_replace_52 : decode cX8_replace 52 = .ok (.aload_n 0, 1) := by decide +kernel
theorem dX8_replace_53 : decode cX8_replace 53 = .ok (.getfield 7, 3) := by decide +kernel
theorem dX8_replace_56 : decode cX8_replace 56 = .ok (.iconst 1, 1) := by decide +kernel
theorem dX8_replace_57 : decode cX8_replace 57 = .ok (.iaload, 1) := by decide +kernel
theorem dX8_replace_58 : decode cX8_replace 58 = .ok (.iconst 1, 1) := by decide +kernel
theorem dX8_replace_59 : decode cX8_replace 59 = .ok (.isub, 1) := by decide +kernel
theorem dX8_replace_60 : decode cX8_replace 60 = .ok (.iload_n 3, 1) := by decide +kernel
theorem dX8_replace_61 : decode cX8_replace 61 = .ok (.iadd, 1) := by decide +kernel
theorem dX8_replace_62 : decode cX8_replace 62 = .ok (.bipush 7, 2) := by decide +kernel
theorem dX8_replace_64 : decode cX8_replace 64 = .ok (.if_icmp .le 6, 3) := by decide +kernel
theorem dX8_replace_67 : decode cX8_replace 67 = .ok (.bipush (-3), 2) := by decide +kernel
theorem dX8_replace_69 : decode cX8_replace 69 = .ok (.ireturn, 1) := by decide +kernel
theorem dX8_replace_70 : decode cX8_replace 70 = .ok (.aload_n 0, 1) := by decide +kernel
theorem dX8_replace_71 : decode cX8_replace 71 = .ok (.invokevirtual 51, 3) := by decide +kernel
theorem dX8_replace_74 : decode cX8_replace 74 = .ok (.aload_n 0, 1) := by decide +kernel
theorem dX8_replace_75 : decode cX8_replace 75 = .ok (.getfield 13, 3) := by decide +kernel
theorem dX8_replace_78 : decode cX8_replace 78 = .ok (.astore 4, 2) := by decide +kernel
theorem dX8_replace_80 : decode cX8_replace 80 = .ok (.sipush 261, 3) := by decide +kernel
theorem dX8_replace_83 : decode cX8_replace 83 = .ok (.aload_n 0, 1) := by decide +kernel
theorem dX8_replace_84 : decode cX8_replace 84 = .ok (.getfield 47, 3) := by decide +kernel
theorem dX8_replace_87 : decode cX8_replace 87 = .ok (.iconst 1, 1) := by decide +kernel
theorem dX8_replace_88 : decode cX8_replace 88 = .ok (.isub, 1) := by decide +kernel
theorem dX8_replace_89 : decode cX8_replace 89 = .ok (.imul, 1) := by decide +kernel
theorem dX8_replace_90 : decode cX8_replace 90 = .ok (.istore 5, 2) := by decide +kernel
theorem dX8_replace_92 : decode cX8_replace 92 = .ok (.aload_n 0, 1) := by decide +kernel
theorem dX8_replace_93 : decode cX8_replace 93 = .ok (.getfield 7, 3) := by decide +kernel
theorem dX8_replace_96 : decode cX8_replace 96 = .ok (.iconst 1, 1) := by decide +kernel
theorem dX8_replace_97 : decode cX8_replace 97 = .ok (.aload_n 0, 1) := by decide +kernel
theorem dX8_replace_98 : decode cX8_replace 98 = .ok (.getfield 7, 3) := by decide +kernel
theorem dX8_replace_101 : decode cX8_replace 101 = .ok (.iconst 1, 1) := by decide +kernel
theorem dX8_replace_102 : decode cX8_replace 102 = .ok (.iaload, 1) := by decide +kernel
theorem dX8_replace_103 : decode cX8_replace 103 = .ok (.iconst 1, 1) := by decide +kernel
theorem dX8_replace_104 : decode cX8_replace 104 = .ok (.isub, 1) := by decide +kernel
theorem dX8_replace_105 : decode cX8_replace 105 = .ok (.iload_n 3, 1) := by decide +kernel
theorem dX8_replace_106 : decode cX8_replace 106 = .ok (.iadd, 1) := by decide +kernel
theorem dX8_replace_107 : decode cX8_replace 107 = .ok (.iastore, 1) := by decide +kernel
theorem dX8_replace_108 : decode cX8_replace 108 = .ok (.iconst 0, 1) := by decide +kernel
theorem dX8_replace_109 : decode cX8_replace 109 = .ok (.istore 6, 2) := by decide +kernel
theorem dX8_replace_111 : decode cX8_replace 111 = .ok (.iload 6, 2) := by decide +kernel
theorem dX8_replace_113 : decode cX8_replace 113 = .ok (.aload_n 0, 1) := by decide +kernel
theorem dX8_replace_114 : decode cX8_replace 114 = .ok (.getfield 7, 3) := by decide +kernel
theorem dX8_replace_117 : decode cX8_replace 117 = .ok (.iconst 1, 1) := by decide +kernel
theorem dX8_replace_118 : decode cX8_replace 118 = .ok (.iaload, 1) := by decide +kernel
theorem dX8_replace_119 : decode cX8_replace 119 = .ok (.if_icmp .ge 176, 3) := by decide +kernel
theorem dX8_replace_122 : decode cX8_replace 122 = .ok (.iload 6, 2) := by decide +kernel
theorem dX8_replace_124 : decode cX8_replace 124 = .ok (.iload_n 1, 1) := by decide +kernel
theorem dX8_replace_125 : decode cX8_replace 125 = .ok (.if_icmp .lt 15, 3) := by decide +kernel
theorem dX8_replace_128 : decode cX8_replace 128 = .ok (.iload 6, 2) := by decide +kernel
theorem dX8_replace_130 : decode cX8_replace 130 = .ok (.iload_n 1, 1) := by decide +kernel
theorem dX8_replace_131 : decode cX8_replace 131 = .ok (.iload_n 3, 1) := by decide +kernel
theorem dX8_replace_132 : decode cX8_replace 132 = .ok (.iadd, 1) := by decide +kernel
theorem dX8_replace_133 : decode cX8_replace 133 = .ok (.if_icmp .ge 7, 3) := by decide +kernel
theorem dX8_replace_136 : decode cX8_replace 136 = .ok (.iconst 1, 1) := by decide +kernel
theorem dX8_replace_137 : decode cX8_replace 137 = .ok (.goto 4, 3) := by decide +kernel
theorem dX8_replace_140 : decode cX8_replace 140 = .ok (.iconst 0, 1) := by decide +kernel
theorem dX8_replace_141 : decode cX8_replace 141 = .ok (.istore 7, 2) := by decide +kernel
theorem dX8_replace_143 : decode cX8_replace 143 = .ok (.iload 6, 2) := by decide +kernel
theorem dX8_replace_145 : decode cX8_replace 145 = .ok (.iload_n 1, 1) := by decide +kernel
theorem dX8_replace_146 : decode cX8_replace 146 = .ok (.if_icmp .ge 8, 3) := by decide +kernel
theorem dX8_replace_149 : decode cX8_replace 149 = .ok (.iload 6, 2) := by decide +kernel
theorem dX8_replace_151 : decode cX8_replace 151 = .ok (.goto 9, 3) := by decide +kernel
theorem dX8_replace_154 : decode cX8_replace 154 = .ok (.iload 6, 2) := by decide +kernel
theorem dX8_replace_156 : decode cX8_replace 156 = .ok (.iload_n 3, 1) := by decide +kernel
theorem dX8_replace_157 : decode cX8_replace 157 = .ok (.isub, 1) := by decide +kernel
theorem dX8_replace_158 : decode cX8_replace 158 = .ok (.iconst 1, 1) := by decide +kernel
theorem dX8_replace_159 : decode cX8_replace 159 = .ok (.iadd, 1) := by decide +kernel
theorem dX8_replace_160 : decode cX8_replace 160 = .ok (.istore 8, 2) := by decide +kernel
theorem dX8_replace_162 : decode cX8_replace 162 = .ok (.aload_n 0, 1) := by decide +kernel
theorem dX8_replace_163 : decode cX8_replace 163 = .ok (.getfield 7, 3) := by decide +kernel
theorem dX8_replace_166 : decode cX8_replace 166 = .ok (.iconst 2, 1) := by decide +kernel
theorem dX8_replace_167 : decode cX8_replace 167 = .ok (.iload 6, 2) := by decide +kernel
theorem dX8_replace_169 : decode cX8_replace 169 = .ok (.iadd, 1) := by decide +kernel
theorem dX8_replace_170 : decode cX8_replace 170 = .ok (.iload 7, 2) := by decide +kernel
theorem dX8_replace_172 : decode cX8_replace 172 = .ok (.ifCond .eq 17, 3) := by decide +kernel
theorem dX8_replace_175 : decode cX8_replace 175 = .ok (.aload_n 0, 1) := by decide +kernel
theorem dX8_replace_176 : decode cX8_replace 176 = .ok (.iload_n 2, 1) := by decide +kernel
theorem dX8_replace_177 : decode cX8_replace 177 = .ok (.iconst 2, 1) := by decide +kernel
theorem dX8_replace_178 : decode cX8_replace 178 = .ok (.iload 6, 2) := by decide +kernel
theorem dX8_replace_180 : decode cX8_replace 180 = .ok (.iadd, 1) := by decide +kernel
theorem dX8_replace_181 : decode cX8_replace 181 = .ok (.iload_n 1, 1) := by decide +kernel
theorem dX8_replace_182 : decode cX8_replace 182 = .ok (.isub, 1) := by decide +kernel
theorem dX8_replace_183 : decode cX8_replace 183 = .ok (.invokevirtual 101, 3) := by decide +kernel
theorem dX8_replace_186 : decode cX8_replace 186 = .ok (.goto 13, 3) := by decide +kernel
theorem dX8_replace_189 : decode cX8_replace 189 = .ok (.aload 4, 2) := by decide +kernel
theorem dX8_replace_191 : decode cX8_replace 191 = .ok (.iload 5, 2) := by decide +kernel
theorem dX8_replace_193 : decode cX8_replace 193 = .ok (.iconst 2, 1) := by decide +kernel
theorem dX8_replace_194 : decode cX8_replace 194 = .ok (.iadd, 1) := by decide +kernel
theorem dX8_replace_195 : decode cX8_replace 195 = .ok (.iload 8, 2) := by decide +kernel
theorem dX8_replace_197 : decode cX8_replace 197 = .ok (.iadd, 1) := by decide +kernel
theorem dX8_replace_198 : decode cX8_replace 198 = .ok (.iaload, 1) := by decide +kernel
theorem dX8_replace_199 : decode cX8_replace 199 = .ok (.iastore, 1) := by decide +kernel
theorem dX8_replace_200 : decode cX8_replace 200 = .ok (.iconst 0, 1) := by decide +kernel
theorem dX8_replace_201 : decode cX8_replace 201 = .ok (.istore 9, 2) := by decide +kernel
theorem dX8_replace_203 : decode cX8_replace 203 = .ok (.iload 9, 2) := by decide +kernel
theorem dX8_replace_205 : decode cX8_replace 205 = .ok (.aload_n 0, 1) := by decide +kernel
theorem dX8_replace_206 : decode cX8_replace 206 = .ok (.getfield 7, 3) := by decide +kernel
theorem dX8_replace_209 : decode cX8_replace 209 = .ok (.iconst 0, 1) := by decide +kernel
theorem dX8_replace_210 : decode cX8_replace 210 = .ok (.iaload, 1) := by decide +kernel
theorem dX8_replace_211 : decode cX8_replace 211 = .ok (.if_icmp .ge 78, 3) := by decide +kernel
theorem dX8_replace_214 : decode cX8_replace 214 = .ok (.aload 4, 2) := by decide +kernel
theorem dX8_replace_216 : decode cX8_replace 216 = .ok (.iload 5, 2) := by decide +kernel
theorem dX8_replace_218 : decode cX8_replace 218 = .ok (.bipush 9, 2) := by decide +kernel
theorem dX8_replace_220 : decode cX8_replace 220 = .ok (.iadd, 1) := by decide +kernel
theorem dX8_replace_221 : decode cX8_replace 221 = .ok (.bipush 7, 2) := by decide +kernel
theorem dX8_replace_223 : decode cX8_replace 223 = .ok (.iload 9, 2) := by decide +kernel
theorem dX8_replace_225 : decode cX8_replace 225 = .ok (.imul, 1) := by decide +kernel
theorem dX8_replace_226 : decode cX8_replace 226 = .ok (.iadd, 1) := by decide +kernel
theorem dX8_replace_227 : decode cX8_replace 227 = .ok (.iload_n 1, 1) := by decide +kernel
theorem dX8_replace_228 : decode cX8_replace 228 = .ok (.iadd, 1) := by decide +kernel
theorem dX8_replace_229 : decode cX8_replace 229 = .ok (.iaload, 1) := by decide +kernel
theorem dX8_replace_230 : decode cX8_replace 230 = .ok (.istore 10, 2) := by decide +kernel
theorem dX8_replace_232 : decode cX8_replace 232 = .ok (.aload_n 0, 1) := by decide +kernel
theorem dX8_replace_233 : decode cX8_replace 233 = .ok (.iload 9, 2) := by decide +kernel
theorem dX8_replace_235 : decode cX8_replace 235 = .ok (.iload 6, 2) := by decide +kernel
theorem dX8_replace_237 : decode cX8_replace 237 = .ok (.iload 7, 2) := by decide +kernel
theorem dX8_replace_239 : decode cX8_replace 239 = .ok (.ifCond .eq 24, 3) := by decide +kernel
theorem dX8_replace_242 : decode cX8_replace 242 = .ok (.aload_n 0, 1) := by decide +kernel
theorem dX8_replace_243 : decode cX8_replace 243 = .ok (.iload_n 2, 1) := by decide +kernel
theorem dX8_replace_244 : decode cX8_replace 244 = .ok (.bipush 9, 2) := by decide +kernel
theorem dX8_replace_246 : decode cX8_replace 246 = .ok (.bipush 7, 2) := by decide +kernel
theorem dX8_replace_248 : decode cX8_replace 248 = .ok (.iload 10, 2) := by decide +kernel
theorem dX8_replace_250 : decode cX8_replace 250 = .ok (.imul, 1) := by decide +kernel
theorem dX8_replace_251 : decode cX8_replace 251 = .ok (.iadd, 1) := by decide +kernel
theorem dX8_replace_252 : decode cX8_replace 252 = .ok (.iload 6, 2) := by decide +kernel
theorem dX8_replace_254 : decode cX8_replace 254 = .ok (.iadd, 1) := by decide +kernel
theorem dX8_replace_255 : decode cX8_replace 255 = .ok (.iload_n 1, 1) := by decide +kernel
theorem dX8_replace_256 : decode cX8_replace 256 = .ok (.isub, 1) := by decide +kernel
theorem dX8_replace_257 : decode cX8_replace 257 = .ok (.invokevirtual 101, 3) := by decide +kernel
theorem dX8_replace_260 : decode cX8_replace 260 = .ok (.goto 20, 3) := by decide +kernel
theorem dX8_replace_263 : decode cX8_replace 263 = .ok (.aload 4, 2) := by decide +kernel
theorem dX8_replace_265 : decode cX8_replace 265 = .ok (.iload 5, 2) := by decide +kernel
theorem dX8_replace_267 : decode cX8_replace 267 = .ok (.bipush 9, 2) := by decide +kernel
theorem dX8_replace_269 : decode cX8_replace 269 = .ok (.iadd, 1) := by decide +kernel
theorem dX8_replace_270 : decode cX8_replace 270 = .ok (.bipush 7, 2) := by decide +kernel
theorem dX8_replace_272 : decode cX8_replace 272 = .ok (.iload 9, 2) := by decide +kernel
theorem dX8_replace_274 : decode cX8_replace 274 = .ok (.imul, 1) := by decide +kernel
theorem dX8_replace_275 : decode cX8_replace 275 = .ok (.iadd, 1) := by decide +kernel
theorem dX8_replace_276 : decode cX8_replace 276 = .ok (.iload 8, 2) := by decide +kernel
theorem dX8_replace_278 : decode cX8_replace 278 = .ok (.iadd, 1) := by decide +kernel
theorem dX8_replace_279 : decode cX8_replace 279 = .ok (.iaload, 1) := by decide +kernel
theorem dX8_replace_280 : decode cX8_replace 280 = .ok (.invokevirtual 58, 3) := by decide +kernel
theorem dX8_replace_283 : decode cX8_replace 283 = .ok (.iinc 9 1, 3) := by decide +kernel
theorem dX8_replace_286 : decode cX8_replace 286 = .ok (.goto (-83), 3) := by decide +kernel
theorem dX8_replace_289 : decode cX8_replace 289 = .ok (.iinc 6 1, 3) := by decide +kernel
theorem dX8_replace_292 : decode cX8_replace 292 = .ok (.goto (-181), 3) := by decide +kernel
theorem dX8_replace_295 : decode cX8_replace 295 = .ok (.aload_n 0, 1) := by decide +kernel
theorem dX8_replace_296 : decode cX8_replace 296 = .ok (.getfield 7, 3) := by decide +kernel
theorem dX8_replace_299 : decode cX8_replace 299 = .ok (.iconst 1, 1) := by decide +kernel
theorem dX8_replace_300 : decode cX8_replace 300 = .ok (.iaload, 1) := by decide +kernel
theorem dX8_replace_301 : decode cX8_replace 301 = .ok (.ireturn, 1) := by decide +kernel
theorem dX8_areDifferencesEven_0 : decode cX8_areDifferencesEven 0 = .ok (.aload_n 0, 1) := by decide +kernel
theorem dX8_areDifferencesEven_1 : decode cX8_areDifferencesEven 1 = .ok (.getfield 7, 3) := by decide +kernel
theorem dX8_areDifferencesEven_4 : decode cX8_areDifferencesEven 4 = .ok (.iconst 2, 1) := by decide +kernel
theorem dX8_areDifferencesEven_5 : decode cX8_areDifferencesEven 5 = .ok (.iload_n 1, 1) := by decide +kernel
theorem dX8_areDifferencesEven_6 : decode cX8_areDifferencesEven 6 = .ok (.iadd, 1) := by decide +kernel
theorem dX8_areDifferencesEven_7 : decode cX8_areDifferencesEven 7 = .ok (.iaload, 1) := by decide +kernel
theorem dX8_areDifferencesEven_8 : decode cX8_areDifferencesEven 8 = .ok (.istore_n 3, 1) := by decide +kernel
theorem dX8_areDifferencesEven_9 : decode cX8_areDifferencesEven 9 = .ok (.iconst 0, 1) := by decide +kernel
theorem dX8_areDifferencesEven_10 : decode cX8_areDifferencesEven 10 = .ok (.istore 4, 2) := by decide +kernel
theorem dX8_areDifferencesEven_12 : decode cX8_areDifferencesEven 12 = .ok (.iconst 0, 1) := by decide +kernel
theorem dX8_areDifferencesEven_13 : decode cX8_areDifferencesEven 13 = .ok (.istore 5, 2) := by decide +kernel
theorem dX8_areDifferencesEven_15 : decode cX8_areDifferencesEven 15 = .ok (.iload 5, 2) := by decide +kernel
theorem dX8_areDifferencesEven_17 : decode cX8_areDifferencesEven 17 = .ok (.iload_n 3, 1) := by decide +kernel
theorem dX8_areDifferencesEven_18 : decode cX8_areDifferencesEven 18 = .ok (.if_icmp .ge 89, 3) := by decide +kernel
theorem dX8_areDifferencesEven_21 : decode cX8_areDifferencesEven 21 = .ok (.iconst 0, 1) := by decide +kernel
theorem dX8_areDifferencesEven_22 : decode cX8_areDifferencesEven 22 = .ok (.istore 6, 2) := by decide +kernel
theorem dX8_areDifferencesEven_24 : decode cX8_areDifferencesEven 24 = .ok (.iconst 0, 1) := by decide +kernel
theorem dX8_areDifferencesEven_25 : decode cX8_areDifferencesEven 25 = .ok (.istore 7, 2) := by decide +kernel
theorem dX8_areDifferencesEven_27 : decode cX8_areDifferencesEven 27 = .ok (.iload 7, 2) := by decide +kernel
theorem dX8_areDifferencesEven_29 : decode cX8_areDifferencesEven 29 = .ok (.aload_n 0, 1) := by decide +kernel
theorem dX8_areDifferencesEven_30 : decode cX8_areDifferencesEven 30 = .ok (.getfield 7, 3) := by decide +kernel
theorem dX8_areDifferencesEven_33 : decode cX8_areDifferencesEven 33 = .ok (.iconst 0, 1) := by decide +kernel
theorem dX8_areDifferencesEven_34 : decode cX8_areDifferencesEven 34 = .ok (.iaload, 1) := by decide +kernel
theorem dX8_areDifferencesEven_35 : decode cX8_areDifferencesEven 35 = .ok (.if_icmp .ge 43, 3) := by decide +kernel
theorem dX8_areDifferencesEven_38 : decode cX8_areDifferencesEven 38 = .ok (.iload 6, 2) := by decide +kernel
theorem dX8_areDifferencesEven_40 : decode cX8_areDifferencesEven 40 = .ok (.aload_n 0, 1) := by decide +kernel
theorem dX8_areDifferencesEven_41 : decode cX8_areDifferencesEven 41 = .ok (.iload 7, 2) := by decide +kernel
theorem dX8_areDifferencesEven_43 : decode cX8_areDifferencesEven 43 = .ok (.iload_n 2, 1) := by decide +kernel
theorem dX8_areDifferencesEven_44 : decode cX8_areDifferencesEven 44 = .ok (.invokevirtual 62, 3) := by decide +kernel
theorem dX8_areDifferencesEven_47 : decode cX8_areDifferencesEven 47 = .ok (.aload_n 0, 1) := by decide +kernel
theorem dX8_areDifferencesEven_48 : decode cX8_areDifferencesEven 48 = .ok (.iload 7, 2) := by decide +kernel
theorem dX8_areDifferencesEven_50 : decode cX8_areDifferencesEven 50 = .ok (.iload_n 1, 1) := by decide +kernel
theorem dX8_areDifferencesEven_51 : decode cX8_areDifferencesEven 51 = .ok (.invokevirtual 62, 3) := by decide +kernel
theorem dX8_areDifferencesEven_54 : decode cX8_areDifferencesEven 54 = .ok (.isub, 1) := by decide +kernel
theorem dX8_areDifferencesEven_55 : decode cX8_areDifferencesEven 55 = .ok (.iload_n 3, 1) := by decide +kernel
theorem dX8_areDifferencesEven_56 : decode cX8_areDifferencesEven 56 = .ok (.iadd, 1) := by decide +kernel
theorem dX8_areDifferencesEven_57 : decode cX8_areDifferencesEven 57 = .ok (.iload_n 3, 1) := by decide +kernel
theorem dX8_areDifferencesEven_58 : decode cX8_areDifferencesEven 58 = .ok (.irem, 1) := by decide +kernel
theorem dX8_areDifferencesEven_59 : decode cX8_areDifferencesEven 59 = .ok (.iload 5, 2) := by decide +kernel
theorem dX8_areDifferencesEven_61 : decode cX8_areDifferencesEven 61 = .ok (.if_icmp .ne 7, 3) := by decide +kernel
theorem dX8_areDifferencesEven_64 : decode cX8_areDifferencesEven 64 = .ok (.iconst 1, 1) := by decide +kernel
theorem dX8_areDifferencesEven_65 : decode cX8_areDifferencesEven 65 = .ok (.goto 4, 3) := by decide +kernel
theorem dX8_areDifferencesEven_68 : decode cX8_areDifferencesEven 68 = .ok (.iconst 0, 1) := by decide +kernel
theorem dX8_areDifferencesEven_69 : decode cX8_areDifferencesEven 69 = .ok (.iadd, 1) := by decide +kernel
theorem dX8_areDifferencesEven_70 : decode cX8_areDifferencesEven 70 = .ok (.istore 6, 2) := by decide +kernel
theorem dX8_areDifferencesEven_72 : decode cX8_areDifferencesEven 72 = .ok (.iinc 7 1, 3) := by decide +kernel
theorem dX8_areDifferencesEven_75 : decode cX8_areDifferencesEven 75 = .ok (.goto (-48), 3) := by decide +kernel
theorem dX8_areDifferencesEven_78 : decode cX8_areDifferencesEven 78 = .ok (.iload 5, 2) := by decide +kernel
theorem dX8_areDifferencesEven_80 : decode cX8_areDifferencesEven 80 = .ok (.ifCond .ne 8, 3) := by decide +kernel
theorem dX8_areDifferencesEven_83 : decode cX8_areDifferencesEven 83 = .ok (.iload 6, 2) := by decide +kernel
theorem dX8_areDifferencesEven_85 : decode cX8_areDifferencesEven 85 = .ok (.goto 5, 3) := by decide +kernel
theorem dX8_areDifferencesEven_88 : decode cX8_areDifferencesEven 88 = .ok (.iload 4, 2) := by decide +kernel
theorem dX8_areDifferencesEven_90 : decode cX8_areDifferencesEven 90 = .ok (.istore 4, 2) := by decide +kernel
theorem dX8_areDifferencesEven_92 : decode cX8_areDifferencesEven 92 = .ok (.iload 6, 2) := by decide +kernel
theorem dX8_areDifferencesEven_94 : decode cX8_areDifferencesEven 94 = .ok (.iload 4, 2) := by decide +kernel
theorem dX8_areDifferencesEven_96 : decode cX8_areDifferencesEven 96 = .ok (.if_icmp .eq 5, 3) := by decide +kernel
theorem dX8_areDifferencesEven_99 : decode cX8_areDifferencesEven 99 = .ok (.iconst 0, 1) := by decide +kernel
theorem dX8_areDifferencesEven_100 : decode cX8_areDifferencesEven 100 = .ok (.ireturn, 1) := by decide +kernel
theorem dX8_areDifferencesEven_101 : decode cX8_areDifferencesEven 101 = .ok (.iinc 5 1, 3) := by decide +kernel
theorem dX8_areDifferencesEven_104 : decode cX8_areDifferencesEven 104 = .ok (.goto (-89), 3) := by decide +kernel
theorem dX8_areDifferencesEven_107 : decode cX8_areDifferencesEven 107 = .ok (.iconst 1, 1) := by decide +kernel
theorem dX8_areDifferencesEven_108 : decode cX8_areDifferencesEven 108 = .ok (.ireturn, 1) := by decide +kernel
theorem dX8_isScheme_0 : decode cX8_isScheme 0 = .ok (.iconst 0, 1) := by decide +kernel
theorem dX8_isScheme_1 : decode cX8_isScheme 1 = .ok (.istore_n 1, 1) := by decide +kernel
theorem dX8_isScheme_2 : decode cX8_isScheme 2 = .ok (.iload_n 1, 1) := by decide +kernel
theorem dX8_isScheme_3 : decode cX8_isScheme 3 = .ok (.aload_n 0, 1) := by decide +kernel
theorem dX8_isScheme_4 : decode cX8_isScheme 4 = .ok (.getfield 7, 3) := by decide +kernel
theorem dX8_isScheme_7 : decode cX8_isScheme 7 = .ok (.iconst 1, 1) := by decide +kernel
theorem dX8_isScheme_8 : decode cX8_isScheme 8 = .ok (.iaload, 1) := by decide +kernel
theorem dX8_isScheme_9 : decode cX8_isScheme 9 = .ok (.if_icmp .ge 52, 3) := by decide +kernel
theorem dX8_isScheme_12 : decode cX8_isScheme 12 = .ok (.iconst 0, 1) := by decide +kernel
theorem dX8_isScheme_13 : decode cX8_isScheme 13 = .ok (.istore_n 2, 1) := by decide +kernel
theorem dX8_isScheme_14 : decode cX8_isScheme 14 = .ok (.iload_n 2, 1) := by decide +kernel
theorem dX8_isScheme_15 : decode cX8_isScheme 15 = .ok (.iload_n 1, 1) := by decide +kernel
theorem dX8_isScheme_16 : decode cX8_isScheme 16 = .ok (.if_icmp .ge 39, 3) := by decide +kernel
theorem dX8_isScheme_19 : decode cX8_isScheme 19 = .ok (.aload_n 0, 1) := by decide +kernel
theorem dX8_isScheme_20 : decode cX8_isScheme 20 = .ok (.getfield 7, 3) := by decide +kernel
theorem dX8_isScheme_23 : decode cX8_isScheme 23 = .ok (.iconst 2, 1) := by decide +kernel
theorem dX8_isScheme_24 : decode cX8_isScheme 24 = .ok (.iload_n 2, 1) := by decide +kernel
theorem dX8_isScheme_25 : decode cX8_isScheme 25 = .ok (.iadd, 1) := by decide +kernel
theorem dX8_isScheme_26 : decode cX8_isScheme 26 = .ok (.iaload, 1) := by decide +kernel
theorem dX8_isScheme_27 : decode cX8_isScheme 27 = .ok (.aload_n 0, 1) := by decide +kernel
theorem dX8_isScheme_28 : decode cX8_isScheme 28 = .ok (.getfield 7, 3) := by decide +kernel
theorem dX8_isScheme_31 : decode cX8_isScheme 31 = .ok (.iconst 2, 1) := by decide +kernel
theorem dX8_isScheme_32 : decode cX8_isScheme 32 = .ok (.iload_n 1, 1) := by decide +kernel
theorem dX8_isScheme_33 : decode cX8_isScheme 33 = .ok (.iadd, 1) := by decide +kernel
theorem dX8_isScheme_34 : decode cX8_isScheme 34 = .ok (.iaload, 1) := by decide +kernel
theorem dX8_isScheme_35 : decode cX8_isScheme 35 = .ok (.if_icmp .ne 12, 3) := by decide +kernel
theorem dX8_isScheme_38 : decode cX8_isScheme 38 = .ok (.aload_n 0, 1) := by decide +kernel
theorem dX8_isScheme_39 : decode cX8_isScheme 39 = .ok (.iload_n 2, 1) := by decide +kernel
theorem dX8_isScheme_40 : decode cX8_isScheme 40 = .ok (.iload_n 1, 1) := by decide +kernel
theorem dX8_isScheme_41 : decode cX8_isScheme 41 = .ok (.invokevirtual 104, 3) := by decide +kernel
theorem dX8_isScheme_44 : decode cX8_isScheme 44 = .ok (.ifCond .ne 5, 3) := by decide +kernel
theorem dX8_isScheme_47 : decode cX8_isScheme 47 = .ok (.iconst 0, 1) := by decide +kernel
theorem dX8_isScheme_48 : decode cX8_isScheme 48 = .ok (.ireturn, 1) := by decide +kernel
theorem dX8_isScheme_49 : decode cX8_isScheme 49 = .ok (.iinc 2 1, 3) := by decide +kernel
theorem dX8_isScheme_52 : decode cX8_isScheme 52 = .ok (.goto (-38), 3) := by decide +kernel
theorem dX8_isScheme_55 : decode cX8_isScheme 55 = .ok (.iinc 1 1, 3) := by decide +kernel
theorem dX8_isScheme_58 : decode cX8_isScheme 58 = .ok (.goto (-56), 3) := by decide +kernel
theorem dX8_isScheme_61 : decode cX8_isScheme 61 = .ok (.aload_n 0, 1) := by decide +kernel
theorem dX8_isScheme_62 : decode cX8_isScheme 62 = .ok (.getfield 7, 3) := by decide +kernel
theorem dX8_isScheme_65 : decode cX8_isScheme 65 = .ok (.iconst 1, 1) := by decide +kernel
theorem dX8_isScheme_66 : decode cX8_isScheme 66 = .ok (.iaload, 1) := by decide +kernel
theorem dX8_isScheme_67 : decode cX8_isScheme 67 = .ok (.ifCond .le 7, 3) := by decide +kernel
theorem dX8_isScheme_70 : decode cX8_isScheme 70 = .ok (.iconst 1, 1) := by decide +kernel
theorem dX8_isScheme_71 : decode cX8_isScheme 71 = .ok (.goto 4, 3) := by decide +kernel
theorem dX8_isScheme_74 : decode cX8_isScheme 74 = .ok (.iconst 0, 1) := by decide +kernel
theorem dX8_isScheme_75 : decode cX8_isScheme 75 = .ok (.ireturn, 1) := by decide +kernel
theorem dX8_develop_0 : decode cX8_develop 0 = .ok (.aload_n 0, 1) := by decide +kernel
theorem dX8_develop_1 : decode cX8_develop 1 = .ok (.getfield 7, 3) := by decide +kernel
theorem dX8_develop_4 : decode cX8_develop 4 = .ok (.iconst 0, 1) := by decide +kernel
theorem dX8_develop_5 : decode cX8_develop 5 = .ok (.iaload, 1) := by decide +kernel
theorem dX8_develop_6 : decode cX8_develop 6 = .ok (.ifCond .eq 10, 3) := by decide +kernel
theorem dX8_develop_9 : decode cX8_develop 9 = .ok (.aload_n 0, 1) := by decide +kernel
theorem dX8_develop_10 : decode cX8_develop 10 = .ok (.invokevirtual 108, 3) := by decide +kernel
theorem dX8_develop_13 : decode cX8_develop 13 = .ok (.ifCond .ne 6, 3) := by decide +kernel
theorem dX8_develop_16 : decode cX8_develop 16 = .ok (.bipush (-2), 2) := by decide +kernel
theorem dX8_develop_18 : decode cX8_develop 18 = .ok (.ireturn, 1) := by decide +kernel
theorem dX8_develop_19 : decode cX8_develop 19 = .ok (.aload_n 0, 1) := by decide +kernel
theorem dX8_develop_20 : decode cX8_develop 20 = .ok (.getfield 7, 3) := by decide +kernel
theorem dX8_develop_23 : decode cX8_develop 23 = .ok (.iconst 2, 1) := by decide +kernel
theorem dX8_develop_24 : decode cX8_develop 24 = .ok (.iaload, 1) := by decide +kernel
theorem dX8_develop_25 : decode cX8_develop 25 = .ok (.istore_n 1, 1) := by decide +kernel
theorem dX8_develop_26 : decode cX8_develop 26 = .ok (.aload_n 0, 1) := by decide +kernel
theorem dX8_develop_27 : decode cX8_develop 27 = .ok (.getfield 7, 3) := by decide +kernel
theorem dX8_develop_30 : decode cX8_develop 30 = .ok (.iconst 0, 1) := by decide +kernel
theorem dX8_develop_31 : decode cX8_develop 31 = .ok (.iaload, 1) := by decide +kernel
theorem dX8_develop_32 : decode cX8_develop 32 = .ok (.istore_n 2, 1) := by decide +kernel
theorem dX8_develop_33 : decode cX8_develop 33 = .ok (.aload_n 0, 1) := by decide +kernel
theorem dX8_develop_34 : decode cX8_develop 34 = .ok (.getfield 7, 3) := by decide +kernel
theorem dX8_develop_37 : decode cX8_develop 37 = .ok (.iconst 1, 1) := by decide +kernel
theorem dX8_develop_38 : decode cX8_develop 38 = .ok (.iaload, 1) := by decide +kernel
theorem dX8_develop_39 : decode cX8_develop 39 = .ok (.istore_n 3, 1) := by decide +kernel
theorem dX8_develop_40 : decode cX8_develop 40 = .ok (.iload_n 2, 1) := by decide +kernel
theorem dX8_develop_41 : decode cX8_develop 41 = .ok (.iconst 2, 1) := by decide +kernel
theorem dX8_develop_42 : decode cX8_develop 42 = .ok (.bipush 6, 2) := by decide +kernel
theorem dX8_develop_44 : decode cX8_develop 44 = .ok (.invokestatic 43, 3) := by decide +kernel
theorem dX8_develop_47 : decode cX8_develop 47 = .ok (.ifCond .eq 7, 3) := by decide +kernel
theorem dX8_develop_50 : decode cX8_develop 50 = .ok (.iconst 1, 1) := by decide +kernel
theorem dX8_develop_51 : decode cX8_develop 51 = .ok (.goto 4, 3) := by decide +kernel
theorem dX8_develop_54 : decode cX8_develop 54 = .ok (.iconst 0, 1) := by decide +kernel
theorem dX8_develop_55 : decode cX8_develop 55 = .ok (.istore 4, 2) := by decide +kernel
theorem dX8_develop_57 : decode cX8_develop 57 = .ok (.iload_n 2, 1) := by decide +kernel
theorem dX8_develop_58 : decode cX8_develop 58 = .ok (.iload_n 1, 1) := by decide +kernel
theorem dX8_develop_59 : decode cX8_develop 59 = .ok (.imul, 1) := by decide +kernel
theorem dX8_develop_60 : decode cX8_develop 60 = .ok (.bipush 36, 2) := by decide +kernel
theorem dX8_develop_62 : decode cX8_develop 62 = .ok (.if_icmp .gt 12, 3) := by decide +kernel
theorem dX8_develop_65 : decode cX8_develop 65 = .ok (.iload_n 3, 1) := by decide +kernel
theorem dX8_develop_66 : decode cX8_develop 66 = .ok (.iload 4, 2) := by decide +kernel
theorem dX8_develop_68 : decode cX8_develop 68 = .ok (.iadd, 1) := by decide +kernel
theorem dX8_develop_69 : decode cX8_develop 69 = .ok (.bipush 7, 2) := by decide +kernel
theorem dX8_develop_71 : decode cX8_develop 71 = .ok (.if_icmp .le 6, 3) := by decide +kernel
theorem dX8_develop_74 : decode cX8_develop 74 = .ok (.bipush (-3), 2) := by decide +kernel
theorem dX8_develop_76 : decode cX8_develop 76 = .ok (.ireturn, 1) := by decide +kernel
theorem dX8_develop_77 : decode cX8_develop 77 = .ok (.aload_n 0, 1) := by decide +kernel
theorem dX8_develop_78 : decode cX8_develop 78 = .ok (.invokevirtual 51, 3) := by decide +kernel
theorem dX8_develop_81 : decode cX8_develop 81 = .ok (.aload_n 0, 1) := by decide +kernel
theorem dX8_develop_82 : decode cX8_develop 82 = .ok (.getfield 7, 3) := by decide +kernel
theorem dX8_develop_85 : decode cX8_develop 85 = .ok (.iconst 0, 1) := by decide +kernel
theorem dX8_develop_86 : decode cX8_develop 86 = .ok (.iload_n 2, 1) := by decide +kernel
theorem dX8_develop_87 : decode cX8_develop 87 = .ok (.iload_n 1, 1) := by decide +kernel
theorem dX8_develop_88 : decode cX8_develop 88 = .ok (.imul, 1) := by decide +kernel
theorem dX8_develop_89 : decode cX8_develop 89 = .ok (.iastore, 1) := by decide +kernel
theorem dX8_develop_90 : decode cX8_develop 90 = .ok (.iload_n 2, 1) := by decide +kernel
theorem dX8_develop_91 : decode cX8_develop 91 = .ok (.iload_n 1, 1) := by decide +kernel
theorem dX8_develop_92 : decode cX8_develop 92 = .ok (.imul, 1) := by decide +kernel
theorem dX8_develop_93 : decode cX8_develop 93 = .ok (.iconst 1, 1) := by decide +kernel
theorem dX8_develop_94 : decode cX8_develop 94 = .ok (.isub, 1) := by decide +kernel
theorem dX8_develop_95 : decode cX8_develop 95 = .ok (.istore 5, 2) := by decide +kernel
theorem dX8_develop_97 : decode cX8_develop 97 = .ok (.iload 5, 2) := by decide +kernel
theorem dX8_develop_99 : decode cX8_develop 99 = .ok (.ifCond .lt 85, 3) := by decide +kernel
theorem dX8_develop_102 : decode cX8_develop 102 = .ok (.iconst 0, 1) := by decide +kernel
theorem dX8_develop_103 : decode cX8_develop 103 = .ok (.istore 6, 2) := by decide +kernel
theorem dX8_develop_105 : decode cX8_develop 105 = .ok (.iload 6, 2) := by decide +kernel
theorem dX8_develop_107 : decode cX8_develop 107 = .ok (.iload_n 3, 1) := by decide +kernel
theorem dX8_develop_108 : decode cX8_develop 108 = .ok (.if_icmp .ge 53, 3) := by decide +kernel
theorem dX8_develop_111 : decode cX8_develop 111 = .ok (.aload_n 0, 1) := by decide +kernel
theorem dX8_develop_112 : decode cX8_develop 112 = .ok (.iload 5, 2) := by decide +kernel
theorem dX8_develop_114 : decode cX8_develop 114 = .ok (.iload 6, 2) := by decide +kernel
theorem dX8_develop_116 : decode cX8_develop 116 = .ok (.aload_n 0, 1) := by decide +kernel
theorem dX8_develop_117 : decode cX8_develop 117 = .ok (.getfield 13, 3) := by decide +kernel
theorem dX8_develop_120 : decode cX8_develop 120 = .ok (.sipush 261, 3) := by decide +kernel
theorem dX8_develop_123 : decode cX8_develop 123 = .ok (.aload_n 0, 1) := by decide +kernel
theorem dX8_develop_124 : decode cX8_develop 124 = .ok (.getfield 47, 3) := by decide +kernel
theorem dX8_develop_127 : decode cX8_develop 127 = .ok (.iconst 1, 1) := by decide +kernel
theorem dX8_develop_128 : decode cX8_develop 128 = .ok (.isub, 1) := by decide +kernel
theorem dX8_develop_129 : decode cX8_develop 129 = .ok (.imul, 1) := by decide +kernel
theorem dX8_develop_130 : decode cX8_develop 130 = .ok (.bipush 9, 2) := by decide +kernel
theorem dX8_develop_132 : decode cX8_develop 132 = .ok (.iadd, 1) := by decide +kernel
theorem dX8_develop_133 : decode cX8_develop 133 = .ok (.bipush 7, 2) := by decide +kernel
theorem dX8_develop_135 : decode cX8_develop 135 = .ok (.iload 5, 2) := by decide +kernel
theorem dX8_develop_137 : decode cX8_develop 137 = .ok (.iload_n 1, 1) := by decide +kernel
theorem dX8_develop_138 : decode cX8_develop 138 = .ok (.idiv, 1) := by decide +kernel
theorem dX8_develop_139 : decode cX8_develop 139 = .ok (.imul, 1) := by decide +kernel
theorem dX8_develop_140 : decode cX8_develop 140 = .ok (.iadd, 1) := by decide +kernel
theorem dX8_develop_141 : decode cX8_develop 141 = .ok (.iload 6, 2) := by decide +kernel
theorem dX8_develop_143 : decode cX8_develop 143 = .ok (.iadd, 1) := by decide +kernel
theorem dX8_develop_144 : decode cX8_develop 144 = .ok (.iaload, 1) := by decide +kernel
theorem dX8_develop_145 : decode cX8_develop 145 = .ok (.iload 5, 2) := by decide +kernel
theorem dX8_develop_147 : decode cX8_develop 147 = .ok (.iload_n 1, 1) := by decide +kernel
theorem dX8_develop_148 : decode cX8_develop 148 = .ok (.irem, 1) := by decide +kernel
theorem dX8_develop_149 : decode cX8_develop 149 = .ok (.iadd, 1) := by decide +kernel
theorem dX8_develop_150 : decode cX8_develop 150 = .ok (.iload_n 1, 1) := by decide +kernel
theorem dX8_develop_151 : decode cX8_develop 151 = .ok (.irem, 1) := by decide +kernel
theorem dX8_develop_152 : decode cX8_develop 152 = .ok (.invokevirtual 58, 3) := by decide +kernel
theorem dX8_develop_155 : decode cX8_develop 155 = .ok (.iinc 6 1, 3) := by decide +kernel
theorem dX8_develop_158 : decode cX8_develop 158 = .ok (.goto (-53), 3) := by decide +kernel
theorem dX8_develop_161 : decode cX8_develop 161 = .ok (.iload 4, 2) := by decide +kernel
theorem dX8_develop_163 : decode cX8_develop 163 = .ok (.iconst 1, 1) := by decide +kernel
theorem dX8_develop_164 : decode cX8_develop 164 = .ok (.if_icmp .ne 14, 3) := by decide +kernel
theorem dX8_develop_167 : decode cX8_develop 167 = .ok (.aload_n 0, 1) := by decide +kernel
theorem dX8_develop_168 : decode cX8_develop 168 = .ok (.iload 5, 2) := by decide +kernel
theorem dX8_develop_170 : decode cX8_develop 170 = .ok (.iload_n 3, 1) := by decide +kernel
theorem dX8_develop_171 : decode cX8_develop 171 = .ok (.iload 5, 2) := by decide +kernel
theorem dX8_develop_173 : decode cX8_develop 173 = .ok (.iload_n 1, 1) := by decide +kernel
theorem dX8_develop_174 : decode cX8_develop 174 = .ok (.idiv, 1) := by decide +kernel
theorem dX8_develop_175 : decode cX8_develop 175 = .ok (.invokevirtual 58, 3) := by decide +kernel
theorem dX8_develop_178 : decode cX8_develop 178 = .ok (.iinc 5 (-1), 3) := by decide +kernel
theorem dX8_develop_181 : decode cX8_develop 181 = .ok (.goto (-84), 3) := by decide +kernel
theorem dX8_develop_184 : decode cX8_develop 184 = .ok (.iload 4, 2) := by decide +kernel
theorem dX8_develop_186 : decode cX8_develop 186 = .ok (.iconst 1, 1) := by decide +kernel
theorem dX8_develop_187 : decode cX8_develop 187 = .ok (.if_icmp .ne 22, 3) := by decide +kernel
theorem dX8_develop_190 : decode cX8_develop 190 = .ok (.aload_n 0, 1) := by decide +kernel
theorem dX8_develop_191 : decode cX8_develop 191 = .ok (.getfield 7, 3) := by decide +kernel
theorem dX8_develop_194 : decode cX8_develop 194 = .ok (.iconst 2, 1) := by decide +kernel
theorem dX8_develop_195 : decode cX8_develop 195 = .ok (.iload_n 3, 1) := by decide +kernel
theorem dX8_develop_196 : decode cX8_develop 196 = .ok (.iadd, 1) := by decide +kernel
theorem dX8_develop_197 : decode cX8_develop 197 = .ok (.iload_n 2, 1) := by decide +kernel
theorem dX8_develop_198 : decode cX8_develop 198 = .ok (.iastore, 1) := by decide +kernel
theorem dX8_develop_199 : decode cX8_develop 199 = .ok (.aload_n 0, 1) := by decide +kernel
theorem dX8_develop_200 : decode cX8_develop 200 = .ok (.getfield 7, 3) := by decide +kernel
theorem dX8_develop_203 : decode cX8_develop 203 = .ok (.iconst 1, 1) := by decide +kernel
theorem dX8_develop_204 : decode cX8_develop 204 = .ok (.dup2, 1) := by decide +kernel
theorem dX8_develop_205 : decode cX8_develop 205 = .ok (.iaload, 1) := by decide +kernel
theorem dX8_develop_206 : decode cX8_develop 206 = .ok (.iconst 1, 1) := by decide +kernel
theorem dX8_develop_207 : decode cX8_develop 207 = .ok (.iadd, 1) := by decide +kernel
theorem dX8_develop_208 : decode cX8_develop 208 = .ok (.iastore, 1) := by decide +kernel
theorem dX8_develop_209 : decode cX8_develop 209 = .ok (.aload_n 0, 1) := by decide +kernel
theorem dX8_develop_210 : decode cX8_develop 210 = .ok (.getfield 7, 3) := by decide +kernel
theorem dX8_develop_213 : decode cX8_develop 213 = .ok (.iconst 0, 1) := by decide +kernel
theorem dX8_develop_214 : decode cX8_develop 214 = .ok (.iaload, 1) := by decide +kernel
theorem dX8_develop_215 : decode cX8_develop 215 = .ok (.ireturn, 1) := by decide +kernel
theorem dX8_undo_0 : decode cX8_undo 0 = .ok (.aload_n 0, 1) := by decide +kernel
theorem dX8_undo_1 : decode cX8_undo 1 = .ok (.getfield 47, 3) := by decide +kernel
theorem dX8_undo_4 : decode cX8_undo 4 = .ok (.ifCond .ne 6, 3) := by decide +kernel
theorem dX8_undo_7 : decode cX8_undo 7 = .ok (.bipush (-2), 2) := by decide +kernel
theorem dX8_undo_9 : decode cX8_undo 9 = .ok (.ireturn, 1) := by decide +kernel
theorem dX8_undo_10 : decode cX8_undo 10 = .ok (.aload_n 0, 1) := by decide +kernel
theorem dX8_undo_11 : decode cX8_undo 11 = .ok (.dup, 1) := by decide +kernel
theorem dX8_undo_12 : decode cX8_undo 12 = .ok (.getfield 47, 3) := by decide +kernel
theorem dX8_undo_15 : decode cX8_undo 15 = .ok (.iconst 1, 1) := by decide +kernel
theorem dX8_undo_16 : decode cX8_undo 16 = .ok (.isub, 1) := by decide +kernel
theorem dX8_undo_17 : decode cX8_undo 17 = .ok (.putfield 47, 3) := by decide +kernel
theorem dX8_undo_20 : decode cX8_undo 20 = .ok (.iconst 0, 1) := by decide +kernel
theorem dX8_undo_21 : decode cX8_undo 21 = .ok (.istore_n 1, 1) := by decide +kernel
theorem dX8_undo_22 : decode cX8_undo 22 = .ok (.iload_n 1, 1) := by decide +kernel
theorem dX8_undo_23 : decode cX8_undo 23 = .ok (.sipush 261, 3) := by decide +kernel
theorem dX8_undo_26 : decode cX8_undo 26 = .ok (.if_icmp .ge 30, 3) := by decide +kernel
theorem dX8_undo_29 : decode cX8_undo 29 = .ok (.aload_n 0, 1) := by decide +kernel
theorem dX8_undo_30 : decode cX8_undo 30 = .ok (.getfield 7, 3) := by decide +kernel
theorem dX8_undo_33 : decode cX8_undo 33 = .ok (.iload_n 1, 1) := by decide +kernel
theorem dX8_undo_34 : decode cX8_undo 34 = .ok (.aload_n 0, 1) := by decide +kernel
theorem dX8_undo_35 : decode cX8_undo 35 = .ok (.getfield 13, 3) := by decide +kernel
theorem dX8_undo_38 : decode cX8_undo 38 = .ok (.sipush 261, 3) := by decide +kernel
theorem dX8_undo_41 : decode cX8_undo 41 = .ok (.aload_n 0, 1) := by decide +kernel
theorem dX8_undo_42 : decode cX8_undo 42 = .ok (.getfield 47, 3) := by decide +kernel
theorem dX8_undo_45 : decode cX8_undo 45 = .ok (.imul, 1) := by decide +kernel
theorem dX8_undo_46 : decode cX8_undo 46 = .ok (.iload_n 1, 1) := by decide +kernel
theorem dX8_undo_47 : decode cX8_undo 47 = .ok (.iadd, 1) := by decide +kernel
theorem dX8_undo_48 : decode cX8_undo 48 = .ok (.iaload, 1) := by decide +kernel
theorem dX8_undo_49 : decode cX8_undo 49 = .ok (.iastore, 1) := by decide +kernel
theorem dX8_undo_50 : decode cX8_undo 50 = .ok (.iinc 1 1, 3) := by decide +kernel
theorem dX8_undo_53 : decode cX8_undo 53 = .ok (.goto (-31), 3) := by decide +kernel
theorem dX8_undo_56 : decode cX8_undo 56 = .ok (.aload_n 0, 1) := by decide +kernel
theorem dX8_undo_57 : decode cX8_undo 57 = .ok (.getfield 47, 3) := by decide +kernel
theorem dX8_undo_60 : decode cX8_undo 60 = .ok (.ireturn, 1) := by decide +kernel
theorem dX8_write_0 : decode cX8_write 0 = .ok (.iload_n 1, 1) := by decide +kernel
theorem dX8_write_1 : decode cX8_write 1 = .ok (.bipush 32, 2) := by decide +kernel
theorem dX8_write_3 : decode cX8_write 3 = .ok (.bipush 126, 2) := by decide +kernel
theorem dX8_write_5 : decode cX8_write 5 = .ok (.invokestatic 43, 3) := by decide +kernel
theorem dX8_write_8 : decode cX8_write 8 = .ok (.ifCond .ne 5, 3) := by decide +kernel
theorem dX8_write_11 : decode cX8_write 11 = .ok (.iconst (-1), 1) := by decide +kernel
theorem dX8_write_12 : decode cX8_write 12 = .ok (.ireturn, 1) := by decide +kernel
theorem dX8_write_13 : decode cX8_write 13 = .ok (.aload_n 0, 1) := by decide +kernel
theorem dX8_write_14 : decode cX8_write 14 = .ok (.getfield 112, 3) := by decide +kernel
theorem dX8_write_17 : decode cX8_write 17 = .ok (.sipush 300, 3) := by decide +kernel
theorem dX8_write_20 : decode cX8_write 20 = .ok (.if_icmp .ne 6, 3) := by decide +kernel
theorem dX8_write_23 : decode cX8_write 23 = .ok (.bipush (-3), 2) := by decide +kernel
theorem dX8_write_25 : decode cX8_write 25 = .ok (.ireturn, 1) := by decide +kernel
theorem dX8_write_26 : decode cX8_write 26 = .ok (.aload_n 0, 1) := by decide +kernel
theorem dX8_write_27 : decode cX8_write 27 = .ok (.getfield 19, 3) := by decide +kernel
theorem dX8_write_30 : decode cX8_write 30 = .ok (.aload_n 0, 1) := by decide +kernel
theorem dX8_write_31 : decode cX8_write 31 = .ok (.getfield 112, 3) := by decide +kernel
theorem dX8_write_34 : decode cX8_write 34 = .ok (.iload_n 1, 1) := by decide +kernel
theorem dX8_write_35 : decode cX8_write 35 = .ok (.iastore, 1) := by decide +kernel
theorem dX8_write_36 : decode cX8_write 36 = .ok (.aload_n 0, 1) := by decide +kernel
theorem dX8_write_37 : decode cX8_write 37 = .ok (.dup, 1) := by decide +kernel
theorem dX8_write_38 : decode cX8_write 38 = .ok (.getfield 112, 3) := by decide +kernel
theorem dX8_write_41 : decode cX8_write 41 = .ok (.iconst 1, 1) := by decide +kernel
theorem dX8_write_42 : decode cX8_write 42 = .ok (.iadd, 1) := by decide +kernel
theorem dX8_write_43 : decode cX8_write 43 = .ok (.putfield 112, 3) := by decide +kernel
theorem dX8_write_46 : decode cX8_write 46 = .ok (.aload_n 0, 1) := by decide +kernel
theorem dX8_write_47 : decode cX8_write 47 = .ok (.getfield 112, 3) := by decide +kernel
theorem dX8_write_50 : decode cX8_write 50 = .ok (.ireturn, 1) := by decide +kernel
theorem dX8_wipe_0 : decode cX8_wipe 0 = .ok (.aload_n 0, 1) := by decide +kernel
theorem dX8_wipe_1 : decode cX8_wipe 1 = .ok (.getfield 112, 3) := by decide +kernel
theorem dX8_wipe_4 : decode cX8_wipe 4 = .ok (.istore_n 1, 1) := by decide +kernel
theorem dX8_wipe_5 : decode cX8_wipe 5 = .ok (.aload_n 0, 1) := by decide +kernel
theorem dX8_wipe_6 : decode cX8_wipe 6 = .ok (.iconst 0, 1) := by decide +kernel
theorem dX8_wipe_7 : decode cX8_wipe 7 = .ok (.putfield 112, 3) := by decide +kernel
theorem dX8_wipe_10 : decode cX8_wipe 10 = .ok (.iload_n 1, 1) := by decide +kernel
theorem dX8_wipe_11 : decode cX8_wipe 11 = .ok (.ireturn, 1) := by decide +kernel
theorem dX8_digitAt_0 : decode cX8_digitAt 0 = .ok (.iload_n 1, 1) := by decide +kernel
theorem dX8_digitAt_1 : decode cX8_digitAt 1 = .ok (.aload_n 0, 1) := by decide +kernel
theorem dX8_digitAt_2 : decode cX8_digitAt 2 = .ok (.getfield 112, 3) := by decide +kernel
theorem dX8_digitAt_5 : decode cX8_digitAt 5 = .ok (.if_icmp .ge 15, 3) := by decide +kernel
theorem dX8_digitAt_8 : decode cX8_digitAt 8 = .ok (.aload_n 0, 1) := by decide +kernel
theorem dX8_digitAt_9 : decode cX8_digitAt 9 = .ok (.getfield 19, 3) := by decide +kernel
theorem dX8_digitAt_12 : decode cX8_digitAt 12 = .ok (.iload_n 1, 1) := by decide +kernel
theorem dX8_digitAt_13 : decode cX8_digitAt 13 = .ok (.iaload, 1) := by decide +kernel
theorem dX8_digitAt_14 : decode cX8_digitAt 14 = .ok (.bipush 48, 2) := by decide +kernel
theorem dX8_digitAt_16 : decode cX8_digitAt 16 = .ok (.isub, 1) := by decide +kernel
theorem dX8_digitAt_17 : decode cX8_digitAt 17 = .ok (.goto 4, 3) := by decide +kernel
theorem dX8_digitAt_20 : decode cX8_digitAt 20 = .ok (.iconst (-1), 1) := by decide +kernel
theorem dX8_digitAt_21 : decode cX8_digitAt 21 = .ok (.ireturn, 1) := by decide +kernel
theorem dX8_parse_0 : decode cX8_parse 0 = .ok (.iconst 0, 1) := by decide +kernel
theorem dX8_parse_1 : decode cX8_parse 1 = .ok (.istore_n 1, 1) := by decide +kernel
theorem dX8_parse_2 : decode cX8_parse 2 = .ok (.aload_n 0, 1) := by decide +kernel
theorem dX8_parse_3 : decode cX8_parse 3 = .ok (.getfield 22, 3) := by decide +kernel
theorem dX8_parse_6 : decode cX8_parse 6 = .ok (.iconst 0, 1) := by decide +kernel
theorem dX8_parse_7 : decode cX8_parse 7 = .ok (.iconst 0, 1) := by decide +kernel
theorem dX8_parse_8 : decode cX8_parse 8 = .ok (.iastore, 1) := by decide +kernel
theorem dX8_parse_9 : decode cX8_parse 9 = .ok (.aload_n 0, 1) := by decide +kernel
theorem dX8_parse_10 : decode cX8_parse 10 = .ok (.getfield 22, 3) := by decide +kernel
theorem dX8_parse_13 : decode cX8_parse 13 = .ok (.iconst 1, 1) := by decide +kernel
theorem dX8_parse_14 : decode cX8_parse 14 = .ok (.iconst 0, 1) := by decide +kernel
theorem dX8_parse_15 : decode cX8_parse 15 = .ok (.iastore, 1) := by decide +kernel
theorem dX8_parse_16 : decode cX8_parse 16 = .ok (.iload_n 1, 1) := by decide +kernel
theorem dX8_parse_17 : decode cX8_parse 17 = .ok (.bipush 7, 2) := by decide +kernel
theorem dX8_parse_19 : decode cX8_parse 19 = .ok (.if_icmp .ge 33, 3) := by decide +kernel
theorem dX8_parse_22 : decode cX8_parse 22 = .ok (.aload_n 0, 1) := by decide +kernel
theorem dX8_parse_23 : decode cX8_parse 23 = .ok (.iload_n 1, 1) := by decide +kernel
theorem dX8_parse_24 : decode cX8_parse 24 = .ok (.invokevirtual 115, 3) := by decide +kernel
theorem dX8_parse_27 : decode cX8_parse 27 = .ok (.invokestatic 54, 3) := by decide +kernel
theorem dX8_parse_30 : decode cX8_parse 30 = .ok (.ifCond .eq 22, 3) := by decide +kernel
theorem dX8_parse_33 : decode cX8_parse 33 = .ok (.aload_n 0, 1) := by decide +kernel
theorem dX8_parse_34 : decode cX8_parse 34 = .ok (.getfield 22, 3) := by decide +kernel
theorem dX8_parse_37 : decode cX8_parse 37 = .ok (.iconst 2, 1) := by decide +kernel
theorem dX8_parse_38 : decode cX8_parse 38 = .ok (.iload_n 1, 1) := by decide +kernel
theorem dX8_parse_39 : decode cX8_parse 39 = .ok (.iadd, 1) := by decide +kernel
theorem dX8_parse_40 : decode cX8_parse 40 = .ok (.aload_n 0, 1) := by decide +kernel
theorem dX8_parse_41 : decode cX8_parse 41 = .ok (.iload_n 1, 1) := by decide +kernel
theorem dX8_parse_42 : decode cX8_parse 42 = .ok (.invokevirtual 115, 3) := by decide +kernel
theorem dX8_parse_45 : decode cX8_parse 45 = .ok (.iastore, 1) := by decide +kernel
theorem dX8_parse_46 : decode cX8_parse 46 = .ok (.iinc 1 1, 3) := by decide +kernel
theorem dX8_parse_49 : decode cX8_parse 49 = .ok (.goto (-33), 3) := by decide +kernel
theorem dX8_parse_52 : decode cX8_parse 52 = .ok (.aload_n 0, 1) := by decide +kernel
theorem dX8_parse_53 : decode cX8_parse 53 = .ok (.getfield 22, 3) := by decide +kernel
theorem dX8_parse_56 : decode cX8_parse 56 = .ok (.iconst 1, 1) := by decide +kernel
theorem dX8_parse_57 : decode cX8_parse 57 = .ok (.iload_n 1, 1) := by decide +kernel
theorem dX8_parse_58 : decode cX8_parse 58 = .ok (.iastore, 1) := by decide +kernel
theorem dX8_parse_59 : decode cX8_parse 59 = .ok (.iload_n 1, 1) := by decide +kernel
theorem dX8_parse_60 : decode cX8_parse 60 = .ok (.ifCond .ne 5, 3) := by decide +kernel
theorem dX8_parse_63 : decode cX8_parse 63 = .ok (.iconst 0, 1) := by decide +kernel
theorem dX8_parse_64 : decode cX8_parse 64 = .ok (.ireturn, 1) := by decide +kernel
theorem dX8_parse_65 : decode cX8_parse 65 = .ok (.iload_n 1, 1) := by decide +kernel
theorem dX8_parse_66 : decode cX8_parse 66 = .ok (.aload_n 0, 1) := by decide +kernel
theorem dX8_parse_67 : decode cX8_parse 67 = .ok (.getfield 112, 3) := by decide +kernel
theorem dX8_parse_70 : decode cX8_parse 70 = .ok (.if_icmp .ge 112, 3) := by decide +kernel
theorem dX8_parse_73 : decode cX8_parse 73 = .ok (.aload_n 0, 1) := by decide +kernel
theorem dX8_parse_74 : decode cX8_parse 74 = .ok (.getfield 19, 3) := by decide +kernel
theorem dX8_parse_77 : decode cX8_parse 77 = .ok (.iload_n 1, 1) := by decide +kernel
theorem dX8_parse_78 : decode cX8_parse 78 = .ok (.iaload, 1) := by decide +kernel
theorem dX8_parse_79 : decode cX8_parse 79 = .ok (.bipush 47, 2) := by decide +kernel
theorem dX8_parse_81 : decode cX8_parse 81 = .ok (.if_icmp .ne 14, 3) := by decide +kernel
theorem dX8_parse_84 : decode cX8_parse 84 = .ok (.aload_n 0, 1) := by decide +kernel
theorem dX8_parse_85 : decode cX8_parse 85 = .ok (.getfield 22, 3) := by decide +kernel
theorem dX8_parse_88 : decode cX8_parse 88 = .ok (.iconst 0, 1) := by decide +kernel
theorem dX8_parse_89 : decode cX8_parse 89 = .ok (.iaload, 1) := by decide +kernel
theorem dX8_parse_90 : decode cX8_parse 90 = .ok (.bipush 36, 2) := by decide +kernel
theorem dX8_parse_92 : decode cX8_parse 92 = .ok (.if_icmp .ne 5, 3) := by decide +kernel
theorem dX8_parse_95 : decode cX8_parse 95 = .ok (.iload_n 1, 1) := by decide +kernel
theorem dX8_parse_96 : decode cX8_parse 96 = .ok (.ireturn, 1) := by decide +kernel
theorem dX8_parse_97 : decode cX8_parse 97 = .ok (.iinc 1 1, 3) := by decide +kernel
theorem dX8_parse_100 : decode cX8_parse 100 = .ok (.iconst 0, 1) := by decide +kernel
theorem dX8_parse_101 : decode cX8_parse 101 = .ok (.istore_n 2, 1) := by decide +kernel
theorem dX8_parse_102 : decode cX8_parse 102 = .ok (.iload_n 2, 1) := by decide +kernel
theorem dX8_parse_103 : decode cX8_parse 103 = .ok (.aload_n 0, 1) := by decide +kernel
theorem dX8_parse_104 : decode cX8_parse 104 = .ok (.getfield 22, 3) := by decide +kernel
theorem dX8_parse_107 : decode cX8_parse 107 = .ok (.iconst 1, 1) := by decide +kernel
theorem dX8_parse_108 : decode cX8_parse 108 = .ok (.iaload, 1) := by decide +kernel
theorem dX8_parse_109 : decode cX8_parse 109 = .ok (.if_icmp .ge 60, 3) := by decide +kernel
theorem dX8_parse_112 : decode cX8_parse 112 = .ok (.aload_n 0, 1) := by decide +kernel
theorem dX8_parse_113 : decode cX8_parse 113 = .ok (.iload_n 1, 1) := by decide +kernel
theorem dX8_parse_114 : decode cX8_parse 114 = .ok (.invokevirtual 115, 3) := by decide +kernel
theorem dX8_parse_117 : decode cX8_parse 117 = .ok (.iconst 0, 1) := by decide +kernel
theorem dX8_parse_118 : decode cX8_parse 118 = .ok (.aload_n 0, 1) := by decide +kernel
theorem dX8_parse_119 : decode cX8_parse 119 = .ok (.getfield 22, 3) := by decide +kernel
theorem dX8_parse_122 : decode cX8_parse 122 = .ok (.iconst 2, 1) := by decide +kernel
theorem dX8_parse_123 : decode cX8_parse 123 = .ok (.iload_n 2, 1) := by decide +kernel
theorem dX8_parse_124 : decode cX8_parse 124 = .ok (.iadd, 1) := by decide +kernel
theorem dX8_parse_125 : decode cX8_parse 125 = .ok (.iaload, 1) := by decide +kernel
theorem dX8_parse_126 : decode cX8_parse 126 = .ok (.iconst 1, 1) := by decide +kernel
theorem dX8_parse_127 : decode cX8_parse 127 = .ok (.isub, 1) := by decide +kernel
theorem dX8_parse_128 : decode cX8_parse 128 = .ok (.invokestatic 43, 3) := by decide +kernel
theorem dX8_parse_131 : decode cX8_parse 131 = .ok (.ifCond .ne 5, 3) := by decide +kernel
theorem dX8_parse_134 : decode cX8_parse 134 = .ok (.iload_n 1, 1) := by decide +kernel
theorem dX8_parse_135 : decode cX8_parse 135 = .ok (.ireturn, 1) := by decide +kernel
theorem dX8_parse_136 : decode cX8_parse 136 = .ok (.aload_n 0, 1) := by decide +kernel
theorem dX8_parse_137 : decode cX8_parse 137 = .ok (.getfield 22, 3) := by decide +kernel
theorem dX8_parse_140 : decode cX8_parse 140 = .ok (.bipush 9, 2) := by decide +kernel
theorem dX8_parse_142 : decode cX8_parse 142 = .ok (.bipush 7, 2) := by decide +kernel
theorem dX8_parse_144 : decode cX8_parse 144 = .ok (.aload_n 0, 1) := by decide +kernel
theorem dX8_parse_145 : decode cX8_parse 145 = .ok (.getfield 22, 3) := by decide +kernel
theorem dX8_parse_148 : decode cX8_parse 148 = .ok (.iconst 0, 1) := by decide +kernel
theorem dX8_parse_149 : decode cX8_parse 149 = .ok (.iaload, 1) := by decide +kernel
theorem dX8_parse_150 : decode cX8_parse 150 = .ok (.imul, 1) := by decide +kernel
theorem dX8_parse_151 : decode cX8_parse 151 = .ok (.iadd, 1) := by decide +kernel
theorem dX8_parse_152 : decode cX8_parse 152 = .ok (.iload_n 2, 1) := by decide +kernel
theorem dX8_parse_153 : decode cX8_parse 153 = .ok (.iadd, 1) := by decide +kernel
theorem dX8_parse_154 : decode cX8_parse 154 = .ok (.aload_n 0, 1) := by decide +kernel
theorem dX8_parse_155 : decode cX8_parse 155 = .ok (.iload_n 1, 1) := by decide +kernel
theorem dX8_parse_156 : decode cX8_parse 156 = .ok (.invokevirtual 115, 3) := by decide +kernel
theorem dX8_parse_159 : decode cX8_parse 159 = .ok (.iastore, 1) := by decide +kernel
theorem dX8_parse_160 : decode cX8_parse 160 = .ok (.iinc 1 1, 3) := by decide +kernel
theorem dX8_parse_163 : decode cX8_parse 163 = .ok (.iinc 2 1, 3) := by decide +kernel
theorem dX8_parse_166 : decode cX8_parse 166 = .ok (.goto (-64), 3) := by decide +kernel
theorem dX8_parse_169 : decode cX8_parse 169 = .ok (.aload_n 0, 1) := by decide +kernel
theorem dX8_parse_170 : decode cX8_parse 170 = .ok (.getfield 22, 3) := by decide +kernel
theorem dX8_parse_173 : decode cX8_parse 173 = .ok (.iconst 0, 1) := by decide +kernel
theorem dX8_parse_174 : decode cX8_parse 174 = .ok (.dup2, 1) := by decide +kernel
theorem dX8_parse_175 : decode cX8_parse 175 = .ok (.iaload, 1) := by decide +kernel
theorem dX8_parse_176 : decode cX8_parse 176 = .ok (.iconst 1, 1) := by decide +kernel
theorem dX8_parse_177 : decode cX8_parse 177 = .ok (.iadd, 1) := by decide +kernel
theorem dX8_parse_178 : decode cX8_parse 178 = .ok (.iastore, 1) := by decide +kernel
theorem dX8_parse_179 : decode cX8_parse 179 = .ok (.goto (-114), 3) := by decide +kernel
theorem dX8_parse_182 : decode cX8_parse 182 = .ok (.bipush (-9), 2) := by decide +kernel
theorem dX8_parse_184 : decode cX8_parse 184 = .ok (.ireturn, 1) := by decide +kernel
theorem dX8_fault_0 : decode cX8_fault 0 = .ok (.aload_n 0, 1) := by decide +kernel
theorem dX8_fault_1 : decode cX8_fault 1 = .ok (.invokevirtual 119, 3) := by decide +kernel
theorem dX8_fault_4 : decode cX8_fault 4 = .ok (.ireturn, 1) := by decide +kernel
theorem dX8_load_0 : decode cX8_load 0 = .ok (.aload_n 0, 1) := by decide +kernel
theorem dX8_load_1 : decode cX8_load 1 = .ok (.invokevirtual 119, 3) := by decide +kernel
theorem dX8_load_4 : decode cX8_load 4 = .ok (.bipush (-9), 2) := by decide +kernel
theorem dX8_load_6 : decode cX8_load 6 = .ok (.if_icmp .eq 6, 3) := by decide +kernel
theorem dX8_load_9 : decode cX8_load 9 = .ok (.bipush (-2), 2) := by decide +kernel
theorem dX8_load_11 : decode cX8_load 11 = .ok (.ireturn, 1) := by decide +kernel
theorem dX8_load_12 : decode cX8_load 12 = .ok (.aload_n 0, 1) := by decide +kernel
theorem dX8_load_13 : decode cX8_load 13 = .ok (.invokevirtual 51, 3) := by decide +kernel
theorem dX8_load_16 : decode cX8_load 16 = .ok (.iconst 0, 1) := by decide +kernel
theorem dX8_load_17 : decode cX8_load 17 = .ok (.istore_n 1, 1) := by decide +kernel
theorem dX8_load_18 : decode cX8_load 18 = .ok (.iload_n 1, 1) := by decide +kernel
theorem dX8_load_19 : decode cX8_load 19 = .ok (.sipush 261, 3) := by decide +kernel
theorem dX8_load_22 : decode cX8_load 22 = .ok (.if_icmp .ge 21, 3) := by decide +kernel
theorem dX8_load_25 : decode cX8_load 25 = .ok (.aload_n 0, 1) := by decide +kernel
theorem dX8_load_26 : decode cX8_load 26 = .ok (.getfield 7, 3) := by decide +kernel
theorem dX8_load_29 : decode cX8_load 29 = .ok (.iload_n 1, 1) := by decide +kernel
theorem dX8_load_30 : decode cX8_load 30 = .ok (.aload_n 0, 1) := by decide +kernel
theorem dX8_load_31 : decode cX8_load 31 = .ok (.getfield 22, 3) := by decide +kernel
theorem dX8_load_34 : decode cX8_load 34 = .ok (.iload_n 1, 1) := by decide +kernel
theorem dX8_load_35 : decode cX8_load 35 = .ok (.iaload, 1) := by decide +kernel
theorem dX8_load_36 : decode cX8_load 36 = .ok (.iastore, 1) := by decide +kernel
theorem dX8_load_37 : decode cX8_load 37 = .ok (.iinc 1 1, 3) := by decide +kernel
theorem dX8_load_40 : decode cX8_load 40 = .ok (.goto (-22), 3) := by decide +kernel
theorem dX8_load_43 : decode cX8_load 43 = .ok (.aload_n 0, 1) := by decide +kernel
theorem dX8_load_44 : decode cX8_load 44 = .ok (.getfield 7, 3) := by decide +kernel
theorem dX8_load_47 : decode cX8_load 47 = .ok (.iconst 0, 1) := by decide +kernel
theorem dX8_load_48 : decode cX8_load 48 = .ok (.iaload, 1) := by decide +kernel
theorem dX8_load_49 : decode cX8_load 49 = .ok (.ireturn, 1) := by decide +kernel
theorem dX8_tuples_0 : decode cX8_tuples 0 = .ok (.iconst 1, 1) := by decide +kernel
theorem dX8_tuples_1 : decode cX8_tuples 1 = .ok (.istore_n 2, 1) := by decide +kernel
theorem dX8_tuples_2 : decode cX8_tuples 2 = .ok (.iconst 0, 1) := by decide +kernel
theorem dX8_tuples_3 : decode cX8_tuples 3 = .ok (.istore_n 3, 1) := by decide +kernel
theorem dX8_tuples_4 : decode cX8_tuples 4 = .ok (.iload_n 3, 1) := by decide +kernel
theorem dX8_tuples_5 : decode cX8_tuples 5 = .ok (.aload_n 0, 1) := by decide +kernel
theorem dX8_tuples_6 : decode cX8_tuples 6 = .ok (.getfield 7, 3) := by decide +kernel
theorem dX8_tuples_9 : decode cX8_tuples 9 = .ok (.iconst 1, 1) := by decide +kernel
theorem dX8_tuples_10 : decode cX8_tuples 10 = .ok (.iaload, 1) := by decide +kernel
theorem dX8_tuples_11 : decode cX8_tuples 11 = .ok (.if_icmp .ge 33, 3) := by decide +kernel
theorem dX8_tuples_14 : decode cX8_tuples 14 = .ok (.iload_n 1, 1) := by decide +kernel
theorem dX8_tuples_15 : decode cX8_tuples 15 = .ok (.iload_n 3, 1) := by decide +kernel
theorem dX8_tuples_16 : decode cX8_tuples 16 = .ok (.ishr, 1) := by decide +kernel
theorem dX8_tuples_17 : decode cX8_tuples 17 = .ok (.iconst 1, 1) := by decide +kernel
theorem dX8_tuples_18 : decode cX8_tuples 18 = .ok (.iand, 1) := by decide +kernel
theorem dX8_tuples_19 : decode cX8_tuples 19 = .ok (.iconst 1, 1) := by decide +kernel
theorem dX8_tuples_20 : decode cX8_tuples 20 = .ok (.if_icmp .ne 16, 3) := by decide +kernel
theorem dX8_tuples_23 : decode cX8_tuples 23 = .ok (.iload_n 2, 1) := by decide +kernel
theorem dX8_tuples_24 : decode cX8_tuples 24 = .ok (.aload_n 0, 1) := by decide +kernel
theorem dX8_tuples_25 : decode cX8_tuples 25 = .ok (.getfield 7, 3) := by decide +kernel
theorem dX8_tuples_28 : decode cX8_tuples 28 = .ok (.iconst 2, 1) := by decide +kernel
theorem dX8_tuples_29 : decode cX8_tuples 29 = .ok (.iload_n 3, 1) := by decide +kernel
theorem dX8_tuples_30 : decode cX8_tuples 30 = .ok (.iadd, 1) := by decide +kernel
theorem dX8_tuples_31 : decode cX8_tuples 31 = .ok (.iaload, 1) := by decide +kernel
theorem dX8_tuples_32 : decode cX8_tuples 32 = .ok (.imul, 1) := by decide +kernel
theorem dX8_tuples_33 : decode cX8_tuples 33 = .ok (.goto 4, 3) := by decide +kernel
theorem dX8_tuples_36 : decode cX8_tuples 36 = .ok (.iload_n 2, 1) := by decide +kernel
theorem dX8_tuples_37 : decode cX8_tuples 37 = .ok (.istore_n 2, 1) := by decide +kernel
theorem dX8_tuples_38 : decode cX8_tuples 38 = .ok (.iinc 3 1, 3) := by decide +kernel
theorem dX8_tuples_41 : decode cX8_tuples 41 = .ok (.goto (-37), 3) := by decide +kernel
theorem dX8_tuples_44 : decode cX8_tuples 44 = .ok (.iload_n 2, 1) := by decide +kernel
theorem dX8_tuples_45 : decode cX8_tuples 45 = .ok (.ireturn, 1) := by decide +kernel
theorem dX8_tupleOf_0 : decode cX8_tupleOf 0 = .ok (.iconst 0, 1) := by decide +kernel
theorem dX8_tupleOf_1 : decode cX8_tupleOf 1 = .ok (.istore_n 3, 1) := by decide +kernel
theorem dX8_tupleOf_2 : decode cX8_tupleOf 2 = .ok (.iconst 0, 1) := by decide +kernel
theorem dX8_tupleOf_3 : decode cX8_tupleOf 3 = .ok (.istore 4, 2) := by decide +kernel
theorem dX8_tupleOf_5 : decode cX8_tupleOf 5 = .ok (.iload 4, 2) := by decide +kernel
theorem dX8_tupleOf_7 : decode cX8_tupleOf 7 = .ok (.aload_n 0, 1) := by decide +kernel
theorem dX8_tupleOf_8 : decode cX8_tupleOf 8 = .ok (.getfield 7, 3) := by decide +kernel
theorem dX8_tupleOf_11 : decode cX8_tupleOf 11 = .ok (.iconst 1, 1) := by decide +kernel
theorem dX8_tupleOf_12 : decode cX8_tupleOf 12 = .ok (.iaload, 1) := by decide +kernel
theorem dX8_tupleOf_13 : decode cX8_tupleOf 13 = .ok (.if_icmp .ge 43, 3) := by decide +kernel
theorem dX8_tupleOf_16 : decode cX8_tupleOf 16 = .ok (.iload_n 2, 1) := by decide +kernel
theorem dX8_tupleOf_17 : decode cX8_tupleOf 17 = .ok (.iload 4, 2) := by decide +kernel
theorem dX8_tupleOf_19 : decode cX8_tupleOf 19 = .ok (.ishr, 1) := by decide +kernel
theorem dX8_tupleOf_20 : decode cX8_tupleOf 20 = .ok (.iconst 1, 1) := by decide +kernel
theorem dX8_tupleOf_21 : decode cX8_tupleOf 21 = .ok (.iand, 1) := by decide +kernel
theorem dX8_tupleOf_22 : decode cX8_tupleOf 22 = .ok (.iconst 1, 1) := by decide +kernel
theorem dX8_tupleOf_23 : decode cX8_tupleOf 23 = .ok (.if_icmp .ne 25, 3) := by decide +kernel
theorem dX8_tupleOf_26 : decode cX8_tupleOf 26 = .ok (.iload_n 3, 1) := by decide +kernel
theorem dX8_tupleOf_27 : decode cX8_tupleOf 27 = .ok (.aload_n 0, 1) := by decide +kernel
theorem dX8_tupleOf_28 : decode cX8_tupleOf 28 = .ok (.getfield 7, 3) := by decide +kernel
theorem dX8_tupleOf_31 : decode cX8_tupleOf 31 = .ok (.iconst 2, 1) := by decide +kernel
theorem dX8_tupleOf_32 : decode cX8_tupleOf 32 = .ok (.iload 4, 2) := by decide +kernel
theorem dX8_tupleOf_34 : decode cX8_tupleOf 34 = .ok (.iadd, 1) := by decide +kernel
theorem dX8_tupleOf_35 : decode cX8_tupleOf 35 = .ok (.iaload, 1) := by decide +kernel
theorem dX8_tupleOf_36 : decode cX8_tupleOf 36 = .ok (.imul, 1) := by decide +kernel
theorem dX8_tupleOf_37 : decode cX8_tupleOf 37 = .ok (.aload_n 0, 1) := by decide +kernel
theorem dX8_tupleOf_38 : decode cX8_tupleOf 38 = .ok (.iload_n 1, 1) := by decide +kernel
theorem dX8_tupleOf_39 : decode cX8_tupleOf 39 = .ok (.iload 4, 2) := by decide +kernel
theorem dX8_tupleOf_41 : decode cX8_tupleOf 41 = .ok (.invokevirtual 62, 3) := by decide +kernel
theorem dX8_tupleOf_44 : decode cX8_tupleOf 44 = .ok (.iadd, 1) := by decide +kernel
theorem dX8_tupleOf_45 : decode cX8_tupleOf 45 = .ok (.goto 4, 3) := by decide +kernel
theorem dX8_tupleOf_48 : decode cX8_tupleOf 48 = .ok (.iload_n 3, 1) := by decide +kernel
theorem dX8_tupleOf_49 : decode cX8_tupleOf 49 = .ok (.istore_n 3, 1) := by decide +kernel
theorem dX8_tupleOf_50 : decode cX8_tupleOf 50 = .ok (.iinc 4 1, 3) := by decide +kernel
theorem dX8_tupleOf_53 : decode cX8_tupleOf 53 = .ok (.goto (-48), 3) := by decide +kernel
theorem dX8_tupleOf_56 : decode cX8_tupleOf 56 = .ok (.iload_n 3, 1) := by decide +kernel
theorem dX8_tupleOf_57 : decode cX8_tupleOf 57 = .ok (.ireturn, 1) := by decide +kernel
theorem dX8_audits_0 : decode cX8_audits 0 = .ok (.iconst 0, 1) := by decide +kernel
theorem dX8_audits_1 : decode cX8_audits 1 = .ok (.istore_n 3, 1) := by decide +kernel
theorem dX8_audits_2 : decode cX8_audits 2 = .ok (.aload_n 0, 1) := by decide +kernel
theorem dX8_audits_3 : decode cX8_audits 3 = .ok (.iconst 0, 1) := by decide +kernel
theorem dX8_audits_4 : decode cX8_audits 4 = .ok (.putfield 123, 3) := by decide +kernel
theorem dX8_audits_7 : decode cX8_audits 7 = .ok (.aload_n 0, 1) := by decide +kernel
theorem dX8_audits_8 : decode cX8_audits 8 = .ok (.bipush 36, 2) := by decide +kernel
theorem dX8_audits_10 : decode cX8_audits 10 = .ok (.putfield 126, 3) := by decide +kernel
theorem dX8_audits_13 : decode cX8_audits 13 = .ok (.iconst 0, 1) := by decide +kernel
theorem dX8_audits_14 : decode cX8_audits 14 = .ok (.istore 4, 2) := by decide +kernel
theorem dX8_audits_16 : decode cX8_audits 16 = .ok (.iload 4, 2) := by decide +kernel
theorem dX8_audits_18 : decode cX8_audits 18 = .ok (.aload_n 0, 1) := by decide +kernel
theorem dX8_audits_19 : decode cX8_audits 19 = .ok (.getfield 7, 3) := by decide +kernel
theorem dX8_audits_22 : decode cX8_audits 22 = .ok (.iconst 0, 1) := by decide +kernel
theorem dX8_audits_23 : decode cX8_audits 23 = .ok (.iaload, 1) := by decide +kernel
theorem dX8_audits_24 : decode cX8_audits 24 = .ok (.if_icmp .ge 185, 3) := by decide +kernel
theorem dX8_audits_27 : decode cX8_audits 27 = .ok (.iload_n 2, 1) := by decide +kernel
theorem dX8_audits_28 : decode cX8_audits 28 = .ok (.iload 4, 2) := by decide +kernel
theorem dX8_audits_30 : decode cX8_audits 30 = .ok (.ishr, 1) := by decide +kernel
theorem dX8_audits_31 : decode cX8_audits 31 = .ok (.iconst 1, 1) := by decide +kernel
theorem dX8_audits_32 : decode cX8_audits 32 = .ok (.iand, 1) := by decide +kernel
theorem dX8_audits_33 : decode cX8_audits 33 = .ok (.ifCond .eq 10, 3) := by decide +kernel
theorem dX8_audits_36 : decode cX8_audits 36 = .ok (.iload 4, 2) := by decide +kernel
theorem dX8_audits_38 : decode cX8_audits 38 = .ok (.bipush 30, 2) := by decide +kernel
theorem dX8_audits_40 : decode cX8_audits 40 = .ok (.if_icmp .le 163, 3) := by decide +kernel
theorem dX8_audits_43 : decode cX8_audits 43 = .ok (.iconst 0, 1) := by decide +kernel
theorem dX8_audits_44 : decode cX8_audits 44 = .ok (.istore 5, 2) := by decide +kernel
theorem dX8_audits_46 : decode cX8_audits 46 = .ok (.iconst 1, 1) := by decide +kernel
theorem dX8_audits_47 : decode cX8_audits 47 = .ok (.istore 6, 2) := by decide +kernel
theorem dX8_audits_49 : decode cX8_audits 49 = .ok (.iconst 0, 1) := by decide +kernel
theorem dX8_audits_50 : decode cX8_audits 50 = .ok (.istore 7, 2) := by decide +kernel
theorem dX8_audits_52 : decode cX8_audits 52 = .ok (.iload 7, 2) := by decide +kernel
theorem dX8_audits_54 : decode cX8_audits 54 = .ok (.aload_n 0, 1) := by decide +kernel
theorem dX8_audits_55 : decode cX8_audits 55 = .ok (.getfield 7, 3) := by decide +kernel
theorem dX8_audits_58 : decode cX8_audits 58 = .ok (.iconst 0, 1) := by decide +kernel
theorem dX8_audits_59 : decode cX8_audits 59 = .ok (.iaload, 1) := by decide +kernel
theorem dX8_audits_60 : decode cX8_audits 60 = .ok (.if_icmp .ge 86, 3) := by decide +kernel
theorem dX8_audits_63 : decode cX8_audits 63 = .ok (.iload_n 2, 1) := by decide +kernel
theorem dX8_audits_64 : decode cX8_audits 64 = .ok (.iload 7, 2) := by decide +kernel
theorem dX8_audits_66 : decode cX8_audits 66 = .ok (.ishr, 1) := by decide +kernel
theorem dX8_audits_67 : decode cX8_audits 67 = .ok (.iconst 1, 1) := by decide +kernel
theorem dX8_audits_68 : decode cX8_audits 68 = .ok (.iand, 1) := by decide +kernel
theorem dX8_audits_69 : decode cX8_audits 69 = .ok (.ifCond .eq 10, 3) := by decide +kernel
theorem dX8_audits_72 : decode cX8_audits 72 = .ok (.iload 7, 2) := by decide +kernel
theorem dX8_audits_74 : decode cX8_audits 74 = .ok (.bipush 30, 2) := by decide +kernel
theorem dX8_audits_76 : decode cX8_audits 76 = .ok (.if_icmp .le 24, 3) := by decide +kernel
theorem dX8_audits_79 : decode cX8_audits 79 = .ok (.aload_n 0, 1) := by decide +kernel
theorem dX8_audits_80 : decode cX8_audits 80 = .ok (.iload 7, 2) := by decide +kernel
theorem dX8_audits_82 : decode cX8_audits 82 = .ok (.iload_n 1, 1) := by decide +kernel
theorem dX8_audits_83 : decode cX8_audits 83 = .ok (.invokevirtual 129, 3) := by decide +kernel
theorem dX8_audits_86 : decode cX8_audits 86 = .ok (.aload_n 0, 1) := by decide +kernel
theorem dX8_audits_87 : decode cX8_audits 87 = .ok (.iload 4, 2) := by decide +kernel
theorem dX8_audits_89 : decode cX8_audits 89 = .ok (.iload_n 1, 1) := by decide +kernel
theorem dX8_audits_90 : decode cX8_audits 90 = .ok (.invokevirtual 129, 3) := by decide +kernel
theorem dX8_audits_93 : decode cX8_audits 93 = .ok (.if_icmp .ne 7, 3) := by decide +kernel
theorem dX8_audits_96 : decode cX8_audits 96 = .ok (.iconst 1, 1) := by decide +kernel
theorem dX8_audits_97 : decode cX8_audits 97 = .ok (.goto 4, 3) := by decide +kernel
theorem dX8_audits_100 : decode cX8_audits 100 = .ok (.iconst 0, 1) := by decide +kernel
theorem dX8_audits_101 : decode cX8_audits 101 = .ok (.istore 8, 2) := by decide +kernel
theorem dX8_audits_103 : decode cX8_audits 103 = .ok (.iload 5, 2) := by decide +kernel
theorem dX8_audits_105 : decode cX8_audits 105 = .ok (.iload 8, 2) := by decide +kernel
theorem dX8_audits_107 : decode cX8_audits 107 = .ok (.ifCond .eq 7, 3) := by decide +kernel
theorem dX8_audits_110 : decode cX8_audits 110 = .ok (.iconst 1, 1) := by decide +kernel
theorem dX8_audits_111 : decode cX8_audits 111 = .ok (.goto 4, 3) := by decide +kernel
theorem dX8_audits_114 : decode cX8_audits 114 = .ok (.iconst 0, 1) := by decide +kernel
theorem dX8_audits_115 : decode cX8_audits 115 = .ok (.iadd, 1) := by decide +kernel
theorem dX8_audits_116 : decode cX8_audits 116 = .ok (.istore 5, 2) := by decide +kernel
theorem dX8_audits_118 : decode cX8_audits 118 = .ok (.iload 6, 2) := by decide +kernel
theorem dX8_audits_120 : decode cX8_audits 120 = .ok (.iload 8, 2) := by decide +kernel
theorem dX8_audits_122 : decode cX8_audits 122 = .ok (.ifCond .eq 10, 3) := by decide +kernel
theorem dX8_audits_125 : decode cX8_audits 125 = .ok (.iload 7, 2) := by decide +kernel
theorem dX8_audits_127 : decode cX8_audits 127 = .ok (.iload 4, 2) := by decide +kernel
theorem dX8_audits_129 : decode cX8_audits 129 = .ok (.if_icmp .lt 7, 3) := by decide +kernel
theorem dX8_audits_132 : decode cX8_audits 132 = .ok (.iconst 1, 1) := by decide +kernel
theorem dX8_audits_133 : decode cX8_audits 133 = .ok (.goto 4, 3) := by decide +kernel
theorem dX8_audits_136 : decode cX8_audits 136 = .ok (.iconst 0, 1) := by decide +kernel
theorem dX8_audits_137 : decode cX8_audits 137 = .ok (.iand, 1) := by decide +kernel
theorem dX8_audits_138 : decode cX8_audits 138 = .ok (.istore 6, 2) := by decide +kernel
theorem dX8_audits_140 : decode cX8_audits 140 = .ok (.iinc 7 1, 3) := by decide +kernel
theorem dX8_audits_143 : decode cX8_audits 143 = .ok (.goto (-91), 3) := by decide +kernel
theorem dX8_audits_146 : decode cX8_audits 146 = .ok (.iload_n 3, 1) := by decide +kernel
theorem dX8_audits_147 : decode cX8_audits 147 = .ok (.iload 6, 2) := by decide +kernel
theorem dX8_audits_149 : decode cX8_audits 149 = .ok (.ifCond .eq 7, 3) := by decide +kernel
theorem dX8_audits_152 : decode cX8_audits 152 = .ok (.iconst 1, 1) := by decide +kernel
theorem dX8_audits_153 : decode cX8_audits 153 = .ok (.goto 4, 3) := by decide +kernel
theorem dX8_audits_156 : decode cX8_audits 156 = .ok (.iconst 0, 1) := by decide +kernel
theorem dX8_audits_157 : decode cX8_audits 157 = .ok (.iadd, 1) := by decide +kernel
theorem dX8_audits_158 : decode cX8_audits 158 = .ok (.istore_n 3, 1) := by decide +kernel
theorem dX8_audits_159 : decode cX8_audits 159 = .ok (.aload_n 0, 1) := by decide +kernel
theorem dX8_audits_160 : decode cX8_audits 160 = .ok (.iload 5, 2) := by decide +kernel
theorem dX8_audits_162 : decode cX8_audits 162 = .ok (.aload_n 0, 1) := by decide +kernel
theorem dX8_audits_163 : decode cX8_audits 163 = .ok (.getfield 123, 3) := by decide +kernel
theorem dX8_audits_166 : decode cX8_audits 166 = .ok (.if_icmp .le 8, 3) := by decide +kernel
theorem dX8_audits_169 : decode cX8_audits 169 = .ok (.iload 5, 2) := by decide +kernel
theorem dX8_audits_171 : decode cX8_audits 171 = .ok (.goto 7, 3) := by decide +kernel
theorem dX8_audits_174 : decode cX8_audits 174 = .ok (.aload_n 0, 1) := by decide +kernel
theorem dX8_audits_175 : decode cX8_audits 175 = .ok (.getfield 123, 3) := by decide +kernel
theorem dX8_audits_178 : decode cX8_audits 178 = .ok (.putfield 123, 3) := by decide +kernel
theorem dX8_audits_181 : decode cX8_audits 181 = .ok (.aload_n 0, 1) := by decide +kernel
theorem dX8_audits_182 : decode cX8_audits 182 = .ok (.iload 5, 2) := by decide +kernel
theorem dX8_audits_184 : decode cX8_audits 184 = .ok (.aload_n 0, 1) := by decide +kernel
theorem dX8_audits_185 : decode cX8_audits 185 = .ok (.getfield 126, 3) := by decide +kernel
theorem dX8_audits_188 : decode cX8_audits 188 = .ok (.if_icmp .ge 8, 3) := by decide +kernel
theorem dX8_audits_191 : decode cX8_audits 191 = .ok (.iload 5, 2) := by decide +kernel
theorem dX8_audits_193 : decode cX8_audits 193 = .ok (.goto 7, 3) := by decide +kernel
theorem dX8_audits_196 : decode cX8_audits 196 = .ok (.aload_n 0, 1) := by decide +kernel
theorem dX8_audits_197 : decode cX8_audits 197 = .ok (.getfield 126, 3) := by decide +kernel
theorem dX8_audits_200 : decode cX8_audits 200 = .ok (.putfield 126, 3) := by decide +kernel
theorem dX8_audits_203 : decode cX8_audits 203 = .ok (.iinc 4 1, 3) := by decide +kernel
theorem dX8_audits_206 : decode cX8_audits 206 = .ok (.goto (-190), 3) := by decide +kernel
theorem dX8_audits_209 : decode cX8_audits 209 = .ok (.aload_n 0, 1) := by decide +kernel
theorem dX8_audits_210 : decode cX8_audits 210 = .ok (.iload_n 3, 1) := by decide +kernel
theorem dX8_audits_211 : decode cX8_audits 211 = .ok (.aload_n 0, 1) := by decide +kernel
theorem dX8_audits_212 : decode cX8_audits 212 = .ok (.iload_n 1, 1) := by decide +kernel
theorem dX8_audits_213 : decode cX8_audits 213 = .ok (.invokevirtual 132, 3) := by decide +kernel
theorem dX8_audits_216 : decode cX8_audits 216 = .ok (.if_icmp .ge 7, 3) := by decide +kernel
theorem dX8_audits_219 : decode cX8_audits 219 = .ok (.iconst 0, 1) := by decide +kernel
theorem dX8_audits_220 : decode cX8_audits 220 = .ok (.goto 7, 3) := by decide +kernel
theorem dX8_audits_223 : decode cX8_audits 223 = .ok (.aload_n 0, 1) := by decide +kernel
theorem dX8_audits_224 : decode cX8_audits 224 = .ok (.getfield 126, 3) := by decide +kernel
theorem dX8_audits_227 : decode cX8_audits 227 = .ok (.putfield 126, 3) := by decide +kernel
theorem dX8_audits_230 : decode cX8_audits 230 = .ok (.return_, 1) := by decide +kernel
theorem dX8_isBalanced_0 : decode cX8_isBalanced 0 = .ok (.aload_n 0, 1) := by decide +kernel
theorem dX8_isBalanced_1 : decode cX8_isBalanced 1 = .ok (.iload_n 1, 1) := by decide +kernel
theorem dX8_isBalanced_2 : decode cX8_isBalanced 2 = .ok (.iload_n 2, 1) := by decide +kernel
theorem dX8_isBalanced_3 : decode cX8_isBalanced 3 = .ok (.invokevirtual 135, 3) := by decide +kernel
theorem dX8_isBalanced_6 : decode cX8_isBalanced 6 = .ok (.aload_n 0, 1) := by decide +kernel
theorem dX8_isBalanced_7 : decode cX8_isBalanced 7 = .ok (.getfield 126, 3) := by decide +kernel
theorem dX8_isBalanced_10 : decode cX8_isBalanced 10 = .ok (.aload_n 0, 1) := by decide +kernel
theorem dX8_isBalanced_11 : decode cX8_isBalanced 11 = .ok (.getfield 123, 3) := by decide +kernel
theorem dX8_isBalanced_14 : decode cX8_isBalanced 14 = .ok (.if_icmp .ne 7, 3) := by decide +kernel
theorem dX8_isBalanced_17 : decode cX8_isBalanced 17 = .ok (.iconst 1, 1) := by decide +kernel
theorem dX8_isBalanced_18 : decode cX8_isBalanced 18 = .ok (.goto 4, 3) := by decide +kernel
theorem dX8_isBalanced_21 : decode cX8_isBalanced 21 = .ok (.iconst 0, 1) := by decide +kernel
theorem dX8_isBalanced_22 : decode cX8_isBalanced 22 = .ok (.ireturn, 1) := by decide +kernel
theorem dX8_size_0 : decode cX8_size 0 = .ok (.iconst 0, 1) := by decide +kernel
theorem dX8_size_1 : decode cX8_size 1 = .ok (.istore_n 1, 1) := by decide +kernel
theorem dX8_size_2 : decode cX8_size 2 = .ok (.iconst 0, 1) := by decide +kernel
theorem dX8_size_3 : decode cX8_size 3 = .ok (.istore_n 2, 1) := by decide +kernel
theorem dX8_size_4 : decode cX8_size 4 = .ok (.iload_n 2, 1) := by decide +kernel
theorem dX8_size_5 : decode cX8_size 5 = .ok (.bipush 7, 2) := by decide +kernel
theorem dX8_size_7 : decode cX8_size 7 = .ok (.if_icmp .ge 17, 3) := by decide +kernel
theorem dX8_size_10 : decode cX8_size 10 = .ok (.iload_n 1, 1) := by decide +kernel
theorem dX8_size_11 : decode cX8_size 11 = .ok (.iload_n 0, 1) := by decide +kernel
theorem dX8_size_12 : decode cX8_size 12 = .ok (.iload_n 2, 1) := by decide +kernel
theorem dX8_size_13 : decode cX8_size 13 = .ok (.ishr, 1) := by decide +kernel
theorem dX8_size_14 : decode cX8_size 14 = .ok (.iconst 1, 1) := by decide +kernel
theorem dX8_size_15 : decode cX8_size 15 = .ok (.iand, 1) := by decide +kernel
theorem dX8_size_16 : decode cX8_size 16 = .ok (.iadd, 1) := by decide +kernel
theorem dX8_size_17 : decode cX8_size 17 = .ok (.istore_n 1, 1) := by decide +kernel
theorem dX8_size_18 : decode cX8_size 18 = .ok (.iinc 2 1, 3) := by decide +kernel
theorem dX8_size_21 : decode cX8_size 21 = .ok (.goto (-17), 3) := by decide +kernel
theorem dX8_size_24 : decode cX8_size 24 = .ok (.iload_n 1, 1) := by decide +kernel
theorem dX8_size_25 : decode cX8_size 25 = .ok (.ireturn, 1) := by decide +kernel
theorem dX8_unbalanced_0 : decode cX8_unbalanced 0 = .ok (.iconst 0, 1) := by decide +kernel
theorem dX8_unbalanced_1 : decode cX8_unbalanced 1 = .ok (.istore_n 3, 1) := by decide +kernel
theorem dX8_unbalanced_2 : decode cX8_unbalanced 2 = .ok (.iconst 0, 1) := by decide +kernel
theorem dX8_unbalanced_3 : decode cX8_unbalanced 3 = .ok (.istore 4, 2) := by decide +kernel
theorem dX8_unbalanced_5 : decode cX8_unbalanced 5 = .ok (.iload 4, 2) := by decide +kernel
theorem dX8_unbalanced_7 : decode cX8_unbalanced 7 = .ok (.iconst 1, 1) := by decide +kernel
theorem dX8_unbalanced_8 : decode cX8_unbalanced 8 = .ok (.aload_n 0, 1) := by decide +kernel
theorem dX8_unbalanced_9 : decode cX8_unbalanced 9 = .ok (.getfield 7, 3) := by decide +kernel
theorem dX8_unbalanced_12 : decode cX8_unbalanced 12 = .ok (.iconst 1, 1) := by decide +kernel
theorem dX8_unbalanced_13 : decode cX8_unbalanced 13 = .ok (.iaload, 1) := by decide +kernel
theorem dX8_unbalanced_14 : decode cX8_unbalanced 14 = .ok (.ishl, 1) := by decide +kernel
theorem dX8_unbalanced_15 : decode cX8_unbalanced 15 = .ok (.if_icmp .ge 36, 3) := by decide +kernel
theorem dX8_unbalanced_18 : decode cX8_unbalanced 18 = .ok (.iload_n 3, 1) := by decide +kernel
theorem dX8_unbalanced_19 : decode cX8_unbalanced 19 = .ok (.iload 4, 2) := by decide +kernel
theorem dX8_unbalanced_21 : decode cX8_unbalanced 21 = .ok (.invokestatic 138, 3) := by decide +kernel
theorem dX8_unbalanced_24 : decode cX8_unbalanced 24 = .ok (.iload_n 1, 1) := by decide +kernel
theorem dX8_unbalanced_25 : decode cX8_unbalanced 25 = .ok (.if_icmp .ne 17, 3) := by decide +kernel
theorem dX8_unbalanced_28 : decode cX8_unbalanced 28 = .ok (.aload_n 0, 1) := by decide +kernel
theorem dX8_unbalanced_29 : decode cX8_unbalanced 29 = .ok (.iload 4, 2) := by decide +kernel
theorem dX8_unbalanced_31 : decode cX8_unbalanced 31 = .ok (.iload_n 2, 1) := by decide +kernel
theorem dX8_unbalanced_32 : decode cX8_unbalanced 32 = .ok (.invokevirtual 141, 3) := by decide +kernel
theorem dX8_unbalanced_35 : decode cX8_unbalanced 35 = .ok (.ifCond .ne 7, 3) := by decide +kernel
theorem dX8_unbalanced_38 : decode cX8_unbalanced 38 = .ok (.iconst 1, 1) := by decide +kernel
theorem dX8_unbalanced_39 : decode cX8_unbalanced 39 = .ok (.goto 4, 3) := by decide +kernel
theorem dX8_unbalanced_42 : decode cX8_unbalanced 42 = .ok (.iconst 0, 1) := by decide +kernel
theorem dX8_unbalanced_43 : decode cX8_unbalanced 43 = .ok (.iadd, 1) := by decide +kernel
theorem dX8_unbalanced_44 : decode cX8_unbalanced 44 = .ok (.istore_n 3, 1) := by decide +kernel
theorem dX8_unbalanced_45 : decode cX8_unbalanced 45 = .ok (.iinc 4 1, 3) := by decide +kernel
theorem dX8_unbalanced_48 : decode cX8_unbalanced 48 = .ok (.goto (-43), 3) := by decide +kernel
theorem dX8_unbalanced_51 : decode cX8_unbalanced 51 = .ok (.iload_n 3, 1) := by decide +kernel
theorem dX8_unbalanced_52 : decode cX8_unbalanced 52 = .ok (.ireturn, 1) := by decide +kernel
theorem dX8_strength_0 : decode cX8_strength 0 = .ok (.aload_n 0, 1) := by decide +kernel
theorem dX8_strength_1 : decode cX8_strength 1 = .ok (.getfield 7, 3) := by decide +kernel
theorem dX8_strength_4 : decode cX8_strength 4 = .ok (.iconst 1, 1) := by decide +kernel
theorem dX8_strength_5 : decode cX8_strength 5 = .ok (.iaload, 1) := by decide +kernel
theorem dX8_strength_6 : decode cX8_strength 6 = .ok (.istore_n 1, 1) := by decide +kernel
theorem dX8_strength_7 : decode cX8_strength 7 = .ok (.aload_n 0, 1) := by decide +kernel
theorem dX8_strength_8 : decode cX8_strength 8 = .ok (.iload_n 1, 1) := by decide +kernel
theorem dX8_strength_9 : decode cX8_strength 9 = .ok (.iconst 0, 1) := by decide +kernel
theorem dX8_strength_10 : decode cX8_strength 10 = .ok (.invokevirtual 144, 3) := by decide +kernel
theorem dX8_strength_13 : decode cX8_strength 13 = .ok (.ifCond .le 9, 3) := by decide +kernel
theorem dX8_strength_16 : decode cX8_strength 16 = .ok (.iinc 1 (-1), 3) := by decide +kernel
theorem dX8_strength_19 : decode cX8_strength 19 = .ok (.goto (-12), 3) := by decide +kernel
theorem dX8_strength_22 : decode cX8_strength 22 = .ok (.iload_n 1, 1) := by decide +kernel
theorem dX8_strength_23 : decode cX8_strength 23 = .ok (.ireturn, 1) := by decide +kernel
theorem dX8_leastRows_0 : decode cX8_leastRows 0 = .ok (.iconst 1, 1) := by decide +kernel
theorem dX8_leastRows_1 : decode cX8_leastRows 1 = .ok (.istore_n 1, 1) := by decide +kernel
theorem dX8_leastRows_2 : decode cX8_leastRows 2 = .ok (.iconst 0, 1) := by decide +kernel
theorem dX8_leastRows_3 : decode cX8_leastRows 3 = .ok (.istore_n 2, 1) := by decide +kernel
theorem dX8_leastRows_4 : decode cX8_leastRows 4 = .ok (.iload_n 2, 1) := by decide +kernel
theorem dX8_leastRows_5 : decode cX8_leastRows 5 = .ok (.aload_n 0, 1) := by decide +kernel
theorem dX8_leastRows_6 : decode cX8_leastRows 6 = .ok (.getfield 7, 3) := by decide +kernel
theorem dX8_leastRows_9 : decode cX8_leastRows 9 = .ok (.iconst 1, 1) := by decide +kernel
theorem dX8_leastRows_10 : decode cX8_leastRows 10 = .ok (.iaload, 1) := by decide +kernel
theorem dX8_leastRows_11 : decode cX8_leastRows 11 = .ok (.if_icmp .ge 22, 3) := by decide +kernel
theorem dX8_leastRows_14 : decode cX8_leastRows 14 = .ok (.iload_n 1, 1) := by decide +kernel
theorem dX8_leastRows_15 : decode cX8_leastRows 15 = .ok (.aload_n 0, 1) := by decide +kernel
theorem dX8_leastRows_16 : decode cX8_leastRows 16 = .ok (.getfield 7, 3) := by decide +kernel
theorem dX8_leastRows_19 : decode cX8_leastRows 19 = .ok (.iconst 2, 1) := by decide +kernel
theorem dX8_leastRows_20 : decode cX8_leastRows 20 = .ok (.iload_n 2, 1) := by decide +kernel
theorem dX8_leastRows_21 : decode cX8_leastRows 21 = .ok (.iadd, 1) := by decide +kernel
theorem dX8_leastRows_22 : decode cX8_leastRows 22 = .ok (.iaload, 1) := by decide +kernel
theorem dX8_leastRows_23 : decode cX8_leastRows 23 = .ok (.iconst 1, 1) := by decide +kernel
theorem dX8_leastRows_24 : decode cX8_leastRows 24 = .ok (.isub, 1) := by decide +kernel
theorem dX8_leastRows_25 : decode cX8_leastRows 25 = .ok (.iadd, 1) := by decide +kernel
theorem dX8_leastRows_26 : decode cX8_leastRows 26 = .ok (.istore_n 1, 1) := by decide +kernel
theorem dX8_leastRows_27 : decode cX8_leastRows 27 = .ok (.iinc 2 1, 3) := by decide +kernel
theorem dX8_leastRows_30 : decode cX8_leastRows 30 = .ok (.goto (-26), 3) := by decide +kernel
theorem dX8_leastRows_33 : decode cX8_leastRows 33 = .ok (.iload_n 1, 1) := by decide +kernel
theorem dX8_leastRows_34 : decode cX8_leastRows 34 = .ok (.ireturn, 1) := by decide +kernel
theorem dX8_divisor_0 : decode cX8_divisor 0 = .ok (.iload_n 0, 1) := by decide +kernel
theorem dX8_divisor_1 : decode cX8_divisor 1 = .ok (.istore_n 2, 1) := by decide +kernel
theorem dX8_divisor_2 : decode cX8_divisor 2 = .ok (.iload_n 1, 1) := by decide +kernel
theorem dX8_divisor_3 : decode cX8_divisor 3 = .ok (.istore_n 3, 1) := by decide +kernel
theorem dX8_divisor_4 : decode cX8_divisor 4 = .ok (.iload_n 3, 1) := by decide +kernel
theorem dX8_divisor_5 : decode cX8_divisor 5 = .ok (.ifCond .eq 16, 3) := by decide +kernel
theorem dX8_divisor_8 : decode cX8_divisor 8 = .ok (.iload_n 2, 1) := by decide +kernel
theorem dX8_divisor_9 : decode cX8_divisor 9 = .ok (.iload_n 3, 1) := by decide +kernel
theorem dX8_divisor_10 : decode cX8_divisor 10 = .ok (.irem, 1) := by decide +kernel
theorem dX8_divisor_11 : decode cX8_divisor 11 = .ok (.istore 4, 2) := by decide +kernel
theorem dX8_divisor_13 : decode cX8_divisor 13 = .ok (.iload_n 3, 1) := by decide +kernel
theorem dX8_divisor_14 : decode cX8_divisor 14 = .ok (.istore_n 2, 1) := by decide +kernel
theorem dX8_divisor_15 : decode cX8_divisor 15 = .ok (.iload 4, 2) := by decide +kernel
theorem dX8_divisor_17 : decode cX8_divisor 17 = .ok (.istore_n 3, 1) := by decide +kernel
theorem dX8_divisor_18 : decode cX8_divisor 18 = .ok (.goto (-14), 3) := by decide +kernel
theorem dX8_divisor_21 : decode cX8_divisor 21 = .ok (.iload_n 2, 1) := by decide +kernel
theorem dX8_divisor_22 : decode cX8_divisor 22 = .ok (.ireturn, 1) := by decide +kernel
theorem dX8_leastMultiple_0 : decode cX8_leastMultiple 0 = .ok (.iconst 1, 1) := by decide +kernel
theorem dX8_leastMultiple_1 : decode cX8_leastMultiple 1 = .ok (.istore_n 1, 1) := by decide +kernel
theorem dX8_leastMultiple_2 : decode cX8_leastMultiple 2 = .ok (.iconst 0, 1) := by decide +kernel
theorem dX8_leastMultiple_3 : decode cX8_leastMultiple 3 = .ok (.istore_n 2, 1) := by decide +kernel
theorem dX8_leastMultiple_4 : decode cX8_leastMultiple 4 = .ok (.iload_n 2, 1) := by decide +kernel
theorem dX8_leastMultiple_5 : decode cX8_leastMultiple 5 = .ok (.aload_n 0, 1) := by decide +kernel
theorem dX8_leastMultiple_6 : decode cX8_leastMultiple 6 = .ok (.getfield 7, 3) := by decide +kernel
theorem dX8_leastMultiple_9 : decode cX8_leastMultiple 9 = .ok (.iconst 1, 1) := by decide +kernel
theorem dX8_leastMultiple_10 : decode cX8_leastMultiple 10 = .ok (.iaload, 1) := by decide +kernel
theorem dX8_leastMultiple_11 : decode cX8_leastMultiple 11 = .ok (.if_icmp .ge 53, 3) := by decide +kernel
theorem dX8_leastMultiple_14 : decode cX8_leastMultiple 14 = .ok (.iconst 0, 1) := by decide +kernel
theorem dX8_leastMultiple_15 : decode cX8_leastMultiple 15 = .ok (.istore_n 3, 1) := by decide +kernel
theorem dX8_leastMultiple_16 : decode cX8_leastMultiple 16 = .ok (.iload_n 3, 1) := by decide +kernel
theorem dX8_leastMultiple_17 : decode cX8_leastMultiple 17 = .ok (.iload_n 2, 1) := by decide +kernel
theorem dX8_leastMultiple_18 : decode cX8_leastMultiple 18 = .ok (.if_icmp .ge 40, 3) := by decide +kernel
theorem dX8_leastMultiple_21 : decode cX8_leastMultiple 21 = .ok (.aload_n 0, 1) := by decide +kernel
theorem dX8_leastMultiple_22 : decode cX8_leastMultiple 22 = .ok (.getfield 7, 3) := by decide +kernel
theorem dX8_leastMultiple_25 : decode cX8_leastMultiple 25 = .ok (.iconst 2, 1) := by decide +kernel
theorem dX8_leastMultiple_26 : decode cX8_leastMultiple 26 = .ok (.iload_n 3, 1) := by decide +kernel
theorem dX8_leastMultiple_27 : decode cX8_leastMultiple 27 = .ok (.iadd, 1) := by decide +kernel
theorem dX8_leastMultiple_28 : decode cX8_leastMultiple 28 = .ok (.iaload, 1) := by decide +kernel
theorem dX8_leastMultiple_29 : decode cX8_leastMultiple 29 = .ok (.aload_n 0, 1) := by decide +kernel
theorem dX8_leastMultiple_30 : decode cX8_leastMultiple 30 = .ok (.getfield 7, 3) := by decide +kernel
theorem dX8_leastMultiple_33 : decode cX8_leastMultiple 33 = .ok (.iconst 2, 1) := by decide +kernel
theorem dX8_leastMultiple_34 : decode cX8_leastMultiple 34 = .ok (.iload_n 2, 1) := by decide +kernel
theorem dX8_leastMultiple_35 : decode cX8_leastMultiple 35 = .ok (.iadd, 1) := by decide +kernel
theorem dX8_leastMultiple_36 : decode cX8_leastMultiple 36 = .ok (.iaload, 1) := by decide +kernel
theorem dX8_leastMultiple_37 : decode cX8_leastMultiple 37 = .ok (.imul, 1) := by decide +kernel
theorem dX8_leastMultiple_38 : decode cX8_leastMultiple 38 = .ok (.istore 4, 2) := by decide +kernel
theorem dX8_leastMultiple_40 : decode cX8_leastMultiple 40 = .ok (.iload_n 1, 1) := by decide +kernel
theorem dX8_leastMultiple_41 : decode cX8_leastMultiple 41 = .ok (.iload_n 1, 1) := by decide +kernel
theorem dX8_leastMultiple_42 : decode cX8_leastMultiple 42 = .ok (.iload 4, 2) := by decide +kernel
theorem dX8_leastMultiple_44 : decode cX8_leastMultiple 44 = .ok (.invokestatic 147, 3) := by decide +kernel
theorem dX8_leastMultiple_47 : decode cX8_leastMultiple 47 = .ok (.idiv, 1) := by decide +kernel
theorem dX8_leastMultiple_48 : decode cX8_leastMultiple 48 = .ok (.iload 4, 2) := by decide +kernel
theorem dX8_leastMultiple_50 : decode cX8_leastMultiple 50 = .ok (.imul, 1) := by decide +kernel
theorem dX8_leastMultiple_51 : decode cX8_leastMultiple 51 = .ok (.istore_n 1, 1) := by decide +kernel
theorem dX8_leastMultiple_52 : decode cX8_leastMultiple 52 = .ok (.iinc 3 1, 3) := by decide +kernel
theorem dX8_leastMultiple_55 : decode cX8_leastMultiple 55 = .ok (.goto (-39), 3) := by decide +kernel
theorem dX8_leastMultiple_58 : decode cX8_leastMultiple 58 = .ok (.iinc 2 1, 3) := by decide +kernel
theorem dX8_leastMultiple_61 : decode cX8_leastMultiple 61 = .ok (.goto (-57), 3) := by decide +kernel
theorem dX8_leastMultiple_64 : decode cX8_leastMultiple 64 = .ok (.iload_n 1, 1) := by decide +kernel
theorem dX8_leastMultiple_65 : decode cX8_leastMultiple 65 = .ok (.ireturn, 1) := by decide +kernel
theorem dX8_told_0 : decode cX8_told 0 = .ok (.iload_n 1, 1) := by decide +kernel
theorem dX8_told_1 : decode cX8_told 1 = .ok (.tableswitch 108 0 8 #[51, 58, 65, 70, 75, 88, 93, 98, 103], 51) := by decide +kernel
theorem dX8_told_52 : decode cX8_told 52 = .ok (.aload_n 0, 1) := by decide +kernel
theorem dX8_told_53 : decode cX8_told 53 = .ok (.getfield 7, 3) := by decide +kernel
theorem dX8_told_56 : decode cX8_told 56 = .ok (.iconst 0, 1) := by decide +kernel
theorem dX8_told_57 : decode cX8_told 57 = .ok (.iaload, 1) := by decide +kernel
theorem dX8_told_58 : decode cX8_told 58 = .ok (.ireturn, 1) := by decide +kernel
theorem dX8_told_59 : decode cX8_told 59 = .ok (.aload_n 0, 1) := by decide +kernel
theorem dX8_told_60 : decode cX8_told 60 = .ok (.getfield 7, 3) := by decide +kernel
theorem dX8_told_63 : decode cX8_told 63 = .ok (.iconst 1, 1) := by decide +kernel
theorem dX8_told_64 : decode cX8_told 64 = .ok (.iaload, 1) := by decide +kernel
theorem dX8_told_65 : decode cX8_told 65 = .ok (.ireturn, 1) := by decide +kernel
theorem dX8_told_66 : decode cX8_told 66 = .ok (.aload_n 0, 1) := by decide +kernel
theorem dX8_told_67 : decode cX8_told 67 = .ok (.invokevirtual 150, 3) := by decide +kernel
theorem dX8_told_70 : decode cX8_told 70 = .ok (.ireturn, 1) := by decide +kernel
theorem dX8_told_71 : decode cX8_told 71 = .ok (.aload_n 0, 1) := by decide +kernel
theorem dX8_told_72 : decode cX8_told 72 = .ok (.invokevirtual 153, 3) := by decide +kernel
theorem dX8_told_75 : decode cX8_told 75 = .ok (.ireturn, 1) := by decide +kernel
theorem dX8_told_76 : decode cX8_told 76 = .ok (.aload_n 0, 1) := by decide +kernel
theorem dX8_told_77 : decode cX8_told 77 = .ok (.invokevirtual 108, 3) := by decide +kernel
theorem dX8_told_80 : decode cX8_told 80 = .ok (.ifCond .eq 7, 3) := by decide +kernel
theorem dX8_told_83 : decode cX8_told 83 = .ok (.iconst 1, 1) := by decide +kernel
theorem dX8_told_84 : decode cX8_told 84 = .ok (.goto 4, 3) := by decide +kernel
theorem dX8_told_87 : decode cX8_told 87 = .ok (.iconst 0, 1) := by decide +kernel
theorem dX8_told_88 : decode cX8_told 88 = .ok (.ireturn, 1) := by decide +kernel
theorem dX8_told_89 : decode cX8_told 89 = .ok (.aload_n 0, 1) := by decide +kernel
theorem dX8_told_90 : decode cX8_told 90 = .ok (.invokevirtual 156, 3) := by decide +kernel
theorem dX8_told_93 : decode cX8_told 93 = .ok (.ireturn, 1) := by decide +kernel
theorem dX8_told_94 : decode cX8_told 94 = .ok (.aload_n 0, 1) := by decide +kernel
theorem dX8_told_95 : decode cX8_told 95 = .ok (.invokevirtual 159, 3) := by decide +kernel
theorem dX8_told_98 : decode cX8_told 98 = .ok (.ireturn, 1) := by decide +kernel
theorem dX8_told_99 : decode cX8_told 99 = .ok (.aload_n 0, 1) := by decide +kernel
theorem dX8_told_100 : decode cX8_told 100 = .ok (.getfield 47, 3) := by decide +kernel
theorem dX8_told_103 : decode cX8_told 103 = .ok (.ireturn, 1) := by decide +kernel
theorem dX8_told_104 : decode cX8_told 104 = .ok (.aload_n 0, 1) := by decide +kernel
theorem dX8_told_105 : decode cX8_told 105 = .ok (.getfield 112, 3) := by decide +kernel
theorem dX8_told_108 : decode cX8_told 108 = .ok (.ireturn, 1) := by decide +kernel
theorem dX8_told_109 : decode cX8_told 109 = .ok (.iconst (-1), 1) := by decide +kernel
theorem dX8_told_110 : decode cX8_told 110 = .ok (.ireturn, 1) := by decide +kernel
theorem dX8_levels_0 : decode cX8_levels 0 = .ok (.aload_n 0, 1) := by decide +kernel
theorem dX8_levels_1 : decode cX8_levels 1 = .ok (.iload_n 1, 1) := by decide +kernel
theorem dX8_levels_2 : decode cX8_levels 2 = .ok (.invokevirtual 66, 3) := by decide +kernel
theorem dX8_levels_5 : decode cX8_levels 5 = .ok (.ifCond .eq 14, 3) := by decide +kernel
theorem dX8_levels_8 : decode cX8_levels 8 = .ok (.aload_n 0, 1) := by decide +kernel
theorem dX8_levels_9 : decode cX8_levels 9 = .ok (.getfield 7, 3) := by decide +kernel
theorem dX8_levels_12 : decode cX8_levels 12 = .ok (.iconst 2, 1) := by decide +kernel
theorem dX8_levels_13 : decode cX8_levels 13 = .ok (.iload_n 1, 1) := by decide +kernel
theorem dX8_levels_14 : decode cX8_levels 14 = .ok (.iadd, 1) := by decide +kernel
theorem dX8_levels_15 : decode cX8_levels 15 = .ok (.iaload, 1) := by decide +kernel
theorem dX8_levels_16 : decode cX8_levels 16 = .ok (.goto 4, 3) := by decide +kernel
theorem dX8_levels_19 : decode cX8_levels 19 = .ok (.iconst (-1), 1) := by decide +kernel
theorem dX8_levels_20 : decode cX8_levels 20 = .ok (.ireturn, 1) := by decide +kernel
theorem dX8_cell_0 : decode cX8_cell 0 = .ok (.aload_n 0, 1) := by decide +kernel
theorem dX8_cell_1 : decode cX8_cell 1 = .ok (.iload_n 1, 1) := by decide +kernel
theorem dX8_cell_2 : decode cX8_cell 2 = .ok (.invokevirtual 73, 3) := by decide +kernel
theorem dX8_cell_5 : decode cX8_cell 5 = .ok (.ifCond .eq 20, 3) := by decide +kernel
theorem dX8_cell_8 : decode cX8_cell 8 = .ok (.aload_n 0, 1) := by decide +kernel
theorem dX8_cell_9 : decode cX8_cell 9 = .ok (.iload_n 2, 1) := by decide +kernel
theorem dX8_cell_10 : decode cX8_cell 10 = .ok (.invokevirtual 66, 3) := by decide +kernel
theorem dX8_cell_13 : decode cX8_cell 13 = .ok (.ifCond .eq 12, 3) := by decide +kernel
theorem dX8_cell_16 : decode cX8_cell 16 = .ok (.aload_n 0, 1) := by decide +kernel
theorem dX8_cell_17 : decode cX8_cell 17 = .ok (.iload_n 1, 1) := by decide +kernel
theorem dX8_cell_18 : decode cX8_cell 18 = .ok (.iload_n 2, 1) := by decide +kernel
theorem dX8_cell_19 : decode cX8_cell 19 = .ok (.invokevirtual 62, 3) := by decide +kernel
theorem dX8_cell_22 : decode cX8_cell 22 = .ok (.goto 4, 3) := by decide +kernel
theorem dX8_cell_25 : decode cX8_cell 25 = .ok (.iconst (-1), 1) := by decide +kernel
theorem dX8_cell_26 : decode cX8_cell 26 = .ok (.ireturn, 1) := by decide +kernel
theorem dX8_count_0 : decode cX8_count 0 = .ok (.iload_n 1, 1) := by decide +kernel
theorem dX8_count_1 : decode cX8_count 1 = .ok (.ifCond .lt 30, 3) := by decide +kernel
theorem dX8_count_4 : decode cX8_count 4 = .ok (.iload_n 1, 1) := by decide +kernel
theorem dX8_count_5 : decode cX8_count 5 = .ok (.iconst 1, 1) := by decide +kernel
theorem dX8_count_6 : decode cX8_count 6 = .ok (.aload_n 0, 1) := by decide +kernel
theorem dX8_count_7 : decode cX8_count 7 = .ok (.getfield 7, 3) := by decide +kernel
theorem dX8_count_10 : decode cX8_count 10 = .ok (.iconst 1, 1) := by decide +kernel
theorem dX8_count_11 : decode cX8_count 11 = .ok (.iaload, 1) := by decide +kernel
theorem dX8_count_12 : decode cX8_count 12 = .ok (.ishl, 1) := by decide +kernel
theorem dX8_count_13 : decode cX8_count 13 = .ok (.if_icmp .ge 18, 3) := by decide +kernel
theorem dX8_count_16 : decode cX8_count 16 = .ok (.iload_n 2, 1) := by decide +kernel
theorem dX8_count_17 : decode cX8_count 17 = .ok (.iconst 0, 1) := by decide +kernel
theorem dX8_count_18 : decode cX8_count 18 = .ok (.aload_n 0, 1) := by decide +kernel
theorem dX8_count_19 : decode cX8_count 19 = .ok (.iload_n 1, 1) := by decide +kernel
theorem dX8_count_20 : decode cX8_count 20 = .ok (.invokevirtual 132, 3) := by decide +kernel
theorem dX8_count_23 : decode cX8_count 23 = .ok (.iconst 1, 1) := by decide +kernel
theorem dX8_count_24 : decode cX8_count 24 = .ok (.isub, 1) := by decide +kernel
theorem dX8_count_25 : decode cX8_count 25 = .ok (.invokestatic 43, 3) := by decide +kernel
theorem dX8_count_28 : decode cX8_count 28 = .ok (.ifCond .ne 5, 3) := by decide +kernel
theorem dX8_count_31 : decode cX8_count 31 = .ok (.iconst (-1), 1) := by decide +kernel
theorem dX8_count_32 : decode cX8_count 32 = .ok (.ireturn, 1) := by decide +kernel
theorem dX8_count_33 : decode cX8_count 33 = .ok (.iconst 0, 1) := by decide +kernel
theorem dX8_count_34 : decode cX8_count 34 = .ok (.istore_n 3, 1) := by decide +kernel
theorem dX8_count_35 : decode cX8_count 35 = .ok (.iconst 0, 1) := by decide +kernel
theorem dX8_count_36 : decode cX8_count 36 = .ok (.istore 4, 2) := by decide +kernel
theorem dX8_count_38 : decode cX8_count 38 = .ok (.iload 4, 2) := by decide +kernel
theorem dX8_count_40 : decode cX8_count 40 = .ok (.aload_n 0, 1) := by decide +kernel
theorem dX8_count_41 : decode cX8_count 41 = .ok (.getfield 7, 3) := by decide +kernel
theorem dX8_count_44 : decode cX8_count 44 = .ok (.iconst 0, 1) := by decide +kernel
theorem dX8_count_45 : decode cX8_count 45 = .ok (.iaload, 1) := by decide +kernel
theorem dX8_count_46 : decode cX8_count 46 = .ok (.if_icmp .ge 28, 3) := by decide +kernel
theorem dX8_count_49 : decode cX8_count 49 = .ok (.iload_n 3, 1) := by decide +kernel
theorem dX8_count_50 : decode cX8_count 50 = .ok (.aload_n 0, 1) := by decide +kernel
theorem dX8_count_51 : decode cX8_count 51 = .ok (.iload 4, 2) := by decide +kernel
theorem dX8_count_53 : decode cX8_count 53 = .ok (.iload_n 1, 1) := by decide +kernel
theorem dX8_count_54 : decode cX8_count 54 = .ok (.invokevirtual 129, 3) := by decide +kernel
theorem dX8_count_57 : decode cX8_count 57 = .ok (.iload_n 2, 1) := by decide +kernel
theorem dX8_count_58 : decode cX8_count 58 = .ok (.if_icmp .ne 7, 3) := by decide +kernel
theorem dX8_count_61 : decode cX8_count 61 = .ok (.iconst 1, 1) := by decide +kernel
theorem dX8_count_62 : decode cX8_count 62 = .ok (.goto 4, 3) := by decide +kernel
theorem dX8_count_65 : decode cX8_count 65 = .ok (.iconst 0, 1) := by decide +kernel
theorem dX8_count_66 : decode cX8_count 66 = .ok (.iadd, 1) := by decide +kernel
theorem dX8_count_67 : decode cX8_count 67 = .ok (.istore_n 3, 1) := by decide +kernel
theorem dX8_count_68 : decode cX8_count 68 = .ok (.iinc 4 1, 3) := by decide +kernel
theorem dX8_count_71 : decode cX8_count 71 = .ok (.goto (-33), 3) := by decide +kernel
theorem dX8_count_74 : decode cX8_count 74 = .ok (.iload_n 3, 1) := by decide +kernel
theorem dX8_count_75 : decode cX8_count 75 = .ok (.ireturn, 1) := by decide +kernel
theorem dX8_audit_0 : decode cX8_audit 0 = .ok (.iload_n 1, 1) := by decide +kernel
theorem dX8_audit_1 : decode cX8_audit 1 = .ok (.iconst 0, 1) := by decide +kernel
theorem dX8_audit_2 : decode cX8_audit 2 = .ok (.aload_n 0, 1) := by decide +kernel
theorem dX8_audit_3 : decode cX8_audit 3 = .ok (.getfield 7, 3) := by decide +kernel
theorem dX8_audit_6 : decode cX8_audit 6 = .ok (.iconst 1, 1) := by decide +kernel
theorem dX8_audit_7 : decode cX8_audit 7 = .ok (.iaload, 1) := by decide +kernel
theorem dX8_audit_8 : decode cX8_audit 8 = .ok (.invokestatic 43, 3) := by decide +kernel
theorem dX8_audit_11 : decode cX8_audit 11 = .ok (.ifCond .eq 12, 3) := by decide +kernel
theorem dX8_audit_14 : decode cX8_audit 14 = .ok (.iload_n 2, 1) := by decide +kernel
theorem dX8_audit_15 : decode cX8_audit 15 = .ok (.iconst 0, 1) := by decide +kernel
theorem dX8_audit_16 : decode cX8_audit 16 = .ok (.iconst 3, 1) := by decide +kernel
theorem dX8_audit_17 : decode cX8_audit 17 = .ok (.invokestatic 43, 3) := by decide +kernel
theorem dX8_audit_20 : decode cX8_audit 20 = .ok (.ifCond .ne 5, 3) := by decide +kernel
theorem dX8_audit_23 : decode cX8_audit 23 = .ok (.iconst (-1), 1) := by decide +kernel
theorem dX8_audit_24 : decode cX8_audit 24 = .ok (.ireturn, 1) := by decide +kernel
theorem dX8_audit_25 : decode cX8_audit 25 = .ok (.iconst 0, 1) := by decide +kernel
theorem dX8_audit_26 : decode cX8_audit 26 = .ok (.istore_n 3, 1) := by decide +kernel
theorem dX8_audit_27 : decode cX8_audit 27 = .ok (.bipush (-9), 2) := by decide +kernel
theorem dX8_audit_29 : decode cX8_audit 29 = .ok (.istore 4, 2) := by decide +kernel
theorem dX8_audit_31 : decode cX8_audit 31 = .ok (.iconst 0, 1) := by decide +kernel
theorem dX8_audit_32 : decode cX8_audit 32 = .ok (.istore 5, 2) := by decide +kernel
theorem dX8_audit_34 : decode cX8_audit 34 = .ok (.bipush 36, 2) := by decide +kernel
theorem dX8_audit_36 : decode cX8_audit 36 = .ok (.istore 6, 2) := by decide +kernel
theorem dX8_audit_38 : decode cX8_audit 38 = .ok (.iconst 0, 1) := by decide +kernel
theorem dX8_audit_39 : decode cX8_audit 39 = .ok (.istore 7, 2) := by decide +kernel
theorem dX8_audit_41 : decode cX8_audit 41 = .ok (.iload 7, 2) := by decide +kernel
theorem dX8_audit_43 : decode cX8_audit 43 = .ok (.iconst 1, 1) := by decide +kernel
theorem dX8_audit_44 : decode cX8_audit 44 = .ok (.aload_n 0, 1) := by decide +kernel
theorem dX8_audit_45 : decode cX8_audit 45 = .ok (.getfield 7, 3) := by decide +kernel
theorem dX8_audit_48 : decode cX8_audit 48 = .ok (.iconst 1, 1) := by decide +kernel
theorem dX8_audit_49 : decode cX8_audit 49 = .ok (.iaload, 1) := by decide +kernel
theorem dX8_audit_50 : decode cX8_audit 50 = .ok (.ishl, 1) := by decide +kernel
theorem dX8_audit_51 : decode cX8_audit 51 = .ok (.if_icmp .ge 101, 3) := by decide +kernel
theorem dX8_audit_54 : decode cX8_audit 54 = .ok (.iload 7, 2) := by decide +kernel
theorem dX8_audit_56 : decode cX8_audit 56 = .ok (.invokestatic 138, 3) := by decide +kernel
theorem dX8_audit_59 : decode cX8_audit 59 = .ok (.iload_n 1, 1) := by decide +kernel
theorem dX8_audit_60 : decode cX8_audit 60 = .ok (.if_icmp .ne 86, 3) := by decide +kernel
theorem dX8_audit_63 : decode cX8_audit 63 = .ok (.aload_n 0, 1) := by decide +kernel
theorem dX8_audit_64 : decode cX8_audit 64 = .ok (.iload 7, 2) := by decide +kernel
theorem dX8_audit_66 : decode cX8_audit 66 = .ok (.iconst 0, 1) := by decide +kernel
theorem dX8_audit_67 : decode cX8_audit 67 = .ok (.invokevirtual 141, 3) := by decide +kernel
theorem dX8_audit_70 : decode cX8_audit 70 = .ok (.istore 8, 2) := by decide +kernel
theorem dX8_audit_72 : decode cX8_audit 72 = .ok (.iload_n 3, 1) := by decide +kernel
theorem dX8_audit_73 : decode cX8_audit 73 = .ok (.iload 8, 2) := by decide +kernel
theorem dX8_audit_75 : decode cX8_audit 75 = .ok (.ifCond .eq 7, 3) := by decide +kernel
theorem dX8_audit_78 : decode cX8_audit 78 = .ok (.iconst 0, 1) := by decide +kernel
theorem dX8_audit_79 : decode cX8_audit 79 = .ok (.goto 4, 3) := by decide +kernel
theorem dX8_audit_82 : decode cX8_audit 82 = .ok (.iconst 1, 1) := by decide +kernel
theorem dX8_audit_83 : decode cX8_audit 83 = .ok (.iadd, 1) := by decide +kernel
theorem dX8_audit_84 : decode cX8_audit 84 = .ok (.istore_n 3, 1) := by decide +kernel
theorem dX8_audit_85 : decode cX8_audit 85 = .ok (.iload 8, 2) := by decide +kernel
theorem dX8_audit_87 : decode cX8_audit 87 = .ok (.ifCond .ne 15, 3) := by decide +kernel
theorem dX8_audit_90 : decode cX8_audit 90 = .ok (.iload 4, 2) := by decide +kernel
theorem dX8_audit_92 : decode cX8_audit 92 = .ok (.bipush (-9), 2) := by decide +kernel
theorem dX8_audit_94 : decode cX8_audit 94 = .ok (.if_icmp .ne 8, 3) := by decide +kernel
theorem dX8_audit_97 : decode cX8_audit 97 = .ok (.iload 7, 2) := by decide +kernel
theorem dX8_audit_99 : decode cX8_audit 99 = .ok (.goto 5, 3) := by decide +kernel
theorem dX8_audit_102 : decode cX8_audit 102 = .ok (.iload 4, 2) := by decide +kernel
theorem dX8_audit_104 : decode cX8_audit 104 = .ok (.istore 4, 2) := by decide +kernel
theorem dX8_audit_106 : decode cX8_audit 106 = .ok (.aload_n 0, 1) := by decide +kernel
theorem dX8_audit_107 : decode cX8_audit 107 = .ok (.getfield 123, 3) := by decide +kernel
theorem dX8_audit_110 : decode cX8_audit 110 = .ok (.iload 5, 2) := by decide +kernel
theorem dX8_audit_112 : decode cX8_audit 112 = .ok (.if_icmp .le 10, 3) := by decide +kernel
theorem dX8_audit_115 : decode cX8_audit 115 = .ok (.aload_n 0, 1) := by decide +kernel
theorem dX8_audit_116 : decode cX8_audit 116 = .ok (.getfield 123, 3) := by decide +kernel
theorem dX8_audit_119 : decode cX8_audit 119 = .ok (.goto 5, 3) := by decide +kernel
theorem dX8_audit_122 : decode cX8_audit 122 = .ok (.iload 5, 2) := by decide +kernel
theorem dX8_audit_124 : decode cX8_audit 124 = .ok (.istore 5, 2) := by decide +kernel
theorem dX8_audit_126 : decode cX8_audit 126 = .ok (.aload_n 0, 1) := by decide +kernel
theorem dX8_audit_127 : decode cX8_audit 127 = .ok (.getfield 126, 3) := by decide +kernel
theorem dX8_audit_130 : decode cX8_audit 130 = .ok (.iload 6, 2) := by decide +kernel
theorem dX8_audit_132 : decode cX8_audit 132 = .ok (.if_icmp .ge 10, 3) := by decide +kernel
theorem dX8_audit_135 : decode cX8_audit 135 = .ok (.aload_n 0, 1) := by decide +kernel
theorem dX8_audit_136 : decode cX8_audit 136 = .ok (.getfield 126, 3) := by decide +kernel
theorem dX8_audit_139 : decode cX8_audit 139 = .ok (.goto 5, 3) := by decide +kernel
theorem dX8_audit_142 : decode cX8_audit 142 = .ok (.iload 6, 2) := by decide +kernel
theorem dX8_audit_144 : decode cX8_audit 144 = .ok (.istore 6, 2) := by decide +kernel
theorem dX8_audit_146 : decode cX8_audit 146 = .ok (.iinc 7 1, 3) := by decide +kernel
theorem dX8_audit_149 : decode cX8_audit 149 = .ok (.goto (-108), 3) := by decide +kernel
theorem dX8_audit_152 : decode cX8_audit 152 = .ok (.iload_n 2, 1) := by decide +kernel
theorem dX8_audit_153 : decode cX8_audit 153 = .ok (.ifCond .ne 7, 3) := by decide +kernel
theorem dX8_audit_156 : decode cX8_audit 156 = .ok (.iload_n 3, 1) := by decide +kernel
theorem dX8_audit_157 : decode cX8_audit 157 = .ok (.goto 25, 3) := by decide +kernel
theorem dX8_audit_160 : decode cX8_audit 160 = .ok (.iload_n 2, 1) := by decide +kernel
theorem dX8_audit_161 : decode cX8_audit 161 = .ok (.iconst 1, 1) := by decide +kernel
theorem dX8_audit_162 : decode cX8_audit 162 = .ok (.if_icmp .ne 8, 3) := by decide +kernel
theorem dX8_audit_165 : decode cX8_audit 165 = .ok (.iload 4, 2) := by decide +kernel
theorem dX8_audit_167 : decode cX8_audit 167 = .ok (.goto 15, 3) := by decide +kernel
theorem dX8_audit_170 : decode cX8_audit 170 = .ok (.iload_n 2, 1) := by decide +kernel
theorem dX8_audit_171 : decode cX8_audit 171 = .ok (.iconst 2, 1) := by decide +kernel
theorem dX8_audit_172 : decode cX8_audit 172 = .ok (.if_icmp .ne 8, 3) := by decide +kernel
theorem dX8_audit_175 : decode cX8_audit 175 = .ok (.iload 5, 2) := by decide +kernel
theorem dX8_audit_177 : decode cX8_audit 177 = .ok (.goto 5, 3) := by decide +kernel
theorem dX8_audit_180 : decode cX8_audit 180 = .ok (.iload 6, 2) := by decide +kernel
theorem dX8_audit_182 : decode cX8_audit 182 = .ok (.ireturn, 1) := by decide +kernel
theorem dX8_agreeing_0 : decode cX8_agreeing 0 = .ok (.iconst 0, 1) := by decide +kernel
theorem dX8_agreeing_1 : decode cX8_agreeing 1 = .ok (.istore_n 3, 1) := by decide +kernel
theorem dX8_agreeing_2 : decode cX8_agreeing 2 = .ok (.iconst 0, 1) := by decide +kernel
theorem dX8_agreeing_3 : decode cX8_agreeing 3 = .ok (.istore 4, 2) := by decide +kernel
theorem dX8_agreeing_5 : decode cX8_agreeing 5 = .ok (.iload 4, 2) := by decide +kernel
theorem dX8_agreeing_7 : decode cX8_agreeing 7 = .ok (.aload_n 0, 1) := by decide +kernel
theorem dX8_agreeing_8 : decode cX8_agreeing 8 = .ok (.getfield 7, 3) := by decide +kernel
theorem dX8_agreeing_11 : decode cX8_agreeing 11 = .ok (.iconst 1, 1) := by decide +kernel
theorem dX8_agreeing_12 : decode cX8_agreeing 12 = .ok (.iaload, 1) := by decide +kernel
theorem dX8_agreeing_13 : decode cX8_agreeing 13 = .ok (.if_icmp .ge 34, 3) := by decide +kernel
theorem dX8_agreeing_16 : decode cX8_agreeing 16 = .ok (.iload_n 3, 1) := by decide +kernel
theorem dX8_agreeing_17 : decode cX8_agreeing 17 = .ok (.aload_n 0, 1) := by decide +kernel
theorem dX8_agreeing_18 : decode cX8_agreeing 18 = .ok (.iload_n 1, 1) := by decide +kernel
theorem dX8_agreeing_19 : decode cX8_agreeing 19 = .ok (.iload 4, 2) := by decide +kernel
theorem dX8_agreeing_21 : decode cX8_agreeing 21 = .ok (.invokevirtual 62, 3) := by decide +kernel
theorem dX8_agreeing_24 : decode cX8_agreeing 24 = .ok (.aload_n 0, 1) := by decide +kernel
theorem dX8_agreeing_25 : decode cX8_agreeing 25 = .ok (.iload_n 2, 1) := by decide +kernel
theorem dX8_agreeing_26 : decode cX8_agreeing 26 = .ok (.iload 4, 2) := by decide +kernel
theorem dX8_agreeing_28 : decode cX8_agreeing 28 = .ok (.invokevirtual 62, 3) := by decide +kernel
theorem dX8_agreeing_31 : decode cX8_agreeing 31 = .ok (.if_icmp .ne 7, 3) := by decide +kernel
theorem dX8_agreeing_34 : decode cX8_agreeing 34 = .ok (.iconst 1, 1) := by decide +kernel
theorem dX8_agreeing_35 : decode cX8_agreeing 35 = .ok (.goto 4, 3) := by decide +kernel
theorem dX8_agreeing_38 : decode cX8_agreeing 38 = .ok (.iconst 0, 1) := by decide +kernel
theorem dX8_agreeing_39 : decode cX8_agreeing 39 = .ok (.iadd, 1) := by decide +kernel
theorem dX8_agreeing_40 : decode cX8_agreeing 40 = .ok (.istore_n 3, 1) := by decide +kernel
theorem dX8_agreeing_41 : decode cX8_agreeing 41 = .ok (.iinc 4 1, 3) := by decide +kernel
theorem dX8_agreeing_44 : decode cX8_agreeing 44 = .ok (.goto (-39), 3) := by decide +kernel
theorem dX8_agreeing_47 : decode cX8_agreeing 47 = .ok (.iload_n 3, 1) := by decide +kernel
theorem dX8_agreeing_48 : decode cX8_agreeing 48 = .ok (.ireturn, 1) := by decide +kernel
theorem dX8_agreement_0 : decode cX8_agreement 0 = .ok (.aload_n 0, 1) := by decide +kernel
theorem dX8_agreement_1 : decode cX8_agreement 1 = .ok (.iload_n 1, 1) := by decide +kernel
theorem dX8_agreement_2 : decode cX8_agreement 2 = .ok (.invokevirtual 73, 3) := by decide +kernel
theorem dX8_agreement_5 : decode cX8_agreement 5 = .ok (.ifCond .eq 20, 3) := by decide +kernel
theorem dX8_agreement_8 : decode cX8_agreement 8 = .ok (.aload_n 0, 1) := by decide +kernel
theorem dX8_agreement_9 : decode cX8_agreement 9 = .ok (.iload_n 2, 1) := by decide +kernel
theorem dX8_agreement_10 : decode cX8_agreement 10 = .ok (.invokevirtual 73, 3) := by decide +kernel
theorem dX8_agreement_13 : decode cX8_agreement 13 = .ok (.ifCond .eq 12, 3) := by decide +kernel
theorem dX8_agreement_16 : decode cX8_agreement 16 = .ok (.aload_n 0, 1) := by decide +kernel
theorem dX8_agreement_17 : decode cX8_agreement 17 = .ok (.iload_n 1, 1) := by decide +kernel
theorem dX8_agreement_18 : decode cX8_agreement 18 = .ok (.iload_n 2, 1) := by decide +kernel
theorem dX8_agreement_19 : decode cX8_agreement 19 = .ok (.invokevirtual 162, 3) := by decide +kernel
theorem dX8_agreement_22 : decode cX8_agreement 22 = .ok (.goto 4, 3) := by decide +kernel
theorem dX8_agreement_25 : decode cX8_agreement 25 = .ok (.iconst (-1), 1) := by decide +kernel
theorem dX8_agreement_26 : decode cX8_agreement 26 = .ok (.ireturn, 1) := by decide +kernel
theorem dX8_pairs_0 : decode cX8_pairs 0 = .ok (.iload_n 1, 1) := by decide +kernel
theorem dX8_pairs_1 : decode cX8_pairs 1 = .ok (.iconst 0, 1) := by decide +kernel
theorem dX8_pairs_2 : decode cX8_pairs 2 = .ok (.bipush 7, 2) := by decide +kernel
theorem dX8_pairs_4 : decode cX8_pairs 4 = .ok (.invokestatic 43, 3) := by decide +kernel
theorem dX8_pairs_7 : decode cX8_pairs 7 = .ok (.ifCond .ne 5, 3) := by decide +kernel
theorem dX8_pairs_10 : decode cX8_pairs 10 = .ok (.iconst (-1), 1) := by decide +kernel
theorem dX8_pairs_11 : decode cX8_pairs 11 = .ok (.ireturn, 1) := by decide +kernel
theorem dX8_pairs_12 : decode cX8_pairs 12 = .ok (.iconst 0, 1) := by decide +kernel
theorem dX8_pairs_13 : decode cX8_pairs 13 = .ok (.istore_n 2, 1) := by decide +kernel
theorem dX8_pairs_14 : decode cX8_pairs 14 = .ok (.iconst 0, 1) := by decide +kernel
theorem dX8_pairs_15 : decode cX8_pairs 15 = .ok (.istore_n 3, 1) := by decide +kernel
theorem dX8_pairs_16 : decode cX8_pairs 16 = .ok (.iload_n 3, 1) := by decide +kernel
theorem dX8_pairs_17 : decode cX8_pairs 17 = .ok (.aload_n 0, 1) := by decide +kernel
theorem dX8_pairs_18 : decode cX8_pairs 18 = .ok (.getfield 7, 3) := by decide +kernel
theorem dX8_pairs_21 : decode cX8_pairs 21 = .ok (.iconst 0, 1) := by decide +kernel
theorem dX8_pairs_22 : decode cX8_pairs 22 = .ok (.iaload, 1) := by decide +kernel
theorem dX8_pairs_23 : decode cX8_pairs 23 = .ok (.if_icmp .ge 43, 3) := by decide +kernel
theorem dX8_pairs_26 : decode cX8_pairs 26 = .ok (.iconst 0, 1) := by decide +kernel
theorem dX8_pairs_27 : decode cX8_pairs 27 = .ok (.istore 4, 2) := by decide +kernel
theorem dX8_pairs_29 : decode cX8_pairs 29 = .ok (.iload 4, 2) := by decide +kernel
theorem dX8_pairs_31 : decode cX8_pairs 31 = .ok (.iload_n 3, 1) := by decide +kernel
theorem dX8_pairs_32 : decode cX8_pairs 32 = .ok (.if_icmp .ge 28, 3) := by decide +kernel
theorem dX8_pairs_35 : decode cX8_pairs 35 = .ok (.iload_n 2, 1) := by decide +kernel
theorem dX8_pairs_36 : decode cX8_pairs 36 = .ok (.aload_n 0, 1) := by decide +kernel
theorem dX8_pairs_37 : decode cX8_pairs 37 = .ok (.iload_n 3, 1) := by decide +kernel
theorem dX8_pairs_38 : decode cX8_pairs 38 = .ok (.iload 4, 2) := by decide +kernel
theorem dX8_pairs_40 : decode cX8_pairs 40 = .ok (.invokevirtual 162, 3) := by decide +kernel
theorem dX8_pairs_43 : decode cX8_pairs 43 = .ok (.iload_n 1, 1) := by decide +kernel
theorem dX8_pairs_44 : decode cX8_pairs 44 = .ok (.if_icmp .ne 7, 3) := by decide +kernel
theorem dX8_pairs_47 : decode cX8_pairs 47 = .ok (.iconst 1, 1) := by decide +kernel
theorem dX8_pairs_48 : decode cX8_pairs 48 = .ok (.goto 4, 3) := by decide +kernel
theorem dX8_pairs_51 : decode cX8_pairs 51 = .ok (.iconst 0, 1) := by decide +kernel
theorem dX8_pairs_52 : decode cX8_pairs 52 = .ok (.iadd, 1) := by decide +kernel
theorem dX8_pairs_53 : decode cX8_pairs 53 = .ok (.istore_n 2, 1) := by decide +kernel
theorem dX8_pairs_54 : decode cX8_pairs 54 = .ok (.iinc 4 1, 3) := by decide +kernel
theorem dX8_pairs_57 : decode cX8_pairs 57 = .ok (.goto (-28), 3) := by decide +kernel
theorem dX8_pairs_60 : decode cX8_pairs 60 = .ok (.iinc 3 1, 3) := by decide +kernel
theorem dX8_pairs_63 : decode cX8_pairs 63 = .ok (.goto (-47), 3) := by decide +kernel
theorem dX8_pairs_66 : decode cX8_pairs 66 = .ok (.iload_n 2, 1) := by decide +kernel
theorem dX8_pairs_67 : decode cX8_pairs 67 = .ok (.ireturn, 1) := by decide +kernel
theorem dX8_placeOf_0 : decode cX8_placeOf 0 = .ok (.bipush 36, 2) := by decide +kernel
theorem dX8_placeOf_2 : decode cX8_placeOf 2 = .ok (.iload_n 2, 1) := by decide +kernel
theorem dX8_placeOf_3 : decode cX8_placeOf 3 = .ok (.imul, 1) := by decide +kernel
theorem dX8_placeOf_4 : decode cX8_placeOf 4 = .ok (.bipush 6, 2) := by decide +kernel
theorem dX8_placeOf_6 : decode cX8_placeOf 6 = .ok (.aload_n 0, 1) := by decide +kernel
theorem dX8_placeOf_7 : decode cX8_placeOf 7 = .ok (.iload_n 1, 1) := by decide +kernel
theorem dX8_placeOf_8 : decode cX8_placeOf 8 = .ok (.iload_n 2, 1) := by decide +kernel
theorem dX8_placeOf_9 : decode cX8_placeOf 9 = .ok (.invokevirtual 62, 3) := by decide +kernel
theorem dX8_placeOf_12 : decode cX8_placeOf 12 = .ok (.imul, 1) := by decide +kernel
theorem dX8_placeOf_13 : decode cX8_placeOf 13 = .ok (.iadd, 1) := by decide +kernel
theorem dX8_placeOf_14 : decode cX8_placeOf 14 = .ok (.iload_n 3, 1) := by decide +kernel
theorem dX8_placeOf_15 : decode cX8_placeOf 15 = .ok (.iadd, 1) := by decide +kernel
theorem dX8_placeOf_16 : decode cX8_placeOf 16 = .ok (.ireturn, 1) := by decide +kernel
theorem dX8_notes_0 : decode cX8_notes 0 = .ok (.aload_n 0, 1) := by decide +kernel
theorem dX8_notes_1 : decode cX8_notes 1 = .ok (.getfield 28, 3) := by decide +kernel
theorem dX8_notes_4 : decode cX8_notes 4 = .ok (.iload_n 2, 1) := by decide +kernel
theorem dX8_notes_5 : decode cX8_notes 5 = .ok (.dup2, 1) := by decide +kernel
theorem dX8_notes_6 : decode cX8_notes 6 = .ok (.iaload, 1) := by decide +kernel
theorem dX8_notes_7 : decode cX8_notes 7 = .ok (.iload_n 3, 1) := by decide +kernel
theorem dX8_notes_8 : decode cX8_notes 8 = .ok (.iadd, 1) := by decide +kernel
theorem dX8_notes_9 : decode cX8_notes 9 = .ok (.iastore, 1) := by decide +kernel
theorem dX8_notes_10 : decode cX8_notes 10 = .ok (.iconst 0, 1) := by decide +kernel
theorem dX8_notes_11 : decode cX8_notes 11 = .ok (.istore 4, 2) := by decide +kernel
theorem dX8_notes_13 : decode cX8_notes 13 = .ok (.iload 4, 2) := by decide +kernel
theorem dX8_notes_15 : decode cX8_notes 15 = .ok (.aload_n 0, 1) := by decide +kernel
theorem dX8_notes_16 : decode cX8_notes 16 = .ok (.getfield 7, 3) := by decide +kernel
theorem dX8_notes_19 : decode cX8_notes 19 = .ok (.iconst 1, 1) := by decide +kernel
theorem dX8_notes_20 : decode cX8_notes 20 = .ok (.iaload, 1) := by decide +kernel
theorem dX8_notes_21 : decode cX8_notes 21 = .ok (.if_icmp .ge 26, 3) := by decide +kernel
theorem dX8_notes_24 : decode cX8_notes 24 = .ok (.aload_n 0, 1) := by decide +kernel
theorem dX8_notes_25 : decode cX8_notes 25 = .ok (.getfield 31, 3) := by decide +kernel
theorem dX8_notes_28 : decode cX8_notes 28 = .ok (.aload_n 0, 1) := by decide +kernel
theorem dX8_notes_29 : decode cX8_notes 29 = .ok (.iload_n 1, 1) := by decide +kernel
theorem dX8_notes_30 : decode cX8_notes 30 = .ok (.iload 4, 2) := by decide +kernel
theorem dX8_notes_32 : decode cX8_notes 32 = .ok (.iload_n 2, 1) := by decide +kernel
theorem dX8_notes_33 : decode cX8_notes 33 = .ok (.invokevirtual 165, 3) := by decide +kernel
theorem dX8_notes_36 : decode cX8_notes 36 = .ok (.dup2, 1) := by decide +kernel
theorem dX8_notes_37 : decode cX8_notes 37 = .ok (.iaload, 1) := by decide +kernel
theorem dX8_notes_38 : decode cX8_notes 38 = .ok (.iload_n 3, 1) := by decide +kernel
theorem dX8_notes_39 : decode cX8_notes 39 = .ok (.iadd, 1) := by decide +kernel
theorem dX8_notes_40 : decode cX8_notes 40 = .ok (.iastore, 1) := by decide +kernel
theorem dX8_notes_41 : decode cX8_notes 41 = .ok (.iinc 4 1, 3) := by decide +kernel
theorem dX8_notes_44 : decode cX8_notes 44 = .ok (.goto (-31), 3) := by decide +kernel
theorem dX8_notes_47 : decode cX8_notes 47 = .ok (.return_, 1) := by decide +kernel
theorem dX8_mayBe_0 : decode cX8_mayBe 0 = .ok (.aload_n 0, 1) := by decide +kernel
theorem dX8_mayBe_1 : decode cX8_mayBe 1 = .ok (.getfield 28, 3) := by decide +kernel
theorem dX8_mayBe_4 : decode cX8_mayBe 4 = .ok (.iload_n 2, 1) := by decide +kernel
theorem dX8_mayBe_5 : decode cX8_mayBe 5 = .ok (.iaload, 1) := by decide +kernel
theorem dX8_mayBe_6 : decode cX8_mayBe 6 = .ok (.iload_n 3, 1) := by decide +kernel
theorem dX8_mayBe_7 : decode cX8_mayBe 7 = .ok (.imul, 1) := by decide +kernel
theorem dX8_mayBe_8 : decode cX8_mayBe 8 = .ok (.aload_n 0, 1) := by decide +kernel
theorem dX8_mayBe_9 : decode cX8_mayBe 9 = .ok (.getfield 7, 3) := by decide +kernel
theorem dX8_mayBe_12 : decode cX8_mayBe 12 = .ok (.iconst 0, 1) := by decide +kernel
theorem dX8_mayBe_13 : decode cX8_mayBe 13 = .ok (.iaload, 1) := by decide +kernel
theorem dX8_mayBe_14 : decode cX8_mayBe 14 = .ok (.if_icmp .lt 5, 3) := by decide +kernel
theorem dX8_mayBe_17 : decode cX8_mayBe 17 = .ok (.iconst 0, 1) := by decide +kernel
theorem dX8_mayBe_18 : decode cX8_mayBe 18 = .ok (.ireturn, 1) := by decide +kernel
theorem dX8_mayBe_19 : decode cX8_mayBe 19 = .ok (.iconst 0, 1) := by decide +kernel
theorem dX8_mayBe_20 : decode cX8_mayBe 20 = .ok (.istore 4, 2) := by decide +kernel
theorem dX8_mayBe_22 : decode cX8_mayBe 22 = .ok (.iload 4, 2) := by decide +kernel
theorem dX8_mayBe_24 : decode cX8_mayBe 24 = .ok (.aload_n 0, 1) := by decide +kernel
theorem dX8_mayBe_25 : decode cX8_mayBe 25 = .ok (.getfield 7, 3) := by decide +kernel
theorem dX8_mayBe_28 : decode cX8_mayBe 28 = .ok (.iconst 1, 1) := by decide +kernel
theorem dX8_mayBe_29 : decode cX8_mayBe 29 = .ok (.iaload, 1) := by decide +kernel
theorem dX8_mayBe_30 : decode cX8_mayBe 30 = .ok (.if_icmp .ge 45, 3) := by decide +kernel
theorem dX8_mayBe_33 : decode cX8_mayBe 33 = .ok (.aload_n 0, 1) := by decide +kernel
theorem dX8_mayBe_34 : decode cX8_mayBe 34 = .ok (.getfield 31, 3) := by decide +kernel
theorem dX8_mayBe_37 : decode cX8_mayBe 37 = .ok (.aload_n 0, 1) := by decide +kernel
theorem dX8_mayBe_38 : decode cX8_mayBe 38 = .ok (.iload_n 1, 1) := by decide +kernel
theorem dX8_mayBe_39 : decode cX8_mayBe 39 = .ok (.iload 4, 2) := by decide +kernel
theorem dX8_mayBe_41 : decode cX8_mayBe 41 = .ok (.iload_n 2, 1) := by decide +kernel
theorem dX8_mayBe_42 : decode cX8_mayBe 42 = .ok (.invokevirtual 165, 3) := by decide +kernel
theorem dX8_mayBe_45 : decode cX8_mayBe 45 = .ok (.iaload, 1) := by decide +kernel
theorem dX8_mayBe_46 : decode cX8_mayBe 46 = .ok (.iload_n 3, 1) := by decide +kernel
theorem dX8_mayBe_47 : decode cX8_mayBe 47 = .ok (.imul, 1) := by decide +kernel
theorem dX8_mayBe_48 : decode cX8_mayBe 48 = .ok (.aload_n 0, 1) := by decide +kernel
theorem dX8_mayBe_49 : decode cX8_mayBe 49 = .ok (.getfield 7, 3) := by decide +kernel
theorem dX8_mayBe_52 : decode cX8_mayBe 52 = .ok (.iconst 2, 1) := by decide +kernel
theorem dX8_mayBe_53 : decode cX8_mayBe 53 = .ok (.iload 4, 2) := by decide +kernel
theorem dX8_mayBe_55 : decode cX8_mayBe 55 = .ok (.iadd, 1) := by decide +kernel
theorem dX8_mayBe_56 : decode cX8_mayBe 56 = .ok (.iaload, 1) := by decide +kernel
theorem dX8_mayBe_57 : decode cX8_mayBe 57 = .ok (.imul, 1) := by decide +kernel
theorem dX8_mayBe_58 : decode cX8_mayBe 58 = .ok (.aload_n 0, 1) := by decide +kernel
theorem dX8_mayBe_59 : decode cX8_mayBe 59 = .ok (.getfield 7, 3) := by decide +kernel
theorem dX8_mayBe_62 : decode cX8_mayBe 62 = .ok (.iconst 0, 1) := by decide +kernel
theorem dX8_mayBe_63 : decode cX8_mayBe 63 = .ok (.iaload, 1) := by decide +kernel
theorem dX8_mayBe_64 : decode cX8_mayBe 64 = .ok (.if_icmp .lt 5, 3) := by decide +kernel
theorem dX8_mayBe_67 : decode cX8_mayBe 67 = .ok (.iconst 0, 1) := by decide +kernel
theorem dX8_mayBe_68 : decode cX8_mayBe 68 = .ok (.ireturn, 1) := by decide +kernel
theorem dX8_mayBe_69 : decode cX8_mayBe 69 = .ok (.iinc 4 1, 3) := by decide +kernel
theorem dX8_mayBe_72 : decode cX8_mayBe 72 = .ok (.goto (-50), 3) := by decide +kernel
theorem dX8_mayBe_75 : decode cX8_mayBe 75 = .ok (.iconst 1, 1) := by decide +kernel
theorem dX8_mayBe_76 : decode cX8_mayBe 76 = .ok (.ireturn, 1) := by decide +kernel
theorem dX8_canDivide_0 : decode cX8_canDivide 0 = .ok (.iconst 0, 1) := by decide +kernel
theorem dX8_canDivide_1 : decode cX8_canDivide 1 = .ok (.istore_n 2, 1) := by decide +kernel
theorem dX8_canDivide_2 : decode cX8_canDivide 2 = .ok (.iload_n 2, 1) := by decide +kernel
theorem dX8_canDivide_3 : decode cX8_canDivide 3 = .ok (.aload_n 0, 1) := by decide +kernel
theorem dX8_canDivide_4 : decode cX8_canDivide 4 = .ok (.getfield 7, 3) := by decide +kernel
theorem dX8_canDivide_7 : decode cX8_canDivide 7 = .ok (.iconst 1, 1) := by decide +kernel
theorem dX8_canDivide_8 : decode cX8_canDivide 8 = .ok (.iaload, 1) := by decide +kernel
theorem dX8_canDivide_9 : decode cX8_canDivide 9 = .ok (.if_icmp .ge 42, 3) := by decide +kernel
theorem dX8_canDivide_12 : decode cX8_canDivide 12 = .ok (.aload_n 0, 1) := by decide +kernel
theorem dX8_canDivide_13 : decode cX8_canDivide 13 = .ok (.getfield 7, 3) := by decide +kernel
theorem dX8_canDivide_16 : decode cX8_canDivide 16 = .ok (.iconst 0, 1) := by decide +kernel
theorem dX8_canDivide_17 : decode cX8_canDivide 17 = .ok (.iaload, 1) := by decide +kernel
theorem dX8_canDivide_18 : decode cX8_canDivide 18 = .ok (.iload_n 1, 1) := by decide +kernel
theorem dX8_canDivide_19 : decode cX8_canDivide 19 = .ok (.aload_n 0, 1) := by decide +kernel
theorem dX8_canDivide_20 : decode cX8_canDivide 20 = .ok (.getfield 7, 3) := by decide +kernel
theorem dX8_canDivide_23 : decode cX8_canDivide 23 = .ok (.iconst 2, 1) := by decide +kernel
theorem dX8_canDivide_24 : decode cX8_canDivide 24 = .ok (.iload_n 2, 1) := by decide +kernel
theorem dX8_canDivide_25 : decode cX8_canDivide 25 = .ok (.iadd, 1) := by decide +kernel
theorem dX8_canDivide_26 : decode cX8_canDivide 26 = .ok (.iaload, 1) := by decide +kernel
theorem dX8_canDivide_27 : decode cX8_canDivide 27 = .ok (.imul, 1) := by decide +kernel
theorem dX8_canDivide_28 : decode cX8_canDivide 28 = .ok (.irem, 1) := by decide +kernel
theorem dX8_canDivide_29 : decode cX8_canDivide 29 = .ok (.ifCond .ne 14, 3) := by decide +kernel
theorem dX8_canDivide_32 : decode cX8_canDivide 32 = .ok (.aload_n 0, 1) := by decide +kernel
theorem dX8_canDivide_33 : decode cX8_canDivide 33 = .ok (.iconst 1, 1) := by decide +kernel
theorem dX8_canDivide_34 : decode cX8_canDivide 34 = .ok (.iload_n 2, 1) := by decide +kernel
theorem dX8_canDivide_35 : decode cX8_canDivide 35 = .ok (.ishl, 1) := by decide +kernel
theorem dX8_canDivide_36 : decode cX8_canDivide 36 = .ok (.iconst 0, 1) := by decide +kernel
theorem dX8_canDivide_37 : decode cX8_canDivide 37 = .ok (.invokevirtual 141, 3) := by decide +kernel
theorem dX8_canDivide_40 : decode cX8_canDivide 40 = .ok (.ifCond .ne 5, 3) := by decide +kernel
theorem dX8_canDivide_43 : decode cX8_canDivide 43 = .ok (.iconst 0, 1) := by decide +kernel
theorem dX8_canDivide_44 : decode cX8_canDivide 44 = .ok (.ireturn, 1) := by decide +kernel
theorem dX8_canDivide_45 : decode cX8_canDivide 45 = .ok (.iinc 2 1, 3) := by decide +kernel
theorem dX8_canDivide_48 : decode cX8_canDivide 48 = .ok (.goto (-46), 3) := by decide +kernel
theorem dX8_canDivide_51 : decode cX8_canDivide 51 = .ok (.aload_n 0, 1) := by decide +kernel
theorem dX8_canDivide_52 : decode cX8_canDivide 52 = .ok (.getfield 7, 3) := by decide +kernel
theorem dX8_canDivide_55 : decode cX8_canDivide 55 = .ok (.iconst 0, 1) := by decide +kernel
theorem dX8_canDivide_56 : decode cX8_canDivide 56 = .ok (.iaload, 1) := by decide +kernel
theorem dX8_canDivide_57 : decode cX8_canDivide 57 = .ok (.iload_n 1, 1) := by decide +kernel
theorem dX8_canDivide_58 : decode cX8_canDivide 58 = .ok (.irem, 1) := by decide +kernel
theorem dX8_canDivide_59 : decode cX8_canDivide 59 = .ok (.ifCond .ne 7, 3) := by decide +kernel
theorem dX8_canDivide_62 : decode cX8_canDivide 62 = .ok (.iconst 1, 1) := by decide +kernel
theorem dX8_canDivide_63 : decode cX8_canDivide 63 = .ok (.goto 4, 3) := by decide +kernel
theorem dX8_canDivide_66 : decode cX8_canDivide 66 = .ok (.iconst 0, 1) := by decide +kernel
theorem dX8_canDivide_67 : decode cX8_canDivide 67 = .ok (.ireturn, 1) := by decide +kernel
theorem dX8_findsColumn_0 : decode cX8_findsColumn 0 = .ok (.aload_n 0, 1) := by decide +kernel
theorem dX8_findsColumn_1 : decode cX8_findsColumn 1 = .ok (.iload_n 1, 1) := by decide +kernel
theorem dX8_findsColumn_2 : decode cX8_findsColumn 2 = .ok (.invokevirtual 169, 3) := by decide +kernel
theorem dX8_findsColumn_5 : decode cX8_findsColumn 5 = .ok (.ifCond .ne 5, 3) := by decide +kernel
theorem dX8_findsColumn_8 : decode cX8_findsColumn 8 = .ok (.iconst 0, 1) := by decide +kernel
theorem dX8_findsColumn_9 : decode cX8_findsColumn 9 = .ok (.ireturn, 1) := by decide +kernel
theorem dX8_findsColumn_10 : decode cX8_findsColumn 10 = .ok (.iconst 0, 1) := by decide +kernel
theorem dX8_findsColumn_11 : decode cX8_findsColumn 11 = .ok (.istore_n 2, 1) := by decide +kernel
theorem dX8_findsColumn_12 : decode cX8_findsColumn 12 = .ok (.iload_n 2, 1) := by decide +kernel
theorem dX8_findsColumn_13 : decode cX8_findsColumn 13 = .ok (.sipush 252, 3) := by decide +kernel
theorem dX8_findsColumn_16 : decode cX8_findsColumn 16 = .ok (.if_icmp .ge 16, 3) := by decide +kernel
theorem dX8_findsColumn_19 : decode cX8_findsColumn 19 = .ok (.aload_n 0, 1) := by decide +kernel
theorem dX8_findsColumn_20 : decode cX8_findsColumn 20 = .ok (.getfield 31, 3) := by decide +kernel
theorem dX8_findsColumn_23 : decode cX8_findsColumn 23 = .ok (.iload_n 2, 1) := by decide +kernel
theorem dX8_findsColumn_24 : decode cX8_findsColumn 24 = .ok (.iconst 0, 1) := by decide +kernel
theorem dX8_findsColumn_25 : decode cX8_findsColumn 25 = .ok (.iastore, 1) := by decide +kernel
theorem dX8_findsColumn_26 : decode cX8_findsColumn 26 = .ok (.iinc 2 1, 3) := by decide +kernel
theorem dX8_findsColumn_29 : decode cX8_findsColumn 29 = .ok (.goto (-17), 3) := by decide +kernel
theorem dX8_findsColumn_32 : decode cX8_findsColumn 32 = .ok (.iconst 0, 1) := by decide +kernel
theorem dX8_findsColumn_33 : decode cX8_findsColumn 33 = .ok (.istore_n 2, 1) := by decide +kernel
theorem dX8_findsColumn_34 : decode cX8_findsColumn 34 = .ok (.iload_n 2, 1) := by decide +kernel
theorem dX8_findsColumn_35 : decode cX8_findsColumn 35 = .ok (.bipush 6, 2) := by decide +kernel
theorem dX8_findsColumn_37 : decode cX8_findsColumn 37 = .ok (.if_icmp .ge 16, 3) := by decide +kernel
theorem dX8_findsColumn_40 : decode cX8_findsColumn 40 = .ok (.aload_n 0, 1) := by decide +kernel
theorem dX8_findsColumn_41 : decode cX8_findsColumn 41 = .ok (.getfield 28, 3) := by decide +kernel
theorem dX8_findsColumn_44 : decode cX8_findsColumn 44 = .ok (.iload_n 2, 1) := by decide +kernel
theorem dX8_findsColumn_45 : decode cX8_findsColumn 45 = .ok (.iconst 0, 1) := by decide +kernel
theorem dX8_findsColumn_46 : decode cX8_findsColumn 46 = .ok (.iastore, 1) := by decide +kernel
theorem dX8_findsColumn_47 : decode cX8_findsColumn 47 = .ok (.iinc 2 1, 3) := by decide +kernel
theorem dX8_findsColumn_50 : decode cX8_findsColumn 50 = .ok (.goto (-16), 3) := by decide +kernel
theorem dX8_findsColumn_53 : decode cX8_findsColumn 53 = .ok (.iconst 0, 1) := by decide +kernel
theorem dX8_findsColumn_54 : decode cX8_findsColumn 54 = .ok (.istore_n 2, 1) := by decide +kernel
theorem dX8_findsColumn_55 : decode cX8_findsColumn 55 = .ok (.aload_n 0, 1) := by decide +kernel
theorem dX8_findsColumn_56 : decode cX8_findsColumn 56 = .ok (.getfield 25, 3) := by decide +kernel
theorem dX8_findsColumn_59 : decode cX8_findsColumn 59 = .ok (.iconst 0, 1) := by decide +kernel
theorem dX8_findsColumn_60 : decode cX8_findsColumn 60 = .ok (.iconst (-1), 1) := by decide +kernel
theorem dX8_findsColumn_61 : decode cX8_findsColumn 61 = .ok (.iastore, 1) := by decide +kernel
theorem dX8_findsColumn_62 : decode cX8_findsColumn 62 = .ok (.iload_n 2, 1) := by decide +kernel
theorem dX8_findsColumn_63 : decode cX8_findsColumn 63 = .ok (.ifCond .lt 102, 3) := by decide +kernel
theorem dX8_findsColumn_66 : decode cX8_findsColumn 66 = .ok (.iload_n 2, 1) := by decide +kernel
theorem dX8_findsColumn_67 : decode cX8_findsColumn 67 = .ok (.aload_n 0, 1) := by decide +kernel
theorem dX8_findsColumn_68 : decode cX8_findsColumn 68 = .ok (.getfield 7, 3) := by decide +kernel
theorem dX8_findsColumn_71 : decode cX8_findsColumn 71 = .ok (.iconst 0, 1) := by decide +kernel
theorem dX8_findsColumn_72 : decode cX8_findsColumn 72 = .ok (.iaload, 1) := by decide +kernel
theorem dX8_findsColumn_73 : decode cX8_findsColumn 73 = .ok (.if_icmp .ge 92, 3) := by decide +kernel
theorem dX8_findsColumn_76 : decode cX8_findsColumn 76 = .ok (.aload_n 0, 1) := by decide +kernel
theorem dX8_findsColumn_77 : decode cX8_findsColumn 77 = .ok (.getfield 25, 3) := by decide +kernel
theorem dX8_findsColumn_80 : decode cX8_findsColumn 80 = .ok (.iload_n 2, 1) := by decide +kernel
theorem dX8_findsColumn_81 : decode cX8_findsColumn 81 = .ok (.iaload, 1) := by decide +kernel
theorem dX8_findsColumn_82 : decode cX8_findsColumn 82 = .ok (.ifCond .lt 15, 3) := by decide +kernel
theorem dX8_findsColumn_85 : decode cX8_findsColumn 85 = .ok (.aload_n 0, 1) := by decide +kernel
theorem dX8_findsColumn_86 : decode cX8_findsColumn 86 = .ok (.iload_n 2, 1) := by decide +kernel
theorem dX8_findsColumn_87 : decode cX8_findsColumn 87 = .ok (.aload_n 0, 1) := by decide +kernel
theorem dX8_findsColumn_88 : decode cX8_findsColumn 88 = .ok (.getfield 25, 3) := by decide +kernel
theorem dX8_findsColumn_91 : decode cX8_findsColumn 91 = .ok (.iload_n 2, 1) := by decide +kernel
theorem dX8_findsColumn_92 : decode cX8_findsColumn 92 = .ok (.iaload, 1) := by decide +kernel
theorem dX8_findsColumn_93 : decode cX8_findsColumn 93 = .ok (.iconst (-1), 1) := by decide +kernel
theorem dX8_findsColumn_94 : decode cX8_findsColumn 94 = .ok (.invokevirtual 172, 3) := by decide +kernel
theorem dX8_findsColumn_97 : decode cX8_findsColumn 97 = .ok (.aload_n 0, 1) := by decide +kernel
theorem dX8_findsColumn_98 : decode cX8_findsColumn 98 = .ok (.getfield 25, 3) := by decide +kernel
theorem dX8_findsColumn_101 : decode cX8_findsColumn 101 = .ok (.iload_n 2, 1) := by decide +kernel
theorem dX8_findsColumn_102 : decode cX8_findsColumn 102 = .ok (.iaload, 1) := by decide +kernel
theorem dX8_findsColumn_103 : decode cX8_findsColumn 103 = .ok (.iconst 1, 1) := by decide +kernel
theorem dX8_findsColumn_104 : decode cX8_findsColumn 104 = .ok (.iadd, 1) := by decide +kernel
theorem dX8_findsColumn_105 : decode cX8_findsColumn 105 = .ok (.istore_n 3, 1) := by decide +kernel
theorem dX8_findsColumn_106 : decode cX8_findsColumn 106 = .ok (.iload_n 3, 1) := by decide +kernel
theorem dX8_findsColumn_107 : decode cX8_findsColumn 107 = .ok (.iload_n 1, 1) := by decide +kernel
theorem dX8_findsColumn_108 : decode cX8_findsColumn 108 = .ok (.if_icmp .ge 19, 3) := by decide +kernel
theorem dX8_findsColumn_111 : decode cX8_findsColumn 111 = .ok (.aload_n 0, 1) := by decide +kernel
theorem dX8_findsColumn_112 : decode cX8_findsColumn 112 = .ok (.iload_n 2, 1) := by decide +kernel
theorem dX8_findsColumn_113 : decode cX8_findsColumn 113 = .ok (.iload_n 3, 1) := by decide +kernel
theorem dX8_findsColumn_114 : decode cX8_findsColumn 114 = .ok (.iload_n 1, 1) := by decide +kernel
theorem dX8_findsColumn_115 : decode cX8_findsColumn 115 = .ok (.invokevirtual 175, 3) := by decide +kernel
theorem dX8_findsColumn_118 : decode cX8_findsColumn 118 = .ok (.ifCond .ne 9, 3) := by decide +kernel
theorem dX8_findsColumn_121 : decode cX8_findsColumn 121 = .ok (.iinc 3 1, 3) := by decide +kernel
theorem dX8_findsColumn_124 : decode cX8_findsColumn 124 = .ok (.goto (-18), 3) := by decide +kernel
theorem dX8_findsColumn_127 : decode cX8_findsColumn 127 = .ok (.aload_n 0, 1) := by decide +kernel
theorem dX8_findsColumn_128 : decode cX8_findsColumn 128 = .ok (.getfield 25, 3) := by decide +kernel
theorem dX8_findsColumn_131 : decode cX8_findsColumn 131 = .ok (.iload_n 2, 1) := by decide +kernel
theorem dX8_findsColumn_132 : decode cX8_findsColumn 132 = .ok (.iload_n 3, 1) := by decide +kernel
theorem dX8_findsColumn_133 : decode cX8_findsColumn 133 = .ok (.iastore, 1) := by decide +kernel
theorem dX8_findsColumn_134 : decode cX8_findsColumn 134 = .ok (.iload_n 3, 1) := by decide +kernel
theorem dX8_findsColumn_135 : decode cX8_findsColumn 135 = .ok (.iload_n 1, 1) := by decide +kernel
theorem dX8_findsColumn_136 : decode cX8_findsColumn 136 = .ok (.if_icmp .ne 9, 3) := by decide +kernel
theorem dX8_findsColumn_139 : decode cX8_findsColumn 139 = .ok (.iinc 2 (-1), 3) := by decide +kernel
theorem dX8_findsColumn_142 : decode cX8_findsColumn 142 = .ok (.goto 20, 3) := by decide +kernel
theorem dX8_findsColumn_145 : decode cX8_findsColumn 145 = .ok (.aload_n 0, 1) := by decide +kernel
theorem dX8_findsColumn_146 : decode cX8_findsColumn 146 = .ok (.iload_n 2, 1) := by decide +kernel
theorem dX8_findsColumn_147 : decode cX8_findsColumn 147 = .ok (.iload_n 3, 1) := by decide +kernel
theorem dX8_findsColumn_148 : decode cX8_findsColumn 148 = .ok (.iconst 1, 1) := by decide +kernel
theorem dX8_findsColumn_149 : decode cX8_findsColumn 149 = .ok (.invokevirtual 172, 3) := by decide +kernel
theorem dX8_findsColumn_152 : decode cX8_findsColumn 152 = .ok (.iinc 2 1, 3) := by decide +kernel
theorem dX8_findsColumn_155 : decode cX8_findsColumn 155 = .ok (.aload_n 0, 1) := by decide +kernel
theorem dX8_findsColumn_156 : decode cX8_findsColumn 156 = .ok (.getfield 25, 3) := by decide +kernel
theorem dX8_findsColumn_159 : decode cX8_findsColumn 159 = .ok (.iload_n 2, 1) := by decide +kernel
theorem dX8_findsColumn_160 : decode cX8_findsColumn 160 = .ok (.iconst (-1), 1) := by decide +kernel
theorem dX8_findsColumn_161 : decode cX8_findsColumn 161 = .ok (.iastore, 1) := by decide +kernel
theorem dX8_findsColumn_162 : decode cX8_findsColumn 162 = .ok (.goto (-100), 3) := by decide +kernel
theorem dX8_findsColumn_165 : decode cX8_findsColumn 165 = .ok (.iload_n 2, 1) := by decide +kernel
theorem dX8_findsColumn_166 : decode cX8_findsColumn 166 = .ok (.ifCond .lt 7, 3) := by decide +kernel
theorem dX8_findsColumn_169 : decode cX8_findsColumn 169 = .ok (.iconst 1, 1) := by decide +kernel
theorem dX8_findsColumn_170 : decode cX8_findsColumn 170 = .ok (.goto 4, 3) := by decide +kernel
theorem dX8_findsColumn_173 : decode cX8_findsColumn 173 = .ok (.iconst 0, 1) := by decide +kernel
theorem dX8_findsColumn_174 : decode cX8_findsColumn 174 = .ok (.ireturn, 1) := by decide +kernel
theorem dX8_isSmall_0 : decode cX8_isSmall 0 = .ok (.aload_n 0, 1) := by decide +kernel
theorem dX8_isSmall_1 : decode cX8_isSmall 1 = .ok (.getfield 7, 3) := by decide +kernel
theorem dX8_isSmall_4 : decode cX8_isSmall 4 = .ok (.iconst 0, 1) := by decide +kernel
theorem dX8_isSmall_5 : decode cX8_isSmall 5 = .ok (.iaload, 1) := by decide +kernel
theorem dX8_isSmall_6 : decode cX8_isSmall 6 = .ok (.iconst 1, 1) := by decide +kernel
theorem dX8_isSmall_7 : decode cX8_isSmall 7 = .ok (.iload_n 1, 1) := by decide +kernel
theorem dX8_isSmall_8 : decode cX8_isSmall 8 = .ok (.invokestatic 43, 3) := by decide +kernel
theorem dX8_isSmall_11 : decode cX8_isSmall 11 = .ok (.ireturn, 1) := by decide +kernel
theorem dX8_extension_0 : decode cX8_extension 0 = .ok (.iload_n 1, 1) := by decide +kernel
theorem dX8_extension_1 : decode cX8_extension 1 = .ok (.invokestatic 54, 3) := by decide +kernel
theorem dX8_extension_4 : decode cX8_extension 4 = .ok (.ifCond .eq 16, 3) := by decide +kernel
theorem dX8_extension_7 : decode cX8_extension 7 = .ok (.iload_n 2, 1) := by decide +kernel
theorem dX8_extension_8 : decode cX8_extension 8 = .ok (.iconst (-1), 1) := by decide +kernel
theorem dX8_extension_9 : decode cX8_extension 9 = .ok (.if_icmp .eq 13, 3) := by decide +kernel
theorem dX8_extension_12 : decode cX8_extension 12 = .ok (.aload_n 0, 1) := by decide +kernel
theorem dX8_extension_13 : decode cX8_extension 13 = .ok (.iload_n 2, 1) := by decide +kernel
theorem dX8_extension_14 : decode cX8_extension 14 = .ok (.invokevirtual 73, 3) := by decide +kernel
theorem dX8_extension_17 : decode cX8_extension 17 = .ok (.ifCond .ne 5, 3) := by decide +kernel
theorem dX8_extension_20 : decode cX8_extension 20 = .ok (.iconst (-1), 1) := by decide +kernel
theorem dX8_extension_21 : decode cX8_extension 21 = .ok (.ireturn, 1) := by decide +kernel
theorem dX8_extension_22 : decode cX8_extension 22 = .ok (.aload_n 0, 1) := by decide +kernel
theorem dX8_extension_23 : decode cX8_extension 23 = .ok (.bipush 16, 2) := by decide +kernel
theorem dX8_extension_25 : decode cX8_extension 25 = .ok (.invokevirtual 178, 3) := by decide +kernel
theorem dX8_extension_28 : decode cX8_extension 28 = .ok (.ifCond .ne 6, 3) := by decide +kernel
theorem dX8_extension_31 : decode cX8_extension 31 = .ok (.bipush (-2), 2) := by decide +kernel
theorem dX8_extension_33 : decode cX8_extension 33 = .ok (.ireturn, 1) := by decide +kernel
theorem dX8_extension_34 : decode cX8_extension 34 = .ok (.aload_n 0, 1) := by decide +kernel
theorem dX8_extension_35 : decode cX8_extension 35 = .ok (.iload_n 1, 1) := by decide +kernel
theorem dX8_extension_36 : decode cX8_extension 36 = .ok (.invokevirtual 181, 3) := by decide +kernel
theorem dX8_extension_39 : decode cX8_extension 39 = .ok (.ifCond .ne 6, 3) := by decide +kernel
theorem dX8_extension_42 : decode cX8_extension 42 = .ok (.bipush (-9), 2) := by decide +kernel
theorem dX8_extension_44 : decode cX8_extension 44 = .ok (.ireturn, 1) := by decide +kernel
theorem dX8_extension_45 : decode cX8_extension 45 = .ok (.iload_n 2, 1) := by decide +kernel
theorem dX8_extension_46 : decode cX8_extension 46 = .ok (.iconst (-1), 1) := by decide +kernel
theorem dX8_extension_47 : decode cX8_extension 47 = .ok (.if_icmp .ne 12, 3) := by decide +kernel
theorem dX8_extension_50 : decode cX8_extension 50 = .ok (.aload_n 0, 1) := by decide +kernel
theorem dX8_extension_51 : decode cX8_extension 51 = .ok (.getfield 7, 3) := by decide +kernel
theorem dX8_extension_54 : decode cX8_extension 54 = .ok (.iconst 0, 1) := by decide +kernel
theorem dX8_extension_55 : decode cX8_extension 55 = .ok (.iaload, 1) := by decide +kernel
theorem dX8_extension_56 : decode cX8_extension 56 = .ok (.goto 9, 3) := by decide +kernel
theorem dX8_extension_59 : decode cX8_extension 59 = .ok (.aload_n 0, 1) := by decide +kernel
theorem dX8_extension_60 : decode cX8_extension 60 = .ok (.getfield 25, 3) := by decide +kernel
theorem dX8_extension_63 : decode cX8_extension 63 = .ok (.iload_n 2, 1) := by decide +kernel
theorem dX8_extension_64 : decode cX8_extension 64 = .ok (.iaload, 1) := by decide +kernel
theorem dX8_extension_65 : decode cX8_extension 65 = .ok (.ireturn, 1) := by decide +kernel
theorem dX8_extend_0 : decode cX8_extend 0 = .ok (.iload_n 1, 1) := by decide +kernel
theorem dX8_extend_1 : decode cX8_extend 1 = .ok (.invokestatic 54, 3) := by decide +kernel
theorem dX8_extend_4 : decode cX8_extend 4 = .ok (.ifCond .ne 5, 3) := by decide +kernel
theorem dX8_extend_7 : decode cX8_extend 7 = .ok (.iconst (-1), 1) := by decide +kernel
theorem dX8_extend_8 : decode cX8_extend 8 = .ok (.ireturn, 1) := by decide +kernel
theorem dX8_extend_9 : decode cX8_extend 9 = .ok (.aload_n 0, 1) := by decide +kernel
theorem dX8_extend_10 : decode cX8_extend 10 = .ok (.bipush 16, 2) := by decide +kernel
theorem dX8_extend_12 : decode cX8_extend 12 = .ok (.invokevirtual 178, 3) := by decide +kernel
theorem dX8_extend_15 : decode cX8_extend 15 = .ok (.ifCond .ne 6, 3) := by decide +kernel
theorem dX8_extend_18 : decode cX8_extend 18 = .ok (.bipush (-2), 2) := by decide +kernel
theorem dX8_extend_20 : decode cX8_extend 20 = .ok (.ireturn, 1) := by decide +kernel
theorem dX8_extend_21 : decode cX8_extend 21 = .ok (.aload_n 0, 1) := by decide +kernel
theorem dX8_extend_22 : decode cX8_extend 22 = .ok (.getfield 7, 3) := by decide +kernel
theorem dX8_extend_25 : decode cX8_extend 25 = .ok (.iconst 1, 1) := by decide +kernel
theorem dX8_extend_26 : decode cX8_extend 26 = .ok (.iaload, 1) := by decide +kernel
theorem dX8_extend_27 : decode cX8_extend 27 = .ok (.bipush 7, 2) := by decide +kernel
theorem dX8_extend_29 : decode cX8_extend 29 = .ok (.if_icmp .ne 6, 3) := by decide +kernel
theorem dX8_extend_32 : decode cX8_extend 32 = .ok (.bipush (-3), 2) := by decide +kernel
theorem dX8_extend_34 : decode cX8_extend 34 = .ok (.ireturn, 1) := by decide +kernel
theorem dX8_extend_35 : decode cX8_extend 35 = .ok (.aload_n 0, 1) := by decide +kernel
theorem dX8_extend_36 : decode cX8_extend 36 = .ok (.iload_n 1, 1) := by decide +kernel
theorem dX8_extend_37 : decode cX8_extend 37 = .ok (.invokevirtual 181, 3) := by decide +kernel
theorem dX8_extend_40 : decode cX8_extend 40 = .ok (.ifCond .ne 6, 3) := by decide +kernel
theorem dX8_extend_43 : decode cX8_extend 43 = .ok (.bipush (-9), 2) := by decide +kernel
theorem dX8_extend_45 : decode cX8_extend 45 = .ok (.ireturn, 1) := by decide +kernel
theorem dX8_extend_46 : decode cX8_extend 46 = .ok (.aload_n 0, 1) := by decide +kernel
theorem dX8_extend_47 : decode cX8_extend 47 = .ok (.invokevirtual 51, 3) := by decide +kernel
theorem dX8_extend_50 : decode cX8_extend 50 = .ok (.aload_n 0, 1) := by decide +kernel
theorem dX8_extend_51 : decode cX8_extend 51 = .ok (.getfield 7, 3) := by decide +kernel
theorem dX8_extend_54 : decode cX8_extend 54 = .ok (.iconst 1, 1) := by decide +kernel
theorem dX8_extend_55 : decode cX8_extend 55 = .ok (.iaload, 1) := by decide +kernel
theorem dX8_extend_56 : decode cX8_extend 56 = .ok (.istore_n 2, 1) := by decide +kernel
theorem dX8_extend_57 : decode cX8_extend 57 = .ok (.aload_n 0, 1) := by decide +kernel
theorem dX8_extend_58 : decode cX8_extend 58 = .ok (.getfield 7, 3) := by decide +kernel
theorem dX8_extend_61 : decode cX8_extend 61 = .ok (.iconst 2, 1) := by decide +kernel
theorem dX8_extend_62 : decode cX8_extend 62 = .ok (.iload_n 2, 1) := by decide +kernel
theorem dX8_extend_63 : decode cX8_extend 63 = .ok (.iadd, 1) := by decide +kernel
theorem dX8_extend_64 : decode cX8_extend 64 = .ok (.iload_n 1, 1) := by decide +kernel
theorem dX8_extend_65 : decode cX8_extend 65 = .ok (.iastore, 1) := by decide +kernel
theorem dX8_extend_66 : decode cX8_extend 66 = .ok (.aload_n 0, 1) := by decide +kernel
theorem dX8_extend_67 : decode cX8_extend 67 = .ok (.getfield 7, 3) := by decide +kernel
theorem dX8_extend_70 : decode cX8_extend 70 = .ok (.iconst 1, 1) := by decide +kernel
theorem dX8_extend_71 : decode cX8_extend 71 = .ok (.dup2, 1) := by decide +kernel
theorem dX8_extend_72 : decode cX8_extend 72 = .ok (.iaload, 1) := by decide +kernel
theorem dX8_extend_73 : decode cX8_extend 73 = .ok (.iconst 1, 1) := by decide +kernel
theorem dX8_extend_74 : decode cX8_extend 74 = .ok (.iadd, 1) := by decide +kernel
theorem dX8_extend_75 : decode cX8_extend 75 = .ok (.iastore, 1) := by decide +kernel
theorem dX8_extend_76 : decode cX8_extend 76 = .ok (.iconst 0, 1) := by decide +kernel
theorem dX8_extend_77 : decode cX8_extend 77 = .ok (.istore_n 3, 1) := by decide +kernel
theorem dX8_extend_78 : decode cX8_extend 78 = .ok (.iload_n 3, 1) := by decide +kernel
theorem dX8_extend_79 : decode cX8_extend 79 = .ok (.aload_n 0, 1) := by decide +kernel
theorem dX8_extend_80 : decode cX8_extend 80 = .ok (.getfield 7, 3) := by decide +kernel
theorem dX8_extend_83 : decode cX8_extend 83 = .ok (.iconst 0, 1) := by decide +kernel
theorem dX8_extend_84 : decode cX8_extend 84 = .ok (.iaload, 1) := by decide +kernel
theorem dX8_extend_85 : decode cX8_extend 85 = .ok (.if_icmp .ge 21, 3) := by decide +kernel
theorem dX8_extend_88 : decode cX8_extend 88 = .ok (.aload_n 0, 1) := by decide +kernel
theorem dX8_extend_89 : decode cX8_extend 89 = .ok (.iload_n 3, 1) := by decide +kernel
theorem dX8_extend_90 : decode cX8_extend 90 = .ok (.iload_n 2, 1) := by decide +kernel
theorem dX8_extend_91 : decode cX8_extend 91 = .ok (.aload_n 0, 1) := by decide +kernel
theorem dX8_extend_92 : decode cX8_extend 92 = .ok (.getfield 25, 3) := by decide +kernel
theorem dX8_extend_95 : decode cX8_extend 95 = .ok (.iload_n 3, 1) := by decide +kernel
theorem dX8_extend_96 : decode cX8_extend 96 = .ok (.iaload, 1) := by decide +kernel
theorem dX8_extend_97 : decode cX8_extend 97 = .ok (.invokevirtual 58, 3) := by decide +kernel
theorem dX8_extend_100 : decode cX8_extend 100 = .ok (.iinc 3 1, 3) := by decide +kernel
theorem dX8_extend_103 : decode cX8_extend 103 = .ok (.goto (-25), 3) := by decide +kernel
theorem dX8_extend_106 : decode cX8_extend 106 = .ok (.iload_n 2, 1) := by decide +kernel
theorem dX8_extend_107 : decode cX8_extend 107 = .ok (.ireturn, 1) := by decide +kernel
theorem dX8_rowsIn_0 : decode cX8_rowsIn 0 = .ok (.iconst 0, 1) := by decide +kernel
theorem dX8_rowsIn_1 : decode cX8_rowsIn 1 = .ok (.istore_n 1, 1) := by decide +kernel
theorem dX8_rowsIn_2 : decode cX8_rowsIn 2 = .ok (.iconst 0, 1) := by decide +kernel
theorem dX8_rowsIn_3 : decode cX8_rowsIn 3 = .ok (.istore_n 2, 1) := by decide +kernel
theorem dX8_rowsIn_4 : decode cX8_rowsIn 4 = .ok (.iload_n 2, 1) := by decide +kernel
theorem dX8_rowsIn_5 : decode cX8_rowsIn 5 = .ok (.bipush 12, 2) := by decide +kernel
theorem dX8_rowsIn_7 : decode cX8_rowsIn 7 = .ok (.if_icmp .ge 17, 3) := by decide +kernel
theorem dX8_rowsIn_10 : decode cX8_rowsIn 10 = .ok (.iload_n 1, 1) := by decide +kernel
theorem dX8_rowsIn_11 : decode cX8_rowsIn 11 = .ok (.iload_n 0, 1) := by decide +kernel
theorem dX8_rowsIn_12 : decode cX8_rowsIn 12 = .ok (.iload_n 2, 1) := by decide +kernel
theorem dX8_rowsIn_13 : decode cX8_rowsIn 13 = .ok (.ishr, 1) := by decide +kernel
theorem dX8_rowsIn_14 : decode cX8_rowsIn 14 = .ok (.iconst 1, 1) := by decide +kernel
theorem dX8_rowsIn_15 : decode cX8_rowsIn 15 = .ok (.iand, 1) := by decide +kernel
theorem dX8_rowsIn_16 : decode cX8_rowsIn 16 = .ok (.iadd, 1) := by decide +kernel
theorem dX8_rowsIn_17 : decode cX8_rowsIn 17 = .ok (.istore_n 1, 1) := by decide +kernel
theorem dX8_rowsIn_18 : decode cX8_rowsIn 18 = .ok (.iinc 2 1, 3) := by decide +kernel
theorem dX8_rowsIn_21 : decode cX8_rowsIn 21 = .ok (.goto (-17), 3) := by decide +kernel
theorem dX8_rowsIn_24 : decode cX8_rowsIn 24 = .ok (.iload_n 1, 1) := by decide +kernel
theorem dX8_rowsIn_25 : decode cX8_rowsIn 25 = .ok (.ireturn, 1) := by decide +kernel
theorem dX8_spare_0 : decode cX8_spare 0 = .ok (.iload_n 1, 1) := by decide +kernel
theorem dX8_spare_1 : decode cX8_spare 1 = .ok (.iconst 1, 1) := by decide +kernel
theorem dX8_spare_2 : decode cX8_spare 2 = .ok (.aload_n 0, 1) := by decide +kernel
theorem dX8_spare_3 : decode cX8_spare 3 = .ok (.getfield 7, 3) := by decide +kernel
theorem dX8_spare_6 : decode cX8_spare 6 = .ok (.iconst 1, 1) := by decide +kernel
theorem dX8_spare_7 : decode cX8_spare 7 = .ok (.iaload, 1) := by decide +kernel
theorem dX8_spare_8 : decode cX8_spare 8 = .ok (.invokestatic 43, 3) := by decide +kernel
theorem dX8_spare_11 : decode cX8_spare 11 = .ok (.ifCond .ne 5, 3) := by decide +kernel
theorem dX8_spare_14 : decode cX8_spare 14 = .ok (.iconst (-1), 1) := by decide +kernel
theorem dX8_spare_15 : decode cX8_spare 15 = .ok (.ireturn, 1) := by decide +kernel
theorem dX8_spare_16 : decode cX8_spare 16 = .ok (.aload_n 0, 1) := by decide +kernel
theorem dX8_spare_17 : decode cX8_spare 17 = .ok (.bipush 12, 2) := by decide +kernel
theorem dX8_spare_19 : decode cX8_spare 19 = .ok (.invokevirtual 178, 3) := by decide +kernel
theorem dX8_spare_22 : decode cX8_spare 22 = .ok (.ifCond .ne 6, 3) := by decide +kernel
theorem dX8_spare_25 : decode cX8_spare 25 = .ok (.bipush (-2), 2) := by decide +kernel
theorem dX8_spare_27 : decode cX8_spare 27 = .ok (.ireturn, 1) := by decide +kernel
theorem dX8_spare_28 : decode cX8_spare 28 = .ok (.aload_n 0, 1) := by decide +kernel
theorem dX8_spare_29 : decode cX8_spare 29 = .ok (.iload_n 1, 1) := by decide +kernel
theorem dX8_spare_30 : decode cX8_spare 30 = .ok (.iconst 0, 1) := by decide +kernel
theorem dX8_spare_31 : decode cX8_spare 31 = .ok (.invokevirtual 144, 3) := by decide +kernel
theorem dX8_spare_34 : decode cX8_spare 34 = .ok (.ifCond .le 6, 3) := by decide +kernel
theorem dX8_spare_37 : decode cX8_spare 37 = .ok (.bipush (-9), 2) := by decide +kernel
theorem dX8_spare_39 : decode cX8_spare 39 = .ok (.ireturn, 1) := by decide +kernel
theorem dX8_spare_40 : decode cX8_spare 40 = .ok (.iconst 0, 1) := by decide +kernel
theorem dX8_spare_41 : decode cX8_spare 41 = .ok (.istore_n 2, 1) := by decide +kernel
theorem dX8_spare_42 : decode cX8_spare 42 = .ok (.iconst 1, 1) := by decide +kernel
theorem dX8_spare_43 : decode cX8_spare 43 = .ok (.istore_n 3, 1) := by decide +kernel
theorem dX8_spare_44 : decode cX8_spare 44 = .ok (.iload_n 3, 1) := by decide +kernel
theorem dX8_spare_45 : decode cX8_spare 45 = .ok (.iconst 1, 1) := by decide +kernel
theorem dX8_spare_46 : decode cX8_spare 46 = .ok (.aload_n 0, 1) := by decide +kernel
theorem dX8_spare_47 : decode cX8_spare 47 = .ok (.getfield 7, 3) := by decide +kernel
theorem dX8_spare_50 : decode cX8_spare 50 = .ok (.iconst 0, 1) := by decide +kernel
theorem dX8_spare_51 : decode cX8_spare 51 = .ok (.iaload, 1) := by decide +kernel
theorem dX8_spare_52 : decode cX8_spare 52 = .ok (.ishl, 1) := by decide +kernel
theorem dX8_spare_53 : decode cX8_spare 53 = .ok (.iconst 1, 1) := by decide +kernel
theorem dX8_spare_54 : decode cX8_spare 54 = .ok (.isub, 1) := by decide +kernel
theorem dX8_spare_55 : decode cX8_spare 55 = .ok (.if_icmp .ge 31, 3) := by decide +kernel
theorem dX8_spare_58 : decode cX8_spare 58 = .ok (.iload_n 3, 1) := by decide +kernel
theorem dX8_spare_59 : decode cX8_spare 59 = .ok (.invokestatic 184, 3) := by decide +kernel
theorem dX8_spare_62 : decode cX8_spare 62 = .ok (.iload_n 2, 1) := by decide +kernel
theorem dX8_spare_63 : decode cX8_spare 63 = .ok (.invokestatic 184, 3) := by decide +kernel
theorem dX8_spare_66 : decode cX8_spare 66 = .ok (.if_icmp .le 14, 3) := by decide +kernel
theorem dX8_spare_69 : decode cX8_spare 69 = .ok (.aload_n 0, 1) := by decide +kernel
theorem dX8_spare_70 : decode cX8_spare 70 = .ok (.iload_n 1, 1) := by decide +kernel
theorem dX8_spare_71 : decode cX8_spare 71 = .ok (.iload_n 3, 1) := by decide +kernel
theorem dX8_spare_72 : decode cX8_spare 72 = .ok (.invokevirtual 144, 3) := by decide +kernel
theorem dX8_spare_75 : decode cX8_spare 75 = .ok (.ifCond .ne 5, 3) := by decide +kernel
theorem dX8_spare_78 : decode cX8_spare 78 = .ok (.iload_n 3, 1) := by decide +kernel
theorem dX8_spare_79 : decode cX8_spare 79 = .ok (.istore_n 2, 1) := by decide +kernel
theorem dX8_spare_80 : decode cX8_spare 80 = .ok (.iinc 3 1, 3) := by decide +kernel
theorem dX8_spare_83 : decode cX8_spare 83 = .ok (.goto (-39), 3) := by decide +kernel
theorem dX8_spare_86 : decode cX8_spare 86 = .ok (.iload_n 2, 1) := by decide +kernel
theorem dX8_spare_87 : decode cX8_spare 87 = .ok (.ireturn, 1) := by decide +kernel
theorem dX8_keep_0 : decode cX8_keep 0 = .ok (.iload_n 1, 1) := by decide +kernel
theorem dX8_keep_1 : decode cX8_keep 1 = .ok (.invokestatic 95, 3) := by decide +kernel
theorem dX8_keep_4 : decode cX8_keep 4 = .ok (.ifCond .ne 5, 3) := by decide +kernel
theorem dX8_keep_7 : decode cX8_keep 7 = .ok (.iconst (-1), 1) := by decide +kernel
theorem dX8_keep_8 : decode cX8_keep 8 = .ok (.ireturn, 1) := by decide +kernel
theorem dX8_keep_9 : decode cX8_keep 9 = .ok (.iconst 0, 1) := by decide +kernel
theorem dX8_keep_10 : decode cX8_keep 10 = .ok (.istore_n 2, 1) := by decide +kernel
theorem dX8_keep_11 : decode cX8_keep 11 = .ok (.iload_n 2, 1) := by decide +kernel
theorem dX8_keep_12 : decode cX8_keep 12 = .ok (.sipush 261, 3) := by decide +kernel
theorem dX8_keep_15 : decode cX8_keep 15 = .ok (.if_icmp .ge 27, 3) := by decide +kernel
theorem dX8_keep_18 : decode cX8_keep 18 = .ok (.aload_n 0, 1) := by decide +kernel
theorem dX8_keep_19 : decode cX8_keep 19 = .ok (.getfield 16, 3) := by decide +kernel
theorem dX8_keep_22 : decode cX8_keep 22 = .ok (.sipush 261, 3) := by decide +kernel
theorem dX8_keep_25 : decode cX8_keep 25 = .ok (.iload_n 1, 1) := by decide +kernel
theorem dX8_keep_26 : decode cX8_keep 26 = .ok (.imul, 1) := by decide +kernel
theorem dX8_keep_27 : decode cX8_keep 27 = .ok (.iload_n 2, 1) := by decide +kernel
theorem dX8_keep_28 : decode cX8_keep 28 = .ok (.iadd, 1) := by decide +kernel
theorem dX8_keep_29 : decode cX8_keep 29 = .ok (.aload_n 0, 1) := by decide +kernel
theorem dX8_keep_30 : decode cX8_keep 30 = .ok (.getfield 7, 3) := by decide +kernel
theorem dX8_keep_33 : decode cX8_keep 33 = .ok (.iload_n 2, 1) := by decide +kernel
theorem dX8_keep_34 : decode cX8_keep 34 = .ok (.iaload, 1) := by decide +kernel
theorem dX8_keep_35 : decode cX8_keep 35 = .ok (.iastore, 1) := by decide +kernel
theorem dX8_keep_36 : decode cX8_keep 36 = .ok (.iinc 2 1, 3) := by decide +kernel
theorem dX8_keep_39 : decode cX8_keep 39 = .ok (.goto (-28), 3) := by decide +kernel
theorem dX8_keep_42 : decode cX8_keep 42 = .ok (.aload_n 0, 1) := by decide +kernel
theorem dX8_keep_43 : decode cX8_keep 43 = .ok (.dup, 1) := by decide +kernel
theorem dX8_keep_44 : decode cX8_keep 44 = .ok (.getfield 92, 3) := by decide +kernel
theorem dX8_keep_47 : decode cX8_keep 47 = .ok (.iconst 1, 1) := by decide +kernel
theorem dX8_keep_48 : decode cX8_keep 48 = .ok (.iload_n 1, 1) := by decide +kernel
theorem dX8_keep_49 : decode cX8_keep 49 = .ok (.ishl, 1) := by decide +kernel
theorem dX8_keep_50 : decode cX8_keep 50 = .ok (.ior, 1) := by decide +kernel
theorem dX8_keep_51 : decode cX8_keep 51 = .ok (.putfield 92, 3) := by decide +kernel
theorem dX8_keep_54 : decode cX8_keep 54 = .ok (.aload_n 0, 1) := by decide +kernel
theorem dX8_keep_55 : decode cX8_keep 55 = .ok (.getfield 7, 3) := by decide +kernel
theorem dX8_keep_58 : decode cX8_keep 58 = .ok (.iconst 0, 1) := by decide +kernel
theorem dX8_keep_59 : decode cX8_keep 59 = .ok (.iaload, 1) := by decide +kernel
theorem dX8_keep_60 : decode cX8_keep 60 = .ok (.ireturn, 1) := by decide +kernel
theorem dX8_back_0 : decode cX8_back 0 = .ok (.iload_n 1, 1) := by decide +kernel
theorem dX8_back_1 : decode cX8_back 1 = .ok (.invokestatic 95, 3) := by decide +kernel
theorem dX8_back_4 : decode cX8_back 4 = .ok (.ifCond .ne 5, 3) := by decide +kernel
theorem dX8_back_7 : decode cX8_back 7 = .ok (.iconst (-1), 1) := by decide +kernel
theorem dX8_back_8 : decode cX8_back 8 = .ok (.ireturn, 1) := by decide +kernel
theorem dX8_back_9 : decode cX8_back 9 = .ok (.aload_n 0, 1) := by decide +kernel
theorem dX8_back_10 : decode cX8_back 10 = .ok (.iload_n 1, 1) := by decide +kernel
theorem dX8_back_11 : decode cX8_back 11 = .ok (.invokevirtual 98, 3) := by decide +kernel
theorem dX8_back_14 : decode cX8_back 14 = .ok (.ifCond .ne 6, 3) := by decide +kernel
theorem dX8_back_17 : decode cX8_back 17 = .ok (.bipush (-2), 2) := by decide +kernel
theorem dX8_back_19 : decode cX8_back 19 = .ok (.ireturn, 1) := by decide +kernel
theorem dX8_back_20 : decode cX8_back 20 = .ok (.aload_n 0, 1) := by decide +kernel
theorem dX8_back_21 : decode cX8_back 21 = .ok (.invokevirtual 51, 3) := by decide +kernel
theorem dX8_back_24 : decode cX8_back 24 = .ok (.iconst 0, 1) := by decide +kernel
theorem dX8_back_25 : decode cX8_back 25 = .ok (.istore_n 2, 1) := by decide +kernel
theorem dX8_back_26 : decode cX8_back 26 = .ok (.iload_n 2, 1) := by decide +kernel
theorem dX8_back_27 : decode cX8_back 27 = .ok (.sipush 261, 3) := by decide +kernel
theorem dX8_back_30 : decode cX8_back 30 = .ok (.if_icmp .ge 21, 3) := by decide +kernel
theorem dX8_back_33 : decode cX8_back 33 = .ok (.aload_n 0, 1) := by decide +kernel
theorem dX8_back_34 : decode cX8_back 34 = .ok (.getfield 7, 3) := by decide +kernel
theorem dX8_back_37 : decode cX8_back 37 = .ok (.iload_n 2, 1) := by decide +kernel
theorem dX8_back_38 : decode cX8_back 38 = .ok (.aload_n 0, 1) := by decide +kernel
theorem dX8_back_39 : decode cX8_back 39 = .ok (.iload_n 1, 1) := by decide +kernel
theorem dX8_back_40 : decode cX8_back 40 = .ok (.iload_n 2, 1) := by decide +kernel
theorem dX8_back_41 : decode cX8_back 41 = .ok (.invokevirtual 101, 3) := by decide +kernel
theorem dX8_back_44 : decode cX8_back 44 = .ok (.iastore, 1) := by decide +kernel
theorem dX8_back_45 : decode cX8_back 45 = .ok (.iinc 2 1, 3) := by decide +kernel
theorem dX8_back_48 : decode cX8_back 48 = .ok (.goto (-22), 3) := by decide +kernel
theorem dX8_back_51 : decode cX8_back 51 = .ok (.aload_n 0, 1) := by decide +kernel
theorem dX8_back_52 : decode cX8_back 52 = .ok (.getfield 7, 3) := by decide +kernel
theorem dX8_back_55 : decode cX8_back 55 = .ok (.iconst 0, 1) := by decide +kernel
theorem dX8_back_56 : decode cX8_back 56 = .ok (.iaload, 1) := by decide +kernel
theorem dX8_back_57 : decode cX8_back 57 = .ok (.ireturn, 1) := by decide +kernel
theorem dX8_imageOf_0 : decode cX8_imageOf 0 = .ok (.iload_n 0, 1) := by decide +kernel
theorem dX8_imageOf_1 : decode cX8_imageOf 1 = .ok (.iconst 2, 1) := by decide +kernel
theorem dX8_imageOf_2 : decode cX8_imageOf 2 = .ok (.iconst 3, 1) := by decide +kernel
theorem dX8_imageOf_3 : decode cX8_imageOf 3 = .ok (.iload_n 1, 1) := by decide +kernel
theorem dX8_imageOf_4 : decode cX8_imageOf 4 = .ok (.isub, 1) := by decide +kernel
theorem dX8_imageOf_5 : decode cX8_imageOf 5 = .ok (.imul, 1) := by decide +kernel
theorem dX8_imageOf_6 : decode cX8_imageOf 6 = .ok (.ishr, 1) := by decide +kernel
theorem dX8_imageOf_7 : decode cX8_imageOf 7 = .ok (.iconst 3, 1) := by decide +kernel
theorem dX8_imageOf_8 : decode cX8_imageOf 8 = .ok (.iand, 1) := by decide +kernel
theorem dX8_imageOf_9 : decode cX8_imageOf 9 = .ok (.ireturn, 1) := by decide +kernel
theorem dX8_isPermutation_0 : decode cX8_isPermutation 0 = .ok (.iconst 0, 1) := by decide +kernel
theorem dX8_isPermutation_1 : decode cX8_isPermutation 1 = .ok (.istore_n 3, 1) := by decide +kernel
theorem dX8_isPermutation_2 : decode cX8_isPermutation 2 = .ok (.iconst 0, 1) := by decide +kernel
theorem dX8_isPermutation_3 : decode cX8_isPermutation 3 = .ok (.istore 4, 2) := by decide +kernel
theorem dX8_isPermutation_5 : decode cX8_isPermutation 5 = .ok (.iload 4, 2) := by decide +kernel
theorem dX8_isPermutation_7 : decode cX8_isPermutation 7 = .ok (.iconst 4, 1) := by decide +kernel
theorem dX8_isPermutation_8 : decode cX8_isPermutation 8 = .ok (.if_icmp .ge 47, 3) := by decide +kernel
theorem dX8_isPermutation_11 : decode cX8_isPermutation 11 = .ok (.iload 4, 2) := by decide +kernel
theorem dX8_isPermutation_13 : decode cX8_isPermutation 13 = .ok (.iload_n 2, 1) := by decide +kernel
theorem dX8_isPermutation_14 : decode cX8_isPermutation 14 = .ok (.if_icmp .lt 14, 3) := by decide +kernel
theorem dX8_isPermutation_17 : decode cX8_isPermutation 17 = .ok (.iload_n 1, 1) := by decide +kernel
theorem dX8_isPermutation_18 : decode cX8_isPermutation 18 = .ok (.iload 4, 2) := by decide +kernel
theorem dX8_isPermutation_20 : decode cX8_isPermutation 20 = .ok (.invokestatic 187, 3) := by decide +kernel
theorem dX8_isPermutation_23 : decode cX8_isPermutation 23 = .ok (.ifCond .eq 5, 3) := by decide +kernel
theorem dX8_isPermutation_26 : decode cX8_isPermutation 26 = .ok (.iconst 0, 1) := by decide +kernel
theorem dX8_isPermutation_27 : decode cX8_isPermutation 27 = .ok (.ireturn, 1) := by decide +kernel
theorem dX8_isPermutation_28 : decode cX8_isPermutation 28 = .ok (.iload_n 3, 1) := by decide +kernel
theorem dX8_isPermutation_29 : decode cX8_isPermutation 29 = .ok (.iload 4, 2) := by decide +kernel
theorem dX8_isPermutation_31 : decode cX8_isPermutation 31 = .ok (.iload_n 2, 1) := by decide +kernel
theorem dX8_isPermutation_32 : decode cX8_isPermutation 32 = .ok (.if_icmp .ge 14, 3) := by decide +kernel
theorem dX8_isPermutation_35 : decode cX8_isPermutation 35 = .ok (.iconst 1, 1) := by decide +kernel
theorem dX8_isPermutation_36 : decode cX8_isPermutation 36 = .ok (.iload_n 1, 1) := by decide +kernel
theorem dX8_isPermutation_37 : decode cX8_isPermutation 37 = .ok (.iload 4, 2) := by decide +kernel
theorem dX8_isPermutation_39 : decode cX8_isPermutation 39 = .ok (.invokestatic 187, 3) := by decide +kernel
theorem dX8_isPermutation_42 : decode cX8_isPermutation 42 = .ok (.ishl, 1) := by decide +kernel
theorem dX8_isPermutation_43 : decode cX8_isPermutation 43 = .ok (.goto 4, 3) := by decide +kernel
theorem dX8_isPermutation_46 : decode cX8_isPermutation 46 = .ok (.iconst 0, 1) := by decide +kernel
theorem dX8_isPermutation_47 : decode cX8_isPermutation 47 = .ok (.ior, 1) := by decide +kernel
theorem dX8_isPermutation_48 : decode cX8_isPermutation 48 = .ok (.istore_n 3, 1) := by decide +kernel
theorem dX8_isPermutation_49 : decode cX8_isPermutation 49 = .ok (.iinc 4 1, 3) := by decide +kernel
theorem dX8_isPermutation_52 : decode cX8_isPermutation 52 = .ok (.goto (-47), 3) := by decide +kernel
theorem dX8_isPermutation_55 : decode cX8_isPermutation 55 = .ok (.iload_n 3, 1) := by decide +kernel
theorem dX8_isPermutation_56 : decode cX8_isPermutation 56 = .ok (.iconst 1, 1) := by decide +kernel
theorem dX8_isPermutation_57 : decode cX8_isPermutation 57 = .ok (.iload_n 2, 1) := by decide +kernel
theorem dX8_isPermutation_58 : decode cX8_isPermutation 58 = .ok (.ishl, 1) := by decide +kernel
theorem dX8_isPermutation_59 : decode cX8_isPermutation 59 = .ok (.iconst 1, 1) := by decide +kernel
theorem dX8_isPermutation_60 : decode cX8_isPermutation 60 = .ok (.isub, 1) := by decide +kernel
theorem dX8_isPermutation_61 : decode cX8_isPermutation 61 = .ok (.if_icmp .ne 7, 3) := by decide +kernel
theorem dX8_isPermutation_64 : decode cX8_isPermutation 64 = .ok (.iconst 1, 1) := by decide +kernel
theorem dX8_isPermutation_65 : decode cX8_isPermutation 65 = .ok (.goto 4, 3) := by decide +kernel
theorem dX8_isPermutation_68 : decode cX8_isPermutation 68 = .ok (.iconst 0, 1) := by decide +kernel
theorem dX8_isPermutation_69 : decode cX8_isPermutation 69 = .ok (.ireturn, 1) := by decide +kernel
theorem dX8_isFirstOfAlike_0 : decode cX8_isFirstOfAlike 0 = .ok (.iconst (-1), 1) := by decide +kernel
theorem dX8_isFirstOfAlike_1 : decode cX8_isFirstOfAlike 1 = .ok (.istore_n 2, 1) := by decide +kernel
theorem dX8_isFirstOfAlike_2 : decode cX8_isFirstOfAlike 2 = .ok (.iconst 0, 1) := by decide +kernel
theorem dX8_isFirstOfAlike_3 : decode cX8_isFirstOfAlike 3 = .ok (.istore_n 3, 1) := by decide +kernel
theorem dX8_isFirstOfAlike_4 : decode cX8_isFirstOfAlike 4 = .ok (.iload_n 3, 1) := by decide +kernel
theorem dX8_isFirstOfAlike_5 : decode cX8_isFirstOfAlike 5 = .ok (.aload_n 0, 1) := by decide +kernel
theorem dX8_isFirstOfAlike_6 : decode cX8_isFirstOfAlike 6 = .ok (.getfield 7, 3) := by decide +kernel
theorem dX8_isFirstOfAlike_9 : decode cX8_isFirstOfAlike 9 = .ok (.iconst 2, 1) := by decide +kernel
theorem dX8_isFirstOfAlike_10 : decode cX8_isFirstOfAlike 10 = .ok (.iload_n 1, 1) := by decide +kernel
theorem dX8_isFirstOfAlike_11 : decode cX8_isFirstOfAlike 11 = .ok (.iadd, 1) := by decide +kernel
theorem dX8_isFirstOfAlike_12 : decode cX8_isFirstOfAlike 12 = .ok (.iaload, 1) := by decide +kernel
theorem dX8_isFirstOfAlike_13 : decode cX8_isFirstOfAlike 13 = .ok (.if_icmp .ge 57, 3) := by decide +kernel
theorem dX8_isFirstOfAlike_16 : decode cX8_isFirstOfAlike 16 = .ok (.aload_n 0, 1) := by decide +kernel
theorem dX8_isFirstOfAlike_17 : decode cX8_isFirstOfAlike 17 = .ok (.getfield 7, 3) := by decide +kernel
theorem dX8_isFirstOfAlike_20 : decode cX8_isFirstOfAlike 20 = .ok (.iconst 0, 1) := by decide +kernel
theorem dX8_isFirstOfAlike_21 : decode cX8_isFirstOfAlike 21 = .ok (.iload_n 1, 1) := by decide +kernel
theorem dX8_isFirstOfAlike_22 : decode cX8_isFirstOfAlike 22 = .ok (.iload_n 3, 1) := by decide +kernel
theorem dX8_isFirstOfAlike_23 : decode cX8_isFirstOfAlike 23 = .ok (.invokestatic 190, 3) := by decide +kernel
theorem dX8_isFirstOfAlike_26 : decode cX8_isFirstOfAlike 26 = .ok (.ifCond .ne 38, 3) := by decide +kernel
theorem dX8_isFirstOfAlike_29 : decode cX8_isFirstOfAlike 29 = .ok (.aload_n 0, 1) := by decide +kernel
theorem dX8_isFirstOfAlike_30 : decode cX8_isFirstOfAlike 30 = .ok (.getfield 34, 3) := by decide +kernel
theorem dX8_isFirstOfAlike_33 : decode cX8_isFirstOfAlike 33 = .ok (.iload_n 1, 1) := by decide +kernel
theorem dX8_isFirstOfAlike_34 : decode cX8_isFirstOfAlike 34 = .ok (.iaload, 1) := by decide +kernel
theorem dX8_isFirstOfAlike_35 : decode cX8_isFirstOfAlike 35 = .ok (.sipush 256, 3) := by decide +kernel
theorem dX8_isFirstOfAlike_38 : decode cX8_isFirstOfAlike 38 = .ok (.irem, 1) := by decide +kernel
theorem dX8_isFirstOfAlike_39 : decode cX8_isFirstOfAlike 39 = .ok (.iload_n 3, 1) := by decide +kernel
theorem dX8_isFirstOfAlike_40 : decode cX8_isFirstOfAlike 40 = .ok (.invokestatic 187, 3) := by decide +kernel
theorem dX8_isFirstOfAlike_43 : decode cX8_isFirstOfAlike 43 = .ok (.iload_n 2, 1) := by decide +kernel
theorem dX8_isFirstOfAlike_44 : decode cX8_isFirstOfAlike 44 = .ok (.if_icmp .ge 5, 3) := by decide +kernel
theorem dX8_isFirstOfAlike_47 : decode cX8_isFirstOfAlike 47 = .ok (.iconst 0, 1) := by decide +kernel
theorem dX8_isFirstOfAlike_48 : decode cX8_isFirstOfAlike 48 = .ok (.ireturn, 1) := by decide +kernel
theorem dX8_isFirstOfAlike_49 : decode cX8_isFirstOfAlike 49 = .ok (.aload_n 0, 1) := by decide +kernel
theorem dX8_isFirstOfAlike_50 : decode cX8_isFirstOfAlike 50 = .ok (.getfield 34, 3) := by decide +kernel
theorem dX8_isFirstOfAlike_53 : decode cX8_isFirstOfAlike 53 = .ok (.iload_n 1, 1) := by decide +kernel
theorem dX8_isFirstOfAlike_54 : decode cX8_isFirstOfAlike 54 = .ok (.iaload, 1) := by decide +kernel
theorem dX8_isFirstOfAlike_55 : decode cX8_isFirstOfAlike 55 = .ok (.sipush 256, 3) := by decide +kernel
theorem dX8_isFirstOfAlike_58 : decode cX8_isFirstOfAlike 58 = .ok (.irem, 1) := by decide +kernel
theorem dX8_isFirstOfAlike_59 : decode cX8_isFirstOfAlike 59 = .ok (.iload_n 3, 1) := by decide +kernel
theorem dX8_isFirstOfAlike_60 : decode cX8_isFirstOfAlike 60 = .ok (.invokestatic 187, 3) := by decide +kernel
theorem dX8_isFirstOfAlike_63 : decode cX8_isFirstOfAlike 63 = .ok (.istore_n 2, 1) := by decide +kernel
theorem dX8_isFirstOfAlike_64 : decode cX8_isFirstOfAlike 64 = .ok (.iinc 3 1, 3) := by decide +kernel
theorem dX8_isFirstOfAlike_67 : decode cX8_isFirstOfAlike 67 = .ok (.goto (-63), 3) := by decide +kernel
theorem dX8_isFirstOfAlike_70 : decode cX8_isFirstOfAlike 70 = .ok (.iconst 1, 1) := by decide +kernel
theorem dX8_isFirstOfAlike_71 : decode cX8_isFirstOfAlike 71 = .ok (.ireturn, 1) := by decide +kernel
theorem dX8_occurrences_0 : decode cX8_occurrences 0 = .ok (.iconst 0, 1) := by decide +kernel
theorem dX8_occurrences_1 : decode cX8_occurrences 1 = .ok (.istore 4, 2) := by decide +kernel
theorem dX8_occurrences_3 : decode cX8_occurrences 3 = .ok (.iconst 0, 1) := by decide +kernel
theorem dX8_occurrences_4 : decode cX8_occurrences 4 = .ok (.istore 5, 2) := by decide +kernel
theorem dX8_occurrences_6 : decode cX8_occurrences 6 = .ok (.iload 5, 2) := by decide +kernel
theorem dX8_occurrences_8 : decode cX8_occurrences 8 = .ok (.aload_n 0, 1) := by decide +kernel
theorem dX8_occurrences_9 : decode cX8_occurrences 9 = .ok (.iload_n 1, 1) := by decide +kernel
theorem dX8_occurrences_10 : decode cX8_occurrences 10 = .ok (.iconst 0, 1) := by decide +kernel
theorem dX8_occurrences_11 : decode cX8_occurrences 11 = .ok (.iadd, 1) := by decide +kernel
theorem dX8_occurrences_12 : decode cX8_occurrences 12 = .ok (.iaload, 1) := by decide +kernel
theorem dX8_occurrences_13 : decode cX8_occurrences 13 = .ok (.if_icmp .ge 37, 3) := by decide +kernel
theorem dX8_occurrences_16 : decode cX8_occurrences 16 = .ok (.iload 4, 2) := by decide +kernel
theorem dX8_occurrences_18 : decode cX8_occurrences 18 = .ok (.aload_n 0, 1) := by decide +kernel
theorem dX8_occurrences_19 : decode cX8_occurrences 19 = .ok (.iload_n 1, 1) := by decide +kernel
theorem dX8_occurrences_20 : decode cX8_occurrences 20 = .ok (.bipush 9, 2) := by decide +kernel
theorem dX8_occurrences_22 : decode cX8_occurrences 22 = .ok (.iadd, 1) := by decide +kernel
theorem dX8_occurrences_23 : decode cX8_occurrences 23 = .ok (.bipush 7, 2) := by decide +kernel
theorem dX8_occurrences_25 : decode cX8_occurrences 25 = .ok (.iload 5, 2) := by decide +kernel
theorem dX8_occurrences_27 : decode cX8_occurrences 27 = .ok (.imul, 1) := by decide +kernel
theorem dX8_occurrences_28 : decode cX8_occurrences 28 = .ok (.iadd, 1) := by decide +kernel
theorem dX8_occurrences_29 : decode cX8_occurrences 29 = .ok (.iload_n 2, 1) := by decide +kernel
theorem dX8_occurrences_30 : decode cX8_occurrences 30 = .ok (.iadd, 1) := by decide +kernel
theorem dX8_occurrences_31 : decode cX8_occurrences 31 = .ok (.iaload, 1) := by decide +kernel
theorem dX8_occurrences_32 : decode cX8_occurrences 32 = .ok (.iload_n 3, 1) := by decide +kernel
theorem dX8_occurrences_33 : decode cX8_occurrences 33 = .ok (.if_icmp .ne 7, 3) := by decide +kernel
theorem dX8_occurrences_36 : decode cX8_occurrences 36 = .ok (.iconst 1, 1) := by decide +kernel
theorem dX8_occurrences_37 : decode cX8_occurrences 37 = .ok (.goto 4, 3) := by decide +kernel
theorem dX8_occurrences_40 : decode cX8_occurrences 40 = .ok (.iconst 0, 1) := by decide +kernel
theorem dX8_occurrences_41 : decode cX8_occurrences 41 = .ok (.iadd, 1) := by decide +kernel
theorem dX8_occurrences_42 : decode cX8_occurrences 42 = .ok (.istore 4, 2) := by decide +kernel
theorem dX8_occurrences_44 : decode cX8_occurrences 44 = .ok (.iinc 5 1, 3) := by decide +kernel
theorem dX8_occurrences_47 : decode cX8_occurrences 47 = .ok (.goto (-41), 3) := by decide +kernel
theorem dX8_occurrences_50 : decode cX8_occurrences 50 = .ok (.iload 4, 2) := by decide +kernel
theorem dX8_occurrences_52 : decode cX8_occurrences 52 = .ok (.ireturn, 1) := by decide +kernel
theorem dX8_signature_0 : decode cX8_signature 0 = .ok (.aload_n 0, 1) := by decide +kernel
theorem dX8_signature_1 : decode cX8_signature 1 = .ok (.iload_n 1, 1) := by decide +kernel
theorem dX8_signature_2 : decode cX8_signature 2 = .ok (.iconst 2, 1) := by decide +kernel
theorem dX8_signature_3 : decode cX8_signature 3 = .ok (.iadd, 1) := by decide +kernel
theorem dX8_signature_4 : decode cX8_signature 4 = .ok (.iload_n 2, 1) := by decide +kernel
theorem dX8_signature_5 : decode cX8_signature 5 = .ok (.iadd, 1) := by decide +kernel
theorem dX8_signature_6 : decode cX8_signature 6 = .ok (.iaload, 1) := by decide +kernel
theorem dX8_signature_7 : decode cX8_signature 7 = .ok (.istore_n 3, 1) := by decide +kernel
theorem dX8_signature_8 : decode cX8_signature 8 = .ok (.aload_n 0, 1) := by decide +kernel
theorem dX8_signature_9 : decode cX8_signature 9 = .ok (.iload_n 1, 1) := by decide +kernel
theorem dX8_signature_10 : decode cX8_signature 10 = .ok (.iconst 0, 1) := by decide +kernel
theorem dX8_signature_11 : decode cX8_signature 11 = .ok (.iadd, 1) := by decide +kernel
theorem dX8_signature_12 : decode cX8_signature 12 = .ok (.iaload, 1) := by decide +kernel
theorem dX8_signature_13 : decode cX8_signature 13 = .ok (.istore 4, 2) := by decide +kernel
theorem dX8_signature_15 : decode cX8_signature 15 = .ok (.iload 4, 2) := by decide +kernel
theorem dX8_signature_17 : decode cX8_signature 17 = .ok (.ifCond .lt 55, 3) := by decide +kernel
theorem dX8_signature_20 : decode cX8_signature 20 = .ok (.iconst 0, 1) := by decide +kernel
theorem dX8_signature_21 : decode cX8_signature 21 = .ok (.istore 5, 2) := by decide +kernel
theorem dX8_signature_23 : decode cX8_signature 23 = .ok (.iload 5, 2) := by decide +kernel
theorem dX8_signature_25 : decode cX8_signature 25 = .ok (.aload_n 0, 1) := by decide +kernel
theorem dX8_signature_26 : decode cX8_signature 26 = .ok (.iload_n 1, 1) := by decide +kernel
theorem dX8_signature_27 : decode cX8_signature 27 = .ok (.iconst 2, 1) := by decide +kernel
theorem dX8_signature_28 : decode cX8_signature 28 = .ok (.iadd, 1) := by decide +kernel
theorem dX8_signature_29 : decode cX8_signature 29 = .ok (.iload_n 2, 1) := by decide +kernel
theorem dX8_signature_30 : decode cX8_signature 30 = .ok (.iadd, 1) := by decide +kernel
theorem dX8_signature_31 : decode cX8_signature 31 = .ok (.iaload, 1) := by decide +kernel
theorem dX8_signature_32 : decode cX8_signature 32 = .ok (.if_icmp .ge 34, 3) := by decide +kernel
theorem dX8_signature_35 : decode cX8_signature 35 = .ok (.aload_n 0, 1) := by decide +kernel
theorem dX8_signature_36 : decode cX8_signature 36 = .ok (.iload_n 1, 1) := by decide +kernel
theorem dX8_signature_37 : decode cX8_signature 37 = .ok (.iload_n 2, 1) := by decide +kernel
theorem dX8_signature_38 : decode cX8_signature 38 = .ok (.iload 5, 2) := by decide +kernel
theorem dX8_signature_40 : decode cX8_signature 40 = .ok (.invokestatic 190, 3) := by decide +kernel
theorem dX8_signature_43 : decode cX8_signature 43 = .ok (.iload 4, 2) := by decide +kernel
theorem dX8_signature_45 : decode cX8_signature 45 = .ok (.if_icmp .ne 13, 3) := by decide +kernel
theorem dX8_signature_48 : decode cX8_signature 48 = .ok (.bipush 19, 2) := by decide +kernel
theorem dX8_signature_50 : decode cX8_signature 50 = .ok (.iload_n 3, 1) := by decide +kernel
theorem dX8_signature_51 : decode cX8_signature 51 = .ok (.imul, 1) := by decide +kernel
theorem dX8_signature_52 : decode cX8_signature 52 = .ok (.iload 4, 2) := by decide +kernel
theorem dX8_signature_54 : decode cX8_signature 54 = .ok (.iadd, 1) := by decide +kernel
theorem dX8_signature_55 : decode cX8_signature 55 = .ok (.goto 4, 3) := by decide +kernel
theorem dX8_signature_58 : decode cX8_signature 58 = .ok (.iload_n 3, 1) := by decide +kernel
theorem dX8_signature_59 : decode cX8_signature 59 = .ok (.istore_n 3, 1) := by decide +kernel
theorem dX8_signature_60 : decode cX8_signature 60 = .ok (.iinc 5 1, 3) := by decide +kernel
theorem dX8_signature_63 : decode cX8_signature 63 = .ok (.goto (-40), 3) := by decide +kernel
theorem dX8_signature_66 : decode cX8_signature 66 = .ok (.iinc 4 (-1), 3) := by decide +kernel
theorem dX8_signature_69 : decode cX8_signature 69 = .ok (.goto (-54), 3) := by decide +kernel
theorem dX8_signature_72 : decode cX8_signature 72 = .ok (.iload_n 3, 1) := by decide +kernel
theorem dX8_signature_73 : decode cX8_signature 73 = .ok (.ireturn, 1) := by decide +kernel
theorem dX8_columnsLike_0 : decode cX8_columnsLike 0 = .ok (.iconst 0, 1) := by decide +kernel
theorem dX8_columnsLike_1 : decode cX8_columnsLike 1 = .ok (.istore 4, 2) := by decide +kernel
theorem dX8_columnsLike_3 : decode cX8_columnsLike 3 = .ok (.iconst 0, 1) := by decide +kernel
theorem dX8_columnsLike_4 : decode cX8_columnsLike 4 = .ok (.istore 5, 2) := by decide +kernel
theorem dX8_columnsLike_6 : decode cX8_columnsLike 6 = .ok (.iload 5, 2) := by decide +kernel
theorem dX8_columnsLike_8 : decode cX8_columnsLike 8 = .ok (.aload_n 0, 1) := by decide +kernel
theorem dX8_columnsLike_9 : decode cX8_columnsLike 9 = .ok (.getfield 7, 3) := by decide +kernel
theorem dX8_columnsLike_12 : decode cX8_columnsLike 12 = .ok (.iconst 1, 1) := by decide +kernel
theorem dX8_columnsLike_13 : decode cX8_columnsLike 13 = .ok (.iaload, 1) := by decide +kernel
theorem dX8_columnsLike_14 : decode cX8_columnsLike 14 = .ok (.if_icmp .ge 30, 3) := by decide +kernel
theorem dX8_columnsLike_17 : decode cX8_columnsLike 17 = .ok (.iload 4, 2) := by decide +kernel
theorem dX8_columnsLike_19 : decode cX8_columnsLike 19 = .ok (.aload_n 2, 1) := by decide +kernel
theorem dX8_columnsLike_20 : decode cX8_columnsLike 20 = .ok (.iload_n 3, 1) := by decide +kernel
theorem dX8_columnsLike_21 : decode cX8_columnsLike 21 = .ok (.iload 5, 2) := by decide +kernel
theorem dX8_columnsLike_23 : decode cX8_columnsLike 23 = .ok (.invokestatic 194, 3) := by decide +kernel
theorem dX8_columnsLike_26 : decode cX8_columnsLike 26 = .ok (.iload_n 1, 1) := by decide +kernel
theorem dX8_columnsLike_27 : decode cX8_columnsLike 27 = .ok (.if_icmp .ne 7, 3) := by decide +kernel
theorem dX8_columnsLike_30 : decode cX8_columnsLike 30 = .ok (.iconst 1, 1) := by decide +kernel
theorem dX8_columnsLike_31 : decode cX8_columnsLike 31 = .ok (.goto 4, 3) := by decide +kernel
theorem dX8_columnsLike_34 : decode cX8_columnsLike 34 = .ok (.iconst 0, 1) := by decide +kernel
theorem dX8_columnsLike_35 : decode cX8_columnsLike 35 = .ok (.iadd, 1) := by decide +kernel
theorem dX8_columnsLike_36 : decode cX8_columnsLike 36 = .ok (.istore 4, 2) := by decide +kernel
theorem dX8_columnsLike_38 : decode cX8_columnsLike 38 = .ok (.iinc 5 1, 3) := by decide +kernel
theorem dX8_columnsLike_41 : decode cX8_columnsLike 41 = .ok (.goto (-35), 3) := by decide +kernel
theorem dX8_columnsLike_44 : decode cX8_columnsLike 44 = .ok (.iload 4, 2) := by decide +kernel
theorem dX8_columnsLike_46 : decode cX8_columnsLike 46 = .ok (.ireturn, 1) := by decide +kernel
theorem dX8_haveLikeColumns_0 : decode cX8_haveLikeColumns 0 = .ok (.iconst 0, 1) := by decide +kernel
theorem dX8_haveLikeColumns_1 : decode cX8_haveLikeColumns 1 = .ok (.istore_n 2, 1) := by decide +kernel
theorem dX8_haveLikeColumns_2 : decode cX8_haveLikeColumns 2 = .ok (.iload_n 2, 1) := by decide +kernel
theorem dX8_haveLikeColumns_3 : decode cX8_haveLikeColumns 3 = .ok (.aload_n 0, 1) := by decide +kernel
theorem dX8_haveLikeColumns_4 : decode cX8_haveLikeColumns 4 = .ok (.getfield 7, 3) := by decide +kernel
theorem dX8_haveLikeColumns_7 : decode cX8_haveLikeColumns 7 = .ok (.iconst 1, 1) := by decide +kernel
theorem dX8_haveLikeColumns_8 : decode cX8_haveLikeColumns 8 = .ok (.iaload, 1) := by decide +kernel
theorem dX8_haveLikeColumns_9 : decode cX8_haveLikeColumns 9 = .ok (.if_icmp .ge 48, 3) := by decide +kernel
theorem dX8_haveLikeColumns_12 : decode cX8_haveLikeColumns 12 = .ok (.aload_n 0, 1) := by decide +kernel
theorem dX8_haveLikeColumns_13 : decode cX8_haveLikeColumns 13 = .ok (.getfield 7, 3) := by decide +kernel
theorem dX8_haveLikeColumns_16 : decode cX8_haveLikeColumns 16 = .ok (.iconst 0, 1) := by decide +kernel
theorem dX8_haveLikeColumns_17 : decode cX8_haveLikeColumns 17 = .ok (.iload_n 2, 1) := by decide +kernel
theorem dX8_haveLikeColumns_18 : decode cX8_haveLikeColumns 18 = .ok (.invokestatic 194, 3) := by decide +kernel
theorem dX8_haveLikeColumns_21 : decode cX8_haveLikeColumns 21 = .ok (.istore_n 3, 1) := by decide +kernel
theorem dX8_haveLikeColumns_22 : decode cX8_haveLikeColumns 22 = .ok (.aload_n 0, 1) := by decide +kernel
theorem dX8_haveLikeColumns_23 : decode cX8_haveLikeColumns 23 = .ok (.iload_n 3, 1) := by decide +kernel
theorem dX8_haveLikeColumns_24 : decode cX8_haveLikeColumns 24 = .ok (.aload_n 0, 1) := by decide +kernel
theorem dX8_haveLikeColumns_25 : decode cX8_haveLikeColumns 25 = .ok (.getfield 7, 3) := by decide +kernel
theorem dX8_haveLikeColumns_28 : decode cX8_haveLikeColumns 28 = .ok (.iconst 0, 1) := by decide +kernel
theorem dX8_haveLikeColumns_29 : decode cX8_haveLikeColumns 29 = .ok (.invokevirtual 198, 3) := by decide +kernel
theorem dX8_haveLikeColumns_32 : decode cX8_haveLikeColumns 32 = .ok (.aload_n 0, 1) := by decide +kernel
theorem dX8_haveLikeColumns_33 : decode cX8_haveLikeColumns 33 = .ok (.iload_n 3, 1) := by decide +kernel
theorem dX8_haveLikeColumns_34 : decode cX8_haveLikeColumns 34 = .ok (.aload_n 0, 1) := by decide +kernel
theorem dX8_haveLikeColumns_35 : decode cX8_haveLikeColumns 35 = .ok (.getfield 16, 3) := by decide +kernel
theorem dX8_haveLikeColumns_38 : decode cX8_haveLikeColumns 38 = .ok (.sipush 261, 3) := by decide +kernel
theorem dX8_haveLikeColumns_41 : decode cX8_haveLikeColumns 41 = .ok (.iload_n 1, 1) := by decide +kernel
theorem dX8_haveLikeColumns_42 : decode cX8_haveLikeColumns 42 = .ok (.imul, 1) := by decide +kernel
theorem dX8_haveLikeColumns_43 : decode cX8_haveLikeColumns 43 = .ok (.invokevirtual 198, 3) := by decide +kernel
theorem dX8_haveLikeColumns_46 : decode cX8_haveLikeColumns 46 = .ok (.if_icmp .eq 5, 3) := by decide +kernel
theorem dX8_haveLikeColumns_49 : decode cX8_haveLikeColumns 49 = .ok (.iconst 0, 1) := by decide +kernel
theorem dX8_haveLikeColumns_50 : decode cX8_haveLikeColumns 50 = .ok (.ireturn, 1) := by decide +kernel
theorem dX8_haveLikeColumns_51 : decode cX8_haveLikeColumns 51 = .ok (.iinc 2 1, 3) := by decide +kernel
theorem dX8_haveLikeColumns_54 : decode cX8_haveLikeColumns 54 = .ok (.goto (-52), 3) := by decide +kernel
theorem dX8_haveLikeColumns_57 : decode cX8_haveLikeColumns 57 = .ok (.iconst 1, 1) := by decide +kernel
theorem dX8_haveLikeColumns_58 : decode cX8_haveLikeColumns 58 = .ok (.ireturn, 1) := by decide +kernel
theorem dX8_isTaken_0 : decode cX8_isTaken 0 = .ok (.iconst 0, 1) := by decide +kernel
theorem dX8_isTaken_1 : decode cX8_isTaken 1 = .ok (.istore_n 2, 1) := by decide +kernel
theorem dX8_isTaken_2 : decode cX8_isTaken 2 = .ok (.iload_n 2, 1) := by decide +kernel
theorem dX8_isTaken_3 : decode cX8_isTaken 3 = .ok (.iload_n 1, 1) := by decide +kernel
theorem dX8_isTaken_4 : decode cX8_isTaken 4 = .ok (.if_icmp .ge 34, 3) := by decide +kernel
theorem dX8_isTaken_7 : decode cX8_isTaken 7 = .ok (.aload_n 0, 1) := by decide +kernel
theorem dX8_isTaken_8 : decode cX8_isTaken 8 = .ok (.getfield 34, 3) := by decide +kernel
theorem dX8_isTaken_11 : decode cX8_isTaken 11 = .ok (.iload_n 2, 1) := by decide +kernel
theorem dX8_isTaken_12 : decode cX8_isTaken 12 = .ok (.iaload, 1) := by decide +kernel
theorem dX8_isTaken_13 : decode cX8_isTaken 13 = .ok (.sipush 256, 3) := by decide +kernel
theorem dX8_isTaken_16 : decode cX8_isTaken 16 = .ok (.idiv, 1) := by decide +kernel
theorem dX8_isTaken_17 : decode cX8_isTaken 17 = .ok (.aload_n 0, 1) := by decide +kernel
theorem dX8_isTaken_18 : decode cX8_isTaken 18 = .ok (.getfield 34, 3) := by decide +kernel
theorem dX8_isTaken_21 : decode cX8_isTaken 21 = .ok (.iload_n 1, 1) := by decide +kernel
theorem dX8_isTaken_22 : decode cX8_isTaken 22 = .ok (.iaload, 1) := by decide +kernel
theorem dX8_isTaken_23 : decode cX8_isTaken 23 = .ok (.sipush 256, 3) := by decide +kernel
theorem dX8_isTaken_26 : decode cX8_isTaken 26 = .ok (.idiv, 1) := by decide +kernel
theorem dX8_isTaken_27 : decode cX8_isTaken 27 = .ok (.if_icmp .ne 5, 3) := by decide +kernel
theorem dX8_isTaken_30 : decode cX8_isTaken 30 = .ok (.iconst 1, 1) := by decide +kernel
theorem dX8_isTaken_31 : decode cX8_isTaken 31 = .ok (.ireturn, 1) := by decide +kernel
theorem dX8_isTaken_32 : decode cX8_isTaken 32 = .ok (.iinc 2 1, 3) := by decide +kernel
theorem dX8_isTaken_35 : decode cX8_isTaken 35 = .ok (.goto (-33), 3) := by decide +kernel
theorem dX8_isTaken_38 : decode cX8_isTaken 38 = .ok (.iconst 0, 1) := by decide +kernel
theorem dX8_isTaken_39 : decode cX8_isTaken 39 = .ok (.ireturn, 1) := by decide +kernel
theorem dX8_areSameRows_0 : decode cX8_areSameRows 0 = .ok (.iconst 0, 1) := by decide +kernel
theorem dX8_areSameRows_1 : decode cX8_areSameRows 1 = .ok (.istore_n 3, 1) := by decide +kernel
theorem dX8_areSameRows_2 : decode cX8_areSameRows 2 = .ok (.iload_n 3, 1) := by decide +kernel
theorem dX8_areSameRows_3 : decode cX8_areSameRows 3 = .ok (.aload_n 0, 1) := by decide +kernel
theorem dX8_areSameRows_4 : decode cX8_areSameRows 4 = .ok (.getfield 7, 3) := by decide +kernel
theorem dX8_areSameRows_7 : decode cX8_areSameRows 7 = .ok (.iconst 0, 1) := by decide +kernel
theorem dX8_areSameRows_8 : decode cX8_areSameRows 8 = .ok (.iaload, 1) := by decide +kernel
theorem dX8_areSameRows_9 : decode cX8_areSameRows 9 = .ok (.if_icmp .ge 113, 3) := by decide +kernel
theorem dX8_areSameRows_12 : decode cX8_areSameRows 12 = .ok (.aload_n 0, 1) := by decide +kernel
theorem dX8_areSameRows_13 : decode cX8_areSameRows 13 = .ok (.getfield 37, 3) := by decide +kernel
theorem dX8_areSameRows_16 : decode cX8_areSameRows 16 = .ok (.iload_n 3, 1) := by decide +kernel
theorem dX8_areSameRows_17 : decode cX8_areSameRows 17 = .ok (.iconst 0, 1) := by decide +kernel
theorem dX8_areSameRows_18 : decode cX8_areSameRows 18 = .ok (.iastore, 1) := by decide +kernel
theorem dX8_areSameRows_19 : decode cX8_areSameRows 19 = .ok (.aload_n 0, 1) := by decide +kernel
theorem dX8_areSameRows_20 : decode cX8_areSameRows 20 = .ok (.getfield 40, 3) := by decide +kernel
theorem dX8_areSameRows_23 : decode cX8_areSameRows 23 = .ok (.iload_n 3, 1) := by decide +kernel
theorem dX8_areSameRows_24 : decode cX8_areSameRows 24 = .ok (.iconst 0, 1) := by decide +kernel
theorem dX8_areSameRows_25 : decode cX8_areSameRows 25 = .ok (.iastore, 1) := by decide +kernel
theorem dX8_areSameRows_26 : decode cX8_areSameRows 26 = .ok (.iconst 0, 1) := by decide +kernel
theorem dX8_areSameRows_27 : decode cX8_areSameRows 27 = .ok (.istore 4, 2) := by decide +kernel
theorem dX8_areSameRows_29 : decode cX8_areSameRows 29 = .ok (.iload 4, 2) := by decide +kernel
theorem dX8_areSameRows_31 : decode cX8_areSameRows 31 = .ok (.iload_n 2, 1) := by decide +kernel
theorem dX8_areSameRows_32 : decode cX8_areSameRows 32 = .ok (.if_icmp .ge 84, 3) := by decide +kernel
theorem dX8_areSameRows_35 : decode cX8_areSameRows 35 = .ok (.aload_n 0, 1) := by decide +kernel
theorem dX8_areSameRows_36 : decode cX8_areSameRows 36 = .ok (.getfield 37, 3) := by decide +kernel
theorem dX8_areSameRows_39 : decode cX8_areSameRows 39 = .ok (.iload_n 3, 1) := by decide +kernel
theorem dX8_areSameRows_40 : decode cX8_areSameRows 40 = .ok (.iconst 4, 1) := by decide +kernel
theorem dX8_areSameRows_41 : decode cX8_areSameRows 41 = .ok (.aload_n 0, 1) := by decide +kernel
theorem dX8_areSameRows_42 : decode cX8_areSameRows 42 = .ok (.getfield 37, 3) := by decide +kernel
theorem dX8_areSameRows_45 : decode cX8_areSameRows 45 = .ok (.iload_n 3, 1) := by decide +kernel
theorem dX8_areSameRows_46 : decode cX8_areSameRows 46 = .ok (.iaload, 1) := by decide +kernel
theorem dX8_areSameRows_47 : decode cX8_areSameRows 47 = .ok (.imul, 1) := by decide +kernel
theorem dX8_areSameRows_48 : decode cX8_areSameRows 48 = .ok (.aload_n 0, 1) := by decide +kernel
theorem dX8_areSameRows_49 : decode cX8_areSameRows 49 = .ok (.getfield 34, 3) := by decide +kernel
theorem dX8_areSameRows_52 : decode cX8_areSameRows 52 = .ok (.iload 4, 2) := by decide +kernel
theorem dX8_areSameRows_54 : decode cX8_areSameRows 54 = .ok (.iaload, 1) := by decide +kernel
theorem dX8_areSameRows_55 : decode cX8_areSameRows 55 = .ok (.sipush 256, 3) := by decide +kernel
theorem dX8_areSameRows_58 : decode cX8_areSameRows 58 = .ok (.irem, 1) := by decide +kernel
theorem dX8_areSameRows_59 : decode cX8_areSameRows 59 = .ok (.aload_n 0, 1) := by decide +kernel
theorem dX8_areSameRows_60 : decode cX8_areSameRows 60 = .ok (.iload_n 3, 1) := by decide +kernel
theorem dX8_areSameRows_61 : decode cX8_areSameRows 61 = .ok (.iload 4, 2) := by decide +kernel
theorem dX8_areSameRows_63 : decode cX8_areSameRows 63 = .ok (.invokevirtual 62, 3) := by decide +kernel
theorem dX8_areSameRows_66 : decode cX8_areSameRows 66 = .ok (.invokestatic 187, 3) := by decide +kernel
theorem dX8_areSameRows_69 : decode cX8_areSameRows 69 = .ok (.iadd, 1) := by decide +kernel
theorem dX8_areSameRows_70 : decode cX8_areSameRows 70 = .ok (.iastore, 1) := by decide +kernel
theorem dX8_areSameRows_71 : decode cX8_areSameRows 71 = .ok (.aload_n 0, 1) := by decide +kernel
theorem dX8_areSameRows_72 : decode cX8_areSameRows 72 = .ok (.getfield 40, 3) := by decide +kernel
theorem dX8_areSameRows_75 : decode cX8_areSameRows 75 = .ok (.iload_n 3, 1) := by decide +kernel
theorem dX8_areSameRows_76 : decode cX8_areSameRows 76 = .ok (.iconst 4, 1) := by decide +kernel
theorem dX8_areSameRows_77 : decode cX8_areSameRows 77 = .ok (.aload_n 0, 1) := by decide +kernel
theorem dX8_areSameRows_78 : decode cX8_areSameRows 78 = .ok (.getfield 40, 3) := by decide +kernel
theorem dX8_areSameRows_81 : decode cX8_areSameRows 81 = .ok (.iload_n 3, 1) := by decide +kernel
theorem dX8_areSameRows_82 : decode cX8_areSameRows 82 = .ok (.iaload, 1) := by decide +kernel
theorem dX8_areSameRows_83 : decode cX8_areSameRows 83 = .ok (.imul, 1) := by decide +kernel
theorem dX8_areSameRows_84 : decode cX8_areSameRows 84 = .ok (.aload_n 0, 1) := by decide +kernel
theorem dX8_areSameRows_85 : decode cX8_areSameRows 85 = .ok (.iload_n 1, 1) := by decide +kernel
theorem dX8_areSameRows_86 : decode cX8_areSameRows 86 = .ok (.bipush 9, 2) := by decide +kernel
theorem dX8_areSameRows_88 : decode cX8_areSameRows 88 = .ok (.bipush 7, 2) := by decide +kernel
theorem dX8_areSameRows_90 : decode cX8_areSameRows 90 = .ok (.iload_n 3, 1) := by decide +kernel
theorem dX8_areSameRows_91 : decode cX8_areSameRows 91 = .ok (.imul, 1) := by decide +kernel
theorem dX8_areSameRows_92 : decode cX8_areSameRows 92 = .ok (.iadd, 1) := by decide +kernel
theorem dX8_areSameRows_93 : decode cX8_areSameRows 93 = .ok (.aload_n 0, 1) := by decide +kernel
theorem dX8_areSameRows_94 : decode cX8_areSameRows 94 = .ok (.getfield 34, 3) := by decide +kernel
theorem dX8_areSameRows_97 : decode cX8_areSameRows 97 = .ok (.iload 4, 2) := by decide +kernel
theorem dX8_areSameRows_99 : decode cX8_areSameRows 99 = .ok (.iaload, 1) := by decide +kernel
theorem dX8_areSameRows_100 : decode cX8_areSameRows 100 = .ok (.sipush 256, 3) := by decide +kernel
theorem dX8_areSameRows_103 : decode cX8_areSameRows 103 = .ok (.idiv, 1) := by decide +kernel
theorem dX8_areSameRows_104 : decode cX8_areSameRows 104 = .ok (.iadd, 1) := by decide +kernel
theorem dX8_areSameRows_105 : decode cX8_areSameRows 105 = .ok (.invokevirtual 101, 3) := by decide +kernel
theorem dX8_areSameRows_108 : decode cX8_areSameRows 108 = .ok (.iadd, 1) := by decide +kernel
theorem dX8_areSameRows_109 : decode cX8_areSameRows 109 = .ok (.iastore, 1) := by decide +kernel
theorem dX8_areSameRows_110 : decode cX8_areSameRows 110 = .ok (.iinc 4 1, 3) := by decide +kernel
theorem dX8_areSameRows_113 : decode cX8_areSameRows 113 = .ok (.goto (-84), 3) := by decide +kernel
theorem dX8_areSameRows_116 : decode cX8_areSameRows 116 = .ok (.iinc 3 1, 3) := by decide +kernel
theorem dX8_areSameRows_119 : decode cX8_areSameRows 119 = .ok (.goto (-117), 3) := by decide +kernel
theorem dX8_areSameRows_122 : decode cX8_areSameRows 122 = .ok (.iconst 0, 1) := by decide +kernel
theorem dX8_areSameRows_123 : decode cX8_areSameRows 123 = .ok (.istore_n 3, 1) := by decide +kernel
theorem dX8_areSameRows_124 : decode cX8_areSameRows 124 = .ok (.iload_n 3, 1) := by decide +kernel
theorem dX8_areSameRows_125 : decode cX8_areSameRows 125 = .ok (.aload_n 0, 1) := by decide +kernel
theorem dX8_areSameRows_126 : decode cX8_areSameRows 126 = .ok (.getfield 7, 3) := by decide +kernel
theorem dX8_areSameRows_129 : decode cX8_areSameRows 129 = .ok (.iconst 0, 1) := by decide +kernel
theorem dX8_areSameRows_130 : decode cX8_areSameRows 130 = .ok (.iaload, 1) := by decide +kernel
theorem dX8_areSameRows_131 : decode cX8_areSameRows 131 = .ok (.if_icmp .ge 96, 3) := by decide +kernel
theorem dX8_areSameRows_134 : decode cX8_areSameRows 134 = .ok (.iconst 0, 1) := by decide +kernel
theorem dX8_areSameRows_135 : decode cX8_areSameRows 135 = .ok (.istore 4, 2) := by decide +kernel
theorem dX8_areSameRows_137 : decode cX8_areSameRows 137 = .ok (.iconst 0, 1) := by decide +kernel
theorem dX8_areSameRows_138 : decode cX8_areSameRows 138 = .ok (.istore 5, 2) := by decide +kernel
theorem dX8_areSameRows_140 : decode cX8_areSameRows 140 = .ok (.iconst 0, 1) := by decide +kernel
theorem dX8_areSameRows_141 : decode cX8_areSameRows 141 = .ok (.istore 6, 2) := by decide +kernel
theorem dX8_areSameRows_143 : decode cX8_areSameRows 143 = .ok (.iload 6, 2) := by decide +kernel
theorem dX8_areSameRows_145 : decode cX8_areSameRows 145 = .ok (.aload_n 0, 1) := by decide +kernel
theorem dX8_areSameRows_146 : decode cX8_areSameRows 146 = .ok (.getfield 7, 3) := by decide +kernel
theorem dX8_areSameRows_149 : decode cX8_areSameRows 149 = .ok (.iconst 0, 1) := by decide +kernel
theorem dX8_areSameRows_150 : decode cX8_areSameRows 150 = .ok (.iaload, 1) := by decide +kernel
theorem dX8_areSameRows_151 : decode cX8_areSameRows 151 = .ok (.if_icmp .ge 61, 3) := by decide +kernel
theorem dX8_areSameRows_154 : decode cX8_areSameRows 154 = .ok (.iload 4, 2) := by decide +kernel
theorem dX8_areSameRows_156 : decode cX8_areSameRows 156 = .ok (.aload_n 0, 1) := by decide +kernel
theorem dX8_areSameRows_157 : decode cX8_areSameRows 157 = .ok (.getfield 37, 3) := by decide +kernel
theorem dX8_areSameRows_160 : decode cX8_areSameRows 160 = .ok (.iload 6, 2) := by decide +kernel
theorem dX8_areSameRows_162 : decode cX8_areSameRows 162 = .ok (.iaload, 1) := by decide +kernel
theorem dX8_areSameRows_163 : decode cX8_areSameRows 163 = .ok (.aload_n 0, 1) := by decide +kernel
theorem dX8_areSameRows_164 : decode cX8_areSameRows 164 = .ok (.getfield 37, 3) := by decide +kernel
theorem dX8_areSameRows_167 : decode cX8_areSameRows 167 = .ok (.iload_n 3, 1) := by decide +kernel
theorem dX8_areSameRows_168 : decode cX8_areSameRows 168 = .ok (.iaload, 1) := by decide +kernel
theorem dX8_areSameRows_169 : decode cX8_areSameRows 169 = .ok (.if_icmp .ne 7, 3) := by decide +kernel
theorem dX8_areSameRows_172 : decode cX8_areSameRows 172 = .ok (.iconst 1, 1) := by decide +kernel
theorem dX8_areSameRows_173 : decode cX8_areSameRows 173 = .ok (.goto 4, 3) := by decide +kernel
theorem dX8_areSameRows_176 : decode cX8_areSameRows 176 = .ok (.iconst 0, 1) := by decide +kernel
theorem dX8_areSameRows_177 : decode cX8_areSameRows 177 = .ok (.iadd, 1) := by decide +kernel
theorem dX8_areSameRows_178 : decode cX8_areSameRows 178 = .ok (.istore 4, 2) := by decide +kernel
theorem dX8_areSameRows_180 : decode cX8_areSameRows 180 = .ok (.iload 5, 2) := by decide +kernel
theorem dX8_areSameRows_182 : decode cX8_areSameRows 182 = .ok (.aload_n 0, 1) := by decide +kernel
theorem dX8_areSameRows_183 : decode cX8_areSameRows 183 = .ok (.getfield 40, 3) := by decide +kernel
theorem dX8_areSameRows_186 : decode cX8_areSameRows 186 = .ok (.iload 6, 2) := by decide +kernel
theorem dX8_areSameRows_188 : decode cX8_areSameRows 188 = .ok (.iaload, 1) := by decide +kernel
theorem dX8_areSameRows_189 : decode cX8_areSameRows 189 = .ok (.aload_n 0, 1) := by decide +kernel
theorem dX8_areSameRows_190 : decode cX8_areSameRows 190 = .ok (.getfield 37, 3) := by decide +kernel
theorem dX8_areSameRows_193 : decode cX8_areSameRows 193 = .ok (.iload_n 3, 1) := by decide +kernel
theorem dX8_areSameRows_194 : decode cX8_areSameRows 194 = .ok (.iaload, 1) := by decide +kernel
theorem dX8_areSameRows_195 : decode cX8_areSameRows 195 = .ok (.if_icmp .ne 7, 3) := by decide +kernel
theorem dX8_areSameRows_198 : decode cX8_areSameRows 198 = .ok (.iconst 1, 1) := by decide +kernel
theorem dX8_areSameRows_199 : decode cX8_areSameRows 199 = .ok (.goto 4, 3) := by decide +kernel
theorem dX8_areSameRows_202 : decode cX8_areSameRows 202 = .ok (.iconst 0, 1) := by decide +kernel
theorem dX8_areSameRows_203 : decode cX8_areSameRows 203 = .ok (.iadd, 1) := by decide +kernel
theorem dX8_areSameRows_204 : decode cX8_areSameRows 204 = .ok (.istore 5, 2) := by decide +kernel
theorem dX8_areSameRows_206 : decode cX8_areSameRows 206 = .ok (.iinc 6 1, 3) := by decide +kernel
theorem dX8_areSameRows_209 : decode cX8_areSameRows 209 = .ok (.goto (-66), 3) := by decide +kernel
theorem dX8_areSameRows_212 : decode cX8_areSameRows 212 = .ok (.iload 4, 2) := by decide +kernel
theorem dX8_areSameRows_214 : decode cX8_areSameRows 214 = .ok (.iload 5, 2) := by decide +kernel
theorem dX8_areSameRows_216 : decode cX8_areSameRows 216 = .ok (.if_icmp .eq 5, 3) := by decide +kernel
theorem dX8_areSameRows_219 : decode cX8_areSameRows 219 = .ok (.iconst 0, 1) := by decide +kernel
theorem dX8_areSameRows_220 : decode cX8_areSameRows 220 = .ok (.ireturn, 1) := by decide +kernel
theorem dX8_areSameRows_221 : decode cX8_areSameRows 221 = .ok (.iinc 3 1, 3) := by decide +kernel
theorem dX8_areSameRows_224 : decode cX8_areSameRows 224 = .ok (.goto (-100), 3) := by decide +kernel
theorem dX8_areSameRows_227 : decode cX8_areSameRows 227 = .ok (.iconst 1, 1) := by decide +kernel
theorem dX8_areSameRows_228 : decode cX8_areSameRows 228 = .ok (.ireturn, 1) := by decide +kernel
theorem dX8_fits_0 : decode cX8_fits 0 = .ok (.aload_n 0, 1) := by decide +kernel
theorem dX8_fits_1 : decode cX8_fits 1 = .ok (.getfield 7, 3) := by decide +kernel
theorem dX8_fits_4 : decode cX8_fits 4 = .ok (.iconst 2, 1) := by decide +kernel
theorem dX8_fits_5 : decode cX8_fits 5 = .ok (.iload_n 2, 1) := by decide +kernel
theorem dX8_fits_6 : decode cX8_fits 6 = .ok (.iadd, 1) := by decide +kernel
theorem dX8_fits_7 : decode cX8_fits 7 = .ok (.iaload, 1) := by decide +kernel
theorem dX8_fits_8 : decode cX8_fits 8 = .ok (.istore_n 3, 1) := by decide +kernel
theorem dX8_fits_9 : decode cX8_fits 9 = .ok (.aload_n 0, 1) := by decide +kernel
theorem dX8_fits_10 : decode cX8_fits 10 = .ok (.iload_n 1, 1) := by decide +kernel
theorem dX8_fits_11 : decode cX8_fits 11 = .ok (.iconst 2, 1) := by decide +kernel
theorem dX8_fits_12 : decode cX8_fits 12 = .ok (.aload_n 0, 1) := by decide +kernel
theorem dX8_fits_13 : decode cX8_fits 13 = .ok (.getfield 34, 3) := by decide +kernel
theorem dX8_fits_16 : decode cX8_fits 16 = .ok (.iload_n 2, 1) := by decide +kernel
theorem dX8_fits_17 : decode cX8_fits 17 = .ok (.iaload, 1) := by decide +kernel
theorem dX8_fits_18 : decode cX8_fits 18 = .ok (.sipush 256, 3) := by decide +kernel
theorem dX8_fits_21 : decode cX8_fits 21 = .ok (.idiv, 1) := by decide +kernel
theorem dX8_fits_22 : decode cX8_fits 22 = .ok (.iadd, 1) := by decide +kernel
theorem dX8_fits_23 : decode cX8_fits 23 = .ok (.invokevirtual 101, 3) := by decide +kernel
theorem dX8_fits_26 : decode cX8_fits 26 = .ok (.iload_n 3, 1) := by decide +kernel
theorem dX8_fits_27 : decode cX8_fits 27 = .ok (.if_icmp .ne 52, 3) := by decide +kernel
theorem dX8_fits_30 : decode cX8_fits 30 = .ok (.aload_n 0, 1) := by decide +kernel
theorem dX8_fits_31 : decode cX8_fits 31 = .ok (.aload_n 0, 1) := by decide +kernel
theorem dX8_fits_32 : decode cX8_fits 32 = .ok (.getfield 34, 3) := by decide +kernel
theorem dX8_fits_35 : decode cX8_fits 35 = .ok (.iload_n 2, 1) := by decide +kernel
theorem dX8_fits_36 : decode cX8_fits 36 = .ok (.iaload, 1) := by decide +kernel
theorem dX8_fits_37 : decode cX8_fits 37 = .ok (.sipush 256, 3) := by decide +kernel
theorem dX8_fits_40 : decode cX8_fits 40 = .ok (.irem, 1) := by decide +kernel
theorem dX8_fits_41 : decode cX8_fits 41 = .ok (.iload_n 3, 1) := by decide +kernel
theorem dX8_fits_42 : decode cX8_fits 42 = .ok (.invokevirtual 202, 3) := by decide +kernel
theorem dX8_fits_45 : decode cX8_fits 45 = .ok (.ifCond .eq 34, 3) := by decide +kernel
theorem dX8_fits_48 : decode cX8_fits 48 = .ok (.aload_n 0, 1) := by decide +kernel
theorem dX8_fits_49 : decode cX8_fits 49 = .ok (.iload_n 2, 1) := by decide +kernel
theorem dX8_fits_50 : decode cX8_fits 50 = .ok (.invokevirtual 205, 3) := by decide +kernel
theorem dX8_fits_53 : decode cX8_fits 53 = .ok (.ifCond .ne 26, 3) := by decide +kernel
theorem dX8_fits_56 : decode cX8_fits 56 = .ok (.aload_n 0, 1) := by decide +kernel
theorem dX8_fits_57 : decode cX8_fits 57 = .ok (.iload_n 2, 1) := by decide +kernel
theorem dX8_fits_58 : decode cX8_fits 58 = .ok (.invokevirtual 208, 3) := by decide +kernel
theorem dX8_fits_61 : decode cX8_fits 61 = .ok (.ifCond .eq 18, 3) := by decide +kernel
theorem dX8_fits_64 : decode cX8_fits 64 = .ok (.aload_n 0, 1) := by decide +kernel
theorem dX8_fits_65 : decode cX8_fits 65 = .ok (.iload_n 1, 1) := by decide +kernel
theorem dX8_fits_66 : decode cX8_fits 66 = .ok (.iload_n 2, 1) := by decide +kernel
theorem dX8_fits_67 : decode cX8_fits 67 = .ok (.iconst 1, 1) := by decide +kernel
theorem dX8_fits_68 : decode cX8_fits 68 = .ok (.iadd, 1) := by decide +kernel
theorem dX8_fits_69 : decode cX8_fits 69 = .ok (.invokevirtual 211, 3) := by decide +kernel
theorem dX8_fits_72 : decode cX8_fits 72 = .ok (.ifCond .eq 7, 3) := by decide +kernel
theorem dX8_fits_75 : decode cX8_fits 75 = .ok (.iconst 1, 1) := by decide +kernel
theorem dX8_fits_76 : decode cX8_fits 76 = .ok (.goto 4, 3) := by decide +kernel
theorem dX8_fits_79 : decode cX8_fits 79 = .ok (.iconst 0, 1) := by decide +kernel
theorem dX8_fits_80 : decode cX8_fits 80 = .ok (.ireturn, 1) := by decide +kernel
theorem dX8_maps_0 : decode cX8_maps 0 = .ok (.aload_n 0, 1) := by decide +kernel
theorem dX8_maps_1 : decode cX8_maps 1 = .ok (.iload_n 1, 1) := by decide +kernel
theorem dX8_maps_2 : decode cX8_maps 2 = .ok (.iconst 0, 1) := by decide +kernel
theorem dX8_maps_3 : decode cX8_maps 3 = .ok (.invokevirtual 101, 3) := by decide +kernel
theorem dX8_maps_6 : decode cX8_maps 6 = .ok (.aload_n 0, 1) := by decide +kernel
theorem dX8_maps_7 : decode cX8_maps 7 = .ok (.getfield 7, 3) := by decide +kernel
theorem dX8_maps_10 : decode cX8_maps 10 = .ok (.iconst 0, 1) := by decide +kernel
theorem dX8_maps_11 : decode cX8_maps 11 = .ok (.iaload, 1) := by decide +kernel
theorem dX8_maps_12 : decode cX8_maps 12 = .ok (.if_icmp .ne 26, 3) := by decide +kernel
theorem dX8_maps_15 : decode cX8_maps 15 = .ok (.aload_n 0, 1) := by decide +kernel
theorem dX8_maps_16 : decode cX8_maps 16 = .ok (.iload_n 1, 1) := by decide +kernel
theorem dX8_maps_17 : decode cX8_maps 17 = .ok (.iconst 1, 1) := by decide +kernel
theorem dX8_maps_18 : decode cX8_maps 18 = .ok (.invokevirtual 101, 3) := by decide +kernel
theorem dX8_maps_21 : decode cX8_maps 21 = .ok (.aload_n 0, 1) := by decide +kernel
theorem dX8_maps_22 : decode cX8_maps 22 = .ok (.getfield 7, 3) := by decide +kernel
theorem dX8_maps_25 : decode cX8_maps 25 = .ok (.iconst 1, 1) := by decide +kernel
theorem dX8_maps_26 : decode cX8_maps 26 = .ok (.iaload, 1) := by decide +kernel
theorem dX8_maps_27 : decode cX8_maps 27 = .ok (.if_icmp .ne 11, 3) := by decide +kernel
theorem dX8_maps_30 : decode cX8_maps 30 = .ok (.aload_n 0, 1) := by decide +kernel
theorem dX8_maps_31 : decode cX8_maps 31 = .ok (.iload_n 1, 1) := by decide +kernel
theorem dX8_maps_32 : decode cX8_maps 32 = .ok (.invokevirtual 214, 3) := by decide +kernel
theorem dX8_maps_35 : decode cX8_maps 35 = .ok (.ifCond .ne 5, 3) := by decide +kernel
theorem dX8_maps_38 : decode cX8_maps 38 = .ok (.iconst 0, 1) := by decide +kernel
theorem dX8_maps_39 : decode cX8_maps 39 = .ok (.ireturn, 1) := by decide +kernel
theorem dX8_maps_40 : decode cX8_maps 40 = .ok (.iconst 0, 1) := by decide +kernel
theorem dX8_maps_41 : decode cX8_maps 41 = .ok (.istore_n 2, 1) := by decide +kernel
theorem dX8_maps_42 : decode cX8_maps 42 = .ok (.aload_n 0, 1) := by decide +kernel
theorem dX8_maps_43 : decode cX8_maps 43 = .ok (.getfield 34, 3) := by decide +kernel
theorem dX8_maps_46 : decode cX8_maps 46 = .ok (.iconst 0, 1) := by decide +kernel
theorem dX8_maps_47 : decode cX8_maps 47 = .ok (.iconst (-1), 1) := by decide +kernel
theorem dX8_maps_48 : decode cX8_maps 48 = .ok (.iastore, 1) := by decide +kernel
theorem dX8_maps_49 : decode cX8_maps 49 = .ok (.iload_n 2, 1) := by decide +kernel
theorem dX8_maps_50 : decode cX8_maps 50 = .ok (.ifCond .lt 102, 3) := by decide +kernel
theorem dX8_maps_53 : decode cX8_maps 53 = .ok (.iload_n 2, 1) := by decide +kernel
theorem dX8_maps_54 : decode cX8_maps 54 = .ok (.aload_n 0, 1) := by decide +kernel
theorem dX8_maps_55 : decode cX8_maps 55 = .ok (.getfield 7, 3) := by decide +kernel
theorem dX8_maps_58 : decode cX8_maps 58 = .ok (.iconst 1, 1) := by decide +kernel
theorem dX8_maps_59 : decode cX8_maps 59 = .ok (.iaload, 1) := by decide +kernel
theorem dX8_maps_60 : decode cX8_maps 60 = .ok (.if_icmp .ge 92, 3) := by decide +kernel
theorem dX8_maps_63 : decode cX8_maps 63 = .ok (.aload_n 0, 1) := by decide +kernel
theorem dX8_maps_64 : decode cX8_maps 64 = .ok (.getfield 34, 3) := by decide +kernel
theorem dX8_maps_67 : decode cX8_maps 67 = .ok (.iload_n 2, 1) := by decide +kernel
theorem dX8_maps_68 : decode cX8_maps 68 = .ok (.dup2, 1) := by decide +kernel
theorem dX8_maps_69 : decode cX8_maps 69 = .ok (.iaload, 1) := by decide +kernel
theorem dX8_maps_70 : decode cX8_maps 70 = .ok (.iconst 1, 1) := by decide +kernel
theorem dX8_maps_71 : decode cX8_maps 71 = .ok (.iadd, 1) := by decide +kernel
theorem dX8_maps_72 : decode cX8_maps 72 = .ok (.iastore, 1) := by decide +kernel
theorem dX8_maps_73 : decode cX8_maps 73 = .ok (.aload_n 0, 1) := by decide +kernel
theorem dX8_maps_74 : decode cX8_maps 74 = .ok (.getfield 34, 3) := by decide +kernel
theorem dX8_maps_77 : decode cX8_maps 77 = .ok (.iload_n 2, 1) := by decide +kernel
theorem dX8_maps_78 : decode cX8_maps 78 = .ok (.iaload, 1) := by decide +kernel
theorem dX8_maps_79 : decode cX8_maps 79 = .ok (.sipush 256, 3) := by decide +kernel
theorem dX8_maps_82 : decode cX8_maps 82 = .ok (.aload_n 0, 1) := by decide +kernel
theorem dX8_maps_83 : decode cX8_maps 83 = .ok (.getfield 7, 3) := by decide +kernel
theorem dX8_maps_86 : decode cX8_maps 86 = .ok (.iconst 1, 1) := by decide +kernel
theorem dX8_maps_87 : decode cX8_maps 87 = .ok (.iaload, 1) := by decide +kernel
theorem dX8_maps_88 : decode cX8_maps 88 = .ok (.imul, 1) := by decide +kernel
theorem dX8_maps_89 : decode cX8_maps 89 = .ok (.if_icmp .ge 25, 3) := by decide +kernel
theorem dX8_maps_92 : decode cX8_maps 92 = .ok (.aload_n 0, 1) := by decide +kernel
theorem dX8_maps_93 : decode cX8_maps 93 = .ok (.iload_n 1, 1) := by decide +kernel
theorem dX8_maps_94 : decode cX8_maps 94 = .ok (.iload_n 2, 1) := by decide +kernel
theorem dX8_maps_95 : decode cX8_maps 95 = .ok (.invokevirtual 217, 3) := by decide +kernel
theorem dX8_maps_98 : decode cX8_maps 98 = .ok (.ifCond .ne 16, 3) := by decide +kernel
theorem dX8_maps_101 : decode cX8_maps 101 = .ok (.aload_n 0, 1) := by decide +kernel
theorem dX8_maps_102 : decode cX8_maps 102 = .ok (.getfield 34, 3) := by decide +kernel
theorem dX8_maps_105 : decode cX8_maps 105 = .ok (.iload_n 2, 1) := by decide +kernel
theorem dX8_maps_106 : decode cX8_maps 106 = .ok (.dup2, 1) := by decide +kernel
theorem dX8_maps_107 : decode cX8_maps 107 = .ok (.iaload, 1) := by decide +kernel
theorem dX8_maps_108 : decode cX8_maps 108 = .ok (.iconst 1, 1) := by decide +kernel
theorem dX8_maps_109 : decode cX8_maps 109 = .ok (.iadd, 1) := by decide +kernel
theorem dX8_maps_110 : decode cX8_maps 110 = .ok (.iastore, 1) := by decide +kernel
theorem dX8_maps_111 : decode cX8_maps 111 = .ok (.goto (-38), 3) := by decide +kernel
theorem dX8_maps_114 : decode cX8_maps 114 = .ok (.aload_n 0, 1) := by decide +kernel
theorem dX8_maps_115 : decode cX8_maps 115 = .ok (.getfield 34, 3) := by decide +kernel
theorem dX8_maps_118 : decode cX8_maps 118 = .ok (.iload_n 2, 1) := by decide +kernel
theorem dX8_maps_119 : decode cX8_maps 119 = .ok (.iaload, 1) := by decide +kernel
theorem dX8_maps_120 : decode cX8_maps 120 = .ok (.sipush 256, 3) := by decide +kernel
theorem dX8_maps_123 : decode cX8_maps 123 = .ok (.aload_n 0, 1) := by decide +kernel
theorem dX8_maps_124 : decode cX8_maps 124 = .ok (.getfield 7, 3) := by decide +kernel
theorem dX8_maps_127 : decode cX8_maps 127 = .ok (.iconst 1, 1) := by decide +kernel
theorem dX8_maps_128 : decode cX8_maps 128 = .ok (.iaload, 1) := by decide +kernel
theorem dX8_maps_129 : decode cX8_maps 129 = .ok (.imul, 1) := by decide +kernel
theorem dX8_maps_130 : decode cX8_maps 130 = .ok (.if_icmp .ne 9, 3) := by decide +kernel
theorem dX8_maps_133 : decode cX8_maps 133 = .ok (.iinc 2 (-1), 3) := by decide +kernel
theorem dX8_maps_136 : decode cX8_maps 136 = .ok (.goto (-87), 3) := by decide +kernel
theorem dX8_maps_139 : decode cX8_maps 139 = .ok (.iinc 2 1, 3) := by decide +kernel
theorem dX8_maps_142 : decode cX8_maps 142 = .ok (.aload_n 0, 1) := by decide +kernel
theorem dX8_maps_143 : decode cX8_maps 143 = .ok (.getfield 34, 3) := by decide +kernel
theorem dX8_maps_146 : decode cX8_maps 146 = .ok (.iload_n 2, 1) := by decide +kernel
theorem dX8_maps_147 : decode cX8_maps 147 = .ok (.iconst (-1), 1) := by decide +kernel
theorem dX8_maps_148 : decode cX8_maps 148 = .ok (.iastore, 1) := by decide +kernel
theorem dX8_maps_149 : decode cX8_maps 149 = .ok (.goto (-100), 3) := by decide +kernel
theorem dX8_maps_152 : decode cX8_maps 152 = .ok (.iload_n 2, 1) := by decide +kernel
theorem dX8_maps_153 : decode cX8_maps 153 = .ok (.ifCond .lt 7, 3) := by decide +kernel
theorem dX8_maps_156 : decode cX8_maps 156 = .ok (.iconst 1, 1) := by decide +kernel
theorem dX8_maps_157 : decode cX8_maps 157 = .ok (.goto 4, 3) := by decide +kernel
theorem dX8_maps_160 : decode cX8_maps 160 = .ok (.iconst 0, 1) := by decide +kernel
theorem dX8_maps_161 : decode cX8_maps 161 = .ok (.ireturn, 1) := by decide +kernel
theorem dX8_canMap_0 : decode cX8_canMap 0 = .ok (.aload_n 0, 1) := by decide +kernel
theorem dX8_canMap_1 : decode cX8_canMap 1 = .ok (.iload_n 1, 1) := by decide +kernel
theorem dX8_canMap_2 : decode cX8_canMap 2 = .ok (.invokevirtual 98, 3) := by decide +kernel
theorem dX8_canMap_5 : decode cX8_canMap 5 = .ok (.ifCond .eq 14, 3) := by decide +kernel
theorem dX8_canMap_8 : decode cX8_canMap 8 = .ok (.aload_n 0, 1) := by decide +kernel
theorem dX8_canMap_9 : decode cX8_canMap 9 = .ok (.getfield 7, 3) := by decide +kernel
theorem dX8_canMap_12 : decode cX8_canMap 12 = .ok (.iconst 0, 1) := by decide +kernel
theorem dX8_canMap_13 : decode cX8_canMap 13 = .ok (.iaload, 1) := by decide +kernel
theorem dX8_canMap_14 : decode cX8_canMap 14 = .ok (.bipush 18, 2) := by decide +kernel
theorem dX8_canMap_16 : decode cX8_canMap 16 = .ok (.if_icmp .le 5, 3) := by decide +kernel
theorem dX8_canMap_19 : decode cX8_canMap 19 = .ok (.iconst 0, 1) := by decide +kernel
theorem dX8_canMap_20 : decode cX8_canMap 20 = .ok (.ireturn, 1) := by decide +kernel
theorem dX8_canMap_21 : decode cX8_canMap 21 = .ok (.iconst 0, 1) := by decide +kernel
theorem dX8_canMap_22 : decode cX8_canMap 22 = .ok (.istore_n 2, 1) := by decide +kernel
theorem dX8_canMap_23 : decode cX8_canMap 23 = .ok (.iload_n 2, 1) := by decide +kernel
theorem dX8_canMap_24 : decode cX8_canMap 24 = .ok (.aload_n 0, 1) := by decide +kernel
theorem dX8_canMap_25 : decode cX8_canMap 25 = .ok (.getfield 7, 3) := by decide +kernel
theorem dX8_canMap_28 : decode cX8_canMap 28 = .ok (.iconst 1, 1) := by decide +kernel
theorem dX8_canMap_29 : decode cX8_canMap 29 = .ok (.iaload, 1) := by decide +kernel
theorem dX8_canMap_30 : decode cX8_canMap 30 = .ok (.if_icmp .ge 23, 3) := by decide +kernel
theorem dX8_canMap_33 : decode cX8_canMap 33 = .ok (.aload_n 0, 1) := by decide +kernel
theorem dX8_canMap_34 : decode cX8_canMap 34 = .ok (.getfield 7, 3) := by decide +kernel
theorem dX8_canMap_37 : decode cX8_canMap 37 = .ok (.iconst 2, 1) := by decide +kernel
theorem dX8_canMap_38 : decode cX8_canMap 38 = .ok (.iload_n 2, 1) := by decide +kernel
theorem dX8_canMap_39 : decode cX8_canMap 39 = .ok (.iadd, 1) := by decide +kernel
theorem dX8_canMap_40 : decode cX8_canMap 40 = .ok (.iaload, 1) := by decide +kernel
theorem dX8_canMap_41 : decode cX8_canMap 41 = .ok (.iconst 4, 1) := by decide +kernel
theorem dX8_canMap_42 : decode cX8_canMap 42 = .ok (.if_icmp .le 5, 3) := by decide +kernel
theorem dX8_canMap_45 : decode cX8_canMap 45 = .ok (.iconst 0, 1) := by decide +kernel
theorem dX8_canMap_46 : decode cX8_canMap 46 = .ok (.ireturn, 1) := by decide +kernel
theorem dX8_canMap_47 : decode cX8_canMap 47 = .ok (.iinc 2 1, 3) := by decide +kernel
theorem dX8_canMap_50 : decode cX8_canMap 50 = .ok (.goto (-27), 3) := by decide +kernel
theorem dX8_canMap_53 : decode cX8_canMap 53 = .ok (.iconst 1, 1) := by decide +kernel
theorem dX8_canMap_54 : decode cX8_canMap 54 = .ok (.ireturn, 1) := by decide +kernel
theorem dX8_isIsomorphic_0 : decode cX8_isIsomorphic 0 = .ok (.iload_n 1, 1) := by decide +kernel
theorem dX8_isIsomorphic_1 : decode cX8_isIsomorphic 1 = .ok (.invokestatic 95, 3) := by decide +kernel
theorem dX8_isIsomorphic_4 : decode cX8_isIsomorphic 4 = .ok (.ifCond .ne 5, 3) := by decide +kernel
theorem dX8_isIsomorphic_7 : decode cX8_isIsomorphic 7 = .ok (.iconst (-1), 1) := by decide +kernel
theorem dX8_isIsomorphic_8 : decode cX8_isIsomorphic 8 = .ok (.ireturn, 1) := by decide +kernel
theorem dX8_isIsomorphic_9 : decode cX8_isIsomorphic 9 = .ok (.aload_n 0, 1) := by decide +kernel
theorem dX8_isIsomorphic_10 : decode cX8_isIsomorphic 10 = .ok (.iload_n 1, 1) := by decide +kernel
theorem dX8_isIsomorphic_11 : decode cX8_isIsomorphic 11 = .ok (.invokevirtual 220, 3) := by decide +kernel
theorem dX8_isIsomorphic_14 : decode cX8_isIsomorphic 14 = .ok (.ifCond .ne 6, 3) := by decide +kernel
theorem dX8_isIsomorphic_17 : decode cX8_isIsomorphic 17 = .ok (.bipush (-2), 2) := by decide +kernel
theorem dX8_isIsomorphic_19 : decode cX8_isIsomorphic 19 = .ok (.ireturn, 1) := by decide +kernel
theorem dX8_isIsomorphic_20 : decode cX8_isIsomorphic 20 = .ok (.aload_n 0, 1) := by decide +kernel
theorem dX8_isIsomorphic_21 : decode cX8_isIsomorphic 21 = .ok (.iload_n 1, 1) := by decide +kernel
theorem dX8_isIsomorphic_22 : decode cX8_isIsomorphic 22 = .ok (.invokevirtual 223, 3) := by decide +kernel
theorem dX8_isIsomorphic_25 : decode cX8_isIsomorphic 25 = .ok (.ifCond .eq 7, 3) := by decide +kernel
theorem dX8_isIsomorphic_28 : decode cX8_isIsomorphic 28 = .ok (.iconst 1, 1) := by decide +kernel
theorem dX8_isIsomorphic_29 : decode cX8_isIsomorphic 29 = .ok (.goto 4, 3) := by decide +kernel
theorem dX8_isIsomorphic_32 : decode cX8_isIsomorphic 32 = .ok (.iconst 0, 1) := by decide +kernel
theorem dX8_isIsomorphic_33 : decode cX8_isIsomorphic 33 = .ok (.ireturn, 1) := by decide +kernel
theorem dX8_mapped_0 : decode cX8_mapped 0 = .ok (.iload_n 1, 1) := by decide +kernel
theorem dX8_mapped_1 : decode cX8_mapped 1 = .ok (.invokestatic 95, 3) := by decide +kernel
theorem dX8_mapped_4 : decode cX8_mapped 4 = .ok (.ifCond .eq 29, 3) := by decide +kernel
theorem dX8_mapped_7 : decode cX8_mapped 7 = .ok (.aload_n 0, 1) := by decide +kernel
theorem dX8_mapped_8 : decode cX8_mapped 8 = .ok (.iload_n 2, 1) := by decide +kernel
theorem dX8_mapped_9 : decode cX8_mapped 9 = .ok (.invokevirtual 66, 3) := by decide +kernel
theorem dX8_mapped_12 : decode cX8_mapped 12 = .ok (.ifCond .eq 21, 3) := by decide +kernel
theorem dX8_mapped_15 : decode cX8_mapped 15 = .ok (.iload_n 3, 1) := by decide +kernel
theorem dX8_mapped_16 : decode cX8_mapped 16 = .ok (.iconst (-1), 1) := by decide +kernel
theorem dX8_mapped_17 : decode cX8_mapped 17 = .ok (.aload_n 0, 1) := by decide +kernel
theorem dX8_mapped_18 : decode cX8_mapped 18 = .ok (.getfield 7, 3) := by decide +kernel
theorem dX8_mapped_21 : decode cX8_mapped 21 = .ok (.iconst 2, 1) := by decide +kernel
theorem dX8_mapped_22 : decode cX8_mapped 22 = .ok (.iload_n 2, 1) := by decide +kernel
theorem dX8_mapped_23 : decode cX8_mapped 23 = .ok (.iadd, 1) := by decide +kernel
theorem dX8_mapped_24 : decode cX8_mapped 24 = .ok (.iaload, 1) := by decide +kernel
theorem dX8_mapped_25 : decode cX8_mapped 25 = .ok (.iconst 1, 1) := by decide +kernel
theorem dX8_mapped_26 : decode cX8_mapped 26 = .ok (.isub, 1) := by decide +kernel
theorem dX8_mapped_27 : decode cX8_mapped 27 = .ok (.invokestatic 43, 3) := by decide +kernel
theorem dX8_mapped_30 : decode cX8_mapped 30 = .ok (.ifCond .ne 5, 3) := by decide +kernel
theorem dX8_mapped_33 : decode cX8_mapped 33 = .ok (.iconst (-1), 1) := by decide +kernel
theorem dX8_mapped_34 : decode cX8_mapped 34 = .ok (.ireturn, 1) := by decide +kernel
theorem dX8_mapped_35 : decode cX8_mapped 35 = .ok (.aload_n 0, 1) := by decide +kernel
theorem dX8_mapped_36 : decode cX8_mapped 36 = .ok (.iload_n 1, 1) := by decide +kernel
theorem dX8_mapped_37 : decode cX8_mapped 37 = .ok (.invokevirtual 220, 3) := by decide +kernel
theorem dX8_mapped_40 : decode cX8_mapped 40 = .ok (.ifCond .ne 6, 3) := by decide +kernel
theorem dX8_mapped_43 : decode cX8_mapped 43 = .ok (.bipush (-2), 2) := by decide +kernel
theorem dX8_mapped_45 : decode cX8_mapped 45 = .ok (.ireturn, 1) := by decide +kernel
theorem dX8_mapped_46 : decode cX8_mapped 46 = .ok (.aload_n 0, 1) := by decide +kernel
theorem dX8_mapped_47 : decode cX8_mapped 47 = .ok (.iload_n 1, 1) := by decide +kernel
theorem dX8_mapped_48 : decode cX8_mapped 48 = .ok (.invokevirtual 223, 3) := by decide +kernel
theorem dX8_mapped_51 : decode cX8_mapped 51 = .ok (.ifCond .ne 6, 3) := by decide +kernel
theorem dX8_mapped_54 : decode cX8_mapped 54 = .ok (.bipush (-9), 2) := by decide +kernel
theorem dX8_mapped_56 : decode cX8_mapped 56 = .ok (.ireturn, 1) := by decide +kernel
theorem dX8_mapped_57 : decode cX8_mapped 57 = .ok (.iload_n 3, 1) := by decide +kernel
theorem dX8_mapped_58 : decode cX8_mapped 58 = .ok (.iconst (-1), 1) := by decide +kernel
theorem dX8_mapped_59 : decode cX8_mapped 59 = .ok (.if_icmp .ne 16, 3) := by decide +kernel
theorem dX8_mapped_62 : decode cX8_mapped 62 = .ok (.aload_n 0, 1) := by decide +kernel
theorem dX8_mapped_63 : decode cX8_mapped 63 = .ok (.getfield 34, 3) := by decide +kernel
theorem dX8_mapped_66 : decode cX8_mapped 66 = .ok (.iload_n 2, 1) := by decide +kernel
theorem dX8_mapped_67 : decode cX8_mapped 67 = .ok (.iaload, 1) := by decide +kernel
theorem dX8_mapped_68 : decode cX8_mapped 68 = .ok (.sipush 256, 3) := by decide +kernel
theorem dX8_mapped_71 : decode cX8_mapped 71 = .ok (.idiv, 1) := by decide +kernel
theorem dX8_mapped_72 : decode cX8_mapped 72 = .ok (.goto 17, 3) := by decide +kernel
theorem dX8_mapped_75 : decode cX8_mapped 75 = .ok (.aload_n 0, 1) := by decide +kernel
theorem dX8_mapped_76 : decode cX8_mapped 76 = .ok (.getfield 34, 3) := by decide +kernel
theorem dX8_mapped_79 : decode cX8_mapped 79 = .ok (.iload_n 2, 1) := by decide +kernel
theorem dX8_mapped_80 : decode cX8_mapped 80 = .ok (.iaload, 1) := by decide +kernel
theorem dX8_mapped_81 : decode cX8_mapped 81 = .ok (.sipush 256, 3) := by decide +kernel
theorem dX8_mapped_84 : decode cX8_mapped 84 = .ok (.irem, 1) := by decide +kernel
theorem dX8_mapped_85 : decode cX8_mapped 85 = .ok (.iload_n 3, 1) := by decide +kernel
theorem dX8_mapped_86 : decode cX8_mapped 86 = .ok (.invokestatic 187, 3) := by decide +kernel
theorem dX8_mapped_89 : decode cX8_mapped 89 = .ok (.ireturn, 1) := by decide +kernel
