theorem dX7_init_0 : decode cX7_init 0 = .ok (.aload_n 0, 1) := by decide +kernel
theorem dX7_init_1 : decode cX7_init 1 = .ok (.invokespecial 1, 3) := by decide +kernel
theorem dX7_init_4 : decode cX7_init 4 = .ok (.aload_n 0, 1) := by decide +kernel
theorem dX7_init_5 : decode cX7_init 5 = .ok (.new 7, 3) := by decide +kernel
theorem dX7_init_8 : decode cX7_init 8 = .ok (.dup, 1) := by decide +kernel
theorem dX7_init_9 : decode cX7_init 9 = .ok (.invokespecial 9, 3) := by decide +kernel
theorem dX7_init_12 : decode cX7_init 12 = .ok (.putfield 10, 3) := by decide +kernel
theorem dX7_init_15 : decode cX7_init 15 = .ok (.aload_n 0, 1) := by decide +kernel
theorem dX7_init_16 : decode cX7_init 16 = .ok (.new 16, 3) := by decide +kernel
theorem dX7_init_19 : decode cX7_init 19 = .ok (.dup, 1) := by decide +kernel
theorem dX7_init_20 : decode cX7_init 20 = .ok (.invokespecial 18, 3) := by decide +kernel
theorem dX7_init_23 : decode cX7_init 23 = .ok (.putfield 19, 3) := by decide +kernel
theorem dX7_init_26 : decode cX7_init 26 = .ok (.aload_n 0, 1) := by decide +kernel
theorem dX7_init_27 : decode cX7_init 27 = .ok (.iconst 2, 1) := by decide +kernel
theorem dX7_init_28 : decode cX7_init 28 = .ok (.anewarray 7, 3) := by decide +kernel
theorem dX7_init_31 : decode cX7_init 31 = .ok (.putfield 23, 3) := by decide +kernel
theorem dX7_init_34 : decode cX7_init 34 = .ok (.aload_n 0, 1) := by decide +kernel
theorem dX7_init_35 : decode cX7_init 35 = .ok (.iconst 2, 1) := by decide +kernel
theorem dX7_init_36 : decode cX7_init 36 = .ok (.newarray .boolean, 2) := by decide +kernel
theorem dX7_init_38 : decode cX7_init 38 = .ok (.putfield 27, 3) := by decide +kernel
theorem dX7_init_41 : decode cX7_init 41 = .ok (.aload_n 0, 1) := by decide +kernel
theorem dX7_init_42 : decode cX7_init 42 = .ok (.new 31, 3) := by decide +kernel
theorem dX7_init_45 : decode cX7_init 45 = .ok (.dup, 1) := by decide +kernel
theorem dX7_init_46 : decode cX7_init 46 = .ok (.invokespecial 33, 3) := by decide +kernel
theorem dX7_init_49 : decode cX7_init 49 = .ok (.putfield 34, 3) := by decide +kernel
theorem dX7_init_52 : decode cX7_init 52 = .ok (.aload_n 0, 1) := by decide +kernel
theorem dX7_init_53 : decode cX7_init 53 = .ok (.new 38, 3) := by decide +kernel
theorem dX7_init_56 : decode cX7_init 56 = .ok (.dup, 1) := by decide +kernel
theorem dX7_init_57 : decode cX7_init 57 = .ok (.invokespecial 40, 3) := by decide +kernel
theorem dX7_init_60 : decode cX7_init 60 = .ok (.putfield 41, 3) := by decide +kernel
theorem dX7_init_63 : decode cX7_init 63 = .ok (.aload_n 0, 1) := by decide +kernel
theorem dX7_init_64 : decode cX7_init 64 = .ok (.new 45, 3) := by decide +kernel
theorem dX7_init_67 : decode cX7_init 67 = .ok (.dup, 1) := by decide +kernel
theorem dX7_init_68 : decode cX7_init 68 = .ok (.invokespecial 47, 3) := by decide +kernel
theorem dX7_init_71 : decode cX7_init 71 = .ok (.putfield 48, 3) := by decide +kernel
theorem dX7_init_74 : decode cX7_init 74 = .ok (.aload_n 0, 1) := by decide +kernel
theorem dX7_init_75 : decode cX7_init 75 = .ok (.new 52, 3) := by decide +kernel
theorem dX7_init_78 : decode cX7_init 78 = .ok (.dup, 1) := by decide +kernel
theorem dX7_init_79 : decode cX7_init 79 = .ok (.invokespecial 54, 3) := by decide +kernel
theorem dX7_init_82 : decode cX7_init 82 = .ok (.putfield 55, 3) := by decide +kernel
theorem dX7_init_85 : decode cX7_init 85 = .ok (.aload_n 0, 1) := by decide +kernel
theorem dX7_init_86 : decode cX7_init 86 = .ok (.iconst 0, 1) := by decide +kernel
theorem dX7_init_87 : decode cX7_init 87 = .ok (.putfield 59, 3) := by decide +kernel
theorem dX7_init_90 : decode cX7_init 90 = .ok (.aload_n 0, 1) := by decide +kernel
theorem dX7_init_91 : decode cX7_init 91 = .ok (.iconst 0, 1) := by decide +kernel
theorem dX7_init_92 : decode cX7_init 92 = .ok (.putfield 63, 3) := by decide +kernel
theorem dX7_init_95 : decode cX7_init 95 = .ok (.aload_n 0, 1) := by decide +kernel
theorem dX7_init_96 : decode cX7_init 96 = .ok (.iconst (-1), 1) := by decide +kernel
theorem dX7_init_97 : decode cX7_init 97 = .ok (.putfield 67, 3) := by decide +kernel
theorem dX7_init_100 : decode cX7_init 100 = .ok (.aload_n 0, 1) := by decide +kernel
theorem dX7_init_101 : decode cX7_init 101 = .ok (.iconst 0, 1) := by decide +kernel
theorem dX7_init_102 : decode cX7_init 102 = .ok (.putfield 70, 3) := by decide +kernel
theorem dX7_init_105 : decode cX7_init 105 = .ok (.iconst 0, 1) := by decide +kernel
theorem dX7_init_106 : decode cX7_init 106 = .ok (.istore_n 1, 1) := by decide +kernel
theorem dX7_init_107 : decode cX7_init 107 = .ok (.iload_n 1, 1) := by decide +kernel
theorem dX7_init_108 : decode cX7_init 108 = .ok (.iconst 2, 1) := by decide +kernel
theorem dX7_init_109 : decode cX7_init 109 = .ok (.if_icmp .ge 22, 3) := by decide +kernel
theorem dX7_init_112 : decode cX7_init 112 = .ok (.aload_n 0, 1) := by decide +kernel
theorem dX7_init_113 : decode cX7_init 113 = .ok (.getfield 23, 3) := by decide +kernel
theorem dX7_init_116 : decode cX7_init 116 = .ok (.iload_n 1, 1) := by decide +kernel
theorem dX7_init_117 : decode cX7_init 117 = .ok (.new 7, 3) := by decide +kernel
theorem dX7_init_120 : decode cX7_init 120 = .ok (.dup, 1) := by decide +kernel
theorem dX7_init_121 : decode cX7_init 121 = .ok (.invokespecial 9, 3) := by decide +kernel
theorem dX7_init_124 : decode cX7_init 124 = .ok (.aastore, 1) := by decide +kernel
theorem dX7_init_125 : decode cX7_init 125 = .ok (.iinc 1 1, 3) := by decide +kernel
theorem dX7_init_128 : decode cX7_init 128 = .ok (.goto (-21), 3) := by decide +kernel
theorem dX7_init_131 : decode cX7_init 131 = .ok (.return_, 1) := by decide +kernel
theorem dX7_begin_0 : decode cX7_begin 0 = .ok (.iload_n 1, 1) := by decide +kernel
theorem dX7_begin_1 : decode cX7_begin 1 = .ok (.ifCond .lt 9, 3) := by decide +kernel
theorem dX7_begin_4 : decode cX7_begin 4 = .ok (.iload_n 1, 1) := by decide +kernel
theorem dX7_begin_5 : decode cX7_begin 5 = .ok (.bipush 36, 2) := by decide +kernel
theorem dX7_begin_7 : decode cX7_begin 7 = .ok (.if_icmp .le 5, 3) := by decide +kernel
theorem dX7_begin_10 : decode cX7_begin 10 = .ok (.iconst (-1), 1) := by decide +kernel
theorem dX7_begin_11 : decode cX7_begin 11 = .ok (.ireturn, 1) := by decide +kernel
theorem dX7_begin_12 : decode cX7_begin 12 = .ok (.aload_n 0, 1) := by decide +kernel
theorem dX7_begin_13 : decode cX7_begin 13 = .ok (.getfield 10, 3) := by decide +kernel
theorem dX7_begin_16 : decode cX7_begin 16 = .ok (.getfield 73, 3) := by decide +kernel
theorem dX7_begin_19 : decode cX7_begin 19 = .ok (.istore_n 2, 1) := by decide +kernel
theorem dX7_begin_20 : decode cX7_begin 20 = .ok (.aload_n 0, 1) := by decide +kernel
theorem dX7_begin_21 : decode cX7_begin 21 = .ok (.invokevirtual 76, 3) := by decide +kernel
theorem dX7_begin_24 : decode cX7_begin 24 = .ok (.pop, 1) := by decide +kernel
theorem dX7_begin_25 : decode cX7_begin 25 = .ok (.aload_n 0, 1) := by decide +kernel
theorem dX7_begin_26 : decode cX7_begin 26 = .ok (.getfield 10, 3) := by decide +kernel
theorem dX7_begin_29 : decode cX7_begin 29 = .ok (.iload_n 1, 1) := by decide +kernel
theorem dX7_begin_30 : decode cX7_begin 30 = .ok (.invokevirtual 80, 3) := by decide +kernel
theorem dX7_begin_33 : decode cX7_begin 33 = .ok (.iload_n 2, 1) := by decide +kernel
theorem dX7_begin_34 : decode cX7_begin 34 = .ok (.ireturn, 1) := by decide +kernel
theorem dX7_addColumn_0 : decode cX7_addColumn 0 = .ok (.iload_n 1, 1) := by decide +kernel
theorem dX7_addColumn_1 : decode cX7_addColumn 1 = .ok (.invokestatic 84, 3) := by decide +kernel
theorem dX7_addColumn_4 : decode cX7_addColumn 4 = .ok (.ifCond .ne 5, 3) := by decide +kernel
theorem dX7_addColumn_7 : decode cX7_addColumn 7 = .ok (.iconst (-1), 1) := by decide +kernel
theorem dX7_addColumn_8 : decode cX7_addColumn 8 = .ok (.ireturn, 1) := by decide +kernel
theorem dX7_addColumn_9 : decode cX7_addColumn 9 = .ok (.aload_n 0, 1) := by decide +kernel
theorem dX7_addColumn_10 : decode cX7_addColumn 10 = .ok (.getfield 10, 3) := by decide +kernel
theorem dX7_addColumn_13 : decode cX7_addColumn 13 = .ok (.getfield 88, 3) := by decide +kernel
theorem dX7_addColumn_16 : decode cX7_addColumn 16 = .ok (.bipush 7, 2) := by decide +kernel
theorem dX7_addColumn_18 : decode cX7_addColumn 18 = .ok (.if_icmp .lt 6, 3) := by decide +kernel
theorem dX7_addColumn_21 : decode cX7_addColumn 21 = .ok (.bipush (-3), 2) := by decide +kernel
theorem dX7_addColumn_23 : decode cX7_addColumn 23 = .ok (.ireturn, 1) := by decide +kernel
theorem dX7_addColumn_24 : decode cX7_addColumn 24 = .ok (.aload_n 0, 1) := by decide +kernel
theorem dX7_addColumn_25 : decode cX7_addColumn 25 = .ok (.invokevirtual 76, 3) := by decide +kernel
theorem dX7_addColumn_28 : decode cX7_addColumn 28 = .ok (.pop, 1) := by decide +kernel
theorem dX7_addColumn_29 : decode cX7_addColumn 29 = .ok (.aload_n 0, 1) := by decide +kernel
theorem dX7_addColumn_30 : decode cX7_addColumn 30 = .ok (.getfield 10, 3) := by decide +kernel
theorem dX7_addColumn_33 : decode cX7_addColumn 33 = .ok (.iload_n 1, 1) := by decide +kernel
theorem dX7_addColumn_34 : decode cX7_addColumn 34 = .ok (.invokevirtual 91, 3) := by decide +kernel
theorem dX7_addColumn_37 : decode cX7_addColumn 37 = .ok (.ireturn, 1) := by decide +kernel
theorem dX7_dropColumn_0 : decode cX7_dropColumn 0 = .ok (.aload_n 0, 1) := by decide +kernel
theorem dX7_dropColumn_1 : decode cX7_dropColumn 1 = .ok (.getfield 10, 3) := by decide +kernel
theorem dX7_dropColumn_4 : decode cX7_dropColumn 4 = .ok (.iload_n 1, 1) := by decide +kernel
theorem dX7_dropColumn_5 : decode cX7_dropColumn 5 = .ok (.invokevirtual 95, 3) := by decide +kernel
theorem dX7_dropColumn_8 : decode cX7_dropColumn 8 = .ok (.ifCond .ne 5, 3) := by decide +kernel
theorem dX7_dropColumn_11 : decode cX7_dropColumn 11 = .ok (.iconst (-1), 1) := by decide +kernel
theorem dX7_dropColumn_12 : decode cX7_dropColumn 12 = .ok (.ireturn, 1) := by decide +kernel
theorem dX7_dropColumn_13 : decode cX7_dropColumn 13 = .ok (.aload_n 0, 1) := by decide +kernel
theorem dX7_dropColumn_14 : decode cX7_dropColumn 14 = .ok (.invokevirtual 76, 3) := by decide +kernel
theorem dX7_dropColumn_17 : decode cX7_dropColumn 17 = .ok (.pop, 1) := by decide +kernel
theorem dX7_dropColumn_18 : decode cX7_dropColumn 18 = .ok (.aload_n 0, 1) := by decide +kernel
theorem dX7_dropColumn_19 : decode cX7_dropColumn 19 = .ok (.getfield 10, 3) := by decide +kernel
theorem dX7_dropColumn_22 : decode cX7_dropColumn 22 = .ok (.iload_n 1, 1) := by decide +kernel
theorem dX7_dropColumn_23 : decode cX7_dropColumn 23 = .ok (.invokevirtual 98, 3) := by decide +kernel
theorem dX7_dropColumn_26 : decode cX7_dropColumn 26 = .ok (.aload_n 0, 1) := by decide +kernel
theorem dX7_dropColumn_27 : decode cX7_dropColumn 27 = .ok (.getfield 10, 3) := by decide +kernel
theorem dX7_dropColumn_30 : decode cX7_dropColumn 30 = .ok (.getfield 88, 3) := by decide +kernel
theorem dX7_dropColumn_33 : decode cX7_dropColumn 33 = .ok (.ireturn, 1) := by decide +kernel
theorem dX7_put_0 : decode cX7_put 0 = .ok (.aload_n 0, 1) := by decide +kernel
theorem dX7_put_1 : decode cX7_put 1 = .ok (.getfield 10, 3) := by decide +kernel
theorem dX7_put_4 : decode cX7_put 4 = .ok (.iload_n 1, 1) := by decide +kernel
theorem dX7_put_5 : decode cX7_put 5 = .ok (.invokevirtual 101, 3) := by decide +kernel
theorem dX7_put_8 : decode cX7_put 8 = .ok (.ifCond .eq 31, 3) := by decide +kernel
theorem dX7_put_11 : decode cX7_put 11 = .ok (.aload_n 0, 1) := by decide +kernel
theorem dX7_put_12 : decode cX7_put 12 = .ok (.getfield 10, 3) := by decide +kernel
theorem dX7_put_15 : decode cX7_put 15 = .ok (.iload_n 2, 1) := by decide +kernel
theorem dX7_put_16 : decode cX7_put 16 = .ok (.invokevirtual 95, 3) := by decide +kernel
theorem dX7_put_19 : decode cX7_put 19 = .ok (.ifCond .eq 20, 3) := by decide +kernel
theorem dX7_put_22 : decode cX7_put 22 = .ok (.iload_n 3, 1) := by decide +kernel
theorem dX7_put_23 : decode cX7_put 23 = .ok (.ifCond .lt 16, 3) := by decide +kernel
theorem dX7_put_26 : decode cX7_put 26 = .ok (.iload_n 3, 1) := by decide +kernel
theorem dX7_put_27 : decode cX7_put 27 = .ok (.aload_n 0, 1) := by decide +kernel
theorem dX7_put_28 : decode cX7_put 28 = .ok (.getfield 10, 3) := by decide +kernel
theorem dX7_put_31 : decode cX7_put 31 = .ok (.getfield 104, 3) := by decide +kernel
theorem dX7_put_34 : decode cX7_put 34 = .ok (.iload_n 2, 1) := by decide +kernel
theorem dX7_put_35 : decode cX7_put 35 = .ok (.iaload, 1) := by decide +kernel
theorem dX7_put_36 : decode cX7_put 36 = .ok (.if_icmp .lt 5, 3) := by decide +kernel
theorem dX7_put_39 : decode cX7_put 39 = .ok (.iconst (-1), 1) := by decide +kernel
theorem dX7_put_40 : decode cX7_put 40 = .ok (.ireturn, 1) := by decide +kernel
theorem dX7_put_41 : decode cX7_put 41 = .ok (.aload_n 0, 1) := by decide +kernel
theorem dX7_put_42 : decode cX7_put 42 = .ok (.getfield 10, 3) := by decide +kernel
theorem dX7_put_45 : decode cX7_put 45 = .ok (.iload_n 1, 1) := by decide +kernel
theorem dX7_put_46 : decode cX7_put 46 = .ok (.iload_n 2, 1) := by decide +kernel
theorem dX7_put_47 : decode cX7_put 47 = .ok (.invokevirtual 108, 3) := by decide +kernel
theorem dX7_put_50 : decode cX7_put 50 = .ok (.istore 4, 2) := by decide +kernel
theorem dX7_put_52 : decode cX7_put 52 = .ok (.aload_n 0, 1) := by decide +kernel
theorem dX7_put_53 : decode cX7_put 53 = .ok (.invokevirtual 76, 3) := by decide +kernel
theorem dX7_put_56 : decode cX7_put 56 = .ok (.pop, 1) := by decide +kernel
theorem dX7_put_57 : decode cX7_put 57 = .ok (.aload_n 0, 1) := by decide +kernel
theorem dX7_put_58 : decode cX7_put 58 = .ok (.getfield 10, 3) := by decide +kernel
theorem dX7_put_61 : decode cX7_put 61 = .ok (.iload_n 1, 1) := by decide +kernel
theorem dX7_put_62 : decode cX7_put 62 = .ok (.iload_n 2, 1) := by decide +kernel
theorem dX7_put_63 : decode cX7_put 63 = .ok (.iload_n 3, 1) := by decide +kernel
theorem dX7_put_64 : decode cX7_put 64 = .ok (.invokevirtual 112, 3) := by decide +kernel
theorem dX7_put_67 : decode cX7_put 67 = .ok (.iload 4, 2) := by decide +kernel
theorem dX7_put_69 : decode cX7_put 69 = .ok (.ireturn, 1) := by decide +kernel
theorem dX7_dropRow_0 : decode cX7_dropRow 0 = .ok (.aload_n 0, 1) := by decide +kernel
theorem dX7_dropRow_1 : decode cX7_dropRow 1 = .ok (.getfield 10, 3) := by decide +kernel
theorem dX7_dropRow_4 : decode cX7_dropRow 4 = .ok (.iload_n 1, 1) := by decide +kernel
theorem dX7_dropRow_5 : decode cX7_dropRow 5 = .ok (.invokevirtual 101, 3) := by decide +kernel
theorem dX7_dropRow_8 : decode cX7_dropRow 8 = .ok (.ifCond .ne 5, 3) := by decide +kernel
theorem dX7_dropRow_11 : decode cX7_dropRow 11 = .ok (.iconst (-1), 1) := by decide +kernel
theorem dX7_dropRow_12 : decode cX7_dropRow 12 = .ok (.ireturn, 1) := by decide +kernel
theorem dX7_dropRow_13 : decode cX7_dropRow 13 = .ok (.aload_n 0, 1) := by decide +kernel
theorem dX7_dropRow_14 : decode cX7_dropRow 14 = .ok (.invokevirtual 76, 3) := by decide +kernel
theorem dX7_dropRow_17 : decode cX7_dropRow 17 = .ok (.pop, 1) := by decide +kernel
theorem dX7_dropRow_18 : decode cX7_dropRow 18 = .ok (.aload_n 0, 1) := by decide +kernel
theorem dX7_dropRow_19 : decode cX7_dropRow 19 = .ok (.getfield 10, 3) := by decide +kernel
theorem dX7_dropRow_22 : decode cX7_dropRow 22 = .ok (.iload_n 1, 1) := by decide +kernel
theorem dX7_dropRow_23 : decode cX7_dropRow 23 = .ok (.invokevirtual 116, 3) := by decide +kernel
theorem dX7_dropRow_26 : decode cX7_dropRow 26 = .ok (.aload_n 0, 1) := by decide +kernel
theorem dX7_dropRow_27 : decode cX7_dropRow 27 = .ok (.getfield 10, 3) := by decide +kernel
theorem dX7_dropRow_30 : decode cX7_dropRow 30 = .ok (.getfield 73, 3) := by decide +kernel
theorem dX7_dropRow_33 : decode cX7_dropRow 33 = .ok (.ireturn, 1) := by decide +kernel
theorem dX7_dropCopies_0 : decode cX7_dropCopies 0 = .ok (.aload_n 0, 1) := by decide +kernel
theorem dX7_dropCopies_1 : decode cX7_dropCopies 1 = .ok (.invokevirtual 76, 3) := by decide +kernel
theorem dX7_dropCopies_4 : decode cX7_dropCopies 4 = .ok (.astore_n 1, 1) := by decide +kernel
theorem dX7_dropCopies_5 : decode cX7_dropCopies 5 = .ok (.aload_n 0, 1) := by decide +kernel
theorem dX7_dropCopies_6 : decode cX7_dropCopies 6 = .ok (.getfield 10, 3) := by decide +kernel
theorem dX7_dropCopies_9 : decode cX7_dropCopies 9 = .ok (.invokevirtual 119, 3) := by decide +kernel
theorem dX7_dropCopies_12 : decode cX7_dropCopies 12 = .ok (.aload_n 1, 1) := by decide +kernel
theorem dX7_dropCopies_13 : decode cX7_dropCopies 13 = .ok (.getfield 73, 3) := by decide +kernel
theorem dX7_dropCopies_16 : decode cX7_dropCopies 16 = .ok (.aload_n 0, 1) := by decide +kernel
theorem dX7_dropCopies_17 : decode cX7_dropCopies 17 = .ok (.getfield 10, 3) := by decide +kernel
theorem dX7_dropCopies_20 : decode cX7_dropCopies 20 = .ok (.getfield 73, 3) := by decide +kernel
theorem dX7_dropCopies_23 : decode cX7_dropCopies 23 = .ok (.isub, 1) := by decide +kernel
theorem dX7_dropCopies_24 : decode cX7_dropCopies 24 = .ok (.ireturn, 1) := by decide +kernel
theorem dX7_sort_0 : decode cX7_sort 0 = .ok (.aload_n 0, 1) := by decide +kernel
theorem dX7_sort_1 : decode cX7_sort 1 = .ok (.invokevirtual 76, 3) := by decide +kernel
theorem dX7_sort_4 : decode cX7_sort 4 = .ok (.pop, 1) := by decide +kernel
theorem dX7_sort_5 : decode cX7_sort 5 = .ok (.aload_n 0, 1) := by decide +kernel
theorem dX7_sort_6 : decode cX7_sort 6 = .ok (.getfield 10, 3) := by decide +kernel
theorem dX7_sort_9 : decode cX7_sort 9 = .ok (.invokevirtual 122, 3) := by decide +kernel
theorem dX7_sort_12 : decode cX7_sort 12 = .ok (.ireturn, 1) := by decide +kernel
theorem dX7_factorial_0 : decode cX7_factorial 0 = .ok (.iload_n 1, 1) := by decide +kernel
theorem dX7_factorial_1 : decode cX7_factorial 1 = .ok (.iconst 2, 1) := by decide +kernel
theorem dX7_factorial_2 : decode cX7_factorial 2 = .ok (.if_icmp .lt 16, 3) := by decide +kernel
theorem dX7_factorial_5 : decode cX7_factorial 5 = .ok (.iload_n 1, 1) := by decide +kernel
theorem dX7_factorial_6 : decode cX7_factorial 6 = .ok (.ldc 126, 2) := by decide +kernel
theorem dX7_factorial_8 : decode cX7_factorial 8 = .ok (.if_icmp .gt 10, 3) := by decide +kernel
theorem dX7_factorial_11 : decode cX7_factorial 11 = .ok (.iload_n 1, 1) := by decide +kernel
theorem dX7_factorial_12 : decode cX7_factorial 12 = .ok (.invokestatic 127, 3) := by decide +kernel
theorem dX7_factorial_15 : decode cX7_factorial 15 = .ok (.ifCond .ne 5, 3) := by decide +kernel
theorem dX7_factorial_18 : decode cX7_factorial 18 = .ok (.iconst (-1), 1) := by decide +kernel
theorem dX7_factorial_19 : decode cX7_factorial 19 = .ok (.ireturn, 1) := by decide +kernel
theorem dX7_factorial_20 : decode cX7_factorial 20 = .ok (.iconst 1, 1) := by decide +kernel
theorem dX7_factorial_21 : decode cX7_factorial 21 = .ok (.istore_n 2, 1) := by decide +kernel
theorem dX7_factorial_22 : decode cX7_factorial 22 = .ok (.iload_n 1, 1) := by decide +kernel
theorem dX7_factorial_23 : decode cX7_factorial 23 = .ok (.istore_n 3, 1) := by decide +kernel
theorem dX7_factorial_24 : decode cX7_factorial 24 = .ok (.iload_n 3, 1) := by decide +kernel
theorem dX7_factorial_25 : decode cX7_factorial 25 = .ok (.ifCond .le 18, 3) := by decide +kernel
theorem dX7_factorial_28 : decode cX7_factorial 28 = .ok (.iload_n 2, 1) := by decide +kernel
theorem dX7_factorial_29 : decode cX7_factorial 29 = .ok (.iload_n 3, 1) := by decide +kernel
theorem dX7_factorial_30 : decode cX7_factorial 30 = .ok (.bipush 10, 2) := by decide +kernel
theorem dX7_factorial_32 : decode cX7_factorial 32 = .ok (.irem, 1) := by decide +kernel
theorem dX7_factorial_33 : decode cX7_factorial 33 = .ok (.imul, 1) := by decide +kernel
theorem dX7_factorial_34 : decode cX7_factorial 34 = .ok (.istore_n 2, 1) := by decide +kernel
theorem dX7_factorial_35 : decode cX7_factorial 35 = .ok (.iload_n 3, 1) := by decide +kernel
theorem dX7_factorial_36 : decode cX7_factorial 36 = .ok (.bipush 10, 2) := by decide +kernel
theorem dX7_factorial_38 : decode cX7_factorial 38 = .ok (.idiv, 1) := by decide +kernel
theorem dX7_factorial_39 : decode cX7_factorial 39 = .ok (.istore_n 3, 1) := by decide +kernel
theorem dX7_factorial_40 : decode cX7_factorial 40 = .ok (.goto (-16), 3) := by decide +kernel
theorem dX7_factorial_43 : decode cX7_factorial 43 = .ok (.iload_n 2, 1) := by decide +kernel
theorem dX7_factorial_44 : decode cX7_factorial 44 = .ok (.bipush 36, 2) := by decide +kernel
theorem dX7_factorial_46 : decode cX7_factorial 46 = .ok (.if_icmp .le 6, 3) := by decide +kernel
theorem dX7_factorial_49 : decode cX7_factorial 49 = .ok (.bipush (-3), 2) := by decide +kernel
theorem dX7_factorial_51 : decode cX7_factorial 51 = .ok (.ireturn, 1) := by decide +kernel
theorem dX7_factorial_52 : decode cX7_factorial 52 = .ok (.aload_n 0, 1) := by decide +kernel
theorem dX7_factorial_53 : decode cX7_factorial 53 = .ok (.invokevirtual 76, 3) := by decide +kernel
theorem dX7_factorial_56 : decode cX7_factorial 56 = .ok (.pop, 1) := by decide +kernel
theorem dX7_factorial_57 : decode cX7_factorial 57 = .ok (.aload_n 0, 1) := by decide +kernel
theorem dX7_factorial_58 : decode cX7_factorial 58 = .ok (.getfield 10, 3) := by decide +kernel
theorem dX7_factorial_61 : decode cX7_factorial 61 = .ok (.iload_n 1, 1) := by decide +kernel
theorem dX7_factorial_62 : decode cX7_factorial 62 = .ok (.iload_n 2, 1) := by decide +kernel
theorem dX7_factorial_63 : decode cX7_factorial 63 = .ok (.invokevirtual 130, 3) := by decide +kernel
theorem dX7_factorial_66 : decode cX7_factorial 66 = .ok (.iload_n 2, 1) := by decide +kernel
theorem dX7_factorial_67 : decode cX7_factorial 67 = .ok (.ireturn, 1) := by decide +kernel
theorem dX7_addSum_0 : decode cX7_addSum 0 = .ok (.aload_n 0, 1) := by decide +kernel
theorem dX7_addSum_1 : decode cX7_addSum 1 = .ok (.getfield 10, 3) := by decide +kernel
theorem dX7_addSum_4 : decode cX7_addSum 4 = .ok (.iload_n 1, 1) := by decide +kernel
theorem dX7_addSum_5 : decode cX7_addSum 5 = .ok (.invokevirtual 95, 3) := by decide +kernel
theorem dX7_addSum_8 : decode cX7_addSum 8 = .ok (.ifCond .eq 35, 3) := by decide +kernel
theorem dX7_addSum_11 : decode cX7_addSum 11 = .ok (.aload_n 0, 1) := by decide +kernel
theorem dX7_addSum_12 : decode cX7_addSum 12 = .ok (.getfield 10, 3) := by decide +kernel
theorem dX7_addSum_15 : decode cX7_addSum 15 = .ok (.iload_n 3, 1) := by decide +kernel
theorem dX7_addSum_16 : decode cX7_addSum 16 = .ok (.invokevirtual 95, 3) := by decide +kernel
theorem dX7_addSum_19 : decode cX7_addSum 19 = .ok (.ifCond .eq 24, 3) := by decide +kernel
theorem dX7_addSum_22 : decode cX7_addSum 22 = .ok (.aload_n 0, 1) := by decide +kernel
theorem dX7_addSum_23 : decode cX7_addSum 23 = .ok (.getfield 10, 3) := by decide +kernel
theorem dX7_addSum_26 : decode cX7_addSum 26 = .ok (.getfield 104, 3) := by decide +kernel
theorem dX7_addSum_29 : decode cX7_addSum 29 = .ok (.iload_n 1, 1) := by decide +kernel
theorem dX7_addSum_30 : decode cX7_addSum 30 = .ok (.iaload, 1) := by decide +kernel
theorem dX7_addSum_31 : decode cX7_addSum 31 = .ok (.aload_n 0, 1) := by decide +kernel
theorem dX7_addSum_32 : decode cX7_addSum 32 = .ok (.getfield 10, 3) := by decide +kernel
theorem dX7_addSum_35 : decode cX7_addSum 35 = .ok (.getfield 104, 3) := by decide +kernel
theorem dX7_addSum_38 : decode cX7_addSum 38 = .ok (.iload_n 3, 1) := by decide +kernel
theorem dX7_addSum_39 : decode cX7_addSum 39 = .ok (.iaload, 1) := by decide +kernel
theorem dX7_addSum_40 : decode cX7_addSum 40 = .ok (.if_icmp .eq 5, 3) := by decide +kernel
theorem dX7_addSum_43 : decode cX7_addSum 43 = .ok (.iconst (-1), 1) := by decide +kernel
theorem dX7_addSum_44 : decode cX7_addSum 44 = .ok (.ireturn, 1) := by decide +kernel
theorem dX7_addSum_45 : decode cX7_addSum 45 = .ok (.iload_n 2, 1) := by decide +kernel
theorem dX7_addSum_46 : decode cX7_addSum 46 = .ok (.ifCond .lt 19, 3) := by decide +kernel
theorem dX7_addSum_49 : decode cX7_addSum 49 = .ok (.iload_n 2, 1) := by decide +kernel
theorem dX7_addSum_50 : decode cX7_addSum 50 = .ok (.iconst 5, 1) := by decide +kernel
theorem dX7_addSum_51 : decode cX7_addSum 51 = .ok (.if_icmp .gt 14, 3) := by decide +kernel
theorem dX7_addSum_54 : decode cX7_addSum 54 = .ok (.iload 4, 2) := by decide +kernel
theorem dX7_addSum_56 : decode cX7_addSum 56 = .ok (.ifCond .lt 9, 3) := by decide +kernel
theorem dX7_addSum_59 : decode cX7_addSum 59 = .ok (.iload 4, 2) := by decide +kernel
theorem dX7_addSum_61 : decode cX7_addSum 61 = .ok (.iconst 5, 1) := by decide +kernel
theorem dX7_addSum_62 : decode cX7_addSum 62 = .ok (.if_icmp .le 5, 3) := by decide +kernel
theorem dX7_addSum_65 : decode cX7_addSum 65 = .ok (.iconst (-1), 1) := by decide +kernel
theorem dX7_addSum_66 : decode cX7_addSum 66 = .ok (.ireturn, 1) := by decide +kernel
theorem dX7_addSum_67 : decode cX7_addSum 67 = .ok (.aload_n 0, 1) := by decide +kernel
theorem dX7_addSum_68 : decode cX7_addSum 68 = .ok (.getfield 10, 3) := by decide +kernel
theorem dX7_addSum_71 : decode cX7_addSum 71 = .ok (.getfield 88, 3) := by decide +kernel
theorem dX7_addSum_74 : decode cX7_addSum 74 = .ok (.bipush 7, 2) := by decide +kernel
theorem dX7_addSum_76 : decode cX7_addSum 76 = .ok (.if_icmp .lt 6, 3) := by decide +kernel
theorem dX7_addSum_79 : decode cX7_addSum 79 = .ok (.bipush (-3), 2) := by decide +kernel
theorem dX7_addSum_81 : decode cX7_addSum 81 = .ok (.ireturn, 1) := by decide +kernel
theorem dX7_addSum_82 : decode cX7_addSum 82 = .ok (.aload_n 0, 1) := by decide +kernel
theorem dX7_addSum_83 : decode cX7_addSum 83 = .ok (.invokevirtual 76, 3) := by decide +kernel
theorem dX7_addSum_86 : decode cX7_addSum 86 = .ok (.pop, 1) := by decide +kernel
theorem dX7_addSum_87 : decode cX7_addSum 87 = .ok (.aload_n 0, 1) := by decide +kernel
theorem dX7_addSum_88 : decode cX7_addSum 88 = .ok (.getfield 10, 3) := by decide +kernel
theorem dX7_addSum_91 : decode cX7_addSum 91 = .ok (.getfield 104, 3) := by decide +kernel
theorem dX7_addSum_94 : decode cX7_addSum 94 = .ok (.iload_n 1, 1) := by decide +kernel
theorem dX7_addSum_95 : decode cX7_addSum 95 = .ok (.iaload, 1) := by decide +kernel
theorem dX7_addSum_96 : decode cX7_addSum 96 = .ok (.istore 5, 2) := by decide +kernel
theorem dX7_addSum_98 : decode cX7_addSum 98 = .ok (.aload_n 0, 1) := by decide +kernel
theorem dX7_addSum_99 : decode cX7_addSum 99 = .ok (.getfield 10, 3) := by decide +kernel
theorem dX7_addSum_102 : decode cX7_addSum 102 = .ok (.iload 5, 2) := by decide +kernel
theorem dX7_addSum_104 : decode cX7_addSum 104 = .ok (.invokevirtual 91, 3) := by decide +kernel
theorem dX7_addSum_107 : decode cX7_addSum 107 = .ok (.istore 6, 2) := by decide +kernel
theorem dX7_addSum_109 : decode cX7_addSum 109 = .ok (.iconst 0, 1) := by decide +kernel
theorem dX7_addSum_110 : decode cX7_addSum 110 = .ok (.istore 7, 2) := by decide +kernel
theorem dX7_addSum_112 : decode cX7_addSum 112 = .ok (.iload 7, 2) := by decide +kernel
theorem dX7_addSum_114 : decode cX7_addSum 114 = .ok (.aload_n 0, 1) := by decide +kernel
theorem dX7_addSum_115 : decode cX7_addSum 115 = .ok (.getfield 10, 3) := by decide +kernel
theorem dX7_addSum_118 : decode cX7_addSum 118 = .ok (.getfield 73, 3) := by decide +kernel
theorem dX7_addSum_121 : decode cX7_addSum 121 = .ok (.if_icmp .ge 49, 3) := by decide +kernel
theorem dX7_addSum_124 : decode cX7_addSum 124 = .ok (.aload_n 0, 1) := by decide +kernel
theorem dX7_addSum_125 : decode cX7_addSum 125 = .ok (.getfield 10, 3) := by decide +kernel
theorem dX7_addSum_128 : decode cX7_addSum 128 = .ok (.iload 7, 2) := by decide +kernel
theorem dX7_addSum_130 : decode cX7_addSum 130 = .ok (.iload 6, 2) := by decide +kernel
theorem dX7_addSum_132 : decode cX7_addSum 132 = .ok (.iload_n 2, 1) := by decide +kernel
theorem dX7_addSum_133 : decode cX7_addSum 133 = .ok (.aload_n 0, 1) := by decide +kernel
theorem dX7_addSum_134 : decode cX7_addSum 134 = .ok (.getfield 10, 3) := by decide +kernel
theorem dX7_addSum_137 : decode cX7_addSum 137 = .ok (.iload 7, 2) := by decide +kernel
theorem dX7_addSum_139 : decode cX7_addSum 139 = .ok (.iload_n 1, 1) := by decide +kernel
theorem dX7_addSum_140 : decode cX7_addSum 140 = .ok (.invokevirtual 108, 3) := by decide +kernel
theorem dX7_addSum_143 : decode cX7_addSum 143 = .ok (.imul, 1) := by decide +kernel
theorem dX7_addSum_144 : decode cX7_addSum 144 = .ok (.iload 4, 2) := by decide +kernel
theorem dX7_addSum_146 : decode cX7_addSum 146 = .ok (.aload_n 0, 1) := by decide +kernel
theorem dX7_addSum_147 : decode cX7_addSum 147 = .ok (.getfield 10, 3) := by decide +kernel
theorem dX7_addSum_150 : decode cX7_addSum 150 = .ok (.iload 7, 2) := by decide +kernel
theorem dX7_addSum_152 : decode cX7_addSum 152 = .ok (.iload_n 3, 1) := by decide +kernel
theorem dX7_addSum_153 : decode cX7_addSum 153 = .ok (.invokevirtual 108, 3) := by decide +kernel
theorem dX7_addSum_156 : decode cX7_addSum 156 = .ok (.imul, 1) := by decide +kernel
theorem dX7_addSum_157 : decode cX7_addSum 157 = .ok (.iadd, 1) := by decide +kernel
theorem dX7_addSum_158 : decode cX7_addSum 158 = .ok (.iload 5, 2) := by decide +kernel
theorem dX7_addSum_160 : decode cX7_addSum 160 = .ok (.irem, 1) := by decide +kernel
theorem dX7_addSum_161 : decode cX7_addSum 161 = .ok (.invokevirtual 112, 3) := by decide +kernel
theorem dX7_addSum_164 : decode cX7_addSum 164 = .ok (.iinc 7 1, 3) := by decide +kernel
theorem dX7_addSum_167 : decode cX7_addSum 167 = .ok (.goto (-55), 3) := by decide +kernel
theorem dX7_addSum_170 : decode cX7_addSum 170 = .ok (.iload 6, 2) := by decide +kernel
theorem dX7_addSum_172 : decode cX7_addSum 172 = .ok (.ireturn, 1) := by decide +kernel
theorem dX7_replace_0 : decode cX7_replace 0 = .ok (.aload_n 0, 1) := by decide +kernel
theorem dX7_replace_1 : decode cX7_replace 1 = .ok (.getfield 10, 3) := by decide +kernel
theorem dX7_replace_4 : decode cX7_replace 4 = .ok (.iload_n 1, 1) := by decide +kernel
theorem dX7_replace_5 : decode cX7_replace 5 = .ok (.invokevirtual 95, 3) := by decide +kernel
theorem dX7_replace_8 : decode cX7_replace 8 = .ok (.ifCond .eq 10, 3) := by decide +kernel
theorem dX7_replace_11 : decode cX7_replace 11 = .ok (.iload_n 2, 1) := by decide +kernel
theorem dX7_replace_12 : decode cX7_replace 12 = .ok (.invokestatic 134, 3) := by decide +kernel
theorem dX7_replace_15 : decode cX7_replace 15 = .ok (.ifCond .ne 5, 3) := by decide +kernel
theorem dX7_replace_18 : decode cX7_replace 18 = .ok (.iconst (-1), 1) := by decide +kernel
theorem dX7_replace_19 : decode cX7_replace 19 = .ok (.ireturn, 1) := by decide +kernel
theorem dX7_replace_20 : decode cX7_replace 20 = .ok (.aload_n 0, 1) := by decide +kernel
theorem dX7_replace_21 : decode cX7_replace 21 = .ok (.getfield 27, 3) := by decide +kernel
theorem dX7_replace_24 : decode cX7_replace 24 = .ok (.iload_n 2, 1) := by decide +kernel
theorem dX7_replace_25 : decode cX7_replace 25 = .ok (.baload, 1) := by decide +kernel
theorem dX7_replace_26 : decode cX7_replace 26 = .ok (.ifCond .eq 24, 3) := by decide +kernel
theorem dX7_replace_29 : decode cX7_replace 29 = .ok (.aload_n 0, 1) := by decide +kernel
theorem dX7_replace_30 : decode cX7_replace 30 = .ok (.getfield 23, 3) := by decide +kernel
theorem dX7_replace_33 : decode cX7_replace 33 = .ok (.iload_n 2, 1) := by decide +kernel
theorem dX7_replace_34 : decode cX7_replace 34 = .ok (.aaload, 1) := by decide +kernel
theorem dX7_replace_35 : decode cX7_replace 35 = .ok (.getfield 73, 3) := by decide +kernel
theorem dX7_replace_38 : decode cX7_replace 38 = .ok (.aload_n 0, 1) := by decide +kernel
theorem dX7_replace_39 : decode cX7_replace 39 = .ok (.getfield 10, 3) := by decide +kernel
theorem dX7_replace_42 : decode cX7_replace 42 = .ok (.getfield 104, 3) := by decide +kernel
theorem dX7_replace_45 : decode cX7_replace 45 = .ok (.iload_n 1, 1) := by decide +kernel
theorem dX7_replace_46 : decode cX7_replace 46 = .ok (.iaload, 1) := by decide +kernel
theorem dX7_replace_47 : decode cX7_replace 47 = .ok (.if_icmp .eq 6, 3) := by decide +kernel
theorem dX7_replace_50 : decode cX7_replace 50 = .ok (.bipush (-2), 2) := by decide +kernel
theorem dX7_replace_52 : decode cX7_replace 52 = .ok (.ireturn, 1) := by decide +kernel
theorem dX7_replace_53 : decode cX7_replace 53 = .ok (.aload_n 0, 1) := by decide +kernel
theorem dX7_replace_54 : decode cX7_replace 54 = .ok (.getfield 10, 3) := by decide +kernel
theorem dX7_replace_57 : decode cX7_replace 57 = .ok (.getfield 88, 3) := by decide +kernel
theorem dX7_replace_60 : decode cX7_replace 60 = .ok (.iconst 1, 1) := by decide +kernel
theorem dX7_replace_61 : decode cX7_replace 61 = .ok (.isub, 1) := by decide +kernel
theorem dX7_replace_62 : decode cX7_replace 62 = .ok (.aload_n 0, 1) := by decide +kernel
theorem dX7_replace_63 : decode cX7_replace 63 = .ok (.getfield 23, 3) := by decide +kernel
theorem dX7_replace_66 : decode cX7_replace 66 = .ok (.iload_n 2, 1) := by decide +kernel
theorem dX7_replace_67 : decode cX7_replace 67 = .ok (.aaload, 1) := by decide +kernel
theorem dX7_replace_68 : decode cX7_replace 68 = .ok (.getfield 88, 3) := by decide +kernel
theorem dX7_replace_71 : decode cX7_replace 71 = .ok (.iadd, 1) := by decide +kernel
theorem dX7_replace_72 : decode cX7_replace 72 = .ok (.bipush 7, 2) := by decide +kernel
theorem dX7_replace_74 : decode cX7_replace 74 = .ok (.if_icmp .le 6, 3) := by decide +kernel
theorem dX7_replace_77 : decode cX7_replace 77 = .ok (.bipush (-3), 2) := by decide +kernel
theorem dX7_replace_79 : decode cX7_replace 79 = .ok (.ireturn, 1) := by decide +kernel
theorem dX7_replace_80 : decode cX7_replace 80 = .ok (.aload_n 0, 1) := by decide +kernel
theorem dX7_replace_81 : decode cX7_replace 81 = .ok (.invokevirtual 76, 3) := by decide +kernel
theorem dX7_replace_84 : decode cX7_replace 84 = .ok (.astore_n 3, 1) := by decide +kernel
theorem dX7_replace_85 : decode cX7_replace 85 = .ok (.aload_n 0, 1) := by decide +kernel
theorem dX7_replace_86 : decode cX7_replace 86 = .ok (.getfield 10, 3) := by decide +kernel
theorem dX7_replace_89 : decode cX7_replace 89 = .ok (.aload_n 3, 1) := by decide +kernel
theorem dX7_replace_90 : decode cX7_replace 90 = .ok (.iload_n 1, 1) := by decide +kernel
theorem dX7_replace_91 : decode cX7_replace 91 = .ok (.aload_n 0, 1) := by decide +kernel
theorem dX7_replace_92 : decode cX7_replace 92 = .ok (.getfield 23, 3) := by decide +kernel
theorem dX7_replace_95 : decode cX7_replace 95 = .ok (.iload_n 2, 1) := by decide +kernel
theorem dX7_replace_96 : decode cX7_replace 96 = .ok (.aaload, 1) := by decide +kernel
theorem dX7_replace_97 : decode cX7_replace 97 = .ok (.invokevirtual 137, 3) := by decide +kernel
theorem dX7_replace_100 : decode cX7_replace 100 = .ok (.aload_n 0, 1) := by decide +kernel
theorem dX7_replace_101 : decode cX7_replace 101 = .ok (.getfield 10, 3) := by decide +kernel
theorem dX7_replace_104 : decode cX7_replace 104 = .ok (.getfield 88, 3) := by decide +kernel
theorem dX7_replace_107 : decode cX7_replace 107 = .ok (.ireturn, 1) := by decide +kernel
theorem dX7_develop_0 : decode cX7_develop 0 = .ok (.aload_n 0, 1) := by decide +kernel
theorem dX7_develop_1 : decode cX7_develop 1 = .ok (.getfield 10, 3) := by decide +kernel
theorem dX7_develop_4 : decode cX7_develop 4 = .ok (.getfield 73, 3) := by decide +kernel
theorem dX7_develop_7 : decode cX7_develop 7 = .ok (.ifCond .eq 13, 3) := by decide +kernel
theorem dX7_develop_10 : decode cX7_develop 10 = .ok (.aload_n 0, 1) := by decide +kernel
theorem dX7_develop_11 : decode cX7_develop 11 = .ok (.getfield 10, 3) := by decide +kernel
theorem dX7_develop_14 : decode cX7_develop 14 = .ok (.invokevirtual 141, 3) := by decide +kernel
theorem dX7_develop_17 : decode cX7_develop 17 = .ok (.ifCond .ne 6, 3) := by decide +kernel
theorem dX7_develop_20 : decode cX7_develop 20 = .ok (.bipush (-2), 2) := by decide +kernel
theorem dX7_develop_22 : decode cX7_develop 22 = .ok (.ireturn, 1) := by decide +kernel
theorem dX7_develop_23 : decode cX7_develop 23 = .ok (.aload_n 0, 1) := by decide +kernel
theorem dX7_develop_24 : decode cX7_develop 24 = .ok (.getfield 10, 3) := by decide +kernel
theorem dX7_develop_27 : decode cX7_develop 27 = .ok (.getfield 73, 3) := by decide +kernel
theorem dX7_develop_30 : decode cX7_develop 30 = .ok (.iconst 2, 1) := by decide +kernel
theorem dX7_develop_31 : decode cX7_develop 31 = .ok (.if_icmp .lt 19, 3) := by decide +kernel
theorem dX7_develop_34 : decode cX7_develop 34 = .ok (.aload_n 0, 1) := by decide +kernel
theorem dX7_develop_35 : decode cX7_develop 35 = .ok (.getfield 10, 3) := by decide +kernel
theorem dX7_develop_38 : decode cX7_develop 38 = .ok (.getfield 73, 3) := by decide +kernel
theorem dX7_develop_41 : decode cX7_develop 41 = .ok (.bipush 6, 2) := by decide +kernel
theorem dX7_develop_43 : decode cX7_develop 43 = .ok (.if_icmp .gt 7, 3) := by decide +kernel
theorem dX7_develop_46 : decode cX7_develop 46 = .ok (.iconst 1, 1) := by decide +kernel
theorem dX7_develop_47 : decode cX7_develop 47 = .ok (.goto 4, 3) := by decide +kernel
theorem dX7_develop_50 : decode cX7_develop 50 = .ok (.iconst 0, 1) := by decide +kernel
theorem dX7_develop_51 : decode cX7_develop 51 = .ok (.istore_n 1, 1) := by decide +kernel
theorem dX7_develop_52 : decode cX7_develop 52 = .ok (.aload_n 0, 1) := by decide +kernel
theorem dX7_develop_53 : decode cX7_develop 53 = .ok (.getfield 10, 3) := by decide +kernel
theorem dX7_develop_56 : decode cX7_develop 56 = .ok (.getfield 73, 3) := by decide +kernel
theorem dX7_develop_59 : decode cX7_develop 59 = .ok (.aload_n 0, 1) := by decide +kernel
theorem dX7_develop_60 : decode cX7_develop 60 = .ok (.getfield 10, 3) := by decide +kernel
theorem dX7_develop_63 : decode cX7_develop 63 = .ok (.getfield 104, 3) := by decide +kernel
theorem dX7_develop_66 : decode cX7_develop 66 = .ok (.iconst 0, 1) := by decide +kernel
theorem dX7_develop_67 : decode cX7_develop 67 = .ok (.iaload, 1) := by decide +kernel
theorem dX7_develop_68 : decode cX7_develop 68 = .ok (.imul, 1) := by decide +kernel
theorem dX7_develop_69 : decode cX7_develop 69 = .ok (.bipush 36, 2) := by decide +kernel
theorem dX7_develop_71 : decode cX7_develop 71 = .ok (.if_icmp .gt 17, 3) := by decide +kernel
theorem dX7_develop_74 : decode cX7_develop 74 = .ok (.aload_n 0, 1) := by decide +kernel
theorem dX7_develop_75 : decode cX7_develop 75 = .ok (.getfield 10, 3) := by decide +kernel
theorem dX7_develop_78 : decode cX7_develop 78 = .ok (.getfield 88, 3) := by decide +kernel
theorem dX7_develop_81 : decode cX7_develop 81 = .ok (.iload_n 1, 1) := by decide +kernel
theorem dX7_develop_82 : decode cX7_develop 82 = .ok (.iadd, 1) := by decide +kernel
theorem dX7_develop_83 : decode cX7_develop 83 = .ok (.bipush 7, 2) := by decide +kernel
theorem dX7_develop_85 : decode cX7_develop 85 = .ok (.if_icmp .le 6, 3) := by decide +kernel
theorem dX7_develop_88 : decode cX7_develop 88 = .ok (.bipush (-3), 2) := by decide +kernel
theorem dX7_develop_90 : decode cX7_develop 90 = .ok (.ireturn, 1) := by decide +kernel
theorem dX7_develop_91 : decode cX7_develop 91 = .ok (.aload_n 0, 1) := by decide +kernel
theorem dX7_develop_92 : decode cX7_develop 92 = .ok (.invokevirtual 76, 3) := by decide +kernel
theorem dX7_develop_95 : decode cX7_develop 95 = .ok (.astore_n 2, 1) := by decide +kernel
theorem dX7_develop_96 : decode cX7_develop 96 = .ok (.aload_n 0, 1) := by decide +kernel
theorem dX7_develop_97 : decode cX7_develop 97 = .ok (.getfield 10, 3) := by decide +kernel
theorem dX7_develop_100 : decode cX7_develop 100 = .ok (.aload_n 2, 1) := by decide +kernel
theorem dX7_develop_101 : decode cX7_develop 101 = .ok (.iload_n 1, 1) := by decide +kernel
theorem dX7_develop_102 : decode cX7_develop 102 = .ok (.iconst 1, 1) := by decide +kernel
theorem dX7_develop_103 : decode cX7_develop 103 = .ok (.if_icmp .ne 7, 3) := by decide +kernel
theorem dX7_develop_106 : decode cX7_develop 106 = .ok (.iconst 1, 1) := by decide +kernel
theorem dX7_develop_107 : decode cX7_develop 107 = .ok (.goto 4, 3) := by decide +kernel
theorem dX7_develop_110 : decode cX7_develop 110 = .ok (.iconst 0, 1) := by decide +kernel
theorem dX7_develop_111 : decode cX7_develop 111 = .ok (.invokevirtual 145, 3) := by decide +kernel
theorem dX7_develop_114 : decode cX7_develop 114 = .ok (.aload_n 0, 1) := by decide +kernel
theorem dX7_develop_115 : decode cX7_develop 115 = .ok (.getfield 10, 3) := by decide +kernel
theorem dX7_develop_118 : decode cX7_develop 118 = .ok (.getfield 73, 3) := by decide +kernel
theorem dX7_develop_121 : decode cX7_develop 121 = .ok (.ireturn, 1) := by decide +kernel
theorem dX7_undo_0 : decode cX7_undo 0 = .ok (.aload_n 0, 1) := by decide +kernel
theorem dX7_undo_1 : decode cX7_undo 1 = .ok (.getfield 19, 3) := by decide +kernel
theorem dX7_undo_4 : decode cX7_undo 4 = .ok (.getfield 149, 3) := by decide +kernel
theorem dX7_undo_7 : decode cX7_undo 7 = .ok (.ifCond .ne 6, 3) := by decide +kernel
theorem dX7_undo_10 : decode cX7_undo 10 = .ok (.bipush (-2), 2) := by decide +kernel
theorem dX7_undo_12 : decode cX7_undo 12 = .ok (.ireturn, 1) := by decide +kernel
theorem dX7_undo_13 : decode cX7_undo 13 = .ok (.aload_n 0, 1) := by decide +kernel
theorem dX7_undo_14 : decode cX7_undo 14 = .ok (.getfield 19, 3) := by decide +kernel
theorem dX7_undo_17 : decode cX7_undo 17 = .ok (.aload_n 0, 1) := by decide +kernel
theorem dX7_undo_18 : decode cX7_undo 18 = .ok (.getfield 10, 3) := by decide +kernel
theorem dX7_undo_21 : decode cX7_undo 21 = .ok (.invokevirtual 152, 3) := by decide +kernel
theorem dX7_undo_24 : decode cX7_undo 24 = .ok (.aload_n 0, 1) := by decide +kernel
theorem dX7_undo_25 : decode cX7_undo 25 = .ok (.invokevirtual 156, 3) := by decide +kernel
theorem dX7_undo_28 : decode cX7_undo 28 = .ok (.aload_n 0, 1) := by decide +kernel
theorem dX7_undo_29 : decode cX7_undo 29 = .ok (.getfield 19, 3) := by decide +kernel
theorem dX7_undo_32 : decode cX7_undo 32 = .ok (.getfield 149, 3) := by decide +kernel
theorem dX7_undo_35 : decode cX7_undo 35 = .ok (.ireturn, 1) := by decide +kernel
theorem dX7_told_0 : decode cX7_told 0 = .ok (.iload_n 1, 1) := by decide +kernel
theorem dX7_told_1 : decode cX7_told 1 = .ok (.tableswitch 135 0 8 #[51, 59, 67, 79, 87, 103, 111, 119, 127], 51) := by decide +kernel
theorem dX7_told_52 : decode cX7_told 52 = .ok (.aload_n 0, 1) := by decide +kernel
theorem dX7_told_53 : decode cX7_told 53 = .ok (.getfield 10, 3) := by decide +kernel
theorem dX7_told_56 : decode cX7_told 56 = .ok (.getfield 73, 3) := by decide +kernel
theorem dX7_told_59 : decode cX7_told 59 = .ok (.ireturn, 1) := by decide +kernel
theorem dX7_told_60 : decode cX7_told 60 = .ok (.aload_n 0, 1) := by decide +kernel
theorem dX7_told_61 : decode cX7_told 61 = .ok (.getfield 10, 3) := by decide +kernel
theorem dX7_told_64 : decode cX7_told 64 = .ok (.getfield 88, 3) := by decide +kernel
theorem dX7_told_67 : decode cX7_told 67 = .ok (.ireturn, 1) := by decide +kernel
theorem dX7_told_68 : decode cX7_told 68 = .ok (.aload_n 0, 1) := by decide +kernel
theorem dX7_told_69 : decode cX7_told 69 = .ok (.getfield 41, 3) := by decide +kernel
theorem dX7_told_72 : decode cX7_told 72 = .ok (.aload_n 0, 1) := by decide +kernel
theorem dX7_told_73 : decode cX7_told 73 = .ok (.getfield 10, 3) := by decide +kernel
theorem dX7_told_76 : decode cX7_told 76 = .ok (.invokevirtual 169, 3) := by decide +kernel
theorem dX7_told_79 : decode cX7_told 79 = .ok (.ireturn, 1) := by decide +kernel
theorem dX7_told_80 : decode cX7_told 80 = .ok (.aload_n 0, 1) := by decide +kernel
theorem dX7_told_81 : decode cX7_told 81 = .ok (.getfield 10, 3) := by decide +kernel
theorem dX7_told_84 : decode cX7_told 84 = .ok (.invokevirtual 173, 3) := by decide +kernel
theorem dX7_told_87 : decode cX7_told 87 = .ok (.ireturn, 1) := by decide +kernel
theorem dX7_told_88 : decode cX7_told 88 = .ok (.aload_n 0, 1) := by decide +kernel
theorem dX7_told_89 : decode cX7_told 89 = .ok (.getfield 10, 3) := by decide +kernel
theorem dX7_told_92 : decode cX7_told 92 = .ok (.invokevirtual 141, 3) := by decide +kernel
theorem dX7_told_95 : decode cX7_told 95 = .ok (.ifCond .eq 7, 3) := by decide +kernel
theorem dX7_told_98 : decode cX7_told 98 = .ok (.iconst 1, 1) := by decide +kernel
theorem dX7_told_99 : decode cX7_told 99 = .ok (.goto 4, 3) := by decide +kernel
theorem dX7_told_102 : decode cX7_told 102 = .ok (.iconst 0, 1) := by decide +kernel
theorem dX7_told_103 : decode cX7_told 103 = .ok (.ireturn, 1) := by decide +kernel
theorem dX7_told_104 : decode cX7_told 104 = .ok (.aload_n 0, 1) := by decide +kernel
theorem dX7_told_105 : decode cX7_told 105 = .ok (.getfield 10, 3) := by decide +kernel
theorem dX7_told_108 : decode cX7_told 108 = .ok (.invokevirtual 176, 3) := by decide +kernel
theorem dX7_told_111 : decode cX7_told 111 = .ok (.ireturn, 1) := by decide +kernel
theorem dX7_told_112 : decode cX7_told 112 = .ok (.aload_n 0, 1) := by decide +kernel
theorem dX7_told_113 : decode cX7_told 113 = .ok (.getfield 10, 3) := by decide +kernel
theorem dX7_told_116 : decode cX7_told 116 = .ok (.invokevirtual 179, 3) := by decide +kernel
theorem dX7_told_119 : decode cX7_told 119 = .ok (.ireturn, 1) := by decide +kernel
theorem dX7_told_120 : decode cX7_told 120 = .ok (.aload_n 0, 1) := by decide +kernel
theorem dX7_told_121 : decode cX7_told 121 = .ok (.getfield 19, 3) := by decide +kernel
theorem dX7_told_124 : decode cX7_told 124 = .ok (.getfield 149, 3) := by decide +kernel
theorem dX7_told_127 : decode cX7_told 127 = .ok (.ireturn, 1) := by decide +kernel
theorem dX7_told_128 : decode cX7_told 128 = .ok (.aload_n 0, 1) := by decide +kernel
theorem dX7_told_129 : decode cX7_told 129 = .ok (.getfield 34, 3) := by decide +kernel
theorem dX7_told_132 : decode cX7_told 132 = .ok (.getfield 159, 3) := by decide +kernel
theorem dX7_told_135 : decode cX7_told 135 = .ok (.ireturn, 1) := by decide +kernel
theorem dX7_told_136 : decode cX7_told 136 = .ok (.iconst (-1), 1) := by decide +kernel
theorem dX7_told_137 : decode cX7_told 137 = .ok (.ireturn, 1) := by decide +kernel
theorem dX7_levels_0 : decode cX7_levels 0 = .ok (.aload_n 0, 1) := by decide +kernel
theorem dX7_levels_1 : decode cX7_levels 1 = .ok (.getfield 10, 3) := by decide +kernel
theorem dX7_levels_4 : decode cX7_levels 4 = .ok (.iload_n 1, 1) := by decide +kernel
theorem dX7_levels_5 : decode cX7_levels 5 = .ok (.invokevirtual 95, 3) := by decide +kernel
theorem dX7_levels_8 : decode cX7_levels 8 = .ok (.ifCond .eq 15, 3) := by decide +kernel
theorem dX7_levels_11 : decode cX7_levels 11 = .ok (.aload_n 0, 1) := by decide +kernel
theorem dX7_levels_12 : decode cX7_levels 12 = .ok (.getfield 10, 3) := by decide +kernel
theorem dX7_levels_15 : decode cX7_levels 15 = .ok (.getfield 104, 3) := by decide +kernel
theorem dX7_levels_18 : decode cX7_levels 18 = .ok (.iload_n 1, 1) := by decide +kernel
theorem dX7_levels_19 : decode cX7_levels 19 = .ok (.iaload, 1) := by decide +kernel
theorem dX7_levels_20 : decode cX7_levels 20 = .ok (.goto 4, 3) := by decide +kernel
theorem dX7_levels_23 : decode cX7_levels 23 = .ok (.iconst (-1), 1) := by decide +kernel
theorem dX7_levels_24 : decode cX7_levels 24 = .ok (.ireturn, 1) := by decide +kernel
theorem dX7_cell_0 : decode cX7_cell 0 = .ok (.aload_n 0, 1) := by decide +kernel
theorem dX7_cell_1 : decode cX7_cell 1 = .ok (.getfield 10, 3) := by decide +kernel
theorem dX7_cell_4 : decode cX7_cell 4 = .ok (.iload_n 1, 1) := by decide +kernel
theorem dX7_cell_5 : decode cX7_cell 5 = .ok (.invokevirtual 101, 3) := by decide +kernel
theorem dX7_cell_8 : decode cX7_cell 8 = .ok (.ifCond .eq 26, 3) := by decide +kernel
theorem dX7_cell_11 : decode cX7_cell 11 = .ok (.aload_n 0, 1) := by decide +kernel
theorem dX7_cell_12 : decode cX7_cell 12 = .ok (.getfield 10, 3) := by decide +kernel
theorem dX7_cell_15 : decode cX7_cell 15 = .ok (.iload_n 2, 1) := by decide +kernel
theorem dX7_cell_16 : decode cX7_cell 16 = .ok (.invokevirtual 95, 3) := by decide +kernel
theorem dX7_cell_19 : decode cX7_cell 19 = .ok (.ifCond .eq 15, 3) := by decide +kernel
theorem dX7_cell_22 : decode cX7_cell 22 = .ok (.aload_n 0, 1) := by decide +kernel
theorem dX7_cell_23 : decode cX7_cell 23 = .ok (.getfield 10, 3) := by decide +kernel
theorem dX7_cell_26 : decode cX7_cell 26 = .ok (.iload_n 1, 1) := by decide +kernel
theorem dX7_cell_27 : decode cX7_cell 27 = .ok (.iload_n 2, 1) := by decide +kernel
theorem dX7_cell_28 : decode cX7_cell 28 = .ok (.invokevirtual 108, 3) := by decide +kernel
theorem dX7_cell_31 : decode cX7_cell 31 = .ok (.goto 4, 3) := by decide +kernel
theorem dX7_cell_34 : decode cX7_cell 34 = .ok (.iconst (-1), 1) := by decide +kernel
theorem dX7_cell_35 : decode cX7_cell 35 = .ok (.ireturn, 1) := by decide +kernel
theorem dX7_count_0 : decode cX7_count 0 = .ok (.iload_n 1, 1) := by decide +kernel
theorem dX7_count_1 : decode cX7_count 1 = .ok (.ifCond .lt 32, 3) := by decide +kernel
theorem dX7_count_4 : decode cX7_count 4 = .ok (.iload_n 1, 1) := by decide +kernel
theorem dX7_count_5 : decode cX7_count 5 = .ok (.iconst 1, 1) := by decide +kernel
theorem dX7_count_6 : decode cX7_count 6 = .ok (.aload_n 0, 1) := by decide +kernel
theorem dX7_count_7 : decode cX7_count 7 = .ok (.getfield 10, 3) := by decide +kernel
theorem dX7_count_10 : decode cX7_count 10 = .ok (.getfield 88, 3) := by decide +kernel
theorem dX7_count_13 : decode cX7_count 13 = .ok (.ishl, 1) := by decide +kernel
theorem dX7_count_14 : decode cX7_count 14 = .ok (.if_icmp .ge 19, 3) := by decide +kernel
theorem dX7_count_17 : decode cX7_count 17 = .ok (.iload_n 2, 1) := by decide +kernel
theorem dX7_count_18 : decode cX7_count 18 = .ok (.ifCond .lt 15, 3) := by decide +kernel
theorem dX7_count_21 : decode cX7_count 21 = .ok (.iload_n 2, 1) := by decide +kernel
theorem dX7_count_22 : decode cX7_count 22 = .ok (.aload_n 0, 1) := by decide +kernel
theorem dX7_count_23 : decode cX7_count 23 = .ok (.getfield 10, 3) := by decide +kernel
theorem dX7_count_26 : decode cX7_count 26 = .ok (.iload_n 1, 1) := by decide +kernel
theorem dX7_count_27 : decode cX7_count 27 = .ok (.invokevirtual 182, 3) := by decide +kernel
theorem dX7_count_30 : decode cX7_count 30 = .ok (.if_icmp .lt 5, 3) := by decide +kernel
theorem dX7_count_33 : decode cX7_count 33 = .ok (.iconst (-1), 1) := by decide +kernel
theorem dX7_count_34 : decode cX7_count 34 = .ok (.ireturn, 1) := by decide +kernel
theorem dX7_count_35 : decode cX7_count 35 = .ok (.iconst 0, 1) := by decide +kernel
theorem dX7_count_36 : decode cX7_count 36 = .ok (.istore_n 3, 1) := by decide +kernel
theorem dX7_count_37 : decode cX7_count 37 = .ok (.iconst 0, 1) := by decide +kernel
theorem dX7_count_38 : decode cX7_count 38 = .ok (.istore 4, 2) := by decide +kernel
theorem dX7_count_40 : decode cX7_count 40 = .ok (.iload 4, 2) := by decide +kernel
theorem dX7_count_42 : decode cX7_count 42 = .ok (.aload_n 0, 1) := by decide +kernel
theorem dX7_count_43 : decode cX7_count 43 = .ok (.getfield 10, 3) := by decide +kernel
theorem dX7_count_46 : decode cX7_count 46 = .ok (.getfield 73, 3) := by decide +kernel
theorem dX7_count_49 : decode cX7_count 49 = .ok (.if_icmp .ge 26, 3) := by decide +kernel
theorem dX7_count_52 : decode cX7_count 52 = .ok (.aload_n 0, 1) := by decide +kernel
theorem dX7_count_53 : decode cX7_count 53 = .ok (.getfield 10, 3) := by decide +kernel
theorem dX7_count_56 : decode cX7_count 56 = .ok (.iload 4, 2) := by decide +kernel
theorem dX7_count_58 : decode cX7_count 58 = .ok (.iload_n 1, 1) := by decide +kernel
theorem dX7_count_59 : decode cX7_count 59 = .ok (.invokevirtual 185, 3) := by decide +kernel
theorem dX7_count_62 : decode cX7_count 62 = .ok (.iload_n 2, 1) := by decide +kernel
theorem dX7_count_63 : decode cX7_count 63 = .ok (.if_icmp .ne 6, 3) := by decide +kernel
theorem dX7_count_66 : decode cX7_count 66 = .ok (.iinc 3 1, 3) := by decide +kernel
theorem dX7_count_69 : decode cX7_count 69 = .ok (.iinc 4 1, 3) := by decide +kernel
theorem dX7_count_72 : decode cX7_count 72 = .ok (.goto (-32), 3) := by decide +kernel
theorem dX7_count_75 : decode cX7_count 75 = .ok (.iload_n 3, 1) := by decide +kernel
theorem dX7_count_76 : decode cX7_count 76 = .ok (.ireturn, 1) := by decide +kernel
theorem dX7_audit_0 : decode cX7_audit 0 = .ok (.iload_n 1, 1) := by decide +kernel
theorem dX7_audit_1 : decode cX7_audit 1 = .ok (.ifCond .lt 14, 3) := by decide +kernel
theorem dX7_audit_4 : decode cX7_audit 4 = .ok (.iload_n 1, 1) := by decide +kernel
theorem dX7_audit_5 : decode cX7_audit 5 = .ok (.aload_n 0, 1) := by decide +kernel
theorem dX7_audit_6 : decode cX7_audit 6 = .ok (.getfield 10, 3) := by decide +kernel
theorem dX7_audit_9 : decode cX7_audit 9 = .ok (.getfield 88, 3) := by decide +kernel
theorem dX7_audit_12 : decode cX7_audit 12 = .ok (.if_icmp .le 5, 3) := by decide +kernel
theorem dX7_audit_15 : decode cX7_audit 15 = .ok (.iconst (-1), 1) := by decide +kernel
theorem dX7_audit_16 : decode cX7_audit 16 = .ok (.ireturn, 1) := by decide +kernel
theorem dX7_audit_17 : decode cX7_audit 17 = .ok (.iload_n 2, 1) := by decide +kernel
theorem dX7_audit_18 : decode cX7_audit 18 = .ok (.tableswitch 89 0 3 #[30, 43, 63, 76], 30) := by decide +kernel
theorem dX7_audit_48 : decode cX7_audit 48 = .ok (.aload_n 0, 1) := by decide +kernel
theorem dX7_audit_49 : decode cX7_audit 49 = .ok (.getfield 41, 3) := by decide +kernel
theorem dX7_audit_52 : decode cX7_audit 52 = .ok (.aload_n 0, 1) := by decide +kernel
theorem dX7_audit_53 : decode cX7_audit 53 = .ok (.getfield 10, 3) := by decide +kernel
theorem dX7_audit_56 : decode cX7_audit 56 = .ok (.iload_n 1, 1) := by decide +kernel
theorem dX7_audit_57 : decode cX7_audit 57 = .ok (.invokevirtual 188, 3) := by decide +kernel
theorem dX7_audit_60 : decode cX7_audit 60 = .ok (.ireturn, 1) := by decide +kernel
theorem dX7_audit_61 : decode cX7_audit 61 = .ok (.aload_n 0, 1) := by decide +kernel
theorem dX7_audit_62 : decode cX7_audit 62 = .ok (.getfield 41, 3) := by decide +kernel
theorem dX7_audit_65 : decode cX7_audit 65 = .ok (.aload_n 0, 1) := by decide +kernel
theorem dX7_audit_66 : decode cX7_audit 66 = .ok (.getfield 10, 3) := by decide +kernel
theorem dX7_audit_69 : decode cX7_audit 69 = .ok (.iload_n 1, 1) := by decide +kernel
theorem dX7_audit_70 : decode cX7_audit 70 = .ok (.aload_n 0, 1) := by decide +kernel
theorem dX7_audit_71 : decode cX7_audit 71 = .ok (.getfield 10, 3) := by decide +kernel
theorem dX7_audit_74 : decode cX7_audit 74 = .ok (.invokevirtual 192, 3) := by decide +kernel
theorem dX7_audit_77 : decode cX7_audit 77 = .ok (.invokevirtual 196, 3) := by decide +kernel
theorem dX7_audit_80 : decode cX7_audit 80 = .ok (.ireturn, 1) := by decide +kernel
theorem dX7_audit_81 : decode cX7_audit 81 = .ok (.aload_n 0, 1) := by decide +kernel
theorem dX7_audit_82 : decode cX7_audit 82 = .ok (.getfield 41, 3) := by decide +kernel
theorem dX7_audit_85 : decode cX7_audit 85 = .ok (.aload_n 0, 1) := by decide +kernel
theorem dX7_audit_86 : decode cX7_audit 86 = .ok (.getfield 10, 3) := by decide +kernel
theorem dX7_audit_89 : decode cX7_audit 89 = .ok (.iload_n 1, 1) := by decide +kernel
theorem dX7_audit_90 : decode cX7_audit 90 = .ok (.invokevirtual 200, 3) := by decide +kernel
theorem dX7_audit_93 : decode cX7_audit 93 = .ok (.ireturn, 1) := by decide +kernel
theorem dX7_audit_94 : decode cX7_audit 94 = .ok (.aload_n 0, 1) := by decide +kernel
theorem dX7_audit_95 : decode cX7_audit 95 = .ok (.getfield 41, 3) := by decide +kernel
theorem dX7_audit_98 : decode cX7_audit 98 = .ok (.aload_n 0, 1) := by decide +kernel
theorem dX7_audit_99 : decode cX7_audit 99 = .ok (.getfield 10, 3) := by decide +kernel
theorem dX7_audit_102 : decode cX7_audit 102 = .ok (.iload_n 1, 1) := by decide +kernel
theorem dX7_audit_103 : decode cX7_audit 103 = .ok (.invokevirtual 203, 3) := by decide +kernel
theorem dX7_audit_106 : decode cX7_audit 106 = .ok (.ireturn, 1) := by decide +kernel
theorem dX7_audit_107 : decode cX7_audit 107 = .ok (.iconst (-1), 1) := by decide +kernel
theorem dX7_audit_108 : decode cX7_audit 108 = .ok (.ireturn, 1) := by decide +kernel
theorem dX7_pairs_0 : decode cX7_pairs 0 = .ok (.iload_n 1, 1) := by decide +kernel
theorem dX7_pairs_1 : decode cX7_pairs 1 = .ok (.ifCond .lt 9, 3) := by decide +kernel
theorem dX7_pairs_4 : decode cX7_pairs 4 = .ok (.iload_n 1, 1) := by decide +kernel
theorem dX7_pairs_5 : decode cX7_pairs 5 = .ok (.bipush 7, 2) := by decide +kernel
theorem dX7_pairs_7 : decode cX7_pairs 7 = .ok (.if_icmp .le 5, 3) := by decide +kernel
theorem dX7_pairs_10 : decode cX7_pairs 10 = .ok (.iconst (-1), 1) := by decide +kernel
theorem dX7_pairs_11 : decode cX7_pairs 11 = .ok (.ireturn, 1) := by decide +kernel
theorem dX7_pairs_12 : decode cX7_pairs 12 = .ok (.iconst 0, 1) := by decide +kernel
theorem dX7_pairs_13 : decode cX7_pairs 13 = .ok (.istore_n 2, 1) := by decide +kernel
theorem dX7_pairs_14 : decode cX7_pairs 14 = .ok (.iconst 1, 1) := by decide +kernel
theorem dX7_pairs_15 : decode cX7_pairs 15 = .ok (.istore_n 3, 1) := by decide +kernel
theorem dX7_pairs_16 : decode cX7_pairs 16 = .ok (.iload_n 3, 1) := by decide +kernel
theorem dX7_pairs_17 : decode cX7_pairs 17 = .ok (.aload_n 0, 1) := by decide +kernel
theorem dX7_pairs_18 : decode cX7_pairs 18 = .ok (.getfield 10, 3) := by decide +kernel
theorem dX7_pairs_21 : decode cX7_pairs 21 = .ok (.getfield 73, 3) := by decide +kernel
theorem dX7_pairs_24 : decode cX7_pairs 24 = .ok (.if_icmp .ge 41, 3) := by decide +kernel
theorem dX7_pairs_27 : decode cX7_pairs 27 = .ok (.iconst 0, 1) := by decide +kernel
theorem dX7_pairs_28 : decode cX7_pairs 28 = .ok (.istore 4, 2) := by decide +kernel
theorem dX7_pairs_30 : decode cX7_pairs 30 = .ok (.iload 4, 2) := by decide +kernel
theorem dX7_pairs_32 : decode cX7_pairs 32 = .ok (.iload_n 3, 1) := by decide +kernel
theorem dX7_pairs_33 : decode cX7_pairs 33 = .ok (.if_icmp .ge 26, 3) := by decide +kernel
theorem dX7_pairs_36 : decode cX7_pairs 36 = .ok (.aload_n 0, 1) := by decide +kernel
theorem dX7_pairs_37 : decode cX7_pairs 37 = .ok (.getfield 10, 3) := by decide +kernel
theorem dX7_pairs_40 : decode cX7_pairs 40 = .ok (.iload_n 3, 1) := by decide +kernel
theorem dX7_pairs_41 : decode cX7_pairs 41 = .ok (.iload 4, 2) := by decide +kernel
theorem dX7_pairs_43 : decode cX7_pairs 43 = .ok (.invokevirtual 206, 3) := by decide +kernel
theorem dX7_pairs_46 : decode cX7_pairs 46 = .ok (.iload_n 1, 1) := by decide +kernel
theorem dX7_pairs_47 : decode cX7_pairs 47 = .ok (.if_icmp .ne 6, 3) := by decide +kernel
theorem dX7_pairs_50 : decode cX7_pairs 50 = .ok (.iinc 2 1, 3) := by decide +kernel
theorem dX7_pairs_53 : decode cX7_pairs 53 = .ok (.iinc 4 1, 3) := by decide +kernel
theorem dX7_pairs_56 : decode cX7_pairs 56 = .ok (.goto (-26), 3) := by decide +kernel
theorem dX7_pairs_59 : decode cX7_pairs 59 = .ok (.iinc 3 1, 3) := by decide +kernel
theorem dX7_pairs_62 : decode cX7_pairs 62 = .ok (.goto (-46), 3) := by decide +kernel
theorem dX7_pairs_65 : decode cX7_pairs 65 = .ok (.iload_n 2, 1) := by decide +kernel
theorem dX7_pairs_66 : decode cX7_pairs 66 = .ok (.ireturn, 1) := by decide +kernel
theorem dX7_extension_0 : decode cX7_extension 0 = .ok (.iload_n 1, 1) := by decide +kernel
theorem dX7_extension_1 : decode cX7_extension 1 = .ok (.invokestatic 84, 3) := by decide +kernel
theorem dX7_extension_4 : decode cX7_extension 4 = .ok (.ifCond .eq 19, 3) := by decide +kernel
theorem dX7_extension_7 : decode cX7_extension 7 = .ok (.iload_n 2, 1) := by decide +kernel
theorem dX7_extension_8 : decode cX7_extension 8 = .ok (.iconst (-1), 1) := by decide +kernel
theorem dX7_extension_9 : decode cX7_extension 9 = .ok (.if_icmp .eq 16, 3) := by decide +kernel
theorem dX7_extension_12 : decode cX7_extension 12 = .ok (.aload_n 0, 1) := by decide +kernel
theorem dX7_extension_13 : decode cX7_extension 13 = .ok (.getfield 10, 3) := by decide +kernel
theorem dX7_extension_16 : decode cX7_extension 16 = .ok (.iload_n 2, 1) := by decide +kernel
theorem dX7_extension_17 : decode cX7_extension 17 = .ok (.invokevirtual 101, 3) := by decide +kernel
theorem dX7_extension_20 : decode cX7_extension 20 = .ok (.ifCond .ne 5, 3) := by decide +kernel
theorem dX7_extension_23 : decode cX7_extension 23 = .ok (.iconst (-1), 1) := by decide +kernel
theorem dX7_extension_24 : decode cX7_extension 24 = .ok (.ireturn, 1) := by decide +kernel
theorem dX7_extension_25 : decode cX7_extension 25 = .ok (.aload_n 0, 1) := by decide +kernel
theorem dX7_extension_26 : decode cX7_extension 26 = .ok (.getfield 10, 3) := by decide +kernel
theorem dX7_extension_29 : decode cX7_extension 29 = .ok (.getfield 73, 3) := by decide +kernel
theorem dX7_extension_32 : decode cX7_extension 32 = .ok (.ifCond .eq 15, 3) := by decide +kernel
theorem dX7_extension_35 : decode cX7_extension 35 = .ok (.aload_n 0, 1) := by decide +kernel
theorem dX7_extension_36 : decode cX7_extension 36 = .ok (.getfield 10, 3) := by decide +kernel
theorem dX7_extension_39 : decode cX7_extension 39 = .ok (.getfield 73, 3) := by decide +kernel
theorem dX7_extension_42 : decode cX7_extension 42 = .ok (.bipush 16, 2) := by decide +kernel
theorem dX7_extension_44 : decode cX7_extension 44 = .ok (.if_icmp .le 6, 3) := by decide +kernel
theorem dX7_extension_47 : decode cX7_extension 47 = .ok (.bipush (-2), 2) := by decide +kernel
theorem dX7_extension_49 : decode cX7_extension 49 = .ok (.ireturn, 1) := by decide +kernel
theorem dX7_extension_50 : decode cX7_extension 50 = .ok (.aload_n 0, 1) := by decide +kernel
theorem dX7_extension_51 : decode cX7_extension 51 = .ok (.iload_n 1, 1) := by decide +kernel
theorem dX7_extension_52 : decode cX7_extension 52 = .ok (.invokevirtual 209, 3) := by decide +kernel
theorem dX7_extension_55 : decode cX7_extension 55 = .ok (.ifCond .ne 6, 3) := by decide +kernel
theorem dX7_extension_58 : decode cX7_extension 58 = .ok (.bipush (-9), 2) := by decide +kernel
theorem dX7_extension_60 : decode cX7_extension 60 = .ok (.ireturn, 1) := by decide +kernel
theorem dX7_extension_61 : decode cX7_extension 61 = .ok (.iload_n 2, 1) := by decide +kernel
theorem dX7_extension_62 : decode cX7_extension 62 = .ok (.iconst (-1), 1) := by decide +kernel
theorem dX7_extension_63 : decode cX7_extension 63 = .ok (.if_icmp .ne 13, 3) := by decide +kernel
theorem dX7_extension_66 : decode cX7_extension 66 = .ok (.aload_n 0, 1) := by decide +kernel
theorem dX7_extension_67 : decode cX7_extension 67 = .ok (.getfield 10, 3) := by decide +kernel
theorem dX7_extension_70 : decode cX7_extension 70 = .ok (.getfield 73, 3) := by decide +kernel
theorem dX7_extension_73 : decode cX7_extension 73 = .ok (.goto 12, 3) := by decide +kernel
theorem dX7_extension_76 : decode cX7_extension 76 = .ok (.aload_n 0, 1) := by decide +kernel
theorem dX7_extension_77 : decode cX7_extension 77 = .ok (.getfield 48, 3) := by decide +kernel
theorem dX7_extension_80 : decode cX7_extension 80 = .ok (.getfield 212, 3) := by decide +kernel
theorem dX7_extension_83 : decode cX7_extension 83 = .ok (.iload_n 2, 1) := by decide +kernel
theorem dX7_extension_84 : decode cX7_extension 84 = .ok (.iaload, 1) := by decide +kernel
theorem dX7_extension_85 : decode cX7_extension 85 = .ok (.ireturn, 1) := by decide +kernel
theorem dX7_extend_0 : decode cX7_extend 0 = .ok (.iload_n 1, 1) := by decide +kernel
theorem dX7_extend_1 : decode cX7_extend 1 = .ok (.invokestatic 84, 3) := by decide +kernel
theorem dX7_extend_4 : decode cX7_extend 4 = .ok (.ifCond .ne 5, 3) := by decide +kernel
theorem dX7_extend_7 : decode cX7_extend 7 = .ok (.iconst (-1), 1) := by decide +kernel
theorem dX7_extend_8 : decode cX7_extend 8 = .ok (.ireturn, 1) := by decide +kernel
theorem dX7_extend_9 : decode cX7_extend 9 = .ok (.aload_n 0, 1) := by decide +kernel
theorem dX7_extend_10 : decode cX7_extend 10 = .ok (.getfield 10, 3) := by decide +kernel
theorem dX7_extend_13 : decode cX7_extend 13 = .ok (.getfield 73, 3) := by decide +kernel
theorem dX7_extend_16 : decode cX7_extend 16 = .ok (.ifCond .eq 15, 3) := by decide +kernel
theorem dX7_extend_19 : decode cX7_extend 19 = .ok (.aload_n 0, 1) := by decide +kernel
theorem dX7_extend_20 : decode cX7_extend 20 = .ok (.getfield 10, 3) := by decide +kernel
theorem dX7_extend_23 : decode cX7_extend 23 = .ok (.getfield 73, 3) := by decide +kernel
theorem dX7_extend_26 : decode cX7_extend 26 = .ok (.bipush 16, 2) := by decide +kernel
theorem dX7_extend_28 : decode cX7_extend 28 = .ok (.if_icmp .le 6, 3) := by decide +kernel
theorem dX7_extend_31 : decode cX7_extend 31 = .ok (.bipush (-2), 2) := by decide +kernel
theorem dX7_extend_33 : decode cX7_extend 33 = .ok (.ireturn, 1) := by decide +kernel
theorem dX7_extend_34 : decode cX7_extend 34 = .ok (.aload_n 0, 1) := by decide +kernel
theorem dX7_extend_35 : decode cX7_extend 35 = .ok (.getfield 10, 3) := by decide +kernel
theorem dX7_extend_38 : decode cX7_extend 38 = .ok (.getfield 88, 3) := by decide +kernel
theorem dX7_extend_41 : decode cX7_extend 41 = .ok (.bipush 7, 2) := by decide +kernel
theorem dX7_extend_43 : decode cX7_extend 43 = .ok (.if_icmp .lt 6, 3) := by decide +kernel
theorem dX7_extend_46 : decode cX7_extend 46 = .ok (.bipush (-3), 2) := by decide +kernel
theorem dX7_extend_48 : decode cX7_extend 48 = .ok (.ireturn, 1) := by decide +kernel
theorem dX7_extend_49 : decode cX7_extend 49 = .ok (.aload_n 0, 1) := by decide +kernel
theorem dX7_extend_50 : decode cX7_extend 50 = .ok (.iload_n 1, 1) := by decide +kernel
theorem dX7_extend_51 : decode cX7_extend 51 = .ok (.invokevirtual 209, 3) := by decide +kernel
theorem dX7_extend_54 : decode cX7_extend 54 = .ok (.ifCond .ne 6, 3) := by decide +kernel
theorem dX7_extend_57 : decode cX7_extend 57 = .ok (.bipush (-9), 2) := by decide +kernel
theorem dX7_extend_59 : decode cX7_extend 59 = .ok (.ireturn, 1) := by decide +kernel
theorem dX7_extend_60 : decode cX7_extend 60 = .ok (.aload_n 0, 1) := by decide +kernel
theorem dX7_extend_61 : decode cX7_extend 61 = .ok (.invokevirtual 76, 3) := by decide +kernel
theorem dX7_extend_64 : decode cX7_extend 64 = .ok (.pop, 1) := by decide +kernel
theorem dX7_extend_65 : decode cX7_extend 65 = .ok (.aload_n 0, 1) := by decide +kernel
theorem dX7_extend_66 : decode cX7_extend 66 = .ok (.getfield 10, 3) := by decide +kernel
theorem dX7_extend_69 : decode cX7_extend 69 = .ok (.iload_n 1, 1) := by decide +kernel
theorem dX7_extend_70 : decode cX7_extend 70 = .ok (.invokevirtual 91, 3) := by decide +kernel
theorem dX7_extend_73 : decode cX7_extend 73 = .ok (.istore_n 2, 1) := by decide +kernel
theorem dX7_extend_74 : decode cX7_extend 74 = .ok (.iconst 0, 1) := by decide +kernel
theorem dX7_extend_75 : decode cX7_extend 75 = .ok (.istore_n 3, 1) := by decide +kernel
theorem dX7_extend_76 : decode cX7_extend 76 = .ok (.iload_n 3, 1) := by decide +kernel
theorem dX7_extend_77 : decode cX7_extend 77 = .ok (.aload_n 0, 1) := by decide +kernel
theorem dX7_extend_78 : decode cX7_extend 78 = .ok (.getfield 10, 3) := by decide +kernel
theorem dX7_extend_81 : decode cX7_extend 81 = .ok (.getfield 73, 3) := by decide +kernel
theorem dX7_extend_84 : decode cX7_extend 84 = .ok (.if_icmp .ge 27, 3) := by decide +kernel
theorem dX7_extend_87 : decode cX7_extend 87 = .ok (.aload_n 0, 1) := by decide +kernel
theorem dX7_extend_88 : decode cX7_extend 88 = .ok (.getfield 10, 3) := by decide +kernel
theorem dX7_extend_91 : decode cX7_extend 91 = .ok (.iload_n 3, 1) := by decide +kernel
theorem dX7_extend_92 : decode cX7_extend 92 = .ok (.iload_n 2, 1) := by decide +kernel
theorem dX7_extend_93 : decode cX7_extend 93 = .ok (.aload_n 0, 1) := by decide +kernel
theorem dX7_extend_94 : decode cX7_extend 94 = .ok (.getfield 48, 3) := by decide +kernel
theorem dX7_extend_97 : decode cX7_extend 97 = .ok (.getfield 212, 3) := by decide +kernel
theorem dX7_extend_100 : decode cX7_extend 100 = .ok (.iload_n 3, 1) := by decide +kernel
theorem dX7_extend_101 : decode cX7_extend 101 = .ok (.iaload, 1) := by decide +kernel
theorem dX7_extend_102 : decode cX7_extend 102 = .ok (.invokevirtual 112, 3) := by decide +kernel
theorem dX7_extend_105 : decode cX7_extend 105 = .ok (.iinc 3 1, 3) := by decide +kernel
theorem dX7_extend_108 : decode cX7_extend 108 = .ok (.goto (-32), 3) := by decide +kernel
theorem dX7_extend_111 : decode cX7_extend 111 = .ok (.iload_n 2, 1) := by decide +kernel
theorem dX7_extend_112 : decode cX7_extend 112 = .ok (.ireturn, 1) := by decide +kernel
theorem dX7_spare_0 : decode cX7_spare 0 = .ok (.iload_n 1, 1) := by decide +kernel
theorem dX7_spare_1 : decode cX7_spare 1 = .ok (.iconst 1, 1) := by decide +kernel
theorem dX7_spare_2 : decode cX7_spare 2 = .ok (.if_icmp .lt 14, 3) := by decide +kernel
theorem dX7_spare_5 : decode cX7_spare 5 = .ok (.iload_n 1, 1) := by decide +kernel
theorem dX7_spare_6 : decode cX7_spare 6 = .ok (.aload_n 0, 1) := by decide +kernel
theorem dX7_spare_7 : decode cX7_spare 7 = .ok (.getfield 10, 3) := by decide +kernel
theorem dX7_spare_10 : decode cX7_spare 10 = .ok (.getfield 88, 3) := by decide +kernel
theorem dX7_spare_13 : decode cX7_spare 13 = .ok (.if_icmp .le 5, 3) := by decide +kernel
theorem dX7_spare_16 : decode cX7_spare 16 = .ok (.iconst (-1), 1) := by decide +kernel
theorem dX7_spare_17 : decode cX7_spare 17 = .ok (.ireturn, 1) := by decide +kernel
theorem dX7_spare_18 : decode cX7_spare 18 = .ok (.aload_n 0, 1) := by decide +kernel
theorem dX7_spare_19 : decode cX7_spare 19 = .ok (.getfield 10, 3) := by decide +kernel
theorem dX7_spare_22 : decode cX7_spare 22 = .ok (.getfield 73, 3) := by decide +kernel
theorem dX7_spare_25 : decode cX7_spare 25 = .ok (.ifCond .eq 15, 3) := by decide +kernel
theorem dX7_spare_28 : decode cX7_spare 28 = .ok (.aload_n 0, 1) := by decide +kernel
theorem dX7_spare_29 : decode cX7_spare 29 = .ok (.getfield 10, 3) := by decide +kernel
theorem dX7_spare_32 : decode cX7_spare 32 = .ok (.getfield 73, 3) := by decide +kernel
theorem dX7_spare_35 : decode cX7_spare 35 = .ok (.bipush 12, 2) := by decide +kernel
theorem dX7_spare_37 : decode cX7_spare 37 = .ok (.if_icmp .le 6, 3) := by decide +kernel
theorem dX7_spare_40 : decode cX7_spare 40 = .ok (.bipush (-2), 2) := by decide +kernel
theorem dX7_spare_42 : decode cX7_spare 42 = .ok (.ireturn, 1) := by decide +kernel
theorem dX7_spare_43 : decode cX7_spare 43 = .ok (.aload_n 0, 1) := by decide +kernel
theorem dX7_spare_44 : decode cX7_spare 44 = .ok (.getfield 41, 3) := by decide +kernel
theorem dX7_spare_47 : decode cX7_spare 47 = .ok (.aload_n 0, 1) := by decide +kernel
theorem dX7_spare_48 : decode cX7_spare 48 = .ok (.getfield 10, 3) := by decide +kernel
theorem dX7_spare_51 : decode cX7_spare 51 = .ok (.iload_n 1, 1) := by decide +kernel
theorem dX7_spare_52 : decode cX7_spare 52 = .ok (.invokevirtual 215, 3) := by decide +kernel
theorem dX7_spare_55 : decode cX7_spare 55 = .ok (.ireturn, 1) := by decide +kernel
theorem dX7_keep_0 : decode cX7_keep 0 = .ok (.iload_n 1, 1) := by decide +kernel
theorem dX7_keep_1 : decode cX7_keep 1 = .ok (.invokestatic 134, 3) := by decide +kernel
theorem dX7_keep_4 : decode cX7_keep 4 = .ok (.ifCond .ne 5, 3) := by decide +kernel
theorem dX7_keep_7 : decode cX7_keep 7 = .ok (.iconst (-1), 1) := by decide +kernel
theorem dX7_keep_8 : decode cX7_keep 8 = .ok (.ireturn, 1) := by decide +kernel
theorem dX7_keep_9 : decode cX7_keep 9 = .ok (.aload_n 0, 1) := by decide +kernel
theorem dX7_keep_10 : decode cX7_keep 10 = .ok (.getfield 23, 3) := by decide +kernel
theorem dX7_keep_13 : decode cX7_keep 13 = .ok (.iload_n 1, 1) := by decide +kernel
theorem dX7_keep_14 : decode cX7_keep 14 = .ok (.aaload, 1) := by decide +kernel
theorem dX7_keep_15 : decode cX7_keep 15 = .ok (.aload_n 0, 1) := by decide +kernel
theorem dX7_keep_16 : decode cX7_keep 16 = .ok (.getfield 10, 3) := by decide +kernel
theorem dX7_keep_19 : decode cX7_keep 19 = .ok (.invokevirtual 218, 3) := by decide +kernel
theorem dX7_keep_22 : decode cX7_keep 22 = .ok (.aload_n 0, 1) := by decide +kernel
theorem dX7_keep_23 : decode cX7_keep 23 = .ok (.getfield 27, 3) := by decide +kernel
theorem dX7_keep_26 : decode cX7_keep 26 = .ok (.iload_n 1, 1) := by decide +kernel
theorem dX7_keep_27 : decode cX7_keep 27 = .ok (.iconst 1, 1) := by decide +kernel
theorem dX7_keep_28 : decode cX7_keep 28 = .ok (.bastore, 1) := by decide +kernel
theorem dX7_keep_29 : decode cX7_keep 29 = .ok (.aload_n 0, 1) := by decide +kernel
theorem dX7_keep_30 : decode cX7_keep 30 = .ok (.invokevirtual 156, 3) := by decide +kernel
theorem dX7_keep_33 : decode cX7_keep 33 = .ok (.aload_n 0, 1) := by decide +kernel
theorem dX7_keep_34 : decode cX7_keep 34 = .ok (.getfield 10, 3) := by decide +kernel
theorem dX7_keep_37 : decode cX7_keep 37 = .ok (.getfield 73, 3) := by decide +kernel
theorem dX7_keep_40 : decode cX7_keep 40 = .ok (.ireturn, 1) := by decide +kernel
theorem dX7_back_0 : decode cX7_back 0 = .ok (.iload_n 1, 1) := by decide +kernel
theorem dX7_back_1 : decode cX7_back 1 = .ok (.invokestatic 134, 3) := by decide +kernel
theorem dX7_back_4 : decode cX7_back 4 = .ok (.ifCond .ne 5, 3) := by decide +kernel
theorem dX7_back_7 : decode cX7_back 7 = .ok (.iconst (-1), 1) := by decide +kernel
theorem dX7_back_8 : decode cX7_back 8 = .ok (.ireturn, 1) := by decide +kernel
theorem dX7_back_9 : decode cX7_back 9 = .ok (.aload_n 0, 1) := by decide +kernel
theorem dX7_back_10 : decode cX7_back 10 = .ok (.getfield 27, 3) := by decide +kernel
theorem dX7_back_13 : decode cX7_back 13 = .ok (.iload_n 1, 1) := by decide +kernel
theorem dX7_back_14 : decode cX7_back 14 = .ok (.baload, 1) := by decide +kernel
theorem dX7_back_15 : decode cX7_back 15 = .ok (.ifCond .ne 6, 3) := by decide +kernel
theorem dX7_back_18 : decode cX7_back 18 = .ok (.bipush (-2), 2) := by decide +kernel
theorem dX7_back_20 : decode cX7_back 20 = .ok (.ireturn, 1) := by decide +kernel
theorem dX7_back_21 : decode cX7_back 21 = .ok (.aload_n 0, 1) := by decide +kernel
theorem dX7_back_22 : decode cX7_back 22 = .ok (.invokevirtual 76, 3) := by decide +kernel
theorem dX7_back_25 : decode cX7_back 25 = .ok (.pop, 1) := by decide +kernel
theorem dX7_back_26 : decode cX7_back 26 = .ok (.aload_n 0, 1) := by decide +kernel
theorem dX7_back_27 : decode cX7_back 27 = .ok (.getfield 10, 3) := by decide +kernel
theorem dX7_back_30 : decode cX7_back 30 = .ok (.aload_n 0, 1) := by decide +kernel
theorem dX7_back_31 : decode cX7_back 31 = .ok (.getfield 23, 3) := by decide +kernel
theorem dX7_back_34 : decode cX7_back 34 = .ok (.iload_n 1, 1) := by decide +kernel
theorem dX7_back_35 : decode cX7_back 35 = .ok (.aaload, 1) := by decide +kernel
theorem dX7_back_36 : decode cX7_back 36 = .ok (.invokevirtual 218, 3) := by decide +kernel
theorem dX7_back_39 : decode cX7_back 39 = .ok (.aload_n 0, 1) := by decide +kernel
theorem dX7_back_40 : decode cX7_back 40 = .ok (.getfield 10, 3) := by decide +kernel
theorem dX7_back_43 : decode cX7_back 43 = .ok (.getfield 73, 3) := by decide +kernel
theorem dX7_back_46 : decode cX7_back 46 = .ok (.ireturn, 1) := by decide +kernel
theorem dX7_record_0 : decode cX7_record 0 = .ok (.aload_n 0, 1) := by decide +kernel
theorem dX7_record_1 : decode cX7_record 1 = .ok (.invokevirtual 156, 3) := by decide +kernel
theorem dX7_record_4 : decode cX7_record 4 = .ok (.aload_n 0, 1) := by decide +kernel
theorem dX7_record_5 : decode cX7_record 5 = .ok (.getfield 19, 3) := by decide +kernel
theorem dX7_record_8 : decode cX7_record 8 = .ok (.aload_n 0, 1) := by decide +kernel
theorem dX7_record_9 : decode cX7_record 9 = .ok (.getfield 10, 3) := by decide +kernel
theorem dX7_record_12 : decode cX7_record 12 = .ok (.invokevirtual 233, 3) := by decide +kernel
theorem dX7_record_15 : decode cX7_record 15 = .ok (.areturn, 1) := by decide +kernel
theorem dX7_forgetResults_0 : decode cX7_forgetResults 0 = .ok (.aload_n 0, 1) := by decide +kernel
theorem dX7_forgetResults_1 : decode cX7_forgetResults 1 = .ok (.iconst 0, 1) := by decide +kernel
theorem dX7_forgetResults_2 : decode cX7_forgetResults 2 = .ok (.putfield 59, 3) := by decide +kernel
theorem dX7_forgetResults_5 : decode cX7_forgetResults 5 = .ok (.aload_n 0, 1) := by decide +kernel
theorem dX7_forgetResults_6 : decode cX7_forgetResults 6 = .ok (.iconst (-1), 1) := by decide +kernel
theorem dX7_forgetResults_7 : decode cX7_forgetResults 7 = .ok (.putfield 67, 3) := by decide +kernel
theorem dX7_forgetResults_10 : decode cX7_forgetResults 10 = .ok (.return_, 1) := by decide +kernel
theorem dX7_hasExtension_0 : decode cX7_hasExtension 0 = .ok (.aload_n 0, 1) := by decide +kernel
theorem dX7_hasExtension_1 : decode cX7_hasExtension 1 = .ok (.getfield 59, 3) := by decide +kernel
theorem dX7_hasExtension_4 : decode cX7_hasExtension 4 = .ok (.iload_n 1, 1) := by decide +kernel
theorem dX7_hasExtension_5 : decode cX7_hasExtension 5 = .ok (.if_icmp .eq 24, 3) := by decide +kernel
theorem dX7_hasExtension_8 : decode cX7_hasExtension 8 = .ok (.aload_n 0, 1) := by decide +kernel
theorem dX7_hasExtension_9 : decode cX7_hasExtension 9 = .ok (.aload_n 0, 1) := by decide +kernel
theorem dX7_hasExtension_10 : decode cX7_hasExtension 10 = .ok (.getfield 48, 3) := by decide +kernel
theorem dX7_hasExtension_13 : decode cX7_hasExtension 13 = .ok (.aload_n 0, 1) := by decide +kernel
theorem dX7_hasExtension_14 : decode cX7_hasExtension 14 = .ok (.getfield 10, 3) := by decide +kernel
theorem dX7_hasExtension_17 : decode cX7_hasExtension 17 = .ok (.iload_n 1, 1) := by decide +kernel
theorem dX7_hasExtension_18 : decode cX7_hasExtension 18 = .ok (.invokevirtual 237, 3) := by decide +kernel
theorem dX7_hasExtension_21 : decode cX7_hasExtension 21 = .ok (.putfield 63, 3) := by decide +kernel
theorem dX7_hasExtension_24 : decode cX7_hasExtension 24 = .ok (.aload_n 0, 1) := by decide +kernel
theorem dX7_hasExtension_25 : decode cX7_hasExtension 25 = .ok (.iload_n 1, 1) := by decide +kernel
theorem dX7_hasExtension_26 : decode cX7_hasExtension 26 = .ok (.putfield 59, 3) := by decide +kernel
theorem dX7_hasExtension_29 : decode cX7_hasExtension 29 = .ok (.aload_n 0, 1) := by decide +kernel
theorem dX7_hasExtension_30 : decode cX7_hasExtension 30 = .ok (.getfield 63, 3) := by decide +kernel
theorem dX7_hasExtension_33 : decode cX7_hasExtension 33 = .ok (.ireturn, 1) := by decide +kernel
theorem dX7_isImage_0 : decode cX7_isImage 0 = .ok (.iload_n 0, 1) := by decide +kernel
theorem dX7_isImage_1 : decode cX7_isImage 1 = .ok (.ifCond .lt 12, 3) := by decide +kernel
theorem dX7_isImage_4 : decode cX7_isImage 4 = .ok (.iload_n 0, 1) := by decide +kernel
theorem dX7_isImage_5 : decode cX7_isImage 5 = .ok (.iconst 2, 1) := by decide +kernel
theorem dX7_isImage_6 : decode cX7_isImage 6 = .ok (.if_icmp .ge 7, 3) := by decide +kernel
theorem dX7_isImage_9 : decode cX7_isImage 9 = .ok (.iconst 1, 1) := by decide +kernel
theorem dX7_isImage_10 : decode cX7_isImage 10 = .ok (.goto 4, 3) := by decide +kernel
theorem dX7_isImage_13 : decode cX7_isImage 13 = .ok (.iconst 0, 1) := by decide +kernel
theorem dX7_isImage_14 : decode cX7_isImage 14 = .ok (.ireturn, 1) := by decide +kernel
theorem dX7_isLevelCount_0 : decode cX7_isLevelCount 0 = .ok (.iload_n 0, 1) := by decide +kernel
theorem dX7_isLevelCount_1 : decode cX7_isLevelCount 1 = .ok (.iconst 2, 1) := by decide +kernel
theorem dX7_isLevelCount_2 : decode cX7_isLevelCount 2 = .ok (.if_icmp .lt 13, 3) := by decide +kernel
theorem dX7_isLevelCount_5 : decode cX7_isLevelCount 5 = .ok (.iload_n 0, 1) := by decide +kernel
theorem dX7_isLevelCount_6 : decode cX7_isLevelCount 6 = .ok (.bipush 6, 2) := by decide +kernel
theorem dX7_isLevelCount_8 : decode cX7_isLevelCount 8 = .ok (.if_icmp .gt 7, 3) := by decide +kernel
theorem dX7_isLevelCount_11 : decode cX7_isLevelCount 11 = .ok (.iconst 1, 1) := by decide +kernel
theorem dX7_isLevelCount_12 : decode cX7_isLevelCount 12 = .ok (.goto 4, 3) := by decide +kernel
theorem dX7_isLevelCount_15 : decode cX7_isLevelCount 15 = .ok (.iconst 0, 1) := by decide +kernel
theorem dX7_isLevelCount_16 : decode cX7_isLevelCount 16 = .ok (.ireturn, 1) := by decide +kernel
theorem dX7_areLevelCounts_0 : decode cX7_areLevelCounts 0 = .ok (.iload_n 0, 1) := by decide +kernel
theorem dX7_areLevelCounts_1 : decode cX7_areLevelCounts 1 = .ok (.istore_n 1, 1) := by decide +kernel
theorem dX7_areLevelCounts_2 : decode cX7_areLevelCounts 2 = .ok (.iload_n 1, 1) := by decide +kernel
theorem dX7_areLevelCounts_3 : decode cX7_areLevelCounts 3 = .ok (.ifCond .le 23, 3) := by decide +kernel
theorem dX7_areLevelCounts_6 : decode cX7_areLevelCounts 6 = .ok (.iload_n 1, 1) := by decide +kernel
theorem dX7_areLevelCounts_7 : decode cX7_areLevelCounts 7 = .ok (.bipush 10, 2) := by decide +kernel
theorem dX7_areLevelCounts_9 : decode cX7_areLevelCounts 9 = .ok (.irem, 1) := by decide +kernel
theorem dX7_areLevelCounts_10 : decode cX7_areLevelCounts 10 = .ok (.invokestatic 84, 3) := by decide +kernel
theorem dX7_areLevelCounts_13 : decode cX7_areLevelCounts 13 = .ok (.ifCond .ne 5, 3) := by decide +kernel
theorem dX7_areLevelCounts_16 : decode cX7_areLevelCounts 16 = .ok (.iconst 0, 1) := by decide +kernel
theorem dX7_areLevelCounts_17 : decode cX7_areLevelCounts 17 = .ok (.ireturn, 1) := by decide +kernel
theorem dX7_areLevelCounts_18 : decode cX7_areLevelCounts 18 = .ok (.iload_n 1, 1) := by decide +kernel
theorem dX7_areLevelCounts_19 : decode cX7_areLevelCounts 19 = .ok (.bipush 10, 2) := by decide +kernel
theorem dX7_areLevelCounts_21 : decode cX7_areLevelCounts 21 = .ok (.idiv, 1) := by decide +kernel
theorem dX7_areLevelCounts_22 : decode cX7_areLevelCounts 22 = .ok (.istore_n 1, 1) := by decide +kernel
theorem dX7_areLevelCounts_23 : decode cX7_areLevelCounts 23 = .ok (.goto (-21), 3) := by decide +kernel
theorem dX7_areLevelCounts_26 : decode cX7_areLevelCounts 26 = .ok (.iconst 1, 1) := by decide +kernel
theorem dX7_areLevelCounts_27 : decode cX7_areLevelCounts 27 = .ok (.ireturn, 1) := by decide +kernel
theorem dL_cell_0 : decode cL_cell 0 = .ok (.iload_n 1, 1) := by decide +kernel
theorem dL_cell_1 : decode cL_cell 1 = .ok (.aload_n 0, 1) := by decide +kernel
theorem dL_cell_2 : decode cL_cell 2 = .ok (.arraylength, 1) := by decide +kernel
theorem dL_cell_3 : decode cL_cell 3 = .ok (.if_icmp .ge 9, 3) := by decide +kernel
theorem dL_cell_6 : decode cL_cell 6 = .ok (.aload_n 0, 1) := by decide +kernel
theorem dL_cell_7 : decode cL_cell 7 = .ok (.iload_n 1, 1) := by decide +kernel
theorem dL_cell_8 : decode cL_cell 8 = .ok (.iaload, 1) := by decide +kernel
theorem dL_cell_9 : decode cL_cell 9 = .ok (.goto 9, 3) := by decide +kernel
theorem dL_cell_12 : decode cL_cell 12 = .ok (.ldc 7, 2) := by decide +kernel
theorem dL_cell_14 : decode cL_cell 14 = .ok (.iload_n 1, 1) := by decide +kernel
theorem dL_cell_15 : decode cL_cell 15 = .ok (.iconst 1, 1) := by decide +kernel
theorem dL_cell_16 : decode cL_cell 16 = .ok (.iadd, 1) := by decide +kernel
theorem dL_cell_17 : decode cL_cell 17 = .ok (.imul, 1) := by decide +kernel
theorem dL_cell_18 : decode cL_cell 18 = .ok (.ireturn, 1) := by decide +kernel
theorem dL_low_0 : decode cL_low 0 = .ok (.iload_n 0, 1) := by decide +kernel
theorem dL_low_1 : decode cL_low 1 = .ok (.ldc 8, 2) := by decide +kernel
theorem dL_low_3 : decode cL_low 3 = .ok (.iand, 1) := by decide +kernel
theorem dL_low_4 : decode cL_low 4 = .ok (.iload_n 1, 1) := by decide +kernel
theorem dL_low_5 : decode cL_low 5 = .ok (.irem, 1) := by decide +kernel
theorem dL_low_6 : decode cL_low 6 = .ok (.ireturn, 1) := by decide +kernel
theorem dL_change_0 : decode cL_change 0 = .ok (.aload_n 0, 1) := by decide +kernel
theorem dL_change_1 : decode cL_change 1 = .ok (.iconst 0, 1) := by decide +kernel
theorem dL_change_2 : decode cL_change 2 = .ok (.invokevirtual 9, 3) := by decide +kernel
theorem dL_change_5 : decode cL_change 5 = .ok (.istore_n 3, 1) := by decide +kernel
theorem dL_change_6 : decode cL_change 6 = .ok (.aload_n 0, 1) := by decide +kernel
theorem dL_change_7 : decode cL_change 7 = .ok (.iconst 1, 1) := by decide +kernel
theorem dL_change_8 : decode cL_change 8 = .ok (.invokevirtual 9, 3) := by decide +kernel
theorem dL_change_11 : decode cL_change 11 = .ok (.istore 4, 2) := by decide +kernel
theorem dL_change_13 : decode cL_change 13 = .ok (.iload 4, 2) := by decide +kernel
theorem dL_change_15 : decode cL_change 15 = .ok (.ifCond .ne 7, 3) := by decide +kernel
theorem dL_change_18 : decode cL_change 18 = .ok (.iconst 0, 1) := by decide +kernel
theorem dL_change_19 : decode cL_change 19 = .ok (.goto 11, 3) := by decide +kernel
theorem dL_change_22 : decode cL_change 22 = .ok (.iload_n 1, 1) := by decide +kernel
theorem dL_change_23 : decode cL_change 23 = .ok (.iconst 4, 1) := by decide +kernel
theorem dL_change_24 : decode cL_change 24 = .ok (.ishr, 1) := by decide +kernel
theorem dL_change_25 : decode cL_change 25 = .ok (.iload 4, 2) := by decide +kernel
theorem dL_change_27 : decode cL_change 27 = .ok (.invokestatic 15, 3) := by decide +kernel
theorem dL_change_30 : decode cL_change 30 = .ok (.istore 5, 2) := by decide +kernel
theorem dL_change_32 : decode cL_change 32 = .ok (.iload 4, 2) := by decide +kernel
theorem dL_change_34 : decode cL_change 34 = .ok (.ifCond .ne 7, 3) := by decide +kernel
theorem dL_change_37 : decode cL_change 37 = .ok (.iconst 0, 1) := by decide +kernel
theorem dL_change_38 : decode cL_change 38 = .ok (.goto 12, 3) := by decide +kernel
theorem dL_change_41 : decode cL_change 41 = .ok (.iload_n 1, 1) := by decide +kernel
theorem dL_change_42 : decode cL_change 42 = .ok (.bipush 7, 2) := by decide +kernel
theorem dL_change_44 : decode cL_change 44 = .ok (.ishr, 1) := by decide +kernel
theorem dL_change_45 : decode cL_change 45 = .ok (.iload 4, 2) := by decide +kernel
theorem dL_change_47 : decode cL_change 47 = .ok (.invokestatic 15, 3) := by decide +kernel
theorem dL_change_50 : decode cL_change 50 = .ok (.istore 6, 2) := by decide +kernel
theorem dL_change_52 : decode cL_change 52 = .ok (.iload_n 3, 1) := by decide +kernel
theorem dL_change_53 : decode cL_change 53 = .ok (.ifCond .ne 7, 3) := by decide +kernel
theorem dL_change_56 : decode cL_change 56 = .ok (.iconst 0, 1) := by decide +kernel
theorem dL_change_57 : decode cL_change 57 = .ok (.goto 11, 3) := by decide +kernel
theorem dL_change_60 : decode cL_change 60 = .ok (.iload_n 1, 1) := by decide +kernel
theorem dL_change_61 : decode cL_change 61 = .ok (.bipush 10, 2) := by decide +kernel
theorem dL_change_63 : decode cL_change 63 = .ok (.ishr, 1) := by decide +kernel
theorem dL_change_64 : decode cL_change 64 = .ok (.iload_n 3, 1) := by decide +kernel
theorem dL_change_65 : decode cL_change 65 = .ok (.invokestatic 15, 3) := by decide +kernel
theorem dL_change_68 : decode cL_change 68 = .ok (.istore 7, 2) := by decide +kernel
theorem dL_change_70 : decode cL_change 70 = .ok (.iload_n 1, 1) := by decide +kernel
theorem dL_change_71 : decode cL_change 71 = .ok (.bipush 16, 2) := by decide +kernel
theorem dL_change_73 : decode cL_change 73 = .ok (.invokestatic 15, 3) := by decide +kernel
theorem dL_change_76 : decode cL_change 76 = .ok (.tableswitch 305 0 14 #[76, 104, 116, 135, 135, 149, 156, 176, 200, 208, 231, 242, 247, 257, 293], 76) := by decide +kernel
theorem dL_change_152 : decode cL_change 152 = .ok (.iload_n 2, 1) := by decide +kernel
theorem dL_change_153 : decode cL_change 153 = .ok (.iconst 4, 1) := by decide +kernel
theorem dL_change_154 : decode cL_change 154 = .ok (.invokestatic 15, 3) := by decide +kernel
theorem dL_change_157 : decode cL_change 157 = .ok (.ifCond .ne 18, 3) := by decide +kernel
theorem dL_change_160 : decode cL_change 160 = .ok (.aload_n 0, 1) := by decide +kernel
theorem dL_change_161 : decode cL_change 161 = .ok (.iload_n 2, 1) := by decide +kernel
theorem dL_change_162 : decode cL_change 162 = .ok (.iconst 3, 1) := by decide +kernel
theorem dL_change_163 : decode cL_change 163 = .ok (.ishr, 1) := by decide +kernel
theorem dL_change_164 : decode cL_change 164 = .ok (.bipush 17, 2) := by decide +kernel
theorem dL_change_166 : decode cL_change 166 = .ok (.invokestatic 15, 3) := by decide +kernel
theorem dL_change_169 : decode cL_change 169 = .ok (.invokevirtual 21, 3) := by decide +kernel
theorem dL_change_172 : decode cL_change 172 = .ok (.goto 7, 3) := by decide +kernel
theorem dL_change_175 : decode cL_change 175 = .ok (.aload_n 0, 1) := by decide +kernel
theorem dL_change_176 : decode cL_change 176 = .ok (.invokevirtual 24, 3) := by decide +kernel
theorem dL_change_179 : decode cL_change 179 = .ok (.ireturn, 1) := by decide +kernel
theorem dL_change_180 : decode cL_change 180 = .ok (.aload_n 0, 1) := by decide +kernel
theorem dL_change_181 : decode cL_change 181 = .ok (.iconst 2, 1) := by decide +kernel
theorem dL_change_182 : decode cL_change 182 = .ok (.iload_n 2, 1) := by decide +kernel
theorem dL_change_183 : decode cL_change 183 = .ok (.iconst 3, 1) := by decide +kernel
theorem dL_change_184 : decode cL_change 184 = .ok (.invokestatic 15, 3) := by decide +kernel
theorem dL_change_187 : decode cL_change 187 = .ok (.iadd, 1) := by decide +kernel
theorem dL_change_188 : decode cL_change 188 = .ok (.invokevirtual 28, 3) := by decide +kernel
theorem dL_change_191 : decode cL_change 191 = .ok (.ireturn, 1) := by decide +kernel
theorem dL_change_192 : decode cL_change 192 = .ok (.iload_n 2, 1) := by decide +kernel
theorem dL_change_193 : decode cL_change 193 = .ok (.iconst 3, 1) := by decide +kernel
theorem dL_change_194 : decode cL_change 194 = .ok (.invokestatic 15, 3) := by decide +kernel
theorem dL_change_197 : decode cL_change 197 = .ok (.ifCond .ne 12, 3) := by decide +kernel
theorem dL_change_200 : decode cL_change 200 = .ok (.aload_n 0, 1) := by decide +kernel
theorem dL_change_201 : decode cL_change 201 = .ok (.iload 5, 2) := by decide +kernel
theorem dL_change_203 : decode cL_change 203 = .ok (.invokevirtual 31, 3) := by decide +kernel
theorem dL_change_206 : decode cL_change 206 = .ok (.goto 4, 3) := by decide +kernel
theorem dL_change_209 : decode cL_change 209 = .ok (.iconst (-1), 1) := by decide +kernel
theorem dL_change_210 : decode cL_change 210 = .ok (.ireturn, 1) := by decide +kernel
theorem dL_change_211 : decode cL_change 211 = .ok (.aload_n 0, 1) := by decide +kernel
theorem dL_change_212 : decode cL_change 212 = .ok (.iload 7, 2) := by decide +kernel
theorem dL_change_214 : decode cL_change 214 = .ok (.iload 5, 2) := by decide +kernel
theorem dL_change_216 : decode cL_change 216 = .ok (.iload_n 2, 1) := by decide +kernel
theorem dL_change_217 : decode cL_change 217 = .ok (.iconst 4, 1) := by decide +kernel
theorem dL_change_218 : decode cL_change 218 = .ok (.invokestatic 15, 3) := by decide +kernel
theorem dL_change_221 : decode cL_change 221 = .ok (.invokevirtual 34, 3) := by decide +kernel
theorem dL_change_224 : decode cL_change 224 = .ok (.ireturn, 1) := by decide +kernel
theorem dL_change_225 : decode cL_change 225 = .ok (.aload_n 0, 1) := by decide +kernel
theorem dL_change_226 : decode cL_change 226 = .ok (.iload 7, 2) := by decide +kernel
theorem dL_change_228 : decode cL_change 228 = .ok (.invokevirtual 38, 3) := by decide +kernel
theorem dL_change_231 : decode cL_change 231 = .ok (.ireturn, 1) := by decide +kernel
theorem dL_change_232 : decode cL_change 232 = .ok (.iload_n 2, 1) := by decide +kernel
theorem dL_change_233 : decode cL_change 233 = .ok (.iconst 2, 1) := by decide +kernel
theorem dL_change_234 : decode cL_change 234 = .ok (.invokestatic 15, 3) := by decide +kernel
theorem dL_change_237 : decode cL_change 237 = .ok (.ifCond .ne 10, 3) := by decide +kernel
theorem dL_change_240 : decode cL_change 240 = .ok (.aload_n 0, 1) := by decide +kernel
theorem dL_change_241 : decode cL_change 241 = .ok (.invokevirtual 41, 3) := by decide +kernel
theorem dL_change_244 : decode cL_change 244 = .ok (.goto 7, 3) := by decide +kernel
theorem dL_change_247 : decode cL_change 247 = .ok (.aload_n 0, 1) := by decide +kernel
theorem dL_change_248 : decode cL_change 248 = .ok (.invokevirtual 44, 3) := by decide +kernel
theorem dL_change_251 : decode cL_change 251 = .ok (.ireturn, 1) := by decide +kernel
theorem dL_change_252 : decode cL_change 252 = .ok (.aload_n 0, 1) := by decide +kernel
theorem dL_change_253 : decode cL_change 253 = .ok (.bipush 22, 2) := by decide +kernel
theorem dL_change_255 : decode cL_change 255 = .ok (.bipush 10, 2) := by decide +kernel
theorem dL_change_257 : decode cL_change 257 = .ok (.iload_n 2, 1) := by decide +kernel
theorem dL_change_258 : decode cL_change 258 = .ok (.iconst 2, 1) := by decide +kernel
theorem dL_change_259 : decode cL_change 259 = .ok (.invokestatic 15, 3) := by decide +kernel
theorem dL_change_262 : decode cL_change 262 = .ok (.imul, 1) := by decide +kernel
theorem dL_change_263 : decode cL_change 263 = .ok (.iadd, 1) := by decide +kernel
theorem dL_change_264 : decode cL_change 264 = .ok (.iload_n 2, 1) := by decide +kernel
theorem dL_change_265 : decode cL_change 265 = .ok (.iconst 2, 1) := by decide +kernel
theorem dL_change_266 : decode cL_change 266 = .ok (.ishr, 1) := by decide +kernel
theorem dL_change_267 : decode cL_change 267 = .ok (.iconst 3, 1) := by decide +kernel
theorem dL_change_268 : decode cL_change 268 = .ok (.invokestatic 15, 3) := by decide +kernel
theorem dL_change_271 : decode cL_change 271 = .ok (.iadd, 1) := by decide +kernel
theorem dL_change_272 : decode cL_change 272 = .ok (.invokevirtual 47, 3) := by decide +kernel
theorem dL_change_275 : decode cL_change 275 = .ok (.ireturn, 1) := by decide +kernel
theorem dL_change_276 : decode cL_change 276 = .ok (.aload_n 0, 1) := by decide +kernel
theorem dL_change_277 : decode cL_change 277 = .ok (.sipush 222, 3) := by decide +kernel
theorem dL_change_280 : decode cL_change 280 = .ok (.invokevirtual 47, 3) := by decide +kernel
theorem dL_change_283 : decode cL_change 283 = .ok (.ireturn, 1) := by decide +kernel
theorem dL_change_284 : decode cL_change 284 = .ok (.aload_n 0, 1) := by decide +kernel
theorem dL_change_285 : decode cL_change 285 = .ok (.iload 5, 2) := by decide +kernel
theorem dL_change_287 : decode cL_change 287 = .ok (.iload_n 2, 1) := by decide +kernel
theorem dL_change_288 : decode cL_change 288 = .ok (.bipush 6, 2) := by decide +kernel
theorem dL_change_290 : decode cL_change 290 = .ok (.invokestatic 15, 3) := by decide +kernel
theorem dL_change_293 : decode cL_change 293 = .ok (.iload 6, 2) := by decide +kernel
theorem dL_change_295 : decode cL_change 295 = .ok (.iload_n 2, 1) := by decide +kernel
theorem dL_change_296 : decode cL_change 296 = .ok (.iconst 4, 1) := by decide +kernel
theorem dL_change_297 : decode cL_change 297 = .ok (.ishr, 1) := by decide +kernel
theorem dL_change_298 : decode cL_change 298 = .ok (.bipush 6, 2) := by decide +kernel
theorem dL_change_300 : decode cL_change 300 = .ok (.invokestatic 15, 3) := by decide +kernel
theorem dL_change_303 : decode cL_change 303 = .ok (.invokevirtual 50, 3) := by decide +kernel
theorem dL_change_306 : decode cL_change 306 = .ok (.ireturn, 1) := by decide +kernel
theorem dL_change_307 : decode cL_change 307 = .ok (.aload_n 0, 1) := by decide +kernel
theorem dL_change_308 : decode cL_change 308 = .ok (.iload 5, 2) := by decide +kernel
theorem dL_change_310 : decode cL_change 310 = .ok (.iconst 1, 1) := by decide +kernel
theorem dL_change_311 : decode cL_change 311 = .ok (.iload 6, 2) := by decide +kernel
theorem dL_change_313 : decode cL_change 313 = .ok (.iconst 1, 1) := by decide +kernel
theorem dL_change_314 : decode cL_change 314 = .ok (.invokevirtual 50, 3) := by decide +kernel
theorem dL_change_317 : decode cL_change 317 = .ok (.ireturn, 1) := by decide +kernel
theorem dL_change_318 : decode cL_change 318 = .ok (.aload_n 0, 1) := by decide +kernel
theorem dL_change_319 : decode cL_change 319 = .ok (.invokevirtual 54, 3) := by decide +kernel
theorem dL_change_322 : decode cL_change 322 = .ok (.ireturn, 1) := by decide +kernel
theorem dL_change_323 : decode cL_change 323 = .ok (.aload_n 0, 1) := by decide +kernel
theorem dL_change_324 : decode cL_change 324 = .ok (.iload_n 2, 1) := by decide +kernel
theorem dL_change_325 : decode cL_change 325 = .ok (.iconst 2, 1) := by decide +kernel
theorem dL_change_326 : decode cL_change 326 = .ok (.invokestatic 15, 3) := by decide +kernel
theorem dL_change_329 : decode cL_change 329 = .ok (.invokevirtual 57, 3) := by decide +kernel
theorem dL_change_332 : decode cL_change 332 = .ok (.ireturn, 1) := by decide +kernel
theorem dL_change_333 : decode cL_change 333 = .ok (.iload_n 2, 1) := by decide +kernel
theorem dL_change_334 : decode cL_change 334 = .ok (.iconst 3, 1) := by decide +kernel
theorem dL_change_335 : decode cL_change 335 = .ok (.invokestatic 15, 3) := by decide +kernel
theorem dL_change_338 : decode cL_change 338 = .ok (.ifCond .ne 17, 3) := by decide +kernel
theorem dL_change_341 : decode cL_change 341 = .ok (.aload_n 0, 1) := by decide +kernel
theorem dL_change_342 : decode cL_change 342 = .ok (.iload_n 2, 1) := by decide +kernel
theorem dL_change_343 : decode cL_change 343 = .ok (.iconst 2, 1) := by decide +kernel
theorem dL_change_344 : decode cL_change 344 = .ok (.ishr, 1) := by decide +kernel
theorem dL_change_345 : decode cL_change 345 = .ok (.iconst 2, 1) := by decide +kernel
theorem dL_change_346 : decode cL_change 346 = .ok (.invokestatic 15, 3) := by decide +kernel
theorem dL_change_349 : decode cL_change 349 = .ok (.invokevirtual 60, 3) := by decide +kernel
theorem dL_change_352 : decode cL_change 352 = .ok (.goto 16, 3) := by decide +kernel
theorem dL_change_355 : decode cL_change 355 = .ok (.aload_n 0, 1) := by decide +kernel
theorem dL_change_356 : decode cL_change 356 = .ok (.iload 5, 2) := by decide +kernel
theorem dL_change_358 : decode cL_change 358 = .ok (.iload_n 2, 1) := by decide +kernel
theorem dL_change_359 : decode cL_change 359 = .ok (.iconst 2, 1) := by decide +kernel
theorem dL_change_360 : decode cL_change 360 = .ok (.ishr, 1) := by decide +kernel
theorem dL_change_361 : decode cL_change 361 = .ok (.iconst 2, 1) := by decide +kernel
theorem dL_change_362 : decode cL_change 362 = .ok (.invokestatic 15, 3) := by decide +kernel
theorem dL_change_365 : decode cL_change 365 = .ok (.invokevirtual 63, 3) := by decide +kernel
theorem dL_change_368 : decode cL_change 368 = .ok (.ireturn, 1) := by decide +kernel
theorem dL_change_369 : decode cL_change 369 = .ok (.aload_n 0, 1) := by decide +kernel
theorem dL_change_370 : decode cL_change 370 = .ok (.iconst 2, 1) := by decide +kernel
theorem dL_change_371 : decode cL_change 371 = .ok (.iload_n 2, 1) := by decide +kernel
theorem dL_change_372 : decode cL_change 372 = .ok (.iconst 2, 1) := by decide +kernel
theorem dL_change_373 : decode cL_change 373 = .ok (.invokestatic 15, 3) := by decide +kernel
theorem dL_change_376 : decode cL_change 376 = .ok (.iadd, 1) := by decide +kernel
theorem dL_change_377 : decode cL_change 377 = .ok (.invokevirtual 66, 3) := by decide +kernel
theorem dL_change_380 : decode cL_change 380 = .ok (.ireturn, 1) := by decide +kernel
theorem dL_change_381 : decode cL_change 381 = .ok (.aload_n 0, 1) := by decide +kernel
theorem dL_change_382 : decode cL_change 382 = .ok (.invokevirtual 24, 3) := by decide +kernel
theorem dL_change_385 : decode cL_change 385 = .ok (.ireturn, 1) := by decide +kernel
theorem dL_size_0 : decode cL_size 0 = .ok (.iconst 0, 1) := by decide +kernel
theorem dL_size_1 : decode cL_size 1 = .ok (.istore_n 1, 1) := by decide +kernel
theorem dL_size_2 : decode cL_size 2 = .ok (.iconst 0, 1) := by decide +kernel
theorem dL_size_3 : decode cL_size 3 = .ok (.istore_n 2, 1) := by decide +kernel
theorem dL_size_4 : decode cL_size 4 = .ok (.iload_n 2, 1) := by decide +kernel
theorem dL_size_5 : decode cL_size 5 = .ok (.bipush 7, 2) := by decide +kernel
theorem dL_size_7 : decode cL_size 7 = .ok (.if_icmp .ge 17, 3) := by decide +kernel
theorem dL_size_10 : decode cL_size 10 = .ok (.iload_n 1, 1) := by decide +kernel
theorem dL_size_11 : decode cL_size 11 = .ok (.iload_n 0, 1) := by decide +kernel
theorem dL_size_12 : decode cL_size 12 = .ok (.iload_n 2, 1) := by decide +kernel
theorem dL_size_13 : decode cL_size 13 = .ok (.ishr, 1) := by decide +kernel
theorem dL_size_14 : decode cL_size 14 = .ok (.iconst 1, 1) := by decide +kernel
theorem dL_size_15 : decode cL_size 15 = .ok (.iand, 1) := by decide +kernel
theorem dL_size_16 : decode cL_size 16 = .ok (.iadd, 1) := by decide +kernel
theorem dL_size_17 : decode cL_size 17 = .ok (.istore_n 1, 1) := by decide +kernel
theorem dL_size_18 : decode cL_size 18 = .ok (.iinc 2 1, 3) := by decide +kernel
theorem dL_size_21 : decode cL_size 21 = .ok (.goto (-17), 3) := by decide +kernel
theorem dL_size_24 : decode cL_size 24 = .ok (.iload_n 1, 1) := by decide +kernel
theorem dL_size_25 : decode cL_size 25 = .ok (.ireturn, 1) := by decide +kernel
theorem dL_isAudited_0 : decode cL_isAudited 0 = .ok (.aload_n 0, 1) := by decide +kernel
theorem dL_isAudited_1 : decode cL_isAudited 1 = .ok (.iconst 1, 1) := by decide +kernel
theorem dL_isAudited_2 : decode cL_isAudited 2 = .ok (.invokevirtual 9, 3) := by decide +kernel
theorem dL_isAudited_5 : decode cL_isAudited 5 = .ok (.istore_n 2, 1) := by decide +kernel
theorem dL_isAudited_6 : decode cL_isAudited 6 = .ok (.iconst 0, 1) := by decide +kernel
theorem dL_isAudited_7 : decode cL_isAudited 7 = .ok (.istore_n 3, 1) := by decide +kernel
theorem dL_isAudited_8 : decode cL_isAudited 8 = .ok (.bipush (-9), 2) := by decide +kernel
theorem dL_isAudited_10 : decode cL_isAudited 10 = .ok (.istore 4, 2) := by decide +kernel
theorem dL_isAudited_12 : decode cL_isAudited 12 = .ok (.iconst 0, 1) := by decide +kernel
theorem dL_isAudited_13 : decode cL_isAudited 13 = .ok (.istore 5, 2) := by decide +kernel
theorem dL_isAudited_15 : decode cL_isAudited 15 = .ok (.bipush 36, 2) := by decide +kernel
theorem dL_isAudited_17 : decode cL_isAudited 17 = .ok (.istore 6, 2) := by decide +kernel
theorem dL_isAudited_19 : decode cL_isAudited 19 = .ok (.iconst 0, 1) := by decide +kernel
theorem dL_isAudited_20 : decode cL_isAudited 20 = .ok (.istore 7, 2) := by decide +kernel
theorem dL_isAudited_22 : decode cL_isAudited 22 = .ok (.iload 7, 2) := by decide +kernel
theorem dL_isAudited_24 : decode cL_isAudited 24 = .ok (.iconst 1, 1) := by decide +kernel
theorem dL_isAudited_25 : decode cL_isAudited 25 = .ok (.iload_n 2, 1) := by decide +kernel
theorem dL_isAudited_26 : decode cL_isAudited 26 = .ok (.ishl, 1) := by decide +kernel
theorem dL_isAudited_27 : decode cL_isAudited 27 = .ok (.if_icmp .ge 182, 3) := by decide +kernel
theorem dL_isAudited_30 : decode cL_isAudited 30 = .ok (.iload 7, 2) := by decide +kernel
theorem dL_isAudited_32 : decode cL_isAudited 32 = .ok (.invokestatic 69, 3) := by decide +kernel
theorem dL_isAudited_35 : decode cL_isAudited 35 = .ok (.iload_n 1, 1) := by decide +kernel
theorem dL_isAudited_36 : decode cL_isAudited 36 = .ok (.if_icmp .ne 167, 3) := by decide +kernel
theorem dL_isAudited_39 : decode cL_isAudited 39 = .ok (.iconst 0, 1) := by decide +kernel
theorem dL_isAudited_40 : decode cL_isAudited 40 = .ok (.istore 8, 2) := by decide +kernel
theorem dL_isAudited_42 : decode cL_isAudited 42 = .ok (.iconst 0, 1) := by decide +kernel
theorem dL_isAudited_43 : decode cL_isAudited 43 = .ok (.istore 9, 2) := by decide +kernel
theorem dL_isAudited_45 : decode cL_isAudited 45 = .ok (.bipush 36, 2) := by decide +kernel
theorem dL_isAudited_47 : decode cL_isAudited 47 = .ok (.istore 10, 2) := by decide +kernel
theorem dL_isAudited_49 : decode cL_isAudited 49 = .ok (.iconst 0, 1) := by decide +kernel
theorem dL_isAudited_50 : decode cL_isAudited 50 = .ok (.istore 11, 2) := by decide +kernel
theorem dL_isAudited_52 : decode cL_isAudited 52 = .ok (.aload_n 0, 1) := by decide +kernel
theorem dL_isAudited_53 : decode cL_isAudited 53 = .ok (.iload 7, 2) := by decide +kernel
theorem dL_isAudited_55 : decode cL_isAudited 55 = .ok (.iload 11, 2) := by decide +kernel
theorem dL_isAudited_57 : decode cL_isAudited 57 = .ok (.invokevirtual 72, 3) := by decide +kernel
theorem dL_isAudited_60 : decode cL_isAudited 60 = .ok (.ifCond .lt 61, 3) := by decide +kernel
theorem dL_isAudited_63 : decode cL_isAudited 63 = .ok (.aload_n 0, 1) := by decide +kernel
theorem dL_isAudited_64 : decode cL_isAudited 64 = .ok (.iload 7, 2) := by decide +kernel
theorem dL_isAudited_66 : decode cL_isAudited 66 = .ok (.iload 11, 2) := by decide +kernel
theorem dL_isAudited_68 : decode cL_isAudited 68 = .ok (.invokevirtual 72, 3) := by decide +kernel
theorem dL_isAudited_71 : decode cL_isAudited 71 = .ok (.istore 12, 2) := by decide +kernel
theorem dL_isAudited_73 : decode cL_isAudited 73 = .ok (.iload 8, 2) := by decide +kernel
theorem dL_isAudited_75 : decode cL_isAudited 75 = .ok (.iload 12, 2) := by decide +kernel
theorem dL_isAudited_77 : decode cL_isAudited 77 = .ok (.iadd, 1) := by decide +kernel
theorem dL_isAudited_78 : decode cL_isAudited 78 = .ok (.istore 8, 2) := by decide +kernel
theorem dL_isAudited_80 : decode cL_isAudited 80 = .ok (.iload 12, 2) := by decide +kernel
theorem dL_isAudited_82 : decode cL_isAudited 82 = .ok (.iload 9, 2) := by decide +kernel
theorem dL_isAudited_84 : decode cL_isAudited 84 = .ok (.if_icmp .le 8, 3) := by decide +kernel
theorem dL_isAudited_87 : decode cL_isAudited 87 = .ok (.iload 12, 2) := by decide +kernel
theorem dL_isAudited_89 : decode cL_isAudited 89 = .ok (.goto 5, 3) := by decide +kernel
theorem dL_isAudited_92 : decode cL_isAudited 92 = .ok (.iload 9, 2) := by decide +kernel
theorem dL_isAudited_94 : decode cL_isAudited 94 = .ok (.istore 9, 2) := by decide +kernel
theorem dL_isAudited_96 : decode cL_isAudited 96 = .ok (.iload 12, 2) := by decide +kernel
theorem dL_isAudited_98 : decode cL_isAudited 98 = .ok (.iload 10, 2) := by decide +kernel
theorem dL_isAudited_100 : decode cL_isAudited 100 = .ok (.if_icmp .ge 8, 3) := by decide +kernel
theorem dL_isAudited_103 : decode cL_isAudited 103 = .ok (.iload 12, 2) := by decide +kernel
theorem dL_isAudited_105 : decode cL_isAudited 105 = .ok (.goto 5, 3) := by decide +kernel
theorem dL_isAudited_108 : decode cL_isAudited 108 = .ok (.iload 10, 2) := by decide +kernel
theorem dL_isAudited_110 : decode cL_isAudited 110 = .ok (.istore 10, 2) := by decide +kernel
theorem dL_isAudited_112 : decode cL_isAudited 112 = .ok (.iload 11, 2) := by decide +kernel
theorem dL_isAudited_114 : decode cL_isAudited 114 = .ok (.iconst 1, 1) := by decide +kernel
theorem dL_isAudited_115 : decode cL_isAudited 115 = .ok (.iadd, 1) := by decide +kernel
theorem dL_isAudited_116 : decode cL_isAudited 116 = .ok (.istore 11, 2) := by decide +kernel
theorem dL_isAudited_118 : decode cL_isAudited 118 = .ok (.goto (-66), 3) := by decide +kernel
theorem dL_isAudited_121 : decode cL_isAudited 121 = .ok (.iload 8, 2) := by decide +kernel
theorem dL_isAudited_123 : decode cL_isAudited 123 = .ok (.aload_n 0, 1) := by decide +kernel
theorem dL_isAudited_124 : decode cL_isAudited 124 = .ok (.iconst 0, 1) := by decide +kernel
theorem dL_isAudited_125 : decode cL_isAudited 125 = .ok (.invokevirtual 9, 3) := by decide +kernel
theorem dL_isAudited_128 : decode cL_isAudited 128 = .ok (.if_icmp .eq 5, 3) := by decide +kernel
theorem dL_isAudited_131 : decode cL_isAudited 131 = .ok (.iconst 0, 1) := by decide +kernel
theorem dL_isAudited_132 : decode cL_isAudited 132 = .ok (.ireturn, 1) := by decide +kernel
theorem dL_isAudited_133 : decode cL_isAudited 133 = .ok (.iload 9, 2) := by decide +kernel
theorem dL_isAudited_135 : decode cL_isAudited 135 = .ok (.iload 10, 2) := by decide +kernel
theorem dL_isAudited_137 : decode cL_isAudited 137 = .ok (.if_icmp .ne 7, 3) := by decide +kernel
theorem dL_isAudited_140 : decode cL_isAudited 140 = .ok (.iload_n 3, 1) := by decide +kernel
theorem dL_isAudited_141 : decode cL_isAudited 141 = .ok (.goto 6, 3) := by decide +kernel
theorem dL_isAudited_144 : decode cL_isAudited 144 = .ok (.iload_n 3, 1) := by decide +kernel
theorem dL_isAudited_145 : decode cL_isAudited 145 = .ok (.iconst 1, 1) := by decide +kernel
theorem dL_isAudited_146 : decode cL_isAudited 146 = .ok (.iadd, 1) := by decide +kernel
theorem dL_isAudited_147 : decode cL_isAudited 147 = .ok (.istore_n 3, 1) := by decide +kernel
theorem dL_isAudited_148 : decode cL_isAudited 148 = .ok (.iload 9, 2) := by decide +kernel
theorem dL_isAudited_150 : decode cL_isAudited 150 = .ok (.iload 10, 2) := by decide +kernel
theorem dL_isAudited_152 : decode cL_isAudited 152 = .ok (.if_icmp .eq 15, 3) := by decide +kernel
theorem dL_isAudited_155 : decode cL_isAudited 155 = .ok (.iload 4, 2) := by decide +kernel
theorem dL_isAudited_157 : decode cL_isAudited 157 = .ok (.bipush (-9), 2) := by decide +kernel
theorem dL_isAudited_159 : decode cL_isAudited 159 = .ok (.if_icmp .ne 8, 3) := by decide +kernel
theorem dL_isAudited_162 : decode cL_isAudited 162 = .ok (.iload 7, 2) := by decide +kernel
theorem dL_isAudited_164 : decode cL_isAudited 164 = .ok (.goto 5, 3) := by decide +kernel
theorem dL_isAudited_167 : decode cL_isAudited 167 = .ok (.iload 4, 2) := by decide +kernel
theorem dL_isAudited_169 : decode cL_isAudited 169 = .ok (.istore 4, 2) := by decide +kernel
theorem dL_isAudited_171 : decode cL_isAudited 171 = .ok (.iload 9, 2) := by decide +kernel
theorem dL_isAudited_173 : decode cL_isAudited 173 = .ok (.iload 5, 2) := by decide +kernel
theorem dL_isAudited_175 : decode cL_isAudited 175 = .ok (.if_icmp .le 8, 3) := by decide +kernel
theorem dL_isAudited_178 : decode cL_isAudited 178 = .ok (.iload 9, 2) := by decide +kernel
theorem dL_isAudited_180 : decode cL_isAudited 180 = .ok (.goto 5, 3) := by decide +kernel
theorem dL_isAudited_183 : decode cL_isAudited 183 = .ok (.iload 5, 2) := by decide +kernel
theorem dL_isAudited_185 : decode cL_isAudited 185 = .ok (.istore 5, 2) := by decide +kernel
theorem dL_isAudited_187 : decode cL_isAudited 187 = .ok (.iload 10, 2) := by decide +kernel
theorem dL_isAudited_189 : decode cL_isAudited 189 = .ok (.iload 6, 2) := by decide +kernel
theorem dL_isAudited_191 : decode cL_isAudited 191 = .ok (.if_icmp .ge 8, 3) := by decide +kernel
theorem dL_isAudited_194 : decode cL_isAudited 194 = .ok (.iload 10, 2) := by decide +kernel
theorem dL_isAudited_196 : decode cL_isAudited 196 = .ok (.goto 5, 3) := by decide +kernel
theorem dL_isAudited_199 : decode cL_isAudited 199 = .ok (.iload 6, 2) := by decide +kernel
theorem dL_isAudited_201 : decode cL_isAudited 201 = .ok (.istore 6, 2) := by decide +kernel
theorem dL_isAudited_203 : decode cL_isAudited 203 = .ok (.iinc 7 1, 3) := by decide +kernel
theorem dL_isAudited_206 : decode cL_isAudited 206 = .ok (.goto (-184), 3) := by decide +kernel
theorem dL_isAudited_209 : decode cL_isAudited 209 = .ok (.aload_n 0, 1) := by decide +kernel
theorem dL_isAudited_210 : decode cL_isAudited 210 = .ok (.iload_n 1, 1) := by decide +kernel
theorem dL_isAudited_211 : decode cL_isAudited 211 = .ok (.iconst 0, 1) := by decide +kernel
theorem dL_isAudited_212 : decode cL_isAudited 212 = .ok (.invokevirtual 75, 3) := by decide +kernel
theorem dL_isAudited_215 : decode cL_isAudited 215 = .ok (.iload_n 3, 1) := by decide +kernel
theorem dL_isAudited_216 : decode cL_isAudited 216 = .ok (.if_icmp .ne 40, 3) := by decide +kernel
theorem dL_isAudited_219 : decode cL_isAudited 219 = .ok (.aload_n 0, 1) := by decide +kernel
theorem dL_isAudited_220 : decode cL_isAudited 220 = .ok (.iload_n 1, 1) := by decide +kernel
theorem dL_isAudited_221 : decode cL_isAudited 221 = .ok (.iconst 1, 1) := by decide +kernel
theorem dL_isAudited_222 : decode cL_isAudited 222 = .ok (.invokevirtual 75, 3) := by decide +kernel
theorem dL_isAudited_225 : decode cL_isAudited 225 = .ok (.iload 4, 2) := by decide +kernel
theorem dL_isAudited_227 : decode cL_isAudited 227 = .ok (.if_icmp .ne 29, 3) := by decide +kernel
theorem dL_isAudited_230 : decode cL_isAudited 230 = .ok (.aload_n 0, 1) := by decide +kernel
theorem dL_isAudited_231 : decode cL_isAudited 231 = .ok (.iload_n 1, 1) := by decide +kernel
theorem dL_isAudited_232 : decode cL_isAudited 232 = .ok (.iconst 2, 1) := by decide +kernel
theorem dL_isAudited_233 : decode cL_isAudited 233 = .ok (.invokevirtual 75, 3) := by decide +kernel
theorem dL_isAudited_236 : decode cL_isAudited 236 = .ok (.iload 5, 2) := by decide +kernel
theorem dL_isAudited_238 : decode cL_isAudited 238 = .ok (.if_icmp .ne 18, 3) := by decide +kernel
theorem dL_isAudited_241 : decode cL_isAudited 241 = .ok (.aload_n 0, 1) := by decide +kernel
theorem dL_isAudited_242 : decode cL_isAudited 242 = .ok (.iload_n 1, 1) := by decide +kernel
theorem dL_isAudited_243 : decode cL_isAudited 243 = .ok (.iconst 3, 1) := by decide +kernel
theorem dL_isAudited_244 : decode cL_isAudited 244 = .ok (.invokevirtual 75, 3) := by decide +kernel
theorem dL_isAudited_247 : decode cL_isAudited 247 = .ok (.iload 6, 2) := by decide +kernel
theorem dL_isAudited_249 : decode cL_isAudited 249 = .ok (.if_icmp .ne 7, 3) := by decide +kernel
theorem dL_isAudited_252 : decode cL_isAudited 252 = .ok (.iconst 1, 1) := by decide +kernel
theorem dL_isAudited_253 : decode cL_isAudited 253 = .ok (.goto 4, 3) := by decide +kernel
theorem dL_isAudited_256 : decode cL_isAudited 256 = .ok (.iconst 0, 1) := by decide +kernel
theorem dL_isAudited_257 : decode cL_isAudited 257 = .ok (.ireturn, 1) := by decide +kernel
theorem dL_isStrong_0 : decode cL_isStrong 0 = .ok (.aload_n 0, 1) := by decide +kernel
theorem dL_isStrong_1 : decode cL_isStrong 1 = .ok (.iconst 2, 1) := by decide +kernel
theorem dL_isStrong_2 : decode cL_isStrong 2 = .ok (.invokevirtual 9, 3) := by decide +kernel
theorem dL_isStrong_5 : decode cL_isStrong 5 = .ok (.istore_n 1, 1) := by decide +kernel
theorem dL_isStrong_6 : decode cL_isStrong 6 = .ok (.aload_n 0, 1) := by decide +kernel
theorem dL_isStrong_7 : decode cL_isStrong 7 = .ok (.iconst 1, 1) := by decide +kernel
theorem dL_isStrong_8 : decode cL_isStrong 8 = .ok (.invokevirtual 9, 3) := by decide +kernel
theorem dL_isStrong_11 : decode cL_isStrong 11 = .ok (.istore_n 2, 1) := by decide +kernel
theorem dL_isStrong_12 : decode cL_isStrong 12 = .ok (.iload_n 1, 1) := by decide +kernel
theorem dL_isStrong_13 : decode cL_isStrong 13 = .ok (.ifCond .lt 37, 3) := by decide +kernel
theorem dL_isStrong_16 : decode cL_isStrong 16 = .ok (.iload_n 1, 1) := by decide +kernel
theorem dL_isStrong_17 : decode cL_isStrong 17 = .ok (.iload_n 2, 1) := by decide +kernel
theorem dL_isStrong_18 : decode cL_isStrong 18 = .ok (.if_icmp .gt 32, 3) := by decide +kernel
theorem dL_isStrong_21 : decode cL_isStrong 21 = .ok (.aload_n 0, 1) := by decide +kernel
theorem dL_isStrong_22 : decode cL_isStrong 22 = .ok (.iload_n 1, 1) := by decide +kernel
theorem dL_isStrong_23 : decode cL_isStrong 23 = .ok (.iconst 0, 1) := by decide +kernel
theorem dL_isStrong_24 : decode cL_isStrong 24 = .ok (.invokevirtual 75, 3) := by decide +kernel
theorem dL_isStrong_27 : decode cL_isStrong 27 = .ok (.ifCond .ne 23, 3) := by decide +kernel
theorem dL_isStrong_30 : decode cL_isStrong 30 = .ok (.iload_n 1, 1) := by decide +kernel
theorem dL_isStrong_31 : decode cL_isStrong 31 = .ok (.iload_n 2, 1) := by decide +kernel
theorem dL_isStrong_32 : decode cL_isStrong 32 = .ok (.if_icmp .eq 14, 3) := by decide +kernel
theorem dL_isStrong_35 : decode cL_isStrong 35 = .ok (.aload_n 0, 1) := by decide +kernel
theorem dL_isStrong_36 : decode cL_isStrong 36 = .ok (.iload_n 1, 1) := by decide +kernel
theorem dL_isStrong_37 : decode cL_isStrong 37 = .ok (.iconst 1, 1) := by decide +kernel
theorem dL_isStrong_38 : decode cL_isStrong 38 = .ok (.iadd, 1) := by decide +kernel
theorem dL_isStrong_39 : decode cL_isStrong 39 = .ok (.iconst 0, 1) := by decide +kernel
theorem dL_isStrong_40 : decode cL_isStrong 40 = .ok (.invokevirtual 75, 3) := by decide +kernel
theorem dL_isStrong_43 : decode cL_isStrong 43 = .ok (.ifCond .le 7, 3) := by decide +kernel
theorem dL_isStrong_46 : decode cL_isStrong 46 = .ok (.iconst 1, 1) := by decide +kernel
theorem dL_isStrong_47 : decode cL_isStrong 47 = .ok (.goto 4, 3) := by decide +kernel
theorem dL_isStrong_50 : decode cL_isStrong 50 = .ok (.iconst 0, 1) := by decide +kernel
theorem dL_isStrong_51 : decode cL_isStrong 51 = .ok (.istore_n 3, 1) := by decide +kernel
theorem dL_isStrong_52 : decode cL_isStrong 52 = .ok (.iload_n 1, 1) := by decide +kernel
theorem dL_isStrong_53 : decode cL_isStrong 53 = .ok (.iconst 2, 1) := by decide +kernel
theorem dL_isStrong_54 : decode cL_isStrong 54 = .ok (.if_icmp .lt 49, 3) := by decide +kernel
theorem dL_isStrong_57 : decode cL_isStrong 57 = .ok (.aload_n 0, 1) := by decide +kernel
theorem dL_isStrong_58 : decode cL_isStrong 58 = .ok (.iconst 0, 1) := by decide +kernel
theorem dL_isStrong_59 : decode cL_isStrong 59 = .ok (.invokevirtual 9, 3) := by decide +kernel
theorem dL_isStrong_62 : decode cL_isStrong 62 = .ok (.ifCond .le 41, 3) := by decide +kernel
theorem dL_isStrong_65 : decode cL_isStrong 65 = .ok (.iload_n 3, 1) := by decide +kernel
theorem dL_isStrong_66 : decode cL_isStrong 66 = .ok (.ifCond .eq 35, 3) := by decide +kernel
theorem dL_isStrong_69 : decode cL_isStrong 69 = .ok (.aload_n 0, 1) := by decide +kernel
theorem dL_isStrong_70 : decode cL_isStrong 70 = .ok (.iconst 0, 1) := by decide +kernel
theorem dL_isStrong_71 : decode cL_isStrong 71 = .ok (.invokevirtual 9, 3) := by decide +kernel
theorem dL_isStrong_74 : decode cL_isStrong 74 = .ok (.aload_n 0, 1) := by decide +kernel
theorem dL_isStrong_75 : decode cL_isStrong 75 = .ok (.bipush 6, 2) := by decide +kernel
theorem dL_isStrong_77 : decode cL_isStrong 77 = .ok (.invokevirtual 9, 3) := by decide +kernel
theorem dL_isStrong_80 : decode cL_isStrong 80 = .ok (.irem, 1) := by decide +kernel
theorem dL_isStrong_81 : decode cL_isStrong 81 = .ok (.ifCond .ne 20, 3) := by decide +kernel
theorem dL_isStrong_84 : decode cL_isStrong 84 = .ok (.aload_n 0, 1) := by decide +kernel
theorem dL_isStrong_85 : decode cL_isStrong 85 = .ok (.iconst 0, 1) := by decide +kernel
theorem dL_isStrong_86 : decode cL_isStrong 86 = .ok (.invokevirtual 9, 3) := by decide +kernel
theorem dL_isStrong_89 : decode cL_isStrong 89 = .ok (.aload_n 0, 1) := by decide +kernel
theorem dL_isStrong_90 : decode cL_isStrong 90 = .ok (.iconst 5, 1) := by decide +kernel
theorem dL_isStrong_91 : decode cL_isStrong 91 = .ok (.invokevirtual 9, 3) := by decide +kernel
theorem dL_isStrong_94 : decode cL_isStrong 94 = .ok (.if_icmp .lt 7, 3) := by decide +kernel
theorem dL_isStrong_97 : decode cL_isStrong 97 = .ok (.iconst 1, 1) := by decide +kernel
theorem dL_isStrong_98 : decode cL_isStrong 98 = .ok (.goto 4, 3) := by decide +kernel
theorem dL_isStrong_101 : decode cL_isStrong 101 = .ok (.iconst 0, 1) := by decide +kernel
theorem dL_isStrong_102 : decode cL_isStrong 102 = .ok (.istore_n 3, 1) := by decide +kernel
theorem dL_isStrong_103 : decode cL_isStrong 103 = .ok (.iload_n 3, 1) := by decide +kernel
theorem dL_isStrong_104 : decode cL_isStrong 104 = .ok (.ifCond .eq 31, 3) := by decide +kernel
theorem dL_isStrong_107 : decode cL_isStrong 107 = .ok (.aload_n 0, 1) := by decide +kernel
theorem dL_isStrong_108 : decode cL_isStrong 108 = .ok (.iload_n 2, 1) := by decide +kernel
theorem dL_isStrong_109 : decode cL_isStrong 109 = .ok (.iconst 1, 1) := by decide +kernel
theorem dL_isStrong_110 : decode cL_isStrong 110 = .ok (.iadd, 1) := by decide +kernel
theorem dL_isStrong_111 : decode cL_isStrong 111 = .ok (.iconst 0, 1) := by decide +kernel
theorem dL_isStrong_112 : decode cL_isStrong 112 = .ok (.invokevirtual 75, 3) := by decide +kernel
theorem dL_isStrong_115 : decode cL_isStrong 115 = .ok (.iconst (-1), 1) := by decide +kernel
theorem dL_isStrong_116 : decode cL_isStrong 116 = .ok (.if_icmp .ne 19, 3) := by decide +kernel
theorem dL_isStrong_119 : decode cL_isStrong 119 = .ok (.aload_n 0, 1) := by decide +kernel
theorem dL_isStrong_120 : decode cL_isStrong 120 = .ok (.iconst 1, 1) := by decide +kernel
theorem dL_isStrong_121 : decode cL_isStrong 121 = .ok (.iload_n 2, 1) := by decide +kernel
theorem dL_isStrong_122 : decode cL_isStrong 122 = .ok (.ishl, 1) := by decide +kernel
theorem dL_isStrong_123 : decode cL_isStrong 123 = .ok (.iconst 0, 1) := by decide +kernel
theorem dL_isStrong_124 : decode cL_isStrong 124 = .ok (.invokevirtual 72, 3) := by decide +kernel
theorem dL_isStrong_127 : decode cL_isStrong 127 = .ok (.iconst (-1), 1) := by decide +kernel
theorem dL_isStrong_128 : decode cL_isStrong 128 = .ok (.if_icmp .ne 7, 3) := by decide +kernel
theorem dL_isStrong_131 : decode cL_isStrong 131 = .ok (.iconst 1, 1) := by decide +kernel
theorem dL_isStrong_132 : decode cL_isStrong 132 = .ok (.goto 4, 3) := by decide +kernel
theorem dL_isStrong_135 : decode cL_isStrong 135 = .ok (.iconst 0, 1) := by decide +kernel
theorem dL_isStrong_136 : decode cL_isStrong 136 = .ok (.ireturn, 1) := by decide +kernel
theorem dL_arePairs_0 : decode cL_arePairs 0 = .ok (.aload_n 0, 1) := by decide +kernel
theorem dL_arePairs_1 : decode cL_arePairs 1 = .ok (.iconst 0, 1) := by decide +kernel
theorem dL_arePairs_2 : decode cL_arePairs 2 = .ok (.invokevirtual 9, 3) := by decide +kernel
theorem dL_arePairs_5 : decode cL_arePairs 5 = .ok (.istore_n 1, 1) := by decide +kernel
theorem dL_arePairs_6 : decode cL_arePairs 6 = .ok (.iconst 0, 1) := by decide +kernel
theorem dL_arePairs_7 : decode cL_arePairs 7 = .ok (.istore_n 2, 1) := by decide +kernel
theorem dL_arePairs_8 : decode cL_arePairs 8 = .ok (.iconst 0, 1) := by decide +kernel
theorem dL_arePairs_9 : decode cL_arePairs 9 = .ok (.istore_n 3, 1) := by decide +kernel
theorem dL_arePairs_10 : decode cL_arePairs 10 = .ok (.iload_n 3, 1) := by decide +kernel
theorem dL_arePairs_11 : decode cL_arePairs 11 = .ok (.bipush 8, 2) := by decide +kernel
theorem dL_arePairs_13 : decode cL_arePairs 13 = .ok (.if_icmp .ge 17, 3) := by decide +kernel
theorem dL_arePairs_16 : decode cL_arePairs 16 = .ok (.iload_n 2, 1) := by decide +kernel
theorem dL_arePairs_17 : decode cL_arePairs 17 = .ok (.aload_n 0, 1) := by decide +kernel
theorem dL_arePairs_18 : decode cL_arePairs 18 = .ok (.iload_n 3, 1) := by decide +kernel
theorem dL_arePairs_19 : decode cL_arePairs 19 = .ok (.invokevirtual 78, 3) := by decide +kernel
theorem dL_arePairs_22 : decode cL_arePairs 22 = .ok (.iadd, 1) := by decide +kernel
theorem dL_arePairs_23 : decode cL_arePairs 23 = .ok (.istore_n 2, 1) := by decide +kernel
theorem dL_arePairs_24 : decode cL_arePairs 24 = .ok (.iinc 3 1, 3) := by decide +kernel
theorem dL_arePairs_27 : decode cL_arePairs 27 = .ok (.goto (-17), 3) := by decide +kernel
theorem dL_arePairs_30 : decode cL_arePairs 30 = .ok (.iload_n 2, 1) := by decide +kernel
theorem dL_arePairs_31 : decode cL_arePairs 31 = .ok (.iload_n 1, 1) := by decide +kernel
theorem dL_arePairs_32 : decode cL_arePairs 32 = .ok (.iload_n 1, 1) := by decide +kernel
theorem dL_arePairs_33 : decode cL_arePairs 33 = .ok (.iconst 1, 1) := by decide +kernel
theorem dL_arePairs_34 : decode cL_arePairs 34 = .ok (.isub, 1) := by decide +kernel
theorem dL_arePairs_35 : decode cL_arePairs 35 = .ok (.imul, 1) := by decide +kernel
theorem dL_arePairs_36 : decode cL_arePairs 36 = .ok (.iconst 2, 1) := by decide +kernel
theorem dL_arePairs_37 : decode cL_arePairs 37 = .ok (.idiv, 1) := by decide +kernel
theorem dL_arePairs_38 : decode cL_arePairs 38 = .ok (.if_icmp .ne 40, 3) := by decide +kernel
theorem dL_arePairs_41 : decode cL_arePairs 41 = .ok (.aload_n 0, 1) := by decide +kernel
theorem dL_arePairs_42 : decode cL_arePairs 42 = .ok (.iconst 3, 1) := by decide +kernel
theorem dL_arePairs_43 : decode cL_arePairs 43 = .ok (.invokevirtual 9, 3) := by decide +kernel
theorem dL_arePairs_46 : decode cL_arePairs 46 = .ok (.ifCond .ne 7, 3) := by decide +kernel
theorem dL_arePairs_49 : decode cL_arePairs 49 = .ok (.iconst 1, 1) := by decide +kernel
theorem dL_arePairs_50 : decode cL_arePairs 50 = .ok (.goto 4, 3) := by decide +kernel
theorem dL_arePairs_53 : decode cL_arePairs 53 = .ok (.iconst 0, 1) := by decide +kernel
theorem dL_arePairs_54 : decode cL_arePairs 54 = .ok (.aload_n 0, 1) := by decide +kernel
theorem dL_arePairs_55 : decode cL_arePairs 55 = .ok (.aload_n 0, 1) := by decide +kernel
theorem dL_arePairs_56 : decode cL_arePairs 56 = .ok (.iconst 1, 1) := by decide +kernel
theorem dL_arePairs_57 : decode cL_arePairs 57 = .ok (.invokevirtual 9, 3) := by decide +kernel
theorem dL_arePairs_60 : decode cL_arePairs 60 = .ok (.invokevirtual 78, 3) := by decide +kernel
theorem dL_arePairs_63 : decode cL_arePairs 63 = .ok (.ifCond .ne 7, 3) := by decide +kernel
theorem dL_arePairs_66 : decode cL_arePairs 66 = .ok (.iconst 1, 1) := by decide +kernel
theorem dL_arePairs_67 : decode cL_arePairs 67 = .ok (.goto 4, 3) := by decide +kernel
theorem dL_arePairs_70 : decode cL_arePairs 70 = .ok (.iconst 0, 1) := by decide +kernel
theorem dL_arePairs_71 : decode cL_arePairs 71 = .ok (.if_icmp .ne 7, 3) := by decide +kernel
theorem dL_arePairs_74 : decode cL_arePairs 74 = .ok (.iconst 1, 1) := by decide +kernel
theorem dL_arePairs_75 : decode cL_arePairs 75 = .ok (.goto 4, 3) := by decide +kernel
theorem dL_arePairs_78 : decode cL_arePairs 78 = .ok (.iconst 0, 1) := by decide +kernel
theorem dL_arePairs_79 : decode cL_arePairs 79 = .ok (.ireturn, 1) := by decide +kernel
theorem dL_isExtended_0 : decode cL_isExtended 0 = .ok (.aload_n 0, 1) := by decide +kernel
theorem dL_isExtended_1 : decode cL_isExtended 1 = .ok (.iconst 0, 1) := by decide +kernel
theorem dL_isExtended_2 : decode cL_isExtended 2 = .ok (.invokevirtual 9, 3) := by decide +kernel
theorem dL_isExtended_5 : decode cL_isExtended 5 = .ok (.istore_n 2, 1) := by decide +kernel
theorem dL_isExtended_6 : decode cL_isExtended 6 = .ok (.iload_n 2, 1) := by decide +kernel
theorem dL_isExtended_7 : decode cL_isExtended 7 = .ok (.ifCond .eq 9, 3) := by decide +kernel
theorem dL_isExtended_10 : decode cL_isExtended 10 = .ok (.iload_n 2, 1) := by decide +kernel
theorem dL_isExtended_11 : decode cL_isExtended 11 = .ok (.bipush 16, 2) := by decide +kernel
theorem dL_isExtended_13 : decode cL_isExtended 13 = .ok (.if_icmp .le 20, 3) := by decide +kernel
theorem dL_isExtended_16 : decode cL_isExtended 16 = .ok (.aload_n 0, 1) := by decide +kernel
theorem dL_isExtended_17 : decode cL_isExtended 17 = .ok (.iload_n 1, 1) := by decide +kernel
theorem dL_isExtended_18 : decode cL_isExtended 18 = .ok (.iconst (-1), 1) := by decide +kernel
theorem dL_isExtended_19 : decode cL_isExtended 19 = .ok (.invokevirtual 81, 3) := by decide +kernel
theorem dL_isExtended_22 : decode cL_isExtended 22 = .ok (.bipush (-2), 2) := by decide +kernel
theorem dL_isExtended_24 : decode cL_isExtended 24 = .ok (.if_icmp .ne 7, 3) := by decide +kernel
theorem dL_isExtended_27 : decode cL_isExtended 27 = .ok (.iconst 1, 1) := by decide +kernel
theorem dL_isExtended_28 : decode cL_isExtended 28 = .ok (.goto 4, 3) := by decide +kernel
theorem dL_isExtended_31 : decode cL_isExtended 31 = .ok (.iconst 0, 1) := by decide +kernel
theorem dL_isExtended_32 : decode cL_isExtended 32 = .ok (.ireturn, 1) := by decide +kernel
theorem dL_isExtended_33 : decode cL_isExtended 33 = .ok (.aload_n 0, 1) := by decide +kernel
theorem dL_isExtended_34 : decode cL_isExtended 34 = .ok (.iload_n 1, 1) := by decide +kernel
theorem dL_isExtended_35 : decode cL_isExtended 35 = .ok (.iconst (-1), 1) := by decide +kernel
theorem dL_isExtended_36 : decode cL_isExtended 36 = .ok (.invokevirtual 81, 3) := by decide +kernel
theorem dL_isExtended_39 : decode cL_isExtended 39 = .ok (.istore_n 3, 1) := by decide +kernel
theorem dL_isExtended_40 : decode cL_isExtended 40 = .ok (.iload_n 3, 1) := by decide +kernel
theorem dL_isExtended_41 : decode cL_isExtended 41 = .ok (.bipush (-9), 2) := by decide +kernel
theorem dL_isExtended_43 : decode cL_isExtended 43 = .ok (.if_icmp .eq 13, 3) := by decide +kernel
theorem dL_isExtended_46 : decode cL_isExtended 46 = .ok (.aload_n 0, 1) := by decide +kernel
theorem dL_isExtended_47 : decode cL_isExtended 47 = .ok (.iconst 1, 1) := by decide +kernel
theorem dL_isExtended_48 : decode cL_isExtended 48 = .ok (.invokevirtual 9, 3) := by decide +kernel
theorem dL_isExtended_51 : decode cL_isExtended 51 = .ok (.bipush 7, 2) := by decide +kernel
theorem dL_isExtended_53 : decode cL_isExtended 53 = .ok (.if_icmp .ne 53, 3) := by decide +kernel
theorem dL_isExtended_56 : decode cL_isExtended 56 = .ok (.iload_n 3, 1) := by decide +kernel
theorem dL_isExtended_57 : decode cL_isExtended 57 = .ok (.bipush (-9), 2) := by decide +kernel
theorem dL_isExtended_59 : decode cL_isExtended 59 = .ok (.if_icmp .ne 31, 3) := by decide +kernel
theorem dL_isExtended_62 : decode cL_isExtended 62 = .ok (.aload_n 0, 1) := by decide +kernel
theorem dL_isExtended_63 : decode cL_isExtended 63 = .ok (.iconst 1, 1) := by decide +kernel
theorem dL_isExtended_64 : decode cL_isExtended 64 = .ok (.invokevirtual 9, 3) := by decide +kernel
theorem dL_isExtended_67 : decode cL_isExtended 67 = .ok (.bipush 7, 2) := by decide +kernel
theorem dL_isExtended_69 : decode cL_isExtended 69 = .ok (.if_icmp .ge 21, 3) := by decide +kernel
theorem dL_isExtended_72 : decode cL_isExtended 72 = .ok (.aload_n 0, 1) := by decide +kernel
theorem dL_isExtended_73 : decode cL_isExtended 73 = .ok (.iload_n 1, 1) := by decide +kernel
theorem dL_isExtended_74 : decode cL_isExtended 74 = .ok (.invokevirtual 66, 3) := by decide +kernel
theorem dL_isExtended_77 : decode cL_isExtended 77 = .ok (.bipush (-9), 2) := by decide +kernel
theorem dL_isExtended_79 : decode cL_isExtended 79 = .ok (.if_icmp .ne 7, 3) := by decide +kernel
theorem dL_isExtended_82 : decode cL_isExtended 82 = .ok (.iconst 1, 1) := by decide +kernel
theorem dL_isExtended_83 : decode cL_isExtended 83 = .ok (.goto 22, 3) := by decide +kernel
theorem dL_isExtended_86 : decode cL_isExtended 86 = .ok (.iconst 0, 1) := by decide +kernel
theorem dL_isExtended_87 : decode cL_isExtended 87 = .ok (.goto 18, 3) := by decide +kernel
theorem dL_isExtended_90 : decode cL_isExtended 90 = .ok (.aload_n 0, 1) := by decide +kernel
theorem dL_isExtended_91 : decode cL_isExtended 91 = .ok (.iload_n 1, 1) := by decide +kernel
theorem dL_isExtended_92 : decode cL_isExtended 92 = .ok (.invokevirtual 66, 3) := by decide +kernel
theorem dL_isExtended_95 : decode cL_isExtended 95 = .ok (.bipush (-3), 2) := by decide +kernel
theorem dL_isExtended_97 : decode cL_isExtended 97 = .ok (.if_icmp .ne 7, 3) := by decide +kernel
theorem dL_isExtended_100 : decode cL_isExtended 100 = .ok (.iconst 1, 1) := by decide +kernel
theorem dL_isExtended_101 : decode cL_isExtended 101 = .ok (.goto 4, 3) := by decide +kernel
theorem dL_isExtended_104 : decode cL_isExtended 104 = .ok (.iconst 0, 1) := by decide +kernel
theorem dL_isExtended_105 : decode cL_isExtended 105 = .ok (.ireturn, 1) := by decide +kernel
theorem dL_isExtended_106 : decode cL_isExtended 106 = .ok (.aload_n 0, 1) := by decide +kernel
theorem dL_isExtended_107 : decode cL_isExtended 107 = .ok (.iload_n 1, 1) := by decide +kernel
theorem dL_isExtended_108 : decode cL_isExtended 108 = .ok (.iconst 0, 1) := by decide +kernel
theorem dL_isExtended_109 : decode cL_isExtended 109 = .ok (.invokevirtual 81, 3) := by decide +kernel
theorem dL_isExtended_112 : decode cL_isExtended 112 = .ok (.istore 4, 2) := by decide +kernel
theorem dL_isExtended_114 : decode cL_isExtended 114 = .ok (.aload_n 0, 1) := by decide +kernel
theorem dL_isExtended_115 : decode cL_isExtended 115 = .ok (.iload_n 1, 1) := by decide +kernel
theorem dL_isExtended_116 : decode cL_isExtended 116 = .ok (.iload_n 2, 1) := by decide +kernel
theorem dL_isExtended_117 : decode cL_isExtended 117 = .ok (.iconst 1, 1) := by decide +kernel
theorem dL_isExtended_118 : decode cL_isExtended 118 = .ok (.isub, 1) := by decide +kernel
theorem dL_isExtended_119 : decode cL_isExtended 119 = .ok (.invokevirtual 81, 3) := by decide +kernel
theorem dL_isExtended_122 : decode cL_isExtended 122 = .ok (.istore 5, 2) := by decide +kernel
theorem dL_isExtended_124 : decode cL_isExtended 124 = .ok (.aload_n 0, 1) := by decide +kernel
theorem dL_isExtended_125 : decode cL_isExtended 125 = .ok (.iconst 1, 1) := by decide +kernel
theorem dL_isExtended_126 : decode cL_isExtended 126 = .ok (.invokevirtual 9, 3) := by decide +kernel
theorem dL_isExtended_129 : decode cL_isExtended 129 = .ok (.istore 6, 2) := by decide +kernel
theorem dL_isExtended_131 : decode cL_isExtended 131 = .ok (.iload_n 3, 1) := by decide +kernel
theorem dL_isExtended_132 : decode cL_isExtended 132 = .ok (.iload_n 2, 1) := by decide +kernel
theorem dL_isExtended_133 : decode cL_isExtended 133 = .ok (.if_icmp .ne 48, 3) := by decide +kernel
theorem dL_isExtended_136 : decode cL_isExtended 136 = .ok (.iload 4, 2) := by decide +kernel
theorem dL_isExtended_138 : decode cL_isExtended 138 = .ok (.ifCond .ne 43, 3) := by decide +kernel
theorem dL_isExtended_141 : decode cL_isExtended 141 = .ok (.aload_n 0, 1) := by decide +kernel
theorem dL_isExtended_142 : decode cL_isExtended 142 = .ok (.iload_n 1, 1) := by decide +kernel
theorem dL_isExtended_143 : decode cL_isExtended 143 = .ok (.invokevirtual 66, 3) := by decide +kernel
theorem dL_isExtended_146 : decode cL_isExtended 146 = .ok (.iload 6, 2) := by decide +kernel
theorem dL_isExtended_148 : decode cL_isExtended 148 = .ok (.if_icmp .ne 33, 3) := by decide +kernel
theorem dL_isExtended_151 : decode cL_isExtended 151 = .ok (.aload_n 0, 1) := by decide +kernel
theorem dL_isExtended_152 : decode cL_isExtended 152 = .ok (.iconst 0, 1) := by decide +kernel
theorem dL_isExtended_153 : decode cL_isExtended 153 = .ok (.iload 6, 2) := by decide +kernel
theorem dL_isExtended_155 : decode cL_isExtended 155 = .ok (.invokevirtual 84, 3) := by decide +kernel
theorem dL_isExtended_158 : decode cL_isExtended 158 = .ok (.iload 4, 2) := by decide +kernel
theorem dL_isExtended_160 : decode cL_isExtended 160 = .ok (.if_icmp .ne 21, 3) := by decide +kernel
theorem dL_isExtended_163 : decode cL_isExtended 163 = .ok (.aload_n 0, 1) := by decide +kernel
theorem dL_isExtended_164 : decode cL_isExtended 164 = .ok (.iload_n 2, 1) := by decide +kernel
theorem dL_isExtended_165 : decode cL_isExtended 165 = .ok (.iconst 1, 1) := by decide +kernel
theorem dL_isExtended_166 : decode cL_isExtended 166 = .ok (.isub, 1) := by decide +kernel
theorem dL_isExtended_167 : decode cL_isExtended 167 = .ok (.iload 6, 2) := by decide +kernel
theorem dL_isExtended_169 : decode cL_isExtended 169 = .ok (.invokevirtual 84, 3) := by decide +kernel
theorem dL_isExtended_172 : decode cL_isExtended 172 = .ok (.iload 5, 2) := by decide +kernel
theorem dL_isExtended_174 : decode cL_isExtended 174 = .ok (.if_icmp .ne 7, 3) := by decide +kernel
theorem dL_isExtended_177 : decode cL_isExtended 177 = .ok (.iconst 1, 1) := by decide +kernel
theorem dL_isExtended_178 : decode cL_isExtended 178 = .ok (.goto 4, 3) := by decide +kernel
theorem dL_isExtended_181 : decode cL_isExtended 181 = .ok (.iconst 0, 1) := by decide +kernel
theorem dL_isExtended_182 : decode cL_isExtended 182 = .ok (.istore 7, 2) := by decide +kernel
theorem dL_isExtended_184 : decode cL_isExtended 184 = .ok (.iconst 1, 1) := by decide +kernel
theorem dL_isExtended_185 : decode cL_isExtended 185 = .ok (.iload 6, 2) := by decide +kernel
theorem dL_isExtended_187 : decode cL_isExtended 187 = .ok (.ishl, 1) := by decide +kernel
theorem dL_isExtended_188 : decode cL_isExtended 188 = .ok (.istore 8, 2) := by decide +kernel
theorem dL_isExtended_190 : decode cL_isExtended 190 = .ok (.iload 8, 2) := by decide +kernel
theorem dL_isExtended_192 : decode cL_isExtended 192 = .ok (.iconst 2, 1) := by decide +kernel
theorem dL_isExtended_193 : decode cL_isExtended 193 = .ok (.iload 6, 2) := by decide +kernel
theorem dL_isExtended_195 : decode cL_isExtended 195 = .ok (.ishl, 1) := by decide +kernel
theorem dL_isExtended_196 : decode cL_isExtended 196 = .ok (.if_icmp .ge 71, 3) := by decide +kernel
theorem dL_isExtended_199 : decode cL_isExtended 199 = .ok (.iconst 0, 1) := by decide +kernel
theorem dL_isExtended_200 : decode cL_isExtended 200 = .ok (.istore 9, 2) := by decide +kernel
theorem dL_isExtended_202 : decode cL_isExtended 202 = .ok (.iload 8, 2) := by decide +kernel
theorem dL_isExtended_204 : decode cL_isExtended 204 = .ok (.invokestatic 69, 3) := by decide +kernel
theorem dL_isExtended_207 : decode cL_isExtended 207 = .ok (.iconst 3, 1) := by decide +kernel
theorem dL_isExtended_208 : decode cL_isExtended 208 = .ok (.if_icmp .ge 53, 3) := by decide +kernel
theorem dL_isExtended_211 : decode cL_isExtended 211 = .ok (.aload_n 0, 1) := by decide +kernel
theorem dL_isExtended_212 : decode cL_isExtended 212 = .ok (.iload 8, 2) := by decide +kernel
theorem dL_isExtended_214 : decode cL_isExtended 214 = .ok (.iload 9, 2) := by decide +kernel
theorem dL_isExtended_216 : decode cL_isExtended 216 = .ok (.invokevirtual 72, 3) := by decide +kernel
theorem dL_isExtended_219 : decode cL_isExtended 219 = .ok (.ifCond .lt 42, 3) := by decide +kernel
theorem dL_isExtended_222 : decode cL_isExtended 222 = .ok (.iload 7, 2) := by decide +kernel
theorem dL_isExtended_224 : decode cL_isExtended 224 = .ok (.ifCond .eq 25, 3) := by decide +kernel
theorem dL_isExtended_227 : decode cL_isExtended 227 = .ok (.aload_n 0, 1) := by decide +kernel
theorem dL_isExtended_228 : decode cL_isExtended 228 = .ok (.iload 8, 2) := by decide +kernel
theorem dL_isExtended_230 : decode cL_isExtended 230 = .ok (.iload 9, 2) := by decide +kernel
theorem dL_isExtended_232 : decode cL_isExtended 232 = .ok (.invokevirtual 72, 3) := by decide +kernel
theorem dL_isExtended_235 : decode cL_isExtended 235 = .ok (.aload_n 0, 1) := by decide +kernel
theorem dL_isExtended_236 : decode cL_isExtended 236 = .ok (.iload 8, 2) := by decide +kernel
theorem dL_isExtended_238 : decode cL_isExtended 238 = .ok (.iconst 0, 1) := by decide +kernel
theorem dL_isExtended_239 : decode cL_isExtended 239 = .ok (.invokevirtual 72, 3) := by decide +kernel
theorem dL_isExtended_242 : decode cL_isExtended 242 = .ok (.if_icmp .ne 7, 3) := by decide +kernel
theorem dL_isExtended_245 : decode cL_isExtended 245 = .ok (.iconst 1, 1) := by decide +kernel
theorem dL_isExtended_246 : decode cL_isExtended 246 = .ok (.goto 4, 3) := by decide +kernel
theorem dL_isExtended_249 : decode cL_isExtended 249 = .ok (.iconst 0, 1) := by decide +kernel
theorem dL_isExtended_250 : decode cL_isExtended 250 = .ok (.istore 7, 2) := by decide +kernel
theorem dL_isExtended_252 : decode cL_isExtended 252 = .ok (.iload 9, 2) := by decide +kernel
theorem dL_isExtended_254 : decode cL_isExtended 254 = .ok (.iconst 1, 1) := by decide +kernel
theorem dL_isExtended_255 : decode cL_isExtended 255 = .ok (.iadd, 1) := by decide +kernel
theorem dL_isExtended_256 : decode cL_isExtended 256 = .ok (.istore 9, 2) := by decide +kernel
theorem dL_isExtended_258 : decode cL_isExtended 258 = .ok (.goto (-56), 3) := by decide +kernel
theorem dL_isExtended_261 : decode cL_isExtended 261 = .ok (.iinc 8 1, 3) := by decide +kernel
theorem dL_isExtended_264 : decode cL_isExtended 264 = .ok (.goto (-74), 3) := by decide +kernel
theorem dL_isExtended_267 : decode cL_isExtended 267 = .ok (.iload 7, 2) := by decide +kernel
theorem dL_isExtended_269 : decode cL_isExtended 269 = .ok (.ifCond .eq 24, 3) := by decide +kernel
theorem dL_isExtended_272 : decode cL_isExtended 272 = .ok (.aload_n 0, 1) := by decide +kernel
theorem dL_isExtended_273 : decode cL_isExtended 273 = .ok (.invokevirtual 24, 3) := by decide +kernel
theorem dL_isExtended_276 : decode cL_isExtended 276 = .ok (.ifCond .lt 17, 3) := by decide +kernel
theorem dL_isExtended_279 : decode cL_isExtended 279 = .ok (.aload_n 0, 1) := by decide +kernel
theorem dL_isExtended_280 : decode cL_isExtended 280 = .ok (.iconst 1, 1) := by decide +kernel
theorem dL_isExtended_281 : decode cL_isExtended 281 = .ok (.invokevirtual 9, 3) := by decide +kernel
theorem dL_isExtended_284 : decode cL_isExtended 284 = .ok (.iload 6, 2) := by decide +kernel
theorem dL_isExtended_286 : decode cL_isExtended 286 = .ok (.if_icmp .ne 7, 3) := by decide +kernel
theorem dL_isExtended_289 : decode cL_isExtended 289 = .ok (.iconst 1, 1) := by decide +kernel
theorem dL_isExtended_290 : decode cL_isExtended 290 = .ok (.goto 4, 3) := by decide +kernel
theorem dL_isExtended_293 : decode cL_isExtended 293 = .ok (.iconst 0, 1) := by decide +kernel
theorem dL_isExtended_294 : decode cL_isExtended 294 = .ok (.ireturn, 1) := by decide +kernel
theorem dL_isSpared_0 : decode cL_isSpared 0 = .ok (.aload_n 0, 1) := by decide +kernel
theorem dL_isSpared_1 : decode cL_isSpared 1 = .ok (.iconst 0, 1) := by decide +kernel
theorem dL_isSpared_2 : decode cL_isSpared 2 = .ok (.invokevirtual 9, 3) := by decide +kernel
theorem dL_isSpared_5 : decode cL_isSpared 5 = .ok (.istore_n 2, 1) := by decide +kernel
theorem dL_isSpared_6 : decode cL_isSpared 6 = .ok (.iload_n 1, 1) := by decide +kernel
theorem dL_isSpared_7 : decode cL_isSpared 7 = .ok (.aload_n 0, 1) := by decide +kernel
theorem dL_isSpared_8 : decode cL_isSpared 8 = .ok (.iconst 1, 1) := by decide +kernel
theorem dL_isSpared_9 : decode cL_isSpared 9 = .ok (.invokevirtual 9, 3) := by decide +kernel
theorem dL_isSpared_12 : decode cL_isSpared 12 = .ok (.if_icmp .le 18, 3) := by decide +kernel
theorem dL_isSpared_15 : decode cL_isSpared 15 = .ok (.aload_n 0, 1) := by decide +kernel
theorem dL_isSpared_16 : decode cL_isSpared 16 = .ok (.iload_n 1, 1) := by decide +kernel
theorem dL_isSpared_17 : decode cL_isSpared 17 = .ok (.invokevirtual 87, 3) := by decide +kernel
theorem dL_isSpared_20 : decode cL_isSpared 20 = .ok (.iconst (-1), 1) := by decide +kernel
theorem dL_isSpared_21 : decode cL_isSpared 21 = .ok (.if_icmp .ne 7, 3) := by decide +kernel
theorem dL_isSpared_24 : decode cL_isSpared 24 = .ok (.iconst 1, 1) := by decide +kernel
theorem dL_isSpared_25 : decode cL_isSpared 25 = .ok (.goto 4, 3) := by decide +kernel
theorem dL_isSpared_28 : decode cL_isSpared 28 = .ok (.iconst 0, 1) := by decide +kernel
theorem dL_isSpared_29 : decode cL_isSpared 29 = .ok (.ireturn, 1) := by decide +kernel
theorem dL_isSpared_30 : decode cL_isSpared 30 = .ok (.iload_n 2, 1) := by decide +kernel
theorem dL_isSpared_31 : decode cL_isSpared 31 = .ok (.ifCond .eq 9, 3) := by decide +kernel
theorem dL_isSpared_34 : decode cL_isSpared 34 = .ok (.iload_n 2, 1) := by decide +kernel
theorem dL_isSpared_35 : decode cL_isSpared 35 = .ok (.bipush 12, 2) := by decide +kernel
theorem dL_isSpared_37 : decode cL_isSpared 37 = .ok (.if_icmp .le 19, 3) := by decide +kernel
theorem dL_isSpared_40 : decode cL_isSpared 40 = .ok (.aload_n 0, 1) := by decide +kernel
theorem dL_isSpared_41 : decode cL_isSpared 41 = .ok (.iload_n 1, 1) := by decide +kernel
theorem dL_isSpared_42 : decode cL_isSpared 42 = .ok (.invokevirtual 87, 3) := by decide +kernel
theorem dL_isSpared_45 : decode cL_isSpared 45 = .ok (.bipush (-2), 2) := by decide +kernel
theorem dL_isSpared_47 : decode cL_isSpared 47 = .ok (.if_icmp .ne 7, 3) := by decide +kernel
theorem dL_isSpared_50 : decode cL_isSpared 50 = .ok (.iconst 1, 1) := by decide +kernel
theorem dL_isSpared_51 : decode cL_isSpared 51 = .ok (.goto 4, 3) := by decide +kernel
theorem dL_isSpared_54 : decode cL_isSpared 54 = .ok (.iconst 0, 1) := by decide +kernel
theorem dL_isSpared_55 : decode cL_isSpared 55 = .ok (.ireturn, 1) := by decide +kernel
theorem dL_isSpared_56 : decode cL_isSpared 56 = .ok (.aload_n 0, 1) := by decide +kernel
theorem dL_isSpared_57 : decode cL_isSpared 57 = .ok (.iload_n 1, 1) := by decide +kernel
theorem dL_isSpared_58 : decode cL_isSpared 58 = .ok (.invokevirtual 87, 3) := by decide +kernel
theorem dL_isSpared_61 : decode cL_isSpared 61 = .ok (.istore_n 3, 1) := by decide +kernel
theorem dL_isSpared_62 : decode cL_isSpared 62 = .ok (.iload_n 3, 1) := by decide +kernel
theorem dL_isSpared_63 : decode cL_isSpared 63 = .ok (.bipush (-9), 2) := by decide +kernel
theorem dL_isSpared_65 : decode cL_isSpared 65 = .ok (.if_icmp .ne 7, 3) := by decide +kernel
theorem dL_isSpared_68 : decode cL_isSpared 68 = .ok (.iconst 1, 1) := by decide +kernel
theorem dL_isSpared_69 : decode cL_isSpared 69 = .ok (.goto 4, 3) := by decide +kernel
theorem dL_isSpared_72 : decode cL_isSpared 72 = .ok (.iconst 0, 1) := by decide +kernel
theorem dL_isSpared_73 : decode cL_isSpared 73 = .ok (.aload_n 0, 1) := by decide +kernel
theorem dL_isSpared_74 : decode cL_isSpared 74 = .ok (.iconst 2, 1) := by decide +kernel
theorem dL_isSpared_75 : decode cL_isSpared 75 = .ok (.invokevirtual 9, 3) := by decide +kernel
theorem dL_isSpared_78 : decode cL_isSpared 78 = .ok (.iload_n 1, 1) := by decide +kernel
theorem dL_isSpared_79 : decode cL_isSpared 79 = .ok (.if_icmp .ge 7, 3) := by decide +kernel
theorem dL_isSpared_82 : decode cL_isSpared 82 = .ok (.iconst 1, 1) := by decide +kernel
theorem dL_isSpared_83 : decode cL_isSpared 83 = .ok (.goto 4, 3) := by decide +kernel
theorem dL_isSpared_86 : decode cL_isSpared 86 = .ok (.iconst 0, 1) := by decide +kernel
theorem dL_isSpared_87 : decode cL_isSpared 87 = .ok (.if_icmp .ne 16, 3) := by decide +kernel
theorem dL_isSpared_90 : decode cL_isSpared 90 = .ok (.iload_n 3, 1) := by decide +kernel
theorem dL_isSpared_91 : decode cL_isSpared 91 = .ok (.iconst 1, 1) := by decide +kernel
theorem dL_isSpared_92 : decode cL_isSpared 92 = .ok (.iload_n 2, 1) := by decide +kernel
theorem dL_isSpared_93 : decode cL_isSpared 93 = .ok (.ishl, 1) := by decide +kernel
theorem dL_isSpared_94 : decode cL_isSpared 94 = .ok (.iconst 1, 1) := by decide +kernel
theorem dL_isSpared_95 : decode cL_isSpared 95 = .ok (.isub, 1) := by decide +kernel
theorem dL_isSpared_96 : decode cL_isSpared 96 = .ok (.if_icmp .ge 7, 3) := by decide +kernel
theorem dL_isSpared_99 : decode cL_isSpared 99 = .ok (.iconst 1, 1) := by decide +kernel
theorem dL_isSpared_100 : decode cL_isSpared 100 = .ok (.goto 4, 3) := by decide +kernel
theorem dL_isSpared_103 : decode cL_isSpared 103 = .ok (.iconst 0, 1) := by decide +kernel
theorem dL_isSpared_104 : decode cL_isSpared 104 = .ok (.ireturn, 1) := by decide +kernel
theorem dL_areAlike_0 : decode cL_areAlike 0 = .ok (.iconst 1, 1) := by decide +kernel
theorem dL_areAlike_1 : decode cL_areAlike 1 = .ok (.istore_n 2, 1) := by decide +kernel
theorem dL_areAlike_2 : decode cL_areAlike 2 = .ok (.iconst 0, 1) := by decide +kernel
theorem dL_areAlike_3 : decode cL_areAlike 3 = .ok (.istore_n 3, 1) := by decide +kernel
theorem dL_areAlike_4 : decode cL_areAlike 4 = .ok (.iload_n 3, 1) := by decide +kernel
theorem dL_areAlike_5 : decode cL_areAlike 5 = .ok (.bipush 9, 2) := by decide +kernel
theorem dL_areAlike_7 : decode cL_areAlike 7 = .ok (.if_icmp .ge 32, 3) := by decide +kernel
theorem dL_areAlike_10 : decode cL_areAlike 10 = .ok (.iload_n 2, 1) := by decide +kernel
theorem dL_areAlike_11 : decode cL_areAlike 11 = .ok (.ifCond .eq 20, 3) := by decide +kernel
theorem dL_areAlike_14 : decode cL_areAlike 14 = .ok (.aload_n 0, 1) := by decide +kernel
theorem dL_areAlike_15 : decode cL_areAlike 15 = .ok (.iload_n 3, 1) := by decide +kernel
theorem dL_areAlike_16 : decode cL_areAlike 16 = .ok (.invokevirtual 9, 3) := by decide +kernel
theorem dL_areAlike_19 : decode cL_areAlike 19 = .ok (.aload_n 1, 1) := by decide +kernel
theorem dL_areAlike_20 : decode cL_areAlike 20 = .ok (.iload_n 3, 1) := by decide +kernel
theorem dL_areAlike_21 : decode cL_areAlike 21 = .ok (.invokevirtual 9, 3) := by decide +kernel
theorem dL_areAlike_24 : decode cL_areAlike 24 = .ok (.if_icmp .ne 7, 3) := by decide +kernel
theorem dL_areAlike_27 : decode cL_areAlike 27 = .ok (.iconst 1, 1) := by decide +kernel
theorem dL_areAlike_28 : decode cL_areAlike 28 = .ok (.goto 4, 3) := by decide +kernel
theorem dL_areAlike_31 : decode cL_areAlike 31 = .ok (.iconst 0, 1) := by decide +kernel
theorem dL_areAlike_32 : decode cL_areAlike 32 = .ok (.istore_n 2, 1) := by decide +kernel
theorem dL_areAlike_33 : decode cL_areAlike 33 = .ok (.iinc 3 1, 3) := by decide +kernel
theorem dL_areAlike_36 : decode cL_areAlike 36 = .ok (.goto (-32), 3) := by decide +kernel
theorem dL_areAlike_39 : decode cL_areAlike 39 = .ok (.iconst 0, 1) := by decide +kernel
theorem dL_areAlike_40 : decode cL_areAlike 40 = .ok (.istore_n 3, 1) := by decide +kernel
theorem dL_areAlike_41 : decode cL_areAlike 41 = .ok (.iload_n 3, 1) := by decide +kernel
theorem dL_areAlike_42 : decode cL_areAlike 42 = .ok (.aload_n 0, 1) := by decide +kernel
theorem dL_areAlike_43 : decode cL_areAlike 43 = .ok (.iconst 1, 1) := by decide +kernel
theorem dL_areAlike_44 : decode cL_areAlike 44 = .ok (.invokevirtual 9, 3) := by decide +kernel
theorem dL_areAlike_47 : decode cL_areAlike 47 = .ok (.if_icmp .ge 78, 3) := by decide +kernel
theorem dL_areAlike_50 : decode cL_areAlike 50 = .ok (.iload_n 2, 1) := by decide +kernel
theorem dL_areAlike_51 : decode cL_areAlike 51 = .ok (.ifCond .eq 20, 3) := by decide +kernel
theorem dL_areAlike_54 : decode cL_areAlike 54 = .ok (.aload_n 0, 1) := by decide +kernel
theorem dL_areAlike_55 : decode cL_areAlike 55 = .ok (.iload_n 3, 1) := by decide +kernel
theorem dL_areAlike_56 : decode cL_areAlike 56 = .ok (.invokevirtual 90, 3) := by decide +kernel
theorem dL_areAlike_59 : decode cL_areAlike 59 = .ok (.aload_n 1, 1) := by decide +kernel
theorem dL_areAlike_60 : decode cL_areAlike 60 = .ok (.iload_n 3, 1) := by decide +kernel
theorem dL_areAlike_61 : decode cL_areAlike 61 = .ok (.invokevirtual 90, 3) := by decide +kernel
theorem dL_areAlike_64 : decode cL_areAlike 64 = .ok (.if_icmp .ne 7, 3) := by decide +kernel
theorem dL_areAlike_67 : decode cL_areAlike 67 = .ok (.iconst 1, 1) := by decide +kernel
theorem dL_areAlike_68 : decode cL_areAlike 68 = .ok (.goto 4, 3) := by decide +kernel
theorem dL_areAlike_71 : decode cL_areAlike 71 = .ok (.iconst 0, 1) := by decide +kernel
theorem dL_areAlike_72 : decode cL_areAlike 72 = .ok (.istore_n 2, 1) := by decide +kernel
theorem dL_areAlike_73 : decode cL_areAlike 73 = .ok (.iconst 0, 1) := by decide +kernel
theorem dL_areAlike_74 : decode cL_areAlike 74 = .ok (.istore 4, 2) := by decide +kernel
theorem dL_areAlike_76 : decode cL_areAlike 76 = .ok (.iload 4, 2) := by decide +kernel
theorem dL_areAlike_78 : decode cL_areAlike 78 = .ok (.aload_n 0, 1) := by decide +kernel
theorem dL_areAlike_79 : decode cL_areAlike 79 = .ok (.iconst 0, 1) := by decide +kernel
theorem dL_areAlike_80 : decode cL_areAlike 80 = .ok (.invokevirtual 9, 3) := by decide +kernel
theorem dL_areAlike_83 : decode cL_areAlike 83 = .ok (.if_icmp .ge 36, 3) := by decide +kernel
theorem dL_areAlike_86 : decode cL_areAlike 86 = .ok (.iload_n 2, 1) := by decide +kernel
theorem dL_areAlike_87 : decode cL_areAlike 87 = .ok (.ifCond .eq 24, 3) := by decide +kernel
theorem dL_areAlike_90 : decode cL_areAlike 90 = .ok (.aload_n 0, 1) := by decide +kernel
theorem dL_areAlike_91 : decode cL_areAlike 91 = .ok (.iload 4, 2) := by decide +kernel
theorem dL_areAlike_93 : decode cL_areAlike 93 = .ok (.iload_n 3, 1) := by decide +kernel
theorem dL_areAlike_94 : decode cL_areAlike 94 = .ok (.invokevirtual 84, 3) := by decide +kernel
theorem dL_areAlike_97 : decode cL_areAlike 97 = .ok (.aload_n 1, 1) := by decide +kernel
theorem dL_areAlike_98 : decode cL_areAlike 98 = .ok (.iload 4, 2) := by decide +kernel
theorem dL_areAlike_100 : decode cL_areAlike 100 = .ok (.iload_n 3, 1) := by decide +kernel
theorem dL_areAlike_101 : decode cL_areAlike 101 = .ok (.invokevirtual 84, 3) := by decide +kernel
theorem dL_areAlike_104 : decode cL_areAlike 104 = .ok (.if_icmp .ne 7, 3) := by decide +kernel
theorem dL_areAlike_107 : decode cL_areAlike 107 = .ok (.iconst 1, 1) := by decide +kernel
theorem dL_areAlike_108 : decode cL_areAlike 108 = .ok (.goto 4, 3) := by decide +kernel
theorem dL_areAlike_111 : decode cL_areAlike 111 = .ok (.iconst 0, 1) := by decide +kernel
theorem dL_areAlike_112 : decode cL_areAlike 112 = .ok (.istore_n 2, 1) := by decide +kernel
theorem dL_areAlike_113 : decode cL_areAlike 113 = .ok (.iinc 4 1, 3) := by decide +kernel
theorem dL_areAlike_116 : decode cL_areAlike 116 = .ok (.goto (-40), 3) := by decide +kernel
theorem dL_areAlike_119 : decode cL_areAlike 119 = .ok (.iinc 3 1, 3) := by decide +kernel
theorem dL_areAlike_122 : decode cL_areAlike 122 = .ok (.goto (-81), 3) := by decide +kernel
theorem dL_areAlike_125 : decode cL_areAlike 125 = .ok (.iload_n 2, 1) := by decide +kernel
theorem dL_areAlike_126 : decode cL_areAlike 126 = .ok (.ireturn, 1) := by decide +kernel
theorem dL_law_0 : decode cL_law 0 = .ok (.new 10, 3) := by decide +kernel
theorem dL_law_3 : decode cL_law 3 = .ok (.dup, 1) := by decide +kernel
theorem dL_law_4 : decode cL_law 4 = .ok (.invokespecial 93, 3) := by decide +kernel
theorem dL_law_7 : decode cL_law 7 = .ok (.astore_n 1, 1) := by decide +kernel
theorem dL_law_8 : decode cL_law 8 = .ok (.new 10, 3) := by decide +kernel
theorem dL_law_11 : decode cL_law 11 = .ok (.dup, 1) := by decide +kernel
theorem dL_law_12 : decode cL_law 12 = .ok (.invokespecial 93, 3) := by decide +kernel
theorem dL_law_15 : decode cL_law 15 = .ok (.astore_n 2, 1) := by decide +kernel
theorem dL_law_16 : decode cL_law 16 = .ok (.iconst 0, 1) := by decide +kernel
theorem dL_law_17 : decode cL_law 17 = .ok (.istore_n 3, 1) := by decide +kernel
theorem dL_law_18 : decode cL_law 18 = .ok (.iload_n 3, 1) := by decide +kernel
theorem dL_law_19 : decode cL_law 19 = .ok (.bipush 14, 2) := by decide +kernel
theorem dL_law_21 : decode cL_law 21 = .ok (.if_icmp .ge 160, 3) := by decide +kernel
theorem dL_law_24 : decode cL_law 24 = .ok (.aload_n 0, 1) := by decide +kernel
theorem dL_law_25 : decode cL_law 25 = .ok (.iconst 2, 1) := by decide +kernel
theorem dL_law_26 : decode cL_law 26 = .ok (.iload_n 3, 1) := by decide +kernel
theorem dL_law_27 : decode cL_law 27 = .ok (.imul, 1) := by decide +kernel
theorem dL_law_28 : decode cL_law 28 = .ok (.invokestatic 94, 3) := by decide +kernel
theorem dL_law_31 : decode cL_law 31 = .ok (.istore 4, 2) := by decide +kernel
theorem dL_law_33 : decode cL_law 33 = .ok (.aload_n 0, 1) := by decide +kernel
theorem dL_law_34 : decode cL_law 34 = .ok (.iconst 2, 1) := by decide +kernel
theorem dL_law_35 : decode cL_law 35 = .ok (.iload_n 3, 1) := by decide +kernel
theorem dL_law_36 : decode cL_law 36 = .ok (.imul, 1) := by decide +kernel
theorem dL_law_37 : decode cL_law 37 = .ok (.iconst 1, 1) := by decide +kernel
theorem dL_law_38 : decode cL_law 38 = .ok (.iadd, 1) := by decide +kernel
theorem dL_law_39 : decode cL_law 39 = .ok (.invokestatic 94, 3) := by decide +kernel
theorem dL_law_42 : decode cL_law 42 = .ok (.istore 5, 2) := by decide +kernel
theorem dL_law_44 : decode cL_law 44 = .ok (.aload_n 1, 1) := by decide +kernel
theorem dL_law_45 : decode cL_law 45 = .ok (.iconst 4, 1) := by decide +kernel
theorem dL_law_46 : decode cL_law 46 = .ok (.invokevirtual 9, 3) := by decide +kernel
theorem dL_law_49 : decode cL_law 49 = .ok (.iconst 1, 1) := by decide +kernel
theorem dL_law_50 : decode cL_law 50 = .ok (.if_icmp .ne 7, 3) := by decide +kernel
theorem dL_law_53 : decode cL_law 53 = .ok (.iconst 1, 1) := by decide +kernel
theorem dL_law_54 : decode cL_law 54 = .ok (.goto 4, 3) := by decide +kernel
theorem dL_law_57 : decode cL_law 57 = .ok (.iconst 0, 1) := by decide +kernel
theorem dL_law_58 : decode cL_law 58 = .ok (.istore 6, 2) := by decide +kernel
theorem dL_law_60 : decode cL_law 60 = .ok (.aload_n 1, 1) := by decide +kernel
theorem dL_law_61 : decode cL_law 61 = .ok (.iload 4, 2) := by decide +kernel
theorem dL_law_63 : decode cL_law 63 = .ok (.iload 5, 2) := by decide +kernel
theorem dL_law_65 : decode cL_law 65 = .ok (.invokestatic 97, 3) := by decide +kernel
theorem dL_law_68 : decode cL_law 68 = .ok (.istore 7, 2) := by decide +kernel
theorem dL_law_70 : decode cL_law 70 = .ok (.iload 7, 2) := by decide +kernel
theorem dL_law_72 : decode cL_law 72 = .ok (.aload_n 2, 1) := by decide +kernel
theorem dL_law_73 : decode cL_law 73 = .ok (.iload 4, 2) := by decide +kernel
theorem dL_law_75 : decode cL_law 75 = .ok (.iload 5, 2) := by decide +kernel
theorem dL_law_77 : decode cL_law 77 = .ok (.invokestatic 97, 3) := by decide +kernel
theorem dL_law_80 : decode cL_law 80 = .ok (.if_icmp .eq 5, 3) := by decide +kernel
theorem dL_law_83 : decode cL_law 83 = .ok (.iconst 0, 1) := by decide +kernel
theorem dL_law_84 : decode cL_law 84 = .ok (.ireturn, 1) := by decide +kernel
theorem dL_law_85 : decode cL_law 85 = .ok (.iload 4, 2) := by decide +kernel
theorem dL_law_87 : decode cL_law 87 = .ok (.bipush 16, 2) := by decide +kernel
theorem dL_law_89 : decode cL_law 89 = .ok (.invokestatic 15, 3) := by decide +kernel
theorem dL_law_92 : decode cL_law 92 = .ok (.bipush 11, 2) := by decide +kernel
theorem dL_law_94 : decode cL_law 94 = .ok (.if_icmp .ne 33, 3) := by decide +kernel
theorem dL_law_97 : decode cL_law 97 = .ok (.iload 7, 2) := by decide +kernel
theorem dL_law_99 : decode cL_law 99 = .ok (.ifCond .le 28, 3) := by decide +kernel
theorem dL_law_102 : decode cL_law 102 = .ok (.iload 6, 2) := by decide +kernel
theorem dL_law_104 : decode cL_law 104 = .ok (.ifCond .eq 21, 3) := by decide +kernel
theorem dL_law_107 : decode cL_law 107 = .ok (.aload_n 1, 1) := by decide +kernel
theorem dL_law_108 : decode cL_law 108 = .ok (.iconst 1, 1) := by decide +kernel
theorem dL_law_109 : decode cL_law 109 = .ok (.invokevirtual 9, 3) := by decide +kernel
theorem dL_law_112 : decode cL_law 112 = .ok (.iconst 1, 1) := by decide +kernel
theorem dL_law_113 : decode cL_law 113 = .ok (.if_icmp .le 14, 3) := by decide +kernel
theorem dL_law_116 : decode cL_law 116 = .ok (.aload_n 1, 1) := by decide +kernel
theorem dL_law_117 : decode cL_law 117 = .ok (.iconst 2, 1) := by decide +kernel
theorem dL_law_118 : decode cL_law 118 = .ok (.invokevirtual 9, 3) := by decide +kernel
theorem dL_law_121 : decode cL_law 121 = .ok (.iconst 2, 1) := by decide +kernel
theorem dL_law_122 : decode cL_law 122 = .ok (.if_icmp .ge 5, 3) := by decide +kernel
theorem dL_law_125 : decode cL_law 125 = .ok (.iconst 0, 1) := by decide +kernel
theorem dL_law_126 : decode cL_law 126 = .ok (.ireturn, 1) := by decide +kernel
theorem dL_law_127 : decode cL_law 127 = .ok (.aload_n 1, 1) := by decide +kernel
theorem dL_law_128 : decode cL_law 128 = .ok (.iconst 1, 1) := by decide +kernel
theorem dL_law_129 : decode cL_law 129 = .ok (.invokevirtual 9, 3) := by decide +kernel
theorem dL_law_132 : decode cL_law 132 = .ok (.bipush 6, 2) := by decide +kernel
theorem dL_law_134 : decode cL_law 134 = .ok (.if_icmp .ge 41, 3) := by decide +kernel
theorem dL_law_137 : decode cL_law 137 = .ok (.aload_n 1, 1) := by decide +kernel
theorem dL_law_138 : decode cL_law 138 = .ok (.iload 5, 2) := by decide +kernel
theorem dL_law_140 : decode cL_law 140 = .ok (.bipush 8, 2) := by decide +kernel
theorem dL_law_142 : decode cL_law 142 = .ok (.ishr, 1) := by decide +kernel
theorem dL_law_143 : decode cL_law 143 = .ok (.aload_n 1, 1) := by decide +kernel
theorem dL_law_144 : decode cL_law 144 = .ok (.iconst 1, 1) := by decide +kernel
theorem dL_law_145 : decode cL_law 145 = .ok (.invokevirtual 9, 3) := by decide +kernel
theorem dL_law_148 : decode cL_law 148 = .ok (.iconst 1, 1) := by decide +kernel
theorem dL_law_149 : decode cL_law 149 = .ok (.iadd, 1) := by decide +kernel
theorem dL_law_150 : decode cL_law 150 = .ok (.invokestatic 15, 3) := by decide +kernel
theorem dL_law_153 : decode cL_law 153 = .ok (.invokestatic 101, 3) := by decide +kernel
theorem dL_law_156 : decode cL_law 156 = .ok (.ifCond .eq 17, 3) := by decide +kernel
theorem dL_law_159 : decode cL_law 159 = .ok (.aload_n 1, 1) := by decide +kernel
theorem dL_law_160 : decode cL_law 160 = .ok (.invokestatic 105, 3) := by decide +kernel
theorem dL_law_163 : decode cL_law 163 = .ok (.ifCond .eq 10, 3) := by decide +kernel
theorem dL_law_166 : decode cL_law 166 = .ok (.aload_n 1, 1) := by decide +kernel
theorem dL_law_167 : decode cL_law 167 = .ok (.invokestatic 109, 3) := by decide +kernel
theorem dL_law_170 : decode cL_law 170 = .ok (.ifCond .ne 5, 3) := by decide +kernel
theorem dL_law_173 : decode cL_law 173 = .ok (.iconst 0, 1) := by decide +kernel
theorem dL_law_174 : decode cL_law 174 = .ok (.ireturn, 1) := by decide +kernel
theorem dL_law_175 : decode cL_law 175 = .ok (.iinc 3 1, 3) := by decide +kernel
theorem dL_law_178 : decode cL_law 178 = .ok (.goto (-160), 3) := by decide +kernel
theorem dL_law_181 : decode cL_law 181 = .ok (.aload_n 1, 1) := by decide +kernel
theorem dL_law_182 : decode cL_law 182 = .ok (.aload_n 2, 1) := by decide +kernel
theorem dL_law_183 : decode cL_law 183 = .ok (.invokestatic 112, 3) := by decide +kernel
theorem dL_law_186 : decode cL_law 186 = .ok (.ifCond .eq 34, 3) := by decide +kernel
theorem dL_law_189 : decode cL_law 189 = .ok (.aload_n 1, 1) := by decide +kernel
theorem dL_law_190 : decode cL_law 190 = .ok (.iconst 2, 1) := by decide +kernel
theorem dL_law_191 : decode cL_law 191 = .ok (.invokestatic 116, 3) := by decide +kernel
theorem dL_law_194 : decode cL_law 194 = .ok (.ifCond .eq 26, 3) := by decide +kernel
theorem dL_law_197 : decode cL_law 197 = .ok (.aload_n 1, 1) := by decide +kernel
theorem dL_law_198 : decode cL_law 198 = .ok (.iconst 1, 1) := by decide +kernel
theorem dL_law_199 : decode cL_law 199 = .ok (.aload_n 0, 1) := by decide +kernel
theorem dL_law_200 : decode cL_law 200 = .ok (.bipush 28, 2) := by decide +kernel
theorem dL_law_202 : decode cL_law 202 = .ok (.invokestatic 94, 3) := by decide +kernel
theorem dL_law_205 : decode cL_law 205 = .ok (.iconst 2, 1) := by decide +kernel
theorem dL_law_206 : decode cL_law 206 = .ok (.invokestatic 15, 3) := by decide +kernel
theorem dL_law_209 : decode cL_law 209 = .ok (.iadd, 1) := by decide +kernel
theorem dL_law_210 : decode cL_law 210 = .ok (.invokestatic 119, 3) := by decide +kernel
theorem dL_law_213 : decode cL_law 213 = .ok (.ifCond .eq 7, 3) := by decide +kernel
theorem dL_law_216 : decode cL_law 216 = .ok (.iconst 1, 1) := by decide +kernel
theorem dL_law_217 : decode cL_law 217 = .ok (.goto 4, 3) := by decide +kernel
theorem dL_law_220 : decode cL_law 220 = .ok (.iconst 0, 1) := by decide +kernel
theorem dL_law_221 : decode cL_law 221 = .ok (.ireturn, 1) := by decide +kernel
