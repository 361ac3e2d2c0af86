theorem dX7_init_0 : decode cX7_init 0 = .ok (.aload_n 0, 1) := by decide +kernel
theorem dX7_init_1 : decode cX7_init 1 = .ok (.invokespecial 1, 3) := by decide +kernel
theorem dX7_init_4 : decode cX7_init 4 = .ok (.aload_n 0, 1) := by decide +kernel
theorem dX7_init_5 : decode cX7_init 5 = .ok (.new 7, 3) := by decide +kernel
theorem dX7_init_8 : decode cX7_init 8 = .ok (.dup, 1) := by decide +kernel
theorem dX7_init_9 : decode cX7_init 9 = .ok (.invokespecial 9, 3) := by decide +kernel
theorem dX7_init_12 : decode cX7_init 12 = .ok (.putfield 10, 3) := by decide +kernel
theorem dX7_init_15 : decode cX7_init 15 = .ok (.aload_n 0, 1) := by decide +kernel
theorem dX7_init_16 : decode cX7_init 16 = .ok (.new 16, 3) := by decide +kernel
theorem dX7_init_19 : decode cX7_init 19 = .ok (.dup, 1) := by decide +kernel
theorem dX7_init_20 : decode cX7_init 20 = .ok (.invokespecial 18, 3) := by decide +kernel
theorem dX7_init_23 : decode cX7_init 23 = .ok (.putfield 19, 3) := by decide +kernel
theorem dX7_init_26 : decode cX7_init 26 = .ok (.aload_n 0, 1) := by decide +kernel
theorem dX7_init_27 : decode cX7_init 27 = .ok (.iconst 2, 1) := by decide +kernel
theorem dX7_init_28 : decode cX7_init 28 = .ok (.anewarray 7, 3) := by decide +kernel
theorem dX7_init_31 : decode cX7_init 31 = .ok (.putfield 23, 3) := by decide +kernel
theorem dX7_init_34 : decode cX7_init 34 = .ok (.aload_n 0, 1) := by decide +kernel
theorem dX7_init_35 : decode cX7_init 35 = .ok (.iconst 2, 1) := by decide +kernel
theorem dX7_init_36 : decode cX7_init 36 = .ok (.newarray .boolean, 2) := by decide +kernel
theorem dX7_init_38 : decode cX7_init 38 = .ok (.putfield 27, 3) := by decide +kernel
theorem dX7_init_41 : decode cX7_init 41 = .ok (.aload_n 0, 1) := by decide +kernel
theorem dX7_init_42 : decode cX7_init 42 = .ok (.new 31, 3) := by decide +kernel
theorem dX7_init_45 : decode cX7_init 45 = .ok (.dup, 1) := by decide +kernel
theorem dX7_init_46 : decode cX7_init 46 = .ok (.invokespecial 33, 3) := by decide +kernel
theorem dX7_init_49 : decode cX7_init 49 = .ok (.putfield 34, 3) := by decide +kernel
theorem dX7_init_52 : decode cX7_init 52 = .ok (.aload_n 0, 1) := by decide +kernel
theorem dX7_init_53 : decode cX7_init 53 = .ok (.new 38, 3) := by decide +kernel
theorem dX7_init_56 : decode cX7_init 56 = .ok (.dup, 1) := by decide +kernel
theorem dX7_init_57 : decode cX7_init 57 = .ok (.invokespecial 40, 3) := by decide +kernel
theorem dX7_init_60 : decode cX7_init 60 = .ok (.putfield 41, 3) := by decide +kernel
theorem dX7_init_63 : decode cX7_init 63 = .ok (.aload_n 0, 1) := by decide +kernel
theorem dX7_init_64 : decode cX7_init 64 = .ok (.new 45, 3) := by decide +kernel
theorem dX7_init_67 : decode cX7_init 67 = .ok (.dup, 1) := by decide +kernel
theorem dX7_init_68 : decode cX7_init 68 = .ok (.invokespecial 47, 3) := by decide +kernel
theorem dX7_init_71 : decode cX7_init 71 = .ok (.putfield 48, 3) := by decide +kernel
theorem dX7_init_74 : decode cX7_init 74 = .ok (.aload_n 0, 1) := by decide +kernel
theorem dX7_init_75 : decode cX7_init 75 = .ok (.new 52, 3) := by decide +kernel
theorem dX7_init_78 : decode cX7_init 78 = .ok (.dup, 1) := by decide +kernel
theorem dX7_init_79 : decode cX7_init 79 = .ok (.invokespecial 54, 3) := by decide +kernel
theorem dX7_init_82 : decode cX7_init 82 = .ok (.putfield 55, 3) := by decide +kernel
theorem dX7_init_85 : decode cX7_init 85 = .ok (.aload_n 0, 1) := by decide +kernel
theorem dX7_init_86 : decode cX7_init 86 = .ok (.iconst 0, 1) := by decide +kernel
theorem dX7_init_87 : decode cX7_init 87 = .ok (.putfield 59, 3) := by decide +kernel
theorem dX7_init_90 : decode cX7_init 90 = .ok (.aload_n 0, 1) := by decide +kernel
theorem dX7_init_91 : decode cX7_init 91 = .ok (.iconst 0, 1) := by decide +kernel
theorem dX7_init_92 : decode cX7_init 92 = .ok (.putfield 63, 3) := by decide +kernel
theorem dX7_init_95 : decode cX7_init 95 = .ok (.aload_n 0, 1) := by decide +kernel
theorem dX7_init_96 : decode cX7_init 96 = .ok (.iconst (-1), 1) := by decide +kernel
theorem dX7_init_97 : decode cX7_init 97 = .ok (.putfield 67, 3) := by decide +kernel
theorem dX7_init_100 : decode cX7_init 100 = .ok (.aload_n 0, 1) := by decide +kernel
theorem dX7_init_101 : decode cX7_init 101 = .ok (.iconst 0, 1) := by decide +kernel
theorem dX7_init_102 : decode cX7_init 102 = .ok (.putfield 70, 3) := by decide +kernel
theorem dX7_init_105 : decode cX7_init 105 = .ok (.iconst 0, 1) := by decide +kernel
theorem dX7_init_106 : decode cX7_init 106 = .ok (.istore_n 1, 1) := by decide +kernel
theorem dX7_init_107 : decode cX7_init 107 = .ok (.iload_n 1, 1) := by decide +kernel
theorem dX7_init_108 : decode cX7_init 108 = .ok (.iconst 2, 1) := by decide +kernel
theorem dX7_init_109 : decode cX7_init 109 = .ok (.if_icmp .ge 22, 3) := by decide +kernel
theorem dX7_init_112 : decode cX7_init 112 = .ok (.aload_n 0, 1) := by decide +kernel
theorem dX7_init_113 : decode cX7_init 113 = .ok (.getfield 23, 3) := by decide +kernel
theorem dX7_init_116 : decode cX7_init 116 = .ok (.iload_n 1, 1) := by decide +kernel
theorem dX7_init_117 : decode cX7_init 117 = .ok (.new 7, 3) := by decide +kernel
theorem dX7_init_120 : decode cX7_init 120 = .ok (.dup, 1) := by decide +kernel
theorem dX7_init_121 : decode cX7_init 121 = .ok (.invokespecial 9, 3) := by decide +kernel
theorem dX7_init_124 : decode cX7_init 124 = .ok (.aastore, 1) := by decide +kernel
theorem dX7_init_125 : decode cX7_init 125 = .ok (.iinc 1 1, 3) := by decide +kernel
theorem dX7_init_128 : decode cX7_init 128 = .ok (.goto (-21), 3) := by decide +kernel
theorem dX7_init_131 : decode cX7_init 131 = .ok (.return_, 1) := by decide +kernel
theorem dX7_begin_0 : decode cX7_begin 0 = .ok (.iload_n 1, 1) := by decide +kernel
theorem dX7_begin_1 : decode cX7_begin 1 = .ok (.ifCond .lt 9, 3) := by decide +kernel
theorem dX7_begin_4 : decode cX7_begin 4 = .ok (.iload_n 1, 1) := by decide +kernel
theorem dX7_begin_5 : decode cX7_begin 5 = .ok (.bipush 36, 2) := by decide +kernel
theorem dX7_begin_7 : decode cX7_begin 7 = .ok (.if_icmp .le 5, 3) := by decide +kernel
theorem dX7_begin_10 : decode cX7_begin 10 = .ok (.iconst (-1), 1) := by decide +kernel
theorem dX7_begin_11 : decode cX7_begin 11 = .ok (.ireturn, 1) := by decide +kernel
theorem dX7_begin_12 : decode cX7_begin 12 = .ok (.aload_n 0, 1) := by decide +kernel
theorem dX7_begin_13 : decode cX7_begin 13 = .ok (.getfield 10, 3) := by decide +kernel
theorem dX7_begin_16 : decode cX7_begin 16 = .ok (.getfield 73, 3) := by decide +kernel
theorem dX7_begin_19 : decode cX7_begin 19 = .ok (.istore_n 2, 1) := by decide +kernel
theorem dX7_begin_20 : decode cX7_begin 20 = .ok (.aload_n 0, 1) := by decide +kernel
theorem dX7_begin_21 : decode cX7_begin 21 = .ok (.invokevirtual 76, 3) := by decide +kernel
theorem dX7_begin_24 : decode cX7_begin 24 = .ok (.pop, 1) := by decide +kernel
theorem dX7_begin_25 : decode cX7_begin 25 = .ok (.aload_n 0, 1) := by decide +kernel
theorem dX7_begin_26 : decode cX7_begin 26 = .ok (.getfield 10, 3) := by decide +kernel
theorem dX7_begin_29 : decode cX7_begin 29 = .ok (.iload_n 1, 1) := by decide +kernel
theorem dX7_begin_30 : decode cX7_begin 30 = .ok (.invokevirtual 80, 3) := by decide +kernel
theorem dX7_begin_33 : decode cX7_begin 33 = .ok (.iload_n 2, 1) := by decide +kernel
theorem dX7_begin_34 : decode cX7_begin 34 = .ok (.ireturn, 1) := by decide +kernel
theorem dX7_addColumn_0 : decode cX7_addColumn 0 = .ok (.iload_n 1, 1) := by decide +kernel
theorem dX7_addColumn_1 : decode cX7_addColumn 1 = .ok (.invokestatic 84, 3) := by decide +kernel
theorem dX7_addColumn_4 : decode cX7_addColumn 4 = .ok (.ifCond .ne 5, 3) := by decide +kernel
theorem dX7_addColumn_7 : decode cX7_addColumn 7 = .ok (.iconst (-1), 1) := by decide +kernel
theorem dX7_addColumn_8 : decode cX7_addColumn 8 = .ok (.ireturn, 1) := by decide +kernel
theorem dX7_addColumn_9 : decode cX7_addColumn 9 = .ok (.aload_n 0, 1) := by decide +kernel
theorem dX7_addColumn_10 : decode cX7_addColumn 10 = .ok (.getfield 10, 3) := by decide +kernel
theorem dX7_addColumn_13 : decode cX7_addColumn 13 = .ok (.getfield 88, 3) := by decide +kernel
theorem dX7_addColumn_16 : decode cX7_addColumn 16 = .ok (.bipush 7, 2) := by decide +kernel
theorem dX7_addColumn_18 : decode cX7_addColumn 18 = .ok (.if_icmp .lt 6, 3) := by decide +kernel
theorem dX7_addColumn_21 : decode cX7_addColumn 21 = .ok (.bipush (-3), 2) := by decide +kernel
theorem dX7_addColumn_23 : decode cX7_addColumn 23 = .ok (.ireturn, 1) := by decide +kernel
theorem dX7_addColumn_24 : decode cX7_addColumn 24 = .ok (.aload_n 0, 1) := by decide +kernel
theorem dX7_addColumn_25 : decode cX7_addColumn 25 = .ok (.invokevirtual 76, 3) := by decide +kernel
theorem dX7_addColumn_28 : decode cX7_addColumn 28 = .ok (.pop, 1) := by decide +kernel
theorem dX7_addColumn_29 : decode cX7_addColumn 29 = .ok (.aload_n 0, 1) := by decide +kernel
theorem dX7_addColumn_30 : decode cX7_addColumn 30 = .ok (.getfield 10, 3) := by decide +kernel
theorem dX7_addColumn_33 : decode cX7_addColumn 33 = .ok (.iload_n 1, 1) := by decide +kernel
theorem dX7_addColumn_34 : decode cX7_addColumn 34 = .ok (.invokevirtual 91, 3) := by decide +kernel
theorem dX7_addColumn_37 : decode cX7_addColumn 37 = .ok (.ireturn, 1) := by decide +kernel
theorem dX7_dropColumn_0 : decode cX7_dropColumn 0 = .ok (.aload_n 0, 1) := by decide +kernel
theorem dX7_dropColumn_1 : decode cX7_dropColumn 1 = .ok (.getfield 10, 3) := by decide +kernel
theorem dX7_dropColumn_4 : decode cX7_dropColumn 4 = .ok (.iload_n 1, 1) := by decide +kernel
theorem dX7_dropColumn_5 : decode cX7_dropColumn 5 = .ok (.invokevirtual 95, 3) := by decide +kernel
theorem dX7_dropColumn_8 : decode cX7_dropColumn 8 = .ok (.ifCond .ne 5, 3) := by decide +kernel
theorem dX7_dropColumn_11 : decode cX7_dropColumn 11 = .ok (.iconst (-1), 1) := by decide +kernel
theorem dX7_dropColumn_12 : decode cX7_dropColumn 12 = .ok (.ireturn, 1) := by decide +kernel
theorem dX7_dropColumn_13 : decode cX7_dropColumn 13 = .ok (.aload_n 0, 1) := by decide +kernel
theorem dX7_dropColumn_14 : decode cX7_dropColumn 14 = .ok (.invokevirtual 76, 3) := by decide +kernel
theorem dX7_dropColumn_17 : decode cX7_dropColumn 17 = .ok (.pop, 1) := by decide +kernel
theorem dX7_dropColumn_18 : decode cX7_dropColumn 18 = .ok (.aload_n 0, 1) := by decide +kernel
theorem dX7_dropColumn_19 : decode cX7_dropColumn 19 = .ok (.getfield 10, 3) := by decide +kernel
theorem dX7_dropColumn_22 : decode cX7_dropColumn 22 = .ok (.iload_n 1, 1) := by decide +kernel
theorem dX7_dropColumn_23 : decode cX7_dropColumn 23 = .ok (.invokevirtual 98, 3) := by decide +kernel
theorem dX7_dropColumn_26 : decode cX7_dropColumn 26 = .ok (.aload_n 0, 1) := by decide +kernel
theorem dX7_dropColumn_27 : decode cX7_dropColumn 27 = .ok (.getfield 10, 3) := by decide +kernel
theorem dX7_dropColumn_30 : decode cX7_dropColumn 30 = .ok (.getfield 88, 3) := by decide +kernel
theorem dX7_dropColumn_33 : decode cX7_dropColumn 33 = .ok (.ireturn, 1) := by decide +kernel
theorem dX7_put_0 : decode cX7_put 0 = .ok (.aload_n 0, 1) := by decide +kernel
theorem dX7_put_1 : decode cX7_put 1 = .ok (.getfield 10, 3) := by decide +kernel
theorem dX7_put_4 : decode cX7_put 4 = .ok (.iload_n 1, 1) := by decide +kernel
theorem dX7_put_5 : decode cX7_put 5 = .ok (.invokevirtual 101, 3) := by decide +kernel
theorem dX7_put_8 : decode cX7_put 8 = .ok (.ifCond .eq 31, 3) := by decide +kernel
theorem dX7_put_11 : decode cX7_put 11 = .ok (.aload_n 0, 1) := by decide +kernel
theorem dX7_put_12 : decode cX7_put 12 = .ok (.getfield 10, 3) := by decide +kernel
theorem dX7_put_15 : decode cX7_put 15 = .ok (.iload_n 2, 1) := by decide +kernel
theorem dX7_put_16 : decode cX7_put 16 = .ok (.invokevirtual 95, 3) := by decide +kernel
theorem dX7_put_19 : decode cX7_put 19 = .ok (.ifCond .eq 20, 3) := by decide +kernel
theorem dX7_put_22 : decode cX7_put 22 = .ok (.iload_n 3, 1) := by decide +kernel
theorem dX7_put_23 : decode cX7_put 23 = .ok (.ifCond .lt 16, 3) := by decide +kernel
theorem dX7_put_26 : decode cX7_put 26 = .ok (.iload_n 3, 1) := by decide +kernel
theorem dX7_put_27 : decode cX7_put 27 = .ok (.aload_n 0, 1) := by decide +kernel
theorem dX7_put_28 : decode cX7_put 28 = .ok (.getfield 10, 3) := by decide +kernel
theorem dX7_put_31 : decode cX7_put 31 = .ok (.getfield 104, 3) := by decide +kernel
theorem dX7_put_34 : decode cX7_put 34 = .ok (.iload_n 2, 1) := by decide +kernel
theorem dX7_put_35 : decode cX7_put 35 = .ok (.iaload, 1) := by decide +kernel
theorem dX7_put_36 : decode cX7_put 36 = .ok (.if_icmp .lt 5, 3) := by decide +kernel
theorem dX7_put_39 : decode cX7_put 39 = .ok (.iconst (-1), 1) := by decide +kernel
theorem dX7_put_40 : decode cX7_put 40 = .ok (.ireturn, 1) := by decide +kernel
theorem dX7_put_41 : decode cX7_put 41 = .ok (.aload_n 0, 1) := by decide +kernel
theorem dX7_put_42 : decode cX7_put 42 = .ok (.getfield 10, 3) := by decide +kernel
theorem dX7_put_45 : decode cX7_put 45 = .ok (.iload_n 1, 1) := by decide +kernel
theorem dX7_put_46 : decode cX7_put 46 = .ok (.iload_n 2, 1) := by decide +kernel
theorem dX7_put_47 : decode cX7_put 47 = .ok (.invokevirtual 108, 3) := by decide +kernel
theorem dX7_put_50 : decode cX7_put 50 = .ok (.istore 4, 2) := by decide +kernel
theorem dX7_put_52 : decode cX7_put 52 = .ok (.aload_n 0, 1) := by decide +kernel
theorem dX7_put_53 : decode cX7_put 53 = .ok (.invokevirtual 76, 3) := by decide +kernel
theorem dX7_put_56 : decode cX7_put 56 = .ok (.pop, 1) := by decide +kernel
theorem dX7_put_57 : decode cX7_put 57 = .ok (.aload_n 0, 1) := by decide +kernel
theorem dX7_put_58 : decode cX7_put 58 = .ok (.getfield 10, 3) := by decide +kernel
theorem dX7_put_61 : decode cX7_put 61 = .ok (.iload_n 1, 1) := by decide +kernel
theorem dX7_put_62 : decode cX7_put 62 = .ok (.iload_n 2, 1) := by decide +kernel
theorem dX7_put_63 : decode cX7_put 63 = .ok (.iload_n 3, 1) := by decide +kernel
theorem dX7_put_64 : decode cX7_put 64 = .ok (.invokevirtual 112, 3) := by decide +kernel
theorem dX7_put_67 : decode cX7_put 67 = .ok (.iload 4, 2) := by decide +kernel
theorem dX7_put_69 : decode cX7_put 69 = .ok (.ireturn, 1) := by decide +kernel
theorem dX7_dropRow_0 : decode cX7_dropRow 0 = .ok (.aload_n 0, 1) := by decide +kernel
theorem dX7_dropRow_1 : decode cX7_dropRow 1 = .ok (.getfield 10, 3) := by decide +kernel
theorem dX7_dropRow_4 : decode cX7_dropRow 4 = .ok (.iload_n 1, 1) := by decide +kernel
theorem dX7_dropRow_5 : decode cX7_dropRow 5 = .ok (.invokevirtual 101, 3) := by decide +kernel
theorem dX7_dropRow_8 : decode cX7_dropRow 8 = .ok (.ifCond .ne 5, 3) := by decide +kernel
theorem dX7_dropRow_11 : decode cX7_dropRow 11 = .ok (.iconst (-1), 1) := by decide +kernel
theorem dX7_dropRow_12 : decode cX7_dropRow 12 = .ok (.ireturn, 1) := by decide +kernel
theorem dX7_dropRow_13 : decode cX7_dropRow 13 = .ok (.aload_n 0, 1) := by decide +kernel
theorem dX7_dropRow_14 : decode cX7_dropRow 14 = .ok (.invokevirtual 76, 3) := by decide +kernel
theorem dX7_dropRow_17 : decode cX7_dropRow 17 = .ok (.pop, 1) := by decide +kernel
theorem dX7_dropRow_18 : decode cX7_dropRow 18 = .ok (.aload_n 0, 1) := by decide +kernel
theorem dX7_dropRow_19 : decode cX7_dropRow 19 = .ok (.getfield 10, 3) := by decide +kernel
theorem dX7_dropRow_22 : decode cX7_dropRow 22 = .ok (.iload_n 1, 1) := by decide +kernel
theorem dX7_dropRow_23 : decode cX7_dropRow 23 = .ok (.invokevirtual 116, 3) := by decide +kernel
theorem dX7_dropRow_26 : decode cX7_dropRow 26 = .ok (.aload_n 0, 1) := by decide +kernel
theorem dX7_dropRow_27 : decode cX7_dropRow 27 = .ok (.getfield 10, 3) := by decide +kernel
theorem dX7_dropRow_30 : decode cX7_dropRow 30 = .ok (.getfield 73, 3) := by decide +kernel
theorem dX7_dropRow_33 : decode cX7_dropRow 33 = .ok (.ireturn, 1) := by decide +kernel
theorem dX7_dropCopies_0 : decode cX7_dropCopies 0 = .ok (.aload_n 0, 1) := by decide +kernel
theorem dX7_dropCopies_1 : decode cX7_dropCopies 1 = .ok (.invokevirtual 76, 3) := by decide +kernel
theorem dX7_dropCopies_4 : decode cX7_dropCopies 4 = .ok (.astore_n 1, 1) := by decide +kernel
theorem dX7_dropCopies_5 : decode cX7_dropCopies 5 = .ok (.aload_n 0, 1) := by decide +kernel
theorem dX7_dropCopies_6 : decode cX7_dropCopies 6 = .ok (.getfield 10, 3) := by decide +kernel
theorem dX7_dropCopies_9 : decode cX7_dropCopies 9 = .ok (.invokevirtual 119, 3) := by decide +kernel
theorem dX7_dropCopies_12 : decode cX7_dropCopies 12 = .ok (.aload_n 1, 1) := by decide +kernel
theorem dX7_dropCopies_13 : decode cX7_dropCopies 13 = .ok (.getfield 73, 3) := by decide +kernel
theorem dX7_dropCopies_16 : decode cX7_dropCopies 16 = .ok (.aload_n 0, 1) := by decide +kernel
theorem dX7_dropCopies_17 : decode cX7_dropCopies 17 = .ok (.getfield 10, 3) := by decide +kernel
theorem dX7_dropCopies_20 : decode cX7_dropCopies 20 = .ok (.getfield 73, 3) := by decide +kernel
theorem dX7_dropCopies_23 : decode cX7_dropCopies 23 = .ok (.isub, 1) := by decide +kernel
theorem dX7_dropCopies_24 : decode cX7_dropCopies 24 = .ok (.ireturn, 1) := by decide +kernel
theorem dX7_sort_0 : decode cX7_sort 0 = .ok (.aload_n 0, 1) := by decide +kernel
theorem dX7_sort_1 : decode cX7_sort 1 = .ok (.invokevirtual 76, 3) := by decide +kernel
theorem dX7_sort_4 : decode cX7_sort 4 = .ok (.pop, 1) := by decide +kernel
theorem dX7_sort_5 : decode cX7_sort 5 = .ok (.aload_n 0, 1) := by decide +kernel
theorem dX7_sort_6 : decode cX7_sort 6 = .ok (.getfield 10, 3) := by decide +kernel
theorem dX7_sort_9 : decode cX7_sort 9 = .ok (.invokevirtual 122, 3) := by decide +kernel
theorem dX7_sort_12 : decode cX7_sort 12 = .ok (.ireturn, 1) := by decide +kernel
theorem dX7_factorial_0 : decode cX7_factorial 0 = .ok (.iload_n 1, 1) := by decide +kernel
theorem dX7_factorial_1 : decode cX7_factorial 1 = .ok (.iconst 2, 1) := by decide +kernel
theorem dX7_factorial_2 : decode cX7_factorial 2 = .ok (.if_icmp .lt 16, 3) := by decide +kernel
theorem dX7_factorial_5 : decode cX7_factorial 5 = .ok (.iload_n 1, 1) := by decide +kernel
theorem dX7_factorial_6 : decode cX7_factorial 6 = .ok (.ldc 126, 2) := by decide +kernel
theorem dX7_factorial_8 : decode cX7_factorial 8 = .ok (.if_icmp .gt 10, 3) := by decide +kernel
theorem dX7_factorial_11 : decode cX7_factorial 11 = .ok (.iload_n 1, 1) := by decide +kernel
theorem dX7_factorial_12 : decode cX7_factorial 12 = .ok (.invokestatic 127, 3) := by decide +kernel
theorem dX7_factorial_15 : decode cX7_factorial 15 = .ok (.ifCond .ne 5, 3) := by decide +kernel
theorem dX7_factorial_18 : decode cX7_factorial 18 = .ok (.iconst (-1), 1) := by decide +kernel
theorem dX7_factorial_19 : decode cX7_factorial 19 = .ok (.ireturn, 1) := by decide +kernel
theorem dX7_factorial_20 : decode cX7_factorial 20 = .ok (.iconst 1, 1) := by decide +kernel
theorem dX7_factorial_21 : decode cX7_factorial 21 = .ok (.istore_n 2, 1) := by decide +kernel
theorem dX7_factorial_22 : decode cX7_factorial 22 = .ok (.iload_n 1, 1) := by decide +kernel
theorem dX7_factorial_23 : decode cX7_factorial 23 = .ok (.istore_n 3, 1) := by decide +kernel
theorem dX7_factorial_24 : decode cX7_factorial 24 = .ok (.iload_n 3, 1) := by decide +kernel
theorem dX7_factorial_25 : decode cX7_factorial 25 = .ok (.ifCond .le 18, 3) := by decide +kernel
theorem dX7_factorial_28 : decode cX7_factorial 28 = .ok (.iload_n 2, 1) := by decide +kernel
theorem dX7_factorial_29 : decode cX7_factorial 29 = .ok (.iload_n 3, 1) := by decide +kernel
theorem dX7_factorial_30 : decode cX7_factorial 30 = .ok (.bipush 10, 2) := by decide +kernel
theorem dX7_factorial_32 : decode cX7_factorial 32 = .ok (.irem, 1) := by decide +kernel
theorem dX7_factorial_33 : decode cX7_factorial 33 = .ok (.imul, 1) := by decide +kernel
theorem dX7_factorial_34 : decode cX7_factorial 34 = .ok (.istore_n 2, 1) := by decide +kernel
theorem dX7_factorial_35 : decode cX7_factorial 35 = .ok (.iload_n 3, 1) := by decide +kernel
theorem dX7_factorial_36 : decode cX7_factorial 36 = .ok (.bipush 10, 2) := by decide +kernel
theorem dX7_factorial_38 : decode cX7_factorial 38 = .ok (.idiv, 1) := by decide +kernel
theorem dX7_factorial_39 : decode cX7_factorial 39 = .ok (.istore_n 3, 1) := by decide +kernel
theorem dX7_factorial_40 : decode cX7_factorial 40 = .ok (.goto (-16), 3) := by decide +kernel
theorem dX7_factorial_43 : decode cX7_factorial 43 = .ok (.iload_n 2, 1) := by decide +kernel
theorem dX7_factorial_44 : decode cX7_factorial 44 = .ok (.bipush 36, 2) := by decide +kernel
theorem dX7_factorial_46 : decode cX7_factorial 46 = .ok (.if_icmp .le 6, 3) := by decide +kernel
theorem dX7_factorial_49 : decode cX7_factorial 49 = .ok (.bipush (-3), 2) := by decide +kernel
theorem dX7_factorial_51 : decode cX7_factorial 51 = .ok (.ireturn, 1) := by decide +kernel
theorem dX7_factorial_52 : decode cX7_factorial 52 = .ok (.aload_n 0, 1) := by decide +kernel
theorem dX7_factorial_53 : decode cX7_factorial 53 = .ok (.invokevirtual 76, 3) := by decide +kernel
theorem dX7_factorial_56 : decode cX7_factorial 56 = .ok (.pop, 1) := by decide +kernel
theorem dX7_factorial_57 : decode cX7_factorial 57 = .ok (.aload_n 0, 1) := by decide +kernel
theorem dX7_factorial_58 : decode cX7_factorial 58 = .ok (.getfield 10, 3) := by decide +kernel
theorem dX7_factorial_61 : decode cX7_factorial 61 = .ok (.iload_n 1, 1) := by decide +kernel
theorem dX7_factorial_62 : decode cX7_factorial 62 = .ok (.iload_n 2, 1) := by decide +kernel
theorem dX7_factorial_63 : decode cX7_factorial 63 = .ok (.invokevirtual 130, 3) := by decide +kernel
theorem dX7_factorial_66 : decode cX7_factorial 66 = .ok (.iload_n 2, 1) := by decide +kernel
theorem dX7_factorial_67 : decode cX7_factorial 67 = .ok (.ireturn, 1) := by decide +kernel
theorem dX7_addSum_0 : decode cX7_addSum 0 = .ok (.aload_n 0, 1) := by decide +kernel
theorem dX7_addSum_1 : decode cX7_addSum 1 = .ok (.getfield 10, 3) := by decide +kernel
theorem dX7_addSum_4 : decode cX7_addSum 4 = .ok (.iload_n 1, 1) := by decide +kernel
theorem dX7_addSum_5 : decode cX7_addSum 5 = .ok (.invokevirtual 95, 3) := by decide +kernel
theorem dX7_addSum_8 : decode cX7_addSum 8 = .ok (.ifCond .eq 35, 3) := by decide +kernel
theorem dX7_addSum_11 : decode cX7_addSum 11 = .ok (.aload_n 0, 1) := by decide +kernel
theorem dX7_addSum_12 : decode cX7_addSum 12 = .ok (.getfield 10, 3) := by decide +kernel
theorem dX7_addSum_15 : decode cX7_addSum 15 = .ok (.iload_n 3, 1) := by decide +kernel
theorem dX7_addSum_16 : decode cX7_addSum 16 = .ok (.invokevirtual 95, 3) := by decide +kernel
theorem dX7_addSum_19 : decode cX7_addSum 19 = .ok (.ifCond .eq 24, 3) := by decide +kernel
theorem dX7_addSum_22 : decode cX7_addSum 22 = .ok (.aload_n 0, 1) := by decide +kernel
theorem dX7_addSum_23 : decode cX7_addSum 23 = .ok (.getfield 10, 3) := by decide +kernel
theorem dX7_addSum_26 : decode cX7_addSum 26 = .ok (.getfield 104, 3) := by decide +kernel
theorem dX7_addSum_29 : decode cX7_addSum 29 = .ok (.iload_n 1, 1) := by decide +kernel
theorem dX7_addSum_30 : decode cX7_addSum 30 = .ok (.iaload, 1) := by decide +kernel
theorem dX7_addSum_31 : decode cX7_addSum 31 = .ok (.aload_n 0, 1) := by decide +kernel
theorem dX7_addSum_32 : decode cX7_addSum 32 = .ok (.getfield 10, 3) := by decide +kernel
theorem dX7_addSum_35 : decode cX7_addSum 35 = .ok (.getfield 104, 3) := by decide +kernel
theorem dX7_addSum_38 : decode cX7_addSum 38 = .ok (.iload_n 3, 1) := by decide +kernel
theorem dX7_addSum_39 : decode cX7_addSum 39 = .ok (.iaload, 1) := by decide +kernel
theorem dX7_addSum_40 : decode cX7_addSum 40 = .ok (.if_icmp .eq 5, 3) := by decide +kernel
theorem dX7_addSum_43 : decode cX7_addSum 43 = .ok (.iconst (-1), 1) := by decide +kernel
theorem dX7_addSum_44 : decode cX7_addSum 44 = .ok (.ireturn, 1) := by decide +kernel
theorem dX7_addSum_45 : decode cX7_addSum 45 = .ok (.iload_n 2, 1) := by decide +kernel
theorem dX7_addSum_46 : decode cX7_addSum 46 = .ok (.ifCond .lt 19, 3) := by decide +kernel
theorem dX7_addSum_49 : decode cX7_addSum 49 = .ok (.iload_n 2, 1) := by decide +kernel
theorem dX7_addSum_50 : decode cX7_addSum 50 = .ok (.iconst 5, 1) := by decide +kernel
theorem dX7_addSum_51 : decode cX7_addSum 51 = .ok (.if_icmp .gt 14, 3) := by decide +kernel
theorem dX7_addSum_54 : decode cX7_addSum 54 = .ok (.iload 4, 2) := by decide +kernel
theorem dX7_addSum_56 : decode cX7_addSum 56 = .ok (.ifCond .lt 9, 3) := by decide +kernel
theorem dX7_addSum_59 : decode cX7_addSum 59 = .ok (.iload 4, 2) := by decide +kernel
theorem dX7_addSum_61 : decode cX7_addSum 61 = .ok (.iconst 5, 1) := by decide +kernel
theorem dX7_addSum_62 : decode cX7_addSum 62 = .ok (.if_icmp .le 5, 3) := by decide +kernel
theorem dX7_addSum_65 : decode cX7_addSum 65 = .ok (.iconst (-1), 1) := by decide +kernel
theorem dX7_addSum_66 : decode cX7_addSum 66 = .ok (.ireturn, 1) := by decide +kernel
theorem dX7_addSum_67 : decode cX7_addSum 67 = .ok (.aload_n 0, 1) := by decide +kernel
theorem dX7_addSum_68 : decode cX7_addSum 68 = .ok (.getfield 10, 3) := by decide +kernel
theorem dX7_addSum_71 : decode cX7_addSum 71 = .ok (.getfield 88, 3) := by decide +kernel
theorem dX7_addSum_74 : decode cX7_addSum 74 = .ok (.bipush 7, 2) := by decide +kernel
theorem dX7_addSum_76 : decode cX7_addSum 76 = .ok (.if_icmp .lt 6, 3) := by decide +kernel
theorem dX7_addSum_79 : decode cX7_addSum 79 = .ok (.bipush (-3), 2) := by decide +kernel
theorem dX7_addSum_81 : decode cX7_addSum 81 = .ok (.ireturn, 1) := by decide +kernel
theorem dX7_addSum_82 : decode cX7_addSum 82 = .ok (.aload_n 0, 1) := by decide +kernel
theorem dX7_addSum_83 : decode cX7_addSum 83 = .ok (.invokevirtual 76, 3) := by decide +kernel
theorem dX7_addSum_86 : decode cX7_addSum 86 = .ok (.pop, 1) := by decide +kernel
theorem dX7_addSum_87 : decode cX7_addSum 87 = .ok (.aload_n 0, 1) := by decide +kernel
theorem dX7_addSum_88 : decode cX7_addSum 88 = .ok (.getfield 10, 3) := by decide +kernel
theorem dX7_addSum_91 : decode cX7_addSum 91 = .ok (.getfield 104, 3) := by decide +kernel
theorem dX7_addSum_94 : decode cX7_addSum 94 = .ok (.iload_n 1, 1) := by decide +kernel
theorem dX7_addSum_95 : decode cX7_addSum 95 = .ok (.iaload, 1) := by decide +kernel
theorem dX7_addSum_96 : decode cX7_addSum 96 = .ok (.istore 5, 2) := by decide +kernel
theorem dX7_addSum_98 : decode cX7_addSum 98 = .ok (.aload_n 0, 1) := by decide +kernel
theorem dX7_addSum_99 : decode cX7_addSum 99 = .ok (.getfield 10, 3) := by decide +kernel
theorem dX7_addSum_102 : decode cX7_addSum 102 = .ok (.iload 5, 2) := by decide +kernel
theorem dX7_addSum_104 : decode cX7_addSum 104 = .ok (.invokevirtual 91, 3) := by decide +kernel
theorem dX7_addSum_107 : decode cX7_addSum 107 = .ok (.istore 6, 2) := by decide +kernel
theorem dX7_addSum_109 : decode cX7_addSum 109 = .ok (.iconst 0, 1) := by decide +kernel
theorem dX7_addSum_110 : decode cX7_addSum 110 = .ok (.istore 7, 2) := by decide +kernel
theorem dX7_addSum_112 : decode cX7_addSum 112 = .ok (.iload 7, 2) := by decide +kernel
theorem dX7_addSum_114 : decode cX7_addSum 114 = .ok (.aload_n 0, 1) := by decide +kernel
theorem dX7_addSum_115 : decode cX7_addSum 115 = .ok (.getfield 10, 3) := by decide +kernel
theorem dX7_addSum_118 : decode cX7_addSum 118 = .ok (.getfield 73, 3) := by decide +kernel
theorem dX7_addSum_121 : decode cX7_addSum 121 = .ok (.if_icmp .ge 49, 3) := by decide +kernel
theorem dX7_addSum_124 : decode cX7_addSum 124 = .ok (.aload_n 0, 1) := by decide +kernel
theorem dX7_addSum_125 : decode cX7_addSum 125 = .ok (.getfield 10, 3) := by decide +kernel
theorem dX7_addSum_128 : decode cX7_addSum 128 = .ok (.iload 7, 2) := by decide +kernel
theorem dX7_addSum_130 : decode cX7_addSum 130 = .ok (.iload 6, 2) := by decide +kernel
theorem dX7_addSum_132 : decode cX7_addSum 132 = .ok (.iload_n 2, 1) := by decide +kernel
theorem dX7_addSum_133 : decode cX7_addSum 133 = .ok (.aload_n 0, 1) := by decide +kernel
theorem dX7_addSum_134 : decode cX7_addSum 134 = .ok (.getfield 10, 3) := by decide +kernel
theorem dX7_addSum_137 : decode cX7_addSum 137 = .ok (.iload 7, 2) := by decide +kernel
theorem dX7_addSum_139 : decode cX7_addSum 139 = .ok (.iload_n 1, 1) := by decide +kernel
theorem dX7_addSum_140 : decode cX7_addSum 140 = .ok (.invokevirtual 108, 3) := by decide +kernel
theorem dX7_addSum_143 : decode cX7_addSum 143 = .ok (.imul, 1) := by decide +kernel
theorem dX7_addSum_144 : decode cX7_addSum 144 = .ok (.iload 4, 2) := by decide +kernel
theorem dX7_addSum_146 : decode cX7_addSum 146 = .ok (.aload_n 0, 1) := by decide +kernel
theorem dX7_addSum_147 : decode cX7_addSum 147 = .ok (.getfield 10, 3) := by decide +kernel
theorem dX7_addSum_150 : decode cX7_addSum 150 = .ok (.iload 7, 2) := by decide +kernel
theorem dX7_addSum_152 : decode cX7_addSum 152 = .ok (.iload_n 3, 1) := by decide +kernel
theorem dX7_addSum_153 : decode cX7_addSum 153 = .ok (.invokevirtual 108, 3) := by decide +kernel
theorem dX7_addSum_156 : decode cX7_addSum 156 = .ok (.imul, 1) := by decide +kernel
theorem dX7_addSum_157 : decode cX7_addSum 157 = .ok (.iadd, 1) := by decide +kernel
theorem dX7_addSum_158 : decode cX7_addSum 158 = .ok (.iload 5, 2) := by decide +kernel
theorem dX7_addSum_160 : decode cX7_addSum 160 = .ok (.irem, 1) := by decide +kernel
theorem dX7_addSum_161 : decode cX7_addSum 161 = .ok (.invokevirtual 112, 3) := by decide +kernel
theorem dX7_addSum_164 : decode cX7_addSum 164 = .ok (.iinc 7 1, 3) := by decide +kernel
theorem dX7_addSum_167 : decode cX7_addSum 167 = .ok (.goto (-55), 3) := by decide +kernel
theorem dX7_addSum_170 : decode cX7_addSum 170 = .ok (.iload 6, 2) := by decide +kernel
theorem dX7_addSum_172 : decode cX7_addSum 172 = .ok (.ireturn, 1) := by decide +kernel
theorem dX7_replace_0 : decode cX7_replace 0 = .ok (.aload_n 0, 1) := by decide +kernel
theorem dX7_replace_1 : decode cX7_replace 1 = .ok (.getfield 10, 3) := by decide +kernel
theorem dX7_replace_4 : decode cX7_replace 4 = .ok (.iload_n 1, 1) := by decide +kernel
theorem dX7_replace_5 : decode cX7_replace 5 = .ok (.invokevirtual 95, 3) := by decide +kernel
theorem dX7_replace_8 : decode cX7_replace 8 = .ok (.ifCond .eq 10, 3) := by decide +kernel
theorem dX7_replace_11 : decode cX7_replace 11 = .ok (.iload_n 2, 1) := by decide +kernel
theorem dX7_replace_12 : decode cX7_replace 12 = .ok (.invokestatic 134, 3) := by decide +kernel
theorem dX7_replace_15 : decode cX7_replace 15 = .ok (.ifCond .ne 5, 3) := by decide +kernel
theorem dX7_replace_18 : decode cX7_replace 18 = .ok (.iconst (-1), 1) := by decide +kernel
theorem dX7_replace_19 : decode cX7_replace 19 = .ok (.ireturn, 1) := by decide +kernel
theorem dX7_replace_20 : decode cX7_replace 20 = .ok (.aload_n 0, 1) := by decide +kernel
theorem dX7_replace_21 : decode cX7_replace 21 = .ok (.getfield 27, 3) := by decide +kernel
theorem dX7_replace_24 : decode cX7_replace 24 = .ok (.iload_n 2, 1) := by decide +kernel
theorem dX7_replace_25 : decode cX7_replace 25 = .ok (.baload, 1) := by decide +kernel
theorem dX7_replace_26 : decode cX7_replace 26 = .ok (.ifCond .eq 24, 3) := by decide +kernel
theorem dX7_replace_29 : decode cX7_replace 29 = .ok (.aload_n 0, 1) := by decide +kernel
theorem dX7_replace_30 : decode cX7_replace 30 = .ok (.getfield 23, 3) := by decide +kernel
theorem dX7_replace_33 : decode cX7_replace 33 = .ok (.iload_n 2, 1) := by decide +kernel
theorem dX7_replace_34 : decode cX7_replace 34 = .ok (.aaload, 1) := by decide +kernel
theorem dX7_replace_35 : decode cX7_replace 35 = .ok (.getfield 73, 3) := by decide +kernel
theorem dX7_replace_38 : decode cX7_replace 38 = .ok (.aload_n 0, 1) := by decide +kernel
theorem dX7_replace_39 : decode cX7_replace 39 = .ok (.getfield 10, 3) := by decide +kernel
theorem dX7_replace_42 : decode cX7_replace 42 = .ok (.getfield 104, 3) := by decide +kernel
theorem dX7_replace_45 : decode cX7_replace 45 = .ok (.iload_n 1, 1) := by decide +kernel
theorem dX7_replace_46 : decode cX7_replace 46 = .ok (.iaload, 1) := by decide +kernel
theorem dX7_replace_47 : decode cX7_replace 47 = .ok (.if_icmp .eq 6, 3) := by decide +kernel
theorem dX7_replace_50 : decode cX7_replace 50 = .ok (.bipush (-2), 2) := by decide +kernel
theorem dX7_replace_52 : decode cX7_replace 52 = .ok (.ireturn, 1) := by decide +kernel
theorem dX7_replace_53 : decode cX7_replace 53 = .ok (.aload_n 0, 1) := by decide +kernel
theorem dX7_replace_54 : decode cX7_replace 54 = .ok (.getfield 10, 3) := by decide +kernel
theorem dX7_replace_57 : decode cX7_replace 57 = .ok (.getfield 88, 3) := by decide +kernel
theorem dX7_replace_60 : decode cX7_replace 60 = .ok (.iconst 1, 1) := by decide +kernel
theorem dX7_replace_61 : decode cX7_replace 61 = .ok (.isub, 1) := by decide +kernel
theorem dX7_replace_62 : decode cX7_replace 62 = .ok (.aload_n 0, 1) := by decide +kernel
theorem dX7_replace_63 : decode cX7_replace 63 = .ok (.getfield 23, 3) := by decide +kernel
theorem dX7_replace_66 : decode cX7_replace 66 = .ok (.iload_n 2, 1) := by decide +kernel
theorem dX7_replace_67 : decode cX7_replace 67 = .ok (.aaload, 1) := by decide +kernel
theorem dX7_replace_68 : decode cX7_replace 68 = .ok (.getfield 88, 3) := by decide +kernel
theorem dX7_replace_71 : decode cX7_replace 71 = .ok (.iadd, 1) := by decide +kernel
theorem dX7_replace_72 : decode cX7_replace 72 = .ok (.bipush 7, 2) := by decide +kernel
theorem dX7_replace_74 : decode cX7_replace 74 = .ok (.if_icmp .le 6, 3) := by decide +kernel
theorem dX7_replace_77 : decode cX7_replace 77 = .ok (.bipush (-3), 2) := by decide +kernel
theorem dX7_replace_79 : decode cX7_replace 79 = .ok (.ireturn, 1) := by decide +kernel
theorem dX7_replace_80 : decode cX7_replace 80 = .ok (.aload_n 0, 1) := by decide +kernel
theorem dX7_replace_81 : decode cX7_replace 81 = .ok (.invokevirtual 76, 3) := by decide +kernel
theorem dX7_replace_84 : decode cX7_replace 84 = .ok (.astore_n 3, 1) := by decide +kernel
theorem dX7_replace_85 : decode cX7_replace 85 = .ok (.aload_n 0, 1) := by decide +kernel
theorem dX7_replace_86 : decode cX7_replace 86 = .ok (.getfield 10, 3) := by decide +kernel
theorem dX7_replace_89 : decode cX7_replace 89 = .ok (.aload_n 3, 1) := by decide +kernel
theorem dX7_replace_90 : decode cX7_replace 90 = .ok (.iload_n 1, 1) := by decide +kernel
theorem dX7_replace_91 : decode cX7_replace 91 = .ok (.aload_n 0, 1) := by decide +kernel
theorem dX7_replace_92 : decode cX7_replace 92 = .ok (.getfield 23, 3) := by decide +kernel
theorem dX7_replace_95 : decode cX7_replace 95 = .ok (.iload_n 2, 1) := by decide +kernel
theorem dX7_replace_96 : decode cX7_replace 96 = .ok (.aaload, 1) := by decide +kernel
theorem dX7_replace_97 : decode cX7_replace 97 = .ok (.invokevirtual 137, 3) := by decide +kernel
theorem dX7_replace_100 : decode cX7_replace 100 = .ok (.aload_n 0, 1) := by decide +kernel
theorem dX7_replace_101 : decode cX7_replace 101 = .ok (.getfield 10, 3) := by decide +kernel
theorem dX7_replace_104 : decode cX7_replace 104 = .ok (.getfield 88, 3) := by decide +kernel
theorem dX7_replace_107 : decode cX7_replace 107 = .ok (.ireturn, 1) := by decide +kernel
theorem dX7_develop_0 : decode cX7_develop 0 = .ok (.aload_n 0, 1) := by decide +kernel
theorem dX7_develop_1 : decode cX7_develop 1 = .ok (.getfield 10, 3) := by decide +kernel
theorem dX7_develop_4 : decode cX7_develop 4 = .ok (.getfield 73, 3) := by decide +kernel
theorem dX7_develop_7 : decode cX7_develop 7 = .ok (.ifCond .eq 13, 3) := by decide +kernel
theorem dX7_develop_10 : decode cX7_develop 10 = .ok (.aload_n 0, 1) := by decide +kernel
theorem dX7_develop_11 : decode cX7_develop 11 = .ok (.getfield 10, 3) := by decide +kernel
theorem dX7_develop_14 : decode cX7_develop 14 = .ok (.invokevirtual 141, 3) := by decide +kernel
theorem dX7_develop_17 : decode cX7_develop 17 = .ok (.ifCond .ne 6, 3) := by decide +kernel
theorem dX7_develop_20 : decode cX7_develop 20 = .ok (.bipush (-2), 2) := by decide +kernel
theorem dX7_develop_22 : decode cX7_develop 22 = .ok (.ireturn, 1) := by decide +kernel
theorem dX7_develop_23 : decode cX7_develop 23 = .ok (.aload_n 0, 1) := by decide +kernel
theorem dX7_develop_24 : decode cX7_develop 24 = .ok (.getfield 10, 3) := by decide +kernel
theorem dX7_develop_27 : decode cX7_develop 27 = .ok (.getfield 73, 3) := by decide +kernel
theorem dX7_develop_30 : decode cX7_develop 30 = .ok (.iconst 2, 1) := by decide +kernel
theorem dX7_develop_31 : decode cX7_develop 31 = .ok (.if_icmp .lt 19, 3) := by decide +kernel
theorem dX7_develop_34 : decode cX7_develop 34 = .ok (.aload_n 0, 1) := by decide +kernel
theorem dX7_develop_35 : decode cX7_develop 35 = .ok (.getfield 10, 3) := by decide +kernel
theorem dX7_develop_38 : decode cX7_develop 38 = .ok (.getfield 73, 3) := by decide +kernel
theorem dX7_develop_41 : decode cX7_develop 41 = .ok (.bipush 6, 2) := by decide +kernel
theorem dX7_develop_43 : decode cX7_develop 43 = .ok (.if_icmp .gt 7, 3) := by decide +kernel
theorem dX7_develop_46 : decode cX7_develop 46 = .ok (.iconst 1, 1) := by decide +kernel
theorem dX7_develop_47 : decode cX7_develop 47 = .ok (.goto 4, 3) := by decide +kernel
theorem dX7_develop_50 : decode cX7_develop 50 = .ok (.iconst 0, 1) := by decide +kernel
theorem dX7_develop_51 : decode cX7_develop 51 = .ok (.istore_n 1, 1) := by decide +kernel
theorem dX7_develop_52 : decode cX7_develop 52 = .ok (.aload_n 0, 1) := by decide +kernel
theorem dX7_develop_53 : decode cX7_develop 53 = .ok (.getfield 10, 3) := by decide +kernel
theorem dX7_develop_56 : decode cX7_develop 56 = .ok (.getfield 73, 3) := by decide +kernel
theorem dX7_develop_59 : decode cX7_develop 59 = .ok (.aload_n 0, 1) := by decide +kernel
theorem dX7_develop_60 : decode cX7_develop 60 = .ok (.getfield 10, 3) := by decide +kernel
theorem dX7_develop_63 : decode cX7_develop 63 = .ok (.getfield 104, 3) := by decide +kernel
theorem dX7_develop_66 : decode cX7_develop 66 = .ok (.iconst 0, 1) := by decide +kernel
theorem dX7_develop_67 : decode cX7_develop 67 = .ok (.iaload, 1) := by decide +kernel
theorem dX7_develop_68 : decode cX7_develop 68 = .ok (.imul, 1) := by decide +kernel
theorem dX7_develop_69 : decode cX7_develop 69 = .ok (.bipush 36, 2) := by decide +kernel
theorem dX7_develop_71 : decode cX7_develop 71 = .ok (.if_icmp .gt 17, 3) := by decide +kernel
theorem dX7_develop_74 : decode cX7_develop 74 = .ok (.aload_n 0, 1) := by decide +kernel
theorem dX7_develop_75 : decode cX7_develop 75 = .ok (.getfield 10, 3) := by decide +kernel
theorem dX7_develop_78 : decode cX7_develop 78 = .ok (.getfield 88, 3) := by decide +kernel
theorem dX7_develop_81 : decode cX7_develop 81 = .ok (.iload_n 1, 1) := by decide +kernel
theorem dX7_develop_82 : decode cX7_develop 82 = .ok (.iadd, 1) := by decide +kernel
theorem dX7_develop_83 : decode cX7_develop 83 = .ok (.bipush 7, 2) := by decide +kernel
theorem dX7_develop_85 : decode cX7_develop 85 = .ok (.if_icmp .le 6, 3) := by decide +kernel
theorem dX7_develop_88 : decode cX7_develop 88 = .ok (.bipush (-3), 2) := by decide +kernel
theorem dX7_develop_90 : decode cX7_develop 90 = .ok (.ireturn, 1) := by decide +kernel
theorem dX7_develop_91 : decode cX7_develop 91 = .ok (.aload_n 0, 1) := by decide +kernel
theorem dX7_develop_92 : decode cX7_develop 92 = .ok (.invokevirtual 76, 3) := by decide +kernel
theorem dX7_develop_95 : decode cX7_develop 95 = .ok (.astore_n 2, 1) := by decide +kernel
theorem dX7_develop_96 : decode cX7_develop 96 = .ok (.aload_n 0, 1) := by decide +kernel
theorem dX7_develop_97 : decode cX7_develop 97 = .ok (.getfield 10, 3) := by decide +kernel
theorem dX7_develop_100 : decode cX7_develop 100 = .ok (.aload_n 2, 1) := by decide +kernel
theorem dX7_develop_101 : decode cX7_develop 101 = .ok (.iload_n 1, 1) := by decide +kernel
theorem dX7_develop_102 : decode cX7_develop 102 = .ok (.iconst 1, 1) := by decide +kernel
theorem dX7_develop_103 : decode cX7_develop 103 = .ok (.if_icmp .ne 7, 3) := by decide +kernel
theorem dX7_develop_106 : decode cX7_develop 106 = .ok (.iconst 1, 1) := by decide +kernel
theorem dX7_develop_107 : decode cX7_develop 107 = .ok (.goto 4, 3) := by decide +kernel
theorem dX7_develop_110 : decode cX7_develop 110 = .ok (.iconst 0, 1) := by decide +kernel
theorem dX7_develop_111 : decode cX7_develop 111 = .ok (.invokevirtual 145, 3) := by decide +kernel
theorem dX7_develop_114 : decode cX7_develop 114 = .ok (.aload_n 0, 1) := by decide +kernel
theorem dX7_develop_115 : decode cX7_develop 115 = .ok (.getfield 10, 3) := by decide +kernel
theorem dX7_develop_118 : decode cX7_develop 118 = .ok (.getfield 73, 3) := by decide +kernel
theorem dX7_develop_121 : decode cX7_develop 121 = .ok (.ireturn, 1) := by decide +kernel
theorem dX7_undo_0 : decode cX7_undo 0 = .ok (.aload_n 0, 1) := by decide +kernel
theorem dX7_undo_1 : decode cX7_undo 1 = .ok (.getfield 19, 3) := by decide +kernel
theorem dX7_undo_4 : decode cX7_undo 4 = .ok (.getfield 149, 3) := by decide +kernel
theorem dX7_undo_7 : decode cX7_undo 7 = .ok (.ifCond .ne 6, 3) := by decide +kernel
theorem dX7_undo_10 : decode cX7_undo 10 = .ok (.bipush (-2), 2) := by decide +kernel
theorem dX7_undo_12 : decode cX7_undo 12 = .ok (.ireturn, 1) := by decide +kernel
theorem dX7_undo_13 : decode cX7_undo 13 = .ok (.aload_n 0, 1) := by decide +kernel
theorem dX7_undo_14 : decode cX7_undo 14 = .ok (.getfield 19, 3) := by decide +kernel
theorem dX7_undo_17 : decode cX7_undo 17 = .ok (.aload_n 0, 1) := by decide +kernel
theorem dX7_undo_18 : decode cX7_undo 18 = .ok (.getfield 10, 3) := by decide +kernel
theorem dX7_undo_21 : decode cX7_undo 21 = .ok (.invokevirtual 152, 3) := by decide +kernel
theorem dX7_undo_24 : decode cX7_undo 24 = .ok (.aload_n 0, 1) := by decide +kernel
theorem dX7_undo_25 : decode cX7_undo 25 = .ok (.invokevirtual 156, 3) := by decide +kernel
theorem dX7_undo_28 : decode cX7_undo 28 = .ok (.aload_n 0, 1) := by decide +kernel
theorem dX7_undo_29 : decode cX7_undo 29 = .ok (.getfield 19, 3) := by decide +kernel
theorem dX7_undo_32 : decode cX7_undo 32 = .ok (.getfield 149, 3) := by decide +kernel
theorem dX7_undo_35 : decode cX7_undo 35 = .ok (.ireturn, 1) := by decide +kernel
theorem dX7_write_0 : decode cX7_write 0 = .ok (.iload_n 1, 1) := by decide +kernel
theorem dX7_write_1 : decode cX7_write 1 = .ok (.bipush 32, 2) := by decide +kernel
theorem dX7_write_3 : decode cX7_write 3 = .ok (.if_icmp .lt 9, 3) := by decide +kernel
theorem dX7_write_6 : decode cX7_write 6 = .ok (.iload_n 1, 1) := by decide +kernel
theorem dX7_write_7 : decode cX7_write 7 = .ok (.bipush 126, 2) := by decide +kernel
theorem dX7_write_9 : decode cX7_write 9 = .ok (.if_icmp .le 5, 3) := by decide +kernel
theorem dX7_write_12 : decode cX7_write 12 = .ok (.iconst (-1), 1) := by decide +kernel
theorem dX7_write_13 : decode cX7_write 13 = .ok (.ireturn, 1) := by decide +kernel
theorem dX7_write_14 : decode cX7_write 14 = .ok (.aload_n 0, 1) := by decide +kernel
theorem dX7_write_15 : decode cX7_write 15 = .ok (.getfield 34, 3) := by decide +kernel
theorem dX7_write_18 : decode cX7_write 18 = .ok (.getfield 159, 3) := by decide +kernel
theorem dX7_write_21 : decode cX7_write 21 = .ok (.sipush 300, 3) := by decide +kernel
theorem dX7_write_24 : decode cX7_write 24 = .ok (.if_icmp .lt 6, 3) := by decide +kernel
theorem dX7_write_27 : decode cX7_write 27 = .ok (.bipush (-3), 2) := by decide +kernel
theorem dX7_write_29 : decode cX7_write 29 = .ok (.ireturn, 1) := by decide +kernel
theorem dX7_write_30 : decode cX7_write 30 = .ok (.aload_n 0, 1) := by decide +kernel
theorem dX7_write_31 : decode cX7_write 31 = .ok (.getfield 34, 3) := by decide +kernel
theorem dX7_write_34 : decode cX7_write 34 = .ok (.iload_n 1, 1) := by decide +kernel
theorem dX7_write_35 : decode cX7_write 35 = .ok (.invokevirtual 162, 3) := by decide +kernel
theorem dX7_write_38 : decode cX7_write 38 = .ok (.ireturn, 1) := by decide +kernel
theorem dX7_wipe_0 : decode cX7_wipe 0 = .ok (.aload_n 0, 1) := by decide +kernel
theorem dX7_wipe_1 : decode cX7_wipe 1 = .ok (.getfield 34, 3) := by decide +kernel
theorem dX7_wipe_4 : decode cX7_wipe 4 = .ok (.getfield 159, 3) := by decide +kernel
theorem dX7_wipe_7 : decode cX7_wipe 7 = .ok (.istore_n 1, 1) := by decide +kernel
theorem dX7_wipe_8 : decode cX7_wipe 8 = .ok (.aload_n 0, 1) := by decide +kernel
theorem dX7_wipe_9 : decode cX7_wipe 9 = .ok (.getfield 34, 3) := by decide +kernel
theorem dX7_wipe_12 : decode cX7_wipe 12 = .ok (.iconst 0, 1) := by decide +kernel
theorem dX7_wipe_13 : decode cX7_wipe 13 = .ok (.putfield 159, 3) := by decide +kernel
theorem dX7_wipe_16 : decode cX7_wipe 16 = .ok (.iload_n 1, 1) := by decide +kernel
theorem dX7_wipe_17 : decode cX7_wipe 17 = .ok (.ireturn, 1) := by decide +kernel
theorem dX7_fault_0 : decode cX7_fault 0 = .ok (.aload_n 0, 1) := by decide +kernel
theorem dX7_fault_1 : decode cX7_fault 1 = .ok (.getfield 34, 3) := by decide +kernel
theorem dX7_fault_4 : decode cX7_fault 4 = .ok (.invokevirtual 163, 3) := by decide +kernel
theorem dX7_fault_7 : decode cX7_fault 7 = .ok (.ireturn, 1) := by decide +kernel
theorem dX7_load_0 : decode cX7_load 0 = .ok (.aload_n 0, 1) := by decide +kernel
theorem dX7_load_1 : decode cX7_load 1 = .ok (.getfield 34, 3) := by decide +kernel
theorem dX7_load_4 : decode cX7_load 4 = .ok (.invokevirtual 163, 3) := by decide +kernel
theorem dX7_load_7 : decode cX7_load 7 = .ok (.bipush (-9), 2) := by decide +kernel
theorem dX7_load_9 : decode cX7_load 9 = .ok (.if_icmp .eq 6, 3) := by decide +kernel
theorem dX7_load_12 : decode cX7_load 12 = .ok (.bipush (-2), 2) := by decide +kernel
theorem dX7_load_14 : decode cX7_load 14 = .ok (.ireturn, 1) := by decide +kernel
theorem dX7_load_15 : decode cX7_load 15 = .ok (.aload_n 0, 1) := by decide +kernel
theorem dX7_load_16 : decode cX7_load 16 = .ok (.invokevirtual 76, 3) := by decide +kernel
theorem dX7_load_19 : decode cX7_load 19 = .ok (.pop, 1) := by decide +kernel
theorem dX7_load_20 : decode cX7_load 20 = .ok (.aload_n 0, 1) := by decide +kernel
theorem dX7_load_21 : decode cX7_load 21 = .ok (.getfield 34, 3) := by decide +kernel
theorem dX7_load_24 : decode cX7_load 24 = .ok (.aload_n 0, 1) := by decide +kernel
theorem dX7_load_25 : decode cX7_load 25 = .ok (.getfield 10, 3) := by decide +kernel
theorem dX7_load_28 : decode cX7_load 28 = .ok (.invokevirtual 166, 3) := by decide +kernel
theorem dX7_load_31 : decode cX7_load 31 = .ok (.aload_n 0, 1) := by decide +kernel
theorem dX7_load_32 : decode cX7_load 32 = .ok (.getfield 10, 3) := by decide +kernel
theorem dX7_load_35 : decode cX7_load 35 = .ok (.getfield 73, 3) := by decide +kernel
theorem dX7_load_38 : decode cX7_load 38 = .ok (.ireturn, 1) := by decide +kernel
theorem dX7_told_0 : decode cX7_told 0 = .ok (.iload_n 1, 1) := by decide +kernel
theorem dX7_told_1 : decode cX7_told 1 = .ok (.tableswitch 135 0 8 #[51, 59, 67, 79, 87, 103, 111, 119, 127], 51) := by decide +kernel
theorem dX7_told_52 : decode cX7_told 52 = .ok (.aload_n 0, 1) := by decide +kernel
theorem dX7_told_53 : decode cX7_told 53 = .ok (.getfield 10, 3) := by decide +kernel
theorem dX7_told_56 : decode cX7_told 56 = .ok (.getfield 73, 3) := by decide +kernel
theorem dX7_told_59 : decode cX7_told 59 = .ok (.ireturn, 1) := by decide +kernel
theorem dX7_told_60 : decode cX7_told 60 = .ok (.aload_n 0, 1) := by decide +kernel
theorem dX7_told_61 : decode cX7_told 61 = .ok (.getfield 10, 3) := by decide +kernel
theorem dX7_told_64 : decode cX7_told 64 = .ok (.getfield 88, 3) := by decide +kernel
theorem dX7_told_67 : decode cX7_told 67 = .ok (.ireturn, 1) := by decide +kernel
theorem dX7_told_68 : decode cX7_told 68 = .ok (.aload_n 0, 1) := by decide +kernel
theorem dX7_told_69 : decode cX7_told 69 = .ok (.getfield 41, 3) := by decide +kernel
theorem dX7_told_72 : decode cX7_told 72 = .ok (.aload_n 0, 1) := by decide +kernel
theorem dX7_told_73 : decode cX7_told 73 = .ok (.getfield 10, 3) := by decide +kernel
theorem dX7_told_76 : decode cX7_told 76 = .ok (.invokevirtual 169, 3) := by decide +kernel
theorem dX7_told_79 : decode cX7_told 79 = .ok (.ireturn, 1) := by decide +kernel
theorem dX7_told_80 : decode cX7_told 80 = .ok (.aload_n 0, 1) := by decide +kernel
theorem dX7_told_81 : decode cX7_told 81 = .ok (.getfield 10, 3) := by decide +kernel
theorem dX7_told_84 : decode cX7_told 84 = .ok (.invokevirtual 173, 3) := by decide +kernel
theorem dX7_told_87 : decode cX7_told 87 = .ok (.ireturn, 1) := by decide +kernel
theorem dX7_told_88 : decode cX7_told 88 = .ok (.aload_n 0, 1) := by decide +kernel
theorem dX7_told_89 : decode cX7_told 89 = .ok (.getfield 10, 3) := by decide +kernel
theorem dX7_told_92 : decode cX7_told 92 = .ok (.invokevirtual 141, 3) := by decide +kernel
theorem dX7_told_95 : decode cX7_told 95 = .ok (.ifCond .eq 7, 3) := by decide +kernel
theorem dX7_told_98 : decode cX7_told 98 = .ok (.iconst 1, 1) := by decide +kernel
theorem dX7_told_99 : decode cX7_told 99 = .ok (.goto 4, 3) := by decide +kernel
theorem dX7_told_102 : decode cX7_told 102 = .ok (.iconst 0, 1) := by decide +kernel
theorem dX7_told_103 : decode cX7_told 103 = .ok (.ireturn, 1) := by decide +kernel
theorem dX7_told_104 : decode cX7_told 104 = .ok (.aload_n 0, 1) := by decide +kernel
theorem dX7_told_105 : decode cX7_told 105 = .ok (.getfield 10, 3) := by decide +kernel
theorem dX7_told_108 : decode cX7_told 108 = .ok (.invokevirtual 176, 3) := by decide +kernel
theorem dX7_told_111 : decode cX7_told 111 = .ok (.ireturn, 1) := by decide +kernel
theorem dX7_told_112 : decode cX7_told 112 = .ok (.aload_n 0, 1) := by decide +kernel
theorem dX7_told_113 : decode cX7_told 113 = .ok (.getfield 10, 3) := by decide +kernel
theorem dX7_told_116 : decode cX7_told 116 = .ok (.invokevirtual 179, 3) := by decide +kernel
theorem dX7_told_119 : decode cX7_told 119 = .ok (.ireturn, 1) := by decide +kernel
theorem dX7_told_120 : decode cX7_told 120 = .ok (.aload_n 0, 1) := by decide +kernel
theorem dX7_told_121 : decode cX7_told 121 = .ok (.getfield 19, 3) := by decide +kernel
theorem dX7_told_124 : decode cX7_told 124 = .ok (.getfield 149, 3) := by decide +kernel
theorem dX7_told_127 : decode cX7_told 127 = .ok (.ireturn, 1) := by decide +kernel
theorem dX7_told_128 : decode cX7_told 128 = .ok (.aload_n 0, 1) := by decide +kernel
theorem dX7_told_129 : decode cX7_told 129 = .ok (.getfield 34, 3) := by decide +kernel
theorem dX7_told_132 : decode cX7_told 132 = .ok (.getfield 159, 3) := by decide +kernel
theorem dX7_told_135 : decode cX7_told 135 = .ok (.ireturn, 1) := by decide +kernel
theorem dX7_told_136 : decode cX7_told 136 = .ok (.iconst (-1), 1) := by decide +kernel
theorem dX7_told_137 : decode cX7_told 137 = .ok (.ireturn, 1) := by decide +kernel
theorem dX7_levels_0 : decode cX7_levels 0 = .ok (.aload_n 0, 1) := by decide +kernel
theorem dX7_levels_1 : decode cX7_levels 1 = .ok (.getfield 10, 3) := by decide +kernel
theorem dX7_levels_4 : decode cX7_levels 4 = .ok (.iload_n 1, 1) := by decide +kernel
theorem dX7_levels_5 : decode cX7_levels 5 = .ok (.invokevirtual 95, 3) := by decide +kernel
theorem dX7_levels_8 : decode cX7_levels 8 = .ok (.ifCond .eq 15, 3) := by decide +kernel
theorem dX7_levels_11 : decode cX7_levels 11 = .ok (.aload_n 0, 1) := by decide +kernel
theorem dX7_levels_12 : decode cX7_levels 12 = .ok (.getfield 10, 3) := by decide +kernel
theorem dX7_levels_15 : decode cX7_levels 15 = .ok (.getfield 104, 3) := by decide +kernel
theorem dX7_levels_18 : decode cX7_levels 18 = .ok (.iload_n 1, 1) := by decide +kernel
theorem dX7_levels_19 : decode cX7_levels 19 = .ok (.iaload, 1) := by decide +kernel
theorem dX7_levels_20 : decode cX7_levels 20 = .ok (.goto 4, 3) := by decide +kernel
theorem dX7_levels_23 : decode cX7_levels 23 = .ok (.iconst (-1), 1) := by decide +kernel
theorem dX7_levels_24 : decode cX7_levels 24 = .ok (.ireturn, 1) := by decide +kernel
theorem dX7_cell_0 : decode cX7_cell 0 = .ok (.aload_n 0, 1) := by decide +kernel
theorem dX7_cell_1 : decode cX7_cell 1 = .ok (.getfield 10, 3) := by decide +kernel
theorem dX7_cell_4 : decode cX7_cell 4 = .ok (.iload_n 1, 1) := by decide +kernel
theorem dX7_cell_5 : decode cX7_cell 5 = .ok (.invokevirtual 101, 3) := by decide +kernel
theorem dX7_cell_8 : decode cX7_cell 8 = .ok (.ifCond .eq 26, 3) := by decide +kernel
theorem dX7_cell_11 : decode cX7_cell 11 = .ok (.aload_n 0, 1) := by decide +kernel
theorem dX7_cell_12 : decode cX7_cell 12 = .ok (.getfield 10, 3) := by decide +kernel
theorem dX7_cell_15 : decode cX7_cell 15 = .ok (.iload_n 2, 1) := by decide +kernel
theorem dX7_cell_16 : decode cX7_cell 16 = .ok (.invokevirtual 95, 3) := by decide +kernel
theorem dX7_cell_19 : decode cX7_cell 19 = .ok (.ifCond .eq 15, 3) := by decide +kernel
theorem dX7_cell_22 : decode cX7_cell 22 = .ok (.aload_n 0, 1) := by decide +kernel
theorem dX7_cell_23 : decode cX7_cell 23 = .ok (.getfield 10, 3) := by decide +kernel
theorem dX7_cell_26 : decode cX7_cell 26 = .ok (.iload_n 1, 1) := by decide +kernel
theorem dX7_cell_27 : decode cX7_cell 27 = .ok (.iload_n 2, 1) := by decide +kernel
theorem dX7_cell_28 : decode cX7_cell 28 = .ok (.invokevirtual 108, 3) := by decide +kernel
theorem dX7_cell_31 : decode cX7_cell 31 = .ok (.goto 4, 3) := by decide +kernel
theorem dX7_cell_34 : decode cX7_cell 34 = .ok (.iconst (-1), 1) := by decide +kernel
theorem dX7_cell_35 : decode cX7_cell 35 = .ok (.ireturn, 1) := by decide +kernel
theorem dX7_count_0 : decode cX7_count 0 = .ok (.iload_n 1, 1) := by decide +kernel
theorem dX7_count_1 : decode cX7_count 1 = .ok (.ifCond .lt 32, 3) := by decide +kernel
theorem dX7_count_4 : decode cX7_count 4 = .ok (.iload_n 1, 1) := by decide +kernel
theorem dX7_count_5 : decode cX7_count 5 = .ok (.iconst 1, 1) := by decide +kernel
theorem dX7_count_6 : decode cX7_count 6 = .ok (.aload_n 0, 1) := by decide +kernel
theorem dX7_count_7 : decode cX7_count 7 = .ok (.getfield 10, 3) := by decide +kernel
theorem dX7_count_10 : decode cX7_count 10 = .ok (.getfield 88, 3) := by decide +kernel
theorem dX7_count_13 : decode cX7_count 13 = .ok (.ishl, 1) := by decide +kernel
theorem dX7_count_14 : decode cX7_count 14 = .ok (.if_icmp .ge 19, 3) := by decide +kernel
theorem dX7_count_17 : decode cX7_count 17 = .ok (.iload_n 2, 1) := by decide +kernel
theorem dX7_count_18 : decode cX7_count 18 = .ok (.ifCond .lt 15, 3) := by decide +kernel
theorem dX7_count_21 : decode cX7_count 21 = .ok (.iload_n 2, 1) := by decide +kernel
theorem dX7_count_22 : decode cX7_count 22 = .ok (.aload_n 0, 1) := by decide +kernel
theorem dX7_count_23 : decode cX7_count 23 = .ok (.getfield 10, 3) := by decide +kernel
theorem dX7_count_26 : decode cX7_count 26 = .ok (.iload_n 1, 1) := by decide +kernel
theorem dX7_count_27 : decode cX7_count 27 = .ok (.invokevirtual 182, 3) := by decide +kernel
theorem dX7_count_30 : decode cX7_count 30 = .ok (.if_icmp .lt 5, 3) := by decide +kernel
theorem dX7_count_33 : decode cX7_count 33 = .ok (.iconst (-1), 1) := by decide +kernel
theorem dX7_count_34 : decode cX7_count 34 = .ok (.ireturn, 1) := by decide +kernel
theorem dX7_count_35 : decode cX7_count 35 = .ok (.iconst 0, 1) := by decide +kernel
theorem dX7_count_36 : decode cX7_count 36 = .ok (.istore_n 3, 1) := by decide +kernel
theorem dX7_count_37 : decode cX7_count 37 = .ok (.iconst 0, 1) := by decide +kernel
theorem dX7_count_38 : decode cX7_count 38 = .ok (.istore 4, 2) := by decide +kernel
theorem dX7_count_40 : decode cX7_count 40 = .ok (.iload 4, 2) := by decide +kernel
theorem dX7_count_42 : decode cX7_count 42 = .ok (.aload_n 0, 1) := by decide +kernel
theorem dX7_count_43 : decode cX7_count 43 = .ok (.getfield 10, 3) := by decide +kernel
theorem dX7_count_46 : decode cX7_count 46 = .ok (.getfield 73, 3) := by decide +kernel
theorem dX7_count_49 : decode cX7_count 49 = .ok (.if_icmp .ge 26, 3) := by decide +kernel
theorem dX7_count_52 : decode cX7_count 52 = .ok (.aload_n 0, 1) := by decide +kernel
theorem dX7_count_53 : decode cX7_count 53 = .ok (.getfield 10, 3) := by decide +kernel
theorem dX7_count_56 : decode cX7_count 56 = .ok (.iload 4, 2) := by decide +kernel
theorem dX7_count_58 : decode cX7_count 58 = .ok (.iload_n 1, 1) := by decide +kernel
theorem dX7_count_59 : decode cX7_count 59 = .ok (.invokevirtual 185, 3) := by decide +kernel
theorem dX7_count_62 : decode cX7_count 62 = .ok (.iload_n 2, 1) := by decide +kernel
theorem dX7_count_63 : decode cX7_count 63 = .ok (.if_icmp .ne 6, 3) := by decide +kernel
theorem dX7_count_66 : decode cX7_count 66 = .ok (.iinc 3 1, 3) := by decide +kernel
theorem dX7_count_69 : decode cX7_count 69 = .ok (.iinc 4 1, 3) := by decide +kernel
theorem dX7_count_72 : decode cX7_count 72 = .ok (.goto (-32), 3) := by decide +kernel
theorem dX7_count_75 : decode cX7_count 75 = .ok (.iload_n 3, 1) := by decide +kernel
theorem dX7_count_76 : decode cX7_count 76 = .ok (.ireturn, 1) := by decide +kernel
theorem dX7_audit_0 : decode cX7_audit 0 = .ok (.iload_n 1, 1) := by decide +kernel
theorem dX7_audit_1 : decode cX7_audit 1 = .ok (.ifCond .lt 14, 3) := by decide +kernel
theorem dX7_audit_4 : decode cX7_audit 4 = .ok (.iload_n 1, 1) := by decide +kernel
theorem dX7_audit_5 : decode cX7_audit 5 = .ok (.aload_n 0, 1) := by decide +kernel
theorem dX7_audit_6 : decode cX7_audit 6 = .ok (.getfield 10, 3) := by decide +kernel
theorem dX7_audit_9 : decode cX7_audit 9 = .ok (.getfield 88, 3) := by decide +kernel
theorem dX7_audit_12 : decode cX7_audit 12 = .ok (.if_icmp .le 5, 3) := by decide +kernel
theorem dX7_audit_15 : decode cX7_audit 15 = .ok (.iconst (-1), 1) := by decide +kernel
theorem dX7_audit_16 : decode cX7_audit 16 = .ok (.ireturn, 1) := by decide +kernel
theorem dX7_audit_17 : decode cX7_audit 17 = .ok (.iload_n 2, 1) := by decide +kernel
theorem dX7_audit_18 : decode cX7_audit 18 = .ok (.tableswitch 89 0 3 #[30, 43, 63, 76], 30) := by decide +kernel
theorem dX7_audit_48 : decode cX7_audit 48 = .ok (.aload_n 0, 1) := by decide +kernel
theorem dX7_audit_49 : decode cX7_audit 49 = .ok (.getfield 41, 3) := by decide +kernel
theorem dX7_audit_52 : decode cX7_audit 52 = .ok (.aload_n 0, 1) := by decide +kernel
theorem dX7_audit_53 : decode cX7_audit 53 = .ok (.getfield 10, 3) := by decide +kernel
theorem dX7_audit_56 : decode cX7_audit 56 = .ok (.iload_n 1, 1) := by decide +kernel
theorem dX7_audit_57 : decode cX7_audit 57 = .ok (.invokevirtual 188, 3) := by decide +kernel
theorem dX7_audit_60 : decode cX7_audit 60 = .ok (.ireturn, 1) := by decide +kernel
theorem dX7_audit_61 : decode cX7_audit 61 = .ok (.aload_n 0, 1) := by decide +kernel
theorem dX7_audit_62 : decode cX7_audit 62 = .ok (.getfield 41, 3) := by decide +kernel
theorem dX7_audit_65 : decode cX7_audit 65 = .ok (.aload_n 0, 1) := by decide +kernel
theorem dX7_audit_66 : decode cX7_audit 66 = .ok (.getfield 10, 3) := by decide +kernel
theorem dX7_audit_69 : decode cX7_audit 69 = .ok (.iload_n 1, 1) := by decide +kernel
theorem dX7_audit_70 : decode cX7_audit 70 = .ok (.aload_n 0, 1) := by decide +kernel
theorem dX7_audit_71 : decode cX7_audit 71 = .ok (.getfield 10, 3) := by decide +kernel
theorem dX7_audit_74 : decode cX7_audit 74 = .ok (.invokevirtual 192, 3) := by decide +kernel
theorem dX7_audit_77 : decode cX7_audit 77 = .ok (.invokevirtual 196, 3) := by decide +kernel
theorem dX7_audit_80 : decode cX7_audit 80 = .ok (.ireturn, 1) := by decide +kernel
theorem dX7_audit_81 : decode cX7_audit 81 = .ok (.aload_n 0, 1) := by decide +kernel
theorem dX7_audit_82 : decode cX7_audit 82 = .ok (.getfield 41, 3) := by decide +kernel
theorem dX7_audit_85 : decode cX7_audit 85 = .ok (.aload_n 0, 1) := by decide +kernel
theorem dX7_audit_86 : decode cX7_audit 86 = .ok (.getfield 10, 3) := by decide +kernel
theorem dX7_audit_89 : decode cX7_audit 89 = .ok (.iload_n 1, 1) := by decide +kernel
theorem dX7_audit_90 : decode cX7_audit 90 = .ok (.invokevirtual 200, 3) := by decide +kernel
theorem dX7_audit_93 : decode cX7_audit 93 = .ok (.ireturn, 1) := by decide +kernel
theorem dX7_audit_94 : decode cX7_audit 94 = .ok (.aload_n 0, 1) := by decide +kernel
theorem dX7_audit_95 : decode cX7_audit 95 = .ok (.getfield 41, 3) := by decide +kernel
theorem dX7_audit_98 : decode cX7_audit 98 = .ok (.aload_n 0, 1) := by decide +kernel
theorem dX7_audit_99 : decode cX7_audit 99 = .ok (.getfield 10, 3) := by decide +kernel
theorem dX7_audit_102 : decode cX7_audit 102 = .ok (.iload_n 1, 1) := by decide +kernel
theorem dX7_audit_103 : decode cX7_audit 103 = .ok (.invokevirtual 203, 3) := by decide +kernel
theorem dX7_audit_106 : decode cX7_audit 106 = .ok (.ireturn, 1) := by decide +kernel
theorem dX7_audit_107 : decode cX7_audit 107 = .ok (.iconst (-1), 1) := by decide +kernel
theorem dX7_audit_108 : decode cX7_audit 108 = .ok (.ireturn, 1) := by decide +kernel
theorem dX7_agreement_0 : decode cX7_agreement 0 = .ok (.aload_n 0, 1) := by decide +kernel
theorem dX7_agreement_1 : decode cX7_agreement 1 = .ok (.getfield 10, 3) := by decide +kernel
theorem dX7_agreement_4 : decode cX7_agreement 4 = .ok (.iload_n 1, 1) := by decide +kernel
theorem dX7_agreement_5 : decode cX7_agreement 5 = .ok (.invokevirtual 101, 3) := by decide +kernel
theorem dX7_agreement_8 : decode cX7_agreement 8 = .ok (.ifCond .eq 26, 3) := by decide +kernel
theorem dX7_agreement_11 : decode cX7_agreement 11 = .ok (.aload_n 0, 1) := by decide +kernel
theorem dX7_agreement_12 : decode cX7_agreement 12 = .ok (.getfield 10, 3) := by decide +kernel
theorem dX7_agreement_15 : decode cX7_agreement 15 = .ok (.iload_n 2, 1) := by decide +kernel
theorem dX7_agreement_16 : decode cX7_agreement 16 = .ok (.invokevirtual 101, 3) := by decide +kernel
theorem dX7_agreement_19 : decode cX7_agreement 19 = .ok (.ifCond .eq 15, 3) := by decide +kernel
theorem dX7_agreement_22 : decode cX7_agreement 22 = .ok (.aload_n 0, 1) := by decide +kernel
theorem dX7_agreement_23 : decode cX7_agreement 23 = .ok (.getfield 10, 3) := by decide +kernel
theorem dX7_agreement_26 : decode cX7_agreement 26 = .ok (.iload_n 1, 1) := by decide +kernel
theorem dX7_agreement_27 : decode cX7_agreement 27 = .ok (.iload_n 2, 1) := by decide +kernel
theorem dX7_agreement_28 : decode cX7_agreement 28 = .ok (.invokevirtual 206, 3) := by decide +kernel
theorem dX7_agreement_31 : decode cX7_agreement 31 = .ok (.goto 4, 3) := by decide +kernel
theorem dX7_agreement_34 : decode cX7_agreement 34 = .ok (.iconst (-1), 1) := by decide +kernel
theorem dX7_agreement_35 : decode cX7_agreement 35 = .ok (.ireturn, 1) := by decide +kernel
theorem dX7_pairs_0 : decode cX7_pairs 0 = .ok (.iload_n 1, 1) := by decide +kernel
theorem dX7_pairs_1 : decode cX7_pairs 1 = .ok (.ifCond .lt 9, 3) := by decide +kernel
theorem dX7_pairs_4 : decode cX7_pairs 4 = .ok (.iload_n 1, 1) := by decide +kernel
theorem dX7_pairs_5 : decode cX7_pairs 5 = .ok (.bipush 7, 2) := by decide +kernel
theorem dX7_pairs_7 : decode cX7_pairs 7 = .ok (.if_icmp .le 5, 3) := by decide +kernel
theorem dX7_pairs_10 : decode cX7_pairs 10 = .ok (.iconst (-1), 1) := by decide +kernel
theorem dX7_pairs_11 : decode cX7_pairs 11 = .ok (.ireturn, 1) := by decide +kernel
theorem dX7_pairs_12 : decode cX7_pairs 12 = .ok (.iconst 0, 1) := by decide +kernel
theorem dX7_pairs_13 : decode cX7_pairs 13 = .ok (.istore_n 2, 1) := by decide +kernel
theorem dX7_pairs_14 : decode cX7_pairs 14 = .ok (.iconst 1, 1) := by decide +kernel
theorem dX7_pairs_15 : decode cX7_pairs 15 = .ok (.istore_n 3, 1) := by decide +kernel
theorem dX7_pairs_16 : decode cX7_pairs 16 = .ok (.iload_n 3, 1) := by decide +kernel
theorem dX7_pairs_17 : decode cX7_pairs 17 = .ok (.aload_n 0, 1) := by decide +kernel
theorem dX7_pairs_18 : decode cX7_pairs 18 = .ok (.getfield 10, 3) := by decide +kernel
theorem dX7_pairs_21 : decode cX7_pairs 21 = .ok (.getfield 73, 3) := by decide +kernel
theorem dX7_pairs_24 : decode cX7_pairs 24 = .ok (.if_icmp .ge 41, 3) := by decide +kernel
theorem dX7_pairs_27 : decode cX7_pairs 27 = .ok (.iconst 0, 1) := by decide +kernel
theorem dX7_pairs_28 : decode cX7_pairs 28 = .ok (.istore 4, 2) := by decide +kernel
theorem dX7_pairs_30 : decode cX7_pairs 30 = .ok (.iload 4, 2) := by decide +kernel
theorem dX7_pairs_32 : decode cX7_pairs 32 = .ok (.iload_n 3, 1) := by decide +kernel
theorem dX7_pairs_33 : decode cX7_pairs 33 = .ok (.if_icmp .ge 26, 3) := by decide +kernel
theorem dX7_pairs_36 : decode cX7_pairs 36 = .ok (.aload_n 0, 1) := by decide +kernel
theorem dX7_pairs_37 : decode cX7_pairs 37 = .ok (.getfield 10, 3) := by decide +kernel
theorem dX7_pairs_40 : decode cX7_pairs 40 = .ok (.iload_n 3, 1) := by decide +kernel
theorem dX7_pairs_41 : decode cX7_pairs 41 = .ok (.iload 4, 2) := by decide +kernel
theorem dX7_pairs_43 : decode cX7_pairs 43 = .ok (.invokevirtual 206, 3) := by decide +kernel
theorem dX7_pairs_46 : decode cX7_pairs 46 = .ok (.iload_n 1, 1) := by decide +kernel
theorem dX7_pairs_47 : decode cX7_pairs 47 = .ok (.if_icmp .ne 6, 3) := by decide +kernel
theorem dX7_pairs_50 : decode cX7_pairs 50 = .ok (.iinc 2 1, 3) := by decide +kernel
theorem dX7_pairs_53 : decode cX7_pairs 53 = .ok (.iinc 4 1, 3) := by decide +kernel
theorem dX7_pairs_56 : decode cX7_pairs 56 = .ok (.goto (-26), 3) := by decide +kernel
theorem dX7_pairs_59 : decode cX7_pairs 59 = .ok (.iinc 3 1, 3) := by decide +kernel
theorem dX7_pairs_62 : decode cX7_pairs 62 = .ok (.goto (-46), 3) := by decide +kernel
theorem dX7_pairs_65 : decode cX7_pairs 65 = .ok (.iload_n 2, 1) := by decide +kernel
theorem dX7_pairs_66 : decode cX7_pairs 66 = .ok (.ireturn, 1) := by decide +kernel
theorem dX7_extension_0 : decode cX7_extension 0 = .ok (.iload_n 1, 1) := by decide +kernel
theorem dX7_extension_1 : decode cX7_extension 1 = .ok (.invokestatic 84, 3) := by decide +kernel
theorem dX7_extension_4 : decode cX7_extension 4 = .ok (.ifCond .eq 19, 3) := by decide +kernel
theorem dX7_extension_7 : decode cX7_extension 7 = .ok (.iload_n 2, 1) := by decide +kernel
theorem dX7_extension_8 : decode cX7_extension 8 = .ok (.iconst (-1), 1) := by decide +kernel
theorem dX7_extension_9 : decode cX7_extension 9 = .ok (.if_icmp .eq 16, 3) := by decide +kernel
theorem dX7_extension_12 : decode cX7_extension 12 = .ok (.aload_n 0, 1) := by decide +kernel
theorem dX7_extension_13 : decode cX7_extension 13 = .ok (.getfield 10, 3) := by decide +kernel
theorem dX7_extension_16 : decode cX7_extension 16 = .ok (.iload_n 2, 1) := by decide +kernel
theorem dX7_extension_17 : decode cX7_extension 17 = .ok (.invokevirtual 101, 3) := by decide +kernel
theorem dX7_extension_20 : decode cX7_extension 20 = .ok (.ifCond .ne 5, 3) := by decide +kernel
theorem dX7_extension_23 : decode cX7_extension 23 = .ok (.iconst (-1), 1) := by decide +kernel
theorem dX7_extension_24 : decode cX7_extension 24 = .ok (.ireturn, 1) := by decide +kernel
theorem dX7_extension_25 : decode cX7_extension 25 = .ok (.aload_n 0, 1) := by decide +kernel
theorem dX7_extension_26 : decode cX7_extension 26 = .ok (.getfield 10, 3) := by decide +kernel
theorem dX7_extension_29 : decode cX7_extension 29 = .ok (.getfield 73, 3) := by decide +kernel
theorem dX7_extension_32 : decode cX7_extension 32 = .ok (.ifCond .eq 15, 3) := by decide +kernel
theorem dX7_extension_35 : decode cX7_extension 35 = .ok (.aload_n 0, 1) := by decide +kernel
theorem dX7_extension_36 : decode cX7_extension 36 = .ok (.getfield 10, 3) := by decide +kernel
theorem dX7_extension_39 : decode cX7_extension 39 = .ok (.getfield 73, 3) := by decide +kernel
theorem dX7_extension_42 : decode cX7_extension 42 = .ok (.bipush 16, 2) := by decide +kernel
theorem dX7_extension_44 : decode cX7_extension 44 = .ok (.if_icmp .le 6, 3) := by decide +kernel
theorem dX7_extension_47 : decode cX7_extension 47 = .ok (.bipush (-2), 2) := by decide +kernel
theorem dX7_extension_49 : decode cX7_extension 49 = .ok (.ireturn, 1) := by decide +kernel
theorem dX7_extension_50 : decode cX7_extension 50 = .ok (.aload_n 0, 1) := by decide +kernel
theorem dX7_extension_51 : decode cX7_extension 51 = .ok (.iload_n 1, 1) := by decide +kernel
theorem dX7_extension_52 : decode cX7_extension 52 = .ok (.invokevirtual 209, 3) := by decide +kernel
theorem dX7_extension_55 : decode cX7_extension 55 = .ok (.ifCond .ne 6, 3) := by decide +kernel
theorem dX7_extension_58 : decode cX7_extension 58 = .ok (.bipush (-9), 2) := by decide +kernel
theorem dX7_extension_60 : decode cX7_extension 60 = .ok (.ireturn, 1) := by decide +kernel
theorem dX7_extension_61 : decode cX7_extension 61 = .ok (.iload_n 2, 1) := by decide +kernel
theorem dX7_extension_62 : decode cX7_extension 62 = .ok (.iconst (-1), 1) := by decide +kernel
theorem dX7_extension_63 : decode cX7_extension 63 = .ok (.if_icmp .ne 13, 3) := by decide +kernel
theorem dX7_extension_66 : decode cX7_extension 66 = .ok (.aload_n 0, 1) := by decide +kernel
theorem dX7_extension_67 : decode cX7_extension 67 = .ok (.getfield 10, 3) := by decide +kernel
theorem dX7_extension_70 : decode cX7_extension 70 = .ok (.getfield 73, 3) := by decide +kernel
theorem dX7_extension_73 : decode cX7_extension 73 = .ok (.goto 12, 3) := by decide +kernel
theorem dX7_extension_76 : decode cX7_extension 76 = .ok (.aload_n 0, 1) := by decide +kernel
theorem dX7_extension_77 : decode cX7_extension 77 = .ok (.getfield 48, 3) := by decide +kernel
theorem dX7_extension_80 : decode cX7_extension 80 = .ok (.getfield 212, 3) := by decide +kernel
theorem dX7_extension_83 : decode cX7_extension 83 = .ok (.iload_n 2, 1) := by decide +kernel
theorem dX7_extension_84 : decode cX7_extension 84 = .ok (.iaload, 1) := by decide +kernel
theorem dX7_extension_85 : decode cX7_extension 85 = .ok (.ireturn, 1) := by decide +kernel
theorem dX7_extend_0 : decode cX7_extend 0 = .ok (.iload_n 1, 1) := by decide +kernel
theorem dX7_extend_1 : decode cX7_extend 1 = .ok (.invokestatic 84, 3) := by decide +kernel
theorem dX7_extend_4 : decode cX7_extend 4 = .ok (.ifCond .ne 5, 3) := by decide +kernel
theorem dX7_extend_7 : decode cX7_extend 7 = .ok (.iconst (-1), 1) := by decide +kernel
theorem dX7_extend_8 : decode cX7_extend 8 = .ok (.ireturn, 1) := by decide +kernel
theorem dX7_extend_9 : decode cX7_extend 9 = .ok (.aload_n 0, 1) := by decide +kernel
theorem dX7_extend_10 : decode cX7_extend 10 = .ok (.getfield 10, 3) := by decide +kernel
theorem dX7_extend_13 : decode cX7_extend 13 = .ok (.getfield 73, 3) := by decide +kernel
theorem dX7_extend_16 : decode cX7_extend 16 = .ok (.ifCond .eq 15, 3) := by decide +kernel
theorem dX7_extend_19 : decode cX7_extend 19 = .ok (.aload_n 0, 1) := by decide +kernel
theorem dX7_extend_20 : decode cX7_extend 20 = .ok (.getfield 10, 3) := by decide +kernel
theorem dX7_extend_23 : decode cX7_extend 23 = .ok (.getfield 73, 3) := by decide +kernel
theorem dX7_extend_26 : decode cX7_extend 26 = .ok (.bipush 16, 2) := by decide +kernel
theorem dX7_extend_28 : decode cX7_extend 28 = .ok (.if_icmp .le 6, 3) := by decide +kernel
theorem dX7_extend_31 : decode cX7_extend 31 = .ok (.bipush (-2), 2) := by decide +kernel
theorem dX7_extend_33 : decode cX7_extend 33 = .ok (.ireturn, 1) := by decide +kernel
theorem dX7_extend_34 : decode cX7_extend 34 = .ok (.aload_n 0, 1) := by decide +kernel
theorem dX7_extend_35 : decode cX7_extend 35 = .ok (.getfield 10, 3) := by decide +kernel
theorem dX7_extend_38 : decode cX7_extend 38 = .ok (.getfield 88, 3) := by decide +kernel
theorem dX7_extend_41 : decode cX7_extend 41 = .ok (.bipush 7, 2) := by decide +kernel
theorem dX7_extend_43 : decode cX7_extend 43 = .ok (.if_icmp .lt 6, 3) := by decide +kernel
theorem dX7_extend_46 : decode cX7_extend 46 = .ok (.bipush (-3), 2) := by decide +kernel
theorem dX7_extend_48 : decode cX7_extend 48 = .ok (.ireturn, 1) := by decide +kernel
theorem dX7_extend_49 : decode cX7_extend 49 = .ok (.aload_n 0, 1) := by decide +kernel
theorem dX7_extend_50 : decode cX7_extend 50 = .ok (.iload_n 1, 1) := by decide +kernel
theorem dX7_extend_51 : decode cX7_extend 51 = .ok (.invokevirtual 209, 3) := by decide +kernel
theorem dX7_extend_54 : decode cX7_extend 54 = .ok (.ifCond .ne 6, 3) := by decide +kernel
theorem dX7_extend_57 : decode cX7_extend 57 = .ok (.bipush (-9), 2) := by decide +kernel
theorem dX7_extend_59 : decode cX7_extend 59 = .ok (.ireturn, 1) := by decide +kernel
theorem dX7_extend_60 : decode cX7_extend 60 = .ok (.aload_n 0, 1) := by decide +kernel
theorem dX7_extend_61 : decode cX7_extend 61 = .ok (.invokevirtual 76, 3) := by decide +kernel
theorem dX7_extend_64 : decode cX7_extend 64 = .ok (.pop, 1) := by decide +kernel
theorem dX7_extend_65 : decode cX7_extend 65 = .ok (.aload_n 0, 1) := by decide +kernel
theorem dX7_extend_66 : decode cX7_extend 66 = .ok (.getfield 10, 3) := by decide +kernel
theorem dX7_extend_69 : decode cX7_extend 69 = .ok (.iload_n 1, 1) := by decide +kernel
theorem dX7_extend_70 : decode cX7_extend 70 = .ok (.invokevirtual 91, 3) := by decide +kernel
theorem dX7_extend_73 : decode cX7_extend 73 = .ok (.istore_n 2, 1) := by decide +kernel
theorem dX7_extend_74 : decode cX7_extend 74 = .ok (.iconst 0, 1) := by decide +kernel
theorem dX7_extend_75 : decode cX7_extend 75 = .ok (.istore_n 3, 1) := by decide +kernel
theorem dX7_extend_76 : decode cX7_extend 76 = .ok (.iload_n 3, 1) := by decide +kernel
theorem dX7_extend_77 : decode cX7_extend 77 = .ok (.aload_n 0, 1) := by decide +kernel
theorem dX7_extend_78 : decode cX7_extend 78 = .ok (.getfield 10, 3) := by decide +kernel
theorem dX7_extend_81 : decode cX7_extend 81 = .ok (.getfield 73, 3) := by decide +kernel
theorem dX7_extend_84 : decode cX7_extend 84 = .ok (.if_icmp .ge 27, 3) := by decide +kernel
theorem dX7_extend_87 : decode cX7_extend 87 = .ok (.aload_n 0, 1) := by decide +kernel
theorem dX7_extend_88 : decode cX7_extend 88 = .ok (.getfield 10, 3) := by decide +kernel
theorem dX7_extend_91 : decode cX7_extend 91 = .ok (.iload_n 3, 1) := by decide +kernel
theorem dX7_extend_92 : decode cX7_extend 92 = .ok (.iload_n 2, 1) := by decide +kernel
theorem dX7_extend_93 : decode cX7_extend 93 = .ok (.aload_n 0, 1) := by decide +kernel
theorem dX7_extend_94 : decode cX7_extend 94 = .ok (.getfield 48, 3) := by decide +kernel
theorem dX7_extend_97 : decode cX7_extend 97 = .ok (.getfield 212, 3) := by decide +kernel
theorem dX7_extend_100 : decode cX7_extend 100 = .ok (.iload_n 3, 1) := by decide +kernel
theorem dX7_extend_101 : decode cX7_extend 101 = .ok (.iaload, 1) := by decide +kernel
theorem dX7_extend_102 : decode cX7_extend 102 = .ok (.invokevirtual 112, 3) := by decide +kernel
theorem dX7_extend_105 : decode cX7_extend 105 = .ok (.iinc 3 1, 3) := by decide +kernel
theorem dX7_extend_108 : decode cX7_extend 108 = .ok (.goto (-32), 3) := by decide +kernel
theorem dX7_extend_111 : decode cX7_extend 111 = .ok (.iload_n 2, 1) := by decide +kernel
theorem dX7_extend_112 : decode cX7_extend 112 = .ok (.ireturn, 1) := by decide +kernel
theorem dX7_spare_0 : decode cX7_spare 0 = .ok (.iload_n 1, 1) := by decide +kernel
theorem dX7_spare_1 : decode cX7_spare 1 = .ok (.iconst 1, 1) := by decide +kernel
theorem dX7_spare_2 : decode cX7_spare 2 = .ok (.if_icmp .lt 14, 3) := by decide +kernel
theorem dX7_spare_5 : decode cX7_spare 5 = .ok (.iload_n 1, 1) := by decide +kernel
theorem dX7_spare_6 : decode cX7_spare 6 = .ok (.aload_n 0, 1) := by decide +kernel
theorem dX7_spare_7 : decode cX7_spare 7 = .ok (.getfield 10, 3) := by decide +kernel
theorem dX7_spare_10 : decode cX7_spare 10 = .ok (.getfield 88, 3) := by decide +kernel
theorem dX7_spare_13 : decode cX7_spare 13 = .ok (.if_icmp .le 5, 3) := by decide +kernel
theorem dX7_spare_16 : decode cX7_spare 16 = .ok (.iconst (-1), 1) := by decide +kernel
theorem dX7_spare_17 : decode cX7_spare 17 = .ok (.ireturn, 1) := by decide +kernel
theorem dX7_spare_18 : decode cX7_spare 18 = .ok (.aload_n 0, 1) := by decide +kernel
theorem dX7_spare_19 : decode cX7_spare 19 = .ok (.getfield 10, 3) := by decide +kernel
theorem dX7_spare_22 : decode cX7_spare 22 = .ok (.getfield 73, 3) := by decide +kernel
theorem dX7_spare_25 : decode cX7_spare 25 = .ok (.ifCond .eq 15, 3) := by decide +kernel
theorem dX7_spare_28 : decode cX7_spare 28 = .ok (.aload_n 0, 1) := by decide +kernel
theorem dX7_spare_29 : decode cX7_spare 29 = .ok (.getfield 10, 3) := by decide +kernel
theorem dX7_spare_32 : decode cX7_spare 32 = .ok (.getfield 73, 3) := by decide +kernel
theorem dX7_spare_35 : decode cX7_spare 35 = .ok (.bipush 12, 2) := by decide +kernel
theorem dX7_spare_37 : decode cX7_spare 37 = .ok (.if_icmp .le 6, 3) := by decide +kernel
theorem dX7_spare_40 : decode cX7_spare 40 = .ok (.bipush (-2), 2) := by decide +kernel
theorem dX7_spare_42 : decode cX7_spare 42 = .ok (.ireturn, 1) := by decide +kernel
theorem dX7_spare_43 : decode cX7_spare 43 = .ok (.aload_n 0, 1) := by decide +kernel
theorem dX7_spare_44 : decode cX7_spare 44 = .ok (.getfield 41, 3) := by decide +kernel
theorem dX7_spare_47 : decode cX7_spare 47 = .ok (.aload_n 0, 1) := by decide +kernel
theorem dX7_spare_48 : decode cX7_spare 48 = .ok (.getfield 10, 3) := by decide +kernel
theorem dX7_spare_51 : decode cX7_spare 51 = .ok (.iload_n 1, 1) := by decide +kernel
theorem dX7_spare_52 : decode cX7_spare 52 = .ok (.invokevirtual 215, 3) := by decide +kernel
theorem dX7_spare_55 : decode cX7_spare 55 = .ok (.ireturn, 1) := by decide +kernel
theorem dX7_keep_0 : decode cX7_keep 0 = .ok (.iload_n 1, 1) := by decide +kernel
theorem dX7_keep_1 : decode cX7_keep 1 = .ok (.invokestatic 134, 3) := by decide +kernel
theorem dX7_keep_4 : decode cX7_keep 4 = .ok (.ifCond .ne 5, 3) := by decide +kernel
theorem dX7_keep_7 : decode cX7_keep 7 = .ok (.iconst (-1), 1) := by decide +kernel
theorem dX7_keep_8 : decode cX7_keep 8 = .ok (.ireturn, 1) := by decide +kernel
theorem dX7_keep_9 : decode cX7_keep 9 = .ok (.aload_n 0, 1) := by decide +kernel
theorem dX7_keep_10 : decode cX7_keep 10 = .ok (.getfield 23, 3) := by decide +kernel
theorem dX7_keep_13 : decode cX7_keep 13 = .ok (.iload_n 1, 1) := by decide +kernel
theorem dX7_keep_14 : decode cX7_keep 14 = .ok (.aaload, 1) := by decide +kernel
theorem dX7_keep_15 : decode cX7_keep 15 = .ok (.aload_n 0, 1) := by decide +kernel
theorem dX7_keep_16 : decode cX7_keep 16 = .ok (.getfield 10, 3) := by decide +kernel
theorem dX7_keep_19 : decode cX7_keep 19 = .ok (.invokevirtual 218, 3) := by decide +kernel
theorem dX7_keep_22 : decode cX7_keep 22 = .ok (.aload_n 0, 1) := by decide +kernel
theorem dX7_keep_23 : decode cX7_keep 23 = .ok (.getfield 27, 3) := by decide +kernel
theorem dX7_keep_26 : decode cX7_keep 26 = .ok (.iload_n 1, 1) := by decide +kernel
theorem dX7_keep_27 : decode cX7_keep 27 = .ok (.iconst 1, 1) := by decide +kernel
theorem dX7_keep_28 : decode cX7_keep 28 = .ok (.bastore, 1) := by decide +kernel
theorem dX7_keep_29 : decode cX7_keep 29 = .ok (.aload_n 0, 1) := by decide +kernel
theorem dX7_keep_30 : decode cX7_keep 30 = .ok (.invokevirtual 156, 3) := by decide +kernel
theorem dX7_keep_33 : decode cX7_keep 33 = .ok (.aload_n 0, 1) := by decide +kernel
theorem dX7_keep_34 : decode cX7_keep 34 = .ok (.getfield 10, 3) := by decide +kernel
theorem dX7_keep_37 : decode cX7_keep 37 = .ok (.getfield 73, 3) := by decide +kernel
theorem dX7_keep_40 : decode cX7_keep 40 = .ok (.ireturn, 1) := by decide +kernel
theorem dX7_back_0 : decode cX7_back 0 = .ok (.iload_n 1, 1) := by decide +kernel
theorem dX7_back_1 : decode cX7_back 1 = .ok (.invokestatic 134, 3) := by decide +kernel
theorem dX7_back_4 : decode cX7_back 4 = .ok (.ifCond .ne 5, 3) := by decide +kernel
theorem dX7_back_7 : decode cX7_back 7 = .ok (.iconst (-1), 1) := by decide +kernel
theorem dX7_back_8 : decode cX7_back 8 = .ok (.ireturn, 1) := by decide +kernel
theorem dX7_back_9 : decode cX7_back 9 = .ok (.aload_n 0, 1) := by decide +kernel
theorem dX7_back_10 : decode cX7_back 10 = .ok (.getfield 27, 3) := by decide +kernel
theorem dX7_back_13 : decode cX7_back 13 = .ok (.iload_n 1, 1) := by decide +kernel
theorem dX7_back_14 : decode cX7_back 14 = .ok (.baload, 1) := by decide +kernel
theorem dX7_back_15 : decode cX7_back 15 = .ok (.ifCond .ne 6, 3) := by decide +kernel
theorem dX7_back_18 : decode cX7_back 18 = .ok (.bipush (-2), 2) := by decide +kernel
theorem dX7_back_20 : decode cX7_back 20 = .ok (.ireturn, 1) := by decide +kernel
theorem dX7_back_21 : decode cX7_back 21 = .ok (.aload_n 0, 1) := by decide +kernel
theorem dX7_back_22 : decode cX7_back 22 = .ok (.invokevirtual 76, 3) := by decide +kernel
theorem dX7_back_25 : decode cX7_back 25 = .ok (.pop, 1) := by decide +kernel
theorem dX7_back_26 : decode cX7_back 26 = .ok (.aload_n 0, 1) := by decide +kernel
theorem dX7_back_27 : decode cX7_back 27 = .ok (.getfield 10, 3) := by decide +kernel
theorem dX7_back_30 : decode cX7_back 30 = .ok (.aload_n 0, 1) := by decide +kernel
theorem dX7_back_31 : decode cX7_back 31 = .ok (.getfield 23, 3) := by decide +kernel
theorem dX7_back_34 : decode cX7_back 34 = .ok (.iload_n 1, 1) := by decide +kernel
theorem dX7_back_35 : decode cX7_back 35 = .ok (.aaload, 1) := by decide +kernel
theorem dX7_back_36 : decode cX7_back 36 = .ok (.invokevirtual 218, 3) := by decide +kernel
theorem dX7_back_39 : decode cX7_back 39 = .ok (.aload_n 0, 1) := by decide +kernel
theorem dX7_back_40 : decode cX7_back 40 = .ok (.getfield 10, 3) := by decide +kernel
theorem dX7_back_43 : decode cX7_back 43 = .ok (.getfield 73, 3) := by decide +kernel
theorem dX7_back_46 : decode cX7_back 46 = .ok (.ireturn, 1) := by decide +kernel
theorem dX7_isIsomorphic_0 : decode cX7_isIsomorphic 0 = .ok (.iload_n 1, 1) := by decide +kernel
theorem dX7_isIsomorphic_1 : decode cX7_isIsomorphic 1 = .ok (.invokestatic 134, 3) := by decide +kernel
theorem dX7_isIsomorphic_4 : decode cX7_isIsomorphic 4 = .ok (.ifCond .ne 5, 3) := by decide +kernel
theorem dX7_isIsomorphic_7 : decode cX7_isIsomorphic 7 = .ok (.iconst (-1), 1) := by decide +kernel
theorem dX7_isIsomorphic_8 : decode cX7_isIsomorphic 8 = .ok (.ireturn, 1) := by decide +kernel
theorem dX7_isIsomorphic_9 : decode cX7_isIsomorphic 9 = .ok (.aload_n 0, 1) := by decide +kernel
theorem dX7_isIsomorphic_10 : decode cX7_isIsomorphic 10 = .ok (.iload_n 1, 1) := by decide +kernel
theorem dX7_isIsomorphic_11 : decode cX7_isIsomorphic 11 = .ok (.invokevirtual 221, 3) := by decide +kernel
theorem dX7_isIsomorphic_14 : decode cX7_isIsomorphic 14 = .ok (.ifCond .ne 6, 3) := by decide +kernel
theorem dX7_isIsomorphic_17 : decode cX7_isIsomorphic 17 = .ok (.bipush (-2), 2) := by decide +kernel
theorem dX7_isIsomorphic_19 : decode cX7_isIsomorphic 19 = .ok (.ireturn, 1) := by decide +kernel
theorem dX7_isIsomorphic_20 : decode cX7_isIsomorphic 20 = .ok (.aload_n 0, 1) := by decide +kernel
theorem dX7_isIsomorphic_21 : decode cX7_isIsomorphic 21 = .ok (.iload_n 1, 1) := by decide +kernel
theorem dX7_isIsomorphic_22 : decode cX7_isIsomorphic 22 = .ok (.invokevirtual 224, 3) := by decide +kernel
theorem dX7_isIsomorphic_25 : decode cX7_isIsomorphic 25 = .ok (.ifCond .eq 7, 3) := by decide +kernel
theorem dX7_isIsomorphic_28 : decode cX7_isIsomorphic 28 = .ok (.iconst 1, 1) := by decide +kernel
theorem dX7_isIsomorphic_29 : decode cX7_isIsomorphic 29 = .ok (.goto 4, 3) := by decide +kernel
theorem dX7_isIsomorphic_32 : decode cX7_isIsomorphic 32 = .ok (.iconst 0, 1) := by decide +kernel
theorem dX7_isIsomorphic_33 : decode cX7_isIsomorphic 33 = .ok (.ireturn, 1) := by decide +kernel
theorem dX7_mapped_0 : decode cX7_mapped 0 = .ok (.iload_n 1, 1) := by decide +kernel
theorem dX7_mapped_1 : decode cX7_mapped 1 = .ok (.invokestatic 134, 3) := by decide +kernel
theorem dX7_mapped_4 : decode cX7_mapped 4 = .ok (.ifCond .eq 32, 3) := by decide +kernel
theorem dX7_mapped_7 : decode cX7_mapped 7 = .ok (.aload_n 0, 1) := by decide +kernel
theorem dX7_mapped_8 : decode cX7_mapped 8 = .ok (.getfield 10, 3) := by decide +kernel
theorem dX7_mapped_11 : decode cX7_mapped 11 = .ok (.iload_n 2, 1) := by decide +kernel
theorem dX7_mapped_12 : decode cX7_mapped 12 = .ok (.invokevirtual 95, 3) := by decide +kernel
theorem dX7_mapped_15 : decode cX7_mapped 15 = .ok (.ifCond .eq 21, 3) := by decide +kernel
theorem dX7_mapped_18 : decode cX7_mapped 18 = .ok (.iload_n 3, 1) := by decide +kernel
theorem dX7_mapped_19 : decode cX7_mapped 19 = .ok (.iconst (-1), 1) := by decide +kernel
theorem dX7_mapped_20 : decode cX7_mapped 20 = .ok (.if_icmp .lt 16, 3) := by decide +kernel
theorem dX7_mapped_23 : decode cX7_mapped 23 = .ok (.iload_n 3, 1) := by decide +kernel
theorem dX7_mapped_24 : decode cX7_mapped 24 = .ok (.aload_n 0, 1) := by decide +kernel
theorem dX7_mapped_25 : decode cX7_mapped 25 = .ok (.getfield 10, 3) := by decide +kernel
theorem dX7_mapped_28 : decode cX7_mapped 28 = .ok (.getfield 104, 3) := by decide +kernel
theorem dX7_mapped_31 : decode cX7_mapped 31 = .ok (.iload_n 2, 1) := by decide +kernel
theorem dX7_mapped_32 : decode cX7_mapped 32 = .ok (.iaload, 1) := by decide +kernel
theorem dX7_mapped_33 : decode cX7_mapped 33 = .ok (.if_icmp .lt 5, 3) := by decide +kernel
theorem dX7_mapped_36 : decode cX7_mapped 36 = .ok (.iconst (-1), 1) := by decide +kernel
theorem dX7_mapped_37 : decode cX7_mapped 37 = .ok (.ireturn, 1) := by decide +kernel
theorem dX7_mapped_38 : decode cX7_mapped 38 = .ok (.aload_n 0, 1) := by decide +kernel
theorem dX7_mapped_39 : decode cX7_mapped 39 = .ok (.iload_n 1, 1) := by decide +kernel
theorem dX7_mapped_40 : decode cX7_mapped 40 = .ok (.invokevirtual 221, 3) := by decide +kernel
theorem dX7_mapped_43 : decode cX7_mapped 43 = .ok (.ifCond .ne 6, 3) := by decide +kernel
theorem dX7_mapped_46 : decode cX7_mapped 46 = .ok (.bipush (-2), 2) := by decide +kernel
theorem dX7_mapped_48 : decode cX7_mapped 48 = .ok (.ireturn, 1) := by decide +kernel
theorem dX7_mapped_49 : decode cX7_mapped 49 = .ok (.aload_n 0, 1) := by decide +kernel
theorem dX7_mapped_50 : decode cX7_mapped 50 = .ok (.iload_n 1, 1) := by decide +kernel
theorem dX7_mapped_51 : decode cX7_mapped 51 = .ok (.invokevirtual 224, 3) := by decide +kernel
theorem dX7_mapped_54 : decode cX7_mapped 54 = .ok (.ifCond .ne 6, 3) := by decide +kernel
theorem dX7_mapped_57 : decode cX7_mapped 57 = .ok (.bipush (-9), 2) := by decide +kernel
theorem dX7_mapped_59 : decode cX7_mapped 59 = .ok (.ireturn, 1) := by decide +kernel
theorem dX7_mapped_60 : decode cX7_mapped 60 = .ok (.iload_n 3, 1) := by decide +kernel
theorem dX7_mapped_61 : decode cX7_mapped 61 = .ok (.iconst (-1), 1) := by decide +kernel
theorem dX7_mapped_62 : decode cX7_mapped 62 = .ok (.if_icmp .ne 15, 3) := by decide +kernel
theorem dX7_mapped_65 : decode cX7_mapped 65 = .ok (.aload_n 0, 1) := by decide +kernel
theorem dX7_mapped_66 : decode cX7_mapped 66 = .ok (.getfield 55, 3) := by decide +kernel
theorem dX7_mapped_69 : decode cX7_mapped 69 = .ok (.getfield 227, 3) := by decide +kernel
theorem dX7_mapped_72 : decode cX7_mapped 72 = .ok (.iload_n 2, 1) := by decide +kernel
theorem dX7_mapped_73 : decode cX7_mapped 73 = .ok (.iaload, 1) := by decide +kernel
theorem dX7_mapped_74 : decode cX7_mapped 74 = .ok (.goto 16, 3) := by decide +kernel
theorem dX7_mapped_77 : decode cX7_mapped 77 = .ok (.aload_n 0, 1) := by decide +kernel
theorem dX7_mapped_78 : decode cX7_mapped 78 = .ok (.getfield 55, 3) := by decide +kernel
theorem dX7_mapped_81 : decode cX7_mapped 81 = .ok (.getfield 230, 3) := by decide +kernel
theorem dX7_mapped_84 : decode cX7_mapped 84 = .ok (.iload_n 2, 1) := by decide +kernel
theorem dX7_mapped_85 : decode cX7_mapped 85 = .ok (.iconst 4, 1) := by decide +kernel
theorem dX7_mapped_86 : decode cX7_mapped 86 = .ok (.imul, 1) := by decide +kernel
theorem dX7_mapped_87 : decode cX7_mapped 87 = .ok (.iload_n 3, 1) := by decide +kernel
theorem dX7_mapped_88 : decode cX7_mapped 88 = .ok (.iadd, 1) := by decide +kernel
theorem dX7_mapped_89 : decode cX7_mapped 89 = .ok (.iaload, 1) := by decide +kernel
theorem dX7_mapped_90 : decode cX7_mapped 90 = .ok (.ireturn, 1) := by decide +kernel
theorem dX7_record_0 : decode cX7_record 0 = .ok (.aload_n 0, 1) := by decide +kernel
theorem dX7_record_1 : decode cX7_record 1 = .ok (.invokevirtual 156, 3) := by decide +kernel
theorem dX7_record_4 : decode cX7_record 4 = .ok (.aload_n 0, 1) := by decide +kernel
theorem dX7_record_5 : decode cX7_record 5 = .ok (.getfield 19, 3) := by decide +kernel
theorem dX7_record_8 : decode cX7_record 8 = .ok (.aload_n 0, 1) := by decide +kernel
theorem dX7_record_9 : decode cX7_record 9 = .ok (.getfield 10, 3) := by decide +kernel
theorem dX7_record_12 : decode cX7_record 12 = .ok (.invokevirtual 233, 3) := by decide +kernel
theorem dX7_record_15 : decode cX7_record 15 = .ok (.areturn, 1) := by decide +kernel
theorem dX7_forgetResults_0 : decode cX7_forgetResults 0 = .ok (.aload_n 0, 1) := by decide +kernel
theorem dX7_forgetResults_1 : decode cX7_forgetResults 1 = .ok (.iconst 0, 1) := by decide +kernel
theorem dX7_forgetResults_2 : decode cX7_forgetResults 2 = .ok (.putfield 59, 3) := by decide +kernel
theorem dX7_forgetResults_5 : decode cX7_forgetResults 5 = .ok (.aload_n 0, 1) := by decide +kernel
theorem dX7_forgetResults_6 : decode cX7_forgetResults 6 = .ok (.iconst (-1), 1) := by decide +kernel
theorem dX7_forgetResults_7 : decode cX7_forgetResults 7 = .ok (.putfield 67, 3) := by decide +kernel
theorem dX7_forgetResults_10 : decode cX7_forgetResults 10 = .ok (.return_, 1) := by decide +kernel
theorem dX7_hasExtension_0 : decode cX7_hasExtension 0 = .ok (.aload_n 0, 1) := by decide +kernel
theorem dX7_hasExtension_1 : decode cX7_hasExtension 1 = .ok (.getfield 59, 3) := by decide +kernel
theorem dX7_hasExtension_4 : decode cX7_hasExtension 4 = .ok (.iload_n 1, 1) := by decide +kernel
theorem dX7_hasExtension_5 : decode cX7_hasExtension 5 = .ok (.if_icmp .eq 24, 3) := by decide +kernel
theorem dX7_hasExtension_8 : decode cX7_hasExtension 8 = .ok (.aload_n 0, 1) := by decide +kernel
theorem dX7_hasExtension_9 : decode cX7_hasExtension 9 = .ok (.aload_n 0, 1) := by decide +kernel
theorem dX7_hasExtension_10 : decode cX7_hasExtension 10 = .ok (.getfield 48, 3) := by decide +kernel
theorem dX7_hasExtension_13 : decode cX7_hasExtension 13 = .ok (.aload_n 0, 1) := by decide +kernel
theorem dX7_hasExtension_14 : decode cX7_hasExtension 14 = .ok (.getfield 10, 3) := by decide +kernel
theorem dX7_hasExtension_17 : decode cX7_hasExtension 17 = .ok (.iload_n 1, 1) := by decide +kernel
theorem dX7_hasExtension_18 : decode cX7_hasExtension 18 = .ok (.invokevirtual 237, 3) := by decide +kernel
theorem dX7_hasExtension_21 : decode cX7_hasExtension 21 = .ok (.putfield 63, 3) := by decide +kernel
theorem dX7_hasExtension_24 : decode cX7_hasExtension 24 = .ok (.aload_n 0, 1) := by decide +kernel
theorem dX7_hasExtension_25 : decode cX7_hasExtension 25 = .ok (.iload_n 1, 1) := by decide +kernel
theorem dX7_hasExtension_26 : decode cX7_hasExtension 26 = .ok (.putfield 59, 3) := by decide +kernel
theorem dX7_hasExtension_29 : decode cX7_hasExtension 29 = .ok (.aload_n 0, 1) := by decide +kernel
theorem dX7_hasExtension_30 : decode cX7_hasExtension 30 = .ok (.getfield 63, 3) := by decide +kernel
theorem dX7_hasExtension_33 : decode cX7_hasExtension 33 = .ok (.ireturn, 1) := by decide +kernel
theorem dX7_canMatch_0 : decode cX7_canMatch 0 = .ok (.aload_n 0, 1) := by decide +kernel
theorem dX7_canMatch_1 : decode cX7_canMatch 1 = .ok (.getfield 27, 3) := by decide +kernel
theorem dX7_canMatch_4 : decode cX7_canMatch 4 = .ok (.iload_n 1, 1) := by decide +kernel
theorem dX7_canMatch_5 : decode cX7_canMatch 5 = .ok (.baload, 1) := by decide +kernel
theorem dX7_canMatch_6 : decode cX7_canMatch 6 = .ok (.ifCond .eq 15, 3) := by decide +kernel
theorem dX7_canMatch_9 : decode cX7_canMatch 9 = .ok (.aload_n 0, 1) := by decide +kernel
theorem dX7_canMatch_10 : decode cX7_canMatch 10 = .ok (.getfield 10, 3) := by decide +kernel
theorem dX7_canMatch_13 : decode cX7_canMatch 13 = .ok (.getfield 73, 3) := by decide +kernel
theorem dX7_canMatch_16 : decode cX7_canMatch 16 = .ok (.bipush 18, 2) := by decide +kernel
theorem dX7_canMatch_18 : decode cX7_canMatch 18 = .ok (.if_icmp .le 5, 3) := by decide +kernel
theorem dX7_canMatch_21 : decode cX7_canMatch 21 = .ok (.iconst 0, 1) := by decide +kernel
theorem dX7_canMatch_22 : decode cX7_canMatch 22 = .ok (.ireturn, 1) := by decide +kernel
theorem dX7_canMatch_23 : decode cX7_canMatch 23 = .ok (.iconst 0, 1) := by decide +kernel
theorem dX7_canMatch_24 : decode cX7_canMatch 24 = .ok (.istore_n 2, 1) := by decide +kernel
theorem dX7_canMatch_25 : decode cX7_canMatch 25 = .ok (.iload_n 2, 1) := by decide +kernel
theorem dX7_canMatch_26 : decode cX7_canMatch 26 = .ok (.aload_n 0, 1) := by decide +kernel
theorem dX7_canMatch_27 : decode cX7_canMatch 27 = .ok (.getfield 10, 3) := by decide +kernel
theorem dX7_canMatch_30 : decode cX7_canMatch 30 = .ok (.getfield 88, 3) := by decide +kernel
theorem dX7_canMatch_33 : decode cX7_canMatch 33 = .ok (.if_icmp .ge 24, 3) := by decide +kernel
theorem dX7_canMatch_36 : decode cX7_canMatch 36 = .ok (.aload_n 0, 1) := by decide +kernel
theorem dX7_canMatch_37 : decode cX7_canMatch 37 = .ok (.getfield 10, 3) := by decide +kernel
theorem dX7_canMatch_40 : decode cX7_canMatch 40 = .ok (.getfield 104, 3) := by decide +kernel
theorem dX7_canMatch_43 : decode cX7_canMatch 43 = .ok (.iload_n 2, 1) := by decide +kernel
theorem dX7_canMatch_44 : decode cX7_canMatch 44 = .ok (.iaload, 1) := by decide +kernel
theorem dX7_canMatch_45 : decode cX7_canMatch 45 = .ok (.iconst 4, 1) := by decide +kernel
theorem dX7_canMatch_46 : decode cX7_canMatch 46 = .ok (.if_icmp .le 5, 3) := by decide +kernel
theorem dX7_canMatch_49 : decode cX7_canMatch 49 = .ok (.iconst 0, 1) := by decide +kernel
theorem dX7_canMatch_50 : decode cX7_canMatch 50 = .ok (.ireturn, 1) := by decide +kernel
theorem dX7_canMatch_51 : decode cX7_canMatch 51 = .ok (.iinc 2 1, 3) := by decide +kernel
theorem dX7_canMatch_54 : decode cX7_canMatch 54 = .ok (.goto (-29), 3) := by decide +kernel
theorem dX7_canMatch_57 : decode cX7_canMatch 57 = .ok (.iconst 1, 1) := by decide +kernel
theorem dX7_canMatch_58 : decode cX7_canMatch 58 = .ok (.ireturn, 1) := by decide +kernel
theorem dX7_hasMatch_0 : decode cX7_hasMatch 0 = .ok (.aload_n 0, 1) := by decide +kernel
theorem dX7_hasMatch_1 : decode cX7_hasMatch 1 = .ok (.getfield 67, 3) := by decide +kernel
theorem dX7_hasMatch_4 : decode cX7_hasMatch 4 = .ok (.iload_n 1, 1) := by decide +kernel
theorem dX7_hasMatch_5 : decode cX7_hasMatch 5 = .ok (.if_icmp .eq 29, 3) := by decide +kernel
theorem dX7_hasMatch_8 : decode cX7_hasMatch 8 = .ok (.aload_n 0, 1) := by decide +kernel
theorem dX7_hasMatch_9 : decode cX7_hasMatch 9 = .ok (.aload_n 0, 1) := by decide +kernel
theorem dX7_hasMatch_10 : decode cX7_hasMatch 10 = .ok (.getfield 55, 3) := by decide +kernel
theorem dX7_hasMatch_13 : decode cX7_hasMatch 13 = .ok (.aload_n 0, 1) := by decide +kernel
theorem dX7_hasMatch_14 : decode cX7_hasMatch 14 = .ok (.getfield 10, 3) := by decide +kernel
theorem dX7_hasMatch_17 : decode cX7_hasMatch 17 = .ok (.aload_n 0, 1) := by decide +kernel
theorem dX7_hasMatch_18 : decode cX7_hasMatch 18 = .ok (.getfield 23, 3) := by decide +kernel
theorem dX7_hasMatch_21 : decode cX7_hasMatch 21 = .ok (.iload_n 1, 1) := by decide +kernel
theorem dX7_hasMatch_22 : decode cX7_hasMatch 22 = .ok (.aaload, 1) := by decide +kernel
theorem dX7_hasMatch_23 : decode cX7_hasMatch 23 = .ok (.invokevirtual 241, 3) := by decide +kernel
theorem dX7_hasMatch_26 : decode cX7_hasMatch 26 = .ok (.putfield 70, 3) := by decide +kernel
theorem dX7_hasMatch_29 : decode cX7_hasMatch 29 = .ok (.aload_n 0, 1) := by decide +kernel
theorem dX7_hasMatch_30 : decode cX7_hasMatch 30 = .ok (.iload_n 1, 1) := by decide +kernel
theorem dX7_hasMatch_31 : decode cX7_hasMatch 31 = .ok (.putfield 67, 3) := by decide +kernel
theorem dX7_hasMatch_34 : decode cX7_hasMatch 34 = .ok (.aload_n 0, 1) := by decide +kernel
theorem dX7_hasMatch_35 : decode cX7_hasMatch 35 = .ok (.getfield 70, 3) := by decide +kernel
theorem dX7_hasMatch_38 : decode cX7_hasMatch 38 = .ok (.ireturn, 1) := by decide +kernel
theorem dX7_isImage_0 : decode cX7_isImage 0 = .ok (.iload_n 0, 1) := by decide +kernel
theorem dX7_isImage_1 : decode cX7_isImage 1 = .ok (.ifCond .lt 12, 3) := by decide +kernel
theorem dX7_isImage_4 : decode cX7_isImage 4 = .ok (.iload_n 0, 1) := by decide +kernel
theorem dX7_isImage_5 : decode cX7_isImage 5 = .ok (.iconst 2, 1) := by decide +kernel
theorem dX7_isImage_6 : decode cX7_isImage 6 = .ok (.if_icmp .ge 7, 3) := by decide +kernel
theorem dX7_isImage_9 : decode cX7_isImage 9 = .ok (.iconst 1, 1) := by decide +kernel
theorem dX7_isImage_10 : decode cX7_isImage 10 = .ok (.goto 4, 3) := by decide +kernel
theorem dX7_isImage_13 : decode cX7_isImage 13 = .ok (.iconst 0, 1) := by decide +kernel
theorem dX7_isImage_14 : decode cX7_isImage 14 = .ok (.ireturn, 1) := by decide +kernel
theorem dX7_isLevelCount_0 : decode cX7_isLevelCount 0 = .ok (.iload_n 0, 1) := by decide +kernel
theorem dX7_isLevelCount_1 : decode cX7_isLevelCount 1 = .ok (.iconst 2, 1) := by decide +kernel
theorem dX7_isLevelCount_2 : decode cX7_isLevelCount 2 = .ok (.if_icmp .lt 13, 3) := by decide +kernel
theorem dX7_isLevelCount_5 : decode cX7_isLevelCount 5 = .ok (.iload_n 0, 1) := by decide +kernel
theorem dX7_isLevelCount_6 : decode cX7_isLevelCount 6 = .ok (.bipush 6, 2) := by decide +kernel
theorem dX7_isLevelCount_8 : decode cX7_isLevelCount 8 = .ok (.if_icmp .gt 7, 3) := by decide +kernel
theorem dX7_isLevelCount_11 : decode cX7_isLevelCount 11 = .ok (.iconst 1, 1) := by decide +kernel
theorem dX7_isLevelCount_12 : decode cX7_isLevelCount 12 = .ok (.goto 4, 3) := by decide +kernel
theorem dX7_isLevelCount_15 : decode cX7_isLevelCount 15 = .ok (.iconst 0, 1) := by decide +kernel
theorem dX7_isLevelCount_16 : decode cX7_isLevelCount 16 = .ok (.ireturn, 1) := by decide +kernel
theorem dX7_areLevelCounts_0 : decode cX7_areLevelCounts 0 = .ok (.iload_n 0, 1) := by decide +kernel
theorem dX7_areLevelCounts_1 : decode cX7_areLevelCounts 1 = .ok (.istore_n 1, 1) := by decide +kernel
theorem dX7_areLevelCounts_2 : decode cX7_areLevelCounts 2 = .ok (.iload_n 1, 1) := by decide +kernel
theorem dX7_areLevelCounts_3 : decode cX7_areLevelCounts 3 = .ok (.ifCond .le 23, 3) := by decide +kernel
theorem dX7_areLevelCounts_6 : decode cX7_areLevelCounts 6 = .ok (.iload_n 1, 1) := by decide +kernel
theorem dX7_areLevelCounts_7 : decode cX7_areLevelCounts 7 = .ok (.bipush 10, 2) := by decide +kernel
theorem dX7_areLevelCounts_9 : decode cX7_areLevelCounts 9 = .ok (.irem, 1) := by decide +kernel
theorem dX7_areLevelCounts_10 : decode cX7_areLevelCounts 10 = .ok (.invokestatic 84, 3) := by decide +kernel
theorem dX7_areLevelCounts_13 : decode cX7_areLevelCounts 13 = .ok (.ifCond .ne 5, 3) := by decide +kernel
theorem dX7_areLevelCounts_16 : decode cX7_areLevelCounts 16 = .ok (.iconst 0, 1) := by decide +kernel
theorem dX7_areLevelCounts_17 : decode cX7_areLevelCounts 17 = .ok (.ireturn, 1) := by decide +kernel
theorem dX7_areLevelCounts_18 : decode cX7_areLevelCounts 18 = .ok (.iload_n 1, 1) := by decide +kernel
theorem dX7_areLevelCounts_19 : decode cX7_areLevelCounts 19 = .ok (.bipush 10, 2) := by decide +kernel
theorem dX7_areLevelCounts_21 : decode cX7_areLevelCounts 21 = .ok (.idiv, 1) := by decide +kernel
theorem dX7_areLevelCounts_22 : decode cX7_areLevelCounts 22 = .ok (.istore_n 1, 1) := by decide +kernel
theorem dX7_areLevelCounts_23 : decode cX7_areLevelCounts 23 = .ok (.goto (-21), 3) := by decide +kernel
theorem dX7_areLevelCounts_26 : decode cX7_areLevelCounts 26 = .ok (.iconst 1, 1) := by decide +kernel
theorem dX7_areLevelCounts_27 : decode cX7_areLevelCounts 27 = .ok (.ireturn, 1) := by decide +kernel
theorem dL_law_0 : decode cL_law 0 = .ok (.new 7, 3) := by decide +kernel
theorem dL_law_3 : decode cL_law 3 = .ok (.dup, 1) := by decide +kernel
theorem dL_law_4 : decode cL_law 4 = .ok (.invokespecial 9, 3) := by decide +kernel
theorem dL_law_7 : decode cL_law 7 = .ok (.astore_n 1, 1) := by decide +kernel
theorem dL_law_8 : decode cL_law 8 = .ok (.new 10, 3) := by decide +kernel
theorem dL_law_11 : decode cL_law 11 = .ok (.dup, 1) := by decide +kernel
theorem dL_law_12 : decode cL_law 12 = .ok (.invokespecial 12, 3) := by decide +kernel
theorem dL_law_15 : decode cL_law 15 = .ok (.astore_n 2, 1) := by decide +kernel
theorem dL_law_16 : decode cL_law 16 = .ok (.iconst 0, 1) := by decide +kernel
theorem dL_law_17 : decode cL_law 17 = .ok (.istore_n 3, 1) := by decide +kernel
theorem dL_law_18 : decode cL_law 18 = .ok (.iload_n 3, 1) := by decide +kernel
theorem dL_law_19 : decode cL_law 19 = .ok (.aload_n 0, 1) := by decide +kernel
theorem dL_law_20 : decode cL_law 20 = .ok (.arraylength, 1) := by decide +kernel
theorem dL_law_21 : decode cL_law 21 = .ok (.iconst 5, 1) := by decide +kernel
theorem dL_law_22 : decode cL_law 22 = .ok (.isub, 1) := by decide +kernel
theorem dL_law_23 : decode cL_law 23 = .ok (.if_icmp .gt 901, 3) := by decide +kernel
theorem dL_law_26 : decode cL_law 26 = .ok (.aload_n 0, 1) := by decide +kernel
theorem dL_law_27 : decode cL_law 27 = .ok (.iload_n 3, 1) := by decide +kernel
theorem dL_law_28 : decode cL_law 28 = .ok (.iaload, 1) := by decide +kernel
theorem dL_law_29 : decode cL_law 29 = .ok (.bipush 31, 2) := by decide +kernel
theorem dL_law_31 : decode cL_law 31 = .ok (.iand, 1) := by decide +kernel
theorem dL_law_32 : decode cL_law 32 = .ok (.tableswitch 886 0 29 #[136, 159, 182, 205, 248, 271, 284, 297, 320, 373, 406, 419, 432, 455, 468, 481, 494, 517, 540, 573, 606, 639, 672, 695, 728, 751, 774, 797, 820, 843], 136) := by decide +kernel
theorem dL_law_168 : decode cL_law 168 = .ok (.aload_n 1, 1) := by decide +kernel
theorem dL_law_169 : decode cL_law 169 = .ok (.aload_n 0, 1) := by decide +kernel
theorem dL_law_170 : decode cL_law 170 = .ok (.iload_n 3, 1) := by decide +kernel
theorem dL_law_171 : decode cL_law 171 = .ok (.iconst 1, 1) := by decide +kernel
theorem dL_law_172 : decode cL_law 172 = .ok (.iadd, 1) := by decide +kernel
theorem dL_law_173 : decode cL_law 173 = .ok (.iaload, 1) := by decide +kernel
theorem dL_law_174 : decode cL_law 174 = .ok (.invokevirtual 13, 3) := by decide +kernel
theorem dL_law_177 : decode cL_law 177 = .ok (.aload_n 2, 1) := by decide +kernel
theorem dL_law_178 : decode cL_law 178 = .ok (.aload_n 0, 1) := by decide +kernel
theorem dL_law_179 : decode cL_law 179 = .ok (.iload_n 3, 1) := by decide +kernel
theorem dL_law_180 : decode cL_law 180 = .ok (.iconst 1, 1) := by decide +kernel
theorem dL_law_181 : decode cL_law 181 = .ok (.iadd, 1) := by decide +kernel
theorem dL_law_182 : decode cL_law 182 = .ok (.iaload, 1) := by decide +kernel
theorem dL_law_183 : decode cL_law 183 = .ok (.invokevirtual 17, 3) := by decide +kernel
theorem dL_law_186 : decode cL_law 186 = .ok (.if_icmp .eq 732, 3) := by decide +kernel
theorem dL_law_189 : decode cL_law 189 = .ok (.iconst 0, 1) := by decide +kernel
theorem dL_law_190 : decode cL_law 190 = .ok (.ireturn, 1) := by decide +kernel
theorem dL_law_191 : decode cL_law 191 = .ok (.aload_n 1, 1) := by decide +kernel
theorem dL_law_192 : decode cL_law 192 = .ok (.aload_n 0, 1) := by decide +kernel
theorem dL_law_193 : decode cL_law 193 = .ok (.iload_n 3, 1) := by decide +kernel
theorem dL_law_194 : decode cL_law 194 = .ok (.iconst 1, 1) := by decide +kernel
theorem dL_law_195 : decode cL_law 195 = .ok (.iadd, 1) := by decide +kernel
theorem dL_law_196 : decode cL_law 196 = .ok (.iaload, 1) := by decide +kernel
theorem dL_law_197 : decode cL_law 197 = .ok (.invokevirtual 18, 3) := by decide +kernel
theorem dL_law_200 : decode cL_law 200 = .ok (.aload_n 2, 1) := by decide +kernel
theorem dL_law_201 : decode cL_law 201 = .ok (.aload_n 0, 1) := by decide +kernel
theorem dL_law_202 : decode cL_law 202 = .ok (.iload_n 3, 1) := by decide +kernel
theorem dL_law_203 : decode cL_law 203 = .ok (.iconst 1, 1) := by decide +kernel
theorem dL_law_204 : decode cL_law 204 = .ok (.iadd, 1) := by decide +kernel
theorem dL_law_205 : decode cL_law 205 = .ok (.iaload, 1) := by decide +kernel
theorem dL_law_206 : decode cL_law 206 = .ok (.invokevirtual 21, 3) := by decide +kernel
theorem dL_law_209 : decode cL_law 209 = .ok (.if_icmp .eq 709, 3) := by decide +kernel
theorem dL_law_212 : decode cL_law 212 = .ok (.iconst 0, 1) := by decide +kernel
theorem dL_law_213 : decode cL_law 213 = .ok (.ireturn, 1) := by decide +kernel
theorem dL_law_214 : decode cL_law 214 = .ok (.aload_n 1, 1) := by decide +kernel
theorem dL_law_215 : decode cL_law 215 = .ok (.aload_n 0, 1) := by decide +kernel
theorem dL_law_216 : decode cL_law 216 = .ok (.iload_n 3, 1) := by decide +kernel
theorem dL_law_217 : decode cL_law 217 = .ok (.iconst 1, 1) := by decide +kernel
theorem dL_law_218 : decode cL_law 218 = .ok (.iadd, 1) := by decide +kernel
theorem dL_law_219 : decode cL_law 219 = .ok (.iaload, 1) := by decide +kernel
theorem dL_law_220 : decode cL_law 220 = .ok (.invokevirtual 22, 3) := by decide +kernel
theorem dL_law_223 : decode cL_law 223 = .ok (.aload_n 2, 1) := by decide +kernel
theorem dL_law_224 : decode cL_law 224 = .ok (.aload_n 0, 1) := by decide +kernel
theorem dL_law_225 : decode cL_law 225 = .ok (.iload_n 3, 1) := by decide +kernel
theorem dL_law_226 : decode cL_law 226 = .ok (.iconst 1, 1) := by decide +kernel
theorem dL_law_227 : decode cL_law 227 = .ok (.iadd, 1) := by decide +kernel
theorem dL_law_228 : decode cL_law 228 = .ok (.iaload, 1) := by decide +kernel
theorem dL_law_229 : decode cL_law 229 = .ok (.invokevirtual 25, 3) := by decide +kernel
theorem dL_law_232 : decode cL_law 232 = .ok (.if_icmp .eq 686, 3) := by decide +kernel
theorem dL_law_235 : decode cL_law 235 = .ok (.iconst 0, 1) := by decide +kernel
theorem dL_law_236 : decode cL_law 236 = .ok (.ireturn, 1) := by decide +kernel
theorem dL_law_237 : decode cL_law 237 = .ok (.aload_n 1, 1) := by decide +kernel
theorem dL_law_238 : decode cL_law 238 = .ok (.aload_n 0, 1) := by decide +kernel
theorem dL_law_239 : decode cL_law 239 = .ok (.iload_n 3, 1) := by decide +kernel
theorem dL_law_240 : decode cL_law 240 = .ok (.iconst 1, 1) := by decide +kernel
theorem dL_law_241 : decode cL_law 241 = .ok (.iadd, 1) := by decide +kernel
theorem dL_law_242 : decode cL_law 242 = .ok (.iaload, 1) := by decide +kernel
theorem dL_law_243 : decode cL_law 243 = .ok (.aload_n 0, 1) := by decide +kernel
theorem dL_law_244 : decode cL_law 244 = .ok (.iload_n 3, 1) := by decide +kernel
theorem dL_law_245 : decode cL_law 245 = .ok (.iconst 2, 1) := by decide +kernel
theorem dL_law_246 : decode cL_law 246 = .ok (.iadd, 1) := by decide +kernel
theorem dL_law_247 : decode cL_law 247 = .ok (.iaload, 1) := by decide +kernel
theorem dL_law_248 : decode cL_law 248 = .ok (.aload_n 0, 1) := by decide +kernel
theorem dL_law_249 : decode cL_law 249 = .ok (.iload_n 3, 1) := by decide +kernel
theorem dL_law_250 : decode cL_law 250 = .ok (.iconst 3, 1) := by decide +kernel
theorem dL_law_251 : decode cL_law 251 = .ok (.iadd, 1) := by decide +kernel
theorem dL_law_252 : decode cL_law 252 = .ok (.iaload, 1) := by decide +kernel
theorem dL_law_253 : decode cL_law 253 = .ok (.invokevirtual 26, 3) := by decide +kernel
theorem dL_law_256 : decode cL_law 256 = .ok (.aload_n 2, 1) := by decide +kernel
theorem dL_law_257 : decode cL_law 257 = .ok (.aload_n 0, 1) := by decide +kernel
theorem dL_law_258 : decode cL_law 258 = .ok (.iload_n 3, 1) := by decide +kernel
theorem dL_law_259 : decode cL_law 259 = .ok (.iconst 1, 1) := by decide +kernel
theorem dL_law_260 : decode cL_law 260 = .ok (.iadd, 1) := by decide +kernel
theorem dL_law_261 : decode cL_law 261 = .ok (.iaload, 1) := by decide +kernel
theorem dL_law_262 : decode cL_law 262 = .ok (.aload_n 0, 1) := by decide +kernel
theorem dL_law_263 : decode cL_law 263 = .ok (.iload_n 3, 1) := by decide +kernel
theorem dL_law_264 : decode cL_law 264 = .ok (.iconst 2, 1) := by decide +kernel
theorem dL_law_265 : decode cL_law 265 = .ok (.iadd, 1) := by decide +kernel
theorem dL_law_266 : decode cL_law 266 = .ok (.iaload, 1) := by decide +kernel
theorem dL_law_267 : decode cL_law 267 = .ok (.aload_n 0, 1) := by decide +kernel
theorem dL_law_268 : decode cL_law 268 = .ok (.iload_n 3, 1) := by decide +kernel
theorem dL_law_269 : decode cL_law 269 = .ok (.iconst 3, 1) := by decide +kernel
theorem dL_law_270 : decode cL_law 270 = .ok (.iadd, 1) := by decide +kernel
theorem dL_law_271 : decode cL_law 271 = .ok (.iaload, 1) := by decide +kernel
theorem dL_law_272 : decode cL_law 272 = .ok (.invokevirtual 30, 3) := by decide +kernel
theorem dL_law_275 : decode cL_law 275 = .ok (.if_icmp .eq 643, 3) := by decide +kernel
theorem dL_law_278 : decode cL_law 278 = .ok (.iconst 0, 1) := by decide +kernel
theorem dL_law_279 : decode cL_law 279 = .ok (.ireturn, 1) := by decide +kernel
theorem dL_law_280 : decode cL_law 280 = .ok (.aload_n 1, 1) := by decide +kernel
theorem dL_law_281 : decode cL_law 281 = .ok (.aload_n 0, 1) := by decide +kernel
theorem dL_law_282 : decode cL_law 282 = .ok (.iload_n 3, 1) := by decide +kernel
theorem dL_law_283 : decode cL_law 283 = .ok (.iconst 1, 1) := by decide +kernel
theorem dL_law_284 : decode cL_law 284 = .ok (.iadd, 1) := by decide +kernel
theorem dL_law_285 : decode cL_law 285 = .ok (.iaload, 1) := by decide +kernel
theorem dL_law_286 : decode cL_law 286 = .ok (.invokevirtual 31, 3) := by decide +kernel
theorem dL_law_289 : decode cL_law 289 = .ok (.aload_n 2, 1) := by decide +kernel
theorem dL_law_290 : decode cL_law 290 = .ok (.aload_n 0, 1) := by decide +kernel
theorem dL_law_291 : decode cL_law 291 = .ok (.iload_n 3, 1) := by decide +kernel
theorem dL_law_292 : decode cL_law 292 = .ok (.iconst 1, 1) := by decide +kernel
theorem dL_law_293 : decode cL_law 293 = .ok (.iadd, 1) := by decide +kernel
theorem dL_law_294 : decode cL_law 294 = .ok (.iaload, 1) := by decide +kernel
theorem dL_law_295 : decode cL_law 295 = .ok (.invokevirtual 34, 3) := by decide +kernel
theorem dL_law_298 : decode cL_law 298 = .ok (.if_icmp .eq 620, 3) := by decide +kernel
theorem dL_law_301 : decode cL_law 301 = .ok (.iconst 0, 1) := by decide +kernel
theorem dL_law_302 : decode cL_law 302 = .ok (.ireturn, 1) := by decide +kernel
theorem dL_law_303 : decode cL_law 303 = .ok (.aload_n 1, 1) := by decide +kernel
theorem dL_law_304 : decode cL_law 304 = .ok (.invokevirtual 35, 3) := by decide +kernel
theorem dL_law_307 : decode cL_law 307 = .ok (.aload_n 2, 1) := by decide +kernel
theorem dL_law_308 : decode cL_law 308 = .ok (.invokevirtual 39, 3) := by decide +kernel
theorem dL_law_311 : decode cL_law 311 = .ok (.if_icmp .eq 607, 3) := by decide +kernel
theorem dL_law_314 : decode cL_law 314 = .ok (.iconst 0, 1) := by decide +kernel
theorem dL_law_315 : decode cL_law 315 = .ok (.ireturn, 1) := by decide +kernel
theorem dL_law_316 : decode cL_law 316 = .ok (.aload_n 1, 1) := by decide +kernel
theorem dL_law_317 : decode cL_law 317 = .ok (.invokevirtual 40, 3) := by decide +kernel
theorem dL_law_320 : decode cL_law 320 = .ok (.aload_n 2, 1) := by decide +kernel
theorem dL_law_321 : decode cL_law 321 = .ok (.invokevirtual 43, 3) := by decide +kernel
theorem dL_law_324 : decode cL_law 324 = .ok (.if_icmp .eq 594, 3) := by decide +kernel
theorem dL_law_327 : decode cL_law 327 = .ok (.iconst 0, 1) := by decide +kernel
theorem dL_law_328 : decode cL_law 328 = .ok (.ireturn, 1) := by decide +kernel
theorem dL_law_329 : decode cL_law 329 = .ok (.aload_n 1, 1) := by decide +kernel
theorem dL_law_330 : decode cL_law 330 = .ok (.aload_n 0, 1) := by decide +kernel
theorem dL_law_331 : decode cL_law 331 = .ok (.iload_n 3, 1) := by decide +kernel
theorem dL_law_332 : decode cL_law 332 = .ok (.iconst 1, 1) := by decide +kernel
theorem dL_law_333 : decode cL_law 333 = .ok (.iadd, 1) := by decide +kernel
theorem dL_law_334 : decode cL_law 334 = .ok (.iaload, 1) := by decide +kernel
theorem dL_law_335 : decode cL_law 335 = .ok (.invokevirtual 44, 3) := by decide +kernel
theorem dL_law_338 : decode cL_law 338 = .ok (.aload_n 2, 1) := by decide +kernel
theorem dL_law_339 : decode cL_law 339 = .ok (.aload_n 0, 1) := by decide +kernel
theorem dL_law_340 : decode cL_law 340 = .ok (.iload_n 3, 1) := by decide +kernel
theorem dL_law_341 : decode cL_law 341 = .ok (.iconst 1, 1) := by decide +kernel
theorem dL_law_342 : decode cL_law 342 = .ok (.iadd, 1) := by decide +kernel
theorem dL_law_343 : decode cL_law 343 = .ok (.iaload, 1) := by decide +kernel
theorem dL_law_344 : decode cL_law 344 = .ok (.invokevirtual 47, 3) := by decide +kernel
theorem dL_law_347 : decode cL_law 347 = .ok (.if_icmp .eq 571, 3) := by decide +kernel
theorem dL_law_350 : decode cL_law 350 = .ok (.iconst 0, 1) := by decide +kernel
theorem dL_law_351 : decode cL_law 351 = .ok (.ireturn, 1) := by decide +kernel
theorem dL_law_352 : decode cL_law 352 = .ok (.aload_n 1, 1) := by decide +kernel
theorem dL_law_353 : decode cL_law 353 = .ok (.aload_n 0, 1) := by decide +kernel
theorem dL_law_354 : decode cL_law 354 = .ok (.iload_n 3, 1) := by decide +kernel
theorem dL_law_355 : decode cL_law 355 = .ok (.iconst 1, 1) := by decide +kernel
theorem dL_law_356 : decode cL_law 356 = .ok (.iadd, 1) := by decide +kernel
theorem dL_law_357 : decode cL_law 357 = .ok (.iaload, 1) := by decide +kernel
theorem dL_law_358 : decode cL_law 358 = .ok (.aload_n 0, 1) := by decide +kernel
theorem dL_law_359 : decode cL_law 359 = .ok (.iload_n 3, 1) := by decide +kernel
theorem dL_law_360 : decode cL_law 360 = .ok (.iconst 2, 1) := by decide +kernel
theorem dL_law_361 : decode cL_law 361 = .ok (.iadd, 1) := by decide +kernel
theorem dL_law_362 : decode cL_law 362 = .ok (.iaload, 1) := by decide +kernel
theorem dL_law_363 : decode cL_law 363 = .ok (.aload_n 0, 1) := by decide +kernel
theorem dL_law_364 : decode cL_law 364 = .ok (.iload_n 3, 1) := by decide +kernel
theorem dL_law_365 : decode cL_law 365 = .ok (.iconst 3, 1) := by decide +kernel
theorem dL_law_366 : decode cL_law 366 = .ok (.iadd, 1) := by decide +kernel
theorem dL_law_367 : decode cL_law 367 = .ok (.iaload, 1) := by decide +kernel
theorem dL_law_368 : decode cL_law 368 = .ok (.aload_n 0, 1) := by decide +kernel
theorem dL_law_369 : decode cL_law 369 = .ok (.iload_n 3, 1) := by decide +kernel
theorem dL_law_370 : decode cL_law 370 = .ok (.iconst 4, 1) := by decide +kernel
theorem dL_law_371 : decode cL_law 371 = .ok (.iadd, 1) := by decide +kernel
theorem dL_law_372 : decode cL_law 372 = .ok (.iaload, 1) := by decide +kernel
theorem dL_law_373 : decode cL_law 373 = .ok (.invokevirtual 48, 3) := by decide +kernel
theorem dL_law_376 : decode cL_law 376 = .ok (.aload_n 2, 1) := by decide +kernel
theorem dL_law_377 : decode cL_law 377 = .ok (.aload_n 0, 1) := by decide +kernel
theorem dL_law_378 : decode cL_law 378 = .ok (.iload_n 3, 1) := by decide +kernel
theorem dL_law_379 : decode cL_law 379 = .ok (.iconst 1, 1) := by decide +kernel
theorem dL_law_380 : decode cL_law 380 = .ok (.iadd, 1) := by decide +kernel
theorem dL_law_381 : decode cL_law 381 = .ok (.iaload, 1) := by decide +kernel
theorem dL_law_382 : decode cL_law 382 = .ok (.aload_n 0, 1) := by decide +kernel
theorem dL_law_383 : decode cL_law 383 = .ok (.iload_n 3, 1) := by decide +kernel
theorem dL_law_384 : decode cL_law 384 = .ok (.iconst 2, 1) := by decide +kernel
theorem dL_law_385 : decode cL_law 385 = .ok (.iadd, 1) := by decide +kernel
theorem dL_law_386 : decode cL_law 386 = .ok (.iaload, 1) := by decide +kernel
theorem dL_law_387 : decode cL_law 387 = .ok (.aload_n 0, 1) := by decide +kernel
theorem dL_law_388 : decode cL_law 388 = .ok (.iload_n 3, 1) := by decide +kernel
theorem dL_law_389 : decode cL_law 389 = .ok (.iconst 3, 1) := by decide +kernel
theorem dL_law_390 : decode cL_law 390 = .ok (.iadd, 1) := by decide +kernel
theorem dL_law_391 : decode cL_law 391 = .ok (.iaload, 1) := by decide +kernel
theorem dL_law_392 : decode cL_law 392 = .ok (.aload_n 0, 1) := by decide +kernel
theorem dL_law_393 : decode cL_law 393 = .ok (.iload_n 3, 1) := by decide +kernel
theorem dL_law_394 : decode cL_law 394 = .ok (.iconst 4, 1) := by decide +kernel
theorem dL_law_395 : decode cL_law 395 = .ok (.iadd, 1) := by decide +kernel
theorem dL_law_396 : decode cL_law 396 = .ok (.iaload, 1) := by decide +kernel
theorem dL_law_397 : decode cL_law 397 = .ok (.invokevirtual 52, 3) := by decide +kernel
theorem dL_law_400 : decode cL_law 400 = .ok (.if_icmp .eq 518, 3) := by decide +kernel
theorem dL_law_403 : decode cL_law 403 = .ok (.iconst 0, 1) := by decide +kernel
theorem dL_law_404 : decode cL_law 404 = .ok (.ireturn, 1) := by decide +kernel
theorem dL_law_405 : decode cL_law 405 = .ok (.aload_n 1, 1) := by decide +kernel
theorem dL_law_406 : decode cL_law 406 = .ok (.aload_n 0, 1) := by decide +kernel
theorem dL_law_407 : decode cL_law 407 = .ok (.iload_n 3, 1) := by decide +kernel
theorem dL_law_408 : decode cL_law 408 = .ok (.iconst 1, 1) := by decide +kernel
theorem dL_law_409 : decode cL_law 409 = .ok (.iadd, 1) := by decide +kernel
theorem dL_law_410 : decode cL_law 410 = .ok (.iaload, 1) := by decide +kernel
theorem dL_law_411 : decode cL_law 411 = .ok (.aload_n 0, 1) := by decide +kernel
theorem dL_law_412 : decode cL_law 412 = .ok (.iload_n 3, 1) := by decide +kernel
theorem dL_law_413 : decode cL_law 413 = .ok (.iconst 2, 1) := by decide +kernel
theorem dL_law_414 : decode cL_law 414 = .ok (.iadd, 1) := by decide +kernel
theorem dL_law_415 : decode cL_law 415 = .ok (.iaload, 1) := by decide +kernel
theorem dL_law_416 : decode cL_law 416 = .ok (.invokevirtual 53, 3) := by decide +kernel
theorem dL_law_419 : decode cL_law 419 = .ok (.aload_n 2, 1) := by decide +kernel
theorem dL_law_420 : decode cL_law 420 = .ok (.aload_n 0, 1) := by decide +kernel
theorem dL_law_421 : decode cL_law 421 = .ok (.iload_n 3, 1) := by decide +kernel
theorem dL_law_422 : decode cL_law 422 = .ok (.iconst 1, 1) := by decide +kernel
theorem dL_law_423 : decode cL_law 423 = .ok (.iadd, 1) := by decide +kernel
theorem dL_law_424 : decode cL_law 424 = .ok (.iaload, 1) := by decide +kernel
theorem dL_law_425 : decode cL_law 425 = .ok (.aload_n 0, 1) := by decide +kernel
theorem dL_law_426 : decode cL_law 426 = .ok (.iload_n 3, 1) := by decide +kernel
theorem dL_law_427 : decode cL_law 427 = .ok (.iconst 2, 1) := by decide +kernel
theorem dL_law_428 : decode cL_law 428 = .ok (.iadd, 1) := by decide +kernel
theorem dL_law_429 : decode cL_law 429 = .ok (.iaload, 1) := by decide +kernel
theorem dL_law_430 : decode cL_law 430 = .ok (.invokevirtual 57, 3) := by decide +kernel
theorem dL_law_433 : decode cL_law 433 = .ok (.if_icmp .eq 485, 3) := by decide +kernel
theorem dL_law_436 : decode cL_law 436 = .ok (.iconst 0, 1) := by decide +kernel
theorem dL_law_437 : decode cL_law 437 = .ok (.ireturn, 1) := by decide +kernel
theorem dL_law_438 : decode cL_law 438 = .ok (.aload_n 1, 1) := by decide +kernel
theorem dL_law_439 : decode cL_law 439 = .ok (.invokevirtual 58, 3) := by decide +kernel
theorem dL_law_442 : decode cL_law 442 = .ok (.aload_n 2, 1) := by decide +kernel
theorem dL_law_443 : decode cL_law 443 = .ok (.invokevirtual 61, 3) := by decide +kernel
theorem dL_law_446 : decode cL_law 446 = .ok (.if_icmp .eq 472, 3) := by decide +kernel
theorem dL_law_449 : decode cL_law 449 = .ok (.iconst 0, 1) := by decide +kernel
theorem dL_law_450 : decode cL_law 450 = .ok (.ireturn, 1) := by decide +kernel
theorem dL_law_451 : decode cL_law 451 = .ok (.aload_n 1, 1) := by decide +kernel
theorem dL_law_452 : decode cL_law 452 = .ok (.invokevirtual 62, 3) := by decide +kernel
theorem dL_law_455 : decode cL_law 455 = .ok (.aload_n 2, 1) := by decide +kernel
theorem dL_law_456 : decode cL_law 456 = .ok (.invokevirtual 65, 3) := by decide +kernel
theorem dL_law_459 : decode cL_law 459 = .ok (.if_icmp .eq 459, 3) := by decide +kernel
theorem dL_law_462 : decode cL_law 462 = .ok (.iconst 0, 1) := by decide +kernel
theorem dL_law_463 : decode cL_law 463 = .ok (.ireturn, 1) := by decide +kernel
theorem dL_law_464 : decode cL_law 464 = .ok (.aload_n 1, 1) := by decide +kernel
theorem dL_law_465 : decode cL_law 465 = .ok (.aload_n 0, 1) := by decide +kernel
theorem dL_law_466 : decode cL_law 466 = .ok (.iload_n 3, 1) := by decide +kernel
theorem dL_law_467 : decode cL_law 467 = .ok (.iconst 1, 1) := by decide +kernel
theorem dL_law_468 : decode cL_law 468 = .ok (.iadd, 1) := by decide +kernel
theorem dL_law_469 : decode cL_law 469 = .ok (.iaload, 1) := by decide +kernel
theorem dL_law_470 : decode cL_law 470 = .ok (.invokevirtual 66, 3) := by decide +kernel
theorem dL_law_473 : decode cL_law 473 = .ok (.aload_n 2, 1) := by decide +kernel
theorem dL_law_474 : decode cL_law 474 = .ok (.aload_n 0, 1) := by decide +kernel
theorem dL_law_475 : decode cL_law 475 = .ok (.iload_n 3, 1) := by decide +kernel
theorem dL_law_476 : decode cL_law 476 = .ok (.iconst 1, 1) := by decide +kernel
theorem dL_law_477 : decode cL_law 477 = .ok (.iadd, 1) := by decide +kernel
theorem dL_law_478 : decode cL_law 478 = .ok (.iaload, 1) := by decide +kernel
theorem dL_law_479 : decode cL_law 479 = .ok (.invokevirtual 69, 3) := by decide +kernel
theorem dL_law_482 : decode cL_law 482 = .ok (.if_icmp .eq 436, 3) := by decide +kernel
theorem dL_law_485 : decode cL_law 485 = .ok (.iconst 0, 1) := by decide +kernel
theorem dL_law_486 : decode cL_law 486 = .ok (.ireturn, 1) := by decide +kernel
theorem dL_law_487 : decode cL_law 487 = .ok (.aload_n 1, 1) := by decide +kernel
theorem dL_law_488 : decode cL_law 488 = .ok (.invokevirtual 70, 3) := by decide +kernel
theorem dL_law_491 : decode cL_law 491 = .ok (.aload_n 2, 1) := by decide +kernel
theorem dL_law_492 : decode cL_law 492 = .ok (.invokevirtual 73, 3) := by decide +kernel
theorem dL_law_495 : decode cL_law 495 = .ok (.if_icmp .eq 423, 3) := by decide +kernel
theorem dL_law_498 : decode cL_law 498 = .ok (.iconst 0, 1) := by decide +kernel
theorem dL_law_499 : decode cL_law 499 = .ok (.ireturn, 1) := by decide +kernel
theorem dL_law_500 : decode cL_law 500 = .ok (.aload_n 1, 1) := by decide +kernel
theorem dL_law_501 : decode cL_law 501 = .ok (.invokevirtual 74, 3) := by decide +kernel
theorem dL_law_504 : decode cL_law 504 = .ok (.aload_n 2, 1) := by decide +kernel
theorem dL_law_505 : decode cL_law 505 = .ok (.invokevirtual 77, 3) := by decide +kernel
theorem dL_law_508 : decode cL_law 508 = .ok (.if_icmp .eq 410, 3) := by decide +kernel
theorem dL_law_511 : decode cL_law 511 = .ok (.iconst 0, 1) := by decide +kernel
theorem dL_law_512 : decode cL_law 512 = .ok (.ireturn, 1) := by decide +kernel
theorem dL_law_513 : decode cL_law 513 = .ok (.aload_n 1, 1) := by decide +kernel
theorem dL_law_514 : decode cL_law 514 = .ok (.invokevirtual 78, 3) := by decide +kernel
theorem dL_law_517 : decode cL_law 517 = .ok (.aload_n 2, 1) := by decide +kernel
theorem dL_law_518 : decode cL_law 518 = .ok (.invokevirtual 81, 3) := by decide +kernel
theorem dL_law_521 : decode cL_law 521 = .ok (.if_icmp .eq 397, 3) := by decide +kernel
theorem dL_law_524 : decode cL_law 524 = .ok (.iconst 0, 1) := by decide +kernel
theorem dL_law_525 : decode cL_law 525 = .ok (.ireturn, 1) := by decide +kernel
theorem dL_law_526 : decode cL_law 526 = .ok (.aload_n 1, 1) := by decide +kernel
theorem dL_law_527 : decode cL_law 527 = .ok (.aload_n 0, 1) := by decide +kernel
theorem dL_law_528 : decode cL_law 528 = .ok (.iload_n 3, 1) := by decide +kernel
theorem dL_law_529 : decode cL_law 529 = .ok (.iconst 1, 1) := by decide +kernel
theorem dL_law_530 : decode cL_law 530 = .ok (.iadd, 1) := by decide +kernel
theorem dL_law_531 : decode cL_law 531 = .ok (.iaload, 1) := by decide +kernel
theorem dL_law_532 : decode cL_law 532 = .ok (.invokevirtual 82, 3) := by decide +kernel
theorem dL_law_535 : decode cL_law 535 = .ok (.aload_n 2, 1) := by decide +kernel
theorem dL_law_536 : decode cL_law 536 = .ok (.aload_n 0, 1) := by decide +kernel
theorem dL_law_537 : decode cL_law 537 = .ok (.iload_n 3, 1) := by decide +kernel
theorem dL_law_538 : decode cL_law 538 = .ok (.iconst 1, 1) := by decide +kernel
theorem dL_law_539 : decode cL_law 539 = .ok (.iadd, 1) := by decide +kernel
theorem dL_law_540 : decode cL_law 540 = .ok (.iaload, 1) := by decide +kernel
theorem dL_law_541 : decode cL_law 541 = .ok (.invokevirtual 85, 3) := by decide +kernel
theorem dL_law_544 : decode cL_law 544 = .ok (.if_icmp .eq 374, 3) := by decide +kernel
theorem dL_law_547 : decode cL_law 547 = .ok (.iconst 0, 1) := by decide +kernel
theorem dL_law_548 : decode cL_law 548 = .ok (.ireturn, 1) := by decide +kernel
theorem dL_law_549 : decode cL_law 549 = .ok (.aload_n 1, 1) := by decide +kernel
theorem dL_law_550 : decode cL_law 550 = .ok (.aload_n 0, 1) := by decide +kernel
theorem dL_law_551 : decode cL_law 551 = .ok (.iload_n 3, 1) := by decide +kernel
theorem dL_law_552 : decode cL_law 552 = .ok (.iconst 1, 1) := by decide +kernel
theorem dL_law_553 : decode cL_law 553 = .ok (.iadd, 1) := by decide +kernel
theorem dL_law_554 : decode cL_law 554 = .ok (.iaload, 1) := by decide +kernel
theorem dL_law_555 : decode cL_law 555 = .ok (.invokevirtual 86, 3) := by decide +kernel
theorem dL_law_558 : decode cL_law 558 = .ok (.aload_n 2, 1) := by decide +kernel
theorem dL_law_559 : decode cL_law 559 = .ok (.aload_n 0, 1) := by decide +kernel
theorem dL_law_560 : decode cL_law 560 = .ok (.iload_n 3, 1) := by decide +kernel
theorem dL_law_561 : decode cL_law 561 = .ok (.iconst 1, 1) := by decide +kernel
theorem dL_law_562 : decode cL_law 562 = .ok (.iadd, 1) := by decide +kernel
theorem dL_law_563 : decode cL_law 563 = .ok (.iaload, 1) := by decide +kernel
theorem dL_law_564 : decode cL_law 564 = .ok (.invokevirtual 89, 3) := by decide +kernel
theorem dL_law_567 : decode cL_law 567 = .ok (.if_icmp .eq 351, 3) := by decide +kernel
theorem dL_law_570 : decode cL_law 570 = .ok (.iconst 0, 1) := by decide +kernel
theorem dL_law_571 : decode cL_law 571 = .ok (.ireturn, 1) := by decide +kernel
theorem dL_law_572 : decode cL_law 572 = .ok (.aload_n 1, 1) := by decide +kernel
theorem dL_law_573 : decode cL_law 573 = .ok (.aload_n 0, 1) := by decide +kernel
theorem dL_law_574 : decode cL_law 574 = .ok (.iload_n 3, 1) := by decide +kernel
theorem dL_law_575 : decode cL_law 575 = .ok (.iconst 1, 1) := by decide +kernel
theorem dL_law_576 : decode cL_law 576 = .ok (.iadd, 1) := by decide +kernel
theorem dL_law_577 : decode cL_law 577 = .ok (.iaload, 1) := by decide +kernel
theorem dL_law_578 : decode cL_law 578 = .ok (.aload_n 0, 1) := by decide +kernel
theorem dL_law_579 : decode cL_law 579 = .ok (.iload_n 3, 1) := by decide +kernel
theorem dL_law_580 : decode cL_law 580 = .ok (.iconst 2, 1) := by decide +kernel
theorem dL_law_581 : decode cL_law 581 = .ok (.iadd, 1) := by decide +kernel
theorem dL_law_582 : decode cL_law 582 = .ok (.iaload, 1) := by decide +kernel
theorem dL_law_583 : decode cL_law 583 = .ok (.invokevirtual 90, 3) := by decide +kernel
theorem dL_law_586 : decode cL_law 586 = .ok (.aload_n 2, 1) := by decide +kernel
theorem dL_law_587 : decode cL_law 587 = .ok (.aload_n 0, 1) := by decide +kernel
theorem dL_law_588 : decode cL_law 588 = .ok (.iload_n 3, 1) := by decide +kernel
theorem dL_law_589 : decode cL_law 589 = .ok (.iconst 1, 1) := by decide +kernel
theorem dL_law_590 : decode cL_law 590 = .ok (.iadd, 1) := by decide +kernel
theorem dL_law_591 : decode cL_law 591 = .ok (.iaload, 1) := by decide +kernel
theorem dL_law_592 : decode cL_law 592 = .ok (.aload_n 0, 1) := by decide +kernel
theorem dL_law_593 : decode cL_law 593 = .ok (.iload_n 3, 1) := by decide +kernel
theorem dL_law_594 : decode cL_law 594 = .ok (.iconst 2, 1) := by decide +kernel
theorem dL_law_595 : decode cL_law 595 = .ok (.iadd, 1) := by decide +kernel
theorem dL_law_596 : decode cL_law 596 = .ok (.iaload, 1) := by decide +kernel
theorem dL_law_597 : decode cL_law 597 = .ok (.invokevirtual 93, 3) := by decide +kernel
theorem dL_law_600 : decode cL_law 600 = .ok (.if_icmp .eq 318, 3) := by decide +kernel
theorem dL_law_603 : decode cL_law 603 = .ok (.iconst 0, 1) := by decide +kernel
theorem dL_law_604 : decode cL_law 604 = .ok (.ireturn, 1) := by decide +kernel
theorem dL_law_605 : decode cL_law 605 = .ok (.aload_n 1, 1) := by decide +kernel
theorem dL_law_606 : decode cL_law 606 = .ok (.aload_n 0, 1) := by decide +kernel
theorem dL_law_607 : decode cL_law 607 = .ok (.iload_n 3, 1) := by decide +kernel
theorem dL_law_608 : decode cL_law 608 = .ok (.iconst 1, 1) := by decide +kernel
theorem dL_law_609 : decode cL_law 609 = .ok (.iadd, 1) := by decide +kernel
theorem dL_law_610 : decode cL_law 610 = .ok (.iaload, 1) := by decide +kernel
theorem dL_law_611 : decode cL_law 611 = .ok (.aload_n 0, 1) := by decide +kernel
theorem dL_law_612 : decode cL_law 612 = .ok (.iload_n 3, 1) := by decide +kernel
theorem dL_law_613 : decode cL_law 613 = .ok (.iconst 2, 1) := by decide +kernel
theorem dL_law_614 : decode cL_law 614 = .ok (.iadd, 1) := by decide +kernel
theorem dL_law_615 : decode cL_law 615 = .ok (.iaload, 1) := by decide +kernel
theorem dL_law_616 : decode cL_law 616 = .ok (.invokevirtual 94, 3) := by decide +kernel
theorem dL_law_619 : decode cL_law 619 = .ok (.aload_n 2, 1) := by decide +kernel
theorem dL_law_620 : decode cL_law 620 = .ok (.aload_n 0, 1) := by decide +kernel
theorem dL_law_621 : decode cL_law 621 = .ok (.iload_n 3, 1) := by decide +kernel
theorem dL_law_622 : decode cL_law 622 = .ok (.iconst 1, 1) := by decide +kernel
theorem dL_law_623 : decode cL_law 623 = .ok (.iadd, 1) := by decide +kernel
theorem dL_law_624 : decode cL_law 624 = .ok (.iaload, 1) := by decide +kernel
theorem dL_law_625 : decode cL_law 625 = .ok (.aload_n 0, 1) := by decide +kernel
theorem dL_law_626 : decode cL_law 626 = .ok (.iload_n 3, 1) := by decide +kernel
theorem dL_law_627 : decode cL_law 627 = .ok (.iconst 2, 1) := by decide +kernel
theorem dL_law_628 : decode cL_law 628 = .ok (.iadd, 1) := by decide +kernel
theorem dL_law_629 : decode cL_law 629 = .ok (.iaload, 1) := by decide +kernel
theorem dL_law_630 : decode cL_law 630 = .ok (.invokevirtual 97, 3) := by decide +kernel
theorem dL_law_633 : decode cL_law 633 = .ok (.if_icmp .eq 285, 3) := by decide +kernel
theorem dL_law_636 : decode cL_law 636 = .ok (.iconst 0, 1) := by decide +kernel
theorem dL_law_637 : decode cL_law 637 = .ok (.ireturn, 1) := by decide +kernel
theorem dL_law_638 : decode cL_law 638 = .ok (.aload_n 1, 1) := by decide +kernel
theorem dL_law_639 : decode cL_law 639 = .ok (.aload_n 0, 1) := by decide +kernel
theorem dL_law_640 : decode cL_law 640 = .ok (.iload_n 3, 1) := by decide +kernel
theorem dL_law_641 : decode cL_law 641 = .ok (.iconst 1, 1) := by decide +kernel
theorem dL_law_642 : decode cL_law 642 = .ok (.iadd, 1) := by decide +kernel
theorem dL_law_643 : decode cL_law 643 = .ok (.iaload, 1) := by decide +kernel
theorem dL_law_644 : decode cL_law 644 = .ok (.aload_n 0, 1) := by decide +kernel
theorem dL_law_645 : decode cL_law 645 = .ok (.iload_n 3, 1) := by decide +kernel
theorem dL_law_646 : decode cL_law 646 = .ok (.iconst 2, 1) := by decide +kernel
theorem dL_law_647 : decode cL_law 647 = .ok (.iadd, 1) := by decide +kernel
theorem dL_law_648 : decode cL_law 648 = .ok (.iaload, 1) := by decide +kernel
theorem dL_law_649 : decode cL_law 649 = .ok (.invokevirtual 98, 3) := by decide +kernel
theorem dL_law_652 : decode cL_law 652 = .ok (.aload_n 2, 1) := by decide +kernel
theorem dL_law_653 : decode cL_law 653 = .ok (.aload_n 0, 1) := by decide +kernel
theorem dL_law_654 : decode cL_law 654 = .ok (.iload_n 3, 1) := by decide +kernel
theorem dL_law_655 : decode cL_law 655 = .ok (.iconst 1, 1) := by decide +kernel
theorem dL_law_656 : decode cL_law 656 = .ok (.iadd, 1) := by decide +kernel
theorem dL_law_657 : decode cL_law 657 = .ok (.iaload, 1) := by decide +kernel
theorem dL_law_658 : decode cL_law 658 = .ok (.aload_n 0, 1) := by decide +kernel
theorem dL_law_659 : decode cL_law 659 = .ok (.iload_n 3, 1) := by decide +kernel
theorem dL_law_660 : decode cL_law 660 = .ok (.iconst 2, 1) := by decide +kernel
theorem dL_law_661 : decode cL_law 661 = .ok (.iadd, 1) := by decide +kernel
theorem dL_law_662 : decode cL_law 662 = .ok (.iaload, 1) := by decide +kernel
theorem dL_law_663 : decode cL_law 663 = .ok (.invokevirtual 101, 3) := by decide +kernel
theorem dL_law_666 : decode cL_law 666 = .ok (.if_icmp .eq 252, 3) := by decide +kernel
theorem dL_law_669 : decode cL_law 669 = .ok (.iconst 0, 1) := by decide +kernel
theorem dL_law_670 : decode cL_law 670 = .ok (.ireturn, 1) := by decide +kernel
theorem dL_law_671 : decode cL_law 671 = .ok (.aload_n 1, 1) := by decide +kernel
theorem dL_law_672 : decode cL_law 672 = .ok (.aload_n 0, 1) := by decide +kernel
theorem dL_law_673 : decode cL_law 673 = .ok (.iload_n 3, 1) := by decide +kernel
theorem dL_law_674 : decode cL_law 674 = .ok (.iconst 1, 1) := by decide +kernel
theorem dL_law_675 : decode cL_law 675 = .ok (.iadd, 1) := by decide +kernel
theorem dL_law_676 : decode cL_law 676 = .ok (.iaload, 1) := by decide +kernel
theorem dL_law_677 : decode cL_law 677 = .ok (.aload_n 0, 1) := by decide +kernel
theorem dL_law_678 : decode cL_law 678 = .ok (.iload_n 3, 1) := by decide +kernel
theorem dL_law_679 : decode cL_law 679 = .ok (.iconst 2, 1) := by decide +kernel
theorem dL_law_680 : decode cL_law 680 = .ok (.iadd, 1) := by decide +kernel
theorem dL_law_681 : decode cL_law 681 = .ok (.iaload, 1) := by decide +kernel
theorem dL_law_682 : decode cL_law 682 = .ok (.invokevirtual 102, 3) := by decide +kernel
theorem dL_law_685 : decode cL_law 685 = .ok (.aload_n 2, 1) := by decide +kernel
theorem dL_law_686 : decode cL_law 686 = .ok (.aload_n 0, 1) := by decide +kernel
theorem dL_law_687 : decode cL_law 687 = .ok (.iload_n 3, 1) := by decide +kernel
theorem dL_law_688 : decode cL_law 688 = .ok (.iconst 1, 1) := by decide +kernel
theorem dL_law_689 : decode cL_law 689 = .ok (.iadd, 1) := by decide +kernel
theorem dL_law_690 : decode cL_law 690 = .ok (.iaload, 1) := by decide +kernel
theorem dL_law_691 : decode cL_law 691 = .ok (.aload_n 0, 1) := by decide +kernel
theorem dL_law_692 : decode cL_law 692 = .ok (.iload_n 3, 1) := by decide +kernel
theorem dL_law_693 : decode cL_law 693 = .ok (.iconst 2, 1) := by decide +kernel
theorem dL_law_694 : decode cL_law 694 = .ok (.iadd, 1) := by decide +kernel
theorem dL_law_695 : decode cL_law 695 = .ok (.iaload, 1) := by decide +kernel
theorem dL_law_696 : decode cL_law 696 = .ok (.invokevirtual 105, 3) := by decide +kernel
theorem dL_law_699 : decode cL_law 699 = .ok (.if_icmp .eq 219, 3) := by decide +kernel
theorem dL_law_702 : decode cL_law 702 = .ok (.iconst 0, 1) := by decide +kernel
theorem dL_law_703 : decode cL_law 703 = .ok (.ireturn, 1) := by decide +kernel
theorem dL_law_704 : decode cL_law 704 = .ok (.aload_n 1, 1) := by decide +kernel
theorem dL_law_705 : decode cL_law 705 = .ok (.aload_n 0, 1) := by decide +kernel
theorem dL_law_706 : decode cL_law 706 = .ok (.iload_n 3, 1) := by decide +kernel
theorem dL_law_707 : decode cL_law 707 = .ok (.iconst 1, 1) := by decide +kernel
theorem dL_law_708 : decode cL_law 708 = .ok (.iadd, 1) := by decide +kernel
theorem dL_law_709 : decode cL_law 709 = .ok (.iaload, 1) := by decide +kernel
theorem dL_law_710 : decode cL_law 710 = .ok (.invokevirtual 106, 3) := by decide +kernel
theorem dL_law_713 : decode cL_law 713 = .ok (.aload_n 2, 1) := by decide +kernel
theorem dL_law_714 : decode cL_law 714 = .ok (.aload_n 0, 1) := by decide +kernel
theorem dL_law_715 : decode cL_law 715 = .ok (.iload_n 3, 1) := by decide +kernel
theorem dL_law_716 : decode cL_law 716 = .ok (.iconst 1, 1) := by decide +kernel
theorem dL_law_717 : decode cL_law 717 = .ok (.iadd, 1) := by decide +kernel
theorem dL_law_718 : decode cL_law 718 = .ok (.iaload, 1) := by decide +kernel
theorem dL_law_719 : decode cL_law 719 = .ok (.invokevirtual 109, 3) := by decide +kernel
theorem dL_law_722 : decode cL_law 722 = .ok (.if_icmp .eq 196, 3) := by decide +kernel
theorem dL_law_725 : decode cL_law 725 = .ok (.iconst 0, 1) := by decide +kernel
theorem dL_law_726 : decode cL_law 726 = .ok (.ireturn, 1) := by decide +kernel
theorem dL_law_727 : decode cL_law 727 = .ok (.aload_n 1, 1) := by decide +kernel
theorem dL_law_728 : decode cL_law 728 = .ok (.aload_n 0, 1) := by decide +kernel
theorem dL_law_729 : decode cL_law 729 = .ok (.iload_n 3, 1) := by decide +kernel
theorem dL_law_730 : decode cL_law 730 = .ok (.iconst 1, 1) := by decide +kernel
theorem dL_law_731 : decode cL_law 731 = .ok (.iadd, 1) := by decide +kernel
theorem dL_law_732 : decode cL_law 732 = .ok (.iaload, 1) := by decide +kernel
theorem dL_law_733 : decode cL_law 733 = .ok (.aload_n 0, 1) := by decide +kernel
theorem dL_law_734 : decode cL_law 734 = .ok (.iload_n 3, 1) := by decide +kernel
theorem dL_law_735 : decode cL_law 735 = .ok (.iconst 2, 1) := by decide +kernel
theorem dL_law_736 : decode cL_law 736 = .ok (.iadd, 1) := by decide +kernel
theorem dL_law_737 : decode cL_law 737 = .ok (.iaload, 1) := by decide +kernel
theorem dL_law_738 : decode cL_law 738 = .ok (.invokevirtual 110, 3) := by decide +kernel
theorem dL_law_741 : decode cL_law 741 = .ok (.aload_n 2, 1) := by decide +kernel
theorem dL_law_742 : decode cL_law 742 = .ok (.aload_n 0, 1) := by decide +kernel
theorem dL_law_743 : decode cL_law 743 = .ok (.iload_n 3, 1) := by decide +kernel
theorem dL_law_744 : decode cL_law 744 = .ok (.iconst 1, 1) := by decide +kernel
theorem dL_law_745 : decode cL_law 745 = .ok (.iadd, 1) := by decide +kernel
theorem dL_law_746 : decode cL_law 746 = .ok (.iaload, 1) := by decide +kernel
theorem dL_law_747 : decode cL_law 747 = .ok (.aload_n 0, 1) := by decide +kernel
theorem dL_law_748 : decode cL_law 748 = .ok (.iload_n 3, 1) := by decide +kernel
theorem dL_law_749 : decode cL_law 749 = .ok (.iconst 2, 1) := by decide +kernel
theorem dL_law_750 : decode cL_law 750 = .ok (.iadd, 1) := by decide +kernel
theorem dL_law_751 : decode cL_law 751 = .ok (.iaload, 1) := by decide +kernel
theorem dL_law_752 : decode cL_law 752 = .ok (.invokevirtual 113, 3) := by decide +kernel
theorem dL_law_755 : decode cL_law 755 = .ok (.if_icmp .eq 163, 3) := by decide +kernel
theorem dL_law_758 : decode cL_law 758 = .ok (.iconst 0, 1) := by decide +kernel
theorem dL_law_759 : decode cL_law 759 = .ok (.ireturn, 1) := by decide +kernel
theorem dL_law_760 : decode cL_law 760 = .ok (.aload_n 1, 1) := by decide +kernel
theorem dL_law_761 : decode cL_law 761 = .ok (.aload_n 0, 1) := by decide +kernel
theorem dL_law_762 : decode cL_law 762 = .ok (.iload_n 3, 1) := by decide +kernel
theorem dL_law_763 : decode cL_law 763 = .ok (.iconst 1, 1) := by decide +kernel
theorem dL_law_764 : decode cL_law 764 = .ok (.iadd, 1) := by decide +kernel
theorem dL_law_765 : decode cL_law 765 = .ok (.iaload, 1) := by decide +kernel
theorem dL_law_766 : decode cL_law 766 = .ok (.invokevirtual 114, 3) := by decide +kernel
theorem dL_law_769 : decode cL_law 769 = .ok (.aload_n 2, 1) := by decide +kernel
theorem dL_law_770 : decode cL_law 770 = .ok (.aload_n 0, 1) := by decide +kernel
theorem dL_law_771 : decode cL_law 771 = .ok (.iload_n 3, 1) := by decide +kernel
theorem dL_law_772 : decode cL_law 772 = .ok (.iconst 1, 1) := by decide +kernel
theorem dL_law_773 : decode cL_law 773 = .ok (.iadd, 1) := by decide +kernel
theorem dL_law_774 : decode cL_law 774 = .ok (.iaload, 1) := by decide +kernel
theorem dL_law_775 : decode cL_law 775 = .ok (.invokevirtual 117, 3) := by decide +kernel
theorem dL_law_778 : decode cL_law 778 = .ok (.if_icmp .eq 140, 3) := by decide +kernel
theorem dL_law_781 : decode cL_law 781 = .ok (.iconst 0, 1) := by decide +kernel
theorem dL_law_782 : decode cL_law 782 = .ok (.ireturn, 1) := by decide +kernel
theorem dL_law_783 : decode cL_law 783 = .ok (.aload_n 1, 1) := by decide +kernel
theorem dL_law_784 : decode cL_law 784 = .ok (.aload_n 0, 1) := by decide +kernel
theorem dL_law_785 : decode cL_law 785 = .ok (.iload_n 3, 1) := by decide +kernel
theorem dL_law_786 : decode cL_law 786 = .ok (.iconst 1, 1) := by decide +kernel
theorem dL_law_787 : decode cL_law 787 = .ok (.iadd, 1) := by decide +kernel
theorem dL_law_788 : decode cL_law 788 = .ok (.iaload, 1) := by decide +kernel
theorem dL_law_789 : decode cL_law 789 = .ok (.invokevirtual 118, 3) := by decide +kernel
theorem dL_law_792 : decode cL_law 792 = .ok (.aload_n 2, 1) := by decide +kernel
theorem dL_law_793 : decode cL_law 793 = .ok (.aload_n 0, 1) := by decide +kernel
theorem dL_law_794 : decode cL_law 794 = .ok (.iload_n 3, 1) := by decide +kernel
theorem dL_law_795 : decode cL_law 795 = .ok (.iconst 1, 1) := by decide +kernel
theorem dL_law_796 : decode cL_law 796 = .ok (.iadd, 1) := by decide +kernel
theorem dL_law_797 : decode cL_law 797 = .ok (.iaload, 1) := by decide +kernel
theorem dL_law_798 : decode cL_law 798 = .ok (.invokevirtual 121, 3) := by decide +kernel
theorem dL_law_801 : decode cL_law 801 = .ok (.if_icmp .eq 117, 3) := by decide +kernel
theorem dL_law_804 : decode cL_law 804 = .ok (.iconst 0, 1) := by decide +kernel
theorem dL_law_805 : decode cL_law 805 = .ok (.ireturn, 1) := by decide +kernel
theorem dL_law_806 : decode cL_law 806 = .ok (.aload_n 1, 1) := by decide +kernel
theorem dL_law_807 : decode cL_law 807 = .ok (.aload_n 0, 1) := by decide +kernel
theorem dL_law_808 : decode cL_law 808 = .ok (.iload_n 3, 1) := by decide +kernel
theorem dL_law_809 : decode cL_law 809 = .ok (.iconst 1, 1) := by decide +kernel
theorem dL_law_810 : decode cL_law 810 = .ok (.iadd, 1) := by decide +kernel
theorem dL_law_811 : decode cL_law 811 = .ok (.iaload, 1) := by decide +kernel
theorem dL_law_812 : decode cL_law 812 = .ok (.invokevirtual 122, 3) := by decide +kernel
theorem dL_law_815 : decode cL_law 815 = .ok (.aload_n 2, 1) := by decide +kernel
theorem dL_law_816 : decode cL_law 816 = .ok (.aload_n 0, 1) := by decide +kernel
theorem dL_law_817 : decode cL_law 817 = .ok (.iload_n 3, 1) := by decide +kernel
theorem dL_law_818 : decode cL_law 818 = .ok (.iconst 1, 1) := by decide +kernel
theorem dL_law_819 : decode cL_law 819 = .ok (.iadd, 1) := by decide +kernel
theorem dL_law_820 : decode cL_law 820 = .ok (.iaload, 1) := by decide +kernel
theorem dL_law_821 : decode cL_law 821 = .ok (.invokevirtual 125, 3) := by decide +kernel
theorem dL_law_824 : decode cL_law 824 = .ok (.if_icmp .eq 94, 3) := by decide +kernel
theorem dL_law_827 : decode cL_law 827 = .ok (.iconst 0, 1) := by decide +kernel
theorem dL_law_828 : decode cL_law 828 = .ok (.ireturn, 1) := by decide +kernel
theorem dL_law_829 : decode cL_law 829 = .ok (.aload_n 1, 1) := by decide +kernel
theorem dL_law_830 : decode cL_law 830 = .ok (.aload_n 0, 1) := by decide +kernel
theorem dL_law_831 : decode cL_law 831 = .ok (.iload_n 3, 1) := by decide +kernel
theorem dL_law_832 : decode cL_law 832 = .ok (.iconst 1, 1) := by decide +kernel
theorem dL_law_833 : decode cL_law 833 = .ok (.iadd, 1) := by decide +kernel
theorem dL_law_834 : decode cL_law 834 = .ok (.iaload, 1) := by decide +kernel
theorem dL_law_835 : decode cL_law 835 = .ok (.invokevirtual 126, 3) := by decide +kernel
theorem dL_law_838 : decode cL_law 838 = .ok (.aload_n 2, 1) := by decide +kernel
theorem dL_law_839 : decode cL_law 839 = .ok (.aload_n 0, 1) := by decide +kernel
theorem dL_law_840 : decode cL_law 840 = .ok (.iload_n 3, 1) := by decide +kernel
theorem dL_law_841 : decode cL_law 841 = .ok (.iconst 1, 1) := by decide +kernel
theorem dL_law_842 : decode cL_law 842 = .ok (.iadd, 1) := by decide +kernel
theorem dL_law_843 : decode cL_law 843 = .ok (.iaload, 1) := by decide +kernel
theorem dL_law_844 : decode cL_law 844 = .ok (.invokevirtual 129, 3) := by decide +kernel
theorem dL_law_847 : decode cL_law 847 = .ok (.if_icmp .eq 71, 3) := by decide +kernel
theorem dL_law_850 : decode cL_law 850 = .ok (.iconst 0, 1) := by decide +kernel
theorem dL_law_851 : decode cL_law 851 = .ok (.ireturn, 1) := by decide +kernel
theorem dL_law_852 : decode cL_law 852 = .ok (.aload_n 1, 1) := by decide +kernel
theorem dL_law_853 : decode cL_law 853 = .ok (.aload_n 0, 1) := by decide +kernel
theorem dL_law_854 : decode cL_law 854 = .ok (.iload_n 3, 1) := by decide +kernel
theorem dL_law_855 : decode cL_law 855 = .ok (.iconst 1, 1) := by decide +kernel
theorem dL_law_856 : decode cL_law 856 = .ok (.iadd, 1) := by decide +kernel
theorem dL_law_857 : decode cL_law 857 = .ok (.iaload, 1) := by decide +kernel
theorem dL_law_858 : decode cL_law 858 = .ok (.invokevirtual 130, 3) := by decide +kernel
theorem dL_law_861 : decode cL_law 861 = .ok (.aload_n 2, 1) := by decide +kernel
theorem dL_law_862 : decode cL_law 862 = .ok (.aload_n 0, 1) := by decide +kernel
theorem dL_law_863 : decode cL_law 863 = .ok (.iload_n 3, 1) := by decide +kernel
theorem dL_law_864 : decode cL_law 864 = .ok (.iconst 1, 1) := by decide +kernel
theorem dL_law_865 : decode cL_law 865 = .ok (.iadd, 1) := by decide +kernel
theorem dL_law_866 : decode cL_law 866 = .ok (.iaload, 1) := by decide +kernel
theorem dL_law_867 : decode cL_law 867 = .ok (.invokevirtual 133, 3) := by decide +kernel
theorem dL_law_870 : decode cL_law 870 = .ok (.if_icmp .eq 48, 3) := by decide +kernel
theorem dL_law_873 : decode cL_law 873 = .ok (.iconst 0, 1) := by decide +kernel
theorem dL_law_874 : decode cL_law 874 = .ok (.ireturn, 1) := by decide +kernel
theorem dL_law_875 : decode cL_law 875 = .ok (.aload_n 1, 1) := by decide +kernel
theorem dL_law_876 : decode cL_law 876 = .ok (.aload_n 0, 1) := by decide +kernel
theorem dL_law_877 : decode cL_law 877 = .ok (.iload_n 3, 1) := by decide +kernel
theorem dL_law_878 : decode cL_law 878 = .ok (.iconst 1, 1) := by decide +kernel
theorem dL_law_879 : decode cL_law 879 = .ok (.iadd, 1) := by decide +kernel
theorem dL_law_880 : decode cL_law 880 = .ok (.iaload, 1) := by decide +kernel
theorem dL_law_881 : decode cL_law 881 = .ok (.aload_n 0, 1) := by decide +kernel
theorem dL_law_882 : decode cL_law 882 = .ok (.iload_n 3, 1) := by decide +kernel
theorem dL_law_883 : decode cL_law 883 = .ok (.iconst 2, 1) := by decide +kernel
theorem dL_law_884 : decode cL_law 884 = .ok (.iadd, 1) := by decide +kernel
theorem dL_law_885 : decode cL_law 885 = .ok (.iaload, 1) := by decide +kernel
theorem dL_law_886 : decode cL_law 886 = .ok (.aload_n 0, 1) := by decide +kernel
theorem dL_law_887 : decode cL_law 887 = .ok (.iload_n 3, 1) := by decide +kernel
theorem dL_law_888 : decode cL_law 888 = .ok (.iconst 3, 1) := by decide +kernel
theorem dL_law_889 : decode cL_law 889 = .ok (.iadd, 1) := by decide +kernel
theorem dL_law_890 : decode cL_law 890 = .ok (.iaload, 1) := by decide +kernel
theorem dL_law_891 : decode cL_law 891 = .ok (.invokevirtual 134, 3) := by decide +kernel
theorem dL_law_894 : decode cL_law 894 = .ok (.aload_n 2, 1) := by decide +kernel
theorem dL_law_895 : decode cL_law 895 = .ok (.aload_n 0, 1) := by decide +kernel
theorem dL_law_896 : decode cL_law 896 = .ok (.iload_n 3, 1) := by decide +kernel
theorem dL_law_897 : decode cL_law 897 = .ok (.iconst 1, 1) := by decide +kernel
theorem dL_law_898 : decode cL_law 898 = .ok (.iadd, 1) := by decide +kernel
theorem dL_law_899 : decode cL_law 899 = .ok (.iaload, 1) := by decide +kernel
theorem dL_law_900 : decode cL_law 900 = .ok (.aload_n 0, 1) := by decide +kernel
theorem dL_law_901 : decode cL_law 901 = .ok (.iload_n 3, 1) := by decide +kernel
theorem dL_law_902 : decode cL_law 902 = .ok (.iconst 2, 1) := by decide +kernel
theorem dL_law_903 : decode cL_law 903 = .ok (.iadd, 1) := by decide +kernel
theorem dL_law_904 : decode cL_law 904 = .ok (.iaload, 1) := by decide +kernel
theorem dL_law_905 : decode cL_law 905 = .ok (.aload_n 0, 1) := by decide +kernel
theorem dL_law_906 : decode cL_law 906 = .ok (.iload_n 3, 1) := by decide +kernel
theorem dL_law_907 : decode cL_law 907 = .ok (.iconst 3, 1) := by decide +kernel
theorem dL_law_908 : decode cL_law 908 = .ok (.iadd, 1) := by decide +kernel
theorem dL_law_909 : decode cL_law 909 = .ok (.iaload, 1) := by decide +kernel
theorem dL_law_910 : decode cL_law 910 = .ok (.invokevirtual 137, 3) := by decide +kernel
theorem dL_law_913 : decode cL_law 913 = .ok (.if_icmp .eq 5, 3) := by decide +kernel
theorem dL_law_916 : decode cL_law 916 = .ok (.iconst 0, 1) := by decide +kernel
theorem dL_law_917 : decode cL_law 917 = .ok (.ireturn, 1) := by decide +kernel
theorem dL_law_918 : decode cL_law 918 = .ok (.iinc 3 5, 3) := by decide +kernel
theorem dL_law_921 : decode cL_law 921 = .ok (.goto (-903), 3) := by decide +kernel
theorem dL_law_924 : decode cL_law 924 = .ok (.iconst 1, 1) := by decide +kernel
theorem dL_law_925 : decode cL_law 925 = .ok (.ireturn, 1) := by decide +kernel
