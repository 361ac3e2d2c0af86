theorem dX4_init_0 : decode cX4_init 0 = .ok (.aload_n 0, 1) := by decide +kernel
theorem dX4_init_1 : decode cX4_init 1 = .ok (.invokespecial 3, 3) := by decide +kernel
theorem dX4_init_4 : decode cX4_init 4 = .ok (.aload_n 0, 1) := by decide +kernel
theorem dX4_init_5 : decode cX4_init 5 = .ok (.iconst 0, 1) := by decide +kernel
theorem dX4_init_6 : decode cX4_init 6 = .ok (.putfield 9, 3) := by decide +kernel
theorem dX4_init_9 : decode cX4_init 9 = .ok (.aload_n 0, 1) := by decide +kernel
theorem dX4_init_10 : decode cX4_init 10 = .ok (.sipush 300, 3) := by decide +kernel
theorem dX4_init_13 : decode cX4_init 13 = .ok (.newarray .int, 2) := by decide +kernel
theorem dX4_init_15 : decode cX4_init 15 = .ok (.putfield 15, 3) := by decide +kernel
theorem dX4_init_18 : decode cX4_init 18 = .ok (.return_, 1) := by decide +kernel
theorem dX5_init_0 : decode cX5_init 0 = .ok (.aload_n 0, 1) := by decide +kernel
theorem dX5_init_1 : decode cX5_init 1 = .ok (.invokespecial 3, 3) := by decide +kernel
theorem dX5_init_4 : decode cX5_init 4 = .ok (.aload_n 0, 1) := by decide +kernel
theorem dX5_init_5 : decode cX5_init 5 = .ok (.new 9, 3) := by decide +kernel
theorem dX5_init_8 : decode cX5_init 8 = .ok (.dup, 1) := by decide +kernel
theorem dX5_init_9 : decode cX5_init 9 = .ok (.invokespecial 11, 3) := by decide +kernel
theorem dX5_init_12 : decode cX5_init 12 = .ok (.putfield 12, 3) := by decide +kernel
theorem dX5_init_15 : decode cX5_init 15 = .ok (.aload_n 0, 1) := by decide +kernel
theorem dX5_init_16 : decode cX5_init 16 = .ok (.bipush 7, 2) := by decide +kernel
theorem dX5_init_18 : decode cX5_init 18 = .ok (.newarray .int, 2) := by decide +kernel
theorem dX5_init_20 : decode cX5_init 20 = .ok (.putfield 18, 3) := by decide +kernel
theorem dX5_init_23 : decode cX5_init 23 = .ok (.aload_n 0, 1) := by decide +kernel
theorem dX5_init_24 : decode cX5_init 24 = .ok (.bipush 28, 2) := by decide +kernel
theorem dX5_init_26 : decode cX5_init 26 = .ok (.newarray .int, 2) := by decide +kernel
theorem dX5_init_28 : decode cX5_init 28 = .ok (.putfield 22, 3) := by decide +kernel
theorem dX5_init_31 : decode cX5_init 31 = .ok (.aload_n 0, 1) := by decide +kernel
theorem dX5_init_32 : decode cX5_init 32 = .ok (.bipush 28, 2) := by decide +kernel
theorem dX5_init_34 : decode cX5_init 34 = .ok (.newarray .int, 2) := by decide +kernel
theorem dX5_init_36 : decode cX5_init 36 = .ok (.putfield 25, 3) := by decide +kernel
theorem dX5_init_39 : decode cX5_init 39 = .ok (.aload_n 0, 1) := by decide +kernel
theorem dX5_init_40 : decode cX5_init 40 = .ok (.bipush 8, 2) := by decide +kernel
theorem dX5_init_42 : decode cX5_init 42 = .ok (.bipush 18, 2) := by decide +kernel
theorem dX5_init_44 : decode cX5_init 44 = .ok (.multianewarray 28 2, 4) := by decide +kernel
theorem dX5_init_48 : decode cX5_init 48 = .ok (.putfield 30, 3) := by decide +kernel
theorem dX5_init_51 : decode cX5_init 51 = .ok (.aload_n 0, 1) := by decide +kernel
theorem dX5_init_52 : decode cX5_init 52 = .ok (.bipush 8, 2) := by decide +kernel
theorem dX5_init_54 : decode cX5_init 54 = .ok (.bipush 28, 2) := by decide +kernel
theorem dX5_init_56 : decode cX5_init 56 = .ok (.multianewarray 28 2, 4) := by decide +kernel
theorem dX5_init_60 : decode cX5_init 60 = .ok (.putfield 33, 3) := by decide +kernel
theorem dX5_init_63 : decode cX5_init 63 = .ok (.aload_n 0, 1) := by decide +kernel
theorem dX5_init_64 : decode cX5_init 64 = .ok (.bipush 8, 2) := by decide +kernel
theorem dX5_init_66 : decode cX5_init 66 = .ok (.bipush 7, 2) := by decide +kernel
theorem dX5_init_68 : decode cX5_init 68 = .ok (.multianewarray 28 2, 4) := by decide +kernel
theorem dX5_init_72 : decode cX5_init 72 = .ok (.putfield 36, 3) := by decide +kernel
theorem dX5_init_75 : decode cX5_init 75 = .ok (.aload_n 0, 1) := by decide +kernel
theorem dX5_init_76 : decode cX5_init 76 = .ok (.iconst 4, 1) := by decide +kernel
theorem dX5_init_77 : decode cX5_init 77 = .ok (.newarray .int, 2) := by decide +kernel
theorem dX5_init_79 : decode cX5_init 79 = .ok (.putfield 39, 3) := by decide +kernel
theorem dX5_init_82 : decode cX5_init 82 = .ok (.return_, 1) := by decide +kernel
theorem dX6_init_0 : decode cX6_init 0 = .ok (.aload_n 0, 1) := by decide +kernel
theorem dX6_init_1 : decode cX6_init 1 = .ok (.invokespecial 3, 3) := by decide +kernel
theorem dX6_init_4 : decode cX6_init 4 = .ok (.aload_n 0, 1) := by decide +kernel
theorem dX6_init_5 : decode cX6_init 5 = .ok (.iconst 0, 1) := by decide +kernel
theorem dX6_init_6 : decode cX6_init 6 = .ok (.putfield 9, 3) := by decide +kernel
theorem dX6_init_9 : decode cX6_init 9 = .ok (.aload_n 0, 1) := by decide +kernel
theorem dX6_init_10 : decode cX6_init 10 = .ok (.iconst 0, 1) := by decide +kernel
theorem dX6_init_11 : decode cX6_init 11 = .ok (.putfield 15, 3) := by decide +kernel
theorem dX6_init_14 : decode cX6_init 14 = .ok (.aload_n 0, 1) := by decide +kernel
theorem dX6_init_15 : decode cX6_init 15 = .ok (.bipush 7, 2) := by decide +kernel
theorem dX6_init_17 : decode cX6_init 17 = .ok (.newarray .int, 2) := by decide +kernel
theorem dX6_init_19 : decode cX6_init 19 = .ok (.putfield 18, 3) := by decide +kernel
theorem dX6_init_22 : decode cX6_init 22 = .ok (.aload_n 0, 1) := by decide +kernel
theorem dX6_init_23 : decode cX6_init 23 = .ok (.sipush 252, 3) := by decide +kernel
theorem dX6_init_26 : decode cX6_init 26 = .ok (.newarray .int, 2) := by decide +kernel
theorem dX6_init_28 : decode cX6_init 28 = .ok (.putfield 22, 3) := by decide +kernel
theorem dX6_init_31 : decode cX6_init 31 = .ok (.return_, 1) := by decide +kernel
theorem dX6_hasRow_0 : decode cX6_hasRow 0 = .ok (.iload_n 1, 1) := by decide +kernel
theorem dX6_hasRow_1 : decode cX6_hasRow 1 = .ok (.ifCond .lt 15, 3) := by decide +kernel
theorem dX6_hasRow_4 : decode cX6_hasRow 4 = .ok (.iload_n 1, 1) := by decide +kernel
theorem dX6_hasRow_5 : decode cX6_hasRow 5 = .ok (.aload_n 0, 1) := by decide +kernel
theorem dX6_hasRow_6 : decode cX6_hasRow 6 = .ok (.getfield 9, 3) := by decide +kernel
theorem dX6_hasRow_9 : decode cX6_hasRow 9 = .ok (.if_icmp .ge 7, 3) := by decide +kernel
theorem dX6_hasRow_12 : decode cX6_hasRow 12 = .ok (.iconst 1, 1) := by decide +kernel
theorem dX6_hasRow_13 : decode cX6_hasRow 13 = .ok (.goto 4, 3) := by decide +kernel
theorem dX6_hasRow_16 : decode cX6_hasRow 16 = .ok (.iconst 0, 1) := by decide +kernel
theorem dX6_hasRow_17 : decode cX6_hasRow 17 = .ok (.ireturn, 1) := by decide +kernel
theorem dX6_hasColumn_0 : decode cX6_hasColumn 0 = .ok (.iload_n 1, 1) := by decide +kernel
theorem dX6_hasColumn_1 : decode cX6_hasColumn 1 = .ok (.ifCond .lt 15, 3) := by decide +kernel
theorem dX6_hasColumn_4 : decode cX6_hasColumn 4 = .ok (.iload_n 1, 1) := by decide +kernel
theorem dX6_hasColumn_5 : decode cX6_hasColumn 5 = .ok (.aload_n 0, 1) := by decide +kernel
theorem dX6_hasColumn_6 : decode cX6_hasColumn 6 = .ok (.getfield 15, 3) := by decide +kernel
theorem dX6_hasColumn_9 : decode cX6_hasColumn 9 = .ok (.if_icmp .ge 7, 3) := by decide +kernel
theorem dX6_hasColumn_12 : decode cX6_hasColumn 12 = .ok (.iconst 1, 1) := by decide +kernel
theorem dX6_hasColumn_13 : decode cX6_hasColumn 13 = .ok (.goto 4, 3) := by decide +kernel
theorem dX6_hasColumn_16 : decode cX6_hasColumn 16 = .ok (.iconst 0, 1) := by decide +kernel
theorem dX6_hasColumn_17 : decode cX6_hasColumn 17 = .ok (.ireturn, 1) := by decide +kernel
theorem dX6_at_0 : decode cX6_at 0 = .ok (.aload_n 0, 1) := by decide +kernel
theorem dX6_at_1 : decode cX6_at 1 = .ok (.getfield 22, 3) := by decide +kernel
theorem dX6_at_4 : decode cX6_at 4 = .ok (.iload_n 1, 1) := by decide +kernel
theorem dX6_at_5 : decode cX6_at 5 = .ok (.bipush 7, 2) := by decide +kernel
theorem dX6_at_7 : decode cX6_at 7 = .ok (.imul, 1) := by decide +kernel
theorem dX6_at_8 : decode cX6_at 8 = .ok (.iload_n 2, 1) := by decide +kernel
theorem dX6_at_9 : decode cX6_at 9 = .ok (.iadd, 1) := by decide +kernel
theorem dX6_at_10 : decode cX6_at 10 = .ok (.iaload, 1) := by decide +kernel
theorem dX6_at_11 : decode cX6_at 11 = .ok (.ireturn, 1) := by decide +kernel
theorem dX6_set_0 : decode cX6_set 0 = .ok (.aload_n 0, 1) := by decide +kernel
theorem dX6_set_1 : decode cX6_set 1 = .ok (.getfield 22, 3) := by decide +kernel
theorem dX6_set_4 : decode cX6_set 4 = .ok (.iload_n 1, 1) := by decide +kernel
theorem dX6_set_5 : decode cX6_set 5 = .ok (.bipush 7, 2) := by decide +kernel
theorem dX6_set_7 : decode cX6_set 7 = .ok (.imul, 1) := by decide +kernel
theorem dX6_set_8 : decode cX6_set 8 = .ok (.iload_n 2, 1) := by decide +kernel
theorem dX6_set_9 : decode cX6_set 9 = .ok (.iadd, 1) := by decide +kernel
theorem dX6_set_10 : decode cX6_set 10 = .ok (.iload_n 3, 1) := by decide +kernel
theorem dX6_set_11 : decode cX6_set 11 = .ok (.iastore, 1) := by decide +kernel
theorem dX6_set_12 : decode cX6_set 12 = .ok (.return_, 1) := by decide +kernel
theorem dX6_allRows_0 : decode cX6_allRows 0 = .ok (.lconst 1, 1) := by decide +kernel
theorem dX6_allRows_1 : decode cX6_allRows 1 = .ok (.aload_n 0, 1) := by decide +kernel
theorem dX6_allRows_2 : decode cX6_allRows 2 = .ok (.getfield 9, 3) := by decide +kernel
theorem dX6_allRows_5 : decode cX6_allRows 5 = .ok (.lshl, 1) := by decide +kernel
theorem dX6_allRows_6 : decode cX6_allRows 6 = .ok (.lconst 1, 1) := by decide +kernel
theorem dX6_allRows_7 : decode cX6_allRows 7 = .ok (.lsub, 1) := by decide +kernel
theorem dX6_allRows_8 : decode cX6_allRows 8 = .ok (.lreturn, 1) := by decide +kernel
theorem dX6_copyFrom_0 : decode cX6_copyFrom 0 = .ok (.aload_n 0, 1) := by decide +kernel
theorem dX6_copyFrom_1 : decode cX6_copyFrom 1 = .ok (.aload_n 1, 1) := by decide +kernel
theorem dX6_copyFrom_2 : decode cX6_copyFrom 2 = .ok (.getfield 9, 3) := by decide +kernel
theorem dX6_copyFrom_5 : decode cX6_copyFrom 5 = .ok (.putfield 9, 3) := by decide +kernel
theorem dX6_copyFrom_8 : decode cX6_copyFrom 8 = .ok (.aload_n 0, 1) := by decide +kernel
theorem dX6_copyFrom_9 : decode cX6_copyFrom 9 = .ok (.aload_n 1, 1) := by decide +kernel
theorem dX6_copyFrom_10 : decode cX6_copyFrom 10 = .ok (.getfield 15, 3) := by decide +kernel
theorem dX6_copyFrom_13 : decode cX6_copyFrom 13 = .ok (.putfield 15, 3) := by decide +kernel
theorem dX6_copyFrom_16 : decode cX6_copyFrom 16 = .ok (.aload_n 1, 1) := by decide +kernel
theorem dX6_copyFrom_17 : decode cX6_copyFrom 17 = .ok (.getfield 18, 3) := by decide +kernel
theorem dX6_copyFrom_20 : decode cX6_copyFrom 20 = .ok (.iconst 0, 1) := by decide +kernel
theorem dX6_copyFrom_21 : decode cX6_copyFrom 21 = .ok (.aload_n 0, 1) := by decide +kernel
theorem dX6_copyFrom_22 : decode cX6_copyFrom 22 = .ok (.getfield 18, 3) := by decide +kernel
theorem dX6_copyFrom_25 : decode cX6_copyFrom 25 = .ok (.iconst 0, 1) := by decide +kernel
theorem dX6_copyFrom_26 : decode cX6_copyFrom 26 = .ok (.bipush 7, 2) := by decide +kernel
theorem dX6_copyFrom_28 : decode cX6_copyFrom 28 = .ok (.invokestatic 25, 3) := by decide +kernel
theorem dX6_copyFrom_31 : decode cX6_copyFrom 31 = .ok (.aload_n 1, 1) := by decide +kernel
theorem dX6_copyFrom_32 : decode cX6_copyFrom 32 = .ok (.getfield 22, 3) := by decide +kernel
theorem dX6_copyFrom_35 : decode cX6_copyFrom 35 = .ok (.iconst 0, 1) := by decide +kernel
theorem dX6_copyFrom_36 : decode cX6_copyFrom 36 = .ok (.aload_n 0, 1) := by decide +kernel
theorem dX6_copyFrom_37 : decode cX6_copyFrom 37 = .ok (.getfield 22, 3) := by decide +kernel
theorem dX6_copyFrom_40 : decode cX6_copyFrom 40 = .ok (.iconst 0, 1) := by decide +kernel
theorem dX6_copyFrom_41 : decode cX6_copyFrom 41 = .ok (.sipush 252, 3) := by decide +kernel
theorem dX6_copyFrom_44 : decode cX6_copyFrom 44 = .ok (.invokestatic 25, 3) := by decide +kernel
theorem dX6_copyFrom_47 : decode cX6_copyFrom 47 = .ok (.return_, 1) := by decide +kernel
theorem dX6_reset_0 : decode cX6_reset 0 = .ok (.aload_n 0, 1) := by decide +kernel
theorem dX6_reset_1 : decode cX6_reset 1 = .ok (.iload_n 1, 1) := by decide +kernel
theorem dX6_reset_2 : decode cX6_reset 2 = .ok (.putfield 9, 3) := by decide +kernel
theorem dX6_reset_5 : decode cX6_reset 5 = .ok (.aload_n 0, 1) := by decide +kernel
theorem dX6_reset_6 : decode cX6_reset 6 = .ok (.iconst 0, 1) := by decide +kernel
theorem dX6_reset_7 : decode cX6_reset 7 = .ok (.putfield 15, 3) := by decide +kernel
theorem dX6_reset_10 : decode cX6_reset 10 = .ok (.return_, 1) := by decide +kernel
theorem dX6_append_0 : decode cX6_append 0 = .ok (.aload_n 0, 1) := by decide +kernel
theorem dX6_append_1 : decode cX6_append 1 = .ok (.getfield 15, 3) := by decide +kernel
theorem dX6_append_4 : decode cX6_append 4 = .ok (.istore_n 2, 1) := by decide +kernel
theorem dX6_append_5 : decode cX6_append 5 = .ok (.aload_n 0, 1) := by decide +kernel
theorem dX6_append_6 : decode cX6_append 6 = .ok (.dup, 1) := by decide +kernel
theorem dX6_append_7 : decode cX6_append 7 = .ok (.getfield 15, 3) := by decide +kernel
theorem dX6_append_10 : decode cX6_append 10 = .ok (.iconst 1, 1) := by decide +kernel
theorem dX6_append_11 : decode cX6_append 11 = .ok (.iadd, 1) := by decide +kernel
theorem dX6_append_12 : decode cX6_append 12 = .ok (.putfield 15, 3) := by decide +kernel
theorem dX6_append_15 : decode cX6_append 15 = .ok (.aload_n 0, 1) := by decide +kernel
theorem dX6_append_16 : decode cX6_append 16 = .ok (.getfield 18, 3) := by decide +kernel
theorem dX6_append_19 : decode cX6_append 19 = .ok (.iload_n 2, 1) := by decide +kernel
theorem dX6_append_20 : decode cX6_append 20 = .ok (.iload_n 1, 1) := by decide +kernel
theorem dX6_append_21 : decode cX6_append 21 = .ok (.iastore, 1) := by decide +kernel
theorem dX6_append_22 : decode cX6_append 22 = .ok (.iconst 0, 1) := by decide +kernel
theorem dX6_append_23 : decode cX6_append 23 = .ok (.istore_n 3, 1) := by decide +kernel
theorem dX6_append_24 : decode cX6_append 24 = .ok (.iload_n 3, 1) := by decide +kernel
theorem dX6_append_25 : decode cX6_append 25 = .ok (.aload_n 0, 1) := by decide +kernel
theorem dX6_append_26 : decode cX6_append 26 = .ok (.getfield 9, 3) := by decide +kernel
theorem dX6_append_29 : decode cX6_append 29 = .ok (.if_icmp .ge 16, 3) := by decide +kernel
theorem dX6_append_32 : decode cX6_append 32 = .ok (.aload_n 0, 1) := by decide +kernel
theorem dX6_append_33 : decode cX6_append 33 = .ok (.iload_n 3, 1) := by decide +kernel
theorem dX6_append_34 : decode cX6_append 34 = .ok (.iload_n 2, 1) := by decide +kernel
theorem dX6_append_35 : decode cX6_append 35 = .ok (.iconst 0, 1) := by decide +kernel
theorem dX6_append_36 : decode cX6_append 36 = .ok (.invokevirtual 31, 3) := by decide +kernel
theorem dX6_append_39 : decode cX6_append 39 = .ok (.iinc 3 1, 3) := by decide +kernel
theorem dX6_append_42 : decode cX6_append 42 = .ok (.goto (-18), 3) := by decide +kernel
theorem dX6_append_45 : decode cX6_append 45 = .ok (.iload_n 2, 1) := by decide +kernel
theorem dX6_append_46 : decode cX6_append 46 = .ok (.ireturn, 1) := by decide +kernel
theorem dX6_removeColumn_0 : decode cX6_removeColumn 0 = .ok (.aload_n 0, 1) := by decide +kernel
theorem dX6_removeColumn_1 : decode cX6_removeColumn 1 = .ok (.dup, 1) := by decide +kernel
theorem dX6_removeColumn_2 : decode cX6_removeColumn 2 = .ok (.getfield 15, 3) := by decide +kernel
theorem dX6_removeColumn_5 : decode cX6_removeColumn 5 = .ok (.iconst 1, 1) := by decide +kernel
theorem dX6_removeColumn_6 : decode cX6_removeColumn 6 = .ok (.isub, 1) := by decide +kernel
theorem dX6_removeColumn_7 : decode cX6_removeColumn 7 = .ok (.putfield 15, 3) := by decide +kernel
theorem dX6_removeColumn_10 : decode cX6_removeColumn 10 = .ok (.iload_n 1, 1) := by decide +kernel
theorem dX6_removeColumn_11 : decode cX6_removeColumn 11 = .ok (.istore_n 2, 1) := by decide +kernel
theorem dX6_removeColumn_12 : decode cX6_removeColumn 12 = .ok (.iload_n 2, 1) := by decide +kernel
theorem dX6_removeColumn_13 : decode cX6_removeColumn 13 = .ok (.aload_n 0, 1) := by decide +kernel
theorem dX6_removeColumn_14 : decode cX6_removeColumn 14 = .ok (.getfield 15, 3) := by decide +kernel
theorem dX6_removeColumn_17 : decode cX6_removeColumn 17 = .ok (.if_icmp .ge 53, 3) := by decide +kernel
theorem dX6_removeColumn_20 : decode cX6_removeColumn 20 = .ok (.aload_n 0, 1) := by decide +kernel
theorem dX6_removeColumn_21 : decode cX6_removeColumn 21 = .ok (.getfield 18, 3) := by decide +kernel
theorem dX6_removeColumn_24 : decode cX6_removeColumn 24 = .ok (.iload_n 2, 1) := by decide +kernel
theorem dX6_removeColumn_25 : decode cX6_removeColumn 25 = .ok (.aload_n 0, 1) := by decide +kernel
theorem dX6_removeColumn_26 : decode cX6_removeColumn 26 = .ok (.getfield 18, 3) := by decide +kernel
theorem dX6_removeColumn_29 : decode cX6_removeColumn 29 = .ok (.iload_n 2, 1) := by decide +kernel
theorem dX6_removeColumn_30 : decode cX6_removeColumn 30 = .ok (.iconst 1, 1) := by decide +kernel
theorem dX6_removeColumn_31 : decode cX6_removeColumn 31 = .ok (.iadd, 1) := by decide +kernel
theorem dX6_removeColumn_32 : decode cX6_removeColumn 32 = .ok (.iaload, 1) := by decide +kernel
theorem dX6_removeColumn_33 : decode cX6_removeColumn 33 = .ok (.iastore, 1) := by decide +kernel
theorem dX6_removeColumn_34 : decode cX6_removeColumn 34 = .ok (.iconst 0, 1) := by decide +kernel
theorem dX6_removeColumn_35 : decode cX6_removeColumn 35 = .ok (.istore_n 3, 1) := by decide +kernel
theorem dX6_removeColumn_36 : decode cX6_removeColumn 36 = .ok (.iload_n 3, 1) := by decide +kernel
theorem dX6_removeColumn_37 : decode cX6_removeColumn 37 = .ok (.aload_n 0, 1) := by decide +kernel
theorem dX6_removeColumn_38 : decode cX6_removeColumn 38 = .ok (.getfield 9, 3) := by decide +kernel
theorem dX6_removeColumn_41 : decode cX6_removeColumn 41 = .ok (.if_icmp .ge 23, 3) := by decide +kernel
theorem dX6_removeColumn_44 : decode cX6_removeColumn 44 = .ok (.aload_n 0, 1) := by decide +kernel
theorem dX6_removeColumn_45 : decode cX6_removeColumn 45 = .ok (.iload_n 3, 1) := by decide +kernel
theorem dX6_removeColumn_46 : decode cX6_removeColumn 46 = .ok (.iload_n 2, 1) := by decide +kernel
theorem dX6_removeColumn_47 : decode cX6_removeColumn 47 = .ok (.aload_n 0, 1) := by decide +kernel
theorem dX6_removeColumn_48 : decode cX6_removeColumn 48 = .ok (.iload_n 3, 1) := by decide +kernel
theorem dX6_removeColumn_49 : decode cX6_removeColumn 49 = .ok (.iload_n 2, 1) := by decide +kernel
theorem dX6_removeColumn_50 : decode cX6_removeColumn 50 = .ok (.iconst 1, 1) := by decide +kernel
theorem dX6_removeColumn_51 : decode cX6_removeColumn 51 = .ok (.iadd, 1) := by decide +kernel
theorem dX6_removeColumn_52 : decode cX6_removeColumn 52 = .ok (.invokevirtual 35, 3) := by decide +kernel
theorem dX6_removeColumn_55 : decode cX6_removeColumn 55 = .ok (.invokevirtual 31, 3) := by decide +kernel
theorem dX6_removeColumn_58 : decode cX6_removeColumn 58 = .ok (.iinc 3 1, 3) := by decide +kernel
theorem dX6_removeColumn_61 : decode cX6_removeColumn 61 = .ok (.goto (-25), 3) := by decide +kernel
theorem dX6_removeColumn_64 : decode cX6_removeColumn 64 = .ok (.iinc 2 1, 3) := by decide +kernel
theorem dX6_removeColumn_67 : decode cX6_removeColumn 67 = .ok (.goto (-55), 3) := by decide +kernel
theorem dX6_removeColumn_70 : decode cX6_removeColumn 70 = .ok (.return_, 1) := by decide +kernel
theorem dX6_removeRow_0 : decode cX6_removeRow 0 = .ok (.aload_n 0, 1) := by decide +kernel
theorem dX6_removeRow_1 : decode cX6_removeRow 1 = .ok (.dup, 1) := by decide +kernel
theorem dX6_removeRow_2 : decode cX6_removeRow 2 = .ok (.getfield 9, 3) := by decide +kernel
theorem dX6_removeRow_5 : decode cX6_removeRow 5 = .ok (.iconst 1, 1) := by decide +kernel
theorem dX6_removeRow_6 : decode cX6_removeRow 6 = .ok (.isub, 1) := by decide +kernel
theorem dX6_removeRow_7 : decode cX6_removeRow 7 = .ok (.putfield 9, 3) := by decide +kernel
theorem dX6_removeRow_10 : decode cX6_removeRow 10 = .ok (.iload_n 1, 1) := by decide +kernel
theorem dX6_removeRow_11 : decode cX6_removeRow 11 = .ok (.istore_n 2, 1) := by decide +kernel
theorem dX6_removeRow_12 : decode cX6_removeRow 12 = .ok (.iload_n 2, 1) := by decide +kernel
theorem dX6_removeRow_13 : decode cX6_removeRow 13 = .ok (.aload_n 0, 1) := by decide +kernel
theorem dX6_removeRow_14 : decode cX6_removeRow 14 = .ok (.getfield 9, 3) := by decide +kernel
theorem dX6_removeRow_17 : decode cX6_removeRow 17 = .ok (.if_icmp .ge 17, 3) := by decide +kernel
theorem dX6_removeRow_20 : decode cX6_removeRow 20 = .ok (.aload_n 0, 1) := by decide +kernel
theorem dX6_removeRow_21 : decode cX6_removeRow 21 = .ok (.iload_n 2, 1) := by decide +kernel
theorem dX6_removeRow_22 : decode cX6_removeRow 22 = .ok (.iconst 1, 1) := by decide +kernel
theorem dX6_removeRow_23 : decode cX6_removeRow 23 = .ok (.iadd, 1) := by decide +kernel
theorem dX6_removeRow_24 : decode cX6_removeRow 24 = .ok (.iload_n 2, 1) := by decide +kernel
theorem dX6_removeRow_25 : decode cX6_removeRow 25 = .ok (.invokevirtual 39, 3) := by decide +kernel
theorem dX6_removeRow_28 : decode cX6_removeRow 28 = .ok (.iinc 2 1, 3) := by decide +kernel
theorem dX6_removeRow_31 : decode cX6_removeRow 31 = .ok (.goto (-19), 3) := by decide +kernel
theorem dX6_removeRow_34 : decode cX6_removeRow 34 = .ok (.return_, 1) := by decide +kernel
theorem dX6_copyRow_0 : decode cX6_copyRow 0 = .ok (.iconst 0, 1) := by decide +kernel
theorem dX6_copyRow_1 : decode cX6_copyRow 1 = .ok (.istore_n 3, 1) := by decide +kernel
theorem dX6_copyRow_2 : decode cX6_copyRow 2 = .ok (.iload_n 3, 1) := by decide +kernel
theorem dX6_copyRow_3 : decode cX6_copyRow 3 = .ok (.aload_n 0, 1) := by decide +kernel
theorem dX6_copyRow_4 : decode cX6_copyRow 4 = .ok (.getfield 15, 3) := by decide +kernel
theorem dX6_copyRow_7 : decode cX6_copyRow 7 = .ok (.if_icmp .ge 21, 3) := by decide +kernel
theorem dX6_copyRow_10 : decode cX6_copyRow 10 = .ok (.aload_n 0, 1) := by decide +kernel
theorem dX6_copyRow_11 : decode cX6_copyRow 11 = .ok (.iload_n 2, 1) := by decide +kernel
theorem dX6_copyRow_12 : decode cX6_copyRow 12 = .ok (.iload_n 3, 1) := by decide +kernel
theorem dX6_copyRow_13 : decode cX6_copyRow 13 = .ok (.aload_n 0, 1) := by decide +kernel
theorem dX6_copyRow_14 : decode cX6_copyRow 14 = .ok (.iload_n 1, 1) := by decide +kernel
theorem dX6_copyRow_15 : decode cX6_copyRow 15 = .ok (.iload_n 3, 1) := by decide +kernel
theorem dX6_copyRow_16 : decode cX6_copyRow 16 = .ok (.invokevirtual 35, 3) := by decide +kernel
theorem dX6_copyRow_19 : decode cX6_copyRow 19 = .ok (.invokevirtual 31, 3) := by decide +kernel
theorem dX6_copyRow_22 : decode cX6_copyRow 22 = .ok (.iinc 3 1, 3) := by decide +kernel
theorem dX6_copyRow_25 : decode cX6_copyRow 25 = .ok (.goto (-23), 3) := by decide +kernel
theorem dX6_copyRow_28 : decode cX6_copyRow 28 = .ok (.return_, 1) := by decide +kernel
theorem dX6_removeCopies_0 : decode cX6_removeCopies 0 = .ok (.iconst 0, 1) := by decide +kernel
theorem dX6_removeCopies_1 : decode cX6_removeCopies 1 = .ok (.istore_n 1, 1) := by decide +kernel
theorem dX6_removeCopies_2 : decode cX6_removeCopies 2 = .ok (.iconst 0, 1) := by decide +kernel
theorem dX6_removeCopies_3 : decode cX6_removeCopies 3 = .ok (.istore_n 2, 1) := by decide +kernel
theorem dX6_removeCopies_4 : decode cX6_removeCopies 4 = .ok (.iload_n 2, 1) := by decide +kernel
theorem dX6_removeCopies_5 : decode cX6_removeCopies 5 = .ok (.aload_n 0, 1) := by decide +kernel
theorem dX6_removeCopies_6 : decode cX6_removeCopies 6 = .ok (.getfield 9, 3) := by decide +kernel
theorem dX6_removeCopies_9 : decode cX6_removeCopies 9 = .ok (.if_icmp .ge 27, 3) := by decide +kernel
theorem dX6_removeCopies_12 : decode cX6_removeCopies 12 = .ok (.aload_n 0, 1) := by decide +kernel
theorem dX6_removeCopies_13 : decode cX6_removeCopies 13 = .ok (.iload_n 2, 1) := by decide +kernel
theorem dX6_removeCopies_14 : decode cX6_removeCopies 14 = .ok (.iload_n 1, 1) := by decide +kernel
theorem dX6_removeCopies_15 : decode cX6_removeCopies 15 = .ok (.invokevirtual 43, 3) := by decide +kernel
theorem dX6_removeCopies_18 : decode cX6_removeCopies 18 = .ok (.ifCond .ne 12, 3) := by decide +kernel
theorem dX6_removeCopies_21 : decode cX6_removeCopies 21 = .ok (.aload_n 0, 1) := by decide +kernel
theorem dX6_removeCopies_22 : decode cX6_removeCopies 22 = .ok (.iload_n 2, 1) := by decide +kernel
theorem dX6_removeCopies_23 : decode cX6_removeCopies 23 = .ok (.iload_n 1, 1) := by decide +kernel
theorem dX6_removeCopies_24 : decode cX6_removeCopies 24 = .ok (.invokevirtual 39, 3) := by decide +kernel
theorem dX6_removeCopies_27 : decode cX6_removeCopies 27 = .ok (.iinc 1 1, 3) := by decide +kernel
theorem dX6_removeCopies_30 : decode cX6_removeCopies 30 = .ok (.iinc 2 1, 3) := by decide +kernel
theorem dX6_removeCopies_33 : decode cX6_removeCopies 33 = .ok (.goto (-29), 3) := by decide +kernel
theorem dX6_removeCopies_36 : decode cX6_removeCopies 36 = .ok (.aload_n 0, 1) := by decide +kernel
theorem dX6_removeCopies_37 : decode cX6_removeCopies 37 = .ok (.iload_n 1, 1) := by decide +kernel
theorem dX6_removeCopies_38 : decode cX6_removeCopies 38 = .ok (.putfield 9, 3) := by decide +kernel
theorem dX6_removeCopies_41 : decode cX6_removeCopies 41 = .ok (.return_, 1) := by decide +kernel
theorem dX6_copies_0 : decode cX6_copies 0 = .ok (.iconst 0, 1) := by decide +kernel
theorem dX6_copies_1 : decode cX6_copies 1 = .ok (.istore_n 1, 1) := by decide +kernel
theorem dX6_copies_2 : decode cX6_copies 2 = .ok (.iconst 0, 1) := by decide +kernel
theorem dX6_copies_3 : decode cX6_copies 3 = .ok (.istore_n 2, 1) := by decide +kernel
theorem dX6_copies_4 : decode cX6_copies 4 = .ok (.iload_n 2, 1) := by decide +kernel
theorem dX6_copies_5 : decode cX6_copies 5 = .ok (.aload_n 0, 1) := by decide +kernel
theorem dX6_copies_6 : decode cX6_copies 6 = .ok (.getfield 9, 3) := by decide +kernel
theorem dX6_copies_9 : decode cX6_copies 9 = .ok (.if_icmp .ge 21, 3) := by decide +kernel
theorem dX6_copies_12 : decode cX6_copies 12 = .ok (.aload_n 0, 1) := by decide +kernel
theorem dX6_copies_13 : decode cX6_copies 13 = .ok (.iload_n 2, 1) := by decide +kernel
theorem dX6_copies_14 : decode cX6_copies 14 = .ok (.iload_n 2, 1) := by decide +kernel
theorem dX6_copies_15 : decode cX6_copies 15 = .ok (.invokevirtual 43, 3) := by decide +kernel
theorem dX6_copies_18 : decode cX6_copies 18 = .ok (.ifCond .eq 6, 3) := by decide +kernel
theorem dX6_copies_21 : decode cX6_copies 21 = .ok (.iinc 1 1, 3) := by decide +kernel
theorem dX6_copies_24 : decode cX6_copies 24 = .ok (.iinc 2 1, 3) := by decide +kernel
theorem dX6_copies_27 : decode cX6_copies 27 = .ok (.goto (-23), 3) := by decide +kernel
theorem dX6_copies_30 : decode cX6_copies 30 = .ok (.iload_n 1, 1) := by decide +kernel
theorem dX6_copies_31 : decode cX6_copies 31 = .ok (.ireturn, 1) := by decide +kernel
theorem dX6_occursBefore_0 : decode cX6_occursBefore 0 = .ok (.iconst 0, 1) := by decide +kernel
theorem dX6_occursBefore_1 : decode cX6_occursBefore 1 = .ok (.istore_n 3, 1) := by decide +kernel
theorem dX6_occursBefore_2 : decode cX6_occursBefore 2 = .ok (.iload_n 3, 1) := by decide +kernel
theorem dX6_occursBefore_3 : decode cX6_occursBefore 3 = .ok (.iload_n 2, 1) := by decide +kernel
theorem dX6_occursBefore_4 : decode cX6_occursBefore 4 = .ok (.if_icmp .ge 20, 3) := by decide +kernel
theorem dX6_occursBefore_7 : decode cX6_occursBefore 7 = .ok (.aload_n 0, 1) := by decide +kernel
theorem dX6_occursBefore_8 : decode cX6_occursBefore 8 = .ok (.iload_n 3, 1) := by decide +kernel
theorem dX6_occursBefore_9 : decode cX6_occursBefore 9 = .ok (.iload_n 1, 1) := by decide +kernel
theorem dX6_occursBefore_10 : decode cX6_occursBefore 10 = .ok (.invokevirtual 47, 3) := by decide +kernel
theorem dX6_occursBefore_13 : decode cX6_occursBefore 13 = .ok (.ifCond .ne 5, 3) := by decide +kernel
theorem dX6_occursBefore_16 : decode cX6_occursBefore 16 = .ok (.iconst 1, 1) := by decide +kernel
theorem dX6_occursBefore_17 : decode cX6_occursBefore 17 = .ok (.ireturn, 1) := by decide +kernel
theorem dX6_occursBefore_18 : decode cX6_occursBefore 18 = .ok (.iinc 3 1, 3) := by decide +kernel
theorem dX6_occursBefore_21 : decode cX6_occursBefore 21 = .ok (.goto (-19), 3) := by decide +kernel
theorem dX6_occursBefore_24 : decode cX6_occursBefore 24 = .ok (.iconst 0, 1) := by decide +kernel
theorem dX6_occursBefore_25 : decode cX6_occursBefore 25 = .ok (.ireturn, 1) := by decide +kernel
theorem dX6_order_0 : decode cX6_order 0 = .ok (.iconst 0, 1) := by decide +kernel
theorem dX6_order_1 : decode cX6_order 1 = .ok (.istore_n 3, 1) := by decide +kernel
theorem dX6_order_2 : decode cX6_order 2 = .ok (.iload_n 3, 1) := by decide +kernel
theorem dX6_order_3 : decode cX6_order 3 = .ok (.aload_n 0, 1) := by decide +kernel
theorem dX6_order_4 : decode cX6_order 4 = .ok (.getfield 15, 3) := by decide +kernel
theorem dX6_order_7 : decode cX6_order 7 = .ok (.if_icmp .ge 32, 3) := by decide +kernel
theorem dX6_order_10 : decode cX6_order 10 = .ok (.aload_n 0, 1) := by decide +kernel
theorem dX6_order_11 : decode cX6_order 11 = .ok (.iload_n 1, 1) := by decide +kernel
theorem dX6_order_12 : decode cX6_order 12 = .ok (.iload_n 3, 1) := by decide +kernel
theorem dX6_order_13 : decode cX6_order 13 = .ok (.invokevirtual 35, 3) := by decide +kernel
theorem dX6_order_16 : decode cX6_order 16 = .ok (.aload_n 0, 1) := by decide +kernel
theorem dX6_order_17 : decode cX6_order 17 = .ok (.iload_n 2, 1) := by decide +kernel
theorem dX6_order_18 : decode cX6_order 18 = .ok (.iload_n 3, 1) := by decide +kernel
theorem dX6_order_19 : decode cX6_order 19 = .ok (.invokevirtual 35, 3) := by decide +kernel
theorem dX6_order_22 : decode cX6_order 22 = .ok (.isub, 1) := by decide +kernel
theorem dX6_order_23 : decode cX6_order 23 = .ok (.istore 4, 2) := by decide +kernel
theorem dX6_order_25 : decode cX6_order 25 = .ok (.iload 4, 2) := by decide +kernel
theorem dX6_order_27 : decode cX6_order 27 = .ok (.ifCond .eq 6, 3) := by decide +kernel
theorem dX6_order_30 : decode cX6_order 30 = .ok (.iload 4, 2) := by decide +kernel
theorem dX6_order_32 : decode cX6_order 32 = .ok (.ireturn, 1) := by decide +kernel
theorem dX6_order_33 : decode cX6_order 33 = .ok (.iinc 3 1, 3) := by decide +kernel
theorem dX6_order_36 : decode cX6_order 36 = .ok (.goto (-34), 3) := by decide +kernel
theorem dX6_order_39 : decode cX6_order 39 = .ok (.iconst 0, 1) := by decide +kernel
theorem dX6_order_40 : decode cX6_order 40 = .ok (.ireturn, 1) := by decide +kernel
theorem dX6_sortRows_0 : decode cX6_sortRows 0 = .ok (.iconst 0, 1) := by decide +kernel
theorem dX6_sortRows_1 : decode cX6_sortRows 1 = .ok (.istore_n 1, 1) := by decide +kernel
theorem dX6_sortRows_2 : decode cX6_sortRows 2 = .ok (.iconst 1, 1) := by decide +kernel
theorem dX6_sortRows_3 : decode cX6_sortRows 3 = .ok (.istore_n 2, 1) := by decide +kernel
theorem dX6_sortRows_4 : decode cX6_sortRows 4 = .ok (.iload_n 2, 1) := by decide +kernel
theorem dX6_sortRows_5 : decode cX6_sortRows 5 = .ok (.aload_n 0, 1) := by decide +kernel
theorem dX6_sortRows_6 : decode cX6_sortRows 6 = .ok (.getfield 9, 3) := by decide +kernel
theorem dX6_sortRows_9 : decode cX6_sortRows 9 = .ok (.if_icmp .ge 43, 3) := by decide +kernel
theorem dX6_sortRows_12 : decode cX6_sortRows 12 = .ok (.iload_n 2, 1) := by decide +kernel
theorem dX6_sortRows_13 : decode cX6_sortRows 13 = .ok (.istore_n 3, 1) := by decide +kernel
theorem dX6_sortRows_14 : decode cX6_sortRows 14 = .ok (.iload_n 3, 1) := by decide +kernel
theorem dX6_sortRows_15 : decode cX6_sortRows 15 = .ok (.ifCond .le 31, 3) := by decide +kernel
theorem dX6_sortRows_18 : decode cX6_sortRows 18 = .ok (.aload_n 0, 1) := by decide +kernel
theorem dX6_sortRows_19 : decode cX6_sortRows 19 = .ok (.iload_n 3, 1) := by decide +kernel
theorem dX6_sortRows_20 : decode cX6_sortRows 20 = .ok (.iconst 1, 1) := by decide +kernel
theorem dX6_sortRows_21 : decode cX6_sortRows 21 = .ok (.isub, 1) := by decide +kernel
theorem dX6_sortRows_22 : decode cX6_sortRows 22 = .ok (.iload_n 3, 1) := by decide +kernel
theorem dX6_sortRows_23 : decode cX6_sortRows 23 = .ok (.invokevirtual 47, 3) := by decide +kernel
theorem dX6_sortRows_26 : decode cX6_sortRows 26 = .ok (.ifCond .le 20, 3) := by decide +kernel
theorem dX6_sortRows_29 : decode cX6_sortRows 29 = .ok (.aload_n 0, 1) := by decide +kernel
theorem dX6_sortRows_30 : decode cX6_sortRows 30 = .ok (.iload_n 3, 1) := by decide +kernel
theorem dX6_sortRows_31 : decode cX6_sortRows 31 = .ok (.iconst 1, 1) := by decide +kernel
theorem dX6_sortRows_32 : decode cX6_sortRows 32 = .ok (.isub, 1) := by decide +kernel
theorem dX6_sortRows_33 : decode cX6_sortRows 33 = .ok (.iload_n 3, 1) := by decide +kernel
theorem dX6_sortRows_34 : decode cX6_sortRows 34 = .ok (.invokevirtual 50, 3) := by decide +kernel
theorem dX6_sortRows_37 : decode cX6_sortRows 37 = .ok (.iinc 1 1, 3) := by decide +kernel
theorem dX6_sortRows_40 : decode cX6_sortRows 40 = .ok (.iinc 3 (-1), 3) := by decide +kernel
theorem dX6_sortRows_43 : decode cX6_sortRows 43 = .ok (.goto (-29), 3) := by decide +kernel
theorem dX6_sortRows_46 : decode cX6_sortRows 46 = .ok (.iinc 2 1, 3) := by decide +kernel
theorem dX6_sortRows_49 : decode cX6_sortRows 49 = .ok (.goto (-45), 3) := by decide +kernel
theorem dX6_sortRows_52 : decode cX6_sortRows 52 = .ok (.iload_n 1, 1) := by decide +kernel
theorem dX6_sortRows_53 : decode cX6_sortRows 53 = .ok (.ireturn, 1) := by decide +kernel
theorem dX6_swapRows_0 : decode cX6_swapRows 0 = .ok (.iconst 0, 1) := by decide +kernel
theorem dX6_swapRows_1 : decode cX6_swapRows 1 = .ok (.istore_n 3, 1) := by decide +kernel
theorem dX6_swapRows_2 : decode cX6_swapRows 2 = .ok (.iload_n 3, 1) := by decide +kernel
theorem dX6_swapRows_3 : decode cX6_swapRows 3 = .ok (.aload_n 0, 1) := by decide +kernel
theorem dX6_swapRows_4 : decode cX6_swapRows 4 = .ok (.getfield 15, 3) := by decide +kernel
theorem dX6_swapRows_7 : decode cX6_swapRows 7 = .ok (.if_icmp .ge 37, 3) := by decide +kernel
theorem dX6_swapRows_10 : decode cX6_swapRows 10 = .ok (.aload_n 0, 1) := by decide +kernel
theorem dX6_swapRows_11 : decode cX6_swapRows 11 = .ok (.iload_n 1, 1) := by decide +kernel
theorem dX6_swapRows_12 : decode cX6_swapRows 12 = .ok (.iload_n 3, 1) := by decide +kernel
theorem dX6_swapRows_13 : decode cX6_swapRows 13 = .ok (.invokevirtual 35, 3) := by decide +kernel
theorem dX6_swapRows_16 : decode cX6_swapRows 16 = .ok (.istore 4, 2) := by decide +kernel
theorem dX6_swapRows_18 : decode cX6_swapRows 18 = .ok (.aload_n 0, 1) := by decide +kernel
theorem dX6_swapRows_19 : decode cX6_swapRows 19 = .ok (.iload_n 1, 1) := by decide +kernel
theorem dX6_swapRows_20 : decode cX6_swapRows 20 = .ok (.iload_n 3, 1) := by decide +kernel
theorem dX6_swapRows_21 : decode cX6_swapRows 21 = .ok (.aload_n 0, 1) := by decide +kernel
theorem dX6_swapRows_22 : decode cX6_swapRows 22 = .ok (.iload_n 2, 1) := by decide +kernel
theorem dX6_swapRows_23 : decode cX6_swapRows 23 = .ok (.iload_n 3, 1) := by decide +kernel
theorem dX6_swapRows_24 : decode cX6_swapRows 24 = .ok (.invokevirtual 35, 3) := by decide +kernel
theorem dX6_swapRows_27 : decode cX6_swapRows 27 = .ok (.invokevirtual 31, 3) := by decide +kernel
theorem dX6_swapRows_30 : decode cX6_swapRows 30 = .ok (.aload_n 0, 1) := by decide +kernel
theorem dX6_swapRows_31 : decode cX6_swapRows 31 = .ok (.iload_n 2, 1) := by decide +kernel
theorem dX6_swapRows_32 : decode cX6_swapRows 32 = .ok (.iload_n 3, 1) := by decide +kernel
theorem dX6_swapRows_33 : decode cX6_swapRows 33 = .ok (.iload 4, 2) := by decide +kernel
theorem dX6_swapRows_35 : decode cX6_swapRows 35 = .ok (.invokevirtual 31, 3) := by decide +kernel
theorem dX6_swapRows_38 : decode cX6_swapRows 38 = .ok (.iinc 3 1, 3) := by decide +kernel
theorem dX6_swapRows_41 : decode cX6_swapRows 41 = .ok (.goto (-39), 3) := by decide +kernel
theorem dX6_swapRows_44 : decode cX6_swapRows 44 = .ok (.return_, 1) := by decide +kernel
theorem dX6_agreements_0 : decode cX6_agreements 0 = .ok (.iconst 0, 1) := by decide +kernel
theorem dX6_agreements_1 : decode cX6_agreements 1 = .ok (.istore_n 3, 1) := by decide +kernel
theorem dX6_agreements_2 : decode cX6_agreements 2 = .ok (.iconst 0, 1) := by decide +kernel
theorem dX6_agreements_3 : decode cX6_agreements 3 = .ok (.istore 4, 2) := by decide +kernel
theorem dX6_agreements_5 : decode cX6_agreements 5 = .ok (.iload 4, 2) := by decide +kernel
theorem dX6_agreements_7 : decode cX6_agreements 7 = .ok (.aload_n 0, 1) := by decide +kernel
theorem dX6_agreements_8 : decode cX6_agreements 8 = .ok (.getfield 15, 3) := by decide +kernel
theorem dX6_agreements_11 : decode cX6_agreements 11 = .ok (.if_icmp .ge 29, 3) := by decide +kernel
theorem dX6_agreements_14 : decode cX6_agreements 14 = .ok (.aload_n 0, 1) := by decide +kernel
theorem dX6_agreements_15 : decode cX6_agreements 15 = .ok (.iload_n 1, 1) := by decide +kernel
theorem dX6_agreements_16 : decode cX6_agreements 16 = .ok (.iload 4, 2) := by decide +kernel
theorem dX6_agreements_18 : decode cX6_agreements 18 = .ok (.invokevirtual 35, 3) := by decide +kernel
theorem dX6_agreements_21 : decode cX6_agreements 21 = .ok (.aload_n 0, 1) := by decide +kernel
theorem dX6_agreements_22 : decode cX6_agreements 22 = .ok (.iload_n 2, 1) := by decide +kernel
theorem dX6_agreements_23 : decode cX6_agreements 23 = .ok (.iload 4, 2) := by decide +kernel
theorem dX6_agreements_25 : decode cX6_agreements 25 = .ok (.invokevirtual 35, 3) := by decide +kernel
theorem dX6_agreements_28 : decode cX6_agreements 28 = .ok (.if_icmp .ne 6, 3) := by decide +kernel
theorem dX6_agreements_31 : decode cX6_agreements 31 = .ok (.iinc 3 1, 3) := by decide +kernel
theorem dX6_agreements_34 : decode cX6_agreements 34 = .ok (.iinc 4 1, 3) := by decide +kernel
theorem dX6_agreements_37 : decode cX6_agreements 37 = .ok (.goto (-32), 3) := by decide +kernel
theorem dX6_agreements_40 : decode cX6_agreements 40 = .ok (.iload_n 3, 1) := by decide +kernel
theorem dX6_agreements_41 : decode cX6_agreements 41 = .ok (.ireturn, 1) := by decide +kernel
theorem dX6_tuples_0 : decode cX6_tuples 0 = .ok (.iconst 1, 1) := by decide +kernel
theorem dX6_tuples_1 : decode cX6_tuples 1 = .ok (.istore_n 2, 1) := by decide +kernel
theorem dX6_tuples_2 : decode cX6_tuples 2 = .ok (.iconst 0, 1) := by decide +kernel
theorem dX6_tuples_3 : decode cX6_tuples 3 = .ok (.istore_n 3, 1) := by decide +kernel
theorem dX6_tuples_4 : decode cX6_tuples 4 = .ok (.iload_n 3, 1) := by decide +kernel
theorem dX6_tuples_5 : decode cX6_tuples 5 = .ok (.aload_n 0, 1) := by decide +kernel
theorem dX6_tuples_6 : decode cX6_tuples 6 = .ok (.getfield 15, 3) := by decide +kernel
theorem dX6_tuples_9 : decode cX6_tuples 9 = .ok (.if_icmp .ge 27, 3) := by decide +kernel
theorem dX6_tuples_12 : decode cX6_tuples 12 = .ok (.iload_n 1, 1) := by decide +kernel
theorem dX6_tuples_13 : decode cX6_tuples 13 = .ok (.iload_n 3, 1) := by decide +kernel
theorem dX6_tuples_14 : decode cX6_tuples 14 = .ok (.ishr, 1) := by decide +kernel
theorem dX6_tuples_15 : decode cX6_tuples 15 = .ok (.iconst 1, 1) := by decide +kernel
theorem dX6_tuples_16 : decode cX6_tuples 16 = .ok (.iand, 1) := by decide +kernel
theorem dX6_tuples_17 : decode cX6_tuples 17 = .ok (.iconst 1, 1) := by decide +kernel
theorem dX6_tuples_18 : decode cX6_tuples 18 = .ok (.if_icmp .ne 12, 3) := by decide +kernel
theorem dX6_tuples_21 : decode cX6_tuples 21 = .ok (.iload_n 2, 1) := by decide +kernel
theorem dX6_tuples_22 : decode cX6_tuples 22 = .ok (.aload_n 0, 1) := by decide +kernel
theorem dX6_tuples_23 : decode cX6_tuples 23 = .ok (.getfield 18, 3) := by decide +kernel
theorem dX6_tuples_26 : decode cX6_tuples 26 = .ok (.iload_n 3, 1) := by decide +kernel
theorem dX6_tuples_27 : decode cX6_tuples 27 = .ok (.iaload, 1) := by decide +kernel
theorem dX6_tuples_28 : decode cX6_tuples 28 = .ok (.imul, 1) := by decide +kernel
theorem dX6_tuples_29 : decode cX6_tuples 29 = .ok (.istore_n 2, 1) := by decide +kernel
theorem dX6_tuples_30 : decode cX6_tuples 30 = .ok (.iinc 3 1, 3) := by decide +kernel
theorem dX6_tuples_33 : decode cX6_tuples 33 = .ok (.goto (-29), 3) := by decide +kernel
theorem dX6_tuples_36 : decode cX6_tuples 36 = .ok (.iload_n 2, 1) := by decide +kernel
theorem dX6_tuples_37 : decode cX6_tuples 37 = .ok (.ireturn, 1) := by decide +kernel
theorem dX6_tupleOf_0 : decode cX6_tupleOf 0 = .ok (.iconst 0, 1) := by decide +kernel
theorem dX6_tupleOf_1 : decode cX6_tupleOf 1 = .ok (.istore_n 3, 1) := by decide +kernel
theorem dX6_tupleOf_2 : decode cX6_tupleOf 2 = .ok (.iconst 0, 1) := by decide +kernel
theorem dX6_tupleOf_3 : decode cX6_tupleOf 3 = .ok (.istore 4, 2) := by decide +kernel
theorem dX6_tupleOf_5 : decode cX6_tupleOf 5 = .ok (.iload 4, 2) := by decide +kernel
theorem dX6_tupleOf_7 : decode cX6_tupleOf 7 = .ok (.aload_n 0, 1) := by decide +kernel
theorem dX6_tupleOf_8 : decode cX6_tupleOf 8 = .ok (.getfield 15, 3) := by decide +kernel
theorem dX6_tupleOf_11 : decode cX6_tupleOf 11 = .ok (.if_icmp .ge 37, 3) := by decide +kernel
theorem dX6_tupleOf_14 : decode cX6_tupleOf 14 = .ok (.iload_n 2, 1) := by decide +kernel
theorem dX6_tupleOf_15 : decode cX6_tupleOf 15 = .ok (.iload 4, 2) := by decide +kernel
theorem dX6_tupleOf_17 : decode cX6_tupleOf 17 = .ok (.ishr, 1) := by decide +kernel
theorem dX6_tupleOf_18 : decode cX6_tupleOf 18 = .ok (.iconst 1, 1) := by decide +kernel
theorem dX6_tupleOf_19 : decode cX6_tupleOf 19 = .ok (.iand, 1) := by decide +kernel
theorem dX6_tupleOf_20 : decode cX6_tupleOf 20 = .ok (.iconst 1, 1) := by decide +kernel
theorem dX6_tupleOf_21 : decode cX6_tupleOf 21 = .ok (.if_icmp .ne 21, 3) := by decide +kernel
theorem dX6_tupleOf_24 : decode cX6_tupleOf 24 = .ok (.iload_n 3, 1) := by decide +kernel
theorem dX6_tupleOf_25 : decode cX6_tupleOf 25 = .ok (.aload_n 0, 1) := by decide +kernel
theorem dX6_tupleOf_26 : decode cX6_tupleOf 26 = .ok (.getfield 18, 3) := by decide +kernel
theorem dX6_tupleOf_29 : decode cX6_tupleOf 29 = .ok (.iload 4, 2) := by decide +kernel
theorem dX6_tupleOf_31 : decode cX6_tupleOf 31 = .ok (.iaload, 1) := by decide +kernel
theorem dX6_tupleOf_32 : decode cX6_tupleOf 32 = .ok (.imul, 1) := by decide +kernel
theorem dX6_tupleOf_33 : decode cX6_tupleOf 33 = .ok (.aload_n 0, 1) := by decide +kernel
theorem dX6_tupleOf_34 : decode cX6_tupleOf 34 = .ok (.iload_n 1, 1) := by decide +kernel
theorem dX6_tupleOf_35 : decode cX6_tupleOf 35 = .ok (.iload 4, 2) := by decide +kernel
theorem dX6_tupleOf_37 : decode cX6_tupleOf 37 = .ok (.invokevirtual 35, 3) := by decide +kernel
theorem dX6_tupleOf_40 : decode cX6_tupleOf 40 = .ok (.iadd, 1) := by decide +kernel
theorem dX6_tupleOf_41 : decode cX6_tupleOf 41 = .ok (.istore_n 3, 1) := by decide +kernel
theorem dX6_tupleOf_42 : decode cX6_tupleOf 42 = .ok (.iinc 4 1, 3) := by decide +kernel
theorem dX6_tupleOf_45 : decode cX6_tupleOf 45 = .ok (.goto (-40), 3) := by decide +kernel
theorem dX6_tupleOf_48 : decode cX6_tupleOf 48 = .ok (.iload_n 3, 1) := by decide +kernel
theorem dX6_tupleOf_49 : decode cX6_tupleOf 49 = .ok (.ireturn, 1) := by decide +kernel
theorem dX6_leastRows_0 : decode cX6_leastRows 0 = .ok (.iconst 1, 1) := by decide +kernel
theorem dX6_leastRows_1 : decode cX6_leastRows 1 = .ok (.istore_n 1, 1) := by decide +kernel
theorem dX6_leastRows_2 : decode cX6_leastRows 2 = .ok (.iconst 0, 1) := by decide +kernel
theorem dX6_leastRows_3 : decode cX6_leastRows 3 = .ok (.istore_n 2, 1) := by decide +kernel
theorem dX6_leastRows_4 : decode cX6_leastRows 4 = .ok (.iload_n 2, 1) := by decide +kernel
theorem dX6_leastRows_5 : decode cX6_leastRows 5 = .ok (.aload_n 0, 1) := by decide +kernel
theorem dX6_leastRows_6 : decode cX6_leastRows 6 = .ok (.getfield 15, 3) := by decide +kernel
theorem dX6_leastRows_9 : decode cX6_leastRows 9 = .ok (.if_icmp .ge 20, 3) := by decide +kernel
theorem dX6_leastRows_12 : decode cX6_leastRows 12 = .ok (.iload_n 1, 1) := by decide +kernel
theorem dX6_leastRows_13 : decode cX6_leastRows 13 = .ok (.aload_n 0, 1) := by decide +kernel
theorem dX6_leastRows_14 : decode cX6_leastRows 14 = .ok (.getfield 18, 3) := by decide +kernel
theorem dX6_leastRows_17 : decode cX6_leastRows 17 = .ok (.iload_n 2, 1) := by decide +kernel
theorem dX6_leastRows_18 : decode cX6_leastRows 18 = .ok (.iaload, 1) := by decide +kernel
theorem dX6_leastRows_19 : decode cX6_leastRows 19 = .ok (.iconst 1, 1) := by decide +kernel
theorem dX6_leastRows_20 : decode cX6_leastRows 20 = .ok (.isub, 1) := by decide +kernel
theorem dX6_leastRows_21 : decode cX6_leastRows 21 = .ok (.iadd, 1) := by decide +kernel
theorem dX6_leastRows_22 : decode cX6_leastRows 22 = .ok (.istore_n 1, 1) := by decide +kernel
theorem dX6_leastRows_23 : decode cX6_leastRows 23 = .ok (.iinc 2 1, 3) := by decide +kernel
theorem dX6_leastRows_26 : decode cX6_leastRows 26 = .ok (.goto (-22), 3) := by decide +kernel
theorem dX6_leastRows_29 : decode cX6_leastRows 29 = .ok (.iload_n 1, 1) := by decide +kernel
theorem dX6_leastRows_30 : decode cX6_leastRows 30 = .ok (.ireturn, 1) := by decide +kernel
theorem dX6_rowsDivisor_0 : decode cX6_rowsDivisor 0 = .ok (.iconst 1, 1) := by decide +kernel
theorem dX6_rowsDivisor_1 : decode cX6_rowsDivisor 1 = .ok (.istore_n 1, 1) := by decide +kernel
theorem dX6_rowsDivisor_2 : decode cX6_rowsDivisor 2 = .ok (.iconst 1, 1) := by decide +kernel
theorem dX6_rowsDivisor_3 : decode cX6_rowsDivisor 3 = .ok (.istore_n 2, 1) := by decide +kernel
theorem dX6_rowsDivisor_4 : decode cX6_rowsDivisor 4 = .ok (.iload_n 2, 1) := by decide +kernel
theorem dX6_rowsDivisor_5 : decode cX6_rowsDivisor 5 = .ok (.aload_n 0, 1) := by decide +kernel
theorem dX6_rowsDivisor_6 : decode cX6_rowsDivisor 6 = .ok (.getfield 15, 3) := by decide +kernel
theorem dX6_rowsDivisor_9 : decode cX6_rowsDivisor 9 = .ok (.if_icmp .ge 40, 3) := by decide +kernel
theorem dX6_rowsDivisor_12 : decode cX6_rowsDivisor 12 = .ok (.iconst 0, 1) := by decide +kernel
theorem dX6_rowsDivisor_13 : decode cX6_rowsDivisor 13 = .ok (.istore_n 3, 1) := by decide +kernel
theorem dX6_rowsDivisor_14 : decode cX6_rowsDivisor 14 = .ok (.iload_n 3, 1) := by decide +kernel
theorem dX6_rowsDivisor_15 : decode cX6_rowsDivisor 15 = .ok (.iload_n 2, 1) := by decide +kernel
theorem dX6_rowsDivisor_16 : decode cX6_rowsDivisor 16 = .ok (.if_icmp .ge 27, 3) := by decide +kernel
theorem dX6_rowsDivisor_19 : decode cX6_rowsDivisor 19 = .ok (.iload_n 1, 1) := by decide +kernel
theorem dX6_rowsDivisor_20 : decode cX6_rowsDivisor 20 = .ok (.aload_n 0, 1) := by decide +kernel
theorem dX6_rowsDivisor_21 : decode cX6_rowsDivisor 21 = .ok (.getfield 18, 3) := by decide +kernel
theorem dX6_rowsDivisor_24 : decode cX6_rowsDivisor 24 = .ok (.iload_n 3, 1) := by decide +kernel
theorem dX6_rowsDivisor_25 : decode cX6_rowsDivisor 25 = .ok (.iaload, 1) := by decide +kernel
theorem dX6_rowsDivisor_26 : decode cX6_rowsDivisor 26 = .ok (.aload_n 0, 1) := by decide +kernel
theorem dX6_rowsDivisor_27 : decode cX6_rowsDivisor 27 = .ok (.getfield 18, 3) := by decide +kernel
theorem dX6_rowsDivisor_30 : decode cX6_rowsDivisor 30 = .ok (.iload_n 2, 1) := by decide +kernel
theorem dX6_rowsDivisor_31 : decode cX6_rowsDivisor 31 = .ok (.iaload, 1) := by decide +kernel
theorem dX6_rowsDivisor_32 : decode cX6_rowsDivisor 32 = .ok (.imul, 1) := by decide +kernel
theorem dX6_rowsDivisor_33 : decode cX6_rowsDivisor 33 = .ok (.invokestatic 53, 3) := by decide +kernel
theorem dX6_rowsDivisor_36 : decode cX6_rowsDivisor 36 = .ok (.istore_n 1, 1) := by decide +kernel
theorem dX6_rowsDivisor_37 : decode cX6_rowsDivisor 37 = .ok (.iinc 3 1, 3) := by decide +kernel
theorem dX6_rowsDivisor_40 : decode cX6_rowsDivisor 40 = .ok (.goto (-26), 3) := by decide +kernel
theorem dX6_rowsDivisor_43 : decode cX6_rowsDivisor 43 = .ok (.iinc 2 1, 3) := by decide +kernel
theorem dX6_rowsDivisor_46 : decode cX6_rowsDivisor 46 = .ok (.goto (-42), 3) := by decide +kernel
theorem dX6_rowsDivisor_49 : decode cX6_rowsDivisor 49 = .ok (.iload_n 1, 1) := by decide +kernel
theorem dX6_rowsDivisor_50 : decode cX6_rowsDivisor 50 = .ok (.ireturn, 1) := by decide +kernel
theorem dX6_leastCommonMultiple_0 : decode cX6_leastCommonMultiple 0 = .ok (.iload_n 0, 1) := by decide +kernel
theorem dX6_leastCommonMultiple_1 : decode cX6_leastCommonMultiple 1 = .ok (.istore_n 2, 1) := by decide +kernel
theorem dX6_leastCommonMultiple_2 : decode cX6_leastCommonMultiple 2 = .ok (.iload_n 2, 1) := by decide +kernel
theorem dX6_leastCommonMultiple_3 : decode cX6_leastCommonMultiple 3 = .ok (.iload_n 0, 1) := by decide +kernel
theorem dX6_leastCommonMultiple_4 : decode cX6_leastCommonMultiple 4 = .ok (.iload_n 1, 1) := by decide +kernel
theorem dX6_leastCommonMultiple_5 : decode cX6_leastCommonMultiple 5 = .ok (.imul, 1) := by decide +kernel
theorem dX6_leastCommonMultiple_6 : decode cX6_leastCommonMultiple 6 = .ok (.if_icmp .ge 18, 3) := by decide +kernel
theorem dX6_leastCommonMultiple_9 : decode cX6_leastCommonMultiple 9 = .ok (.iload_n 2, 1) := by decide +kernel
theorem dX6_leastCommonMultiple_10 : decode cX6_leastCommonMultiple 10 = .ok (.iload_n 1, 1) := by decide +kernel
theorem dX6_leastCommonMultiple_11 : decode cX6_leastCommonMultiple 11 = .ok (.irem, 1) := by decide +kernel
theorem dX6_leastCommonMultiple_12 : decode cX6_leastCommonMultiple 12 = .ok (.ifCond .ne 5, 3) := by decide +kernel
theorem dX6_leastCommonMultiple_15 : decode cX6_leastCommonMultiple 15 = .ok (.iload_n 2, 1) := by decide +kernel
theorem dX6_leastCommonMultiple_16 : decode cX6_leastCommonMultiple 16 = .ok (.ireturn, 1) := by decide +kernel
theorem dX6_leastCommonMultiple_17 : decode cX6_leastCommonMultiple 17 = .ok (.iload_n 2, 1) := by decide +kernel
theorem dX6_leastCommonMultiple_18 : decode cX6_leastCommonMultiple 18 = .ok (.iload_n 0, 1) := by decide +kernel
theorem dX6_leastCommonMultiple_19 : decode cX6_leastCommonMultiple 19 = .ok (.iadd, 1) := by decide +kernel
theorem dX6_leastCommonMultiple_20 : decode cX6_leastCommonMultiple 20 = .ok (.istore_n 2, 1) := by decide +kernel
theorem dX6_leastCommonMultiple_21 : decode cX6_leastCommonMultiple 21 = .ok (.goto (-19), 3) := by decide +kernel
theorem dX6_leastCommonMultiple_24 : decode cX6_leastCommonMultiple 24 = .ok (.iload_n 0, 1) := by decide +kernel
theorem dX6_leastCommonMultiple_25 : decode cX6_leastCommonMultiple 25 = .ok (.iload_n 1, 1) := by decide +kernel
theorem dX6_leastCommonMultiple_26 : decode cX6_leastCommonMultiple 26 = .ok (.imul, 1) := by decide +kernel
theorem dX6_leastCommonMultiple_27 : decode cX6_leastCommonMultiple 27 = .ok (.ireturn, 1) := by decide +kernel
theorem dX6_isScheme_0 : decode cX6_isScheme 0 = .ok (.iconst 0, 1) := by decide +kernel
theorem dX6_isScheme_1 : decode cX6_isScheme 1 = .ok (.istore_n 1, 1) := by decide +kernel
theorem dX6_isScheme_2 : decode cX6_isScheme 2 = .ok (.iload_n 1, 1) := by decide +kernel
theorem dX6_isScheme_3 : decode cX6_isScheme 3 = .ok (.aload_n 0, 1) := by decide +kernel
theorem dX6_isScheme_4 : decode cX6_isScheme 4 = .ok (.getfield 15, 3) := by decide +kernel
theorem dX6_isScheme_7 : decode cX6_isScheme 7 = .ok (.if_icmp .ge 26, 3) := by decide +kernel
theorem dX6_isScheme_10 : decode cX6_isScheme 10 = .ok (.aload_n 0, 1) := by decide +kernel
theorem dX6_isScheme_11 : decode cX6_isScheme 11 = .ok (.getfield 18, 3) := by decide +kernel
theorem dX6_isScheme_14 : decode cX6_isScheme 14 = .ok (.iload_n 1, 1) := by decide +kernel
theorem dX6_isScheme_15 : decode cX6_isScheme 15 = .ok (.iaload, 1) := by decide +kernel
theorem dX6_isScheme_16 : decode cX6_isScheme 16 = .ok (.aload_n 0, 1) := by decide +kernel
theorem dX6_isScheme_17 : decode cX6_isScheme 17 = .ok (.getfield 18, 3) := by decide +kernel
theorem dX6_isScheme_20 : decode cX6_isScheme 20 = .ok (.iconst 0, 1) := by decide +kernel
theorem dX6_isScheme_21 : decode cX6_isScheme 21 = .ok (.iaload, 1) := by decide +kernel
theorem dX6_isScheme_22 : decode cX6_isScheme 22 = .ok (.if_icmp .eq 5, 3) := by decide +kernel
theorem dX6_isScheme_25 : decode cX6_isScheme 25 = .ok (.iconst 0, 1) := by decide +kernel
theorem dX6_isScheme_26 : decode cX6_isScheme 26 = .ok (.ireturn, 1) := by decide +kernel
theorem dX6_isScheme_27 : decode cX6_isScheme 27 = .ok (.iinc 1 1, 3) := by decide +kernel
theorem dX6_isScheme_30 : decode cX6_isScheme 30 = .ok (.goto (-28), 3) := by decide +kernel
theorem dX6_isScheme_33 : decode cX6_isScheme 33 = .ok (.iconst 1, 1) := by decide +kernel
theorem dX6_isScheme_34 : decode cX6_isScheme 34 = .ok (.istore_n 1, 1) := by decide +kernel
theorem dX6_isScheme_35 : decode cX6_isScheme 35 = .ok (.iload_n 1, 1) := by decide +kernel
theorem dX6_isScheme_36 : decode cX6_isScheme 36 = .ok (.aload_n 0, 1) := by decide +kernel
theorem dX6_isScheme_37 : decode cX6_isScheme 37 = .ok (.getfield 15, 3) := by decide +kernel
theorem dX6_isScheme_40 : decode cX6_isScheme 40 = .ok (.if_icmp .ge 33, 3) := by decide +kernel
theorem dX6_isScheme_43 : decode cX6_isScheme 43 = .ok (.iconst 0, 1) := by decide +kernel
theorem dX6_isScheme_44 : decode cX6_isScheme 44 = .ok (.istore_n 2, 1) := by decide +kernel
theorem dX6_isScheme_45 : decode cX6_isScheme 45 = .ok (.iload_n 2, 1) := by decide +kernel
theorem dX6_isScheme_46 : decode cX6_isScheme 46 = .ok (.iload_n 1, 1) := by decide +kernel
theorem dX6_isScheme_47 : decode cX6_isScheme 47 = .ok (.if_icmp .ge 20, 3) := by decide +kernel
theorem dX6_isScheme_50 : decode cX6_isScheme 50 = .ok (.aload_n 0, 1) := by decide +kernel
theorem dX6_isScheme_51 : decode cX6_isScheme 51 = .ok (.iload_n 2, 1) := by decide +kernel
theorem dX6_isScheme_52 : decode cX6_isScheme 52 = .ok (.iload_n 1, 1) := by decide +kernel
theorem dX6_isScheme_53 : decode cX6_isScheme 53 = .ok (.invokevirtual 56, 3) := by decide +kernel
theorem dX6_isScheme_56 : decode cX6_isScheme 56 = .ok (.ifCond .ne 5, 3) := by decide +kernel
theorem dX6_isScheme_59 : decode cX6_isScheme 59 = .ok (.iconst 0, 1) := by decide +kernel
theorem dX6_isScheme_60 : decode cX6_isScheme 60 = .ok (.ireturn, 1) := by decide +kernel
theorem dX6_isScheme_61 : decode cX6_isScheme 61 = .ok (.iinc 2 1, 3) := by decide +kernel
theorem dX6_isScheme_64 : decode cX6_isScheme 64 = .ok (.goto (-19), 3) := by decide +kernel
theorem dX6_isScheme_67 : decode cX6_isScheme 67 = .ok (.iinc 1 1, 3) := by decide +kernel
theorem dX6_isScheme_70 : decode cX6_isScheme 70 = .ok (.goto (-35), 3) := by decide +kernel
theorem dX6_isScheme_73 : decode cX6_isScheme 73 = .ok (.aload_n 0, 1) := by decide +kernel
theorem dX6_isScheme_74 : decode cX6_isScheme 74 = .ok (.getfield 15, 3) := by decide +kernel
theorem dX6_isScheme_77 : decode cX6_isScheme 77 = .ok (.ifCond .le 7, 3) := by decide +kernel
theorem dX6_isScheme_80 : decode cX6_isScheme 80 = .ok (.iconst 1, 1) := by decide +kernel
theorem dX6_isScheme_81 : decode cX6_isScheme 81 = .ok (.goto 4, 3) := by decide +kernel
theorem dX6_isScheme_84 : decode cX6_isScheme 84 = .ok (.iconst 0, 1) := by decide +kernel
theorem dX6_isScheme_85 : decode cX6_isScheme 85 = .ok (.ireturn, 1) := by decide +kernel
theorem dX6_hasEvenDifferences_0 : decode cX6_hasEvenDifferences 0 = .ok (.aload_n 0, 1) := by decide +kernel
theorem dX6_hasEvenDifferences_1 : decode cX6_hasEvenDifferences 1 = .ok (.getfield 18, 3) := by decide +kernel
theorem dX6_hasEvenDifferences_4 : decode cX6_hasEvenDifferences 4 = .ok (.iload_n 1, 1) := by decide +kernel
theorem dX6_hasEvenDifferences_5 : decode cX6_hasEvenDifferences 5 = .ok (.iaload, 1) := by decide +kernel
theorem dX6_hasEvenDifferences_6 : decode cX6_hasEvenDifferences 6 = .ok (.istore_n 3, 1) := by decide +kernel
theorem dX6_hasEvenDifferences_7 : decode cX6_hasEvenDifferences 7 = .ok (.iconst 0, 1) := by decide +kernel
theorem dX6_hasEvenDifferences_8 : decode cX6_hasEvenDifferences 8 = .ok (.istore 4, 2) := by decide +kernel
theorem dX6_hasEvenDifferences_10 : decode cX6_hasEvenDifferences 10 = .ok (.iload 4, 2) := by decide +kernel
theorem dX6_hasEvenDifferences_12 : decode cX6_hasEvenDifferences 12 = .ok (.iload_n 3, 1) := by decide +kernel
theorem dX6_hasEvenDifferences_13 : decode cX6_hasEvenDifferences 13 = .ok (.if_icmp .ge 70, 3) := by decide +kernel
theorem dX6_hasEvenDifferences_16 : decode cX6_hasEvenDifferences 16 = .ok (.iconst 0, 1) := by decide +kernel
theorem dX6_hasEvenDifferences_17 : decode cX6_hasEvenDifferences 17 = .ok (.istore 5, 2) := by decide +kernel
theorem dX6_hasEvenDifferences_19 : decode cX6_hasEvenDifferences 19 = .ok (.iconst 0, 1) := by decide +kernel
theorem dX6_hasEvenDifferences_20 : decode cX6_hasEvenDifferences 20 = .ok (.istore 6, 2) := by decide +kernel
theorem dX6_hasEvenDifferences_22 : decode cX6_hasEvenDifferences 22 = .ok (.iload 6, 2) := by decide +kernel
theorem dX6_hasEvenDifferences_24 : decode cX6_hasEvenDifferences 24 = .ok (.aload_n 0, 1) := by decide +kernel
theorem dX6_hasEvenDifferences_25 : decode cX6_hasEvenDifferences 25 = .ok (.getfield 9, 3) := by decide +kernel
theorem dX6_hasEvenDifferences_28 : decode cX6_hasEvenDifferences 28 = .ok (.if_icmp .ge 36, 3) := by decide +kernel
theorem dX6_hasEvenDifferences_31 : decode cX6_hasEvenDifferences 31 = .ok (.aload_n 0, 1) := by decide +kernel
theorem dX6_hasEvenDifferences_32 : decode cX6_hasEvenDifferences 32 = .ok (.iload 6, 2) := by decide +kernel
theorem dX6_hasEvenDifferences_34 : decode cX6_hasEvenDifferences 34 = .ok (.iload_n 2, 1) := by decide +kernel
theorem dX6_hasEvenDifferences_35 : decode cX6_hasEvenDifferences 35 = .ok (.invokevirtual 35, 3) := by decide +kernel
theorem dX6_hasEvenDifferences_38 : decode cX6_hasEvenDifferences 38 = .ok (.aload_n 0, 1) := by decide +kernel
theorem dX6_hasEvenDifferences_39 : decode cX6_hasEvenDifferences 39 = .ok (.iload 6, 2) := by decide +kernel
theorem dX6_hasEvenDifferences_41 : decode cX6_hasEvenDifferences 41 = .ok (.iload_n 1, 1) := by decide +kernel
theorem dX6_hasEvenDifferences_42 : decode cX6_hasEvenDifferences 42 = .ok (.invokevirtual 35, 3) := by decide +kernel
theorem dX6_hasEvenDifferences_45 : decode cX6_hasEvenDifferences 45 = .ok (.isub, 1) := by decide +kernel
theorem dX6_hasEvenDifferences_46 : decode cX6_hasEvenDifferences 46 = .ok (.iload_n 3, 1) := by decide +kernel
theorem dX6_hasEvenDifferences_47 : decode cX6_hasEvenDifferences 47 = .ok (.iadd, 1) := by decide +kernel
theorem dX6_hasEvenDifferences_48 : decode cX6_hasEvenDifferences 48 = .ok (.iload_n 3, 1) := by decide +kernel
theorem dX6_hasEvenDifferences_49 : decode cX6_hasEvenDifferences 49 = .ok (.irem, 1) := by decide +kernel
theorem dX6_hasEvenDifferences_50 : decode cX6_hasEvenDifferences 50 = .ok (.iload 4, 2) := by decide +kernel
theorem dX6_hasEvenDifferences_52 : decode cX6_hasEvenDifferences 52 = .ok (.if_icmp .ne 6, 3) := by decide +kernel
theorem dX6_hasEvenDifferences_55 : decode cX6_hasEvenDifferences 55 = .ok (.iinc 5 1, 3) := by decide +kernel
theorem dX6_hasEvenDifferences_58 : decode cX6_hasEvenDifferences 58 = .ok (.iinc 6 1, 3) := by decide +kernel
theorem dX6_hasEvenDifferences_61 : decode cX6_hasEvenDifferences 61 = .ok (.goto (-39), 3) := by decide +kernel
theorem dX6_hasEvenDifferences_64 : decode cX6_hasEvenDifferences 64 = .ok (.iload 5, 2) := by decide +kernel
theorem dX6_hasEvenDifferences_66 : decode cX6_hasEvenDifferences 66 = .ok (.iload_n 3, 1) := by decide +kernel
theorem dX6_hasEvenDifferences_67 : decode cX6_hasEvenDifferences 67 = .ok (.imul, 1) := by decide +kernel
theorem dX6_hasEvenDifferences_68 : decode cX6_hasEvenDifferences 68 = .ok (.aload_n 0, 1) := by decide +kernel
theorem dX6_hasEvenDifferences_69 : decode cX6_hasEvenDifferences 69 = .ok (.getfield 9, 3) := by decide +kernel
theorem dX6_hasEvenDifferences_72 : decode cX6_hasEvenDifferences 72 = .ok (.if_icmp .eq 5, 3) := by decide +kernel
theorem dX6_hasEvenDifferences_75 : decode cX6_hasEvenDifferences 75 = .ok (.iconst 0, 1) := by decide +kernel
theorem dX6_hasEvenDifferences_76 : decode cX6_hasEvenDifferences 76 = .ok (.ireturn, 1) := by decide +kernel
theorem dX6_hasEvenDifferences_77 : decode cX6_hasEvenDifferences 77 = .ok (.iinc 4 1, 3) := by decide +kernel
theorem dX6_hasEvenDifferences_80 : decode cX6_hasEvenDifferences 80 = .ok (.goto (-70), 3) := by decide +kernel
theorem dX6_hasEvenDifferences_83 : decode cX6_hasEvenDifferences 83 = .ok (.iconst 1, 1) := by decide +kernel
theorem dX6_hasEvenDifferences_84 : decode cX6_hasEvenDifferences 84 = .ok (.ireturn, 1) := by decide +kernel
theorem dX6_becomeFactorial_0 : decode cX6_becomeFactorial 0 = .ok (.aload_n 0, 1) := by decide +kernel
theorem dX6_becomeFactorial_1 : decode cX6_becomeFactorial 1 = .ok (.iload_n 2, 1) := by decide +kernel
theorem dX6_becomeFactorial_2 : decode cX6_becomeFactorial 2 = .ok (.invokevirtual 59, 3) := by decide +kernel
theorem dX6_becomeFactorial_5 : decode cX6_becomeFactorial 5 = .ok (.ldc 63, 2) := by decide +kernel
theorem dX6_becomeFactorial_7 : decode cX6_becomeFactorial 7 = .ok (.istore_n 3, 1) := by decide +kernel
theorem dX6_becomeFactorial_8 : decode cX6_becomeFactorial 8 = .ok (.iload_n 3, 1) := by decide +kernel
theorem dX6_becomeFactorial_9 : decode cX6_becomeFactorial 9 = .ok (.ifCond .le 31, 3) := by decide +kernel
theorem dX6_becomeFactorial_12 : decode cX6_becomeFactorial 12 = .ok (.iload_n 1, 1) := by decide +kernel
theorem dX6_becomeFactorial_13 : decode cX6_becomeFactorial 13 = .ok (.iload_n 3, 1) := by decide +kernel
theorem dX6_becomeFactorial_14 : decode cX6_becomeFactorial 14 = .ok (.idiv, 1) := by decide +kernel
theorem dX6_becomeFactorial_15 : decode cX6_becomeFactorial 15 = .ok (.bipush 10, 2) := by decide +kernel
theorem dX6_becomeFactorial_17 : decode cX6_becomeFactorial 17 = .ok (.irem, 1) := by decide +kernel
theorem dX6_becomeFactorial_18 : decode cX6_becomeFactorial 18 = .ok (.istore 4, 2) := by decide +kernel
theorem dX6_becomeFactorial_20 : decode cX6_becomeFactorial 20 = .ok (.iload 4, 2) := by decide +kernel
theorem dX6_becomeFactorial_22 : decode cX6_becomeFactorial 22 = .ok (.ifCond .le 10, 3) := by decide +kernel
theorem dX6_becomeFactorial_25 : decode cX6_becomeFactorial 25 = .ok (.aload_n 0, 1) := by decide +kernel
theorem dX6_becomeFactorial_26 : decode cX6_becomeFactorial 26 = .ok (.iload 4, 2) := by decide +kernel
theorem dX6_becomeFactorial_28 : decode cX6_becomeFactorial 28 = .ok (.invokevirtual 64, 3) := by decide +kernel
theorem dX6_becomeFactorial_31 : decode cX6_becomeFactorial 31 = .ok (.pop, 1) := by decide +kernel
theorem dX6_becomeFactorial_32 : decode cX6_becomeFactorial 32 = .ok (.iload_n 3, 1) := by decide +kernel
theorem dX6_becomeFactorial_33 : decode cX6_becomeFactorial 33 = .ok (.bipush 10, 2) := by decide +kernel
theorem dX6_becomeFactorial_35 : decode cX6_becomeFactorial 35 = .ok (.idiv, 1) := by decide +kernel
theorem dX6_becomeFactorial_36 : decode cX6_becomeFactorial 36 = .ok (.istore_n 3, 1) := by decide +kernel
theorem dX6_becomeFactorial_37 : decode cX6_becomeFactorial 37 = .ok (.goto (-29), 3) := by decide +kernel
theorem dX6_becomeFactorial_40 : decode cX6_becomeFactorial 40 = .ok (.iconst 1, 1) := by decide +kernel
theorem dX6_becomeFactorial_41 : decode cX6_becomeFactorial 41 = .ok (.istore_n 3, 1) := by decide +kernel
theorem dX6_becomeFactorial_42 : decode cX6_becomeFactorial 42 = .ok (.aload_n 0, 1) := by decide +kernel
theorem dX6_becomeFactorial_43 : decode cX6_becomeFactorial 43 = .ok (.getfield 15, 3) := by decide +kernel
theorem dX6_becomeFactorial_46 : decode cX6_becomeFactorial 46 = .ok (.iconst 1, 1) := by decide +kernel
theorem dX6_becomeFactorial_47 : decode cX6_becomeFactorial 47 = .ok (.isub, 1) := by decide +kernel
theorem dX6_becomeFactorial_48 : decode cX6_becomeFactorial 48 = .ok (.istore 4, 2) := by decide +kernel
theorem dX6_becomeFactorial_50 : decode cX6_becomeFactorial 50 = .ok (.iload 4, 2) := by decide +kernel
theorem dX6_becomeFactorial_52 : decode cX6_becomeFactorial 52 = .ok (.ifCond .lt 57, 3) := by decide +kernel
theorem dX6_becomeFactorial_55 : decode cX6_becomeFactorial 55 = .ok (.iconst 0, 1) := by decide +kernel
theorem dX6_becomeFactorial_56 : decode cX6_becomeFactorial 56 = .ok (.istore 5, 2) := by decide +kernel
theorem dX6_becomeFactorial_58 : decode cX6_becomeFactorial 58 = .ok (.iload 5, 2) := by decide +kernel
theorem dX6_becomeFactorial_60 : decode cX6_becomeFactorial 60 = .ok (.aload_n 0, 1) := by decide +kernel
theorem dX6_becomeFactorial_61 : decode cX6_becomeFactorial 61 = .ok (.getfield 9, 3) := by decide +kernel
theorem dX6_becomeFactorial_64 : decode cX6_becomeFactorial 64 = .ok (.if_icmp .ge 29, 3) := by decide +kernel
theorem dX6_becomeFactorial_67 : decode cX6_becomeFactorial 67 = .ok (.aload_n 0, 1) := by decide +kernel
theorem dX6_becomeFactorial_68 : decode cX6_becomeFactorial 68 = .ok (.iload 5, 2) := by decide +kernel
theorem dX6_becomeFactorial_70 : decode cX6_becomeFactorial 70 = .ok (.iload 4, 2) := by decide +kernel
theorem dX6_becomeFactorial_72 : decode cX6_becomeFactorial 72 = .ok (.iload 5, 2) := by decide +kernel
theorem dX6_becomeFactorial_74 : decode cX6_becomeFactorial 74 = .ok (.iload_n 3, 1) := by decide +kernel
theorem dX6_becomeFactorial_75 : decode cX6_becomeFactorial 75 = .ok (.idiv, 1) := by decide +kernel
theorem dX6_becomeFactorial_76 : decode cX6_becomeFactorial 76 = .ok (.aload_n 0, 1) := by decide +kernel
theorem dX6_becomeFactorial_77 : decode cX6_becomeFactorial 77 = .ok (.getfield 18, 3) := by decide +kernel
theorem dX6_becomeFactorial_80 : decode cX6_becomeFactorial 80 = .ok (.iload 4, 2) := by decide +kernel
theorem dX6_becomeFactorial_82 : decode cX6_becomeFactorial 82 = .ok (.iaload, 1) := by decide +kernel
theorem dX6_becomeFactorial_83 : decode cX6_becomeFactorial 83 = .ok (.irem, 1) := by decide +kernel
theorem dX6_becomeFactorial_84 : decode cX6_becomeFactorial 84 = .ok (.invokevirtual 31, 3) := by decide +kernel
theorem dX6_becomeFactorial_87 : decode cX6_becomeFactorial 87 = .ok (.iinc 5 1, 3) := by decide +kernel
theorem dX6_becomeFactorial_90 : decode cX6_becomeFactorial 90 = .ok (.goto (-32), 3) := by decide +kernel
theorem dX6_becomeFactorial_93 : decode cX6_becomeFactorial 93 = .ok (.iload_n 3, 1) := by decide +kernel
theorem dX6_becomeFactorial_94 : decode cX6_becomeFactorial 94 = .ok (.aload_n 0, 1) := by decide +kernel
theorem dX6_becomeFactorial_95 : decode cX6_becomeFactorial 95 = .ok (.getfield 18, 3) := by decide +kernel
theorem dX6_becomeFactorial_98 : decode cX6_becomeFactorial 98 = .ok (.iload 4, 2) := by decide +kernel
theorem dX6_becomeFactorial_100 : decode cX6_becomeFactorial 100 = .ok (.iaload, 1) := by decide +kernel
theorem dX6_becomeFactorial_101 : decode cX6_becomeFactorial 101 = .ok (.imul, 1) := by decide +kernel
theorem dX6_becomeFactorial_102 : decode cX6_becomeFactorial 102 = .ok (.istore_n 3, 1) := by decide +kernel
theorem dX6_becomeFactorial_103 : decode cX6_becomeFactorial 103 = .ok (.iinc 4 (-1), 3) := by decide +kernel
theorem dX6_becomeFactorial_106 : decode cX6_becomeFactorial 106 = .ok (.goto (-56), 3) := by decide +kernel
theorem dX6_becomeFactorial_109 : decode cX6_becomeFactorial 109 = .ok (.return_, 1) := by decide +kernel
theorem dX6_becomeReplaced_0 : decode cX6_becomeReplaced 0 = .ok (.aload_n 0, 1) := by decide +kernel
theorem dX6_becomeReplaced_1 : decode cX6_becomeReplaced 1 = .ok (.aload_n 1, 1) := by decide +kernel
theorem dX6_becomeReplaced_2 : decode cX6_becomeReplaced 2 = .ok (.getfield 9, 3) := by decide +kernel
theorem dX6_becomeReplaced_5 : decode cX6_becomeReplaced 5 = .ok (.invokevirtual 59, 3) := by decide +kernel
theorem dX6_becomeReplaced_8 : decode cX6_becomeReplaced 8 = .ok (.iconst 0, 1) := by decide +kernel
theorem dX6_becomeReplaced_9 : decode cX6_becomeReplaced 9 = .ok (.istore 4, 2) := by decide +kernel
theorem dX6_becomeReplaced_11 : decode cX6_becomeReplaced 11 = .ok (.iload 4, 2) := by decide +kernel
theorem dX6_becomeReplaced_13 : decode cX6_becomeReplaced 13 = .ok (.iload_n 2, 1) := by decide +kernel
theorem dX6_becomeReplaced_14 : decode cX6_becomeReplaced 14 = .ok (.if_icmp .ge 16, 3) := by decide +kernel
theorem dX6_becomeReplaced_17 : decode cX6_becomeReplaced 17 = .ok (.aload_n 0, 1) := by decide +kernel
theorem dX6_becomeReplaced_18 : decode cX6_becomeReplaced 18 = .ok (.aload_n 1, 1) := by decide +kernel
theorem dX6_becomeReplaced_19 : decode cX6_becomeReplaced 19 = .ok (.iload 4, 2) := by decide +kernel
theorem dX6_becomeReplaced_21 : decode cX6_becomeReplaced 21 = .ok (.invokevirtual 68, 3) := by decide +kernel
theorem dX6_becomeReplaced_24 : decode cX6_becomeReplaced 24 = .ok (.iinc 4 1, 3) := by decide +kernel
theorem dX6_becomeReplaced_27 : decode cX6_becomeReplaced 27 = .ok (.goto (-16), 3) := by decide +kernel
theorem dX6_becomeReplaced_30 : decode cX6_becomeReplaced 30 = .ok (.iconst 0, 1) := by decide +kernel
theorem dX6_becomeReplaced_31 : decode cX6_becomeReplaced 31 = .ok (.istore 4, 2) := by decide +kernel
theorem dX6_becomeReplaced_33 : decode cX6_becomeReplaced 33 = .ok (.iload 4, 2) := by decide +kernel
theorem dX6_becomeReplaced_35 : decode cX6_becomeReplaced 35 = .ok (.aload_n 3, 1) := by decide +kernel
theorem dX6_becomeReplaced_36 : decode cX6_becomeReplaced 36 = .ok (.getfield 15, 3) := by decide +kernel
theorem dX6_becomeReplaced_39 : decode cX6_becomeReplaced 39 = .ok (.if_icmp .ge 61, 3) := by decide +kernel
theorem dX6_becomeReplaced_42 : decode cX6_becomeReplaced 42 = .ok (.aload_n 0, 1) := by decide +kernel
theorem dX6_becomeReplaced_43 : decode cX6_becomeReplaced 43 = .ok (.aload_n 3, 1) := by decide +kernel
theorem dX6_becomeReplaced_44 : decode cX6_becomeReplaced 44 = .ok (.getfield 18, 3) := by decide +kernel
theorem dX6_becomeReplaced_47 : decode cX6_becomeReplaced 47 = .ok (.iload 4, 2) := by decide +kernel
theorem dX6_becomeReplaced_49 : decode cX6_becomeReplaced 49 = .ok (.iaload, 1) := by decide +kernel
theorem dX6_becomeReplaced_50 : decode cX6_becomeReplaced 50 = .ok (.invokevirtual 64, 3) := by decide +kernel
theorem dX6_becomeReplaced_53 : decode cX6_becomeReplaced 53 = .ok (.istore 5, 2) := by decide +kernel
theorem dX6_becomeReplaced_55 : decode cX6_becomeReplaced 55 = .ok (.iconst 0, 1) := by decide +kernel
theorem dX6_becomeReplaced_56 : decode cX6_becomeReplaced 56 = .ok (.istore 6, 2) := by decide +kernel
theorem dX6_becomeReplaced_58 : decode cX6_becomeReplaced 58 = .ok (.iload 6, 2) := by decide +kernel
theorem dX6_becomeReplaced_60 : decode cX6_becomeReplaced 60 = .ok (.aload_n 0, 1) := by decide +kernel
theorem dX6_becomeReplaced_61 : decode cX6_becomeReplaced 61 = .ok (.getfield 9, 3) := by decide +kernel
theorem dX6_becomeReplaced_64 : decode cX6_becomeReplaced 64 = .ok (.if_icmp .ge 30, 3) := by decide +kernel
theorem dX6_becomeReplaced_67 : decode cX6_becomeReplaced 67 = .ok (.aload_n 0, 1) := by decide +kernel
theorem dX6_becomeReplaced_68 : decode cX6_becomeReplaced 68 = .ok (.iload 6, 2) := by decide +kernel
theorem dX6_becomeReplaced_70 : decode cX6_becomeReplaced 70 = .ok (.iload 5, 2) := by decide +kernel
theorem dX6_becomeReplaced_72 : decode cX6_becomeReplaced 72 = .ok (.aload_n 3, 1) := by decide +kernel
theorem dX6_becomeReplaced_73 : decode cX6_becomeReplaced 73 = .ok (.aload_n 1, 1) := by decide +kernel
theorem dX6_becomeReplaced_74 : decode cX6_becomeReplaced 74 = .ok (.iload 6, 2) := by decide +kernel
theorem dX6_becomeReplaced_76 : decode cX6_becomeReplaced 76 = .ok (.iload_n 2, 1) := by decide +kernel
theorem dX6_becomeReplaced_77 : decode cX6_becomeReplaced 77 = .ok (.invokevirtual 35, 3) := by decide +kernel
theorem dX6_becomeReplaced_80 : decode cX6_becomeReplaced 80 = .ok (.iload 4, 2) := by decide +kernel
theorem dX6_becomeReplaced_82 : decode cX6_becomeReplaced 82 = .ok (.invokevirtual 35, 3) := by decide +kernel
theorem dX6_becomeReplaced_85 : decode cX6_becomeReplaced 85 = .ok (.invokevirtual 31, 3) := by decide +kernel
theorem dX6_becomeReplaced_88 : decode cX6_becomeReplaced 88 = .ok (.iinc 6 1, 3) := by decide +kernel
theorem dX6_becomeReplaced_91 : decode cX6_becomeReplaced 91 = .ok (.goto (-33), 3) := by decide +kernel
theorem dX6_becomeReplaced_94 : decode cX6_becomeReplaced 94 = .ok (.iinc 4 1, 3) := by decide +kernel
theorem dX6_becomeReplaced_97 : decode cX6_becomeReplaced 97 = .ok (.goto (-64), 3) := by decide +kernel
theorem dX6_becomeReplaced_100 : decode cX6_becomeReplaced 100 = .ok (.iload_n 2, 1) := by decide +kernel
theorem dX6_becomeReplaced_101 : decode cX6_becomeReplaced 101 = .ok (.iconst 1, 1) := by decide +kernel
theorem dX6_becomeReplaced_102 : decode cX6_becomeReplaced 102 = .ok (.iadd, 1) := by decide +kernel
theorem dX6_becomeReplaced_103 : decode cX6_becomeReplaced 103 = .ok (.istore 4, 2) := by decide +kernel
theorem dX6_becomeReplaced_105 : decode cX6_becomeReplaced 105 = .ok (.iload 4, 2) := by decide +kernel
theorem dX6_becomeReplaced_107 : decode cX6_becomeReplaced 107 = .ok (.aload_n 1, 1) := by decide +kernel
theorem dX6_becomeReplaced_108 : decode cX6_becomeReplaced 108 = .ok (.getfield 15, 3) := by decide +kernel
theorem dX6_becomeReplaced_111 : decode cX6_becomeReplaced 111 = .ok (.if_icmp .ge 16, 3) := by decide +kernel
theorem dX6_becomeReplaced_114 : decode cX6_becomeReplaced 114 = .ok (.aload_n 0, 1) := by decide +kernel
theorem dX6_becomeReplaced_115 : decode cX6_becomeReplaced 115 = .ok (.aload_n 1, 1) := by decide +kernel
theorem dX6_becomeReplaced_116 : decode cX6_becomeReplaced 116 = .ok (.iload 4, 2) := by decide +kernel
theorem dX6_becomeReplaced_118 : decode cX6_becomeReplaced 118 = .ok (.invokevirtual 68, 3) := by decide +kernel
theorem dX6_becomeReplaced_121 : decode cX6_becomeReplaced 121 = .ok (.iinc 4 1, 3) := by decide +kernel
theorem dX6_becomeReplaced_124 : decode cX6_becomeReplaced 124 = .ok (.goto (-19), 3) := by decide +kernel
theorem dX6_becomeReplaced_127 : decode cX6_becomeReplaced 127 = .ok (.return_, 1) := by decide +kernel
theorem dX6_appendCopy_0 : decode cX6_appendCopy 0 = .ok (.aload_n 0, 1) := by decide +kernel
theorem dX6_appendCopy_1 : decode cX6_appendCopy 1 = .ok (.aload_n 1, 1) := by decide +kernel
theorem dX6_appendCopy_2 : decode cX6_appendCopy 2 = .ok (.getfield 18, 3) := by decide +kernel
theorem dX6_appendCopy_5 : decode cX6_appendCopy 5 = .ok (.iload_n 2, 1) := by decide +kernel
theorem dX6_appendCopy_6 : decode cX6_appendCopy 6 = .ok (.iaload, 1) := by decide +kernel
theorem dX6_appendCopy_7 : decode cX6_appendCopy 7 = .ok (.invokevirtual 64, 3) := by decide +kernel
theorem dX6_appendCopy_10 : decode cX6_appendCopy 10 = .ok (.istore_n 3, 1) := by decide +kernel
theorem dX6_appendCopy_11 : decode cX6_appendCopy 11 = .ok (.iconst 0, 1) := by decide +kernel
theorem dX6_appendCopy_12 : decode cX6_appendCopy 12 = .ok (.istore 4, 2) := by decide +kernel
theorem dX6_appendCopy_14 : decode cX6_appendCopy 14 = .ok (.iload 4, 2) := by decide +kernel
theorem dX6_appendCopy_16 : decode cX6_appendCopy 16 = .ok (.aload_n 0, 1) := by decide +kernel
theorem dX6_appendCopy_17 : decode cX6_appendCopy 17 = .ok (.getfield 9, 3) := by decide +kernel
theorem dX6_appendCopy_20 : decode cX6_appendCopy 20 = .ok (.if_icmp .ge 23, 3) := by decide +kernel
theorem dX6_appendCopy_23 : decode cX6_appendCopy 23 = .ok (.aload_n 0, 1) := by decide +kernel
theorem dX6_appendCopy_24 : decode cX6_appendCopy 24 = .ok (.iload 4, 2) := by decide +kernel
theorem dX6_appendCopy_26 : decode cX6_appendCopy 26 = .ok (.iload_n 3, 1) := by decide +kernel
theorem dX6_appendCopy_27 : decode cX6_appendCopy 27 = .ok (.aload_n 1, 1) := by decide +kernel
theorem dX6_appendCopy_28 : decode cX6_appendCopy 28 = .ok (.iload 4, 2) := by decide +kernel
theorem dX6_appendCopy_30 : decode cX6_appendCopy 30 = .ok (.iload_n 2, 1) := by decide +kernel
theorem dX6_appendCopy_31 : decode cX6_appendCopy 31 = .ok (.invokevirtual 35, 3) := by decide +kernel
theorem dX6_appendCopy_34 : decode cX6_appendCopy 34 = .ok (.invokevirtual 31, 3) := by decide +kernel
theorem dX6_appendCopy_37 : decode cX6_appendCopy 37 = .ok (.iinc 4 1, 3) := by decide +kernel
theorem dX6_appendCopy_40 : decode cX6_appendCopy 40 = .ok (.goto (-26), 3) := by decide +kernel
theorem dX6_appendCopy_43 : decode cX6_appendCopy 43 = .ok (.return_, 1) := by decide +kernel
theorem dX6_becomeDeveloped_0 : decode cX6_becomeDeveloped 0 = .ok (.aload_n 1, 1) := by decide +kernel
theorem dX6_becomeDeveloped_1 : decode cX6_becomeDeveloped 1 = .ok (.getfield 18, 3) := by decide +kernel
theorem dX6_becomeDeveloped_4 : decode cX6_becomeDeveloped 4 = .ok (.iconst 0, 1) := by decide +kernel
theorem dX6_becomeDeveloped_5 : decode cX6_becomeDeveloped 5 = .ok (.iaload, 1) := by decide +kernel
theorem dX6_becomeDeveloped_6 : decode cX6_becomeDeveloped 6 = .ok (.istore_n 3, 1) := by decide +kernel
theorem dX6_becomeDeveloped_7 : decode cX6_becomeDeveloped 7 = .ok (.aload_n 0, 1) := by decide +kernel
theorem dX6_becomeDeveloped_8 : decode cX6_becomeDeveloped 8 = .ok (.aload_n 1, 1) := by decide +kernel
theorem dX6_becomeDeveloped_9 : decode cX6_becomeDeveloped 9 = .ok (.getfield 9, 3) := by decide +kernel
theorem dX6_becomeDeveloped_12 : decode cX6_becomeDeveloped 12 = .ok (.iload_n 3, 1) := by decide +kernel
theorem dX6_becomeDeveloped_13 : decode cX6_becomeDeveloped 13 = .ok (.imul, 1) := by decide +kernel
theorem dX6_becomeDeveloped_14 : decode cX6_becomeDeveloped 14 = .ok (.invokevirtual 59, 3) := by decide +kernel
theorem dX6_becomeDeveloped_17 : decode cX6_becomeDeveloped 17 = .ok (.iconst 0, 1) := by decide +kernel
theorem dX6_becomeDeveloped_18 : decode cX6_becomeDeveloped 18 = .ok (.istore 4, 2) := by decide +kernel
theorem dX6_becomeDeveloped_20 : decode cX6_becomeDeveloped 20 = .ok (.iload 4, 2) := by decide +kernel
theorem dX6_becomeDeveloped_22 : decode cX6_becomeDeveloped 22 = .ok (.aload_n 1, 1) := by decide +kernel
theorem dX6_becomeDeveloped_23 : decode cX6_becomeDeveloped 23 = .ok (.getfield 15, 3) := by decide +kernel
theorem dX6_becomeDeveloped_26 : decode cX6_becomeDeveloped 26 = .ok (.if_icmp .ge 58, 3) := by decide +kernel
theorem dX6_becomeDeveloped_29 : decode cX6_becomeDeveloped 29 = .ok (.aload_n 0, 1) := by decide +kernel
theorem dX6_becomeDeveloped_30 : decode cX6_becomeDeveloped 30 = .ok (.iload_n 3, 1) := by decide +kernel
theorem dX6_becomeDeveloped_31 : decode cX6_becomeDeveloped 31 = .ok (.invokevirtual 64, 3) := by decide +kernel
theorem dX6_becomeDeveloped_34 : decode cX6_becomeDeveloped 34 = .ok (.pop, 1) := by decide +kernel
theorem dX6_becomeDeveloped_35 : decode cX6_becomeDeveloped 35 = .ok (.iconst 0, 1) := by decide +kernel
theorem dX6_becomeDeveloped_36 : decode cX6_becomeDeveloped 36 = .ok (.istore 5, 2) := by decide +kernel
theorem dX6_becomeDeveloped_38 : decode cX6_becomeDeveloped 38 = .ok (.iload 5, 2) := by decide +kernel
theorem dX6_becomeDeveloped_40 : decode cX6_becomeDeveloped 40 = .ok (.aload_n 0, 1) := by decide +kernel
theorem dX6_becomeDeveloped_41 : decode cX6_becomeDeveloped 41 = .ok (.getfield 9, 3) := by decide +kernel
theorem dX6_becomeDeveloped_44 : decode cX6_becomeDeveloped 44 = .ok (.if_icmp .ge 34, 3) := by decide +kernel
theorem dX6_becomeDeveloped_47 : decode cX6_becomeDeveloped 47 = .ok (.aload_n 0, 1) := by decide +kernel
theorem dX6_becomeDeveloped_48 : decode cX6_becomeDeveloped 48 = .ok (.iload 5, 2) := by decide +kernel
theorem dX6_becomeDeveloped_50 : decode cX6_becomeDeveloped 50 = .ok (.iload 4, 2) := by decide +kernel
theorem dX6_becomeDeveloped_52 : decode cX6_becomeDeveloped 52 = .ok (.aload_n 1, 1) := by decide +kernel
theorem dX6_becomeDeveloped_53 : decode cX6_becomeDeveloped 53 = .ok (.iload 5, 2) := by decide +kernel
theorem dX6_becomeDeveloped_55 : decode cX6_becomeDeveloped 55 = .ok (.iload_n 3, 1) := by decide +kernel
theorem dX6_becomeDeveloped_56 : decode cX6_becomeDeveloped 56 = .ok (.idiv, 1) := by decide +kernel
theorem dX6_becomeDeveloped_57 : decode cX6_becomeDeveloped 57 = .ok (.iload 4, 2) := by decide +kernel
theorem dX6_becomeDeveloped_59 : decode cX6_becomeDeveloped 59 = .ok (.invokevirtual 35, 3) := by decide +kernel
theorem dX6_becomeDeveloped_62 : decode cX6_becomeDeveloped 62 = .ok (.iload 5, 2) := by decide +kernel
theorem dX6_becomeDeveloped_64 : decode cX6_becomeDeveloped 64 = .ok (.iload_n 3, 1) := by decide +kernel
theorem dX6_becomeDeveloped_65 : decode cX6_becomeDeveloped 65 = .ok (.irem, 1) := by decide +kernel
theorem dX6_becomeDeveloped_66 : decode cX6_becomeDeveloped 66 = .ok (.iadd, 1) := by decide +kernel
theorem dX6_becomeDeveloped_67 : decode cX6_becomeDeveloped 67 = .ok (.iload_n 3, 1) := by decide +kernel
theorem dX6_becomeDeveloped_68 : decode cX6_becomeDeveloped 68 = .ok (.irem, 1) := by decide +kernel
theorem dX6_becomeDeveloped_69 : decode cX6_becomeDeveloped 69 = .ok (.invokevirtual 31, 3) := by decide +kernel
theorem dX6_becomeDeveloped_72 : decode cX6_becomeDeveloped 72 = .ok (.iinc 5 1, 3) := by decide +kernel
theorem dX6_becomeDeveloped_75 : decode cX6_becomeDeveloped 75 = .ok (.goto (-37), 3) := by decide +kernel
theorem dX6_becomeDeveloped_78 : decode cX6_becomeDeveloped 78 = .ok (.iinc 4 1, 3) := by decide +kernel
theorem dX6_becomeDeveloped_81 : decode cX6_becomeDeveloped 81 = .ok (.goto (-61), 3) := by decide +kernel
theorem dX6_becomeDeveloped_84 : decode cX6_becomeDeveloped 84 = .ok (.iload_n 2, 1) := by decide +kernel
theorem dX6_becomeDeveloped_85 : decode cX6_becomeDeveloped 85 = .ok (.ifCond .eq 43, 3) := by decide +kernel
theorem dX6_becomeDeveloped_88 : decode cX6_becomeDeveloped 88 = .ok (.aload_n 0, 1) := by decide +kernel
theorem dX6_becomeDeveloped_89 : decode cX6_becomeDeveloped 89 = .ok (.aload_n 1, 1) := by decide +kernel
theorem dX6_becomeDeveloped_90 : decode cX6_becomeDeveloped 90 = .ok (.getfield 9, 3) := by decide +kernel
theorem dX6_becomeDeveloped_93 : decode cX6_becomeDeveloped 93 = .ok (.invokevirtual 64, 3) := by decide +kernel
theorem dX6_becomeDeveloped_96 : decode cX6_becomeDeveloped 96 = .ok (.istore 4, 2) := by decide +kernel
theorem dX6_becomeDeveloped_98 : decode cX6_becomeDeveloped 98 = .ok (.iconst 0, 1) := by decide +kernel
theorem dX6_becomeDeveloped_99 : decode cX6_becomeDeveloped 99 = .ok (.istore 5, 2) := by decide +kernel
theorem dX6_becomeDeveloped_101 : decode cX6_becomeDeveloped 101 = .ok (.iload 5, 2) := by decide +kernel
theorem dX6_becomeDeveloped_103 : decode cX6_becomeDeveloped 103 = .ok (.aload_n 0, 1) := by decide +kernel
theorem dX6_becomeDeveloped_104 : decode cX6_becomeDeveloped 104 = .ok (.getfield 9, 3) := by decide +kernel
theorem dX6_becomeDeveloped_107 : decode cX6_becomeDeveloped 107 = .ok (.if_icmp .ge 21, 3) := by decide +kernel
theorem dX6_becomeDeveloped_110 : decode cX6_becomeDeveloped 110 = .ok (.aload_n 0, 1) := by decide +kernel
theorem dX6_becomeDeveloped_111 : decode cX6_becomeDeveloped 111 = .ok (.iload 5, 2) := by decide +kernel
theorem dX6_becomeDeveloped_113 : decode cX6_becomeDeveloped 113 = .ok (.iload 4, 2) := by decide +kernel
theorem dX6_becomeDeveloped_115 : decode cX6_becomeDeveloped 115 = .ok (.iload 5, 2) := by decide +kernel
theorem dX6_becomeDeveloped_117 : decode cX6_becomeDeveloped 117 = .ok (.iload_n 3, 1) := by decide +kernel
theorem dX6_becomeDeveloped_118 : decode cX6_becomeDeveloped 118 = .ok (.idiv, 1) := by decide +kernel
theorem dX6_becomeDeveloped_119 : decode cX6_becomeDeveloped 119 = .ok (.invokevirtual 31, 3) := by decide +kernel
theorem dX6_becomeDeveloped_122 : decode cX6_becomeDeveloped 122 = .ok (.iinc 5 1, 3) := by decide +kernel
theorem dX6_becomeDeveloped_125 : decode cX6_becomeDeveloped 125 = .ok (.goto (-24), 3) := by decide +kernel
theorem dX6_becomeDeveloped_128 : decode cX6_becomeDeveloped 128 = .ok (.return_, 1) := by decide +kernel
theorem dJ6_bitCount_0f7a4_0 : decode cJ6_bitCount_0f7a4 0 = .ok (.iload_n 0, 1) := by decide +kernel
theorem dJ6_bitCount_0f7a4_1 : decode cJ6_bitCount_0f7a4 1 = .ok (.iload_n 0, 1) := by decide +kernel
theorem dJ6_bitCount_0f7a4_2 : decode cJ6_bitCount_0f7a4 2 = .ok (.iconst 1, 1) := by decide +kernel
theorem dJ6_bitCount_0f7a4_3 : decode cJ6_bitCount_0f7a4 3 = .ok (.iushr, 1) := by decide +kernel
theorem dJ6_bitCount_0f7a4_4 : decode cJ6_bitCount_0f7a4 4 = .ok (.ldc_w 265, 3) := by decide +kernel
theorem dJ6_bitCount_0f7a4_7 : decode cJ6_bitCount_0f7a4 7 = .ok (.iand, 1) := by decide +kernel
theorem dJ6_bitCount_0f7a4_8 : decode cJ6_bitCount_0f7a4 8 = .ok (.isub, 1) := by decide +kernel
theorem dJ6_bitCount_0f7a4_9 : decode cJ6_bitCount_0f7a4 9 = .ok (.istore_n 0, 1) := by decide +kernel
theorem dJ6_bitCount_0f7a4_10 : decode cJ6_bitCount_0f7a4 10 = .ok (.iload_n 0, 1) := by decide +kernel
theorem dJ6_bitCount_0f7a4_11 : decode cJ6_bitCount_0f7a4 11 = .ok (.ldc_w 266, 3) := by decide +kernel
theorem dJ6_bitCount_0f7a4_14 : decode cJ6_bitCount_0f7a4 14 = .ok (.iand, 1) := by decide +kernel
theorem dJ6_bitCount_0f7a4_15 : decode cJ6_bitCount_0f7a4 15 = .ok (.iload_n 0, 1) := by decide +kernel
theorem dJ6_bitCount_0f7a4_16 : decode cJ6_bitCount_0f7a4 16 = .ok (.iconst 2, 1) := by decide +kernel
theorem dJ6_bitCount_0f7a4_17 : decode cJ6_bitCount_0f7a4 17 = .ok (.iushr, 1) := by decide +kernel
theorem dJ6_bitCount_0f7a4_18 : decode cJ6_bitCount_0f7a4 18 = .ok (.ldc_w 266, 3) := by decide +kernel
theorem dJ6_bitCount_0f7a4_21 : decode cJ6_bitCount_0f7a4 21 = .ok (.iand, 1) := by decide +kernel
theorem dJ6_bitCount_0f7a4_22 : decode cJ6_bitCount_0f7a4 22 = .ok (.iadd, 1) := by decide +kernel
theorem dJ6_bitCount_0f7a4_23 : decode cJ6_bitCount_0f7a4 23 = .ok (.istore_n 0, 1) := by decide +kernel
theorem dJ6_bitCount_0f7a4_24 : decode cJ6_bitCount_0f7a4 24 = .ok (.iload_n 0, 1) := by decide +kernel
theorem dJ6_bitCount_0f7a4_25 : decode cJ6_bitCount_0f7a4 25 = .ok (.iload_n 0, 1) := by decide +kernel
theorem dJ6_bitCount_0f7a4_26 : decode cJ6_bitCount_0f7a4 26 = .ok (.iconst 4, 1) := by decide +kernel
theorem dJ6_bitCount_0f7a4_27 : decode cJ6_bitCount_0f7a4 27 = .ok (.iushr, 1) := by decide +kernel
theorem dJ6_bitCount_0f7a4_28 : decode cJ6_bitCount_0f7a4 28 = .ok (.iadd, 1) := by decide +kernel
theorem dJ6_bitCount_0f7a4_29 : decode cJ6_bitCount_0f7a4 29 = .ok (.ldc_w 267, 3) := by decide +kernel
theorem dJ6_bitCount_0f7a4_32 : decode cJ6_bitCount_0f7a4 32 = .ok (.iand, 1) := by decide +kernel
theorem dJ6_bitCount_0f7a4_33 : decode cJ6_bitCount_0f7a4 33 = .ok (.istore_n 0, 1) := by decide +kernel
theorem dJ6_bitCount_0f7a4_34 : decode cJ6_bitCount_0f7a4 34 = .ok (.iload_n 0, 1) := by decide +kernel
theorem dJ6_bitCount_0f7a4_35 : decode cJ6_bitCount_0f7a4 35 = .ok (.iload_n 0, 1) := by decide +kernel
theorem dJ6_bitCount_0f7a4_36 : decode cJ6_bitCount_0f7a4 36 = .ok (.bipush 8, 2) := by decide +kernel
theorem dJ6_bitCount_0f7a4_38 : decode cJ6_bitCount_0f7a4 38 = .ok (.iushr, 1) := by decide +kernel
theorem dJ6_bitCount_0f7a4_39 : decode cJ6_bitCount_0f7a4 39 = .ok (.iadd, 1) := by decide +kernel
theorem dJ6_bitCount_0f7a4_40 : decode cJ6_bitCount_0f7a4 40 = .ok (.istore_n 0, 1) := by decide +kernel
theorem dJ6_bitCount_0f7a4_41 : decode cJ6_bitCount_0f7a4 41 = .ok (.iload_n 0, 1) := by decide +kernel
theorem dJ6_bitCount_0f7a4_42 : decode cJ6_bitCount_0f7a4 42 = .ok (.iload_n 0, 1) := by decide +kernel
theorem dJ6_bitCount_0f7a4_43 : decode cJ6_bitCount_0f7a4 43 = .ok (.bipush 16, 2) := by decide +kernel
theorem dJ6_bitCount_0f7a4_45 : decode cJ6_bitCount_0f7a4 45 = .ok (.iushr, 1) := by decide +kernel
theorem dJ6_bitCount_0f7a4_46 : decode cJ6_bitCount_0f7a4 46 = .ok (.iadd, 1) := by decide +kernel
theorem dJ6_bitCount_0f7a4_47 : decode cJ6_bitCount_0f7a4 47 = .ok (.istore_n 0, 1) := by decide +kernel
theorem dJ6_bitCount_0f7a4_48 : decode cJ6_bitCount_0f7a4 48 = .ok (.iload_n 0, 1) := by decide +kernel
theorem dJ6_bitCount_0f7a4_49 : decode cJ6_bitCount_0f7a4 49 = .ok (.bipush 63, 2) := by decide +kernel
theorem dJ6_bitCount_0f7a4_51 : decode cJ6_bitCount_0f7a4 51 = .ok (.iand, 1) := by decide +kernel
theorem dJ6_bitCount_0f7a4_52 : decode cJ6_bitCount_0f7a4 52 = .ok (.ireturn, 1) := by decide +kernel
theorem dJ13_bitCount_95d88_0 : decode cJ13_bitCount_95d88 0 = .ok (.lload_n 0, 1) := by decide +kernel
theorem dJ13_bitCount_95d88_1 : decode cJ13_bitCount_95d88 1 = .ok (.lload_n 0, 1) := by decide +kernel
theorem dJ13_bitCount_95d88_2 : decode cJ13_bitCount_95d88 2 = .ok (.iconst 1, 1) := by decide +kernel
theorem dJ13_bitCount_95d88_3 : decode cJ13_bitCount_95d88 3 = .ok (.lushr, 1) := by decide +kernel
theorem dJ13_bitCount_95d88_4 : decode cJ13_bitCount_95d88 4 = .ok (.ldc2_w 314, 3) := by decide +kernel
theorem dJ13_bitCount_95d88_7 : decode cJ13_bitCount_95d88 7 = .ok (.land, 1) := by decide +kernel
theorem dJ13_bitCount_95d88_8 : decode cJ13_bitCount_95d88 8 = .ok (.lsub, 1) := by decide +kernel
theorem dJ13_bitCount_95d88_9 : decode cJ13_bitCount_95d88 9 = .ok (.lstore_n 0, 1) := by decide +kernel
theorem dJ13_bitCount_95d88_10 : decode cJ13_bitCount_95d88 10 = .ok (.lload_n 0, 1) := by decide +kernel
theorem dJ13_bitCount_95d88_11 : decode cJ13_bitCount_95d88 11 = .ok (.ldc2_w 316, 3) := by decide +kernel
theorem dJ13_bitCount_95d88_14 : decode cJ13_bitCount_95d88 14 = .ok (.land, 1) := by decide +kernel
theorem dJ13_bitCount_95d88_15 : decode cJ13_bitCount_95d88 15 = .ok (.lload_n 0, 1) := by decide +kernel
theorem dJ13_bitCount_95d88_16 : decode cJ13_bitCount_95d88 16 = .ok (.iconst 2, 1) := by decide +kernel
theorem dJ13_bitCount_95d88_17 : decode cJ13_bitCount_95d88 17 = .ok (.lushr, 1) := by decide +kernel
theorem dJ13_bitCount_95d88_18 : decode cJ13_bitCount_95d88 18 = .ok (.ldc2_w 316, 3) := by decide +kernel
theorem dJ13_bitCount_95d88_21 : decode cJ13_bitCount_95d88 21 = .ok (.land, 1) := by decide +kernel
theorem dJ13_bitCount_95d88_22 : decode cJ13_bitCount_95d88 22 = .ok (.ladd, 1) := by decide +kernel
theorem dJ13_bitCount_95d88_23 : decode cJ13_bitCount_95d88 23 = .ok (.lstore_n 0, 1) := by decide +kernel
theorem dJ13_bitCount_95d88_24 : decode cJ13_bitCount_95d88 24 = .ok (.lload_n 0, 1) := by decide +kernel
theorem dJ13_bitCount_95d88_25 : decode cJ13_bitCount_95d88 25 = .ok (.lload_n 0, 1) := by decide +kernel
theorem dJ13_bitCount_95d88_26 : decode cJ13_bitCount_95d88 26 = .ok (.iconst 4, 1) := by decide +kernel
theorem dJ13_bitCount_95d88_27 : decode cJ13_bitCount_95d88 27 = .ok (.lushr, 1) := by decide +kernel
theorem dJ13_bitCount_95d88_28 : decode cJ13_bitCount_95d88 28 = .ok (.ladd, 1) := by decide +kernel
theorem dJ13_bitCount_95d88_29 : decode cJ13_bitCount_95d88 29 = .ok (.ldc2_w 318, 3) := by decide +kernel
theorem dJ13_bitCount_95d88_32 : decode cJ13_bitCount_95d88 32 = .ok (.land, 1) := by decide +kernel
theorem dJ13_bitCount_95d88_33 : decode cJ13_bitCount_95d88 33 = .ok (.lstore_n 0, 1) := by decide +kernel
theorem dJ13_bitCount_95d88_34 : decode cJ13_bitCount_95d88 34 = .ok (.lload_n 0, 1) := by decide +kernel
theorem dJ13_bitCount_95d88_35 : decode cJ13_bitCount_95d88 35 = .ok (.lload_n 0, 1) := by decide +kernel
theorem dJ13_bitCount_95d88_36 : decode cJ13_bitCount_95d88 36 = .ok (.bipush 8, 2) := by decide +kernel
theorem dJ13_bitCount_95d88_38 : decode cJ13_bitCount_95d88 38 = .ok (.lushr, 1) := by decide +kernel
theorem dJ13_bitCount_95d88_39 : decode cJ13_bitCount_95d88 39 = .ok (.ladd, 1) := by decide +kernel
theorem dJ13_bitCount_95d88_40 : decode cJ13_bitCount_95d88 40 = .ok (.lstore_n 0, 1) := by decide +kernel
theorem dJ13_bitCount_95d88_41 : decode cJ13_bitCount_95d88 41 = .ok (.lload_n 0, 1) := by decide +kernel
theorem dJ13_bitCount_95d88_42 : decode cJ13_bitCount_95d88 42 = .ok (.lload_n 0, 1) := by decide +kernel
theorem dJ13_bitCount_95d88_43 : decode cJ13_bitCount_95d88 43 = .ok (.bipush 16, 2) := by decide +kernel
theorem dJ13_bitCount_95d88_45 : decode cJ13_bitCount_95d88 45 = .ok (.lushr, 1) := by decide +kernel
theorem dJ13_bitCount_95d88_46 : decode cJ13_bitCount_95d88 46 = .ok (.ladd, 1) := by decide +kernel
theorem dJ13_bitCount_95d88_47 : decode cJ13_bitCount_95d88 47 = .ok (.lstore_n 0, 1) := by decide +kernel
theorem dJ13_bitCount_95d88_48 : decode cJ13_bitCount_95d88 48 = .ok (.lload_n 0, 1) := by decide +kernel
theorem dJ13_bitCount_95d88_49 : decode cJ13_bitCount_95d88 49 = .ok (.lload_n 0, 1) := by decide +kernel
theorem dJ13_bitCount_95d88_50 : decode cJ13_bitCount_95d88 50 = .ok (.bipush 32, 2) := by decide +kernel
theorem dJ13_bitCount_95d88_52 : decode cJ13_bitCount_95d88 52 = .ok (.lushr, 1) := by decide +kernel
theorem dJ13_bitCount_95d88_53 : decode cJ13_bitCount_95d88 53 = .ok (.ladd, 1) := by decide +kernel
theorem dJ13_bitCount_95d88_54 : decode cJ13_bitCount_95d88 54 = .ok (.lstore_n 0, 1) := by decide +kernel
theorem dJ13_bitCount_95d88_55 : decode cJ13_bitCount_95d88 55 = .ok (.lload_n 0, 1) := by decide +kernel
theorem dJ13_bitCount_95d88_56 : decode cJ13_bitCount_95d88 56 = .ok (.l2i, 1) := by decide +kernel
theorem dJ13_bitCount_95d88_57 : decode cJ13_bitCount_95d88 57 = .ok (.bipush 127, 2) := by decide +kernel
theorem dJ13_bitCount_95d88_59 : decode cJ13_bitCount_95d88 59 = .ok (.iand, 1) := by decide +kernel
theorem dJ13_bitCount_95d88_60 : decode cJ13_bitCount_95d88 60 = .ok (.ireturn, 1) := by decide +kernel
theorem dJ9_max_7cf53_0 : decode cJ9_max_7cf53 0 = .ok (.iload_n 0, 1) := by decide +kernel
theorem dJ9_max_7cf53_1 : decode cJ9_max_7cf53 1 = .ok (.iload_n 1, 1) := by decide +kernel
theorem dJ9_max_7cf53_2 : decode cJ9_max_7cf53 2 = .ok (.if_icmp .lt 7, 3) := by decide +kernel
theorem dJ9_max_7cf53_5 : decode cJ9_max_7cf53 5 = .ok (.iload_n 0, 1) := by decide +kernel
theorem dJ9_max_7cf53_6 : decode cJ9_max_7cf53 6 = .ok (.goto 4, 3) := by decide +kernel
theorem dJ9_max_7cf53_9 : decode cJ9_max_7cf53 9 = .ok (.iload_n 1, 1) := by decide +kernel
theorem dJ9_max_7cf53_10 : decode cJ9_max_7cf53 10 = .ok (.ireturn, 1) := by decide +kernel
theorem dJ9_min_7cf53_0 : decode cJ9_min_7cf53 0 = .ok (.iload_n 0, 1) := by decide +kernel
theorem dJ9_min_7cf53_1 : decode cJ9_min_7cf53 1 = .ok (.iload_n 1, 1) := by decide +kernel
theorem dJ9_min_7cf53_2 : decode cJ9_min_7cf53 2 = .ok (.if_icmp .gt 7, 3) := by decide +kernel
theorem dJ9_min_7cf53_5 : decode cJ9_min_7cf53 5 = .ok (.iload_n 0, 1) := by decide +kernel
theorem dJ9_min_7cf53_6 : decode cJ9_min_7cf53 6 = .ok (.goto 4, 3) := by decide +kernel
theorem dJ9_min_7cf53_9 : decode cJ9_min_7cf53 9 = .ok (.iload_n 1, 1) := by decide +kernel
theorem dJ9_min_7cf53_10 : decode cJ9_min_7cf53 10 = .ok (.ireturn, 1) := by decide +kernel
