theorem dX0_init_0 : decode cX0_init 0 = .ok (.aload_n 0, 1) := by decide +kernel
theorem dX0_init_1 : decode cX0_init 1 = .ok (.invokespecial 3, 3) := by decide +kernel
theorem dX0_init_4 : decode cX0_init 4 = .ok (.aload_n 0, 1) := by decide +kernel
theorem dX0_init_5 : decode cX0_init 5 = .ok (.bipush 36, 2) := by decide +kernel
theorem dX0_init_7 : decode cX0_init 7 = .ok (.newarray .int, 2) := by decide +kernel
theorem dX0_init_9 : decode cX0_init 9 = .ok (.putfield 9, 3) := by decide +kernel
theorem dX0_init_12 : decode cX0_init 12 = .ok (.aload_n 0, 1) := by decide +kernel
theorem dX0_init_13 : decode cX0_init 13 = .ok (.bipush 36, 2) := by decide +kernel
theorem dX0_init_15 : decode cX0_init 15 = .ok (.newarray .int, 2) := by decide +kernel
theorem dX0_init_17 : decode cX0_init 17 = .ok (.putfield 15, 3) := by decide +kernel
theorem dX0_init_20 : decode cX0_init 20 = .ok (.return_, 1) := by decide +kernel
theorem dX0_isBalanced_0 : decode cX0_isBalanced 0 = .ok (.lload_n 3, 1) := by decide +kernel
theorem dX0_isBalanced_1 : decode cX0_isBalanced 1 = .ok (.invokestatic 18, 3) := by decide +kernel
theorem dX0_isBalanced_4 : decode cX0_isBalanced 4 = .ok (.istore 5, 2) := by decide +kernel
theorem dX0_isBalanced_6 : decode cX0_isBalanced 6 = .ok (.aload_n 1, 1) := by decide +kernel
theorem dX0_isBalanced_7 : decode cX0_isBalanced 7 = .ok (.iload_n 2, 1) := by decide +kernel
theorem dX0_isBalanced_8 : decode cX0_isBalanced 8 = .ok (.invokevirtual 24, 3) := by decide +kernel
theorem dX0_isBalanced_11 : decode cX0_isBalanced 11 = .ok (.istore 6, 2) := by decide +kernel
theorem dX0_isBalanced_13 : decode cX0_isBalanced 13 = .ok (.iload 6, 2) := by decide +kernel
theorem dX0_isBalanced_15 : decode cX0_isBalanced 15 = .ok (.iload 5, 2) := by decide +kernel
theorem dX0_isBalanced_17 : decode cX0_isBalanced 17 = .ok (.if_icmp .le 14, 3) := by decide +kernel
theorem dX0_isBalanced_20 : decode cX0_isBalanced 20 = .ok (.iload 5, 2) := by decide +kernel
theorem dX0_isBalanced_22 : decode cX0_isBalanced 22 = .ok (.ifCond .ne 7, 3) := by decide +kernel
theorem dX0_isBalanced_25 : decode cX0_isBalanced 25 = .ok (.iconst 1, 1) := by decide +kernel
theorem dX0_isBalanced_26 : decode cX0_isBalanced 26 = .ok (.goto 4, 3) := by decide +kernel
theorem dX0_isBalanced_29 : decode cX0_isBalanced 29 = .ok (.iconst 0, 1) := by decide +kernel
theorem dX0_isBalanced_30 : decode cX0_isBalanced 30 = .ok (.ireturn, 1) := by decide +kernel
theorem dX0_isBalanced_31 : decode cX0_isBalanced 31 = .ok (.iload 5, 2) := by decide +kernel
theorem dX0_isBalanced_33 : decode cX0_isBalanced 33 = .ok (.iload 6, 2) := by decide +kernel
theorem dX0_isBalanced_35 : decode cX0_isBalanced 35 = .ok (.irem, 1) := by decide +kernel
theorem dX0_isBalanced_36 : decode cX0_isBalanced 36 = .ok (.ifCond .eq 5, 3) := by decide +kernel
theorem dX0_isBalanced_39 : decode cX0_isBalanced 39 = .ok (.iconst 0, 1) := by decide +kernel
theorem dX0_isBalanced_40 : decode cX0_isBalanced 40 = .ok (.ireturn, 1) := by decide +kernel
theorem dX0_isBalanced_41 : decode cX0_isBalanced 41 = .ok (.iload 5, 2) := by decide +kernel
theorem dX0_isBalanced_43 : decode cX0_isBalanced 43 = .ok (.iload 6, 2) := by decide +kernel
theorem dX0_isBalanced_45 : decode cX0_isBalanced 45 = .ok (.idiv, 1) := by decide +kernel
theorem dX0_isBalanced_46 : decode cX0_isBalanced 46 = .ok (.istore 7, 2) := by decide +kernel
theorem dX0_isBalanced_48 : decode cX0_isBalanced 48 = .ok (.aload_n 0, 1) := by decide +kernel
theorem dX0_isBalanced_49 : decode cX0_isBalanced 49 = .ok (.iload 6, 2) := by decide +kernel
theorem dX0_isBalanced_51 : decode cX0_isBalanced 51 = .ok (.invokevirtual 30, 3) := by decide +kernel
theorem dX0_isBalanced_54 : decode cX0_isBalanced 54 = .ok (.iconst 0, 1) := by decide +kernel
theorem dX0_isBalanced_55 : decode cX0_isBalanced 55 = .ok (.istore 8, 2) := by decide +kernel
theorem dX0_isBalanced_57 : decode cX0_isBalanced 57 = .ok (.iload 8, 2) := by decide +kernel
theorem dX0_isBalanced_59 : decode cX0_isBalanced 59 = .ok (.aload_n 1, 1) := by decide +kernel
theorem dX0_isBalanced_60 : decode cX0_isBalanced 60 = .ok (.getfield 34, 3) := by decide +kernel
theorem dX0_isBalanced_63 : decode cX0_isBalanced 63 = .ok (.if_icmp .ge 54, 3) := by decide +kernel
theorem dX0_isBalanced_66 : decode cX0_isBalanced 66 = .ok (.lload_n 3, 1) := by decide +kernel
theorem dX0_isBalanced_67 : decode cX0_isBalanced 67 = .ok (.iload 8, 2) := by decide +kernel
theorem dX0_isBalanced_69 : decode cX0_isBalanced 69 = .ok (.lshr, 1) := by decide +kernel
theorem dX0_isBalanced_70 : decode cX0_isBalanced 70 = .ok (.lconst 1, 1) := by decide +kernel
theorem dX0_isBalanced_71 : decode cX0_isBalanced 71 = .ok (.land, 1) := by decide +kernel
theorem dX0_isBalanced_72 : decode cX0_isBalanced 72 = .ok (.lconst 1, 1) := by decide +kernel
theorem dX0_isBalanced_73 : decode cX0_isBalanced 73 = .ok (.lcmp, 1) := by decide +kernel
theorem dX0_isBalanced_74 : decode cX0_isBalanced 74 = .ok (.ifCond .ne 37, 3) := by decide +kernel
theorem dX0_isBalanced_77 : decode cX0_isBalanced 77 = .ok (.aload_n 1, 1) := by decide +kernel
theorem dX0_isBalanced_78 : decode cX0_isBalanced 78 = .ok (.iload 8, 2) := by decide +kernel
theorem dX0_isBalanced_80 : decode cX0_isBalanced 80 = .ok (.iload_n 2, 1) := by decide +kernel
theorem dX0_isBalanced_81 : decode cX0_isBalanced 81 = .ok (.invokevirtual 38, 3) := by decide +kernel
theorem dX0_isBalanced_84 : decode cX0_isBalanced 84 = .ok (.istore 9, 2) := by decide +kernel
theorem dX0_isBalanced_86 : decode cX0_isBalanced 86 = .ok (.aload_n 0, 1) := by decide +kernel
theorem dX0_isBalanced_87 : decode cX0_isBalanced 87 = .ok (.getfield 9, 3) := by decide +kernel
theorem dX0_isBalanced_90 : decode cX0_isBalanced 90 = .ok (.iload 9, 2) := by decide +kernel
theorem dX0_isBalanced_92 : decode cX0_isBalanced 92 = .ok (.dup2, 1) := by decide +kernel
theorem dX0_isBalanced_93 : decode cX0_isBalanced 93 = .ok (.iaload, 1) := by decide +kernel
theorem dX0_isBalanced_94 : decode cX0_isBalanced 94 = .ok (.iconst 1, 1) := by decide +kernel
theorem dX0_isBalanced_95 : decode cX0_isBalanced 95 = .ok (.iadd, 1) := by decide +kernel
theorem dX0_isBalanced_96 : decode cX0_isBalanced 96 = .ok (.iastore, 1) := by decide +kernel
theorem dX0_isBalanced_97 : decode cX0_isBalanced 97 = .ok (.aload_n 0, 1) := by decide +kernel
theorem dX0_isBalanced_98 : decode cX0_isBalanced 98 = .ok (.getfield 9, 3) := by decide +kernel
theorem dX0_isBalanced_101 : decode cX0_isBalanced 101 = .ok (.iload 9, 2) := by decide +kernel
theorem dX0_isBalanced_103 : decode cX0_isBalanced 103 = .ok (.iaload, 1) := by decide +kernel
theorem dX0_isBalanced_104 : decode cX0_isBalanced 104 = .ok (.iload 7, 2) := by decide +kernel
theorem dX0_isBalanced_106 : decode cX0_isBalanced 106 = .ok (.if_icmp .le 5, 3) := by decide +kernel
theorem dX0_isBalanced_109 : decode cX0_isBalanced 109 = .ok (.iconst 0, 1) := by decide +kernel
theorem dX0_isBalanced_110 : decode cX0_isBalanced 110 = .ok (.ireturn, 1) := by decide +kernel
theorem dX0_isBalanced_111 : decode cX0_isBalanced 111 = .ok (.iinc 8 1, 3) := by decide +kernel
theorem dX0_isBalanced_114 : decode cX0_isBalanced 114 = .ok (.goto (-57), 3) := by decide +kernel
theorem dX0_isBalanced_117 : decode cX0_isBalanced 117 = .ok (.iconst 1, 1) := by decide +kernel
theorem dX0_isBalanced_118 : decode cX0_isBalanced 118 = .ok (.ireturn, 1) := by decide +kernel
theorem dX0_clearTallies_0 : decode cX0_clearTallies 0 = .ok (.iconst 0, 1) := by decide +kernel
theorem dX0_clearTallies_1 : decode cX0_clearTallies 1 = .ok (.istore_n 2, 1) := by decide +kernel
theorem dX0_clearTallies_2 : decode cX0_clearTallies 2 = .ok (.iload_n 2, 1) := by decide +kernel
theorem dX0_clearTallies_3 : decode cX0_clearTallies 3 = .ok (.iload_n 1, 1) := by decide +kernel
theorem dX0_clearTallies_4 : decode cX0_clearTallies 4 = .ok (.if_icmp .ge 16, 3) := by decide +kernel
theorem dX0_clearTallies_7 : decode cX0_clearTallies 7 = .ok (.aload_n 0, 1) := by decide +kernel
theorem dX0_clearTallies_8 : decode cX0_clearTallies 8 = .ok (.getfield 9, 3) := by decide +kernel
theorem dX0_clearTallies_11 : decode cX0_clearTallies 11 = .ok (.iload_n 2, 1) := by decide +kernel
theorem dX0_clearTallies_12 : decode cX0_clearTallies 12 = .ok (.iconst 0, 1) := by decide +kernel
theorem dX0_clearTallies_13 : decode cX0_clearTallies 13 = .ok (.iastore, 1) := by decide +kernel
theorem dX0_clearTallies_14 : decode cX0_clearTallies 14 = .ok (.iinc 2 1, 3) := by decide +kernel
theorem dX0_clearTallies_17 : decode cX0_clearTallies 17 = .ok (.goto (-15), 3) := by decide +kernel
theorem dX0_clearTallies_20 : decode cX0_clearTallies 20 = .ok (.return_, 1) := by decide +kernel
theorem dX0_firstUnbalanced_0 : decode cX0_firstUnbalanced 0 = .ok (.iconst 0, 1) := by decide +kernel
theorem dX0_firstUnbalanced_1 : decode cX0_firstUnbalanced 1 = .ok (.istore 5, 2) := by decide +kernel
theorem dX0_firstUnbalanced_3 : decode cX0_firstUnbalanced 3 = .ok (.iload 5, 2) := by decide +kernel
theorem dX0_firstUnbalanced_5 : decode cX0_firstUnbalanced 5 = .ok (.iconst 1, 1) := by decide +kernel
theorem dX0_firstUnbalanced_6 : decode cX0_firstUnbalanced 6 = .ok (.aload_n 1, 1) := by decide +kernel
theorem dX0_firstUnbalanced_7 : decode cX0_firstUnbalanced 7 = .ok (.getfield 42, 3) := by decide +kernel
theorem dX0_firstUnbalanced_10 : decode cX0_firstUnbalanced 10 = .ok (.ishl, 1) := by decide +kernel
theorem dX0_firstUnbalanced_11 : decode cX0_firstUnbalanced 11 = .ok (.if_icmp .ge 32, 3) := by decide +kernel
theorem dX0_firstUnbalanced_14 : decode cX0_firstUnbalanced 14 = .ok (.iload 5, 2) := by decide +kernel
theorem dX0_firstUnbalanced_16 : decode cX0_firstUnbalanced 16 = .ok (.invokestatic 45, 3) := by decide +kernel
theorem dX0_firstUnbalanced_19 : decode cX0_firstUnbalanced 19 = .ok (.iload_n 2, 1) := by decide +kernel
theorem dX0_firstUnbalanced_20 : decode cX0_firstUnbalanced 20 = .ok (.if_icmp .ne 17, 3) := by decide +kernel
theorem dX0_firstUnbalanced_23 : decode cX0_firstUnbalanced 23 = .ok (.aload_n 0, 1) := by decide +kernel
theorem dX0_firstUnbalanced_24 : decode cX0_firstUnbalanced 24 = .ok (.aload_n 1, 1) := by decide +kernel
theorem dX0_firstUnbalanced_25 : decode cX0_firstUnbalanced 25 = .ok (.iload 5, 2) := by decide +kernel
theorem dX0_firstUnbalanced_27 : decode cX0_firstUnbalanced 27 = .ok (.lload_n 3, 1) := by decide +kernel
theorem dX0_firstUnbalanced_28 : decode cX0_firstUnbalanced 28 = .ok (.invokevirtual 49, 3) := by decide +kernel
theorem dX0_firstUnbalanced_31 : decode cX0_firstUnbalanced 31 = .ok (.ifCond .ne 6, 3) := by decide +kernel
theorem dX0_firstUnbalanced_34 : decode cX0_firstUnbalanced 34 = .ok (.iload 5, 2) := by decide +kernel
theorem dX0_firstUnbalanced_36 : decode cX0_firstUnbalanced 36 = .ok (.ireturn, 1) := by decide +kernel
theorem dX0_firstUnbalanced_37 : decode cX0_firstUnbalanced 37 = .ok (.iinc 5 1, 3) := by decide +kernel
theorem dX0_firstUnbalanced_40 : decode cX0_firstUnbalanced 40 = .ok (.goto (-37), 3) := by decide +kernel
theorem dX0_firstUnbalanced_43 : decode cX0_firstUnbalanced 43 = .ok (.bipush (-9), 2) := by decide +kernel
theorem dX0_firstUnbalanced_45 : decode cX0_firstUnbalanced 45 = .ok (.ireturn, 1) := by decide +kernel
theorem dX0_unbalancedSets_0 : decode cX0_unbalancedSets 0 = .ok (.iconst 0, 1) := by decide +kernel
theorem dX0_unbalancedSets_1 : decode cX0_unbalancedSets 1 = .ok (.istore_n 3, 1) := by decide +kernel
theorem dX0_unbalancedSets_2 : decode cX0_unbalancedSets 2 = .ok (.iconst 0, 1) := by decide +kernel
theorem dX0_unbalancedSets_3 : decode cX0_unbalancedSets 3 = .ok (.istore 4, 2) := by decide +kernel
theorem dX0_unbalancedSets_5 : decode cX0_unbalancedSets 5 = .ok (.iload 4, 2) := by decide +kernel
theorem dX0_unbalancedSets_7 : decode cX0_unbalancedSets 7 = .ok (.iconst 1, 1) := by decide +kernel
theorem dX0_unbalancedSets_8 : decode cX0_unbalancedSets 8 = .ok (.aload_n 1, 1) := by decide +kernel
theorem dX0_unbalancedSets_9 : decode cX0_unbalancedSets 9 = .ok (.getfield 42, 3) := by decide +kernel
theorem dX0_unbalancedSets_12 : decode cX0_unbalancedSets 12 = .ok (.ishl, 1) := by decide +kernel
theorem dX0_unbalancedSets_13 : decode cX0_unbalancedSets 13 = .ok (.if_icmp .ge 35, 3) := by decide +kernel
theorem dX0_unbalancedSets_16 : decode cX0_unbalancedSets 16 = .ok (.iload 4, 2) := by decide +kernel
theorem dX0_unbalancedSets_18 : decode cX0_unbalancedSets 18 = .ok (.invokestatic 45, 3) := by decide +kernel
theorem dX0_unbalancedSets_21 : decode cX0_unbalancedSets 21 = .ok (.iload_n 2, 1) := by decide +kernel
theorem dX0_unbalancedSets_22 : decode cX0_unbalancedSets 22 = .ok (.if_icmp .ne 20, 3) := by decide +kernel
theorem dX0_unbalancedSets_25 : decode cX0_unbalancedSets 25 = .ok (.aload_n 0, 1) := by decide +kernel
theorem dX0_unbalancedSets_26 : decode cX0_unbalancedSets 26 = .ok (.aload_n 1, 1) := by decide +kernel
theorem dX0_unbalancedSets_27 : decode cX0_unbalancedSets 27 = .ok (.iload 4, 2) := by decide +kernel
theorem dX0_unbalancedSets_29 : decode cX0_unbalancedSets 29 = .ok (.aload_n 1, 1) := by decide +kernel
theorem dX0_unbalancedSets_30 : decode cX0_unbalancedSets 30 = .ok (.invokevirtual 53, 3) := by decide +kernel
theorem dX0_unbalancedSets_33 : decode cX0_unbalancedSets 33 = .ok (.invokevirtual 49, 3) := by decide +kernel
theorem dX0_unbalancedSets_36 : decode cX0_unbalancedSets 36 = .ok (.ifCond .ne 6, 3) := by decide +kernel
theorem dX0_unbalancedSets_39 : decode cX0_unbalancedSets 39 = .ok (.iinc 3 1, 3) := by decide +kernel
theorem dX0_unbalancedSets_42 : decode cX0_unbalancedSets 42 = .ok (.iinc 4 1, 3) := by decide +kernel
theorem dX0_unbalancedSets_45 : decode cX0_unbalancedSets 45 = .ok (.goto (-40), 3) := by decide +kernel
theorem dX0_unbalancedSets_48 : decode cX0_unbalancedSets 48 = .ok (.iload_n 3, 1) := by decide +kernel
theorem dX0_unbalancedSets_49 : decode cX0_unbalancedSets 49 = .ok (.ireturn, 1) := by decide +kernel
theorem dX0_strengthOf_0 : decode cX0_strengthOf 0 = .ok (.iconst 0, 1) := by decide +kernel
theorem dX0_strengthOf_1 : decode cX0_strengthOf 1 = .ok (.istore_n 2, 1) := by decide +kernel
theorem dX0_strengthOf_2 : decode cX0_strengthOf 2 = .ok (.iload_n 2, 1) := by decide +kernel
theorem dX0_strengthOf_3 : decode cX0_strengthOf 3 = .ok (.aload_n 1, 1) := by decide +kernel
theorem dX0_strengthOf_4 : decode cX0_strengthOf 4 = .ok (.getfield 42, 3) := by decide +kernel
theorem dX0_strengthOf_7 : decode cX0_strengthOf 7 = .ok (.if_icmp .ge 26, 3) := by decide +kernel
theorem dX0_strengthOf_10 : decode cX0_strengthOf 10 = .ok (.aload_n 0, 1) := by decide +kernel
theorem dX0_strengthOf_11 : decode cX0_strengthOf 11 = .ok (.aload_n 1, 1) := by decide +kernel
theorem dX0_strengthOf_12 : decode cX0_strengthOf 12 = .ok (.iload_n 2, 1) := by decide +kernel
theorem dX0_strengthOf_13 : decode cX0_strengthOf 13 = .ok (.iconst 1, 1) := by decide +kernel
theorem dX0_strengthOf_14 : decode cX0_strengthOf 14 = .ok (.iadd, 1) := by decide +kernel
theorem dX0_strengthOf_15 : decode cX0_strengthOf 15 = .ok (.aload_n 1, 1) := by decide +kernel
theorem dX0_strengthOf_16 : decode cX0_strengthOf 16 = .ok (.invokevirtual 53, 3) := by decide +kernel
theorem dX0_strengthOf_19 : decode cX0_strengthOf 19 = .ok (.invokevirtual 57, 3) := by decide +kernel
theorem dX0_strengthOf_22 : decode cX0_strengthOf 22 = .ok (.bipush (-9), 2) := by decide +kernel
theorem dX0_strengthOf_24 : decode cX0_strengthOf 24 = .ok (.if_icmp .ne 9, 3) := by decide +kernel
theorem dX0_strengthOf_27 : decode cX0_strengthOf 27 = .ok (.iinc 2 1, 3) := by decide +kernel
theorem dX0_strengthOf_30 : decode cX0_strengthOf 30 = .ok (.goto (-28), 3) := by decide +kernel
theorem dX0_strengthOf_33 : decode cX0_strengthOf 33 = .ok (.iload_n 2, 1) := by decide +kernel
theorem dX0_strengthOf_34 : decode cX0_strengthOf 34 = .ok (.ireturn, 1) := by decide +kernel
theorem dX0_greatestTally_0 : decode cX0_greatestTally 0 = .ok (.iconst 0, 1) := by decide +kernel
theorem dX0_greatestTally_1 : decode cX0_greatestTally 1 = .ok (.istore_n 3, 1) := by decide +kernel
theorem dX0_greatestTally_2 : decode cX0_greatestTally 2 = .ok (.iconst 0, 1) := by decide +kernel
theorem dX0_greatestTally_3 : decode cX0_greatestTally 3 = .ok (.istore 4, 2) := by decide +kernel
theorem dX0_greatestTally_5 : decode cX0_greatestTally 5 = .ok (.iload 4, 2) := by decide +kernel
theorem dX0_greatestTally_7 : decode cX0_greatestTally 7 = .ok (.iconst 1, 1) := by decide +kernel
theorem dX0_greatestTally_8 : decode cX0_greatestTally 8 = .ok (.aload_n 1, 1) := by decide +kernel
theorem dX0_greatestTally_9 : decode cX0_greatestTally 9 = .ok (.getfield 42, 3) := by decide +kernel
theorem dX0_greatestTally_12 : decode cX0_greatestTally 12 = .ok (.ishl, 1) := by decide +kernel
theorem dX0_greatestTally_13 : decode cX0_greatestTally 13 = .ok (.if_icmp .ge 55, 3) := by decide +kernel
theorem dX0_greatestTally_16 : decode cX0_greatestTally 16 = .ok (.iload 4, 2) := by decide +kernel
theorem dX0_greatestTally_18 : decode cX0_greatestTally 18 = .ok (.invokestatic 45, 3) := by decide +kernel
theorem dX0_greatestTally_21 : decode cX0_greatestTally 21 = .ok (.iload_n 2, 1) := by decide +kernel
theorem dX0_greatestTally_22 : decode cX0_greatestTally 22 = .ok (.if_icmp .ne 40, 3) := by decide +kernel
theorem dX0_greatestTally_25 : decode cX0_greatestTally 25 = .ok (.aload_n 0, 1) := by decide +kernel
theorem dX0_greatestTally_26 : decode cX0_greatestTally 26 = .ok (.aload_n 1, 1) := by decide +kernel
theorem dX0_greatestTally_27 : decode cX0_greatestTally 27 = .ok (.iload 4, 2) := by decide +kernel
theorem dX0_greatestTally_29 : decode cX0_greatestTally 29 = .ok (.invokevirtual 61, 3) := by decide +kernel
theorem dX0_greatestTally_32 : decode cX0_greatestTally 32 = .ok (.istore 5, 2) := by decide +kernel
theorem dX0_greatestTally_34 : decode cX0_greatestTally 34 = .ok (.iconst 0, 1) := by decide +kernel
theorem dX0_greatestTally_35 : decode cX0_greatestTally 35 = .ok (.istore 6, 2) := by decide +kernel
theorem dX0_greatestTally_37 : decode cX0_greatestTally 37 = .ok (.iload 6, 2) := by decide +kernel
theorem dX0_greatestTally_39 : decode cX0_greatestTally 39 = .ok (.iload 5, 2) := by decide +kernel
theorem dX0_greatestTally_41 : decode cX0_greatestTally 41 = .ok (.if_icmp .ge 21, 3) := by decide +kernel
theorem dX0_greatestTally_44 : decode cX0_greatestTally 44 = .ok (.iload_n 3, 1) := by decide +kernel
theorem dX0_greatestTally_45 : decode cX0_greatestTally 45 = .ok (.aload_n 0, 1) := by decide +kernel
theorem dX0_greatestTally_46 : decode cX0_greatestTally 46 = .ok (.getfield 9, 3) := by decide +kernel
theorem dX0_greatestTally_49 : decode cX0_greatestTally 49 = .ok (.iload 6, 2) := by decide +kernel
theorem dX0_greatestTally_51 : decode cX0_greatestTally 51 = .ok (.iaload, 1) := by decide +kernel
theorem dX0_greatestTally_52 : decode cX0_greatestTally 52 = .ok (.invokestatic 65, 3) := by decide +kernel
theorem dX0_greatestTally_55 : decode cX0_greatestTally 55 = .ok (.istore_n 3, 1) := by decide +kernel
theorem dX0_greatestTally_56 : decode cX0_greatestTally 56 = .ok (.iinc 6 1, 3) := by decide +kernel
theorem dX0_greatestTally_59 : decode cX0_greatestTally 59 = .ok (.goto (-22), 3) := by decide +kernel
theorem dX0_greatestTally_62 : decode cX0_greatestTally 62 = .ok (.iinc 4 1, 3) := by decide +kernel
theorem dX0_greatestTally_65 : decode cX0_greatestTally 65 = .ok (.goto (-60), 3) := by decide +kernel
theorem dX0_greatestTally_68 : decode cX0_greatestTally 68 = .ok (.iload_n 3, 1) := by decide +kernel
theorem dX0_greatestTally_69 : decode cX0_greatestTally 69 = .ok (.ireturn, 1) := by decide +kernel
theorem dX0_leastTally_0 : decode cX0_leastTally 0 = .ok (.aload_n 1, 1) := by decide +kernel
theorem dX0_leastTally_1 : decode cX0_leastTally 1 = .ok (.getfield 34, 3) := by decide +kernel
theorem dX0_leastTally_4 : decode cX0_leastTally 4 = .ok (.istore_n 3, 1) := by decide +kernel
theorem dX0_leastTally_5 : decode cX0_leastTally 5 = .ok (.iconst 0, 1) := by decide +kernel
theorem dX0_leastTally_6 : decode cX0_leastTally 6 = .ok (.istore 4, 2) := by decide +kernel
theorem dX0_leastTally_8 : decode cX0_leastTally 8 = .ok (.iload 4, 2) := by decide +kernel
theorem dX0_leastTally_10 : decode cX0_leastTally 10 = .ok (.iconst 1, 1) := by decide +kernel
theorem dX0_leastTally_11 : decode cX0_leastTally 11 = .ok (.aload_n 1, 1) := by decide +kernel
theorem dX0_leastTally_12 : decode cX0_leastTally 12 = .ok (.getfield 42, 3) := by decide +kernel
theorem dX0_leastTally_15 : decode cX0_leastTally 15 = .ok (.ishl, 1) := by decide +kernel
theorem dX0_leastTally_16 : decode cX0_leastTally 16 = .ok (.if_icmp .ge 70, 3) := by decide +kernel
theorem dX0_leastTally_19 : decode cX0_leastTally 19 = .ok (.iload 4, 2) := by decide +kernel
theorem dX0_leastTally_21 : decode cX0_leastTally 21 = .ok (.invokestatic 45, 3) := by decide +kernel
theorem dX0_leastTally_24 : decode cX0_leastTally 24 = .ok (.iload_n 2, 1) := by decide +kernel
theorem dX0_leastTally_25 : decode cX0_leastTally 25 = .ok (.if_icmp .ne 55, 3) := by decide +kernel
theorem dX0_leastTally_28 : decode cX0_leastTally 28 = .ok (.aload_n 1, 1) := by decide +kernel
theorem dX0_leastTally_29 : decode cX0_leastTally 29 = .ok (.iload 4, 2) := by decide +kernel
theorem dX0_leastTally_31 : decode cX0_leastTally 31 = .ok (.invokevirtual 24, 3) := by decide +kernel
theorem dX0_leastTally_34 : decode cX0_leastTally 34 = .ok (.aload_n 1, 1) := by decide +kernel
theorem dX0_leastTally_35 : decode cX0_leastTally 35 = .ok (.getfield 34, 3) := by decide +kernel
theorem dX0_leastTally_38 : decode cX0_leastTally 38 = .ok (.if_icmp .le 5, 3) := by decide +kernel
theorem dX0_leastTally_41 : decode cX0_leastTally 41 = .ok (.iconst 0, 1) := by decide +kernel
theorem dX0_leastTally_42 : decode cX0_leastTally 42 = .ok (.ireturn, 1) := by decide +kernel
theorem dX0_leastTally_43 : decode cX0_leastTally 43 = .ok (.aload_n 0, 1) := by decide +kernel
theorem dX0_leastTally_44 : decode cX0_leastTally 44 = .ok (.aload_n 1, 1) := by decide +kernel
theorem dX0_leastTally_45 : decode cX0_leastTally 45 = .ok (.iload 4, 2) := by decide +kernel
theorem dX0_leastTally_47 : decode cX0_leastTally 47 = .ok (.invokevirtual 61, 3) := by decide +kernel
theorem dX0_leastTally_50 : decode cX0_leastTally 50 = .ok (.istore 5, 2) := by decide +kernel
theorem dX0_leastTally_52 : decode cX0_leastTally 52 = .ok (.iconst 0, 1) := by decide +kernel
theorem dX0_leastTally_53 : decode cX0_leastTally 53 = .ok (.istore 6, 2) := by decide +kernel
theorem dX0_leastTally_55 : decode cX0_leastTally 55 = .ok (.iload 6, 2) := by decide +kernel
theorem dX0_leastTally_57 : decode cX0_leastTally 57 = .ok (.iload 5, 2) := by decide +kernel
theorem dX0_leastTally_59 : decode cX0_leastTally 59 = .ok (.if_icmp .ge 21, 3) := by decide +kernel
theorem dX0_leastTally_62 : decode cX0_leastTally 62 = .ok (.iload_n 3, 1) := by decide +kernel
theorem dX0_leastTally_63 : decode cX0_leastTally 63 = .ok (.aload_n 0, 1) := by decide +kernel
theorem dX0_leastTally_64 : decode cX0_leastTally 64 = .ok (.getfield 9, 3) := by decide +kernel
theorem dX0_leastTally_67 : decode cX0_leastTally 67 = .ok (.iload 6, 2) := by decide +kernel
theorem dX0_leastTally_69 : decode cX0_leastTally 69 = .ok (.iaload, 1) := by decide +kernel
theorem dX0_leastTally_70 : decode cX0_leastTally 70 = .ok (.invokestatic 70, 3) := by decide +kernel
theorem dX0_leastTally_73 : decode cX0_leastTally 73 = .ok (.istore_n 3, 1) := by decide +kernel
theorem dX0_leastTally_74 : decode cX0_leastTally 74 = .ok (.iinc 6 1, 3) := by decide +kernel
theorem dX0_leastTally_77 : decode cX0_leastTally 77 = .ok (.goto (-22), 3) := by decide +kernel
theorem dX0_leastTally_80 : decode cX0_leastTally 80 = .ok (.iinc 4 1, 3) := by decide +kernel
theorem dX0_leastTally_83 : decode cX0_leastTally 83 = .ok (.goto (-75), 3) := by decide +kernel
theorem dX0_leastTally_86 : decode cX0_leastTally 86 = .ok (.iload_n 3, 1) := by decide +kernel
theorem dX0_leastTally_87 : decode cX0_leastTally 87 = .ok (.ireturn, 1) := by decide +kernel
theorem dX0_tally_0 : decode cX0_tally 0 = .ok (.aload_n 1, 1) := by decide +kernel
theorem dX0_tally_1 : decode cX0_tally 1 = .ok (.iload_n 2, 1) := by decide +kernel
theorem dX0_tally_2 : decode cX0_tally 2 = .ok (.invokevirtual 24, 3) := by decide +kernel
theorem dX0_tally_5 : decode cX0_tally 5 = .ok (.istore_n 3, 1) := by decide +kernel
theorem dX0_tally_6 : decode cX0_tally 6 = .ok (.iload_n 3, 1) := by decide +kernel
theorem dX0_tally_7 : decode cX0_tally 7 = .ok (.bipush 36, 2) := by decide +kernel
theorem dX0_tally_9 : decode cX0_tally 9 = .ok (.if_icmp .le 10, 3) := by decide +kernel
theorem dX0_tally_12 : decode cX0_tally 12 = .ok (.aload_n 0, 1) := by decide +kernel
theorem dX0_tally_13 : decode cX0_tally 13 = .ok (.aload_n 1, 1) := by decide +kernel
theorem dX0_tally_14 : decode cX0_tally 14 = .ok (.iload_n 2, 1) := by decide +kernel
theorem dX0_tally_15 : decode cX0_tally 15 = .ok (.invokevirtual 73, 3) := by decide +kernel
theorem dX0_tally_18 : decode cX0_tally 18 = .ok (.ireturn, 1) := by decide +kernel
theorem dX0_tally_19 : decode cX0_tally 19 = .ok (.aload_n 0, 1) := by decide +kernel
theorem dX0_tally_20 : decode cX0_tally 20 = .ok (.iload_n 3, 1) := by decide +kernel
theorem dX0_tally_21 : decode cX0_tally 21 = .ok (.invokevirtual 30, 3) := by decide +kernel
theorem dX0_tally_24 : decode cX0_tally 24 = .ok (.iconst 0, 1) := by decide +kernel
theorem dX0_tally_25 : decode cX0_tally 25 = .ok (.istore 4, 2) := by decide +kernel
theorem dX0_tally_27 : decode cX0_tally 27 = .ok (.iload 4, 2) := by decide +kernel
theorem dX0_tally_29 : decode cX0_tally 29 = .ok (.aload_n 1, 1) := by decide +kernel
theorem dX0_tally_30 : decode cX0_tally 30 = .ok (.getfield 34, 3) := by decide +kernel
theorem dX0_tally_33 : decode cX0_tally 33 = .ok (.if_icmp .ge 25, 3) := by decide +kernel
theorem dX0_tally_36 : decode cX0_tally 36 = .ok (.aload_n 0, 1) := by decide +kernel
theorem dX0_tally_37 : decode cX0_tally 37 = .ok (.getfield 9, 3) := by decide +kernel
theorem dX0_tally_40 : decode cX0_tally 40 = .ok (.aload_n 1, 1) := by decide +kernel
theorem dX0_tally_41 : decode cX0_tally 41 = .ok (.iload 4, 2) := by decide +kernel
theorem dX0_tally_43 : decode cX0_tally 43 = .ok (.iload_n 2, 1) := by decide +kernel
theorem dX0_tally_44 : decode cX0_tally 44 = .ok (.invokevirtual 38, 3) := by decide +kernel
theorem dX0_tally_47 : decode cX0_tally 47 = .ok (.dup2, 1) := by decide +kernel
theorem dX0_tally_48 : decode cX0_tally 48 = .ok (.iaload, 1) := by decide +kernel
theorem dX0_tally_49 : decode cX0_tally 49 = .ok (.iconst 1, 1) := by decide +kernel
theorem dX0_tally_50 : decode cX0_tally 50 = .ok (.iadd, 1) := by decide +kernel
theorem dX0_tally_51 : decode cX0_tally 51 = .ok (.iastore, 1) := by decide +kernel
theorem dX0_tally_52 : decode cX0_tally 52 = .ok (.iinc 4 1, 3) := by decide +kernel
theorem dX0_tally_55 : decode cX0_tally 55 = .ok (.goto (-28), 3) := by decide +kernel
theorem dX0_tally_58 : decode cX0_tally 58 = .ok (.iload_n 3, 1) := by decide +kernel
theorem dX0_tally_59 : decode cX0_tally 59 = .ok (.ireturn, 1) := by decide +kernel
theorem dX0_tallyOccurring_0 : decode cX0_tallyOccurring 0 = .ok (.iconst 0, 1) := by decide +kernel
theorem dX0_tallyOccurring_1 : decode cX0_tallyOccurring 1 = .ok (.istore_n 3, 1) := by decide +kernel
theorem dX0_tallyOccurring_2 : decode cX0_tallyOccurring 2 = .ok (.iconst 0, 1) := by decide +kernel
theorem dX0_tallyOccurring_3 : decode cX0_tallyOccurring 3 = .ok (.istore 4, 2) := by decide +kernel
theorem dX0_tallyOccurring_5 : decode cX0_tallyOccurring 5 = .ok (.iload 4, 2) := by decide +kernel
theorem dX0_tallyOccurring_7 : decode cX0_tallyOccurring 7 = .ok (.aload_n 1, 1) := by decide +kernel
theorem dX0_tallyOccurring_8 : decode cX0_tallyOccurring 8 = .ok (.getfield 34, 3) := by decide +kernel
theorem dX0_tallyOccurring_11 : decode cX0_tallyOccurring 11 = .ok (.if_icmp .ge 82, 3) := by decide +kernel
theorem dX0_tallyOccurring_14 : decode cX0_tallyOccurring 14 = .ok (.aload_n 1, 1) := by decide +kernel
theorem dX0_tallyOccurring_15 : decode cX0_tallyOccurring 15 = .ok (.iload 4, 2) := by decide +kernel
theorem dX0_tallyOccurring_17 : decode cX0_tallyOccurring 17 = .ok (.iload_n 2, 1) := by decide +kernel
theorem dX0_tallyOccurring_18 : decode cX0_tallyOccurring 18 = .ok (.invokevirtual 38, 3) := by decide +kernel
theorem dX0_tallyOccurring_21 : decode cX0_tallyOccurring 21 = .ok (.istore 5, 2) := by decide +kernel
theorem dX0_tallyOccurring_23 : decode cX0_tallyOccurring 23 = .ok (.iconst 0, 1) := by decide +kernel
theorem dX0_tallyOccurring_24 : decode cX0_tallyOccurring 24 = .ok (.istore 6, 2) := by decide +kernel
theorem dX0_tallyOccurring_26 : decode cX0_tallyOccurring 26 = .ok (.iload 6, 2) := by decide +kernel
theorem dX0_tallyOccurring_28 : decode cX0_tallyOccurring 28 = .ok (.iload_n 3, 1) := by decide +kernel
theorem dX0_tallyOccurring_29 : decode cX0_tallyOccurring 29 = .ok (.if_icmp .ge 21, 3) := by decide +kernel
theorem dX0_tallyOccurring_32 : decode cX0_tallyOccurring 32 = .ok (.aload_n 0, 1) := by decide +kernel
theorem dX0_tallyOccurring_33 : decode cX0_tallyOccurring 33 = .ok (.getfield 15, 3) := by decide +kernel
theorem dX0_tallyOccurring_36 : decode cX0_tallyOccurring 36 = .ok (.iload 6, 2) := by decide +kernel
theorem dX0_tallyOccurring_38 : decode cX0_tallyOccurring 38 = .ok (.iaload, 1) := by decide +kernel
theorem dX0_tallyOccurring_39 : decode cX0_tallyOccurring 39 = .ok (.iload 5, 2) := by decide +kernel
theorem dX0_tallyOccurring_41 : decode cX0_tallyOccurring 41 = .ok (.if_icmp .eq 9, 3) := by decide +kernel
theorem dX0_tallyOccurring_44 : decode cX0_tallyOccurring 44 = .ok (.iinc 6 1, 3) := by decide +kernel
theorem dX0_tallyOccurring_47 : decode cX0_tallyOccurring 47 = .ok (.goto (-21), 3) := by decide +kernel
theorem dX0_tallyOccurring_50 : decode cX0_tallyOccurring 50 = .ok (.iload 6, 2) := by decide +kernel
theorem dX0_tallyOccurring_52 : decode cX0_tallyOccurring 52 = .ok (.iload_n 3, 1) := by decide +kernel
theorem dX0_tallyOccurring_53 : decode cX0_tallyOccurring 53 = .ok (.if_icmp .ne 23, 3) := by decide +kernel
theorem dX0_tallyOccurring_56 : decode cX0_tallyOccurring 56 = .ok (.aload_n 0, 1) := by decide +kernel
theorem dX0_tallyOccurring_57 : decode cX0_tallyOccurring 57 = .ok (.getfield 15, 3) := by decide +kernel
theorem dX0_tallyOccurring_60 : decode cX0_tallyOccurring 60 = .ok (.iload 6, 2) := by decide +kernel
theorem dX0_tallyOccurring_62 : decode cX0_tallyOccurring 62 = .ok (.iload 5, 2) := by decide +kernel
theorem dX0_tallyOccurring_64 : decode cX0_tallyOccurring 64 = .ok (.iastore, 1) := by decide +kernel
theorem dX0_tallyOccurring_65 : decode cX0_tallyOccurring 65 = .ok (.aload_n 0, 1) := by decide +kernel
theorem dX0_tallyOccurring_66 : decode cX0_tallyOccurring 66 = .ok (.getfield 9, 3) := by decide +kernel
theorem dX0_tallyOccurring_69 : decode cX0_tallyOccurring 69 = .ok (.iload 6, 2) := by decide +kernel
theorem dX0_tallyOccurring_71 : decode cX0_tallyOccurring 71 = .ok (.iconst 0, 1) := by decide +kernel
theorem dX0_tallyOccurring_72 : decode cX0_tallyOccurring 72 = .ok (.iastore, 1) := by decide +kernel
theorem dX0_tallyOccurring_73 : decode cX0_tallyOccurring 73 = .ok (.iinc 3 1, 3) := by decide +kernel
theorem dX0_tallyOccurring_76 : decode cX0_tallyOccurring 76 = .ok (.aload_n 0, 1) := by decide +kernel
theorem dX0_tallyOccurring_77 : decode cX0_tallyOccurring 77 = .ok (.getfield 9, 3) := by decide +kernel
theorem dX0_tallyOccurring_80 : decode cX0_tallyOccurring 80 = .ok (.iload 6, 2) := by decide +kernel
theorem dX0_tallyOccurring_82 : decode cX0_tallyOccurring 82 = .ok (.dup2, 1) := by decide +kernel
theorem dX0_tallyOccurring_83 : decode cX0_tallyOccurring 83 = .ok (.iaload, 1) := by decide +kernel
theorem dX0_tallyOccurring_84 : decode cX0_tallyOccurring 84 = .ok (.iconst 1, 1) := by decide +kernel
theorem dX0_tallyOccurring_85 : decode cX0_tallyOccurring 85 = .ok (.iadd, 1) := by decide +kernel
theorem dX0_tallyOccurring_86 : decode cX0_tallyOccurring 86 = .ok (.iastore, 1) := by decide +kernel
theorem dX0_tallyOccurring_87 : decode cX0_tallyOccurring 87 = .ok (.iinc 4 1, 3) := by decide +kernel
theorem dX0_tallyOccurring_90 : decode cX0_tallyOccurring 90 = .ok (.goto (-85), 3) := by decide +kernel
theorem dX0_tallyOccurring_93 : decode cX0_tallyOccurring 93 = .ok (.iload_n 3, 1) := by decide +kernel
theorem dX0_tallyOccurring_94 : decode cX0_tallyOccurring 94 = .ok (.ireturn, 1) := by decide +kernel
theorem dX0_sparedRows_0 : decode cX0_sparedRows 0 = .ok (.aload_n 1, 1) := by decide +kernel
theorem dX0_sparedRows_1 : decode cX0_sparedRows 1 = .ok (.invokevirtual 53, 3) := by decide +kernel
theorem dX0_sparedRows_4 : decode cX0_sparedRows 4 = .ok (.l2i, 1) := by decide +kernel
theorem dX0_sparedRows_5 : decode cX0_sparedRows 5 = .ok (.istore_n 3, 1) := by decide +kernel
theorem dX0_sparedRows_6 : decode cX0_sparedRows 6 = .ok (.aload_n 0, 1) := by decide +kernel
theorem dX0_sparedRows_7 : decode cX0_sparedRows 7 = .ok (.aload_n 1, 1) := by decide +kernel
theorem dX0_sparedRows_8 : decode cX0_sparedRows 8 = .ok (.iload_n 2, 1) := by decide +kernel
theorem dX0_sparedRows_9 : decode cX0_sparedRows 9 = .ok (.iload_n 3, 1) := by decide +kernel
theorem dX0_sparedRows_10 : decode cX0_sparedRows 10 = .ok (.i2l, 1) := by decide +kernel
theorem dX0_sparedRows_11 : decode cX0_sparedRows 11 = .ok (.invokevirtual 57, 3) := by decide +kernel
theorem dX0_sparedRows_14 : decode cX0_sparedRows 14 = .ok (.bipush (-9), 2) := by decide +kernel
theorem dX0_sparedRows_16 : decode cX0_sparedRows 16 = .ok (.if_icmp .eq 6, 3) := by decide +kernel
theorem dX0_sparedRows_19 : decode cX0_sparedRows 19 = .ok (.bipush (-9), 2) := by decide +kernel
theorem dX0_sparedRows_21 : decode cX0_sparedRows 21 = .ok (.ireturn, 1) := by decide +kernel
theorem dX0_sparedRows_22 : decode cX0_sparedRows 22 = .ok (.iconst 0, 1) := by decide +kernel
theorem dX0_sparedRows_23 : decode cX0_sparedRows 23 = .ok (.istore 4, 2) := by decide +kernel
theorem dX0_sparedRows_25 : decode cX0_sparedRows 25 = .ok (.iconst 0, 1) := by decide +kernel
theorem dX0_sparedRows_26 : decode cX0_sparedRows 26 = .ok (.istore 5, 2) := by decide +kernel
theorem dX0_sparedRows_28 : decode cX0_sparedRows 28 = .ok (.iconst 1, 1) := by decide +kernel
theorem dX0_sparedRows_29 : decode cX0_sparedRows 29 = .ok (.istore 6, 2) := by decide +kernel
theorem dX0_sparedRows_31 : decode cX0_sparedRows 31 = .ok (.iload 6, 2) := by decide +kernel
theorem dX0_sparedRows_33 : decode cX0_sparedRows 33 = .ok (.iload_n 3, 1) := by decide +kernel
theorem dX0_sparedRows_34 : decode cX0_sparedRows 34 = .ok (.if_icmp .ge 49, 3) := by decide +kernel
theorem dX0_sparedRows_37 : decode cX0_sparedRows 37 = .ok (.iload 6, 2) := by decide +kernel
theorem dX0_sparedRows_39 : decode cX0_sparedRows 39 = .ok (.invokestatic 45, 3) := by decide +kernel
theorem dX0_sparedRows_42 : decode cX0_sparedRows 42 = .ok (.istore 7, 2) := by decide +kernel
theorem dX0_sparedRows_44 : decode cX0_sparedRows 44 = .ok (.iload 7, 2) := by decide +kernel
theorem dX0_sparedRows_46 : decode cX0_sparedRows 46 = .ok (.iload 5, 2) := by decide +kernel
theorem dX0_sparedRows_48 : decode cX0_sparedRows 48 = .ok (.if_icmp .le 29, 3) := by decide +kernel
theorem dX0_sparedRows_51 : decode cX0_sparedRows 51 = .ok (.aload_n 0, 1) := by decide +kernel
theorem dX0_sparedRows_52 : decode cX0_sparedRows 52 = .ok (.aload_n 1, 1) := by decide +kernel
theorem dX0_sparedRows_53 : decode cX0_sparedRows 53 = .ok (.iload_n 2, 1) := by decide +kernel
theorem dX0_sparedRows_54 : decode cX0_sparedRows 54 = .ok (.iload_n 3, 1) := by decide +kernel
theorem dX0_sparedRows_55 : decode cX0_sparedRows 55 = .ok (.iload 6, 2) := by decide +kernel
theorem dX0_sparedRows_57 : decode cX0_sparedRows 57 = .ok (.iconst (-1), 1) := by decide +kernel
theorem dX0_sparedRows_58 : decode cX0_sparedRows 58 = .ok (.ixor, 1) := by decide +kernel
theorem dX0_sparedRows_59 : decode cX0_sparedRows 59 = .ok (.iand, 1) := by decide +kernel
theorem dX0_sparedRows_60 : decode cX0_sparedRows 60 = .ok (.i2l, 1) := by decide +kernel
theorem dX0_sparedRows_61 : decode cX0_sparedRows 61 = .ok (.invokevirtual 57, 3) := by decide +kernel
theorem dX0_sparedRows_64 : decode cX0_sparedRows 64 = .ok (.bipush (-9), 2) := by decide +kernel
theorem dX0_sparedRows_66 : decode cX0_sparedRows 66 = .ok (.if_icmp .ne 11, 3) := by decide +kernel
theorem dX0_sparedRows_69 : decode cX0_sparedRows 69 = .ok (.iload 6, 2) := by decide +kernel
theorem dX0_sparedRows_71 : decode cX0_sparedRows 71 = .ok (.istore 4, 2) := by decide +kernel
theorem dX0_sparedRows_73 : decode cX0_sparedRows 73 = .ok (.iload 7, 2) := by decide +kernel
theorem dX0_sparedRows_75 : decode cX0_sparedRows 75 = .ok (.istore 5, 2) := by decide +kernel
theorem dX0_sparedRows_77 : decode cX0_sparedRows 77 = .ok (.iinc 6 1, 3) := by decide +kernel
theorem dX0_sparedRows_80 : decode cX0_sparedRows 80 = .ok (.goto (-49), 3) := by decide +kernel
theorem dX0_sparedRows_83 : decode cX0_sparedRows 83 = .ok (.iload 4, 2) := by decide +kernel
theorem dX0_sparedRows_85 : decode cX0_sparedRows 85 = .ok (.ireturn, 1) := by decide +kernel
theorem dX1_init_0 : decode cX1_init 0 = .ok (.aload_n 0, 1) := by decide +kernel
theorem dX1_init_1 : decode cX1_init 1 = .ok (.invokespecial 3, 3) := by decide +kernel
theorem dX1_init_4 : decode cX1_init 4 = .ok (.aload_n 0, 1) := by decide +kernel
theorem dX1_init_5 : decode cX1_init 5 = .ok (.bipush 16, 2) := by decide +kernel
theorem dX1_init_7 : decode cX1_init 7 = .ok (.newarray .int, 2) := by decide +kernel
theorem dX1_init_9 : decode cX1_init 9 = .ok (.putfield 9, 3) := by decide +kernel
theorem dX1_init_12 : decode cX1_init 12 = .ok (.aload_n 0, 1) := by decide +kernel
theorem dX1_init_13 : decode cX1_init 13 = .ok (.new 15, 3) := by decide +kernel
theorem dX1_init_16 : decode cX1_init 16 = .ok (.dup, 1) := by decide +kernel
theorem dX1_init_17 : decode cX1_init 17 = .ok (.invokespecial 17, 3) := by decide +kernel
theorem dX1_init_20 : decode cX1_init 20 = .ok (.putfield 18, 3) := by decide +kernel
theorem dX1_init_23 : decode cX1_init 23 = .ok (.aload_n 0, 1) := by decide +kernel
theorem dX1_init_24 : decode cX1_init 24 = .ok (.iconst 0, 1) := by decide +kernel
theorem dX1_init_25 : decode cX1_init 25 = .ok (.putfield 22, 3) := by decide +kernel
theorem dX1_init_28 : decode cX1_init 28 = .ok (.aload_n 0, 1) := by decide +kernel
theorem dX1_init_29 : decode cX1_init 29 = .ok (.bipush 16, 2) := by decide +kernel
theorem dX1_init_31 : decode cX1_init 31 = .ok (.newarray .int, 2) := by decide +kernel
theorem dX1_init_33 : decode cX1_init 33 = .ok (.putfield 26, 3) := by decide +kernel
theorem dX1_init_36 : decode cX1_init 36 = .ok (.aload_n 0, 1) := by decide +kernel
theorem dX1_init_37 : decode cX1_init 37 = .ok (.bipush 42, 2) := by decide +kernel
theorem dX1_init_39 : decode cX1_init 39 = .ok (.bipush 6, 2) := by decide +kernel
theorem dX1_init_41 : decode cX1_init 41 = .ok (.multianewarray 29 2, 4) := by decide +kernel
theorem dX1_init_45 : decode cX1_init 45 = .ok (.putfield 31, 3) := by decide +kernel
theorem dX1_init_48 : decode cX1_init 48 = .ok (.aload_n 0, 1) := by decide +kernel
theorem dX1_init_49 : decode cX1_init 49 = .ok (.bipush 6, 2) := by decide +kernel
theorem dX1_init_51 : decode cX1_init 51 = .ok (.newarray .int, 2) := by decide +kernel
theorem dX1_init_53 : decode cX1_init 53 = .ok (.putfield 34, 3) := by decide +kernel
theorem dX1_init_56 : decode cX1_init 56 = .ok (.return_, 1) := by decide +kernel
theorem dX1_find_0 : decode cX1_find 0 = .ok (.aload_n 0, 1) := by decide +kernel
theorem dX1_find_1 : decode cX1_find 1 = .ok (.aload_n 1, 1) := by decide +kernel
theorem dX1_find_2 : decode cX1_find 2 = .ok (.putfield 18, 3) := by decide +kernel
theorem dX1_find_5 : decode cX1_find 5 = .ok (.aload_n 0, 1) := by decide +kernel
theorem dX1_find_6 : decode cX1_find 6 = .ok (.iload_n 2, 1) := by decide +kernel
theorem dX1_find_7 : decode cX1_find 7 = .ok (.putfield 22, 3) := by decide +kernel
theorem dX1_find_10 : decode cX1_find 10 = .ok (.aload_n 0, 1) := by decide +kernel
theorem dX1_find_11 : decode cX1_find 11 = .ok (.invokevirtual 37, 3) := by decide +kernel
theorem dX1_find_14 : decode cX1_find 14 = .ok (.ifCond .ne 5, 3) := by decide +kernel
theorem dX1_find_17 : decode cX1_find 17 = .ok (.iconst 0, 1) := by decide +kernel
theorem dX1_find_18 : decode cX1_find 18 = .ok (.ireturn, 1) := by decide +kernel
theorem dX1_find_19 : decode cX1_find 19 = .ok (.iconst 0, 1) := by decide +kernel
theorem dX1_find_20 : decode cX1_find 20 = .ok (.istore_n 3, 1) := by decide +kernel
theorem dX1_find_21 : decode cX1_find 21 = .ok (.iload_n 3, 1) := by decide +kernel
theorem dX1_find_22 : decode cX1_find 22 = .ok (.aload_n 0, 1) := by decide +kernel
theorem dX1_find_23 : decode cX1_find 23 = .ok (.getfield 18, 3) := by decide +kernel
theorem dX1_find_26 : decode cX1_find 26 = .ok (.getfield 41, 3) := by decide +kernel
theorem dX1_find_29 : decode cX1_find 29 = .ok (.if_icmp .ge 20, 3) := by decide +kernel
theorem dX1_find_32 : decode cX1_find 32 = .ok (.aload_n 0, 1) := by decide +kernel
theorem dX1_find_33 : decode cX1_find 33 = .ok (.getfield 26, 3) := by decide +kernel
theorem dX1_find_36 : decode cX1_find 36 = .ok (.iload_n 3, 1) := by decide +kernel
theorem dX1_find_37 : decode cX1_find 37 = .ok (.aload_n 0, 1) := by decide +kernel
theorem dX1_find_38 : decode cX1_find 38 = .ok (.iload_n 3, 1) := by decide +kernel
theorem dX1_find_39 : decode cX1_find 39 = .ok (.invokevirtual 44, 3) := by decide +kernel
theorem dX1_find_42 : decode cX1_find 42 = .ok (.iastore, 1) := by decide +kernel
theorem dX1_find_43 : decode cX1_find 43 = .ok (.iinc 3 1, 3) := by decide +kernel
theorem dX1_find_46 : decode cX1_find 46 = .ok (.goto (-25), 3) := by decide +kernel
theorem dX1_find_49 : decode cX1_find 49 = .ok (.aload_n 0, 1) := by decide +kernel
theorem dX1_find_50 : decode cX1_find 50 = .ok (.iconst 0, 1) := by decide +kernel
theorem dX1_find_51 : decode cX1_find 51 = .ok (.iconst 0, 1) := by decide +kernel
theorem dX1_find_52 : decode cX1_find 52 = .ok (.invokevirtual 48, 3) := by decide +kernel
theorem dX1_find_55 : decode cX1_find 55 = .ok (.ireturn, 1) := by decide +kernel
theorem dX1_canBalance_0 : decode cX1_canBalance 0 = .ok (.aload_n 0, 1) := by decide +kernel
theorem dX1_canBalance_1 : decode cX1_canBalance 1 = .ok (.getfield 18, 3) := by decide +kernel
theorem dX1_canBalance_4 : decode cX1_canBalance 4 = .ok (.getfield 41, 3) := by decide +kernel
theorem dX1_canBalance_7 : decode cX1_canBalance 7 = .ok (.aload_n 0, 1) := by decide +kernel
theorem dX1_canBalance_8 : decode cX1_canBalance 8 = .ok (.getfield 22, 3) := by decide +kernel
theorem dX1_canBalance_11 : decode cX1_canBalance 11 = .ok (.irem, 1) := by decide +kernel
theorem dX1_canBalance_12 : decode cX1_canBalance 12 = .ok (.ifCond .eq 5, 3) := by decide +kernel
theorem dX1_canBalance_15 : decode cX1_canBalance 15 = .ok (.iconst 0, 1) := by decide +kernel
theorem dX1_canBalance_16 : decode cX1_canBalance 16 = .ok (.ireturn, 1) := by decide +kernel
theorem dX1_canBalance_17 : decode cX1_canBalance 17 = .ok (.iconst 0, 1) := by decide +kernel
theorem dX1_canBalance_18 : decode cX1_canBalance 18 = .ok (.istore_n 1, 1) := by decide +kernel
theorem dX1_canBalance_19 : decode cX1_canBalance 19 = .ok (.iload_n 1, 1) := by decide +kernel
theorem dX1_canBalance_20 : decode cX1_canBalance 20 = .ok (.aload_n 0, 1) := by decide +kernel
theorem dX1_canBalance_21 : decode cX1_canBalance 21 = .ok (.getfield 22, 3) := by decide +kernel
theorem dX1_canBalance_24 : decode cX1_canBalance 24 = .ok (.if_icmp .ge 27, 3) := by decide +kernel
theorem dX1_canBalance_27 : decode cX1_canBalance 27 = .ok (.aload_n 0, 1) := by decide +kernel
theorem dX1_canBalance_28 : decode cX1_canBalance 28 = .ok (.getfield 34, 3) := by decide +kernel
theorem dX1_canBalance_31 : decode cX1_canBalance 31 = .ok (.iload_n 1, 1) := by decide +kernel
theorem dX1_canBalance_32 : decode cX1_canBalance 32 = .ok (.aload_n 0, 1) := by decide +kernel
theorem dX1_canBalance_33 : decode cX1_canBalance 33 = .ok (.getfield 18, 3) := by decide +kernel
theorem dX1_canBalance_36 : decode cX1_canBalance 36 = .ok (.getfield 41, 3) := by decide +kernel
theorem dX1_canBalance_39 : decode cX1_canBalance 39 = .ok (.aload_n 0, 1) := by decide +kernel
theorem dX1_canBalance_40 : decode cX1_canBalance 40 = .ok (.getfield 22, 3) := by decide +kernel
theorem dX1_canBalance_43 : decode cX1_canBalance 43 = .ok (.idiv, 1) := by decide +kernel
theorem dX1_canBalance_44 : decode cX1_canBalance 44 = .ok (.iastore, 1) := by decide +kernel
theorem dX1_canBalance_45 : decode cX1_canBalance 45 = .ok (.iinc 1 1, 3) := by decide +kernel
theorem dX1_canBalance_48 : decode cX1_canBalance 48 = .ok (.goto (-29), 3) := by decide +kernel
theorem dX1_canBalance_51 : decode cX1_canBalance 51 = .ok (.iconst 0, 1) := by decide +kernel
theorem dX1_canBalance_52 : decode cX1_canBalance 52 = .ok (.istore_n 1, 1) := by decide +kernel
theorem dX1_canBalance_53 : decode cX1_canBalance 53 = .ok (.iload_n 1, 1) := by decide +kernel
theorem dX1_canBalance_54 : decode cX1_canBalance 54 = .ok (.aload_n 0, 1) := by decide +kernel
theorem dX1_canBalance_55 : decode cX1_canBalance 55 = .ok (.getfield 18, 3) := by decide +kernel
theorem dX1_canBalance_58 : decode cX1_canBalance 58 = .ok (.getfield 52, 3) := by decide +kernel
theorem dX1_canBalance_61 : decode cX1_canBalance 61 = .ok (.if_icmp .ge 108, 3) := by decide +kernel
theorem dX1_canBalance_64 : decode cX1_canBalance 64 = .ok (.aload_n 0, 1) := by decide +kernel
theorem dX1_canBalance_65 : decode cX1_canBalance 65 = .ok (.getfield 18, 3) := by decide +kernel
theorem dX1_canBalance_68 : decode cX1_canBalance 68 = .ok (.getfield 55, 3) := by decide +kernel
theorem dX1_canBalance_71 : decode cX1_canBalance 71 = .ok (.iload_n 1, 1) := by decide +kernel
theorem dX1_canBalance_72 : decode cX1_canBalance 72 = .ok (.iaload, 1) := by decide +kernel
theorem dX1_canBalance_73 : decode cX1_canBalance 73 = .ok (.aload_n 0, 1) := by decide +kernel
theorem dX1_canBalance_74 : decode cX1_canBalance 74 = .ok (.getfield 22, 3) := by decide +kernel
theorem dX1_canBalance_77 : decode cX1_canBalance 77 = .ok (.imul, 1) := by decide +kernel
theorem dX1_canBalance_78 : decode cX1_canBalance 78 = .ok (.istore_n 2, 1) := by decide +kernel
theorem dX1_canBalance_79 : decode cX1_canBalance 79 = .ok (.aload_n 0, 1) := by decide +kernel
theorem dX1_canBalance_80 : decode cX1_canBalance 80 = .ok (.getfield 18, 3) := by decide +kernel
theorem dX1_canBalance_83 : decode cX1_canBalance 83 = .ok (.getfield 41, 3) := by decide +kernel
theorem dX1_canBalance_86 : decode cX1_canBalance 86 = .ok (.iload_n 2, 1) := by decide +kernel
theorem dX1_canBalance_87 : decode cX1_canBalance 87 = .ok (.irem, 1) := by decide +kernel
theorem dX1_canBalance_88 : decode cX1_canBalance 88 = .ok (.ifCond .ne 11, 3) := by decide +kernel
theorem dX1_canBalance_91 : decode cX1_canBalance 91 = .ok (.aload_n 0, 1) := by decide +kernel
theorem dX1_canBalance_92 : decode cX1_canBalance 92 = .ok (.iload_n 1, 1) := by decide +kernel
theorem dX1_canBalance_93 : decode cX1_canBalance 93 = .ok (.invokevirtual 58, 3) := by decide +kernel
theorem dX1_canBalance_96 : decode cX1_canBalance 96 = .ok (.ifCond .ne 5, 3) := by decide +kernel
theorem dX1_canBalance_99 : decode cX1_canBalance 99 = .ok (.iconst 0, 1) := by decide +kernel
theorem dX1_canBalance_100 : decode cX1_canBalance 100 = .ok (.ireturn, 1) := by decide +kernel
theorem dX1_canBalance_101 : decode cX1_canBalance 101 = .ok (.iconst 0, 1) := by decide +kernel
theorem dX1_canBalance_102 : decode cX1_canBalance 102 = .ok (.istore_n 3, 1) := by decide +kernel
theorem dX1_canBalance_103 : decode cX1_canBalance 103 = .ok (.iload_n 3, 1) := by decide +kernel
theorem dX1_canBalance_104 : decode cX1_canBalance 104 = .ok (.aload_n 0, 1) := by decide +kernel
theorem dX1_canBalance_105 : decode cX1_canBalance 105 = .ok (.getfield 18, 3) := by decide +kernel
theorem dX1_canBalance_108 : decode cX1_canBalance 108 = .ok (.getfield 55, 3) := by decide +kernel
theorem dX1_canBalance_111 : decode cX1_canBalance 111 = .ok (.iload_n 1, 1) := by decide +kernel
theorem dX1_canBalance_112 : decode cX1_canBalance 112 = .ok (.iaload, 1) := by decide +kernel
theorem dX1_canBalance_113 : decode cX1_canBalance 113 = .ok (.if_icmp .ge 50, 3) := by decide +kernel
theorem dX1_canBalance_116 : decode cX1_canBalance 116 = .ok (.iconst 0, 1) := by decide +kernel
theorem dX1_canBalance_117 : decode cX1_canBalance 117 = .ok (.istore 4, 2) := by decide +kernel
theorem dX1_canBalance_119 : decode cX1_canBalance 119 = .ok (.iload 4, 2) := by decide +kernel
theorem dX1_canBalance_121 : decode cX1_canBalance 121 = .ok (.aload_n 0, 1) := by decide +kernel
theorem dX1_canBalance_122 : decode cX1_canBalance 122 = .ok (.getfield 22, 3) := by decide +kernel
theorem dX1_canBalance_125 : decode cX1_canBalance 125 = .ok (.if_icmp .ge 32, 3) := by decide +kernel
theorem dX1_canBalance_128 : decode cX1_canBalance 128 = .ok (.aload_n 0, 1) := by decide +kernel
theorem dX1_canBalance_129 : decode cX1_canBalance 129 = .ok (.getfield 31, 3) := by decide +kernel
theorem dX1_canBalance_132 : decode cX1_canBalance 132 = .ok (.iload_n 1, 1) := by decide +kernel
theorem dX1_canBalance_133 : decode cX1_canBalance 133 = .ok (.bipush 6, 2) := by decide +kernel
theorem dX1_canBalance_135 : decode cX1_canBalance 135 = .ok (.imul, 1) := by decide +kernel
theorem dX1_canBalance_136 : decode cX1_canBalance 136 = .ok (.iload_n 3, 1) := by decide +kernel
theorem dX1_canBalance_137 : decode cX1_canBalance 137 = .ok (.iadd, 1) := by decide +kernel
theorem dX1_canBalance_138 : decode cX1_canBalance 138 = .ok (.aaload, 1) := by decide +kernel
theorem dX1_canBalance_139 : decode cX1_canBalance 139 = .ok (.iload 4, 2) := by decide +kernel
theorem dX1_canBalance_141 : decode cX1_canBalance 141 = .ok (.aload_n 0, 1) := by decide +kernel
theorem dX1_canBalance_142 : decode cX1_canBalance 142 = .ok (.getfield 18, 3) := by decide +kernel
theorem dX1_canBalance_145 : decode cX1_canBalance 145 = .ok (.getfield 41, 3) := by decide +kernel
theorem dX1_canBalance_148 : decode cX1_canBalance 148 = .ok (.iload_n 2, 1) := by decide +kernel
theorem dX1_canBalance_149 : decode cX1_canBalance 149 = .ok (.idiv, 1) := by decide +kernel
theorem dX1_canBalance_150 : decode cX1_canBalance 150 = .ok (.iastore, 1) := by decide +kernel
theorem dX1_canBalance_151 : decode cX1_canBalance 151 = .ok (.iinc 4 1, 3) := by decide +kernel
theorem dX1_canBalance_154 : decode cX1_canBalance 154 = .ok (.goto (-35), 3) := by decide +kernel
theorem dX1_canBalance_157 : decode cX1_canBalance 157 = .ok (.iinc 3 1, 3) := by decide +kernel
theorem dX1_canBalance_160 : decode cX1_canBalance 160 = .ok (.goto (-57), 3) := by decide +kernel
theorem dX1_canBalance_163 : decode cX1_canBalance 163 = .ok (.iinc 1 1, 3) := by decide +kernel
theorem dX1_canBalance_166 : decode cX1_canBalance 166 = .ok (.goto (-113), 3) := by decide +kernel
theorem dX1_canBalance_169 : decode cX1_canBalance 169 = .ok (.iconst 1, 1) := by decide +kernel
theorem dX1_canBalance_170 : decode cX1_canBalance 170 = .ok (.ireturn, 1) := by decide +kernel
theorem dX1_isEven_0 : decode cX1_isEven 0 = .ok (.iconst 0, 1) := by decide +kernel
theorem dX1_isEven_1 : decode cX1_isEven 1 = .ok (.istore_n 2, 1) := by decide +kernel
theorem dX1_isEven_2 : decode cX1_isEven 2 = .ok (.iload_n 2, 1) := by decide +kernel
theorem dX1_isEven_3 : decode cX1_isEven 3 = .ok (.aload_n 0, 1) := by decide +kernel
theorem dX1_isEven_4 : decode cX1_isEven 4 = .ok (.getfield 18, 3) := by decide +kernel
theorem dX1_isEven_7 : decode cX1_isEven 7 = .ok (.getfield 55, 3) := by decide +kernel
theorem dX1_isEven_10 : decode cX1_isEven 10 = .ok (.iload_n 1, 1) := by decide +kernel
theorem dX1_isEven_11 : decode cX1_isEven 11 = .ok (.iaload, 1) := by decide +kernel
theorem dX1_isEven_12 : decode cX1_isEven 12 = .ok (.if_icmp .ge 72, 3) := by decide +kernel
theorem dX1_isEven_15 : decode cX1_isEven 15 = .ok (.iconst 0, 1) := by decide +kernel
theorem dX1_isEven_16 : decode cX1_isEven 16 = .ok (.istore_n 3, 1) := by decide +kernel
theorem dX1_isEven_17 : decode cX1_isEven 17 = .ok (.iconst 0, 1) := by decide +kernel
theorem dX1_isEven_18 : decode cX1_isEven 18 = .ok (.istore 4, 2) := by decide +kernel
theorem dX1_isEven_20 : decode cX1_isEven 20 = .ok (.iload 4, 2) := by decide +kernel
theorem dX1_isEven_22 : decode cX1_isEven 22 = .ok (.aload_n 0, 1) := by decide +kernel
theorem dX1_isEven_23 : decode cX1_isEven 23 = .ok (.getfield 18, 3) := by decide +kernel
theorem dX1_isEven_26 : decode cX1_isEven 26 = .ok (.getfield 41, 3) := by decide +kernel
theorem dX1_isEven_29 : decode cX1_isEven 29 = .ok (.if_icmp .ge 26, 3) := by decide +kernel
theorem dX1_isEven_32 : decode cX1_isEven 32 = .ok (.aload_n 0, 1) := by decide +kernel
theorem dX1_isEven_33 : decode cX1_isEven 33 = .ok (.getfield 18, 3) := by decide +kernel
theorem dX1_isEven_36 : decode cX1_isEven 36 = .ok (.iload 4, 2) := by decide +kernel
theorem dX1_isEven_38 : decode cX1_isEven 38 = .ok (.iload_n 1, 1) := by decide +kernel
theorem dX1_isEven_39 : decode cX1_isEven 39 = .ok (.invokevirtual 62, 3) := by decide +kernel
theorem dX1_isEven_42 : decode cX1_isEven 42 = .ok (.iload_n 2, 1) := by decide +kernel
theorem dX1_isEven_43 : decode cX1_isEven 43 = .ok (.if_icmp .ne 6, 3) := by decide +kernel
theorem dX1_isEven_46 : decode cX1_isEven 46 = .ok (.iinc 3 1, 3) := by decide +kernel
theorem dX1_isEven_49 : decode cX1_isEven 49 = .ok (.iinc 4 1, 3) := by decide +kernel
theorem dX1_isEven_52 : decode cX1_isEven 52 = .ok (.goto (-32), 3) := by decide +kernel
theorem dX1_isEven_55 : decode cX1_isEven 55 = .ok (.iload_n 3, 1) := by decide +kernel
theorem dX1_isEven_56 : decode cX1_isEven 56 = .ok (.aload_n 0, 1) := by decide +kernel
theorem dX1_isEven_57 : decode cX1_isEven 57 = .ok (.getfield 18, 3) := by decide +kernel
theorem dX1_isEven_60 : decode cX1_isEven 60 = .ok (.getfield 55, 3) := by decide +kernel
theorem dX1_isEven_63 : decode cX1_isEven 63 = .ok (.iload_n 1, 1) := by decide +kernel
theorem dX1_isEven_64 : decode cX1_isEven 64 = .ok (.iaload, 1) := by decide +kernel
theorem dX1_isEven_65 : decode cX1_isEven 65 = .ok (.imul, 1) := by decide +kernel
theorem dX1_isEven_66 : decode cX1_isEven 66 = .ok (.aload_n 0, 1) := by decide +kernel
theorem dX1_isEven_67 : decode cX1_isEven 67 = .ok (.getfield 18, 3) := by decide +kernel
theorem dX1_isEven_70 : decode cX1_isEven 70 = .ok (.getfield 41, 3) := by decide +kernel
theorem dX1_isEven_73 : decode cX1_isEven 73 = .ok (.if_icmp .eq 5, 3) := by decide +kernel
theorem dX1_isEven_76 : decode cX1_isEven 76 = .ok (.iconst 0, 1) := by decide +kernel
theorem dX1_isEven_77 : decode cX1_isEven 77 = .ok (.ireturn, 1) := by decide +kernel
theorem dX1_isEven_78 : decode cX1_isEven 78 = .ok (.iinc 2 1, 3) := by decide +kernel
theorem dX1_isEven_81 : decode cX1_isEven 81 = .ok (.goto (-79), 3) := by decide +kernel
theorem dX1_isEven_84 : decode cX1_isEven 84 = .ok (.iconst 1, 1) := by decide +kernel
theorem dX1_isEven_85 : decode cX1_isEven 85 = .ok (.ireturn, 1) := by decide +kernel
theorem dX1_lastEqualBefore_0 : decode cX1_lastEqualBefore 0 = .ok (.iload_n 1, 1) := by decide +kernel
theorem dX1_lastEqualBefore_1 : decode cX1_lastEqualBefore 1 = .ok (.iconst 1, 1) := by decide +kernel
theorem dX1_lastEqualBefore_2 : decode cX1_lastEqualBefore 2 = .ok (.isub, 1) := by decide +kernel
theorem dX1_lastEqualBefore_3 : decode cX1_lastEqualBefore 3 = .ok (.istore_n 2, 1) := by decide +kernel
theorem dX1_lastEqualBefore_4 : decode cX1_lastEqualBefore 4 = .ok (.iload_n 2, 1) := by decide +kernel
theorem dX1_lastEqualBefore_5 : decode cX1_lastEqualBefore 5 = .ok (.ifCond .lt 23, 3) := by decide +kernel
theorem dX1_lastEqualBefore_8 : decode cX1_lastEqualBefore 8 = .ok (.aload_n 0, 1) := by decide +kernel
theorem dX1_lastEqualBefore_9 : decode cX1_lastEqualBefore 9 = .ok (.getfield 18, 3) := by decide +kernel
theorem dX1_lastEqualBefore_12 : decode cX1_lastEqualBefore 12 = .ok (.iload_n 2, 1) := by decide +kernel
theorem dX1_lastEqualBefore_13 : decode cX1_lastEqualBefore 13 = .ok (.iload_n 1, 1) := by decide +kernel
theorem dX1_lastEqualBefore_14 : decode cX1_lastEqualBefore 14 = .ok (.invokevirtual 66, 3) := by decide +kernel
theorem dX1_lastEqualBefore_17 : decode cX1_lastEqualBefore 17 = .ok (.ifCond .ne 5, 3) := by decide +kernel
theorem dX1_lastEqualBefore_20 : decode cX1_lastEqualBefore 20 = .ok (.iload_n 2, 1) := by decide +kernel
theorem dX1_lastEqualBefore_21 : decode cX1_lastEqualBefore 21 = .ok (.ireturn, 1) := by decide +kernel
theorem dX1_lastEqualBefore_22 : decode cX1_lastEqualBefore 22 = .ok (.iinc 2 (-1), 3) := by decide +kernel
theorem dX1_lastEqualBefore_25 : decode cX1_lastEqualBefore 25 = .ok (.goto (-21), 3) := by decide +kernel
theorem dX1_lastEqualBefore_28 : decode cX1_lastEqualBefore 28 = .ok (.iconst (-1), 1) := by decide +kernel
theorem dX1_lastEqualBefore_29 : decode cX1_lastEqualBefore 29 = .ok (.ireturn, 1) := by decide +kernel
theorem dX1_place_0 : decode cX1_place 0 = .ok (.iload_n 1, 1) := by decide +kernel
theorem dX1_place_1 : decode cX1_place 1 = .ok (.aload_n 0, 1) := by decide +kernel
theorem dX1_place_2 : decode cX1_place 2 = .ok (.getfield 18, 3) := by decide +kernel
theorem dX1_place_5 : decode cX1_place 5 = .ok (.getfield 41, 3) := by decide +kernel
theorem dX1_place_8 : decode cX1_place 8 = .ok (.if_icmp .ge 9, 3) := by decide +kernel
theorem dX1_place_11 : decode cX1_place 11 = .ok (.iload_n 1, 1) := by decide +kernel
theorem dX1_place_12 : decode cX1_place 12 = .ok (.bipush 16, 2) := by decide +kernel
theorem dX1_place_14 : decode cX1_place 14 = .ok (.if_icmp .lt 5, 3) := by decide +kernel
theorem dX1_place_17 : decode cX1_place 17 = .ok (.iconst 1, 1) := by decide +kernel
theorem dX1_place_18 : decode cX1_place 18 = .ok (.ireturn, 1) := by decide +kernel
theorem dX1_place_19 : decode cX1_place 19 = .ok (.aload_n 0, 1) := by decide +kernel
theorem dX1_place_20 : decode cX1_place 20 = .ok (.getfield 26, 3) := by decide +kernel
theorem dX1_place_23 : decode cX1_place 23 = .ok (.iload_n 1, 1) := by decide +kernel
theorem dX1_place_24 : decode cX1_place 24 = .ok (.iaload, 1) := by decide +kernel
theorem dX1_place_25 : decode cX1_place 25 = .ok (.ifCond .ge 7, 3) := by decide +kernel
theorem dX1_place_28 : decode cX1_place 28 = .ok (.iconst 0, 1) := by decide +kernel
theorem dX1_place_29 : decode cX1_place 29 = .ok (.goto 14, 3) := by decide +kernel
theorem dX1_place_32 : decode cX1_place 32 = .ok (.aload_n 0, 1) := by decide +kernel
theorem dX1_place_33 : decode cX1_place 33 = .ok (.getfield 9, 3) := by decide +kernel
theorem dX1_place_36 : decode cX1_place 36 = .ok (.aload_n 0, 1) := by decide +kernel
theorem dX1_place_37 : decode cX1_place 37 = .ok (.getfield 26, 3) := by decide +kernel
theorem dX1_place_40 : decode cX1_place 40 = .ok (.iload_n 1, 1) := by decide +kernel
theorem dX1_place_41 : decode cX1_place 41 = .ok (.iaload, 1) := by decide +kernel
theorem dX1_place_42 : decode cX1_place 42 = .ok (.iaload, 1) := by decide +kernel
theorem dX1_place_43 : decode cX1_place 43 = .ok (.istore_n 3, 1) := by decide +kernel
theorem dX1_place_44 : decode cX1_place 44 = .ok (.iload_n 2, 1) := by decide +kernel
theorem dX1_place_45 : decode cX1_place 45 = .ok (.aload_n 0, 1) := by decide +kernel
theorem dX1_place_46 : decode cX1_place 46 = .ok (.getfield 22, 3) := by decide +kernel
theorem dX1_place_49 : decode cX1_place 49 = .ok (.iconst 1, 1) := by decide +kernel
theorem dX1_place_50 : decode cX1_place 50 = .ok (.isub, 1) := by decide +kernel
theorem dX1_place_51 : decode cX1_place 51 = .ok (.invokestatic 69, 3) := by decide +kernel
theorem dX1_place_54 : decode cX1_place 54 = .ok (.istore 4, 2) := by decide +kernel
theorem dX1_place_56 : decode cX1_place 56 = .ok (.iload_n 3, 1) := by decide +kernel
theorem dX1_place_57 : decode cX1_place 57 = .ok (.istore 5, 2) := by decide +kernel
theorem dX1_place_59 : decode cX1_place 59 = .ok (.iload 5, 2) := by decide +kernel
theorem dX1_place_61 : decode cX1_place 61 = .ok (.iload 4, 2) := by decide +kernel
theorem dX1_place_63 : decode cX1_place 63 = .ok (.if_icmp .gt 63, 3) := by decide +kernel
theorem dX1_place_66 : decode cX1_place 66 = .ok (.aload_n 0, 1) := by decide +kernel
theorem dX1_place_67 : decode cX1_place 67 = .ok (.iload_n 1, 1) := by decide +kernel
theorem dX1_place_68 : decode cX1_place 68 = .ok (.iload 5, 2) := by decide +kernel
theorem dX1_place_70 : decode cX1_place 70 = .ok (.invokevirtual 74, 3) := by decide +kernel
theorem dX1_place_73 : decode cX1_place 73 = .ok (.ifCond .eq 47, 3) := by decide +kernel
theorem dX1_place_76 : decode cX1_place 76 = .ok (.aload_n 0, 1) := by decide +kernel
theorem dX1_place_77 : decode cX1_place 77 = .ok (.getfield 9, 3) := by decide +kernel
theorem dX1_place_80 : decode cX1_place 80 = .ok (.iload_n 1, 1) := by decide +kernel
theorem dX1_place_81 : decode cX1_place 81 = .ok (.iload 5, 2) := by decide +kernel
theorem dX1_place_83 : decode cX1_place 83 = .ok (.iastore, 1) := by decide +kernel
theorem dX1_place_84 : decode cX1_place 84 = .ok (.aload_n 0, 1) := by decide +kernel
theorem dX1_place_85 : decode cX1_place 85 = .ok (.iload_n 1, 1) := by decide +kernel
theorem dX1_place_86 : decode cX1_place 86 = .ok (.iload 5, 2) := by decide +kernel
theorem dX1_place_88 : decode cX1_place 88 = .ok (.iconst (-1), 1) := by decide +kernel
theorem dX1_place_89 : decode cX1_place 89 = .ok (.invokevirtual 77, 3) := by decide +kernel
theorem dX1_place_92 : decode cX1_place 92 = .ok (.aload_n 0, 1) := by decide +kernel
theorem dX1_place_93 : decode cX1_place 93 = .ok (.iload_n 1, 1) := by decide +kernel
theorem dX1_place_94 : decode cX1_place 94 = .ok (.iconst 1, 1) := by decide +kernel
theorem dX1_place_95 : decode cX1_place 95 = .ok (.iadd, 1) := by decide +kernel
theorem dX1_place_96 : decode cX1_place 96 = .ok (.iload_n 2, 1) := by decide +kernel
theorem dX1_place_97 : decode cX1_place 97 = .ok (.iload 5, 2) := by decide +kernel
theorem dX1_place_99 : decode cX1_place 99 = .ok (.iconst 1, 1) := by decide +kernel
theorem dX1_place_100 : decode cX1_place 100 = .ok (.iadd, 1) := by decide +kernel
theorem dX1_place_101 : decode cX1_place 101 = .ok (.invokestatic 81, 3) := by decide +kernel
theorem dX1_place_104 : decode cX1_place 104 = .ok (.invokevirtual 48, 3) := by decide +kernel
theorem dX1_place_107 : decode cX1_place 107 = .ok (.ifCond .eq 5, 3) := by decide +kernel
theorem dX1_place_110 : decode cX1_place 110 = .ok (.iconst 1, 1) := by decide +kernel
theorem dX1_place_111 : decode cX1_place 111 = .ok (.ireturn, 1) := by decide +kernel
theorem dX1_place_112 : decode cX1_place 112 = .ok (.aload_n 0, 1) := by decide +kernel
theorem dX1_place_113 : decode cX1_place 113 = .ok (.iload_n 1, 1) := by decide +kernel
theorem dX1_place_114 : decode cX1_place 114 = .ok (.iload 5, 2) := by decide +kernel
theorem dX1_place_116 : decode cX1_place 116 = .ok (.iconst 1, 1) := by decide +kernel
theorem dX1_place_117 : decode cX1_place 117 = .ok (.invokevirtual 77, 3) := by decide +kernel
theorem dX1_place_120 : decode cX1_place 120 = .ok (.iinc 5 1, 3) := by decide +kernel
theorem dX1_place_123 : decode cX1_place 123 = .ok (.goto (-64), 3) := by decide +kernel
theorem dX1_place_126 : decode cX1_place 126 = .ok (.iconst 0, 1) := by decide +kernel
theorem dX1_place_127 : decode cX1_place 127 = .ok (.ireturn, 1) := by decide +kernel
theorem dX1_fits_0 : decode cX1_fits 0 = .ok (.aload_n 0, 1) := by decide +kernel
theorem dX1_fits_1 : decode cX1_fits 1 = .ok (.getfield 34, 3) := by decide +kernel
theorem dX1_fits_4 : decode cX1_fits 4 = .ok (.iload_n 2, 1) := by decide +kernel
theorem dX1_fits_5 : decode cX1_fits 5 = .ok (.iaload, 1) := by decide +kernel
theorem dX1_fits_6 : decode cX1_fits 6 = .ok (.ifCond .ne 5, 3) := by decide +kernel
theorem dX1_fits_9 : decode cX1_fits 9 = .ok (.iconst 0, 1) := by decide +kernel
theorem dX1_fits_10 : decode cX1_fits 10 = .ok (.ireturn, 1) := by decide +kernel
theorem dX1_fits_11 : decode cX1_fits 11 = .ok (.iconst 0, 1) := by decide +kernel
theorem dX1_fits_12 : decode cX1_fits 12 = .ok (.istore_n 3, 1) := by decide +kernel
theorem dX1_fits_13 : decode cX1_fits 13 = .ok (.iload_n 3, 1) := by decide +kernel
theorem dX1_fits_14 : decode cX1_fits 14 = .ok (.aload_n 0, 1) := by decide +kernel
theorem dX1_fits_15 : decode cX1_fits 15 = .ok (.getfield 18, 3) := by decide +kernel
theorem dX1_fits_18 : decode cX1_fits 18 = .ok (.getfield 52, 3) := by decide +kernel
theorem dX1_fits_21 : decode cX1_fits 21 = .ok (.if_icmp .ge 35, 3) := by decide +kernel
theorem dX1_fits_24 : decode cX1_fits 24 = .ok (.aload_n 0, 1) := by decide +kernel
theorem dX1_fits_25 : decode cX1_fits 25 = .ok (.getfield 31, 3) := by decide +kernel
theorem dX1_fits_28 : decode cX1_fits 28 = .ok (.iload_n 3, 1) := by decide +kernel
theorem dX1_fits_29 : decode cX1_fits 29 = .ok (.bipush 6, 2) := by decide +kernel
theorem dX1_fits_31 : decode cX1_fits 31 = .ok (.imul, 1) := by decide +kernel
theorem dX1_fits_32 : decode cX1_fits 32 = .ok (.aload_n 0, 1) := by decide +kernel
theorem dX1_fits_33 : decode cX1_fits 33 = .ok (.getfield 18, 3) := by decide +kernel
theorem dX1_fits_36 : decode cX1_fits 36 = .ok (.iload_n 1, 1) := by decide +kernel
theorem dX1_fits_37 : decode cX1_fits 37 = .ok (.iload_n 3, 1) := by decide +kernel
theorem dX1_fits_38 : decode cX1_fits 38 = .ok (.invokevirtual 62, 3) := by decide +kernel
theorem dX1_fits_41 : decode cX1_fits 41 = .ok (.iadd, 1) := by decide +kernel
theorem dX1_fits_42 : decode cX1_fits 42 = .ok (.aaload, 1) := by decide +kernel
theorem dX1_fits_43 : decode cX1_fits 43 = .ok (.iload_n 2, 1) := by decide +kernel
theorem dX1_fits_44 : decode cX1_fits 44 = .ok (.iaload, 1) := by decide +kernel
theorem dX1_fits_45 : decode cX1_fits 45 = .ok (.ifCond .ne 5, 3) := by decide +kernel
theorem dX1_fits_48 : decode cX1_fits 48 = .ok (.iconst 0, 1) := by decide +kernel
theorem dX1_fits_49 : decode cX1_fits 49 = .ok (.ireturn, 1) := by decide +kernel
theorem dX1_fits_50 : decode cX1_fits 50 = .ok (.iinc 3 1, 3) := by decide +kernel
theorem dX1_fits_53 : decode cX1_fits 53 = .ok (.goto (-40), 3) := by decide +kernel
theorem dX1_fits_56 : decode cX1_fits 56 = .ok (.iconst 1, 1) := by decide +kernel
theorem dX1_fits_57 : decode cX1_fits 57 = .ok (.ireturn, 1) := by decide +kernel
theorem dX1_use_0 : decode cX1_use 0 = .ok (.aload_n 0, 1) := by decide +kernel
theorem dX1_use_1 : decode cX1_use 1 = .ok (.getfield 34, 3) := by decide +kernel
theorem dX1_use_4 : decode cX1_use 4 = .ok (.iload_n 2, 1) := by decide +kernel
theorem dX1_use_5 : decode cX1_use 5 = .ok (.dup2, 1) := by decide +kernel
theorem dX1_use_6 : decode cX1_use 6 = .ok (.iaload, 1) := by decide +kernel
theorem dX1_use_7 : decode cX1_use 7 = .ok (.iload_n 3, 1) := by decide +kernel
theorem dX1_use_8 : decode cX1_use 8 = .ok (.iadd, 1) := by decide +kernel
theorem dX1_use_9 : decode cX1_use 9 = .ok (.iastore, 1) := by decide +kernel
theorem dX1_use_10 : decode cX1_use 10 = .ok (.iconst 0, 1) := by decide +kernel
theorem dX1_use_11 : decode cX1_use 11 = .ok (.istore 4, 2) := by decide +kernel
theorem dX1_use_13 : decode cX1_use 13 = .ok (.iload 4, 2) := by decide +kernel
theorem dX1_use_15 : decode cX1_use 15 = .ok (.aload_n 0, 1) := by decide +kernel
theorem dX1_use_16 : decode cX1_use 16 = .ok (.getfield 18, 3) := by decide +kernel
theorem dX1_use_19 : decode cX1_use 19 = .ok (.getfield 52, 3) := by decide +kernel
theorem dX1_use_22 : decode cX1_use 22 = .ok (.if_icmp .ge 36, 3) := by decide +kernel
theorem dX1_use_25 : decode cX1_use 25 = .ok (.aload_n 0, 1) := by decide +kernel
theorem dX1_use_26 : decode cX1_use 26 = .ok (.getfield 31, 3) := by decide +kernel
theorem dX1_use_29 : decode cX1_use 29 = .ok (.iload 4, 2) := by decide +kernel
theorem dX1_use_31 : decode cX1_use 31 = .ok (.bipush 6, 2) := by decide +kernel
theorem dX1_use_33 : decode cX1_use 33 = .ok (.imul, 1) := by decide +kernel
theorem dX1_use_34 : decode cX1_use 34 = .ok (.aload_n 0, 1) := by decide +kernel
theorem dX1_use_35 : decode cX1_use 35 = .ok (.getfield 18, 3) := by decide +kernel
theorem dX1_use_38 : decode cX1_use 38 = .ok (.iload_n 1, 1) := by decide +kernel
theorem dX1_use_39 : decode cX1_use 39 = .ok (.iload 4, 2) := by decide +kernel
theorem dX1_use_41 : decode cX1_use 41 = .ok (.invokevirtual 62, 3) := by decide +kernel
theorem dX1_use_44 : decode cX1_use 44 = .ok (.iadd, 1) := by decide +kernel
theorem dX1_use_45 : decode cX1_use 45 = .ok (.aaload, 1) := by decide +kernel
theorem dX1_use_46 : decode cX1_use 46 = .ok (.iload_n 2, 1) := by decide +kernel
theorem dX1_use_47 : decode cX1_use 47 = .ok (.dup2, 1) := by decide +kernel
theorem dX1_use_48 : decode cX1_use 48 = .ok (.iaload, 1) := by decide +kernel
theorem dX1_use_49 : decode cX1_use 49 = .ok (.iload_n 3, 1) := by decide +kernel
theorem dX1_use_50 : decode cX1_use 50 = .ok (.iadd, 1) := by decide +kernel
theorem dX1_use_51 : decode cX1_use 51 = .ok (.iastore, 1) := by decide +kernel
theorem dX1_use_52 : decode cX1_use 52 = .ok (.iinc 4 1, 3) := by decide +kernel
theorem dX1_use_55 : decode cX1_use 55 = .ok (.goto (-42), 3) := by decide +kernel
theorem dX1_use_58 : decode cX1_use 58 = .ok (.return_, 1) := by decide +kernel
theorem dX2_init_0 : decode cX2_init 0 = .ok (.aload_n 0, 1) := by decide +kernel
theorem dX2_init_1 : decode cX2_init 1 = .ok (.invokespecial 3, 3) := by decide +kernel
theorem dX2_init_4 : decode cX2_init 4 = .ok (.aload_n 0, 1) := by decide +kernel
theorem dX2_init_5 : decode cX2_init 5 = .ok (.iconst 0, 1) := by decide +kernel
theorem dX2_init_6 : decode cX2_init 6 = .ok (.putfield 9, 3) := by decide +kernel
theorem dX2_init_9 : decode cX2_init 9 = .ok (.aload_n 0, 1) := by decide +kernel
theorem dX2_init_10 : decode cX2_init 10 = .ok (.iconst 0, 1) := by decide +kernel
theorem dX2_init_11 : decode cX2_init 11 = .ok (.putfield 15, 3) := by decide +kernel
theorem dX2_init_14 : decode cX2_init 14 = .ok (.aload_n 0, 1) := by decide +kernel
theorem dX2_init_15 : decode cX2_init 15 = .ok (.bipush 8, 2) := by decide +kernel
theorem dX2_init_17 : decode cX2_init 17 = .ok (.anewarray 18, 3) := by decide +kernel
theorem dX2_init_20 : decode cX2_init 20 = .ok (.putfield 20, 3) := by decide +kernel
theorem dX2_init_23 : decode cX2_init 23 = .ok (.iconst 0, 1) := by decide +kernel
theorem dX2_init_24 : decode cX2_init 24 = .ok (.istore_n 1, 1) := by decide +kernel
theorem dX2_init_25 : decode cX2_init 25 = .ok (.iload_n 1, 1) := by decide +kernel
theorem dX2_init_26 : decode cX2_init 26 = .ok (.bipush 8, 2) := by decide +kernel
theorem dX2_init_28 : decode cX2_init 28 = .ok (.if_icmp .ge 22, 3) := by decide +kernel
theorem dX2_init_31 : decode cX2_init 31 = .ok (.aload_n 0, 1) := by decide +kernel
theorem dX2_init_32 : decode cX2_init 32 = .ok (.getfield 20, 3) := by decide +kernel
theorem dX2_init_35 : decode cX2_init 35 = .ok (.iload_n 1, 1) := by decide +kernel
theorem dX2_init_36 : decode cX2_init 36 = .ok (.new 18, 3) := by decide +kernel
theorem dX2_init_39 : decode cX2_init 39 = .ok (.dup, 1) := by decide +kernel
theorem dX2_init_40 : decode cX2_init 40 = .ok (.invokespecial 24, 3) := by decide +kernel
theorem dX2_init_43 : decode cX2_init 43 = .ok (.aastore, 1) := by decide +kernel
theorem dX2_init_44 : decode cX2_init 44 = .ok (.iinc 1 1, 3) := by decide +kernel
theorem dX2_init_47 : decode cX2_init 47 = .ok (.goto (-22), 3) := by decide +kernel
theorem dX2_init_50 : decode cX2_init 50 = .ok (.return_, 1) := by decide +kernel
theorem dX2_push_0 : decode cX2_push 0 = .ok (.aload_n 0, 1) := by decide +kernel
theorem dX2_push_1 : decode cX2_push 1 = .ok (.getfield 9, 3) := by decide +kernel
theorem dX2_push_4 : decode cX2_push 4 = .ok (.bipush 8, 2) := by decide +kernel
theorem dX2_push_6 : decode cX2_push 6 = .ok (.if_icmp .ne 19, 3) := by decide +kernel
theorem dX2_push_9 : decode cX2_push 9 = .ok (.aload_n 0, 1) := by decide +kernel
theorem dX2_push_10 : decode cX2_push 10 = .ok (.aload_n 0, 1) := by decide +kernel
theorem dX2_push_11 : decode cX2_push 11 = .ok (.getfield 15, 3) := by decide +kernel
theorem dX2_push_14 : decode cX2_push 14 = .ok (.iconst 1, 1) := by decide +kernel
theorem dX2_push_15 : decode cX2_push 15 = .ok (.iadd, 1) := by decide +kernel
theorem dX2_push_16 : decode cX2_push 16 = .ok (.bipush 8, 2) := by decide +kernel
theorem dX2_push_18 : decode cX2_push 18 = .ok (.irem, 1) := by decide +kernel
theorem dX2_push_19 : decode cX2_push 19 = .ok (.putfield 15, 3) := by decide +kernel
theorem dX2_push_22 : decode cX2_push 22 = .ok (.goto 13, 3) := by decide +kernel
theorem dX2_push_25 : decode cX2_push 25 = .ok (.aload_n 0, 1) := by decide +kernel
theorem dX2_push_26 : decode cX2_push 26 = .ok (.dup, 1) := by decide +kernel
theorem dX2_push_27 : decode cX2_push 27 = .ok (.getfield 9, 3) := by decide +kernel
theorem dX2_push_30 : decode cX2_push 30 = .ok (.iconst 1, 1) := by decide +kernel
theorem dX2_push_31 : decode cX2_push 31 = .ok (.iadd, 1) := by decide +kernel
theorem dX2_push_32 : decode cX2_push 32 = .ok (.putfield 9, 3) := by decide +kernel
theorem dX2_push_35 : decode cX2_push 35 = .ok (.aload_n 0, 1) := by decide +kernel
theorem dX2_push_36 : decode cX2_push 36 = .ok (.getfield 20, 3) := by decide +kernel
theorem dX2_push_39 : decode cX2_push 39 = .ok (.aload_n 0, 1) := by decide +kernel
theorem dX2_push_40 : decode cX2_push 40 = .ok (.getfield 15, 3) := by decide +kernel
theorem dX2_push_43 : decode cX2_push 43 = .ok (.aload_n 0, 1) := by decide +kernel
theorem dX2_push_44 : decode cX2_push 44 = .ok (.getfield 9, 3) := by decide +kernel
theorem dX2_push_47 : decode cX2_push 47 = .ok (.iadd, 1) := by decide +kernel
theorem dX2_push_48 : decode cX2_push 48 = .ok (.iconst 1, 1) := by decide +kernel
theorem dX2_push_49 : decode cX2_push 49 = .ok (.isub, 1) := by decide +kernel
theorem dX2_push_50 : decode cX2_push 50 = .ok (.bipush 8, 2) := by decide +kernel
theorem dX2_push_52 : decode cX2_push 52 = .ok (.irem, 1) := by decide +kernel
theorem dX2_push_53 : decode cX2_push 53 = .ok (.aaload, 1) := by decide +kernel
theorem dX2_push_54 : decode cX2_push 54 = .ok (.astore_n 2, 1) := by decide +kernel
theorem dX2_push_55 : decode cX2_push 55 = .ok (.aload_n 2, 1) := by decide +kernel
theorem dX2_push_56 : decode cX2_push 56 = .ok (.aload_n 1, 1) := by decide +kernel
theorem dX2_push_57 : decode cX2_push 57 = .ok (.invokevirtual 25, 3) := by decide +kernel
theorem dX2_push_60 : decode cX2_push 60 = .ok (.aload_n 2, 1) := by decide +kernel
theorem dX2_push_61 : decode cX2_push 61 = .ok (.areturn, 1) := by decide +kernel
theorem dX2_pop_0 : decode cX2_pop 0 = .ok (.aload_n 0, 1) := by decide +kernel
theorem dX2_pop_1 : decode cX2_pop 1 = .ok (.getfield 9, 3) := by decide +kernel
theorem dX2_pop_4 : decode cX2_pop 4 = .ok (.ifCond .le 36, 3) := by decide +kernel
theorem dX2_pop_7 : decode cX2_pop 7 = .ok (.aload_n 1, 1) := by decide +kernel
theorem dX2_pop_8 : decode cX2_pop 8 = .ok (.aload_n 0, 1) := by decide +kernel
theorem dX2_pop_9 : decode cX2_pop 9 = .ok (.getfield 20, 3) := by decide +kernel
theorem dX2_pop_12 : decode cX2_pop 12 = .ok (.aload_n 0, 1) := by decide +kernel
theorem dX2_pop_13 : decode cX2_pop 13 = .ok (.getfield 15, 3) := by decide +kernel
theorem dX2_pop_16 : decode cX2_pop 16 = .ok (.aload_n 0, 1) := by decide +kernel
theorem dX2_pop_17 : decode cX2_pop 17 = .ok (.getfield 9, 3) := by decide +kernel
theorem dX2_pop_20 : decode cX2_pop 20 = .ok (.iadd, 1) := by decide +kernel
theorem dX2_pop_21 : decode cX2_pop 21 = .ok (.iconst 1, 1) := by decide +kernel
theorem dX2_pop_22 : decode cX2_pop 22 = .ok (.isub, 1) := by decide +kernel
theorem dX2_pop_23 : decode cX2_pop 23 = .ok (.bipush 8, 2) := by decide +kernel
theorem dX2_pop_25 : decode cX2_pop 25 = .ok (.irem, 1) := by decide +kernel
theorem dX2_pop_26 : decode cX2_pop 26 = .ok (.aaload, 1) := by decide +kernel
theorem dX2_pop_27 : decode cX2_pop 27 = .ok (.invokevirtual 25, 3) := by decide +kernel
theorem dX2_pop_30 : decode cX2_pop 30 = .ok (.aload_n 0, 1) := by decide +kernel
theorem dX2_pop_31 : decode cX2_pop 31 = .ok (.dup, 1) := by decide +kernel
theorem dX2_pop_32 : decode cX2_pop 32 = .ok (.getfield 9, 3) := by decide +kernel
theorem dX2_pop_35 : decode cX2_pop 35 = .ok (.iconst 1, 1) := by decide +kernel
theorem dX2_pop_36 : decode cX2_pop 36 = .ok (.isub, 1) := by decide +kernel
theorem dX2_pop_37 : decode cX2_pop 37 = .ok (.putfield 9, 3) := by decide +kernel
theorem dX2_pop_40 : decode cX2_pop 40 = .ok (.return_, 1) := by decide +kernel
theorem dX3_init_0 : decode cX3_init 0 = .ok (.aload_n 0, 1) := by decide +kernel
theorem dX3_init_1 : decode cX3_init 1 = .ok (.invokespecial 3, 3) := by decide +kernel
theorem dX3_init_4 : decode cX3_init 4 = .ok (.aload_n 0, 1) := by decide +kernel
theorem dX3_init_5 : decode cX3_init 5 = .ok (.bipush 7, 2) := by decide +kernel
theorem dX3_init_7 : decode cX3_init 7 = .ok (.newarray .int, 2) := by decide +kernel
theorem dX3_init_9 : decode cX3_init 9 = .ok (.putfield 9, 3) := by decide +kernel
theorem dX3_init_12 : decode cX3_init 12 = .ok (.aload_n 0, 1) := by decide +kernel
theorem dX3_init_13 : decode cX3_init 13 = .ok (.bipush 28, 2) := by decide +kernel
theorem dX3_init_15 : decode cX3_init 15 = .ok (.newarray .int, 2) := by decide +kernel
theorem dX3_init_17 : decode cX3_init 17 = .ok (.putfield 15, 3) := by decide +kernel
theorem dX3_init_20 : decode cX3_init 20 = .ok (.aload_n 0, 1) := by decide +kernel
theorem dX3_init_21 : decode cX3_init 21 = .ok (.new 18, 3) := by decide +kernel
theorem dX3_init_24 : decode cX3_init 24 = .ok (.dup, 1) := by decide +kernel
theorem dX3_init_25 : decode cX3_init 25 = .ok (.invokespecial 20, 3) := by decide +kernel
theorem dX3_init_28 : decode cX3_init 28 = .ok (.putfield 21, 3) := by decide +kernel
theorem dX3_init_31 : decode cX3_init 31 = .ok (.aload_n 0, 1) := by decide +kernel
theorem dX3_init_32 : decode cX3_init 32 = .ok (.new 18, 3) := by decide +kernel
theorem dX3_init_35 : decode cX3_init 35 = .ok (.dup, 1) := by decide +kernel
theorem dX3_init_36 : decode cX3_init 36 = .ok (.invokespecial 20, 3) := by decide +kernel
theorem dX3_init_39 : decode cX3_init 39 = .ok (.putfield 25, 3) := by decide +kernel
theorem dX3_init_42 : decode cX3_init 42 = .ok (.aload_n 0, 1) := by decide +kernel
theorem dX3_init_43 : decode cX3_init 43 = .ok (.bipush 7, 2) := by decide +kernel
theorem dX3_init_45 : decode cX3_init 45 = .ok (.newarray .int, 2) := by decide +kernel
theorem dX3_init_47 : decode cX3_init 47 = .ok (.putfield 28, 3) := by decide +kernel
theorem dX3_init_50 : decode cX3_init 50 = .ok (.return_, 1) := by decide +kernel
