theorem dX11_first_16 : decode cX11_first 16 = .ok (.ldc_w 258, 3) := by decide +kernel
theorem dX11_first_19 : decode cX11_first 19 = .ok (.invokespecial 242, 3) := by decide +kernel
theorem dX11_first_22 : decode cX11_first 22 = .ok (.athrow, 1) := by decide +kernel
theorem dX11_first_23 : decode cX11_first 23 = .ok (.iconst 0, 1) := by decide +kernel
theorem dX11_first_24 : decode cX11_first 24 = .ok (.istore_n 2, 1) := by decide +kernel
theorem dX11_first_25 : decode cX11_first 25 = .ok (.iconst 1, 1) := by decide +kernel
theorem dX11_first_26 : decode cX11_first 26 = .ok (.istore_n 3, 1) := by decide +kernel
theorem dX11_first_27 : decode cX11_first 27 = .ok (.iload_n 3, 1) := by decide +kernel
theorem dX11_first_28 : decode cX11_first 28 = .ok (.aload_n 0, 1) := by decide +kernel
theorem dX11_first_29 : decode cX11_first 29 = .ok (.invokevirtual 221, 3) := by decide +kernel
theorem dX11_first_32 : decode cX11_first 32 = .ok (.if_icmp .ge 23, 3) := by decide +kernel
theorem dX11_first_35 : decode cX11_first 35 = .ok (.aload_n 1, 1) := by decide +kernel
theorem dX11_first_36 : decode cX11_first 36 = .ok (.iload_n 2, 1) := by decide +kernel
theorem dX11_first_37 : decode cX11_first 37 = .ok (.invokevirtual 224, 3) := by decide +kernel
theorem dX11_first_40 : decode cX11_first 40 = .ok (.ifCond .ne 15, 3) := by decide +kernel
theorem dX11_first_43 : decode cX11_first 43 = .ok (.aload_n 0, 1) := by decide +kernel
theorem dX11_first_44 : decode cX11_first 44 = .ok (.iload_n 2, 1) := by decide +kernel
theorem dX11_first_45 : decode cX11_first 45 = .ok (.invokevirtual 250, 3) := by decide +kernel
theorem dX11_first_48 : decode cX11_first 48 = .ok (.istore_n 2, 1) := by decide +kernel
theorem dX11_first_49 : decode cX11_first 49 = .ok (.iinc 3 1, 3) := by decide +kernel
theorem dX11_first_52 : decode cX11_first 52 = .ok (.goto (-25), 3) := by decide +kernel
theorem dX11_first_55 : decode cX11_first 55 = .ok (.iload_n 2, 1) := by decide +kernel
theorem dX11_first_56 : decode cX11_first 56 = .ok (.ireturn, 1) := by decide +kernel
theorem dX11_nodes_0 : decode cX11_nodes 0 = .ok (.aload_n 0, 1) := by decide +kernel
theorem dX11_nodes_1 : decode cX11_nodes 1 = .ok (.aload_n 0, 1) := by decide +kernel
theorem dX11_nodes_2 : decode cX11_nodes 2 = .ok (.invokevirtual 199, 3) := by decide +kernel
theorem dX11_nodes_5 : decode cX11_nodes 5 = .ok (.invokevirtual 260, 3) := by decide +kernel
theorem dX11_nodes_8 : decode cX11_nodes 8 = .ok (.ireturn, 1) := by decide +kernel
theorem dX11_nodesFor_0 : decode cX11_nodesFor 0 = .ok (.aload_n 0, 1) := by decide +kernel
theorem dX11_nodesFor_1 : decode cX11_nodesFor 1 = .ok (.iload_n 1, 1) := by decide +kernel
theorem dX11_nodesFor_2 : decode cX11_nodesFor 2 = .ok (.invokevirtual 98, 3) := by decide +kernel
theorem dX11_nodesFor_5 : decode cX11_nodesFor 5 = .ok (.aload_n 0, 1) := by decide +kernel
theorem dX11_nodesFor_6 : decode cX11_nodesFor 6 = .ok (.getfield 65, 3) := by decide +kernel
theorem dX11_nodesFor_9 : decode cX11_nodesFor 9 = .ok (.aload_n 0, 1) := by decide +kernel
theorem dX11_nodesFor_10 : decode cX11_nodesFor 10 = .ok (.invokevirtual 199, 3) := by decide +kernel
theorem dX11_nodesFor_13 : decode cX11_nodesFor 13 = .ok (.aload_n 0, 1) := by decide +kernel
theorem dX11_nodesFor_14 : decode cX11_nodesFor 14 = .ok (.getfield 28, 3) := by decide +kernel
theorem dX11_nodesFor_17 : decode cX11_nodesFor 17 = .ok (.invokevirtual 264, 3) := by decide +kernel
theorem dX11_nodesFor_20 : decode cX11_nodesFor 20 = .ok (.iconst 0, 1) := by decide +kernel
theorem dX11_nodesFor_21 : decode cX11_nodesFor 21 = .ok (.istore_n 2, 1) := by decide +kernel
theorem dX11_nodesFor_22 : decode cX11_nodesFor 22 = .ok (.iconst 0, 1) := by decide +kernel
theorem dX11_nodesFor_23 : decode cX11_nodesFor 23 = .ok (.istore_n 3, 1) := by decide +kernel
theorem dX11_nodesFor_24 : decode cX11_nodesFor 24 = .ok (.iload_n 3, 1) := by decide +kernel
theorem dX11_nodesFor_25 : decode cX11_nodesFor 25 = .ok (.aload_n 0, 1) := by decide +kernel
theorem dX11_nodesFor_26 : decode cX11_nodesFor 26 = .ok (.getfield 77, 3) := by decide +kernel
theorem dX11_nodesFor_29 : decode cX11_nodesFor 29 = .ok (.if_icmp .ge 30, 3) := by decide +kernel
theorem dX11_nodesFor_32 : decode cX11_nodesFor 32 = .ok (.aload_n 0, 1) := by decide +kernel
theorem dX11_nodesFor_33 : decode cX11_nodesFor 33 = .ok (.getfield 28, 3) := by decide +kernel
theorem dX11_nodesFor_36 : decode cX11_nodesFor 36 = .ok (.iload_n 3, 1) := by decide +kernel
theorem dX11_nodesFor_37 : decode cX11_nodesFor 37 = .ok (.invokevirtual 106, 3) := by decide +kernel
theorem dX11_nodesFor_40 : decode cX11_nodesFor 40 = .ok (.iload_n 1, 1) := by decide +kernel
theorem dX11_nodesFor_41 : decode cX11_nodesFor 41 = .ok (.if_icmp .ne 12, 3) := by decide +kernel
theorem dX11_nodesFor_44 : decode cX11_nodesFor 44 = .ok (.aload_n 0, 1) := by decide +kernel
theorem dX11_nodesFor_45 : decode cX11_nodesFor 45 = .ok (.getfield 65, 3) := by decide +kernel
theorem dX11_nodesFor_48 : decode cX11_nodesFor 48 = .ok (.iload_n 3, 1) := by decide +kernel
theorem dX11_nodesFor_49 : decode cX11_nodesFor 49 = .ok (.invokevirtual 268, 3) := by decide +kernel
theorem dX11_nodesFor_52 : decode cX11_nodesFor 52 = .ok (.istore_n 2, 1) := by decide +kernel
theorem dX11_nodesFor_53 : decode cX11_nodesFor 53 = .ok (.iinc 3 1, 3) := by decide +kernel
theorem dX11_nodesFor_56 : decode cX11_nodesFor 56 = .ok (.goto (-32), 3) := by decide +kernel
theorem dX11_nodesFor_59 : decode cX11_nodesFor 59 = .ok (.iload_n 2, 1) := by decide +kernel
theorem dX11_nodesFor_60 : decode cX11_nodesFor 60 = .ok (.ireturn, 1) := by decide +kernel
theorem dX11_ways_0 : decode cX11_ways 0 = .ok (.aload_n 0, 1) := by decide +kernel
theorem dX11_ways_1 : decode cX11_ways 1 = .ok (.getfield 65, 3) := by decide +kernel
theorem dX11_ways_4 : decode cX11_ways 4 = .ok (.aload_n 0, 1) := by decide +kernel
theorem dX11_ways_5 : decode cX11_ways 5 = .ok (.invokevirtual 199, 3) := by decide +kernel
theorem dX11_ways_8 : decode cX11_ways 8 = .ok (.aload_n 0, 1) := by decide +kernel
theorem dX11_ways_9 : decode cX11_ways 9 = .ok (.getfield 28, 3) := by decide +kernel
theorem dX11_ways_12 : decode cX11_ways 12 = .ok (.invokevirtual 264, 3) := by decide +kernel
theorem dX11_ways_15 : decode cX11_ways 15 = .ok (.aload_n 0, 1) := by decide +kernel
theorem dX11_ways_16 : decode cX11_ways 16 = .ok (.getfield 65, 3) := by decide +kernel
theorem dX11_ways_19 : decode cX11_ways 19 = .ok (.invokevirtual 271, 3) := by decide +kernel
theorem dX11_ways_22 : decode cX11_ways 22 = .ok (.i2l, 1) := by decide +kernel
theorem dX11_ways_23 : decode cX11_ways 23 = .ok (.lreturn, 1) := by decide +kernel
theorem dX11_exchange_0 : decode cX11_exchange 0 = .ok (.aload_n 0, 1) := by decide +kernel
theorem dX11_exchange_1 : decode cX11_exchange 1 = .ok (.iload_n 1, 1) := by decide +kernel
theorem dX11_exchange_2 : decode cX11_exchange 2 = .ok (.invokevirtual 274, 3) := by decide +kernel
theorem dX11_exchange_5 : decode cX11_exchange 5 = .ok (.aload_n 0, 1) := by decide +kernel
theorem dX11_exchange_6 : decode cX11_exchange 6 = .ok (.iload_n 2, 1) := by decide +kernel
theorem dX11_exchange_7 : decode cX11_exchange 7 = .ok (.invokevirtual 274, 3) := by decide +kernel
theorem dX11_exchange_10 : decode cX11_exchange 10 = .ok (.aload_n 0, 1) := by decide +kernel
theorem dX11_exchange_11 : decode cX11_exchange 11 = .ok (.getfield 28, 3) := by decide +kernel
theorem dX11_exchange_14 : decode cX11_exchange 14 = .ok (.iload_n 1, 1) := by decide +kernel
theorem dX11_exchange_15 : decode cX11_exchange 15 = .ok (.invokevirtual 106, 3) := by decide +kernel
theorem dX11_exchange_18 : decode cX11_exchange 18 = .ok (.istore_n 3, 1) := by decide +kernel
theorem dX11_exchange_19 : decode cX11_exchange 19 = .ok (.aload_n 0, 1) := by decide +kernel
theorem dX11_exchange_20 : decode cX11_exchange 20 = .ok (.getfield 28, 3) := by decide +kernel
theorem dX11_exchange_23 : decode cX11_exchange 23 = .ok (.iload_n 1, 1) := by decide +kernel
theorem dX11_exchange_24 : decode cX11_exchange 24 = .ok (.aload_n 0, 1) := by decide +kernel
theorem dX11_exchange_25 : decode cX11_exchange 25 = .ok (.getfield 28, 3) := by decide +kernel
theorem dX11_exchange_28 : decode cX11_exchange 28 = .ok (.iload_n 2, 1) := by decide +kernel
theorem dX11_exchange_29 : decode cX11_exchange 29 = .ok (.invokevirtual 106, 3) := by decide +kernel
theorem dX11_exchange_32 : decode cX11_exchange 32 = .ok (.invokevirtual 88, 3) := by decide +kernel
theorem dX11_exchange_35 : decode cX11_exchange 35 = .ok (.aload_n 0, 1) := by decide +kernel
theorem dX11_exchange_36 : decode cX11_exchange 36 = .ok (.getfield 28, 3) := by decide +kernel
theorem dX11_exchange_39 : decode cX11_exchange 39 = .ok (.iload_n 2, 1) := by decide +kernel
theorem dX11_exchange_40 : decode cX11_exchange 40 = .ok (.iload_n 3, 1) := by decide +kernel
theorem dX11_exchange_41 : decode cX11_exchange 41 = .ok (.invokevirtual 88, 3) := by decide +kernel
theorem dX11_exchange_44 : decode cX11_exchange 44 = .ok (.aload_n 0, 1) := by decide +kernel
theorem dX11_exchange_45 : decode cX11_exchange 45 = .ok (.aload_n 0, 1) := by decide +kernel
theorem dX11_exchange_46 : decode cX11_exchange 46 = .ok (.invokevirtual 199, 3) := by decide +kernel
theorem dX11_exchange_49 : decode cX11_exchange 49 = .ok (.invokevirtual 260, 3) := by decide +kernel
theorem dX11_exchange_52 : decode cX11_exchange 52 = .ok (.ireturn, 1) := by decide +kernel
theorem dX11_orderAt_0 : decode cX11_orderAt 0 = .ok (.aload_n 0, 1) := by decide +kernel
theorem dX11_orderAt_1 : decode cX11_orderAt 1 = .ok (.iload_n 1, 1) := by decide +kernel
theorem dX11_orderAt_2 : decode cX11_orderAt 2 = .ok (.invokevirtual 274, 3) := by decide +kernel
theorem dX11_orderAt_5 : decode cX11_orderAt 5 = .ok (.aload_n 0, 1) := by decide +kernel
theorem dX11_orderAt_6 : decode cX11_orderAt 6 = .ok (.getfield 28, 3) := by decide +kernel
theorem dX11_orderAt_9 : decode cX11_orderAt 9 = .ok (.iload_n 1, 1) := by decide +kernel
theorem dX11_orderAt_10 : decode cX11_orderAt 10 = .ok (.invokevirtual 106, 3) := by decide +kernel
theorem dX11_orderAt_13 : decode cX11_orderAt 13 = .ok (.ireturn, 1) := by decide +kernel
theorem dX11_keep_0 : decode cX11_keep 0 = .ok (.aload_n 0, 1) := by decide +kernel
theorem dX11_keep_1 : decode cX11_keep 1 = .ok (.iload_n 1, 1) := by decide +kernel
theorem dX11_keep_2 : decode cX11_keep 2 = .ok (.invokevirtual 277, 3) := by decide +kernel
theorem dX11_keep_5 : decode cX11_keep 5 = .ok (.astore_n 2, 1) := by decide +kernel
theorem dX11_keep_6 : decode cX11_keep 6 = .ok (.aload_n 2, 1) := by decide +kernel
theorem dX11_keep_7 : decode cX11_keep 7 = .ok (.aload_n 0, 1) := by decide +kernel
theorem dX11_keep_8 : decode cX11_keep 8 = .ok (.invokevirtual 199, 3) := by decide +kernel
theorem dX11_keep_11 : decode cX11_keep 11 = .ok (.invokevirtual 281, 3) := by decide +kernel
theorem dX11_keep_14 : decode cX11_keep 14 = .ok (.aload_n 0, 1) := by decide +kernel
theorem dX11_keep_15 : decode cX11_keep 15 = .ok (.aload_n 2, 1) := by decide +kernel
theorem dX11_keep_16 : decode cX11_keep 16 = .ok (.invokevirtual 260, 3) := by decide +kernel
theorem dX11_keep_19 : decode cX11_keep 19 = .ok (.ireturn, 1) := by decide +kernel
theorem dX11_join_0 : decode cX11_join 0 = .ok (.aload_n 0, 1) := by decide +kernel
theorem dX11_join_1 : decode cX11_join 1 = .ok (.iload_n 1, 1) := by decide +kernel
theorem dX11_join_2 : decode cX11_join 2 = .ok (.invokevirtual 277, 3) := by decide +kernel
theorem dX11_join_5 : decode cX11_join 5 = .ok (.astore 5, 2) := by decide +kernel
theorem dX11_join_7 : decode cX11_join 7 = .ok (.aload_n 0, 1) := by decide +kernel
theorem dX11_join_8 : decode cX11_join 8 = .ok (.iload_n 2, 1) := by decide +kernel
theorem dX11_join_9 : decode cX11_join 9 = .ok (.invokevirtual 277, 3) := by decide +kernel
theorem dX11_join_12 : decode cX11_join 12 = .ok (.astore 6, 2) := by decide +kernel
theorem dX11_join_14 : decode cX11_join 14 = .ok (.aload_n 0, 1) := by decide +kernel
theorem dX11_join_15 : decode cX11_join 15 = .ok (.iload 4, 2) := by decide +kernel
theorem dX11_join_17 : decode cX11_join 17 = .ok (.invokevirtual 277, 3) := by decide +kernel
theorem dX11_join_20 : decode cX11_join 20 = .ok (.astore 7, 2) := by decide +kernel
theorem dX11_join_22 : decode cX11_join 22 = .ok (.iload_n 3, 1) := by decide +kernel
theorem dX11_join_23 : decode cX11_join 23 = .ok (.bipush 97, 2) := by decide +kernel
theorem dX11_join_25 : decode cX11_join 25 = .ok (.if_icmp .eq 26, 3) := by decide +kernel
theorem dX11_join_28 : decode cX11_join 28 = .ok (.iload_n 3, 1) := by decide +kernel
theorem dX11_join_29 : decode cX11_join 29 = .ok (.bipush 111, 2) := by decide +kernel
theorem dX11_join_31 : decode cX11_join 31 = .ok (.if_icmp .eq 20, 3) := by decide +kernel
theorem dX11_join_34 : decode cX11_join 34 = .ok (.iload_n 3, 1) := by decide +kernel
theorem dX11_join_35 : decode cX11_join 35 = .ok (.bipush 120, 2) := by decide +kernel
theorem dX11_join_37 : decode cX11_join 37 = .ok (.if_icmp .eq 14, 3) := by decide +kernel
theorem dX11_join_40 : decode cX11_join 40 = .ok (.new 101, 3) := by decide +kernel
theorem dX11_join_43 : decode cX11_join 43 = .ok (.dup, 1) := by decide +kernel
theorem dX11_join_44 : decode cX11_join 44 = .ok (.ldc_w 285, 3) := by decide +kernel
theorem dX11_join_47 : decode cX11_join 47 = .ok (.invokespecial 105, 3) := by decide +kernel
theorem dX11_join_50 : decode cX11_join 50 = .ok (.athrow, 1) := by decide +kernel
theorem dX11_join_51 : decode cX11_join 51 = .ok (.aload_n 0, 1) := by decide +kernel
theorem dX11_join_52 : decode cX11_join 52 = .ok (.aload 5, 2) := by decide +kernel
theorem dX11_join_54 : decode cX11_join 54 = .ok (.invokevirtual 287, 3) := by decide +kernel
theorem dX11_join_57 : decode cX11_join 57 = .ok (.aload_n 0, 1) := by decide +kernel
theorem dX11_join_58 : decode cX11_join 58 = .ok (.aload 6, 2) := by decide +kernel
theorem dX11_join_60 : decode cX11_join 60 = .ok (.invokevirtual 287, 3) := by decide +kernel
theorem dX11_join_63 : decode cX11_join 63 = .ok (.aload_n 0, 1) := by decide +kernel
theorem dX11_join_64 : decode cX11_join 64 = .ok (.aload 5, 2) := by decide +kernel
theorem dX11_join_66 : decode cX11_join 66 = .ok (.invokevirtual 290, 3) := by decide +kernel
theorem dX11_join_69 : decode cX11_join 69 = .ok (.aload_n 0, 1) := by decide +kernel
theorem dX11_join_70 : decode cX11_join 70 = .ok (.aload 6, 2) := by decide +kernel
theorem dX11_join_72 : decode cX11_join 72 = .ok (.invokevirtual 290, 3) := by decide +kernel
theorem dX11_join_75 : decode cX11_join 75 = .ok (.aload 7, 2) := by decide +kernel
theorem dX11_join_77 : decode cX11_join 77 = .ok (.aload 5, 2) := by decide +kernel
theorem dX11_join_79 : decode cX11_join 79 = .ok (.aload 6, 2) := by decide +kernel
theorem dX11_join_81 : decode cX11_join 81 = .ok (.iload_n 3, 1) := by decide +kernel
theorem dX11_join_82 : decode cX11_join 82 = .ok (.invokevirtual 293, 3) := by decide +kernel
theorem dX11_join_85 : decode cX11_join 85 = .ok (.aload_n 0, 1) := by decide +kernel
theorem dX11_join_86 : decode cX11_join 86 = .ok (.aload 7, 2) := by decide +kernel
theorem dX11_join_88 : decode cX11_join 88 = .ok (.invokevirtual 260, 3) := by decide +kernel
theorem dX11_join_91 : decode cX11_join 91 = .ok (.ireturn, 1) := by decide +kernel
theorem dX11_fix_0 : decode cX11_fix 0 = .ok (.aload_n 0, 1) := by decide +kernel
theorem dX11_fix_1 : decode cX11_fix 1 = .ok (.iload_n 1, 1) := by decide +kernel
theorem dX11_fix_2 : decode cX11_fix 2 = .ok (.invokevirtual 277, 3) := by decide +kernel
theorem dX11_fix_5 : decode cX11_fix 5 = .ok (.astore 4, 2) := by decide +kernel
theorem dX11_fix_7 : decode cX11_fix 7 = .ok (.aload_n 0, 1) := by decide +kernel
theorem dX11_fix_8 : decode cX11_fix 8 = .ok (.iload_n 3, 1) := by decide +kernel
theorem dX11_fix_9 : decode cX11_fix 9 = .ok (.invokevirtual 127, 3) := by decide +kernel
theorem dX11_fix_12 : decode cX11_fix 12 = .ok (.aload_n 0, 1) := by decide +kernel
theorem dX11_fix_13 : decode cX11_fix 13 = .ok (.iload_n 2, 1) := by decide +kernel
theorem dX11_fix_14 : decode cX11_fix 14 = .ok (.invokevirtual 98, 3) := by decide +kernel
theorem dX11_fix_17 : decode cX11_fix 17 = .ok (.aload_n 0, 1) := by decide +kernel
theorem dX11_fix_18 : decode cX11_fix 18 = .ok (.aload 4, 2) := by decide +kernel
theorem dX11_fix_20 : decode cX11_fix 20 = .ok (.invokevirtual 287, 3) := by decide +kernel
theorem dX11_fix_23 : decode cX11_fix 23 = .ok (.aload_n 0, 1) := by decide +kernel
theorem dX11_fix_24 : decode cX11_fix 24 = .ok (.aload 4, 2) := by decide +kernel
theorem dX11_fix_26 : decode cX11_fix 26 = .ok (.invokevirtual 290, 3) := by decide +kernel
theorem dX11_fix_29 : decode cX11_fix 29 = .ok (.aload 4, 2) := by decide +kernel
theorem dX11_fix_31 : decode cX11_fix 31 = .ok (.iload_n 2, 1) := by decide +kernel
theorem dX11_fix_32 : decode cX11_fix 32 = .ok (.iload_n 3, 1) := by decide +kernel
theorem dX11_fix_33 : decode cX11_fix 33 = .ok (.invokevirtual 297, 3) := by decide +kernel
theorem dX11_fix_36 : decode cX11_fix 36 = .ok (.aload_n 0, 1) := by decide +kernel
theorem dX11_fix_37 : decode cX11_fix 37 = .ok (.aload 4, 2) := by decide +kernel
theorem dX11_fix_39 : decode cX11_fix 39 = .ok (.invokevirtual 260, 3) := by decide +kernel
theorem dX11_fix_42 : decode cX11_fix 42 = .ok (.ireturn, 1) := by decide +kernel
theorem dX11_free_0 : decode cX11_free 0 = .ok (.aload_n 0, 1) := by decide +kernel
theorem dX11_free_1 : decode cX11_free 1 = .ok (.iload_n 1, 1) := by decide +kernel
theorem dX11_free_2 : decode cX11_free 2 = .ok (.invokevirtual 277, 3) := by decide +kernel
theorem dX11_free_5 : decode cX11_free 5 = .ok (.astore_n 3, 1) := by decide +kernel
theorem dX11_free_6 : decode cX11_free 6 = .ok (.aload_n 0, 1) := by decide +kernel
theorem dX11_free_7 : decode cX11_free 7 = .ok (.iload_n 2, 1) := by decide +kernel
theorem dX11_free_8 : decode cX11_free 8 = .ok (.invokevirtual 98, 3) := by decide +kernel
theorem dX11_free_11 : decode cX11_free 11 = .ok (.aload_n 0, 1) := by decide +kernel
theorem dX11_free_12 : decode cX11_free 12 = .ok (.aload_n 3, 1) := by decide +kernel
theorem dX11_free_13 : decode cX11_free 13 = .ok (.invokevirtual 287, 3) := by decide +kernel
theorem dX11_free_16 : decode cX11_free 16 = .ok (.aload_n 0, 1) := by decide +kernel
theorem dX11_free_17 : decode cX11_free 17 = .ok (.aload_n 3, 1) := by decide +kernel
theorem dX11_free_18 : decode cX11_free 18 = .ok (.invokevirtual 290, 3) := by decide +kernel
theorem dX11_free_21 : decode cX11_free 21 = .ok (.aload_n 3, 1) := by decide +kernel
theorem dX11_free_22 : decode cX11_free 22 = .ok (.iload_n 2, 1) := by decide +kernel
theorem dX11_free_23 : decode cX11_free 23 = .ok (.invokevirtual 300, 3) := by decide +kernel
theorem dX11_free_26 : decode cX11_free 26 = .ok (.aload_n 0, 1) := by decide +kernel
theorem dX11_free_27 : decode cX11_free 27 = .ok (.aload_n 3, 1) := by decide +kernel
theorem dX11_free_28 : decode cX11_free 28 = .ok (.invokevirtual 260, 3) := by decide +kernel
theorem dX11_free_31 : decode cX11_free 31 = .ok (.ireturn, 1) := by decide +kernel
theorem dX11_nodesOf_0 : decode cX11_nodesOf 0 = .ok (.aload_n 0, 1) := by decide +kernel
theorem dX11_nodesOf_1 : decode cX11_nodesOf 1 = .ok (.iload_n 1, 1) := by decide +kernel
theorem dX11_nodesOf_2 : decode cX11_nodesOf 2 = .ok (.invokevirtual 277, 3) := by decide +kernel
theorem dX11_nodesOf_5 : decode cX11_nodesOf 5 = .ok (.astore_n 2, 1) := by decide +kernel
theorem dX11_nodesOf_6 : decode cX11_nodesOf 6 = .ok (.aload_n 0, 1) := by decide +kernel
theorem dX11_nodesOf_7 : decode cX11_nodesOf 7 = .ok (.aload_n 2, 1) := by decide +kernel
theorem dX11_nodesOf_8 : decode cX11_nodesOf 8 = .ok (.invokevirtual 287, 3) := by decide +kernel
theorem dX11_nodesOf_11 : decode cX11_nodesOf 11 = .ok (.aload_n 0, 1) := by decide +kernel
theorem dX11_nodesOf_12 : decode cX11_nodesOf 12 = .ok (.aload_n 2, 1) := by decide +kernel
theorem dX11_nodesOf_13 : decode cX11_nodesOf 13 = .ok (.invokevirtual 290, 3) := by decide +kernel
theorem dX11_nodesOf_16 : decode cX11_nodesOf 16 = .ok (.aload_n 0, 1) := by decide +kernel
theorem dX11_nodesOf_17 : decode cX11_nodesOf 17 = .ok (.aload_n 2, 1) := by decide +kernel
theorem dX11_nodesOf_18 : decode cX11_nodesOf 18 = .ok (.invokevirtual 260, 3) := by decide +kernel
theorem dX11_nodesOf_21 : decode cX11_nodesOf 21 = .ok (.ireturn, 1) := by decide +kernel
theorem dX11_modelsOf_0 : decode cX11_modelsOf 0 = .ok (.aload_n 0, 1) := by decide +kernel
theorem dX11_modelsOf_1 : decode cX11_modelsOf 1 = .ok (.iload_n 1, 1) := by decide +kernel
theorem dX11_modelsOf_2 : decode cX11_modelsOf 2 = .ok (.invokevirtual 277, 3) := by decide +kernel
theorem dX11_modelsOf_5 : decode cX11_modelsOf 5 = .ok (.astore_n 2, 1) := by decide +kernel
theorem dX11_modelsOf_6 : decode cX11_modelsOf 6 = .ok (.aload_n 0, 1) := by decide +kernel
theorem dX11_modelsOf_7 : decode cX11_modelsOf 7 = .ok (.aload_n 2, 1) := by decide +kernel
theorem dX11_modelsOf_8 : decode cX11_modelsOf 8 = .ok (.invokevirtual 287, 3) := by decide +kernel
theorem dX11_modelsOf_11 : decode cX11_modelsOf 11 = .ok (.aload_n 2, 1) := by decide +kernel
theorem dX11_modelsOf_12 : decode cX11_modelsOf 12 = .ok (.invokevirtual 203, 3) := by decide +kernel
theorem dX11_modelsOf_15 : decode cX11_modelsOf 15 = .ok (.i2l, 1) := by decide +kernel
theorem dX11_modelsOf_16 : decode cX11_modelsOf 16 = .ok (.lreturn, 1) := by decide +kernel
theorem dX11_areSame_0 : decode cX11_areSame 0 = .ok (.aload_n 0, 1) := by decide +kernel
theorem dX11_areSame_1 : decode cX11_areSame 1 = .ok (.iload_n 1, 1) := by decide +kernel
theorem dX11_areSame_2 : decode cX11_areSame 2 = .ok (.invokevirtual 277, 3) := by decide +kernel
theorem dX11_areSame_5 : decode cX11_areSame 5 = .ok (.astore_n 3, 1) := by decide +kernel
theorem dX11_areSame_6 : decode cX11_areSame 6 = .ok (.aload_n 0, 1) := by decide +kernel
theorem dX11_areSame_7 : decode cX11_areSame 7 = .ok (.iload_n 2, 1) := by decide +kernel
theorem dX11_areSame_8 : decode cX11_areSame 8 = .ok (.invokevirtual 277, 3) := by decide +kernel
theorem dX11_areSame_11 : decode cX11_areSame 11 = .ok (.astore 4, 2) := by decide +kernel
theorem dX11_areSame_13 : decode cX11_areSame 13 = .ok (.aload_n 0, 1) := by decide +kernel
theorem dX11_areSame_14 : decode cX11_areSame 14 = .ok (.aload_n 3, 1) := by decide +kernel
theorem dX11_areSame_15 : decode cX11_areSame 15 = .ok (.aload 4, 2) := by decide +kernel
theorem dX11_areSame_17 : decode cX11_areSame 17 = .ok (.invokevirtual 303, 3) := by decide +kernel
theorem dX11_areSame_20 : decode cX11_areSame 20 = .ok (.aload_n 3, 1) := by decide +kernel
theorem dX11_areSame_21 : decode cX11_areSame 21 = .ok (.aload 4, 2) := by decide +kernel
theorem dX11_areSame_23 : decode cX11_areSame 23 = .ok (.invokevirtual 307, 3) := by decide +kernel
theorem dX11_areSame_26 : decode cX11_areSame 26 = .ok (.ifCond .eq 16, 3) := by decide +kernel
theorem dX11_areSame_29 : decode cX11_areSame 29 = .ok (.aload 4, 2) := by decide +kernel
theorem dX11_areSame_31 : decode cX11_areSame 31 = .ok (.aload_n 3, 1) := by decide +kernel
theorem dX11_areSame_32 : decode cX11_areSame 32 = .ok (.invokevirtual 307, 3) := by decide +kernel
theorem dX11_areSame_35 : decode cX11_areSame 35 = .ok (.ifCond .eq 7, 3) := by decide +kernel
theorem dX11_areSame_38 : decode cX11_areSame 38 = .ok (.iconst 1, 1) := by decide +kernel
theorem dX11_areSame_39 : decode cX11_areSame 39 = .ok (.goto 4, 3) := by decide +kernel
theorem dX11_areSame_42 : decode cX11_areSame 42 = .ok (.iconst 0, 1) := by decide +kernel
theorem dX11_areSame_43 : decode cX11_areSame 43 = .ok (.ireturn, 1) := by decide +kernel
theorem dX11_isWithin_0 : decode cX11_isWithin 0 = .ok (.aload_n 0, 1) := by decide +kernel
theorem dX11_isWithin_1 : decode cX11_isWithin 1 = .ok (.iload_n 1, 1) := by decide +kernel
theorem dX11_isWithin_2 : decode cX11_isWithin 2 = .ok (.invokevirtual 277, 3) := by decide +kernel
theorem dX11_isWithin_5 : decode cX11_isWithin 5 = .ok (.astore_n 3, 1) := by decide +kernel
theorem dX11_isWithin_6 : decode cX11_isWithin 6 = .ok (.aload_n 0, 1) := by decide +kernel
theorem dX11_isWithin_7 : decode cX11_isWithin 7 = .ok (.iload_n 2, 1) := by decide +kernel
theorem dX11_isWithin_8 : decode cX11_isWithin 8 = .ok (.invokevirtual 277, 3) := by decide +kernel
theorem dX11_isWithin_11 : decode cX11_isWithin 11 = .ok (.astore 4, 2) := by decide +kernel
theorem dX11_isWithin_13 : decode cX11_isWithin 13 = .ok (.aload_n 0, 1) := by decide +kernel
theorem dX11_isWithin_14 : decode cX11_isWithin 14 = .ok (.aload_n 3, 1) := by decide +kernel
theorem dX11_isWithin_15 : decode cX11_isWithin 15 = .ok (.aload 4, 2) := by decide +kernel
theorem dX11_isWithin_17 : decode cX11_isWithin 17 = .ok (.invokevirtual 303, 3) := by decide +kernel
theorem dX11_isWithin_20 : decode cX11_isWithin 20 = .ok (.aload_n 3, 1) := by decide +kernel
theorem dX11_isWithin_21 : decode cX11_isWithin 21 = .ok (.aload 4, 2) := by decide +kernel
theorem dX11_isWithin_23 : decode cX11_isWithin 23 = .ok (.invokevirtual 307, 3) := by decide +kernel
theorem dX11_isWithin_26 : decode cX11_isWithin 26 = .ok (.ireturn, 1) := by decide +kernel
theorem dX11_density_0 : decode cX11_density 0 = .ok (.aload_n 0, 1) := by decide +kernel
theorem dX11_density_1 : decode cX11_density 1 = .ok (.invokevirtual 199, 3) := by decide +kernel
theorem dX11_density_4 : decode cX11_density 4 = .ok (.invokevirtual 203, 3) := by decide +kernel
theorem dX11_density_7 : decode cX11_density 7 = .ok (.i2f, 1) := by decide +kernel
theorem dX11_density_8 : decode cX11_density 8 = .ok (.aload_n 0, 1) := by decide +kernel
theorem dX11_density_9 : decode cX11_density 9 = .ok (.invokevirtual 221, 3) := by decide +kernel
theorem dX11_density_12 : decode cX11_density 12 = .ok (.i2f, 1) := by decide +kernel
theorem dX11_density_13 : decode cX11_density 13 = .ok (.fdiv, 1) := by decide +kernel
theorem dX11_density_14 : decode cX11_density 14 = .ok (.freturn, 1) := by decide +kernel
theorem dX11_meanTrue_0 : decode cX11_meanTrue 0 = .ok (.aload_n 0, 1) := by decide +kernel
theorem dX11_meanTrue_1 : decode cX11_meanTrue 1 = .ok (.invokevirtual 210, 3) := by decide +kernel
theorem dX11_meanTrue_4 : decode cX11_meanTrue 4 = .ok (.lstore_n 1, 1) := by decide +kernel
theorem dX11_meanTrue_5 : decode cX11_meanTrue 5 = .ok (.aload_n 0, 1) := by decide +kernel
theorem dX11_meanTrue_6 : decode cX11_meanTrue 6 = .ok (.invokevirtual 199, 3) := by decide +kernel
theorem dX11_meanTrue_9 : decode cX11_meanTrue 9 = .ok (.astore_n 3, 1) := by decide +kernel
theorem dX11_meanTrue_10 : decode cX11_meanTrue 10 = .ok (.lconst 0, 1) := by decide +kernel
theorem dX11_meanTrue_11 : decode cX11_meanTrue 11 = .ok (.lstore 4, 2) := by decide +kernel
theorem dX11_meanTrue_13 : decode cX11_meanTrue 13 = .ok (.iconst 0, 1) := by decide +kernel
theorem dX11_meanTrue_14 : decode cX11_meanTrue 14 = .ok (.istore 6, 2) := by decide +kernel
theorem dX11_meanTrue_16 : decode cX11_meanTrue 16 = .ok (.iload 6, 2) := by decide +kernel
theorem dX11_meanTrue_18 : decode cX11_meanTrue 18 = .ok (.aload_n 0, 1) := by decide +kernel
theorem dX11_meanTrue_19 : decode cX11_meanTrue 19 = .ok (.invokevirtual 221, 3) := by decide +kernel
theorem dX11_meanTrue_22 : decode cX11_meanTrue 22 = .ok (.if_icmp .ge 39, 3) := by decide +kernel
theorem dX11_meanTrue_25 : decode cX11_meanTrue 25 = .ok (.aload_n 3, 1) := by decide +kernel
theorem dX11_meanTrue_26 : decode cX11_meanTrue 26 = .ok (.iload 6, 2) := by decide +kernel
theorem dX11_meanTrue_28 : decode cX11_meanTrue 28 = .ok (.invokevirtual 224, 3) := by decide +kernel
theorem dX11_meanTrue_31 : decode cX11_meanTrue 31 = .ok (.ifCond .eq 24, 3) := by decide +kernel
theorem dX11_meanTrue_34 : decode cX11_meanTrue 34 = .ok (.lload 4, 2) := by decide +kernel
theorem dX11_meanTrue_36 : decode cX11_meanTrue 36 = .ok (.aload_n 0, 1) := by decide +kernel
theorem dX11_meanTrue_37 : decode cX11_meanTrue 37 = .ok (.getfield 24, 3) := by decide +kernel
theorem dX11_meanTrue_40 : decode cX11_meanTrue 40 = .ok (.iload 6, 2) := by decide +kernel
theorem dX11_meanTrue_42 : decode cX11_meanTrue 42 = .ok (.invokevirtual 245, 3) := by decide +kernel
theorem dX11_meanTrue_45 : decode cX11_meanTrue 45 = .ok (.iload 6, 2) := by decide +kernel
theorem dX11_meanTrue_47 : decode cX11_meanTrue 47 = .ok (.invokestatic 157, 3) := by decide +kernel
theorem dX11_meanTrue_50 : decode cX11_meanTrue 50 = .ok (.i2l, 1) := by decide +kernel
theorem dX11_meanTrue_51 : decode cX11_meanTrue 51 = .ok (.lmul, 1) := by decide +kernel
theorem dX11_meanTrue_52 : decode cX11_meanTrue 52 = .ok (.ladd, 1) := by decide +kernel
theorem dX11_meanTrue_53 : decode cX11_meanTrue 53 = .ok (.lstore 4, 2) := by decide +kernel
theorem dX11_meanTrue_55 : decode cX11_meanTrue 55 = .ok (.iinc 6 1, 3) := by decide +kernel
theorem dX11_meanTrue_58 : decode cX11_meanTrue 58 = .ok (.goto (-42), 3) := by decide +kernel
theorem dX11_meanTrue_61 : decode cX11_meanTrue 61 = .ok (.lload 4, 2) := by decide +kernel
theorem dX11_meanTrue_63 : decode cX11_meanTrue 63 = .ok (.l2d, 1) := by decide +kernel
theorem dX11_meanTrue_64 : decode cX11_meanTrue 64 = .ok (.lload_n 1, 1) := by decide +kernel
theorem dX11_meanTrue_65 : decode cX11_meanTrue 65 = .ok (.l2d, 1) := by decide +kernel
theorem dX11_meanTrue_66 : decode cX11_meanTrue 66 = .ok (.ddiv, 1) := by decide +kernel
theorem dX11_meanTrue_67 : decode cX11_meanTrue 67 = .ok (.dreturn, 1) := by decide +kernel
theorem dX11_checkVariable_0 : decode cX11_checkVariable 0 = .ok (.iload_n 1, 1) := by decide +kernel
theorem dX11_checkVariable_1 : decode cX11_checkVariable 1 = .ok (.ifCond .lt 11, 3) := by decide +kernel
theorem dX11_checkVariable_4 : decode cX11_checkVariable 4 = .ok (.iload_n 1, 1) := by decide +kernel
theorem dX11_checkVariable_5 : decode cX11_checkVariable 5 = .ok (.aload_n 0, 1) := by decide +kernel
theorem dX11_checkVariable_6 : decode cX11_checkVariable 6 = .ok (.getfield 77, 3) := by decide +kernel
theorem dX11_checkVariable_9 : decode cX11_checkVariable 9 = .ok (.if_icmp .lt 14, 3) := by decide +kernel
theorem dX11_checkVariable_12 : decode cX11_checkVariable 12 = .ok (.new 311, 3) := by decide +kernel
theorem dX11_checkVariable_15 : decode cX11_checkVariable 15 = .ok (.dup, 1) := by decide +kernel
theorem dX11_checkVariable_16 : decode cX11_checkVariable 16 = .ok (.ldc_w 313, 3) := by decide +kernel
theorem dX11_checkVariable_19 : decode cX11_checkVariable 19 = .ok (.invokespecial 315, 3) := by decide +kernel
theorem dX11_checkVariable_22 : decode cX11_checkVariable 22 = .ok (.athrow, 1) := by decide +kernel
theorem dX11_checkVariable_23 : decode cX11_checkVariable 23 = .ok (.return_, 1) := by decide +kernel
theorem dX11_checkPlace_0 : decode cX11_checkPlace 0 = .ok (.iload_n 1, 1) := by decide +kernel
theorem dX11_checkPlace_1 : decode cX11_checkPlace 1 = .ok (.ifCond .lt 11, 3) := by decide +kernel
theorem dX11_checkPlace_4 : decode cX11_checkPlace 4 = .ok (.iload_n 1, 1) := by decide +kernel
theorem dX11_checkPlace_5 : decode cX11_checkPlace 5 = .ok (.aload_n 0, 1) := by decide +kernel
theorem dX11_checkPlace_6 : decode cX11_checkPlace 6 = .ok (.getfield 77, 3) := by decide +kernel
theorem dX11_checkPlace_9 : decode cX11_checkPlace 9 = .ok (.if_icmp .lt 14, 3) := by decide +kernel
theorem dX11_checkPlace_12 : decode cX11_checkPlace 12 = .ok (.new 311, 3) := by decide +kernel
theorem dX11_checkPlace_15 : decode cX11_checkPlace 15 = .ok (.dup, 1) := by decide +kernel
theorem dX11_checkPlace_16 : decode cX11_checkPlace 16 = .ok (.ldc_w 316, 3) := by decide +kernel
theorem dX11_checkPlace_19 : decode cX11_checkPlace 19 = .ok (.invokespecial 315, 3) := by decide +kernel
theorem dX11_checkPlace_22 : decode cX11_checkPlace 22 = .ok (.athrow, 1) := by decide +kernel
theorem dX11_checkPlace_23 : decode cX11_checkPlace 23 = .ok (.return_, 1) := by decide +kernel
theorem dX11_checkSet_0 : decode cX11_checkSet 0 = .ok (.iload_n 1, 1) := by decide +kernel
theorem dX11_checkSet_1 : decode cX11_checkSet 1 = .ok (.aload_n 0, 1) := by decide +kernel
theorem dX11_checkSet_2 : decode cX11_checkSet 2 = .ok (.invokevirtual 318, 3) := by decide +kernel
theorem dX11_checkSet_5 : decode cX11_checkSet 5 = .ok (.iconst (-1), 1) := by decide +kernel
theorem dX11_checkSet_6 : decode cX11_checkSet 6 = .ok (.ixor, 1) := by decide +kernel
theorem dX11_checkSet_7 : decode cX11_checkSet 7 = .ok (.iand, 1) := by decide +kernel
theorem dX11_checkSet_8 : decode cX11_checkSet 8 = .ok (.ifCond .eq 14, 3) := by decide +kernel
theorem dX11_checkSet_11 : decode cX11_checkSet 11 = .ok (.new 101, 3) := by decide +kernel
theorem dX11_checkSet_14 : decode cX11_checkSet 14 = .ok (.dup, 1) := by decide +kernel
theorem dX11_checkSet_15 : decode cX11_checkSet 15 = .ok (.ldc_w 321, 3) := by decide +kernel
theorem dX11_checkSet_18 : decode cX11_checkSet 18 = .ok (.invokespecial 105, 3) := by decide +kernel
theorem dX11_checkSet_21 : decode cX11_checkSet 21 = .ok (.athrow, 1) := by decide +kernel
theorem dX11_checkSet_22 : decode cX11_checkSet 22 = .ok (.return_, 1) := by decide +kernel
theorem dX11_checkNotEmpty_0 : decode cX11_checkNotEmpty 0 = .ok (.iload_n 1, 1) := by decide +kernel
theorem dX11_checkNotEmpty_1 : decode cX11_checkNotEmpty 1 = .ok (.ifCond .ne 14, 3) := by decide +kernel
theorem dX11_checkNotEmpty_4 : decode cX11_checkNotEmpty 4 = .ok (.new 101, 3) := by decide +kernel
theorem dX11_checkNotEmpty_7 : decode cX11_checkNotEmpty 7 = .ok (.dup, 1) := by decide +kernel
theorem dX11_checkNotEmpty_8 : decode cX11_checkNotEmpty 8 = .ok (.ldc_w 323, 3) := by decide +kernel
theorem dX11_checkNotEmpty_11 : decode cX11_checkNotEmpty 11 = .ok (.invokespecial 105, 3) := by decide +kernel
theorem dX11_checkNotEmpty_14 : decode cX11_checkNotEmpty 14 = .ok (.athrow, 1) := by decide +kernel
theorem dX11_checkNotEmpty_15 : decode cX11_checkNotEmpty 15 = .ok (.return_, 1) := by decide +kernel
theorem dX11_checkValue_0 : decode cX11_checkValue 0 = .ok (.iload_n 1, 1) := by decide +kernel
theorem dX11_checkValue_1 : decode cX11_checkValue 1 = .ok (.ifCond .eq 19, 3) := by decide +kernel
theorem dX11_checkValue_4 : decode cX11_checkValue 4 = .ok (.iload_n 1, 1) := by decide +kernel
theorem dX11_checkValue_5 : decode cX11_checkValue 5 = .ok (.iconst 1, 1) := by decide +kernel
theorem dX11_checkValue_6 : decode cX11_checkValue 6 = .ok (.if_icmp .eq 14, 3) := by decide +kernel
theorem dX11_checkValue_9 : decode cX11_checkValue 9 = .ok (.new 101, 3) := by decide +kernel
theorem dX11_checkValue_12 : decode cX11_checkValue 12 = .ok (.dup, 1) := by decide +kernel
theorem dX11_checkValue_13 : decode cX11_checkValue 13 = .ok (.ldc_w 325, 3) := by decide +kernel
theorem dX11_checkValue_16 : decode cX11_checkValue 16 = .ok (.invokespecial 105, 3) := by decide +kernel
theorem dX11_checkValue_19 : decode cX11_checkValue 19 = .ok (.athrow, 1) := by decide +kernel
theorem dX11_checkValue_20 : decode cX11_checkValue 20 = .ok (.return_, 1) := by decide +kernel
theorem dX11_checkRoom_0 : decode cX11_checkRoom 0 = .ok (.aload_n 0, 1) := by decide +kernel
theorem dX11_checkRoom_1 : decode cX11_checkRoom 1 = .ok (.getfield 34, 3) := by decide +kernel
theorem dX11_checkRoom_4 : decode cX11_checkRoom 4 = .ok (.invokevirtual 327, 3) := by decide +kernel
theorem dX11_checkRoom_7 : decode cX11_checkRoom 7 = .ok (.bipush 20, 2) := by decide +kernel
theorem dX11_checkRoom_9 : decode cX11_checkRoom 9 = .ok (.if_icmp .lt 14, 3) := by decide +kernel
theorem dX11_checkRoom_12 : decode cX11_checkRoom 12 = .ok (.new 81, 3) := by decide +kernel
theorem dX11_checkRoom_15 : decode cX11_checkRoom 15 = .ok (.dup, 1) := by decide +kernel
theorem dX11_checkRoom_16 : decode cX11_checkRoom 16 = .ok (.ldc_w 330, 3) := by decide +kernel
theorem dX11_checkRoom_19 : decode cX11_checkRoom 19 = .ok (.invokespecial 85, 3) := by decide +kernel
theorem dX11_checkRoom_22 : decode cX11_checkRoom 22 = .ok (.athrow, 1) := by decide +kernel
theorem dX11_checkRoom_23 : decode cX11_checkRoom 23 = .ok (.return_, 1) := by decide +kernel
theorem dX11_checkOpen_0 : decode cX11_checkOpen 0 = .ok (.aload_n 0, 1) := by decide +kernel
theorem dX11_checkOpen_1 : decode cX11_checkOpen 1 = .ok (.iload_n 1, 1) := by decide +kernel
theorem dX11_checkOpen_2 : decode cX11_checkOpen 2 = .ok (.invokevirtual 170, 3) := by decide +kernel
theorem dX11_checkOpen_5 : decode cX11_checkOpen 5 = .ok (.ifCond .eq 14, 3) := by decide +kernel
theorem dX11_checkOpen_8 : decode cX11_checkOpen 8 = .ok (.new 238, 3) := by decide +kernel
theorem dX11_checkOpen_11 : decode cX11_checkOpen 11 = .ok (.dup, 1) := by decide +kernel
theorem dX11_checkOpen_12 : decode cX11_checkOpen 12 = .ok (.ldc_w 332, 3) := by decide +kernel
theorem dX11_checkOpen_15 : decode cX11_checkOpen 15 = .ok (.invokespecial 242, 3) := by decide +kernel
theorem dX11_checkOpen_18 : decode cX11_checkOpen 18 = .ok (.athrow, 1) := by decide +kernel
theorem dX11_checkOpen_19 : decode cX11_checkOpen 19 = .ok (.return_, 1) := by decide +kernel
theorem dX11_checkKept_0 : decode cX11_checkKept 0 = .ok (.aload_n 1, 1) := by decide +kernel
theorem dX11_checkKept_1 : decode cX11_checkKept 1 = .ok (.invokevirtual 334, 3) := by decide +kernel
theorem dX11_checkKept_4 : decode cX11_checkKept 4 = .ok (.ifCond .ne 14, 3) := by decide +kernel
theorem dX11_checkKept_7 : decode cX11_checkKept 7 = .ok (.new 238, 3) := by decide +kernel
theorem dX11_checkKept_10 : decode cX11_checkKept 10 = .ok (.dup, 1) := by decide +kernel
theorem dX11_checkKept_11 : decode cX11_checkKept 11 = .ok (.ldc_w 338, 3) := by decide +kernel
theorem dX11_checkKept_14 : decode cX11_checkKept 14 = .ok (.invokespecial 242, 3) := by decide +kernel
theorem dX11_checkKept_17 : decode cX11_checkKept 17 = .ok (.athrow, 1) := by decide +kernel
theorem dX11_checkKept_18 : decode cX11_checkKept 18 = .ok (.return_, 1) := by decide +kernel
theorem dX11_checkAsManyAsNow_0 : decode cX11_checkAsManyAsNow 0 = .ok (.aload_n 1, 1) := by decide +kernel
theorem dX11_checkAsManyAsNow_1 : decode cX11_checkAsManyAsNow 1 = .ok (.invokevirtual 340, 3) := by decide +kernel
theorem dX11_checkAsManyAsNow_4 : decode cX11_checkAsManyAsNow 4 = .ok (.aload_n 0, 1) := by decide +kernel
theorem dX11_checkAsManyAsNow_5 : decode cX11_checkAsManyAsNow 5 = .ok (.getfield 77, 3) := by decide +kernel
theorem dX11_checkAsManyAsNow_8 : decode cX11_checkAsManyAsNow 8 = .ok (.if_icmp .eq 14, 3) := by decide +kernel
theorem dX11_checkAsManyAsNow_11 : decode cX11_checkAsManyAsNow 11 = .ok (.new 342, 3) := by decide +kernel
theorem dX11_checkAsManyAsNow_14 : decode cX11_checkAsManyAsNow 14 = .ok (.dup, 1) := by decide +kernel
theorem dX11_checkAsManyAsNow_15 : decode cX11_checkAsManyAsNow 15 = .ok (.ldc_w 344, 3) := by decide +kernel
theorem dX11_checkAsManyAsNow_18 : decode cX11_checkAsManyAsNow 18 = .ok (.invokespecial 346, 3) := by decide +kernel
theorem dX11_checkAsManyAsNow_21 : decode cX11_checkAsManyAsNow 21 = .ok (.athrow, 1) := by decide +kernel
theorem dX11_checkAsManyAsNow_22 : decode cX11_checkAsManyAsNow 22 = .ok (.return_, 1) := by decide +kernel
theorem dX11_checkAlike_0 : decode cX11_checkAlike 0 = .ok (.aload_n 0, 1) := by decide +kernel
theorem dX11_checkAlike_1 : decode cX11_checkAlike 1 = .ok (.aload_n 1, 1) := by decide +kernel
theorem dX11_checkAlike_2 : decode cX11_checkAlike 2 = .ok (.invokevirtual 287, 3) := by decide +kernel
theorem dX11_checkAlike_5 : decode cX11_checkAlike 5 = .ok (.aload_n 0, 1) := by decide +kernel
theorem dX11_checkAlike_6 : decode cX11_checkAlike 6 = .ok (.aload_n 2, 1) := by decide +kernel
theorem dX11_checkAlike_7 : decode cX11_checkAlike 7 = .ok (.invokevirtual 287, 3) := by decide +kernel
theorem dX11_checkAlike_10 : decode cX11_checkAlike 10 = .ok (.aload_n 1, 1) := by decide +kernel
theorem dX11_checkAlike_11 : decode cX11_checkAlike 11 = .ok (.invokevirtual 340, 3) := by decide +kernel
theorem dX11_checkAlike_14 : decode cX11_checkAlike 14 = .ok (.aload_n 2, 1) := by decide +kernel
theorem dX11_checkAlike_15 : decode cX11_checkAlike 15 = .ok (.invokevirtual 340, 3) := by decide +kernel
theorem dX11_checkAlike_18 : decode cX11_checkAlike 18 = .ok (.if_icmp .eq 14, 3) := by decide +kernel
theorem dX11_checkAlike_21 : decode cX11_checkAlike 21 = .ok (.new 342, 3) := by decide +kernel
theorem dX11_checkAlike_24 : decode cX11_checkAlike 24 = .ok (.dup, 1) := by decide +kernel
theorem dX11_checkAlike_25 : decode cX11_checkAlike 25 = .ok (.ldc_w 347, 3) := by decide +kernel
theorem dX11_checkAlike_28 : decode cX11_checkAlike 28 = .ok (.invokespecial 346, 3) := by decide +kernel
theorem dX11_checkAlike_31 : decode cX11_checkAlike 31 = .ok (.athrow, 1) := by decide +kernel
theorem dX11_checkAlike_32 : decode cX11_checkAlike 32 = .ok (.return_, 1) := by decide +kernel
theorem dX11_constraintAt_0 : decode cX11_constraintAt 0 = .ok (.aload_n 0, 1) := by decide +kernel
theorem dX11_constraintAt_1 : decode cX11_constraintAt 1 = .ok (.getfield 34, 3) := by decide +kernel
theorem dX11_constraintAt_4 : decode cX11_constraintAt 4 = .ok (.iload_n 1, 1) := by decide +kernel
theorem dX11_constraintAt_5 : decode cX11_constraintAt 5 = .ok (.invokevirtual 349, 3) := by decide +kernel
theorem dX11_constraintAt_8 : decode cX11_constraintAt 8 = .ok (.astore_n 2, 1) := by decide +kernel
theorem dX11_constraintAt_9 : decode cX11_constraintAt 9 = .ok (.aload_n 2, 1) := by decide +kernel
theorem dX11_constraintAt_10 : decode cX11_constraintAt 10 = .ok (.ifnonnull 14, 3) := by decide +kernel
theorem dX11_constraintAt_13 : decode cX11_constraintAt 13 = .ok (.new 311, 3) := by decide +kernel
theorem dX11_constraintAt_16 : decode cX11_constraintAt 16 = .ok (.dup, 1) := by decide +kernel
theorem dX11_constraintAt_17 : decode cX11_constraintAt 17 = .ok (.ldc_w 351, 3) := by decide +kernel
theorem dX11_constraintAt_20 : decode cX11_constraintAt 20 = .ok (.invokespecial 315, 3) := by decide +kernel
theorem dX11_constraintAt_23 : decode cX11_constraintAt 23 = .ok (.athrow, 1) := by decide +kernel
theorem dX11_constraintAt_24 : decode cX11_constraintAt 24 = .ok (.aload_n 2, 1) := by decide +kernel
theorem dX11_constraintAt_25 : decode cX11_constraintAt 25 = .ok (.areturn, 1) := by decide +kernel
theorem dX11_slotAt_0 : decode cX11_slotAt 0 = .ok (.iload_n 1, 1) := by decide +kernel
theorem dX11_slotAt_1 : decode cX11_slotAt 1 = .ok (.ifCond .lt 21, 3) := by decide +kernel
theorem dX11_slotAt_4 : decode cX11_slotAt 4 = .ok (.iload_n 1, 1) := by decide +kernel
theorem dX11_slotAt_5 : decode cX11_slotAt 5 = .ok (.aload_n 0, 1) := by decide +kernel
theorem dX11_slotAt_6 : decode cX11_slotAt 6 = .ok (.getfield 69, 3) := by decide +kernel
theorem dX11_slotAt_9 : decode cX11_slotAt 9 = .ok (.arraylength, 1) := by decide +kernel
theorem dX11_slotAt_10 : decode cX11_slotAt 10 = .ok (.if_icmp .ge 12, 3) := by decide +kernel
theorem dX11_slotAt_13 : decode cX11_slotAt 13 = .ok (.aload_n 0, 1) := by decide +kernel
theorem dX11_slotAt_14 : decode cX11_slotAt 14 = .ok (.getfield 69, 3) := by decide +kernel
theorem dX11_slotAt_17 : decode cX11_slotAt 17 = .ok (.iload_n 1, 1) := by decide +kernel
theorem dX11_slotAt_18 : decode cX11_slotAt 18 = .ok (.aaload, 1) := by decide +kernel
theorem dX11_slotAt_19 : decode cX11_slotAt 19 = .ok (.goto 4, 3) := by decide +kernel
theorem dX11_slotAt_22 : decode cX11_slotAt 22 = .ok (.aconst_null, 1) := by decide +kernel
theorem dX11_slotAt_23 : decode cX11_slotAt 23 = .ok (.astore_n 2, 1) := by decide +kernel
theorem dX11_slotAt_24 : decode cX11_slotAt 24 = .ok (.aload_n 2, 1) := by decide +kernel
theorem dX11_slotAt_25 : decode cX11_slotAt 25 = .ok (.ifnonnull 14, 3) := by decide +kernel
theorem dX11_slotAt_28 : decode cX11_slotAt 28 = .ok (.new 101, 3) := by decide +kernel
theorem dX11_slotAt_31 : decode cX11_slotAt 31 = .ok (.dup, 1) := by decide +kernel
theorem dX11_slotAt_32 : decode cX11_slotAt 32 = .ok (.ldc_w 353, 3) := by decide +kernel
theorem dX11_slotAt_35 : decode cX11_slotAt 35 = .ok (.invokespecial 105, 3) := by decide +kernel
theorem dX11_slotAt_38 : decode cX11_slotAt 38 = .ok (.athrow, 1) := by decide +kernel
theorem dX11_slotAt_39 : decode cX11_slotAt 39 = .ok (.aload_n 2, 1) := by decide +kernel
theorem dX11_slotAt_40 : decode cX11_slotAt 40 = .ok (.areturn, 1) := by decide +kernel
theorem dX11_positiveWeight_0 : decode cX11_positiveWeight 0 = .ok (.aload_n 0, 1) := by decide +kernel
theorem dX11_positiveWeight_1 : decode cX11_positiveWeight 1 = .ok (.iconst 0, 1) := by decide +kernel
theorem dX11_positiveWeight_2 : decode cX11_positiveWeight 2 = .ok (.iconst 0, 1) := by decide +kernel
theorem dX11_positiveWeight_3 : decode cX11_positiveWeight 3 = .ok (.invokevirtual 206, 3) := by decide +kernel
theorem dX11_positiveWeight_6 : decode cX11_positiveWeight 6 = .ok (.lstore_n 1, 1) := by decide +kernel
theorem dX11_positiveWeight_7 : decode cX11_positiveWeight 7 = .ok (.lload_n 1, 1) := by decide +kernel
theorem dX11_positiveWeight_8 : decode cX11_positiveWeight 8 = .ok (.lconst 0, 1) := by decide +kernel
theorem dX11_positiveWeight_9 : decode cX11_positiveWeight 9 = .ok (.lcmp, 1) := by decide +kernel
theorem dX11_positiveWeight_10 : decode cX11_positiveWeight 10 = .ok (.ifCond .ne 14, 3) := by decide +kernel
theorem dX11_positiveWeight_13 : decode cX11_positiveWeight 13 = .ok (.new 238, 3) := by decide +kernel
theorem dX11_positiveWeight_16 : decode cX11_positiveWeight 16 = .ok (.dup, 1) := by decide +kernel
theorem dX11_positiveWeight_17 : decode cX11_positiveWeight 17 = .ok (.ldc_w 355, 3) := by decide +kernel
theorem dX11_positiveWeight_20 : decode cX11_positiveWeight 20 = .ok (.invokespecial 242, 3) := by decide +kernel
theorem dX11_positiveWeight_23 : decode cX11_positiveWeight 23 = .ok (.athrow, 1) := by decide +kernel
theorem dX11_positiveWeight_24 : decode cX11_positiveWeight 24 = .ok (.lload_n 1, 1) := by decide +kernel
theorem dX11_positiveWeight_25 : decode cX11_positiveWeight 25 = .ok (.lreturn, 1) := by decide +kernel
theorem dX11_countAssignments_0 : decode cX11_countAssignments 0 = .ok (.iconst 1, 1) := by decide +kernel
theorem dX11_countAssignments_1 : decode cX11_countAssignments 1 = .ok (.aload_n 0, 1) := by decide +kernel
theorem dX11_countAssignments_2 : decode cX11_countAssignments 2 = .ok (.getfield 77, 3) := by decide +kernel
theorem dX11_countAssignments_5 : decode cX11_countAssignments 5 = .ok (.ishl, 1) := by decide +kernel
theorem dX11_countAssignments_6 : decode cX11_countAssignments 6 = .ok (.ireturn, 1) := by decide +kernel
theorem dX11_everyVariable_0 : decode cX11_everyVariable 0 = .ok (.aload_n 0, 1) := by decide +kernel
theorem dX11_everyVariable_1 : decode cX11_everyVariable 1 = .ok (.invokevirtual 221, 3) := by decide +kernel
theorem dX11_everyVariable_4 : decode cX11_everyVariable 4 = .ok (.iconst 1, 1) := by decide +kernel
theorem dX11_everyVariable_5 : decode cX11_everyVariable 5 = .ok (.isub, 1) := by decide +kernel
theorem dX11_everyVariable_6 : decode cX11_everyVariable 6 = .ok (.ireturn, 1) := by decide +kernel
theorem dX11_openVariables_0 : decode cX11_openVariables 0 = .ok (.aload_n 0, 1) := by decide +kernel
theorem dX11_openVariables_1 : decode cX11_openVariables 1 = .ok (.invokevirtual 318, 3) := by decide +kernel
theorem dX11_openVariables_4 : decode cX11_openVariables 4 = .ok (.aload_n 0, 1) := by decide +kernel
theorem dX11_openVariables_5 : decode cX11_openVariables 5 = .ok (.getfield 176, 3) := by decide +kernel
theorem dX11_openVariables_8 : decode cX11_openVariables 8 = .ok (.iconst (-1), 1) := by decide +kernel
theorem dX11_openVariables_9 : decode cX11_openVariables 9 = .ok (.ixor, 1) := by decide +kernel
theorem dX11_openVariables_10 : decode cX11_openVariables 10 = .ok (.iand, 1) := by decide +kernel
theorem dX11_openVariables_11 : decode cX11_openVariables 11 = .ok (.ireturn, 1) := by decide +kernel
theorem dX11_isSettled_0 : decode cX11_isSettled 0 = .ok (.aload_n 0, 1) := by decide +kernel
theorem dX11_isSettled_1 : decode cX11_isSettled 1 = .ok (.getfield 176, 3) := by decide +kernel
theorem dX11_isSettled_4 : decode cX11_isSettled 4 = .ok (.iload_n 1, 1) := by decide +kernel
theorem dX11_isSettled_5 : decode cX11_isSettled 5 = .ok (.ishr, 1) := by decide +kernel
theorem dX11_isSettled_6 : decode cX11_isSettled 6 = .ok (.iconst 1, 1) := by decide +kernel
theorem dX11_isSettled_7 : decode cX11_isSettled 7 = .ok (.iand, 1) := by decide +kernel
theorem dX11_isSettled_8 : decode cX11_isSettled 8 = .ok (.ifCond .eq 7, 3) := by decide +kernel
theorem dX11_isSettled_11 : decode cX11_isSettled 11 = .ok (.iconst 1, 1) := by decide +kernel
theorem dX11_isSettled_12 : decode cX11_isSettled 12 = .ok (.goto 4, 3) := by decide +kernel
theorem dX11_isSettled_15 : decode cX11_isSettled 15 = .ok (.iconst 0, 1) := by decide +kernel
theorem dX11_isSettled_16 : decode cX11_isSettled 16 = .ok (.ireturn, 1) := by decide +kernel
theorem dX11_tell_0 : decode cX11_tell 0 = .ok (.aload_n 0, 1) := by decide +kernel
theorem dX11_tell_1 : decode cX11_tell 1 = .ok (.iconst 0, 1) := by decide +kernel
theorem dX11_tell_2 : decode cX11_tell 2 = .ok (.putfield 94, 3) := by decide +kernel
theorem dX11_tell_5 : decode cX11_tell 5 = .ok (.aload_n 0, 1) := by decide +kernel
theorem dX11_tell_6 : decode cX11_tell 6 = .ok (.getfield 34, 3) := by decide +kernel
theorem dX11_tell_9 : decode cX11_tell 9 = .ok (.aload_n 1, 1) := by decide +kernel
theorem dX11_tell_10 : decode cX11_tell 10 = .ok (.invokevirtual 357, 3) := by decide +kernel
theorem dX11_tell_13 : decode cX11_tell 13 = .ok (.ireturn, 1) := by decide +kernel
theorem dX11_multiplyWeights_0 : decode cX11_multiplyWeights 0 = .ok (.aload_n 0, 1) := by decide +kernel
theorem dX11_multiplyWeights_1 : decode cX11_multiplyWeights 1 = .ok (.getfield 24, 3) := by decide +kernel
theorem dX11_multiplyWeights_4 : decode cX11_multiplyWeights 4 = .ok (.iconst 0, 1) := by decide +kernel
theorem dX11_multiplyWeights_5 : decode cX11_multiplyWeights 5 = .ok (.lconst 1, 1) := by decide +kernel
theorem dX11_multiplyWeights_6 : decode cX11_multiplyWeights 6 = .ok (.invokevirtual 73, 3) := by decide +kernel
theorem dX11_multiplyWeights_9 : decode cX11_multiplyWeights 9 = .ok (.iconst 0, 1) := by decide +kernel
theorem dX11_multiplyWeights_10 : decode cX11_multiplyWeights 10 = .ok (.istore_n 1, 1) := by decide +kernel
theorem dX11_multiplyWeights_11 : decode cX11_multiplyWeights 11 = .ok (.iload_n 1, 1) := by decide +kernel
theorem dX11_multiplyWeights_12 : decode cX11_multiplyWeights 12 = .ok (.aload_n 0, 1) := by decide +kernel
theorem dX11_multiplyWeights_13 : decode cX11_multiplyWeights 13 = .ok (.getfield 77, 3) := by decide +kernel
theorem dX11_multiplyWeights_16 : decode cX11_multiplyWeights 16 = .ok (.if_icmp .ge 89, 3) := by decide +kernel
theorem dX11_multiplyWeights_19 : decode cX11_multiplyWeights 19 = .ok (.iconst 1, 1) := by decide +kernel
theorem dX11_multiplyWeights_20 : decode cX11_multiplyWeights 20 = .ok (.iload_n 1, 1) := by decide +kernel
theorem dX11_multiplyWeights_21 : decode cX11_multiplyWeights 21 = .ok (.ishl, 1) := by decide +kernel
theorem dX11_multiplyWeights_22 : decode cX11_multiplyWeights 22 = .ok (.istore_n 2, 1) := by decide +kernel
theorem dX11_multiplyWeights_23 : decode cX11_multiplyWeights 23 = .ok (.aload_n 0, 1) := by decide +kernel
theorem dX11_multiplyWeights_24 : decode cX11_multiplyWeights 24 = .ok (.getfield 14, 3) := by decide +kernel
theorem dX11_multiplyWeights_27 : decode cX11_multiplyWeights 27 = .ok (.iload_n 1, 1) := by decide +kernel
theorem dX11_multiplyWeights_28 : decode cX11_multiplyWeights 28 = .ok (.invokevirtual 106, 3) := by decide +kernel
theorem dX11_multiplyWeights_31 : decode cX11_multiplyWeights 31 = .ok (.i2l, 1) := by decide +kernel
theorem dX11_multiplyWeights_32 : decode cX11_multiplyWeights 32 = .ok (.lstore_n 3, 1) := by decide +kernel
theorem dX11_multiplyWeights_33 : decode cX11_multiplyWeights 33 = .ok (.aload_n 0, 1) := by decide +kernel
theorem dX11_multiplyWeights_34 : decode cX11_multiplyWeights 34 = .ok (.getfield 18, 3) := by decide +kernel
theorem dX11_multiplyWeights_37 : decode cX11_multiplyWeights 37 = .ok (.iload_n 1, 1) := by decide +kernel
theorem dX11_multiplyWeights_38 : decode cX11_multiplyWeights 38 = .ok (.invokevirtual 106, 3) := by decide +kernel
theorem dX11_multiplyWeights_41 : decode cX11_multiplyWeights 41 = .ok (.i2l, 1) := by decide +kernel
theorem dX11_multiplyWeights_42 : decode cX11_multiplyWeights 42 = .ok (.lstore 5, 2) := by decide +kernel
theorem dX11_multiplyWeights_44 : decode cX11_multiplyWeights 44 = .ok (.iconst 0, 1) := by decide +kernel
theorem dX11_multiplyWeights_45 : decode cX11_multiplyWeights 45 = .ok (.istore 7, 2) := by decide +kernel
theorem dX11_multiplyWeights_47 : decode cX11_multiplyWeights 47 = .ok (.iload 7, 2) := by decide +kernel
theorem dX11_multiplyWeights_49 : decode cX11_multiplyWeights 49 = .ok (.iload_n 2, 1) := by decide +kernel
theorem dX11_multiplyWeights_50 : decode cX11_multiplyWeights 50 = .ok (.if_icmp .ge 49, 3) := by decide +kernel
theorem dX11_multiplyWeights_53 : decode cX11_multiplyWeights 53 = .ok (.aload_n 0, 1) := by decide +kernel
theorem dX11_multiplyWeights_54 : decode cX11_multiplyWeights 54 = .ok (.getfield 24, 3) := by decide +kernel
theorem dX11_multiplyWeights_57 : decode cX11_multiplyWeights 57 = .ok (.iload 7, 2) := by decide +kernel
theorem dX11_multiplyWeights_59 : decode cX11_multiplyWeights 59 = .ok (.invokevirtual 245, 3) := by decide +kernel
theorem dX11_multiplyWeights_62 : decode cX11_multiplyWeights 62 = .ok (.lstore 8, 2) := by decide +kernel
theorem dX11_multiplyWeights_64 : decode cX11_multiplyWeights 64 = .ok (.aload_n 0, 1) := by decide +kernel
theorem dX11_multiplyWeights_65 : decode cX11_multiplyWeights 65 = .ok (.getfield 24, 3) := by decide +kernel
theorem dX11_multiplyWeights_68 : decode cX11_multiplyWeights 68 = .ok (.iload 7, 2) := by decide +kernel
theorem dX11_multiplyWeights_70 : decode cX11_multiplyWeights 70 = .ok (.lload 8, 2) := by decide +kernel
theorem dX11_multiplyWeights_72 : decode cX11_multiplyWeights 72 = .ok (.lload_n 3, 1) := by decide +kernel
theorem dX11_multiplyWeights_73 : decode cX11_multiplyWeights 73 = .ok (.lmul, 1) := by decide +kernel
theorem dX11_multiplyWeights_74 : decode cX11_multiplyWeights 74 = .ok (.invokevirtual 73, 3) := by decide +kernel
theorem dX11_multiplyWeights_77 : decode cX11_multiplyWeights 77 = .ok (.aload_n 0, 1) := by decide +kernel
theorem dX11_multiplyWeights_78 : decode cX11_multiplyWeights 78 = .ok (.getfield 24, 3) := by decide +kernel
theorem dX11_multiplyWeights_81 : decode cX11_multiplyWeights 81 = .ok (.iload 7, 2) := by decide +kernel
theorem dX11_multiplyWeights_83 : decode cX11_multiplyWeights 83 = .ok (.iload_n 2, 1) := by decide +kernel
theorem dX11_multiplyWeights_84 : decode cX11_multiplyWeights 84 = .ok (.ior, 1) := by decide +kernel
theorem dX11_multiplyWeights_85 : decode cX11_multiplyWeights 85 = .ok (.lload 8, 2) := by decide +kernel
theorem dX11_multiplyWeights_87 : decode cX11_multiplyWeights 87 = .ok (.lload 5, 2) := by decide +kernel
theorem dX11_multiplyWeights_89 : decode cX11_multiplyWeights 89 = .ok (.lmul, 1) := by decide +kernel
theorem dX11_multiplyWeights_90 : decode cX11_multiplyWeights 90 = .ok (.invokevirtual 73, 3) := by decide +kernel
theorem dX11_multiplyWeights_93 : decode cX11_multiplyWeights 93 = .ok (.iinc 7 1, 3) := by decide +kernel
theorem dX11_multiplyWeights_96 : decode cX11_multiplyWeights 96 = .ok (.goto (-49), 3) := by decide +kernel
theorem dX11_multiplyWeights_99 : decode cX11_multiplyWeights 99 = .ok (.iinc 1 1, 3) := by decide +kernel
theorem dX11_multiplyWeights_102 : decode cX11_multiplyWeights 102 = .ok (.goto (-91), 3) := by decide +kernel
theorem dX11_multiplyWeights_105 : decode cX11_multiplyWeights 105 = .ok (.return_, 1) := by decide +kernel
theorem dX11_freshModels_0 : decode cX11_freshModels 0 = .ok (.aload_n 0, 1) := by decide +kernel
theorem dX11_freshModels_1 : decode cX11_freshModels 1 = .ok (.getfield 94, 3) := by decide +kernel
theorem dX11_freshModels_4 : decode cX11_freshModels 4 = .ok (.ifCond .ne 76, 3) := by decide +kernel
theorem dX11_freshModels_7 : decode cX11_freshModels 7 = .ok (.aload_n 0, 1) := by decide +kernel
theorem dX11_freshModels_8 : decode cX11_freshModels 8 = .ok (.getfield 48, 3) := by decide +kernel
theorem dX11_freshModels_11 : decode cX11_freshModels 11 = .ok (.aload_n 0, 1) := by decide +kernel
theorem dX11_freshModels_12 : decode cX11_freshModels 12 = .ok (.getfield 77, 3) := by decide +kernel
theorem dX11_freshModels_15 : decode cX11_freshModels 15 = .ok (.invokevirtual 218, 3) := by decide +kernel
theorem dX11_freshModels_18 : decode cX11_freshModels 18 = .ok (.aload_n 0, 1) := by decide +kernel
theorem dX11_freshModels_19 : decode cX11_freshModels 19 = .ok (.getfield 34, 3) := by decide +kernel
theorem dX11_freshModels_22 : decode cX11_freshModels 22 = .ok (.invokevirtual 153, 3) := by decide +kernel
theorem dX11_freshModels_25 : decode cX11_freshModels 25 = .ok (.istore_n 1, 1) := by decide +kernel
theorem dX11_freshModels_26 : decode cX11_freshModels 26 = .ok (.iconst 0, 1) := by decide +kernel
theorem dX11_freshModels_27 : decode cX11_freshModels 27 = .ok (.istore_n 2, 1) := by decide +kernel
theorem dX11_freshModels_28 : decode cX11_freshModels 28 = .ok (.iload_n 2, 1) := by decide +kernel
theorem dX11_freshModels_29 : decode cX11_freshModels 29 = .ok (.aload_n 0, 1) := by decide +kernel
theorem dX11_freshModels_30 : decode cX11_freshModels 30 = .ok (.invokevirtual 221, 3) := by decide +kernel
theorem dX11_freshModels_33 : decode cX11_freshModels 33 = .ok (.if_icmp .ge 42, 3) := by decide +kernel
theorem dX11_freshModels_36 : decode cX11_freshModels 36 = .ok (.iload_n 2, 1) := by decide +kernel
theorem dX11_freshModels_37 : decode cX11_freshModels 37 = .ok (.aload_n 0, 1) := by decide +kernel
theorem dX11_freshModels_38 : decode cX11_freshModels 38 = .ok (.getfield 176, 3) := by decide +kernel
theorem dX11_freshModels_41 : decode cX11_freshModels 41 = .ok (.iand, 1) := by decide +kernel
theorem dX11_freshModels_42 : decode cX11_freshModels 42 = .ok (.aload_n 0, 1) := by decide +kernel
theorem dX11_freshModels_43 : decode cX11_freshModels 43 = .ok (.getfield 173, 3) := by decide +kernel
theorem dX11_freshModels_46 : decode cX11_freshModels 46 = .ok (.if_icmp .ne 23, 3) := by decide +kernel
theorem dX11_freshModels_49 : decode cX11_freshModels 49 = .ok (.aload_n 0, 1) := by decide +kernel
theorem dX11_freshModels_50 : decode cX11_freshModels 50 = .ok (.getfield 34, 3) := by decide +kernel
theorem dX11_freshModels_53 : decode cX11_freshModels 53 = .ok (.iload_n 1, 1) := by decide +kernel
theorem dX11_freshModels_54 : decode cX11_freshModels 54 = .ok (.iload_n 2, 1) := by decide +kernel
theorem dX11_freshModels_55 : decode cX11_freshModels 55 = .ok (.invokevirtual 188, 3) := by decide +kernel
theorem dX11_freshModels_58 : decode cX11_freshModels 58 = .ok (.ifCond .eq 11, 3) := by decide +kernel
theorem dX11_freshModels_61 : decode cX11_freshModels 61 = .ok (.aload_n 0, 1) := by decide +kernel
theorem dX11_freshModels_62 : decode cX11_freshModels 62 = .ok (.getfield 48, 3) := by decide +kernel
theorem dX11_freshModels_65 : decode cX11_freshModels 65 = .ok (.iload_n 2, 1) := by decide +kernel
theorem dX11_freshModels_66 : decode cX11_freshModels 66 = .ok (.invokevirtual 227, 3) := by decide +kernel
theorem dX11_freshModels_69 : decode cX11_freshModels 69 = .ok (.iinc 2 1, 3) := by decide +kernel
theorem dX11_freshModels_72 : decode cX11_freshModels 72 = .ok (.goto (-44), 3) := by decide +kernel
theorem dX11_freshModels_75 : decode cX11_freshModels 75 = .ok (.aload_n 0, 1) := by decide +kernel
theorem dX11_freshModels_76 : decode cX11_freshModels 76 = .ok (.iconst 1, 1) := by decide +kernel
theorem dX11_freshModels_77 : decode cX11_freshModels 77 = .ok (.putfield 94, 3) := by decide +kernel
theorem dX11_freshModels_80 : decode cX11_freshModels 80 = .ok (.aload_n 0, 1) := by decide +kernel
theorem dX11_freshModels_81 : decode cX11_freshModels 81 = .ok (.getfield 48, 3) := by decide +kernel
theorem dX11_freshModels_84 : decode cX11_freshModels 84 = .ok (.areturn, 1) := by decide +kernel
theorem dX11_weightWhere_0 : decode cX11_weightWhere 0 = .ok (.aload_n 0, 1) := by decide +kernel
theorem dX11_weightWhere_1 : decode cX11_weightWhere 1 = .ok (.invokevirtual 199, 3) := by decide +kernel
theorem dX11_weightWhere_4 : decode cX11_weightWhere 4 = .ok (.astore_n 3, 1) := by decide +kernel
theorem dX11_weightWhere_5 : decode cX11_weightWhere 5 = .ok (.lconst 0, 1) := by decide +kernel
theorem dX11_weightWhere_6 : decode cX11_weightWhere 6 = .ok (.lstore 4, 2) := by decide +kernel
theorem dX11_weightWhere_8 : decode cX11_weightWhere 8 = .ok (.iconst 0, 1) := by decide +kernel
theorem dX11_weightWhere_9 : decode cX11_weightWhere 9 = .ok (.istore 6, 2) := by decide +kernel
theorem dX11_weightWhere_11 : decode cX11_weightWhere 11 = .ok (.iload 6, 2) := by decide +kernel
theorem dX11_weightWhere_13 : decode cX11_weightWhere 13 = .ok (.aload_n 0, 1) := by decide +kernel
theorem dX11_weightWhere_14 : decode cX11_weightWhere 14 = .ok (.invokevirtual 221, 3) := by decide +kernel
theorem dX11_weightWhere_17 : decode cX11_weightWhere 17 = .ok (.if_icmp .ge 40, 3) := by decide +kernel
theorem dX11_weightWhere_20 : decode cX11_weightWhere 20 = .ok (.iload 6, 2) := by decide +kernel
theorem dX11_weightWhere_22 : decode cX11_weightWhere 22 = .ok (.iload_n 1, 1) := by decide +kernel
theorem dX11_weightWhere_23 : decode cX11_weightWhere 23 = .ok (.iand, 1) := by decide +kernel
theorem dX11_weightWhere_24 : decode cX11_weightWhere 24 = .ok (.iload_n 2, 1) := by decide +kernel
theorem dX11_weightWhere_25 : decode cX11_weightWhere 25 = .ok (.if_icmp .ne 26, 3) := by decide +kernel
theorem dX11_weightWhere_28 : decode cX11_weightWhere 28 = .ok (.aload_n 3, 1) := by decide +kernel
theorem dX11_weightWhere_29 : decode cX11_weightWhere 29 = .ok (.iload 6, 2) := by decide +kernel
theorem dX11_weightWhere_31 : decode cX11_weightWhere 31 = .ok (.invokevirtual 224, 3) := by decide +kernel
theorem dX11_weightWhere_34 : decode cX11_weightWhere 34 = .ok (.ifCond .eq 17, 3) := by decide +kernel
theorem dX11_weightWhere_37 : decode cX11_weightWhere 37 = .ok (.lload 4, 2) := by decide +kernel
theorem dX11_weightWhere_39 : decode cX11_weightWhere 39 = .ok (.aload_n 0, 1) := by decide +kernel
theorem dX11_weightWhere_40 : decode cX11_weightWhere 40 = .ok (.getfield 24, 3) := by decide +kernel
theorem dX11_weightWhere_43 : decode cX11_weightWhere 43 = .ok (.iload 6, 2) := by decide +kernel
theorem dX11_weightWhere_45 : decode cX11_weightWhere 45 = .ok (.invokevirtual 245, 3) := by decide +kernel
theorem dX11_weightWhere_48 : decode cX11_weightWhere 48 = .ok (.ladd, 1) := by decide +kernel
theorem dX11_weightWhere_49 : decode cX11_weightWhere 49 = .ok (.lstore 4, 2) := by decide +kernel
theorem dX11_weightWhere_51 : decode cX11_weightWhere 51 = .ok (.iinc 6 1, 3) := by decide +kernel
theorem dX11_weightWhere_54 : decode cX11_weightWhere 54 = .ok (.goto (-43), 3) := by decide +kernel
theorem dX11_weightWhere_57 : decode cX11_weightWhere 57 = .ok (.lload 4, 2) := by decide +kernel
theorem dX11_weightWhere_59 : decode cX11_weightWhere 59 = .ok (.lreturn, 1) := by decide +kernel
theorem dX11_lowered_0 : decode cX11_lowered 0 = .ok (.lload 4, 2) := by decide +kernel
theorem dX11_lowered_2 : decode cX11_lowered 2 = .ok (.lstore 6, 2) := by decide +kernel
theorem dX11_lowered_4 : decode cX11_lowered 4 = .ok (.lload_n 2, 1) := by decide +kernel
theorem dX11_lowered_5 : decode cX11_lowered 5 = .ok (.lstore 8, 2) := by decide +kernel
theorem dX11_lowered_7 : decode cX11_lowered 7 = .ok (.iconst 0, 1) := by decide +kernel
theorem dX11_lowered_8 : decode cX11_lowered 8 = .ok (.istore 10, 2) := by decide +kernel
theorem dX11_lowered_10 : decode cX11_lowered 10 = .ok (.iload 10, 2) := by decide +kernel
theorem dX11_lowered_12 : decode cX11_lowered 12 = .ok (.sipush 200, 3) := by decide +kernel
theorem dX11_lowered_15 : decode cX11_lowered 15 = .ok (.if_icmp .ge 31, 3) := by decide +kernel
theorem dX11_lowered_18 : decode cX11_lowered 18 = .ok (.lload 8, 2) := by decide +kernel
theorem dX11_lowered_20 : decode cX11_lowered 20 = .ok (.lconst 0, 1) := by decide +kernel
theorem dX11_lowered_21 : decode cX11_lowered 21 = .ok (.lcmp, 1) := by decide +kernel
theorem dX11_lowered_22 : decode cX11_lowered 22 = .ok (.ifCond .eq 24, 3) := by decide +kernel
theorem dX11_lowered_25 : decode cX11_lowered 25 = .ok (.lload 6, 2) := by decide +kernel
theorem dX11_lowered_27 : decode cX11_lowered 27 = .ok (.lload 8, 2) := by decide +kernel
theorem dX11_lowered_29 : decode cX11_lowered 29 = .ok (.lrem, 1) := by decide +kernel
theorem dX11_lowered_30 : decode cX11_lowered 30 = .ok (.lstore 11, 2) := by decide +kernel
theorem dX11_lowered_32 : decode cX11_lowered 32 = .ok (.lload 8, 2) := by decide +kernel
theorem dX11_lowered_34 : decode cX11_lowered 34 = .ok (.lstore 6, 2) := by decide +kernel
theorem dX11_lowered_36 : decode cX11_lowered 36 = .ok (.lload 11, 2) := by decide +kernel
theorem dX11_lowered_38 : decode cX11_lowered 38 = .ok (.lstore 8, 2) := by decide +kernel
theorem dX11_lowered_40 : decode cX11_lowered 40 = .ok (.iinc 10 1, 3) := by decide +kernel
theorem dX11_lowered_43 : decode cX11_lowered 43 = .ok (.goto (-33), 3) := by decide +kernel
theorem dX11_lowered_46 : decode cX11_lowered 46 = .ok (.lload 6, 2) := by decide +kernel
theorem dX11_lowered_48 : decode cX11_lowered 48 = .ok (.lconst 0, 1) := by decide +kernel
theorem dX11_lowered_49 : decode cX11_lowered 49 = .ok (.lcmp, 1) := by decide +kernel
theorem dX11_lowered_50 : decode cX11_lowered 50 = .ok (.ifCond .ne 7, 3) := by decide +kernel
theorem dX11_lowered_53 : decode cX11_lowered 53 = .ok (.lload_n 0, 1) := by decide +kernel
theorem dX11_lowered_54 : decode cX11_lowered 54 = .ok (.goto 7, 3) := by decide +kernel
theorem dX11_lowered_57 : decode cX11_lowered 57 = .ok (.lload_n 0, 1) := by decide +kernel
theorem dX11_lowered_58 : decode cX11_lowered 58 = .ok (.lload 6, 2) := by decide +kernel
theorem dX11_lowered_60 : decode cX11_lowered 60 = .ok (.ldiv, 1) := by decide +kernel
theorem dX11_lowered_61 : decode cX11_lowered 61 = .ok (.lreturn, 1) := by decide +kernel
theorem dX11_following_0 : decode cX11_following 0 = .ok (.iload_n 1, 1) := by decide +kernel
theorem dX11_following_1 : decode cX11_following 1 = .ok (.istore_n 2, 1) := by decide +kernel
theorem dX11_following_2 : decode cX11_following 2 = .ok (.aload_n 0, 1) := by decide +kernel
theorem dX11_following_3 : decode cX11_following 3 = .ok (.getfield 77, 3) := by decide +kernel
theorem dX11_following_6 : decode cX11_following 6 = .ok (.iconst 1, 1) := by decide +kernel
theorem dX11_following_7 : decode cX11_following 7 = .ok (.isub, 1) := by decide +kernel
theorem dX11_following_8 : decode cX11_following 8 = .ok (.istore_n 3, 1) := by decide +kernel
theorem dX11_following_9 : decode cX11_following 9 = .ok (.iload_n 3, 1) := by decide +kernel
theorem dX11_following_10 : decode cX11_following 10 = .ok (.ifCond .lt 28, 3) := by decide +kernel
theorem dX11_following_13 : decode cX11_following 13 = .ok (.iconst 1, 1) := by decide +kernel
theorem dX11_following_14 : decode cX11_following 14 = .ok (.iload_n 3, 1) := by decide +kernel
theorem dX11_following_15 : decode cX11_following 15 = .ok (.ishl, 1) := by decide +kernel
theorem dX11_following_16 : decode cX11_following 16 = .ok (.istore 4, 2) := by decide +kernel
theorem dX11_following_18 : decode cX11_following 18 = .ok (.iload_n 2, 1) := by decide +kernel
theorem dX11_following_19 : decode cX11_following 19 = .ok (.iload 4, 2) := by decide +kernel
theorem dX11_following_21 : decode cX11_following 21 = .ok (.ixor, 1) := by decide +kernel
theorem dX11_following_22 : decode cX11_following 22 = .ok (.istore_n 2, 1) := by decide +kernel
theorem dX11_following_23 : decode cX11_following 23 = .ok (.iload_n 2, 1) := by decide +kernel
theorem dX11_following_24 : decode cX11_following 24 = .ok (.iload 4, 2) := by decide +kernel
theorem dX11_following_26 : decode cX11_following 26 = .ok (.iand, 1) := by decide +kernel
theorem dX11_following_27 : decode cX11_following 27 = .ok (.ifCond .eq 5, 3) := by decide +kernel
theorem dX11_following_30 : decode cX11_following 30 = .ok (.iload_n 2, 1) := by decide +kernel
theorem dX11_following_31 : decode cX11_following 31 = .ok (.ireturn, 1) := by decide +kernel
theorem dX11_following_32 : decode cX11_following 32 = .ok (.iinc 3 (-1), 3) := by decide +kernel
theorem dX11_following_35 : decode cX11_following 35 = .ok (.goto (-26), 3) := by decide +kernel
theorem dX11_following_38 : decode cX11_following 38 = .ok (.iload_n 2, 1) := by decide +kernel
theorem dX11_following_39 : decode cX11_following 39 = .ok (.ireturn, 1) := by decide +kernel
theorem dX11_countNodes_0 : decode cX11_countNodes 0 = .ok (.aload_n 0, 1) := by decide +kernel
theorem dX11_countNodes_1 : decode cX11_countNodes 1 = .ok (.getfield 65, 3) := by decide +kernel
theorem dX11_countNodes_4 : decode cX11_countNodes 4 = .ok (.aload_n 1, 1) := by decide +kernel
theorem dX11_countNodes_5 : decode cX11_countNodes 5 = .ok (.aload_n 0, 1) := by decide +kernel
theorem dX11_countNodes_6 : decode cX11_countNodes 6 = .ok (.getfield 28, 3) := by decide +kernel
theorem dX11_countNodes_9 : decode cX11_countNodes 9 = .ok (.invokevirtual 264, 3) := by decide +kernel
theorem dX11_countNodes_12 : decode cX11_countNodes 12 = .ok (.aload_n 0, 1) := by decide +kernel
theorem dX11_countNodes_13 : decode cX11_countNodes 13 = .ok (.getfield 65, 3) := by decide +kernel
theorem dX11_countNodes_16 : decode cX11_countNodes 16 = .ok (.invokevirtual 359, 3) := by decide +kernel
theorem dX11_countNodes_19 : decode cX11_countNodes 19 = .ok (.ireturn, 1) := by decide +kernel
theorem dX11_partWith_0 : decode cX11_partWith 0 = .ok (.aload_n 0, 1) := by decide +kernel
theorem dX11_partWith_1 : decode cX11_partWith 1 = .ok (.invokevirtual 182, 3) := by decide +kernel
theorem dX11_partWith_4 : decode cX11_partWith 4 = .ok (.istore_n 2, 1) := by decide +kernel
theorem dX11_partWith_5 : decode cX11_partWith 5 = .ok (.iconst 1, 1) := by decide +kernel
theorem dX11_partWith_6 : decode cX11_partWith 6 = .ok (.iload_n 1, 1) := by decide +kernel
theorem dX11_partWith_7 : decode cX11_partWith 7 = .ok (.ishl, 1) := by decide +kernel
theorem dX11_partWith_8 : decode cX11_partWith 8 = .ok (.istore_n 3, 1) := by decide +kernel
theorem dX11_partWith_9 : decode cX11_partWith 9 = .ok (.iconst 0, 1) := by decide +kernel
theorem dX11_partWith_10 : decode cX11_partWith 10 = .ok (.istore 4, 2) := by decide +kernel
theorem dX11_partWith_12 : decode cX11_partWith 12 = .ok (.iconst 0, 1) := by decide +kernel
theorem dX11_partWith_13 : decode cX11_partWith 13 = .ok (.istore 5, 2) := by decide +kernel
theorem dX11_partWith_15 : decode cX11_partWith 15 = .ok (.iload 5, 2) := by decide +kernel
theorem dX11_partWith_17 : decode cX11_partWith 17 = .ok (.bipush 10, 2) := by decide +kernel
theorem dX11_partWith_19 : decode cX11_partWith 19 = .ok (.if_icmp .ge 38, 3) := by decide +kernel
theorem dX11_partWith_22 : decode cX11_partWith 22 = .ok (.iload_n 3, 1) := by decide +kernel
theorem dX11_partWith_23 : decode cX11_partWith 23 = .ok (.iload 4, 2) := by decide +kernel
theorem dX11_partWith_25 : decode cX11_partWith 25 = .ok (.if_icmp .eq 32, 3) := by decide +kernel
theorem dX11_partWith_28 : decode cX11_partWith 28 = .ok (.iload_n 3, 1) := by decide +kernel
theorem dX11_partWith_29 : decode cX11_partWith 29 = .ok (.istore 4, 2) := by decide +kernel
theorem dX11_partWith_31 : decode cX11_partWith 31 = .ok (.iload_n 3, 1) := by decide +kernel
theorem dX11_partWith_32 : decode cX11_partWith 32 = .ok (.aload_n 0, 1) := by decide +kernel
theorem dX11_partWith_33 : decode cX11_partWith 33 = .ok (.getfield 34, 3) := by decide +kernel
theorem dX11_partWith_36 : decode cX11_partWith 36 = .ok (.aload_n 0, 1) := by decide +kernel
theorem dX11_partWith_37 : decode cX11_partWith 37 = .ok (.getfield 34, 3) := by decide +kernel
theorem dX11_partWith_40 : decode cX11_partWith 40 = .ok (.iload_n 3, 1) := by decide +kernel
theorem dX11_partWith_41 : decode cX11_partWith 41 = .ok (.invokevirtual 185, 3) := by decide +kernel
theorem dX11_partWith_44 : decode cX11_partWith 44 = .ok (.invokevirtual 362, 3) := by decide +kernel
theorem dX11_partWith_47 : decode cX11_partWith 47 = .ok (.iload_n 2, 1) := by decide +kernel
theorem dX11_partWith_48 : decode cX11_partWith 48 = .ok (.iand, 1) := by decide +kernel
theorem dX11_partWith_49 : decode cX11_partWith 49 = .ok (.ior, 1) := by decide +kernel
theorem dX11_partWith_50 : decode cX11_partWith 50 = .ok (.istore_n 3, 1) := by decide +kernel
theorem dX11_partWith_51 : decode cX11_partWith 51 = .ok (.iinc 5 1, 3) := by decide +kernel
theorem dX11_partWith_54 : decode cX11_partWith 54 = .ok (.goto (-39), 3) := by decide +kernel
theorem dX11_partWith_57 : decode cX11_partWith 57 = .ok (.iload_n 3, 1) := by decide +kernel
theorem dX11_partWith_58 : decode cX11_partWith 58 = .ok (.ireturn, 1) := by decide +kernel
theorem dX11_lowestOf_0 : decode cX11_lowestOf 0 = .ok (.iconst 0, 1) := by decide +kernel
theorem dX11_lowestOf_1 : decode cX11_lowestOf 1 = .ok (.istore_n 2, 1) := by decide +kernel
theorem dX11_lowestOf_2 : decode cX11_lowestOf 2 = .ok (.iload_n 2, 1) := by decide +kernel
theorem dX11_lowestOf_3 : decode cX11_lowestOf 3 = .ok (.aload_n 0, 1) := by decide +kernel
theorem dX11_lowestOf_4 : decode cX11_lowestOf 4 = .ok (.getfield 77, 3) := by decide +kernel
theorem dX11_lowestOf_7 : decode cX11_lowestOf 7 = .ok (.if_icmp .ge 17, 3) := by decide +kernel
theorem dX11_lowestOf_10 : decode cX11_lowestOf 10 = .ok (.iload_n 1, 1) := by decide +kernel
theorem dX11_lowestOf_11 : decode cX11_lowestOf 11 = .ok (.iload_n 2, 1) := by decide +kernel
theorem dX11_lowestOf_12 : decode cX11_lowestOf 12 = .ok (.ishr, 1) := by decide +kernel
theorem dX11_lowestOf_13 : decode cX11_lowestOf 13 = .ok (.iconst 1, 1) := by decide +kernel
theorem dX11_lowestOf_14 : decode cX11_lowestOf 14 = .ok (.iand, 1) := by decide +kernel
theorem dX11_lowestOf_15 : decode cX11_lowestOf 15 = .ok (.ifCond .ne 9, 3) := by decide +kernel
theorem dX11_lowestOf_18 : decode cX11_lowestOf 18 = .ok (.iinc 2 1, 3) := by decide +kernel
theorem dX11_lowestOf_21 : decode cX11_lowestOf 21 = .ok (.goto (-19), 3) := by decide +kernel
theorem dX11_lowestOf_24 : decode cX11_lowestOf 24 = .ok (.iload_n 2, 1) := by decide +kernel
theorem dX11_lowestOf_25 : decode cX11_lowestOf 25 = .ok (.ireturn, 1) := by decide +kernel
theorem dX11_countPart_0 : decode cX11_countPart 0 = .ok (.aload_n 0, 1) := by decide +kernel
theorem dX11_countPart_1 : decode cX11_countPart 1 = .ok (.getfield 34, 3) := by decide +kernel
theorem dX11_countPart_4 : decode cX11_countPart 4 = .ok (.iload_n 1, 1) := by decide +kernel
theorem dX11_countPart_5 : decode cX11_countPart 5 = .ok (.invokevirtual 185, 3) := by decide +kernel
theorem dX11_countPart_8 : decode cX11_countPart 8 = .ok (.istore_n 2, 1) := by decide +kernel
theorem dX11_countPart_9 : decode cX11_countPart 9 = .ok (.aload_n 0, 1) := by decide +kernel
theorem dX11_countPart_10 : decode cX11_countPart 10 = .ok (.getfield 173, 3) := by decide +kernel
theorem dX11_countPart_13 : decode cX11_countPart 13 = .ok (.aload_n 0, 1) := by decide +kernel
theorem dX11_countPart_14 : decode cX11_countPart 14 = .ok (.getfield 34, 3) := by decide +kernel
theorem dX11_countPart_17 : decode cX11_countPart 17 = .ok (.iload_n 2, 1) := by decide +kernel
theorem dX11_countPart_18 : decode cX11_countPart 18 = .ok (.invokevirtual 362, 3) := by decide +kernel
theorem dX11_countPart_21 : decode cX11_countPart 21 = .ok (.iand, 1) := by decide +kernel
theorem dX11_countPart_22 : decode cX11_countPart 22 = .ok (.istore_n 3, 1) := by decide +kernel
theorem dX11_countPart_23 : decode cX11_countPart 23 = .ok (.aload_n 0, 1) := by decide +kernel
theorem dX11_countPart_24 : decode cX11_countPart 24 = .ok (.iload_n 1, 1) := by decide +kernel
theorem dX11_countPart_25 : decode cX11_countPart 25 = .ok (.invokevirtual 233, 3) := by decide +kernel
theorem dX11_countPart_28 : decode cX11_countPart 28 = .ok (.istore 4, 2) := by decide +kernel
theorem dX11_countPart_30 : decode cX11_countPart 30 = .ok (.aload_n 0, 1) := by decide +kernel
theorem dX11_countPart_31 : decode cX11_countPart 31 = .ok (.getfield 41, 3) := by decide +kernel
theorem dX11_countPart_34 : decode cX11_countPart 34 = .ok (.iload 4, 2) := by decide +kernel
theorem dX11_countPart_36 : decode cX11_countPart 36 = .ok (.iload_n 1, 1) := by decide +kernel
theorem dX11_countPart_37 : decode cX11_countPart 37 = .ok (.iload_n 2, 1) := by decide +kernel
theorem dX11_countPart_38 : decode cX11_countPart 38 = .ok (.iload_n 3, 1) := by decide +kernel
theorem dX11_countPart_39 : decode cX11_countPart 39 = .ok (.invokevirtual 365, 3) := by decide +kernel
theorem dX11_countPart_42 : decode cX11_countPart 42 = .ok (.ifCond .ne 22, 3) := by decide +kernel
theorem dX11_countPart_45 : decode cX11_countPart 45 = .ok (.aload_n 0, 1) := by decide +kernel
theorem dX11_countPart_46 : decode cX11_countPart 46 = .ok (.getfield 41, 3) := by decide +kernel
theorem dX11_countPart_49 : decode cX11_countPart 49 = .ok (.iload 4, 2) := by decide +kernel
theorem dX11_countPart_51 : decode cX11_countPart 51 = .ok (.iload_n 1, 1) := by decide +kernel
theorem dX11_countPart_52 : decode cX11_countPart 52 = .ok (.iload_n 2, 1) := by decide +kernel
theorem dX11_countPart_53 : decode cX11_countPart 53 = .ok (.iload_n 3, 1) := by decide +kernel
theorem dX11_countPart_54 : decode cX11_countPart 54 = .ok (.aload_n 0, 1) := by decide +kernel
theorem dX11_countPart_55 : decode cX11_countPart 55 = .ok (.iload_n 1, 1) := by decide +kernel
theorem dX11_countPart_56 : decode cX11_countPart 56 = .ok (.iload_n 2, 1) := by decide +kernel
theorem dX11_countPart_57 : decode cX11_countPart 57 = .ok (.iload_n 3, 1) := by decide +kernel
theorem dX11_countPart_58 : decode cX11_countPart 58 = .ok (.invokevirtual 369, 3) := by decide +kernel
theorem dX11_countPart_61 : decode cX11_countPart 61 = .ok (.invokevirtual 373, 3) := by decide +kernel
theorem dX11_countPart_64 : decode cX11_countPart 64 = .ok (.aload_n 0, 1) := by decide +kernel
theorem dX11_countPart_65 : decode cX11_countPart 65 = .ok (.getfield 41, 3) := by decide +kernel
theorem dX11_countPart_68 : decode cX11_countPart 68 = .ok (.iload 4, 2) := by decide +kernel
theorem dX11_countPart_70 : decode cX11_countPart 70 = .ok (.invokevirtual 377, 3) := by decide +kernel
theorem dX11_countPart_73 : decode cX11_countPart 73 = .ok (.lreturn, 1) := by decide +kernel
theorem dX11_countChoices_0 : decode cX11_countChoices 0 = .ok (.lconst 0, 1) := by decide +kernel
theorem dX11_countChoices_1 : decode cX11_countChoices 1 = .ok (.lstore 4, 2) := by decide +kernel
theorem dX11_countChoices_3 : decode cX11_countChoices 3 = .ok (.iconst 1, 1) := by decide +kernel
theorem dX11_countChoices_4 : decode cX11_countChoices 4 = .ok (.iload_n 1, 1) := by decide +kernel
theorem dX11_countChoices_5 : decode cX11_countChoices 5 = .ok (.invokestatic 157, 3) := by decide +kernel
theorem dX11_countChoices_8 : decode cX11_countChoices 8 = .ok (.ishl, 1) := by decide +kernel
theorem dX11_countChoices_9 : decode cX11_countChoices 9 = .ok (.istore 6, 2) := by decide +kernel
theorem dX11_countChoices_11 : decode cX11_countChoices 11 = .ok (.iconst 0, 1) := by decide +kernel
theorem dX11_countChoices_12 : decode cX11_countChoices 12 = .ok (.istore 7, 2) := by decide +kernel
theorem dX11_countChoices_14 : decode cX11_countChoices 14 = .ok (.iconst 0, 1) := by decide +kernel
theorem dX11_countChoices_15 : decode cX11_countChoices 15 = .ok (.istore 8, 2) := by decide +kernel
theorem dX11_countChoices_17 : decode cX11_countChoices 17 = .ok (.iload 8, 2) := by decide +kernel
theorem dX11_countChoices_19 : decode cX11_countChoices 19 = .ok (.iload 6, 2) := by decide +kernel
theorem dX11_countChoices_21 : decode cX11_countChoices 21 = .ok (.if_icmp .ge 38, 3) := by decide +kernel
theorem dX11_countChoices_24 : decode cX11_countChoices 24 = .ok (.aload_n 0, 1) := by decide +kernel
theorem dX11_countChoices_25 : decode cX11_countChoices 25 = .ok (.getfield 34, 3) := by decide +kernel
theorem dX11_countChoices_28 : decode cX11_countChoices 28 = .ok (.iload_n 2, 1) := by decide +kernel
theorem dX11_countChoices_29 : decode cX11_countChoices 29 = .ok (.iload 7, 2) := by decide +kernel
theorem dX11_countChoices_31 : decode cX11_countChoices 31 = .ok (.iload_n 3, 1) := by decide +kernel
theorem dX11_countChoices_32 : decode cX11_countChoices 32 = .ok (.ior, 1) := by decide +kernel
theorem dX11_countChoices_33 : decode cX11_countChoices 33 = .ok (.invokevirtual 188, 3) := by decide +kernel
theorem dX11_countChoices_36 : decode cX11_countChoices 36 = .ok (.ifCond .eq 9, 3) := by decide +kernel
theorem dX11_countChoices_39 : decode cX11_countChoices 39 = .ok (.lload 4, 2) := by decide +kernel
theorem dX11_countChoices_41 : decode cX11_countChoices 41 = .ok (.lconst 1, 1) := by decide +kernel
theorem dX11_countChoices_42 : decode cX11_countChoices 42 = .ok (.ladd, 1) := by decide +kernel
theorem dX11_countChoices_43 : decode cX11_countChoices 43 = .ok (.lstore 4, 2) := by decide +kernel
theorem dX11_countChoices_45 : decode cX11_countChoices 45 = .ok (.iload 7, 2) := by decide +kernel
theorem dX11_countChoices_47 : decode cX11_countChoices 47 = .ok (.iload_n 1, 1) := by decide +kernel
theorem dX11_countChoices_48 : decode cX11_countChoices 48 = .ok (.isub, 1) := by decide +kernel
theorem dX11_countChoices_49 : decode cX11_countChoices 49 = .ok (.iload_n 1, 1) := by decide +kernel
theorem dX11_countChoices_50 : decode cX11_countChoices 50 = .ok (.iand, 1) := by decide +kernel
theorem dX11_countChoices_51 : decode cX11_countChoices 51 = .ok (.istore 7, 2) := by decide +kernel
theorem dX11_countChoices_53 : decode cX11_countChoices 53 = .ok (.iinc 8 1, 3) := by decide +kernel
theorem dX11_countChoices_56 : decode cX11_countChoices 56 = .ok (.goto (-39), 3) := by decide +kernel
theorem dX11_countChoices_59 : decode cX11_countChoices 59 = .ok (.lload 4, 2) := by decide +kernel
theorem dX11_countChoices_61 : decode cX11_countChoices 61 = .ok (.lreturn, 1) := by decide +kernel
theorem dX12_thrown_0 : decode cX12_thrown 0 = .ok (.aload_n 0, 1) := by decide +kernel
theorem dX12_thrown_1 : decode cX12_thrown 1 = .ok (.getfield 1, 3) := by decide +kernel
theorem dX12_thrown_4 : decode cX12_thrown 4 = .ok (.ireturn, 1) := by decide +kernel
theorem dX12_fails_0 : decode cX12_fails 0 = .ok (.aload_n 0, 1) := by decide +kernel
theorem dX12_fails_1 : decode cX12_fails 1 = .ok (.iload_n 1, 1) := by decide +kernel
theorem dX12_fails_2 : decode cX12_fails 2 = .ok (.putfield 1, 3) := by decide +kernel
theorem dX12_fails_5 : decode cX12_fails 5 = .ok (.iconst 0, 1) := by decide +kernel
theorem dX12_fails_6 : decode cX12_fails 6 = .ok (.ireturn, 1) := by decide +kernel
theorem dX12_isBetween_0 : decode cX12_isBetween 0 = .ok (.iload_n 1, 1) := by decide +kernel
theorem dX12_isBetween_1 : decode cX12_isBetween 1 = .ok (.iload_n 0, 1) := by decide +kernel
theorem dX12_isBetween_2 : decode cX12_isBetween 2 = .ok (.if_icmp .gt 12, 3) := by decide +kernel
theorem dX12_isBetween_5 : decode cX12_isBetween 5 = .ok (.iload_n 0, 1) := by decide +kernel
theorem dX12_isBetween_6 : decode cX12_isBetween 6 = .ok (.iload_n 2, 1) := by decide +kernel
theorem dX12_isBetween_7 : decode cX12_isBetween 7 = .ok (.if_icmp .gt 7, 3) := by decide +kernel
theorem dX12_isBetween_10 : decode cX12_isBetween 10 = .ok (.iconst 1, 1) := by decide +kernel
theorem dX12_isBetween_11 : decode cX12_isBetween 11 = .ok (.goto 4, 3) := by decide +kernel
theorem dX12_isBetween_14 : decode cX12_isBetween 14 = .ok (.iconst 0, 1) := by decide +kernel
theorem dX12_isBetween_15 : decode cX12_isBetween 15 = .ok (.ireturn, 1) := by decide +kernel
theorem dX12_has_0 : decode cX12_has 0 = .ok (.iload_n 0, 1) := by decide +kernel
theorem dX12_has_1 : decode cX12_has 1 = .ok (.iload_n 1, 1) := by decide +kernel
theorem dX12_has_2 : decode cX12_has 2 = .ok (.ishr, 1) := by decide +kernel
theorem dX12_has_3 : decode cX12_has 3 = .ok (.iconst 1, 1) := by decide +kernel
theorem dX12_has_4 : decode cX12_has 4 = .ok (.iand, 1) := by decide +kernel
theorem dX12_has_5 : decode cX12_has 5 = .ok (.iconst 1, 1) := by decide +kernel
theorem dX12_has_6 : decode cX12_has 6 = .ok (.if_icmp .ne 7, 3) := by decide +kernel
theorem dX12_has_9 : decode cX12_has 9 = .ok (.iconst 1, 1) := by decide +kernel
theorem dX12_has_10 : decode cX12_has 10 = .ok (.goto 4, 3) := by decide +kernel
theorem dX12_has_13 : decode cX12_has 13 = .ok (.iconst 0, 1) := by decide +kernel
theorem dX12_has_14 : decode cX12_has 14 = .ok (.ireturn, 1) := by decide +kernel
theorem dX12_size_0 : decode cX12_size 0 = .ok (.iconst 0, 1) := by decide +kernel
theorem dX12_size_1 : decode cX12_size 1 = .ok (.istore_n 1, 1) := by decide +kernel
theorem dX12_size_2 : decode cX12_size 2 = .ok (.iconst 0, 1) := by decide +kernel
theorem dX12_size_3 : decode cX12_size 3 = .ok (.istore_n 2, 1) := by decide +kernel
theorem dX12_size_4 : decode cX12_size 4 = .ok (.iload_n 2, 1) := by decide +kernel
theorem dX12_size_5 : decode cX12_size 5 = .ok (.bipush 10, 2) := by decide +kernel
theorem dX12_size_7 : decode cX12_size 7 = .ok (.if_icmp .ge 25, 3) := by decide +kernel
theorem dX12_size_10 : decode cX12_size 10 = .ok (.iload_n 1, 1) := by decide +kernel
theorem dX12_size_11 : decode cX12_size 11 = .ok (.iload_n 0, 1) := by decide +kernel
theorem dX12_size_12 : decode cX12_size 12 = .ok (.iload_n 2, 1) := by decide +kernel
theorem dX12_size_13 : decode cX12_size 13 = .ok (.invokestatic 7, 3) := by decide +kernel
theorem dX12_size_16 : decode cX12_size 16 = .ok (.ifCond .eq 7, 3) := by decide +kernel
theorem dX12_size_19 : decode cX12_size 19 = .ok (.iconst 1, 1) := by decide +kernel
theorem dX12_size_20 : decode cX12_size 20 = .ok (.goto 4, 3) := by decide +kernel
theorem dX12_size_23 : decode cX12_size 23 = .ok (.iconst 0, 1) := by decide +kernel
theorem dX12_size_24 : decode cX12_size 24 = .ok (.iadd, 1) := by decide +kernel
theorem dX12_size_25 : decode cX12_size 25 = .ok (.istore_n 1, 1) := by decide +kernel
theorem dX12_size_26 : decode cX12_size 26 = .ok (.iinc 2 1, 3) := by decide +kernel
theorem dX12_size_29 : decode cX12_size 29 = .ok (.goto (-25), 3) := by decide +kernel
theorem dX12_size_32 : decode cX12_size 32 = .ok (.iload_n 1, 1) := by decide +kernel
theorem dX12_size_33 : decode cX12_size 33 = .ok (.ireturn, 1) := by decide +kernel
theorem dX12_init_0 : decode cX12_init 0 = .ok (.aload_n 0, 1) := by decide +kernel
theorem dX12_init_1 : decode cX12_init 1 = .ok (.invokespecial 11, 3) := by decide +kernel
theorem dX12_init_4 : decode cX12_init 4 = .ok (.aload_n 0, 1) := by decide +kernel
theorem dX12_init_5 : decode cX12_init 5 = .ok (.bipush 10, 2) := by decide +kernel
theorem dX12_init_7 : decode cX12_init 7 = .ok (.newarray .int, 2) := by decide +kernel
theorem dX12_init_9 : decode cX12_init 9 = .ok (.putfield 17, 3) := by decide +kernel
theorem dX12_init_12 : decode cX12_init 12 = .ok (.aload_n 0, 1) := by decide +kernel
theorem dX12_init_13 : decode cX12_init 13 = .ok (.bipush 10, 2) := by decide +kernel
theorem dX12_init_15 : decode cX12_init 15 = .ok (.newarray .int, 2) := by decide +kernel
theorem dX12_init_17 : decode cX12_init 17 = .ok (.putfield 21, 3) := by decide +kernel
theorem dX12_init_20 : decode cX12_init 20 = .ok (.aload_n 0, 1) := by decide +kernel
theorem dX12_init_21 : decode cX12_init 21 = .ok (.bipush 10, 2) := by decide +kernel
theorem dX12_init_23 : decode cX12_init 23 = .ok (.newarray .int, 2) := by decide +kernel
theorem dX12_init_25 : decode cX12_init 25 = .ok (.putfield 24, 3) := by decide +kernel
theorem dX12_init_28 : decode cX12_init 28 = .ok (.aload_n 0, 1) := by decide +kernel
theorem dX12_init_29 : decode cX12_init 29 = .ok (.bipush 10, 2) := by decide +kernel
theorem dX12_init_31 : decode cX12_init 31 = .ok (.newarray .int, 2) := by decide +kernel
theorem dX12_init_33 : decode cX12_init 33 = .ok (.putfield 27, 3) := by decide +kernel
theorem dX12_init_36 : decode cX12_init 36 = .ok (.aload_n 0, 1) := by decide +kernel
theorem dX12_init_37 : decode cX12_init 37 = .ok (.bipush 20, 2) := by decide +kernel
theorem dX12_init_39 : decode cX12_init 39 = .ok (.newarray .char, 2) := by decide +kernel
theorem dX12_init_41 : decode cX12_init 41 = .ok (.putfield 30, 3) := by decide +kernel
theorem dX12_init_44 : decode cX12_init 44 = .ok (.aload_n 0, 1) := by decide +kernel
theorem dX12_init_45 : decode cX12_init 45 = .ok (.bipush 20, 2) := by decide +kernel
theorem dX12_init_47 : decode cX12_init 47 = .ok (.newarray .int, 2) := by decide +kernel
theorem dX12_init_49 : decode cX12_init 49 = .ok (.putfield 34, 3) := by decide +kernel
theorem dX12_init_52 : decode cX12_init 52 = .ok (.aload_n 0, 1) := by decide +kernel
theorem dX12_init_53 : decode cX12_init 53 = .ok (.bipush 20, 2) := by decide +kernel
theorem dX12_init_55 : decode cX12_init 55 = .ok (.newarray .int, 2) := by decide +kernel
theorem dX12_init_57 : decode cX12_init 57 = .ok (.putfield 37, 3) := by decide +kernel
theorem dX12_init_60 : decode cX12_init 60 = .ok (.aload_n 0, 1) := by decide +kernel
theorem dX12_init_61 : decode cX12_init 61 = .ok (.bipush 20, 2) := by decide +kernel
theorem dX12_init_63 : decode cX12_init 63 = .ok (.newarray .int, 2) := by decide +kernel
theorem dX12_init_65 : decode cX12_init 65 = .ok (.putfield 40, 3) := by decide +kernel
theorem dX12_init_68 : decode cX12_init 68 = .ok (.aload_n 0, 1) := by decide +kernel
theorem dX12_init_69 : decode cX12_init 69 = .ok (.bipush 20, 2) := by decide +kernel
theorem dX12_init_71 : decode cX12_init 71 = .ok (.newarray .int, 2) := by decide +kernel
theorem dX12_init_73 : decode cX12_init 73 = .ok (.putfield 43, 3) := by decide +kernel
theorem dX12_init_76 : decode cX12_init 76 = .ok (.aload_n 0, 1) := by decide +kernel
theorem dX12_init_77 : decode cX12_init 77 = .ok (.bipush 20, 2) := by decide +kernel
theorem dX12_init_79 : decode cX12_init 79 = .ok (.newarray .boolean, 2) := by decide +kernel
theorem dX12_init_81 : decode cX12_init 81 = .ok (.putfield 46, 3) := by decide +kernel
theorem dX12_init_84 : decode cX12_init 84 = .ok (.aload_n 0, 1) := by decide +kernel
theorem dX12_init_85 : decode cX12_init 85 = .ok (.iconst 4, 1) := by decide +kernel
theorem dX12_init_86 : decode cX12_init 86 = .ok (.sipush 1024, 3) := by decide +kernel
theorem dX12_init_89 : decode cX12_init 89 = .ok (.multianewarray 50 2, 4) := by decide +kernel
theorem dX12_init_93 : decode cX12_init 93 = .ok (.putfield 52, 3) := by decide +kernel
theorem dX12_init_96 : decode cX12_init 96 = .ok (.aload_n 0, 1) := by decide +kernel
theorem dX12_init_97 : decode cX12_init 97 = .ok (.iconst 4, 1) := by decide +kernel
theorem dX12_init_98 : decode cX12_init 98 = .ok (.newarray .int, 2) := by decide +kernel
theorem dX12_init_100 : decode cX12_init 100 = .ok (.putfield 55, 3) := by decide +kernel
theorem dX12_init_103 : decode cX12_init 103 = .ok (.aload_n 0, 1) := by decide +kernel
theorem dX12_init_104 : decode cX12_init 104 = .ok (.sipush 1024, 3) := by decide +kernel
theorem dX12_init_107 : decode cX12_init 107 = .ok (.newarray .boolean, 2) := by decide +kernel
theorem dX12_init_109 : decode cX12_init 109 = .ok (.putfield 58, 3) := by decide +kernel
theorem dX12_init_112 : decode cX12_init 112 = .ok (.aload_n 0, 1) := by decide +kernel
theorem dX12_init_113 : decode cX12_init 113 = .ok (.sipush 1024, 3) := by decide +kernel
theorem dX12_init_116 : decode cX12_init 116 = .ok (.newarray .boolean, 2) := by decide +kernel
theorem dX12_init_118 : decode cX12_init 118 = .ok (.putfield 61, 3) := by decide +kernel
theorem dX12_init_121 : decode cX12_init 121 = .ok (.iconst 0, 1) := by decide +kernel
theorem dX12_init_122 : decode cX12_init 122 = .ok (.istore_n 1, 1) := by decide +kernel
theorem dX12_init_123 : decode cX12_init 123 = .ok (.iload_n 1, 1) := by decide +kernel
theorem dX12_init_124 : decode cX12_init 124 = .ok (.iconst 4, 1) := by decide +kernel
theorem dX12_init_125 : decode cX12_init 125 = .ok (.if_icmp .ge 16, 3) := by decide +kernel
theorem dX12_init_128 : decode cX12_init 128 = .ok (.aload_n 0, 1) := by decide +kernel
theorem dX12_init_129 : decode cX12_init 129 = .ok (.getfield 55, 3) := by decide +kernel
theorem dX12_init_132 : decode cX12_init 132 = .ok (.iload_n 1, 1) := by decide +kernel
theorem dX12_init_133 : decode cX12_init 133 = .ok (.iconst (-1), 1) := by decide +kernel
theorem dX12_init_134 : decode cX12_init 134 = .ok (.iastore, 1) := by decide +kernel
theorem dX12_init_135 : decode cX12_init 135 = .ok (.iinc 1 1, 3) := by decide +kernel
theorem dX12_init_138 : decode cX12_init 138 = .ok (.goto (-15), 3) := by decide +kernel
theorem dX12_init_141 : decode cX12_init 141 = .ok (.return_, 1) := by decide +kernel
theorem dX12_isVariable_0 : decode cX12_isVariable 0 = .ok (.iload_n 1, 1) := by decide +kernel
theorem dX12_isVariable_1 : decode cX12_isVariable 1 = .ok (.iconst 0, 1) := by decide +kernel
theorem dX12_isVariable_2 : decode cX12_isVariable 2 = .ok (.aload_n 0, 1) := by decide +kernel
theorem dX12_isVariable_3 : decode cX12_isVariable 3 = .ok (.getfield 64, 3) := by decide +kernel
theorem dX12_isVariable_6 : decode cX12_isVariable 6 = .ok (.iconst 1, 1) := by decide +kernel
theorem dX12_isVariable_7 : decode cX12_isVariable 7 = .ok (.isub, 1) := by decide +kernel
theorem dX12_isVariable_8 : decode cX12_isVariable 8 = .ok (.invokestatic 67, 3) := by decide +kernel
theorem dX12_isVariable_11 : decode cX12_isVariable 11 = .ok (.ireturn, 1) := by decide +kernel
theorem dX12_isSet_0 : decode cX12_isSet 0 = .ok (.iload_n 1, 1) := by decide +kernel
theorem dX12_isSet_1 : decode cX12_isSet 1 = .ok (.ifCond .lt 17, 3) := by decide +kernel
theorem dX12_isSet_4 : decode cX12_isSet 4 = .ok (.iload_n 1, 1) := by decide +kernel
theorem dX12_isSet_5 : decode cX12_isSet 5 = .ok (.iconst 1, 1) := by decide +kernel
theorem dX12_isSet_6 : decode cX12_isSet 6 = .ok (.aload_n 0, 1) := by decide +kernel
theorem dX12_isSet_7 : decode cX12_isSet 7 = .ok (.getfield 64, 3) := by decide +kernel
theorem dX12_isSet_10 : decode cX12_isSet 10 = .ok (.ishl, 1) := by decide +kernel
theorem dX12_isSet_11 : decode cX12_isSet 11 = .ok (.if_icmp .ge 7, 3) := by decide +kernel
theorem dX12_isSet_14 : decode cX12_isSet 14 = .ok (.iconst 1, 1) := by decide +kernel
theorem dX12_isSet_15 : decode cX12_isSet 15 = .ok (.goto 4, 3) := by decide +kernel
theorem dX12_isSet_18 : decode cX12_isSet 18 = .ok (.iconst 0, 1) := by decide +kernel
theorem dX12_isSet_19 : decode cX12_isSet 19 = .ok (.ireturn, 1) := by decide +kernel
theorem dX12_all_0 : decode cX12_all 0 = .ok (.iconst 1, 1) := by decide +kernel
theorem dX12_all_1 : decode cX12_all 1 = .ok (.aload_n 0, 1) := by decide +kernel
theorem dX12_all_2 : decode cX12_all 2 = .ok (.getfield 64, 3) := by decide +kernel
theorem dX12_all_5 : decode cX12_all 5 = .ok (.ishl, 1) := by decide +kernel
theorem dX12_all_6 : decode cX12_all 6 = .ok (.ireturn, 1) := by decide +kernel
theorem dX12_assignmentAt_0 : decode cX12_assignmentAt 0 = .ok (.iconst 0, 1) := by decide +kernel
theorem dX12_assignmentAt_1 : decode cX12_assignmentAt 1 = .ok (.istore_n 2, 1) := by decide +kernel
theorem dX12_assignmentAt_2 : decode cX12_assignmentAt 2 = .ok (.iconst 0, 1) := by decide +kernel
theorem dX12_assignmentAt_3 : decode cX12_assignmentAt 3 = .ok (.istore_n 3, 1) := by decide +kernel
theorem dX12_assignmentAt_4 : decode cX12_assignmentAt 4 = .ok (.iload_n 3, 1) := by decide +kernel
theorem dX12_assignmentAt_5 : decode cX12_assignmentAt 5 = .ok (.iload_n 1, 1) := by decide +kernel
theorem dX12_assignmentAt_6 : decode cX12_assignmentAt 6 = .ok (.if_icmp .ge 23, 3) := by decide +kernel
theorem dX12_assignmentAt_9 : decode cX12_assignmentAt 9 = .ok (.iload_n 2, 1) := by decide +kernel
theorem dX12_assignmentAt_10 : decode cX12_assignmentAt 10 = .ok (.iload_n 0, 1) := by decide +kernel
theorem dX12_assignmentAt_11 : decode cX12_assignmentAt 11 = .ok (.iload_n 1, 1) := by decide +kernel
theorem dX12_assignmentAt_12 : decode cX12_assignmentAt 12 = .ok (.iconst 1, 1) := by decide +kernel
theorem dX12_assignmentAt_13 : decode cX12_assignmentAt 13 = .ok (.isub, 1) := by decide +kernel
theorem dX12_assignmentAt_14 : decode cX12_assignmentAt 14 = .ok (.iload_n 3, 1) := by decide +kernel
theorem dX12_assignmentAt_15 : decode cX12_assignmentAt 15 = .ok (.isub, 1) := by decide +kernel
theorem dX12_assignmentAt_16 : decode cX12_assignmentAt 16 = .ok (.ishr, 1) := by decide +kernel
theorem dX12_assignmentAt_17 : decode cX12_assignmentAt 17 = .ok (.iconst 1, 1) := by decide +kernel
theorem dX12_assignmentAt_18 : decode cX12_assignmentAt 18 = .ok (.iand, 1) := by decide +kernel
theorem dX12_assignmentAt_19 : decode cX12_assignmentAt 19 = .ok (.iload_n 3, 1) := by decide +kernel
theorem dX12_assignmentAt_20 : decode cX12_assignmentAt 20 = .ok (.ishl, 1) := by decide +kernel
theorem dX12_assignmentAt_21 : decode cX12_assignmentAt 21 = .ok (.ior, 1) := by decide +kernel
theorem dX12_assignmentAt_22 : decode cX12_assignmentAt 22 = .ok (.istore_n 2, 1) := by decide +kernel
theorem dX12_assignmentAt_23 : decode cX12_assignmentAt 23 = .ok (.iinc 3 1, 3) := by decide +kernel
theorem dX12_assignmentAt_26 : decode cX12_assignmentAt 26 = .ok (.goto (-22), 3) := by decide +kernel
theorem dX12_assignmentAt_29 : decode cX12_assignmentAt 29 = .ok (.iload_n 2, 1) := by decide +kernel
theorem dX12_assignmentAt_30 : decode cX12_assignmentAt 30 = .ok (.ireturn, 1) := by decide +kernel
theorem dX12_addVariable_0 : decode cX12_addVariable 0 = .ok (.aload_n 0, 1) := by decide +kernel
theorem dX12_addVariable_1 : decode cX12_addVariable 1 = .ok (.iconst 0, 1) := by decide +kernel
theorem dX12_addVariable_2 : decode cX12_addVariable 2 = .ok (.putfield 1, 3) := by decide +kernel
theorem dX12_addVariable_5 : decode cX12_addVariable 5 = .ok (.aload_n 0, 1) := by decide +kernel
theorem dX12_addVariable_6 : decode cX12_addVariable 6 = .ok (.getfield 64, 3) := by decide +kernel
theorem dX12_addVariable_9 : decode cX12_addVariable 9 = .ok (.bipush 10, 2) := by decide +kernel
theorem dX12_addVariable_11 : decode cX12_addVariable 11 = .ok (.if_icmp .ne 9, 3) := by decide +kernel
theorem dX12_addVariable_14 : decode cX12_addVariable 14 = .ok (.aload_n 0, 1) := by decide +kernel
theorem dX12_addVariable_15 : decode cX12_addVariable 15 = .ok (.iconst 1, 1) := by decide +kernel
theorem dX12_addVariable_16 : decode cX12_addVariable 16 = .ok (.invokevirtual 71, 3) := by decide +kernel
theorem dX12_addVariable_19 : decode cX12_addVariable 19 = .ok (.ireturn, 1) := by decide +kernel
theorem dX12_addVariable_20 : decode cX12_addVariable 20 = .ok (.aload_n 0, 1) := by decide +kernel
theorem dX12_addVariable_21 : decode cX12_addVariable 21 = .ok (.getfield 17, 3) := by decide +kernel
theorem dX12_addVariable_24 : decode cX12_addVariable 24 = .ok (.aload_n 0, 1) := by decide +kernel
theorem dX12_addVariable_25 : decode cX12_addVariable 25 = .ok (.getfield 64, 3) := by decide +kernel
theorem dX12_addVariable_28 : decode cX12_addVariable 28 = .ok (.iconst 1, 1) := by decide +kernel
theorem dX12_addVariable_29 : decode cX12_addVariable 29 = .ok (.iastore, 1) := by decide +kernel
theorem dX12_addVariable_30 : decode cX12_addVariable 30 = .ok (.aload_n 0, 1) := by decide +kernel
theorem dX12_addVariable_31 : decode cX12_addVariable 31 = .ok (.getfield 21, 3) := by decide +kernel
theorem dX12_addVariable_34 : decode cX12_addVariable 34 = .ok (.aload_n 0, 1) := by decide +kernel
theorem dX12_addVariable_35 : decode cX12_addVariable 35 = .ok (.getfield 64, 3) := by decide +kernel
theorem dX12_addVariable_38 : decode cX12_addVariable 38 = .ok (.iconst 1, 1) := by decide +kernel
theorem dX12_addVariable_39 : decode cX12_addVariable 39 = .ok (.iastore, 1) := by decide +kernel
theorem dX12_addVariable_40 : decode cX12_addVariable 40 = .ok (.aload_n 0, 1) := by decide +kernel
theorem dX12_addVariable_41 : decode cX12_addVariable 41 = .ok (.getfield 24, 3) := by decide +kernel
theorem dX12_addVariable_44 : decode cX12_addVariable 44 = .ok (.aload_n 0, 1) := by decide +kernel
theorem dX12_addVariable_45 : decode cX12_addVariable 45 = .ok (.getfield 64, 3) := by decide +kernel
theorem dX12_addVariable_48 : decode cX12_addVariable 48 = .ok (.iconst (-1), 1) := by decide +kernel
theorem dX12_addVariable_49 : decode cX12_addVariable 49 = .ok (.iastore, 1) := by decide +kernel
theorem dX12_addVariable_50 : decode cX12_addVariable 50 = .ok (.aload_n 0, 1) := by decide +kernel
theorem dX12_addVariable_51 : decode cX12_addVariable 51 = .ok (.getfield 27, 3) := by decide +kernel
theorem dX12_addVariable_54 : decode cX12_addVariable 54 = .ok (.aload_n 0, 1) := by decide +kernel
theorem dX12_addVariable_55 : decode cX12_addVariable 55 = .ok (.getfield 64, 3) := by decide +kernel
theorem dX12_addVariable_58 : decode cX12_addVariable 58 = .ok (.aload_n 0, 1) := by decide +kernel
theorem dX12_addVariable_59 : decode cX12_addVariable 59 = .ok (.getfield 64, 3) := by decide +kernel
theorem dX12_addVariable_62 : decode cX12_addVariable 62 = .ok (.iastore, 1) := by decide +kernel
theorem dX12_addVariable_63 : decode cX12_addVariable 63 = .ok (.aload_n 0, 1) := by decide +kernel
theorem dX12_addVariable_64 : decode cX12_addVariable 64 = .ok (.dup, 1) := by decide +kernel
theorem dX12_addVariable_65 : decode cX12_addVariable 65 = .ok (.getfield 64, 3) := by decide +kernel
theorem dX12_addVariable_68 : decode cX12_addVariable 68 = .ok (.iconst 1, 1) := by decide +kernel
theorem dX12_addVariable_69 : decode cX12_addVariable 69 = .ok (.iadd, 1) := by decide +kernel
theorem dX12_addVariable_70 : decode cX12_addVariable 70 = .ok (.putfield 64, 3) := by decide +kernel
theorem dX12_addVariable_73 : decode cX12_addVariable 73 = .ok (.aload_n 0, 1) := by decide +kernel
theorem dX12_addVariable_74 : decode cX12_addVariable 74 = .ok (.getfield 64, 3) := by decide +kernel
theorem dX12_addVariable_77 : decode cX12_addVariable 77 = .ok (.iconst 1, 1) := by decide +kernel
theorem dX12_addVariable_78 : decode cX12_addVariable 78 = .ok (.isub, 1) := by decide +kernel
theorem dX12_addVariable_79 : decode cX12_addVariable 79 = .ok (.ireturn, 1) := by decide +kernel
theorem dX12_setWeights_0 : decode cX12_setWeights 0 = .ok (.aload_n 0, 1) := by decide +kernel
theorem dX12_setWeights_1 : decode cX12_setWeights 1 = .ok (.iconst 0, 1) := by decide +kernel
theorem dX12_setWeights_2 : decode cX12_setWeights 2 = .ok (.putfield 1, 3) := by decide +kernel
theorem dX12_setWeights_5 : decode cX12_setWeights 5 = .ok (.aload_n 0, 1) := by decide +kernel
theorem dX12_setWeights_6 : decode cX12_setWeights 6 = .ok (.iload_n 1, 1) := by decide +kernel
theorem dX12_setWeights_7 : decode cX12_setWeights 7 = .ok (.invokevirtual 75, 3) := by decide +kernel
theorem dX12_setWeights_10 : decode cX12_setWeights 10 = .ok (.ifCond .ne 9, 3) := by decide +kernel
theorem dX12_setWeights_13 : decode cX12_setWeights 13 = .ok (.aload_n 0, 1) := by decide +kernel
theorem dX12_setWeights_14 : decode cX12_setWeights 14 = .ok (.iconst 1, 1) := by decide +kernel
theorem dX12_setWeights_15 : decode cX12_setWeights 15 = .ok (.invokevirtual 71, 3) := by decide +kernel
theorem dX12_setWeights_18 : decode cX12_setWeights 18 = .ok (.ireturn, 1) := by decide +kernel
theorem dX12_setWeights_19 : decode cX12_setWeights 19 = .ok (.iload_n 2, 1) := by decide +kernel
theorem dX12_setWeights_20 : decode cX12_setWeights 20 = .ok (.iconst 0, 1) := by decide +kernel
theorem dX12_setWeights_21 : decode cX12_setWeights 21 = .ok (.bipush 9, 2) := by decide +kernel
theorem dX12_setWeights_23 : decode cX12_setWeights 23 = .ok (.invokestatic 67, 3) := by decide +kernel
theorem dX12_setWeights_26 : decode cX12_setWeights 26 = .ok (.ifCond .eq 13, 3) := by decide +kernel
theorem dX12_setWeights_29 : decode cX12_setWeights 29 = .ok (.iload_n 3, 1) := by decide +kernel
theorem dX12_setWeights_30 : decode cX12_setWeights 30 = .ok (.iconst 0, 1) := by decide +kernel
theorem dX12_setWeights_31 : decode cX12_setWeights 31 = .ok (.bipush 9, 2) := by decide +kernel
theorem dX12_setWeights_33 : decode cX12_setWeights 33 = .ok (.invokestatic 67, 3) := by decide +kernel
theorem dX12_setWeights_36 : decode cX12_setWeights 36 = .ok (.ifCond .ne 9, 3) := by decide +kernel
theorem dX12_setWeights_39 : decode cX12_setWeights 39 = .ok (.aload_n 0, 1) := by decide +kernel
theorem dX12_setWeights_40 : decode cX12_setWeights 40 = .ok (.iconst 2, 1) := by decide +kernel
theorem dX12_setWeights_41 : decode cX12_setWeights 41 = .ok (.invokevirtual 71, 3) := by decide +kernel
theorem dX12_setWeights_44 : decode cX12_setWeights 44 = .ok (.ireturn, 1) := by decide +kernel
theorem dX12_setWeights_45 : decode cX12_setWeights 45 = .ok (.bipush 10, 2) := by decide +kernel
theorem dX12_setWeights_47 : decode cX12_setWeights 47 = .ok (.aload_n 0, 1) := by decide +kernel
theorem dX12_setWeights_48 : decode cX12_setWeights 48 = .ok (.getfield 17, 3) := by decide +kernel
theorem dX12_setWeights_51 : decode cX12_setWeights 51 = .ok (.iload_n 1, 1) := by decide +kernel
theorem dX12_setWeights_52 : decode cX12_setWeights 52 = .ok (.iaload, 1) := by decide +kernel
theorem dX12_setWeights_53 : decode cX12_setWeights 53 = .ok (.imul, 1) := by decide +kernel
theorem dX12_setWeights_54 : decode cX12_setWeights 54 = .ok (.aload_n 0, 1) := by decide +kernel
theorem dX12_setWeights_55 : decode cX12_setWeights 55 = .ok (.getfield 21, 3) := by decide +kernel
theorem dX12_setWeights_58 : decode cX12_setWeights 58 = .ok (.iload_n 1, 1) := by decide +kernel
theorem dX12_setWeights_59 : decode cX12_setWeights 59 = .ok (.iaload, 1) := by decide +kernel
theorem dX12_setWeights_60 : decode cX12_setWeights 60 = .ok (.iadd, 1) := by decide +kernel
theorem dX12_setWeights_61 : decode cX12_setWeights 61 = .ok (.istore 4, 2) := by decide +kernel
theorem dX12_setWeights_63 : decode cX12_setWeights 63 = .ok (.aload_n 0, 1) := by decide +kernel
theorem dX12_setWeights_64 : decode cX12_setWeights 64 = .ok (.getfield 17, 3) := by decide +kernel
theorem dX12_setWeights_67 : decode cX12_setWeights 67 = .ok (.iload_n 1, 1) := by decide +kernel
theorem dX12_setWeights_68 : decode cX12_setWeights 68 = .ok (.iload_n 2, 1) := by decide +kernel
theorem dX12_setWeights_69 : decode cX12_setWeights 69 = .ok (.iastore, 1) := by decide +kernel
theorem dX12_setWeights_70 : decode cX12_setWeights 70 = .ok (.aload_n 0, 1) := by decide +kernel
theorem dX12_setWeights_71 : decode cX12_setWeights 71 = .ok (.getfield 21, 3) := by decide +kernel
theorem dX12_setWeights_74 : decode cX12_setWeights 74 = .ok (.iload_n 1, 1) := by decide +kernel
theorem dX12_setWeights_75 : decode cX12_setWeights 75 = .ok (.iload_n 3, 1) := by decide +kernel
theorem dX12_setWeights_76 : decode cX12_setWeights 76 = .ok (.iastore, 1) := by decide +kernel
theorem dX12_setWeights_77 : decode cX12_setWeights 77 = .ok (.iload 4, 2) := by decide +kernel
theorem dX12_setWeights_79 : decode cX12_setWeights 79 = .ok (.ireturn, 1) := by decide +kernel
theorem dX12_adds_0 : decode cX12_adds 0 = .ok (.aload_n 0, 1) := by decide +kernel
theorem dX12_adds_1 : decode cX12_adds 1 = .ok (.getfield 79, 3) := by decide +kernel
theorem dX12_adds_4 : decode cX12_adds 4 = .ok (.bipush 20, 2) := by decide +kernel
theorem dX12_adds_6 : decode cX12_adds 6 = .ok (.if_icmp .ne 9, 3) := by decide +kernel
theorem dX12_adds_9 : decode cX12_adds 9 = .ok (.aload_n 0, 1) := by decide +kernel
theorem dX12_adds_10 : decode cX12_adds 10 = .ok (.iconst 2, 1) := by decide +kernel
theorem dX12_adds_11 : decode cX12_adds 11 = .ok (.invokevirtual 71, 3) := by decide +kernel
theorem dX12_adds_14 : decode cX12_adds 14 = .ok (.ireturn, 1) := by decide +kernel
theorem dX12_adds_15 : decode cX12_adds 15 = .ok (.aload_n 0, 1) := by decide +kernel
theorem dX12_adds_16 : decode cX12_adds 16 = .ok (.getfield 30, 3) := by decide +kernel
theorem dX12_adds_19 : decode cX12_adds 19 = .ok (.aload_n 0, 1) := by decide +kernel
theorem dX12_adds_20 : decode cX12_adds 20 = .ok (.getfield 79, 3) := by decide +kernel
theorem dX12_adds_23 : decode cX12_adds 23 = .ok (.iload_n 1, 1) := by decide +kernel
theorem dX12_adds_24 : decode cX12_adds 24 = .ok (.castore, 1) := by decide +kernel
theorem dX12_adds_25 : decode cX12_adds 25 = .ok (.aload_n 0, 1) := by decide +kernel
theorem dX12_adds_26 : decode cX12_adds 26 = .ok (.getfield 34, 3) := by decide +kernel
theorem dX12_adds_29 : decode cX12_adds 29 = .ok (.aload_n 0, 1) := by decide +kernel
theorem dX12_adds_30 : decode cX12_adds 30 = .ok (.getfield 79, 3) := by decide +kernel
theorem dX12_adds_33 : decode cX12_adds 33 = .ok (.iload_n 2, 1) := by decide +kernel
theorem dX12_adds_34 : decode cX12_adds 34 = .ok (.iastore, 1) := by decide +kernel
theorem dX12_adds_35 : decode cX12_adds 35 = .ok (.aload_n 0, 1) := by decide +kernel
theorem dX12_adds_36 : decode cX12_adds 36 = .ok (.getfield 37, 3) := by decide +kernel
theorem dX12_adds_39 : decode cX12_adds 39 = .ok (.aload_n 0, 1) := by decide +kernel
theorem dX12_adds_40 : decode cX12_adds 40 = .ok (.getfield 79, 3) := by decide +kernel
theorem dX12_adds_43 : decode cX12_adds 43 = .ok (.iload_n 3, 1) := by decide +kernel
theorem dX12_adds_44 : decode cX12_adds 44 = .ok (.iastore, 1) := by decide +kernel
theorem dX12_adds_45 : decode cX12_adds 45 = .ok (.aload_n 0, 1) := by decide +kernel
theorem dX12_adds_46 : decode cX12_adds 46 = .ok (.getfield 40, 3) := by decide +kernel
theorem dX12_adds_49 : decode cX12_adds 49 = .ok (.aload_n 0, 1) := by decide +kernel
theorem dX12_adds_50 : decode cX12_adds 50 = .ok (.getfield 79, 3) := by decide +kernel
theorem dX12_adds_53 : decode cX12_adds 53 = .ok (.iload 4, 2) := by decide +kernel
theorem dX12_adds_55 : decode cX12_adds 55 = .ok (.iastore, 1) := by decide +kernel
theorem dX12_adds_56 : decode cX12_adds 56 = .ok (.aload_n 0, 1) := by decide +kernel
theorem dX12_adds_57 : decode cX12_adds 57 = .ok (.getfield 43, 3) := by decide +kernel
theorem dX12_adds_60 : decode cX12_adds 60 = .ok (.aload_n 0, 1) := by decide +kernel
theorem dX12_adds_61 : decode cX12_adds 61 = .ok (.getfield 79, 3) := by decide +kernel
theorem dX12_adds_64 : decode cX12_adds 64 = .ok (.iload 5, 2) := by decide +kernel
theorem dX12_adds_66 : decode cX12_adds 66 = .ok (.iastore, 1) := by decide +kernel
theorem dX12_adds_67 : decode cX12_adds 67 = .ok (.aload_n 0, 1) := by decide +kernel
theorem dX12_adds_68 : decode cX12_adds 68 = .ok (.dup, 1) := by decide +kernel
theorem dX12_adds_69 : decode cX12_adds 69 = .ok (.getfield 79, 3) := by decide +kernel
theorem dX12_adds_72 : decode cX12_adds 72 = .ok (.iconst 1, 1) := by decide +kernel
theorem dX12_adds_73 : decode cX12_adds 73 = .ok (.iadd, 1) := by decide +kernel
theorem dX12_adds_74 : decode cX12_adds 74 = .ok (.putfield 79, 3) := by decide +kernel
theorem dX12_adds_77 : decode cX12_adds 77 = .ok (.aload_n 0, 1) := by decide +kernel
theorem dX12_adds_78 : decode cX12_adds 78 = .ok (.getfield 79, 3) := by decide +kernel
theorem dX12_adds_81 : decode cX12_adds 81 = .ok (.iconst 1, 1) := by decide +kernel
theorem dX12_adds_82 : decode cX12_adds 82 = .ok (.isub, 1) := by decide +kernel
theorem dX12_adds_83 : decode cX12_adds 83 = .ok (.ireturn, 1) := by decide +kernel
theorem dX12_addClause_0 : decode cX12_addClause 0 = .ok (.aload_n 0, 1) := by decide +kernel
theorem dX12_addClause_1 : decode cX12_addClause 1 = .ok (.iconst 0, 1) := by decide +kernel
theorem dX12_addClause_2 : decode cX12_addClause 2 = .ok (.putfield 1, 3) := by decide +kernel
theorem dX12_addClause_5 : decode cX12_addClause 5 = .ok (.aload_n 0, 1) := by decide +kernel
theorem dX12_addClause_6 : decode cX12_addClause 6 = .ok (.iload_n 1, 1) := by decide +kernel
theorem dX12_addClause_7 : decode cX12_addClause 7 = .ok (.invokevirtual 82, 3) := by decide +kernel
theorem dX12_addClause_10 : decode cX12_addClause 10 = .ok (.ifCond .eq 17, 3) := by decide +kernel
theorem dX12_addClause_13 : decode cX12_addClause 13 = .ok (.aload_n 0, 1) := by decide +kernel
theorem dX12_addClause_14 : decode cX12_addClause 14 = .ok (.iload_n 2, 1) := by decide +kernel
theorem dX12_addClause_15 : decode cX12_addClause 15 = .ok (.invokevirtual 82, 3) := by decide +kernel
theorem dX12_addClause_18 : decode cX12_addClause 18 = .ok (.ifCond .eq 9, 3) := by decide +kernel
theorem dX12_addClause_21 : decode cX12_addClause 21 = .ok (.iload_n 1, 1) := by decide +kernel
theorem dX12_addClause_22 : decode cX12_addClause 22 = .ok (.iload_n 2, 1) := by decide +kernel
theorem dX12_addClause_23 : decode cX12_addClause 23 = .ok (.ior, 1) := by decide +kernel
theorem dX12_addClause_24 : decode cX12_addClause 24 = .ok (.ifCond .ne 9, 3) := by decide +kernel
theorem dX12_addClause_27 : decode cX12_addClause 27 = .ok (.aload_n 0, 1) := by decide +kernel
theorem dX12_addClause_28 : decode cX12_addClause 28 = .ok (.iconst 1, 1) := by decide +kernel
theorem dX12_addClause_29 : decode cX12_addClause 29 = .ok (.invokevirtual 71, 3) := by decide +kernel
theorem dX12_addClause_32 : decode cX12_addClause 32 = .ok (.ireturn, 1) := by decide +kernel
theorem dX12_addClause_33 : decode cX12_addClause 33 = .ok (.aload_n 0, 1) := by decide +kernel
theorem dX12_addClause_34 : decode cX12_addClause 34 = .ok (.bipush 111, 2) := by decide +kernel
theorem dX12_addClause_36 : decode cX12_addClause 36 = .ok (.iload_n 1, 1) := by decide +kernel
theorem dX12_addClause_37 : decode cX12_addClause 37 = .ok (.iload_n 2, 1) := by decide +kernel
theorem dX12_addClause_38 : decode cX12_addClause 38 = .ok (.iconst 0, 1) := by decide +kernel
theorem dX12_addClause_39 : decode cX12_addClause 39 = .ok (.iconst 0, 1) := by decide +kernel
theorem dX12_addClause_40 : decode cX12_addClause 40 = .ok (.invokevirtual 85, 3) := by decide +kernel
theorem dX12_addClause_43 : decode cX12_addClause 43 = .ok (.ireturn, 1) := by decide +kernel
theorem dX12_addParity_0 : decode cX12_addParity 0 = .ok (.aload_n 0, 1) := by decide +kernel
theorem dX12_addParity_1 : decode cX12_addParity 1 = .ok (.iconst 0, 1) := by decide +kernel
theorem dX12_addParity_2 : decode cX12_addParity 2 = .ok (.putfield 1, 3) := by decide +kernel
theorem dX12_addParity_5 : decode cX12_addParity 5 = .ok (.aload_n 0, 1) := by decide +kernel
theorem dX12_addParity_6 : decode cX12_addParity 6 = .ok (.iload_n 1, 1) := by decide +kernel
theorem dX12_addParity_7 : decode cX12_addParity 7 = .ok (.invokevirtual 82, 3) := by decide +kernel
theorem dX12_addParity_10 : decode cX12_addParity 10 = .ok (.ifCond .eq 16, 3) := by decide +kernel
theorem dX12_addParity_13 : decode cX12_addParity 13 = .ok (.iload_n 1, 1) := by decide +kernel
theorem dX12_addParity_14 : decode cX12_addParity 14 = .ok (.ifCond .eq 12, 3) := by decide +kernel
theorem dX12_addParity_17 : decode cX12_addParity 17 = .ok (.iload_n 2, 1) := by decide +kernel
theorem dX12_addParity_18 : decode cX12_addParity 18 = .ok (.iconst 0, 1) := by decide +kernel
theorem dX12_addParity_19 : decode cX12_addParity 19 = .ok (.iconst 1, 1) := by decide +kernel
theorem dX12_addParity_20 : decode cX12_addParity 20 = .ok (.invokestatic 67, 3) := by decide +kernel
theorem dX12_addParity_23 : decode cX12_addParity 23 = .ok (.ifCond .ne 9, 3) := by decide +kernel
theorem dX12_addParity_26 : decode cX12_addParity 26 = .ok (.aload_n 0, 1) := by decide +kernel
theorem dX12_addParity_27 : decode cX12_addParity 27 = .ok (.iconst 1, 1) := by decide +kernel
theorem dX12_addParity_28 : decode cX12_addParity 28 = .ok (.invokevirtual 71, 3) := by decide +kernel
theorem dX12_addParity_31 : decode cX12_addParity 31 = .ok (.ireturn, 1) := by decide +kernel
theorem dX12_addParity_32 : decode cX12_addParity 32 = .ok (.aload_n 0, 1) := by decide +kernel
theorem dX12_addParity_33 : decode cX12_addParity 33 = .ok (.bipush 120, 2) := by decide +kernel
theorem dX12_addParity_35 : decode cX12_addParity 35 = .ok (.iload_n 1, 1) := by decide +kernel
theorem dX12_addParity_36 : decode cX12_addParity 36 = .ok (.iconst 0, 1) := by decide +kernel
theorem dX12_addParity_37 : decode cX12_addParity 37 = .ok (.iload_n 2, 1) := by decide +kernel
theorem dX12_addParity_38 : decode cX12_addParity 38 = .ok (.iload_n 2, 1) := by decide +kernel
theorem dX12_addParity_39 : decode cX12_addParity 39 = .ok (.invokevirtual 85, 3) := by decide +kernel
theorem dX12_addParity_42 : decode cX12_addParity 42 = .ok (.ireturn, 1) := by decide +kernel
theorem dX12_addBound_0 : decode cX12_addBound 0 = .ok (.aload_n 0, 1) := by decide +kernel
theorem dX12_addBound_1 : decode cX12_addBound 1 = .ok (.iconst 0, 1) := by decide +kernel
theorem dX12_addBound_2 : decode cX12_addBound 2 = .ok (.putfield 1, 3) := by decide +kernel
theorem dX12_addBound_5 : decode cX12_addBound 5 = .ok (.aload_n 0, 1) := by decide +kernel
theorem dX12_addBound_6 : decode cX12_addBound 6 = .ok (.iload_n 1, 1) := by decide +kernel
theorem dX12_addBound_7 : decode cX12_addBound 7 = .ok (.invokevirtual 82, 3) := by decide +kernel
theorem dX12_addBound_10 : decode cX12_addBound 10 = .ok (.ifCond .eq 27, 3) := by decide +kernel
theorem dX12_addBound_13 : decode cX12_addBound 13 = .ok (.iload_n 1, 1) := by decide +kernel
theorem dX12_addBound_14 : decode cX12_addBound 14 = .ok (.ifCond .eq 23, 3) := by decide +kernel
theorem dX12_addBound_17 : decode cX12_addBound 17 = .ok (.iload_n 2, 1) := by decide +kernel
theorem dX12_addBound_18 : decode cX12_addBound 18 = .ok (.iconst 0, 1) := by decide +kernel
theorem dX12_addBound_19 : decode cX12_addBound 19 = .ok (.bipush 10, 2) := by decide +kernel
theorem dX12_addBound_21 : decode cX12_addBound 21 = .ok (.invokestatic 67, 3) := by decide +kernel
theorem dX12_addBound_24 : decode cX12_addBound 24 = .ok (.ifCond .eq 13, 3) := by decide +kernel
theorem dX12_addBound_27 : decode cX12_addBound 27 = .ok (.iload_n 3, 1) := by decide +kernel
theorem dX12_addBound_28 : decode cX12_addBound 28 = .ok (.iload_n 2, 1) := by decide +kernel
theorem dX12_addBound_29 : decode cX12_addBound 29 = .ok (.bipush 10, 2) := by decide +kernel
theorem dX12_addBound_31 : decode cX12_addBound 31 = .ok (.invokestatic 67, 3) := by decide +kernel
theorem dX12_addBound_34 : decode cX12_addBound 34 = .ok (.ifCond .ne 9, 3) := by decide +kernel
theorem dX12_addBound_37 : decode cX12_addBound 37 = .ok (.aload_n 0, 1) := by decide +kernel
theorem dX12_addBound_38 : decode cX12_addBound 38 = .ok (.iconst 1, 1) := by decide +kernel
theorem dX12_addBound_39 : decode cX12_addBound 39 = .ok (.invokevirtual 71, 3) := by decide +kernel
theorem dX12_addBound_42 : decode cX12_addBound 42 = .ok (.ireturn, 1) := by decide +kernel
theorem dX12_addBound_43 : decode cX12_addBound 43 = .ok (.aload_n 0, 1) := by decide +kernel
theorem dX12_addBound_44 : decode cX12_addBound 44 = .ok (.bipush 107, 2) := by decide +kernel
theorem dX12_addBound_46 : decode cX12_addBound 46 = .ok (.iload_n 1, 1) := by decide +kernel
theorem dX12_addBound_47 : decode cX12_addBound 47 = .ok (.iconst 0, 1) := by decide +kernel
theorem dX12_addBound_48 : decode cX12_addBound 48 = .ok (.iload_n 2, 1) := by decide +kernel
theorem dX12_addBound_49 : decode cX12_addBound 49 = .ok (.iload_n 3, 1) := by decide +kernel
theorem dX12_addBound_50 : decode cX12_addBound 50 = .ok (.invokevirtual 85, 3) := by decide +kernel
theorem dX12_addBound_53 : decode cX12_addBound 53 = .ok (.ireturn, 1) := by decide +kernel
theorem dX12_isConstraint_0 : decode cX12_isConstraint 0 = .ok (.iload_n 1, 1) := by decide +kernel
theorem dX12_isConstraint_1 : decode cX12_isConstraint 1 = .ok (.iconst 0, 1) := by decide +kernel
theorem dX12_isConstraint_2 : decode cX12_isConstraint 2 = .ok (.aload_n 0, 1) := by decide +kernel
theorem dX12_isConstraint_3 : decode cX12_isConstraint 3 = .ok (.getfield 79, 3) := by decide +kernel
theorem dX12_isConstraint_6 : decode cX12_isConstraint 6 = .ok (.iconst 1, 1) := by decide +kernel
theorem dX12_isConstraint_7 : decode cX12_isConstraint 7 = .ok (.isub, 1) := by decide +kernel
theorem dX12_isConstraint_8 : decode cX12_isConstraint 8 = .ok (.invokestatic 67, 3) := by decide +kernel
theorem dX12_isConstraint_11 : decode cX12_isConstraint 11 = .ok (.ireturn, 1) := by decide +kernel
theorem dX12_drop_0 : decode cX12_drop 0 = .ok (.aload_n 0, 1) := by decide +kernel
theorem dX12_drop_1 : decode cX12_drop 1 = .ok (.iconst 0, 1) := by decide +kernel
theorem dX12_drop_2 : decode cX12_drop 2 = .ok (.putfield 1, 3) := by decide +kernel
theorem dX12_drop_5 : decode cX12_drop 5 = .ok (.aload_n 0, 1) := by decide +kernel
theorem dX12_drop_6 : decode cX12_drop 6 = .ok (.iload_n 1, 1) := by decide +kernel
theorem dX12_drop_7 : decode cX12_drop 7 = .ok (.invokevirtual 89, 3) := by decide +kernel
theorem dX12_drop_10 : decode cX12_drop 10 = .ok (.ifCond .ne 9, 3) := by decide +kernel
theorem dX12_drop_13 : decode cX12_drop 13 = .ok (.aload_n 0, 1) := by decide +kernel
theorem dX12_drop_14 : decode cX12_drop 14 = .ok (.iconst 1, 1) := by decide +kernel
theorem dX12_drop_15 : decode cX12_drop 15 = .ok (.invokevirtual 71, 3) := by decide +kernel
theorem dX12_drop_18 : decode cX12_drop 18 = .ok (.ireturn, 1) := by decide +kernel
theorem dX12_drop_19 : decode cX12_drop 19 = .ok (.aload_n 0, 1) := by decide +kernel
theorem dX12_drop_20 : decode cX12_drop 20 = .ok (.getfield 46, 3) := by decide +kernel
theorem dX12_drop_23 : decode cX12_drop 23 = .ok (.iload_n 1, 1) := by decide +kernel
theorem dX12_drop_24 : decode cX12_drop 24 = .ok (.baload, 1) := by decide +kernel
theorem dX12_drop_25 : decode cX12_drop 25 = .ok (.ifCond .eq 9, 3) := by decide +kernel
theorem dX12_drop_28 : decode cX12_drop 28 = .ok (.aload_n 0, 1) := by decide +kernel
theorem dX12_drop_29 : decode cX12_drop 29 = .ok (.iconst 2, 1) := by decide +kernel
theorem dX12_drop_30 : decode cX12_drop 30 = .ok (.invokevirtual 71, 3) := by decide +kernel
theorem dX12_drop_33 : decode cX12_drop 33 = .ok (.ireturn, 1) := by decide +kernel
theorem dX12_drop_34 : decode cX12_drop 34 = .ok (.aload_n 0, 1) := by decide +kernel
theorem dX12_drop_35 : decode cX12_drop 35 = .ok (.getfield 46, 3) := by decide +kernel
theorem dX12_drop_38 : decode cX12_drop 38 = .ok (.iload_n 1, 1) := by decide +kernel
theorem dX12_drop_39 : decode cX12_drop 39 = .ok (.iconst 1, 1) := by decide +kernel
theorem dX12_drop_40 : decode cX12_drop 40 = .ok (.bastore, 1) := by decide +kernel
theorem dX12_drop_41 : decode cX12_drop 41 = .ok (.iconst 0, 1) := by decide +kernel
theorem dX12_drop_42 : decode cX12_drop 42 = .ok (.istore_n 2, 1) := by decide +kernel
theorem dX12_drop_43 : decode cX12_drop 43 = .ok (.iconst 0, 1) := by decide +kernel
theorem dX12_drop_44 : decode cX12_drop 44 = .ok (.istore_n 3, 1) := by decide +kernel
theorem dX12_drop_45 : decode cX12_drop 45 = .ok (.iload_n 3, 1) := by decide +kernel
theorem dX12_drop_46 : decode cX12_drop 46 = .ok (.aload_n 0, 1) := by decide +kernel
theorem dX12_drop_47 : decode cX12_drop 47 = .ok (.getfield 79, 3) := by decide +kernel
theorem dX12_drop_50 : decode cX12_drop 50 = .ok (.if_icmp .ge 26, 3) := by decide +kernel
theorem dX12_drop_53 : decode cX12_drop 53 = .ok (.iload_n 2, 1) := by decide +kernel
theorem dX12_drop_54 : decode cX12_drop 54 = .ok (.aload_n 0, 1) := by decide +kernel
theorem dX12_drop_55 : decode cX12_drop 55 = .ok (.getfield 46, 3) := by decide +kernel
theorem dX12_drop_58 : decode cX12_drop 58 = .ok (.iload_n 3, 1) := by decide +kernel
theorem dX12_drop_59 : decode cX12_drop 59 = .ok (.baload, 1) := by decide +kernel
theorem dX12_drop_60 : decode cX12_drop 60 = .ok (.ifCond .eq 7, 3) := by decide +kernel
theorem dX12_drop_63 : decode cX12_drop 63 = .ok (.iconst 0, 1) := by decide +kernel
theorem dX12_drop_64 : decode cX12_drop 64 = .ok (.goto 4, 3) := by decide +kernel
theorem dX12_drop_67 : decode cX12_drop 67 = .ok (.iconst 1, 1) := by decide +kernel
theorem dX12_drop_68 : decode cX12_drop 68 = .ok (.iadd, 1) := by decide +kernel
theorem dX12_drop_69 : decode cX12_drop 69 = .ok (.istore_n 2, 1) := by decide +kernel
theorem dX12_drop_70 : decode cX12_drop 70 = .ok (.iinc 3 1, 3) := by decide +kernel
theorem dX12_drop_73 : decode cX12_drop 73 = .ok (.goto (-28), 3) := by decide +kernel
theorem dX12_drop_76 : decode cX12_drop 76 = .ok (.iload_n 2, 1) := by decide +kernel
theorem dX12_drop_77 : decode cX12_drop 77 = .ok (.ireturn, 1) := by decide +kernel
theorem dX12_kind_0 : decode cX12_kind 0 = .ok (.aload_n 0, 1) := by decide +kernel
theorem dX12_kind_1 : decode cX12_kind 1 = .ok (.iconst 0, 1) := by decide +kernel
theorem dX12_kind_2 : decode cX12_kind 2 = .ok (.putfield 1, 3) := by decide +kernel
theorem dX12_kind_5 : decode cX12_kind 5 = .ok (.aload_n 0, 1) := by decide +kernel
theorem dX12_kind_6 : decode cX12_kind 6 = .ok (.iload_n 1, 1) := by decide +kernel
theorem dX12_kind_7 : decode cX12_kind 7 = .ok (.invokevirtual 89, 3) := by decide +kernel
theorem dX12_kind_10 : decode cX12_kind 10 = .ok (.ifCond .eq 12, 3) := by decide +kernel
theorem dX12_kind_13 : decode cX12_kind 13 = .ok (.aload_n 0, 1) := by decide +kernel
theorem dX12_kind_14 : decode cX12_kind 14 = .ok (.getfield 30, 3) := by decide +kernel
theorem dX12_kind_17 : decode cX12_kind 17 = .ok (.iload_n 1, 1) := by decide +kernel
theorem dX12_kind_18 : decode cX12_kind 18 = .ok (.caload, 1) := by decide +kernel
theorem dX12_kind_19 : decode cX12_kind 19 = .ok (.goto 9, 3) := by decide +kernel
theorem dX12_kind_22 : decode cX12_kind 22 = .ok (.aload_n 0, 1) := by decide +kernel
theorem dX12_kind_23 : decode cX12_kind 23 = .ok (.iconst 1, 1) := by decide +kernel
theorem dX12_kind_24 : decode cX12_kind 24 = .ok (.invokevirtual 71, 3) := by decide +kernel
theorem dX12_kind_27 : decode cX12_kind 27 = .ok (.i2c, 1) := by decide +kernel
theorem dX12_kind_28 : decode cX12_kind 28 = .ok (.ireturn, 1) := by decide +kernel
theorem dX12_setEvidence_0 : decode cX12_setEvidence 0 = .ok (.aload_n 0, 1) := by decide +kernel
theorem dX12_setEvidence_1 : decode cX12_setEvidence 1 = .ok (.iconst 0, 1) := by decide +kernel
theorem dX12_setEvidence_2 : decode cX12_setEvidence 2 = .ok (.putfield 1, 3) := by decide +kernel
theorem dX12_setEvidence_5 : decode cX12_setEvidence 5 = .ok (.aload_n 0, 1) := by decide +kernel
theorem dX12_setEvidence_6 : decode cX12_setEvidence 6 = .ok (.iload_n 1, 1) := by decide +kernel
theorem dX12_setEvidence_7 : decode cX12_setEvidence 7 = .ok (.invokevirtual 75, 3) := by decide +kernel
theorem dX12_setEvidence_10 : decode cX12_setEvidence 10 = .ok (.ifCond .ne 9, 3) := by decide +kernel
theorem dX12_setEvidence_13 : decode cX12_setEvidence 13 = .ok (.aload_n 0, 1) := by decide +kernel
theorem dX12_setEvidence_14 : decode cX12_setEvidence 14 = .ok (.iconst 1, 1) := by decide +kernel
theorem dX12_setEvidence_15 : decode cX12_setEvidence 15 = .ok (.invokevirtual 71, 3) := by decide +kernel
theorem dX12_setEvidence_18 : decode cX12_setEvidence 18 = .ok (.ireturn, 1) := by decide +kernel
theorem dX12_setEvidence_19 : decode cX12_setEvidence 19 = .ok (.iload_n 2, 1) := by decide +kernel
theorem dX12_setEvidence_20 : decode cX12_setEvidence 20 = .ok (.iconst (-1), 1) := by decide +kernel
theorem dX12_setEvidence_21 : decode cX12_setEvidence 21 = .ok (.iconst 1, 1) := by decide +kernel
theorem dX12_setEvidence_22 : decode cX12_setEvidence 22 = .ok (.invokestatic 67, 3) := by decide +kernel
theorem dX12_setEvidence_25 : decode cX12_setEvidence 25 = .ok (.ifCond .ne 9, 3) := by decide +kernel
theorem dX12_setEvidence_28 : decode cX12_setEvidence 28 = .ok (.aload_n 0, 1) := by decide +kernel
theorem dX12_setEvidence_29 : decode cX12_setEvidence 29 = .ok (.iconst 2, 1) := by decide +kernel
theorem dX12_setEvidence_30 : decode cX12_setEvidence 30 = .ok (.invokevirtual 71, 3) := by decide +kernel
theorem dX12_setEvidence_33 : decode cX12_setEvidence 33 = .ok (.ireturn, 1) := by decide +kernel
theorem dX12_setEvidence_34 : decode cX12_setEvidence 34 = .ok (.aload_n 0, 1) := by decide +kernel
theorem dX12_setEvidence_35 : decode cX12_setEvidence 35 = .ok (.getfield 24, 3) := by decide +kernel
theorem dX12_setEvidence_38 : decode cX12_setEvidence 38 = .ok (.iload_n 1, 1) := by decide +kernel
theorem dX12_setEvidence_39 : decode cX12_setEvidence 39 = .ok (.iaload, 1) := by decide +kernel
theorem dX12_setEvidence_40 : decode cX12_setEvidence 40 = .ok (.istore_n 3, 1) := by decide +kernel
theorem dX12_setEvidence_41 : decode cX12_setEvidence 41 = .ok (.aload_n 0, 1) := by decide +kernel
theorem dX12_setEvidence_42 : decode cX12_setEvidence 42 = .ok (.getfield 24, 3) := by decide +kernel
theorem dX12_setEvidence_45 : decode cX12_setEvidence 45 = .ok (.iload_n 1, 1) := by decide +kernel
theorem dX12_setEvidence_46 : decode cX12_setEvidence 46 = .ok (.iload_n 2, 1) := by decide +kernel
theorem dX12_setEvidence_47 : decode cX12_setEvidence 47 = .ok (.iastore, 1) := by decide +kernel
theorem dX12_setEvidence_48 : decode cX12_setEvidence 48 = .ok (.iload_n 3, 1) := by decide +kernel
theorem dX12_setEvidence_49 : decode cX12_setEvidence 49 = .ok (.ireturn, 1) := by decide +kernel
theorem dX12_isHeld_0 : decode cX12_isHeld 0 = .ok (.aload_n 0, 1) := by decide +kernel
theorem dX12_isHeld_1 : decode cX12_isHeld 1 = .ok (.getfield 30, 3) := by decide +kernel
theorem dX12_isHeld_4 : decode cX12_isHeld 4 = .ok (.iload_n 1, 1) := by decide +kernel
theorem dX12_isHeld_5 : decode cX12_isHeld 5 = .ok (.caload, 1) := by decide +kernel
theorem dX12_isHeld_6 : decode cX12_isHeld 6 = .ok (.bipush 111, 2) := by decide +kernel
theorem dX12_isHeld_8 : decode cX12_isHeld 8 = .ok (.if_icmp .ne 33, 3) := by decide +kernel
theorem dX12_isHeld_11 : decode cX12_isHeld 11 = .ok (.aload_n 0, 1) := by decide +kernel
theorem dX12_isHeld_12 : decode cX12_isHeld 12 = .ok (.getfield 34, 3) := by decide +kernel
theorem dX12_isHeld_15 : decode cX12_isHeld 15 = .ok (.iload_n 1, 1) := by decide +kernel
theorem dX12_isHeld_16 : decode cX12_isHeld 16 = .ok (.iaload, 1) := by decide +kernel
theorem dX12_isHeld_17 : decode cX12_isHeld 17 = .ok (.iload_n 2, 1) := by decide +kernel
theorem dX12_isHeld_18 : decode cX12_isHeld 18 = .ok (.iand, 1) := by decide +kernel
theorem dX12_isHeld_19 : decode cX12_isHeld 19 = .ok (.ifCond .ne 16, 3) := by decide +kernel
theorem dX12_isHeld_22 : decode cX12_isHeld 22 = .ok (.aload_n 0, 1) := by decide +kernel
theorem dX12_isHeld_23 : decode cX12_isHeld 23 = .ok (.getfield 37, 3) := by decide +kernel
theorem dX12_isHeld_26 : decode cX12_isHeld 26 = .ok (.iload_n 1, 1) := by decide +kernel
theorem dX12_isHeld_27 : decode cX12_isHeld 27 = .ok (.iaload, 1) := by decide +kernel
theorem dX12_isHeld_28 : decode cX12_isHeld 28 = .ok (.iload_n 2, 1) := by decide +kernel
theorem dX12_isHeld_29 : decode cX12_isHeld 29 = .ok (.iconst (-1), 1) := by decide +kernel
theorem dX12_isHeld_30 : decode cX12_isHeld 30 = .ok (.ixor, 1) := by decide +kernel
theorem dX12_isHeld_31 : decode cX12_isHeld 31 = .ok (.iand, 1) := by decide +kernel
theorem dX12_isHeld_32 : decode cX12_isHeld 32 = .ok (.ifCond .eq 7, 3) := by decide +kernel
theorem dX12_isHeld_35 : decode cX12_isHeld 35 = .ok (.iconst 1, 1) := by decide +kernel
theorem dX12_isHeld_36 : decode cX12_isHeld 36 = .ok (.goto 4, 3) := by decide +kernel
theorem dX12_isHeld_39 : decode cX12_isHeld 39 = .ok (.iconst 0, 1) := by decide +kernel
theorem dX12_isHeld_40 : decode cX12_isHeld 40 = .ok (.ireturn, 1) := by decide +kernel
theorem dX12_isHeld_41 : decode cX12_isHeld 41 = .ok (.aload_n 0, 1) := by decide +kernel
theorem dX12_isHeld_42 : decode cX12_isHeld 42 = .ok (.getfield 34, 3) := by decide +kernel
theorem dX12_isHeld_45 : decode cX12_isHeld 45 = .ok (.iload_n 1, 1) := by decide +kernel
theorem dX12_isHeld_46 : decode cX12_isHeld 46 = .ok (.iaload, 1) := by decide +kernel
theorem dX12_isHeld_47 : decode cX12_isHeld 47 = .ok (.iload_n 2, 1) := by decide +kernel
theorem dX12_isHeld_48 : decode cX12_isHeld 48 = .ok (.iand, 1) := by decide +kernel
theorem dX12_isHeld_49 : decode cX12_isHeld 49 = .ok (.invokestatic 92, 3) := by decide +kernel
theorem dX12_isHeld_52 : decode cX12_isHeld 52 = .ok (.istore_n 3, 1) := by decide +kernel
theorem dX12_isHeld_53 : decode cX12_isHeld 53 = .ok (.aload_n 0, 1) := by decide +kernel
theorem dX12_isHeld_54 : decode cX12_isHeld 54 = .ok (.getfield 30, 3) := by decide +kernel
theorem dX12_isHeld_57 : decode cX12_isHeld 57 = .ok (.iload_n 1, 1) := by decide +kernel
theorem dX12_isHeld_58 : decode cX12_isHeld 58 = .ok (.caload, 1) := by decide +kernel
theorem dX12_isHeld_59 : decode cX12_isHeld 59 = .ok (.bipush 120, 2) := by decide +kernel
theorem dX12_isHeld_61 : decode cX12_isHeld 61 = .ok (.if_icmp .ne 23, 3) := by decide +kernel
theorem dX12_isHeld_64 : decode cX12_isHeld 64 = .ok (.iload_n 3, 1) := by decide +kernel
theorem dX12_isHeld_65 : decode cX12_isHeld 65 = .ok (.iconst 2, 1) := by decide +kernel
theorem dX12_isHeld_66 : decode cX12_isHeld 66 = .ok (.irem, 1) := by decide +kernel
theorem dX12_isHeld_67 : decode cX12_isHeld 67 = .ok (.aload_n 0, 1) := by decide +kernel
theorem dX12_isHeld_68 : decode cX12_isHeld 68 = .ok (.getfield 40, 3) := by decide +kernel
theorem dX12_isHeld_71 : decode cX12_isHeld 71 = .ok (.iload_n 1, 1) := by decide +kernel
theorem dX12_isHeld_72 : decode cX12_isHeld 72 = .ok (.iaload, 1) := by decide +kernel
theorem dX12_isHeld_73 : decode cX12_isHeld 73 = .ok (.if_icmp .ne 7, 3) := by decide +kernel
theorem dX12_isHeld_76 : decode cX12_isHeld 76 = .ok (.iconst 1, 1) := by decide +kernel
theorem dX12_isHeld_77 : decode cX12_isHeld 77 = .ok (.goto 23, 3) := by decide +kernel
theorem dX12_isHeld_80 : decode cX12_isHeld 80 = .ok (.iconst 0, 1) := by decide +kernel
theorem dX12_isHeld_81 : decode cX12_isHeld 81 = .ok (.goto 19, 3) := by decide +kernel
theorem dX12_isHeld_84 : decode cX12_isHeld 84 = .ok (.iload_n 3, 1) := by decide +kernel
theorem dX12_isHeld_85 : decode cX12_isHeld 85 = .ok (.aload_n 0, 1) := by decide +kernel
theorem dX12_isHeld_86 : decode cX12_isHeld 86 = .ok (.getfield 40, 3) := by decide +kernel
theorem dX12_isHeld_89 : decode cX12_isHeld 89 = .ok (.iload_n 1, 1) := by decide +kernel
theorem dX12_isHeld_90 : decode cX12_isHeld 90 = .ok (.iaload, 1) := by decide +kernel
theorem dX12_isHeld_91 : decode cX12_isHeld 91 = .ok (.aload_n 0, 1) := by decide +kernel
theorem dX12_isHeld_92 : decode cX12_isHeld 92 = .ok (.getfield 43, 3) := by decide +kernel
theorem dX12_isHeld_95 : decode cX12_isHeld 95 = .ok (.iload_n 1, 1) := by decide +kernel
theorem dX12_isHeld_96 : decode cX12_isHeld 96 = .ok (.iaload, 1) := by decide +kernel
theorem dX12_isHeld_97 : decode cX12_isHeld 97 = .ok (.invokestatic 67, 3) := by decide +kernel
theorem dX12_isHeld_100 : decode cX12_isHeld 100 = .ok (.ireturn, 1) := by decide +kernel
theorem dX12_holds_0 : decode cX12_holds 0 = .ok (.aload_n 0, 1) := by decide +kernel
theorem dX12_holds_1 : decode cX12_holds 1 = .ok (.aload_n 0, 1) := by decide +kernel
theorem dX12_holds_2 : decode cX12_holds 2 = .ok (.iload_n 1, 1) := by decide +kernel
theorem dX12_holds_3 : decode cX12_holds 3 = .ok (.invokevirtual 89, 3) := by decide +kernel
theorem dX12_holds_6 : decode cX12_holds 6 = .ok (.ifCond .ne 7, 3) := by decide +kernel
theorem dX12_holds_9 : decode cX12_holds 9 = .ok (.iconst 1, 1) := by decide +kernel
theorem dX12_holds_10 : decode cX12_holds 10 = .ok (.goto 16, 3) := by decide +kernel
theorem dX12_holds_13 : decode cX12_holds 13 = .ok (.aload_n 0, 1) := by decide +kernel
theorem dX12_holds_14 : decode cX12_holds 14 = .ok (.iload_n 2, 1) := by decide +kernel
theorem dX12_holds_15 : decode cX12_holds 15 = .ok (.invokevirtual 82, 3) := by decide +kernel
theorem dX12_holds_18 : decode cX12_holds 18 = .ok (.ifCond .eq 7, 3) := by decide +kernel
theorem dX12_holds_21 : decode cX12_holds 21 = .ok (.iconst 0, 1) := by decide +kernel
theorem dX12_holds_22 : decode cX12_holds 22 = .ok (.goto 4, 3) := by decide +kernel
theorem dX12_holds_25 : decode cX12_holds 25 = .ok (.iconst 2, 1) := by decide +kernel
theorem dX12_holds_26 : decode cX12_holds 26 = .ok (.putfield 1, 3) := by decide +kernel
theorem dX12_holds_29 : decode cX12_holds 29 = .ok (.aload_n 0, 1) := by decide +kernel
theorem dX12_holds_30 : decode cX12_holds 30 = .ok (.getfield 1, 3) := by decide +kernel
theorem dX12_holds_33 : decode cX12_holds 33 = .ok (.ifCond .ne 16, 3) := by decide +kernel
theorem dX12_holds_36 : decode cX12_holds 36 = .ok (.aload_n 0, 1) := by decide +kernel
theorem dX12_holds_37 : decode cX12_holds 37 = .ok (.iload_n 1, 1) := by decide +kernel
theorem dX12_holds_38 : decode cX12_holds 38 = .ok (.iload_n 2, 1) := by decide +kernel
theorem dX12_holds_39 : decode cX12_holds 39 = .ok (.invokevirtual 95, 3) := by decide +kernel
theorem dX12_holds_42 : decode cX12_holds 42 = .ok (.ifCond .eq 7, 3) := by decide +kernel
theorem dX12_holds_45 : decode cX12_holds 45 = .ok (.iconst 1, 1) := by decide +kernel
theorem dX12_holds_46 : decode cX12_holds 46 = .ok (.goto 4, 3) := by decide +kernel
theorem dX12_holds_49 : decode cX12_holds 49 = .ok (.iconst 0, 1) := by decide +kernel
theorem dX12_holds_50 : decode cX12_holds 50 = .ok (.ireturn, 1) := by decide +kernel
theorem dX12_isModel_0 : decode cX12_isModel 0 = .ok (.iconst 0, 1) := by decide +kernel
theorem dX12_isModel_1 : decode cX12_isModel 1 = .ok (.istore_n 2, 1) := by decide +kernel
theorem dX12_isModel_2 : decode cX12_isModel 2 = .ok (.iload_n 2, 1) := by decide +kernel
theorem dX12_isModel_3 : decode cX12_isModel 3 = .ok (.aload_n 0, 1) := by decide +kernel
theorem dX12_isModel_4 : decode cX12_isModel 4 = .ok (.getfield 64, 3) := by decide +kernel
theorem dX12_isModel_7 : decode cX12_isModel 7 = .ok (.if_icmp .ge 43, 3) := by decide +kernel
theorem dX12_isModel_10 : decode cX12_isModel 10 = .ok (.aload_n 0, 1) := by decide +kernel
theorem dX12_isModel_11 : decode cX12_isModel 11 = .ok (.getfield 24, 3) := by decide +kernel
theorem dX12_isModel_14 : decode cX12_isModel 14 = .ok (.iload_n 2, 1) := by decide +kernel
theorem dX12_isModel_15 : decode cX12_isModel 15 = .ok (.iaload, 1) := by decide +kernel
theorem dX12_isModel_16 : decode cX12_isModel 16 = .ok (.ifCond .lt 28, 3) := by decide +kernel
theorem dX12_isModel_19 : decode cX12_isModel 19 = .ok (.iload_n 1, 1) := by decide +kernel
theorem dX12_isModel_20 : decode cX12_isModel 20 = .ok (.iload_n 2, 1) := by decide +kernel
theorem dX12_isModel_21 : decode cX12_isModel 21 = .ok (.invokestatic 7, 3) := by decide +kernel
theorem dX12_isModel_24 : decode cX12_isModel 24 = .ok (.aload_n 0, 1) := by decide +kernel
theorem dX12_isModel_25 : decode cX12_isModel 25 = .ok (.getfield 24, 3) := by decide +kernel
theorem dX12_isModel_28 : decode cX12_isModel 28 = .ok (.iload_n 2, 1) := by decide +kernel
theorem dX12_isModel_29 : decode cX12_isModel 29 = .ok (.iaload, 1) := by decide +kernel
theorem dX12_isModel_30 : decode cX12_isModel 30 = .ok (.iconst 1, 1) := by decide +kernel
theorem dX12_isModel_31 : decode cX12_isModel 31 = .ok (.if_icmp .ne 7, 3) := by decide +kernel
theorem dX12_isModel_34 : decode cX12_isModel 34 = .ok (.iconst 1, 1) := by decide +kernel
theorem dX12_isModel_35 : decode cX12_isModel 35 = .ok (.goto 4, 3) := by decide +kernel
theorem dX12_isModel_38 : decode cX12_isModel 38 = .ok (.iconst 0, 1) := by decide +kernel
theorem dX12_isModel_39 : decode cX12_isModel 39 = .ok (.if_icmp .eq 5, 3) := by decide +kernel
theorem dX12_isModel_42 : decode cX12_isModel 42 = .ok (.iconst 0, 1) := by decide +kernel
theorem dX12_isModel_43 : decode cX12_isModel 43 = .ok (.ireturn, 1) := by decide +kernel
theorem dX12_isModel_44 : decode cX12_isModel 44 = .ok (.iinc 2 1, 3) := by decide +kernel
theorem dX12_isModel_47 : decode cX12_isModel 47 = .ok (.goto (-45), 3) := by decide +kernel
theorem dX12_isModel_50 : decode cX12_isModel 50 = .ok (.iconst 0, 1) := by decide +kernel
theorem dX12_isModel_51 : decode cX12_isModel 51 = .ok (.istore_n 2, 1) := by decide +kernel
theorem dX12_isModel_52 : decode cX12_isModel 52 = .ok (.iload_n 2, 1) := by decide +kernel
theorem dX12_isModel_53 : decode cX12_isModel 53 = .ok (.aload_n 0, 1) := by decide +kernel
theorem dX12_isModel_54 : decode cX12_isModel 54 = .ok (.getfield 79, 3) := by decide +kernel
theorem dX12_isModel_57 : decode cX12_isModel 57 = .ok (.if_icmp .ge 29, 3) := by decide +kernel
theorem dX12_isModel_60 : decode cX12_isModel 60 = .ok (.aload_n 0, 1) := by decide +kernel
theorem dX12_isModel_61 : decode cX12_isModel 61 = .ok (.getfield 46, 3) := by decide +kernel
theorem dX12_isModel_64 : decode cX12_isModel 64 = .ok (.iload_n 2, 1) := by decide +kernel
theorem dX12_isModel_65 : decode cX12_isModel 65 = .ok (.baload, 1) := by decide +kernel
theorem dX12_isModel_66 : decode cX12_isModel 66 = .ok (.ifCond .ne 14, 3) := by decide +kernel
theorem dX12_isModel_69 : decode cX12_isModel 69 = .ok (.aload_n 0, 1) := by decide +kernel
theorem dX12_isModel_70 : decode cX12_isModel 70 = .ok (.iload_n 2, 1) := by decide +kernel
theorem dX12_isModel_71 : decode cX12_isModel 71 = .ok (.iload_n 1, 1) := by decide +kernel
theorem dX12_isModel_72 : decode cX12_isModel 72 = .ok (.invokevirtual 95, 3) := by decide +kernel
theorem dX12_isModel_75 : decode cX12_isModel 75 = .ok (.ifCond .ne 5, 3) := by decide +kernel
theorem dX12_isModel_78 : decode cX12_isModel 78 = .ok (.iconst 0, 1) := by decide +kernel
theorem dX12_isModel_79 : decode cX12_isModel 79 = .ok (.ireturn, 1) := by decide +kernel
theorem dX12_isModel_80 : decode cX12_isModel 80 = .ok (.iinc 2 1, 3) := by decide +kernel
theorem dX12_isModel_83 : decode cX12_isModel 83 = .ok (.goto (-31), 3) := by decide +kernel
theorem dX12_isModel_86 : decode cX12_isModel 86 = .ok (.iconst 1, 1) := by decide +kernel
theorem dX12_isModel_87 : decode cX12_isModel 87 = .ok (.ireturn, 1) := by decide +kernel
theorem dX12_models_0 : decode cX12_models 0 = .ok (.aload_n 0, 1) := by decide +kernel
theorem dX12_models_1 : decode cX12_models 1 = .ok (.iconst 0, 1) := by decide +kernel
theorem dX12_models_2 : decode cX12_models 2 = .ok (.putfield 1, 3) := by decide +kernel
theorem dX12_models_5 : decode cX12_models 5 = .ok (.lconst 0, 1) := by decide +kernel
theorem dX12_models_6 : decode cX12_models 6 = .ok (.lstore_n 1, 1) := by decide +kernel
theorem dX12_models_7 : decode cX12_models 7 = .ok (.iconst 0, 1) := by decide +kernel
theorem dX12_models_8 : decode cX12_models 8 = .ok (.istore_n 3, 1) := by decide +kernel
theorem dX12_models_9 : decode cX12_models 9 = .ok (.iload_n 3, 1) := by decide +kernel
theorem dX12_models_10 : decode cX12_models 10 = .ok (.aload_n 0, 1) := by decide +kernel
theorem dX12_models_11 : decode cX12_models 11 = .ok (.invokevirtual 98, 3) := by decide +kernel
theorem dX12_models_14 : decode cX12_models 14 = .ok (.if_icmp .ge 25, 3) := by decide +kernel
theorem dX12_models_17 : decode cX12_models 17 = .ok (.lload_n 1, 1) := by decide +kernel
theorem dX12_models_18 : decode cX12_models 18 = .ok (.aload_n 0, 1) := by decide +kernel
theorem dX12_models_19 : decode cX12_models 19 = .ok (.iload_n 3, 1) := by decide +kernel
theorem dX12_models_20 : decode cX12_models 20 = .ok (.invokevirtual 102, 3) := by decide +kernel
theorem dX12_models_23 : decode cX12_models 23 = .ok (.ifCond .eq 7, 3) := by decide +kernel
theorem dX12_models_26 : decode cX12_models 26 = .ok (.lconst 1, 1) := by decide +kernel
theorem dX12_models_27 : decode cX12_models 27 = .ok (.goto 4, 3) := by decide +kernel
theorem dX12_models_30 : decode cX12_models 30 = .ok (.lconst 0, 1) := by decide +kernel
theorem dX12_models_31 : decode cX12_models 31 = .ok (.ladd, 1) := by decide +kernel
theorem dX12_models_32 : decode cX12_models 32 = .ok (.lstore_n 1, 1) := by decide +kernel
theorem dX12_models_33 : decode cX12_models 33 = .ok (.iinc 3 1, 3) := by decide +kernel
theorem dX12_models_36 : decode cX12_models 36 = .ok (.goto (-27), 3) := by decide +kernel
theorem dX12_models_39 : decode cX12_models 39 = .ok (.lload_n 1, 1) := by decide +kernel
theorem dX12_models_40 : decode cX12_models 40 = .ok (.lreturn, 1) := by decide +kernel
theorem dX12_modelsByAll_0 : decode cX12_modelsByAll 0 = .ok (.aload_n 0, 1) := by decide +kernel
theorem dX12_modelsByAll_1 : decode cX12_modelsByAll 1 = .ok (.invokevirtual 105, 3) := by decide +kernel
theorem dX12_modelsByAll_4 : decode cX12_modelsByAll 4 = .ok (.lreturn, 1) := by decide +kernel
theorem dX12_weigh_0 : decode cX12_weigh 0 = .ok (.lconst 1, 1) := by decide +kernel
theorem dX12_weigh_1 : decode cX12_weigh 1 = .ok (.lstore_n 2, 1) := by decide +kernel
theorem dX12_weigh_2 : decode cX12_weigh 2 = .ok (.iconst 0, 1) := by decide +kernel
theorem dX12_weigh_3 : decode cX12_weigh 3 = .ok (.istore 4, 2) := by decide +kernel
theorem dX12_weigh_5 : decode cX12_weigh 5 = .ok (.iload 4, 2) := by decide +kernel
theorem dX12_weigh_7 : decode cX12_weigh 7 = .ok (.aload_n 0, 1) := by decide +kernel
theorem dX12_weigh_8 : decode cX12_weigh 8 = .ok (.getfield 64, 3) := by decide +kernel
theorem dX12_weigh_11 : decode cX12_weigh 11 = .ok (.if_icmp .ge 40, 3) := by decide +kernel
theorem dX12_weigh_14 : decode cX12_weigh 14 = .ok (.lload_n 2, 1) := by decide +kernel
theorem dX12_weigh_15 : decode cX12_weigh 15 = .ok (.iload_n 1, 1) := by decide +kernel
theorem dX12_weigh_16 : decode cX12_weigh 16 = .ok (.iload 4, 2) := by decide +kernel
theorem dX12_weigh_18 : decode cX12_weigh 18 = .ok (.invokestatic 7, 3) := by decide +kernel
theorem dX12_weigh_21 : decode cX12_weigh 21 = .ok (.ifCond .eq 14, 3) := by decide +kernel
theorem dX12_weigh_24 : decode cX12_weigh 24 = .ok (.aload_n 0, 1) := by decide +kernel
theorem dX12_weigh_25 : decode cX12_weigh 25 = .ok (.getfield 21, 3) := by decide +kernel
theorem dX12_weigh_28 : decode cX12_weigh 28 = .ok (.iload 4, 2) := by decide +kernel
theorem dX12_weigh_30 : decode cX12_weigh 30 = .ok (.iaload, 1) := by decide +kernel
theorem dX12_weigh_31 : decode cX12_weigh 31 = .ok (.i2l, 1) := by decide +kernel
theorem dX12_weigh_32 : decode cX12_weigh 32 = .ok (.goto 11, 3) := by decide +kernel
theorem dX12_weigh_35 : decode cX12_weigh 35 = .ok (.aload_n 0, 1) := by decide +kernel
theorem dX12_weigh_36 : decode cX12_weigh 36 = .ok (.getfield 17, 3) := by decide +kernel
theorem dX12_weigh_39 : decode cX12_weigh 39 = .ok (.iload 4, 2) := by decide +kernel
theorem dX12_weigh_41 : decode cX12_weigh 41 = .ok (.iaload, 1) := by decide +kernel
theorem dX12_weigh_42 : decode cX12_weigh 42 = .ok (.i2l, 1) := by decide +kernel
theorem dX12_weigh_43 : decode cX12_weigh 43 = .ok (.lmul, 1) := by decide +kernel
theorem dX12_weigh_44 : decode cX12_weigh 44 = .ok (.lstore_n 2, 1) := by decide +kernel
theorem dX12_weigh_45 : decode cX12_weigh 45 = .ok (.iinc 4 1, 3) := by decide +kernel
theorem dX12_weigh_48 : decode cX12_weigh 48 = .ok (.goto (-43), 3) := by decide +kernel
theorem dX12_weigh_51 : decode cX12_weigh 51 = .ok (.lload_n 2, 1) := by decide +kernel
theorem dX12_weigh_52 : decode cX12_weigh 52 = .ok (.lreturn, 1) := by decide +kernel
theorem dX12_weightOf_0 : decode cX12_weightOf 0 = .ok (.lconst 0, 1) := by decide +kernel
theorem dX12_weightOf_1 : decode cX12_weightOf 1 = .ok (.lstore_n 3, 1) := by decide +kernel
theorem dX12_weightOf_2 : decode cX12_weightOf 2 = .ok (.iconst 0, 1) := by decide +kernel
theorem dX12_weightOf_3 : decode cX12_weightOf 3 = .ok (.istore 5, 2) := by decide +kernel
theorem dX12_weightOf_5 : decode cX12_weightOf 5 = .ok (.iload 5, 2) := by decide +kernel
theorem dX12_weightOf_7 : decode cX12_weightOf 7 = .ok (.aload_n 0, 1) := by decide +kernel
theorem dX12_weightOf_8 : decode cX12_weightOf 8 = .ok (.invokevirtual 98, 3) := by decide +kernel
theorem dX12_weightOf_11 : decode cX12_weightOf 11 = .ok (.if_icmp .ge 39, 3) := by decide +kernel
theorem dX12_weightOf_14 : decode cX12_weightOf 14 = .ok (.lload_n 3, 1) := by decide +kernel
theorem dX12_weightOf_15 : decode cX12_weightOf 15 = .ok (.iload 5, 2) := by decide +kernel
theorem dX12_weightOf_17 : decode cX12_weightOf 17 = .ok (.iload_n 1, 1) := by decide +kernel
theorem dX12_weightOf_18 : decode cX12_weightOf 18 = .ok (.iand, 1) := by decide +kernel
theorem dX12_weightOf_19 : decode cX12_weightOf 19 = .ok (.iload_n 2, 1) := by decide +kernel
theorem dX12_weightOf_20 : decode cX12_weightOf 20 = .ok (.if_icmp .ne 21, 3) := by decide +kernel
theorem dX12_weightOf_23 : decode cX12_weightOf 23 = .ok (.aload_n 0, 1) := by decide +kernel
theorem dX12_weightOf_24 : decode cX12_weightOf 24 = .ok (.iload 5, 2) := by decide +kernel
theorem dX12_weightOf_26 : decode cX12_weightOf 26 = .ok (.invokevirtual 102, 3) := by decide +kernel
theorem dX12_weightOf_29 : decode cX12_weightOf 29 = .ok (.ifCond .eq 12, 3) := by decide +kernel
theorem dX12_weightOf_32 : decode cX12_weightOf 32 = .ok (.aload_n 0, 1) := by decide +kernel
theorem dX12_weightOf_33 : decode cX12_weightOf 33 = .ok (.iload 5, 2) := by decide +kernel
theorem dX12_weightOf_35 : decode cX12_weightOf 35 = .ok (.invokevirtual 109, 3) := by decide +kernel
theorem dX12_weightOf_38 : decode cX12_weightOf 38 = .ok (.goto 4, 3) := by decide +kernel
theorem dX12_weightOf_41 : decode cX12_weightOf 41 = .ok (.lconst 0, 1) := by decide +kernel
theorem dX12_weightOf_42 : decode cX12_weightOf 42 = .ok (.ladd, 1) := by decide +kernel
theorem dX12_weightOf_43 : decode cX12_weightOf 43 = .ok (.lstore_n 3, 1) := by decide +kernel
theorem dX12_weightOf_44 : decode cX12_weightOf 44 = .ok (.iinc 5 1, 3) := by decide +kernel
theorem dX12_weightOf_47 : decode cX12_weightOf 47 = .ok (.goto (-42), 3) := by decide +kernel
theorem dX12_weightOf_50 : decode cX12_weightOf 50 = .ok (.lload_n 3, 1) := by decide +kernel
theorem dX12_weightOf_51 : decode cX12_weightOf 51 = .ok (.lreturn, 1) := by decide +kernel
theorem dX12_weight_0 : decode cX12_weight 0 = .ok (.aload_n 0, 1) := by decide +kernel
theorem dX12_weight_1 : decode cX12_weight 1 = .ok (.iconst 0, 1) := by decide +kernel
theorem dX12_weight_2 : decode cX12_weight 2 = .ok (.putfield 1, 3) := by decide +kernel
theorem dX12_weight_5 : decode cX12_weight 5 = .ok (.aload_n 0, 1) := by decide +kernel
theorem dX12_weight_6 : decode cX12_weight 6 = .ok (.iconst 0, 1) := by decide +kernel
theorem dX12_weight_7 : decode cX12_weight 7 = .ok (.iconst 0, 1) := by decide +kernel
theorem dX12_weight_8 : decode cX12_weight 8 = .ok (.invokevirtual 113, 3) := by decide +kernel
theorem dX12_weight_11 : decode cX12_weight 11 = .ok (.lreturn, 1) := by decide +kernel
theorem dX12_weightWith_0 : decode cX12_weightWith 0 = .ok (.aload_n 0, 1) := by decide +kernel
theorem dX12_weightWith_1 : decode cX12_weightWith 1 = .ok (.iconst 0, 1) := by decide +kernel
theorem dX12_weightWith_2 : decode cX12_weightWith 2 = .ok (.putfield 1, 3) := by decide +kernel
theorem dX12_weightWith_5 : decode cX12_weightWith 5 = .ok (.aload_n 0, 1) := by decide +kernel
theorem dX12_weightWith_6 : decode cX12_weightWith 6 = .ok (.iload_n 1, 1) := by decide +kernel
theorem dX12_weightWith_7 : decode cX12_weightWith 7 = .ok (.invokevirtual 75, 3) := by decide +kernel
theorem dX12_weightWith_10 : decode cX12_weightWith 10 = .ok (.ifCond .ne 10, 3) := by decide +kernel
theorem dX12_weightWith_13 : decode cX12_weightWith 13 = .ok (.aload_n 0, 1) := by decide +kernel
theorem dX12_weightWith_14 : decode cX12_weightWith 14 = .ok (.iconst 1, 1) := by decide +kernel
theorem dX12_weightWith_15 : decode cX12_weightWith 15 = .ok (.invokevirtual 71, 3) := by decide +kernel
theorem dX12_weightWith_18 : decode cX12_weightWith 18 = .ok (.i2l, 1) := by decide +kernel
theorem dX12_weightWith_19 : decode cX12_weightWith 19 = .ok (.lreturn, 1) := by decide +kernel
theorem dX12_weightWith_20 : decode cX12_weightWith 20 = .ok (.iload_n 2, 1) := by decide +kernel
theorem dX12_weightWith_21 : decode cX12_weightWith 21 = .ok (.iconst 0, 1) := by decide +kernel
theorem dX12_weightWith_22 : decode cX12_weightWith 22 = .ok (.iconst 1, 1) := by decide +kernel
theorem dX12_weightWith_23 : decode cX12_weightWith 23 = .ok (.invokestatic 67, 3) := by decide +kernel
theorem dX12_weightWith_26 : decode cX12_weightWith 26 = .ok (.ifCond .ne 10, 3) := by decide +kernel
theorem dX12_weightWith_29 : decode cX12_weightWith 29 = .ok (.aload_n 0, 1) := by decide +kernel
theorem dX12_weightWith_30 : decode cX12_weightWith 30 = .ok (.iconst 2, 1) := by decide +kernel
theorem dX12_weightWith_31 : decode cX12_weightWith 31 = .ok (.invokevirtual 71, 3) := by decide +kernel
theorem dX12_weightWith_34 : decode cX12_weightWith 34 = .ok (.i2l, 1) := by decide +kernel
theorem dX12_weightWith_35 : decode cX12_weightWith 35 = .ok (.lreturn, 1) := by decide +kernel
theorem dX12_weightWith_36 : decode cX12_weightWith 36 = .ok (.aload_n 0, 1) := by decide +kernel
theorem dX12_weightWith_37 : decode cX12_weightWith 37 = .ok (.iconst 1, 1) := by decide +kernel
theorem dX12_weightWith_38 : decode cX12_weightWith 38 = .ok (.iload_n 1, 1) := by decide +kernel
theorem dX12_weightWith_39 : decode cX12_weightWith 39 = .ok (.ishl, 1) := by decide +kernel
theorem dX12_weightWith_40 : decode cX12_weightWith 40 = .ok (.iload_n 2, 1) := by decide +kernel
theorem dX12_weightWith_41 : decode cX12_weightWith 41 = .ok (.iload_n 1, 1) := by decide +kernel
theorem dX12_weightWith_42 : decode cX12_weightWith 42 = .ok (.ishl, 1) := by decide +kernel
theorem dX12_weightWith_43 : decode cX12_weightWith 43 = .ok (.invokevirtual 113, 3) := by decide +kernel
theorem dX12_weightWith_46 : decode cX12_weightWith 46 = .ok (.lreturn, 1) := by decide +kernel
theorem dX12_gcd_0 : decode cX12_gcd 0 = .ok (.lload_n 0, 1) := by decide +kernel
theorem dX12_gcd_1 : decode cX12_gcd 1 = .ok (.lstore 4, 2) := by decide +kernel
theorem dX12_gcd_3 : decode cX12_gcd 3 = .ok (.lload_n 2, 1) := by decide +kernel
theorem dX12_gcd_4 : decode cX12_gcd 4 = .ok (.lstore 6, 2) := by decide +kernel
theorem dX12_gcd_6 : decode cX12_gcd 6 = .ok (.lload 6, 2) := by decide +kernel
theorem dX12_gcd_8 : decode cX12_gcd 8 = .ok (.lconst 0, 1) := by decide +kernel
theorem dX12_gcd_9 : decode cX12_gcd 9 = .ok (.lcmp, 1) := by decide +kernel
theorem dX12_gcd_10 : decode cX12_gcd 10 = .ok (.ifCond .le 21, 3) := by decide +kernel
theorem dX12_gcd_13 : decode cX12_gcd 13 = .ok (.lload 4, 2) := by decide +kernel
theorem dX12_gcd_15 : decode cX12_gcd 15 = .ok (.lload 6, 2) := by decide +kernel
theorem dX12_gcd_17 : decode cX12_gcd 17 = .ok (.lrem, 1) := by decide +kernel
theorem dX12_gcd_18 : decode cX12_gcd 18 = .ok (.lstore 8, 2) := by decide +kernel
theorem dX12_gcd_20 : decode cX12_gcd 20 = .ok (.lload 6, 2) := by decide +kernel
theorem dX12_gcd_22 : decode cX12_gcd 22 = .ok (.lstore 4, 2) := by decide +kernel
theorem dX12_gcd_24 : decode cX12_gcd 24 = .ok (.lload 8, 2) := by decide +kernel
theorem dX12_gcd_26 : decode cX12_gcd 26 = .ok (.lstore 6, 2) := by decide +kernel
theorem dX12_gcd_28 : decode cX12_gcd 28 = .ok (.goto (-22), 3) := by decide +kernel
theorem dX12_gcd_31 : decode cX12_gcd 31 = .ok (.lload 4, 2) := by decide +kernel
theorem dX12_gcd_33 : decode cX12_gcd 33 = .ok (.lreturn, 1) := by decide +kernel
theorem dX12_chance_0 : decode cX12_chance 0 = .ok (.aload_n 0, 1) := by decide +kernel
theorem dX12_chance_1 : decode cX12_chance 1 = .ok (.iconst 0, 1) := by decide +kernel
theorem dX12_chance_2 : decode cX12_chance 2 = .ok (.putfield 1, 3) := by decide +kernel
theorem dX12_chance_5 : decode cX12_chance 5 = .ok (.aload_n 0, 1) := by decide +kernel
theorem dX12_chance_6 : decode cX12_chance 6 = .ok (.iload_n 1, 1) := by decide +kernel
theorem dX12_chance_7 : decode cX12_chance 7 = .ok (.invokevirtual 75, 3) := by decide +kernel
theorem dX12_chance_10 : decode cX12_chance 10 = .ok (.ifCond .ne 10, 3) := by decide +kernel
theorem dX12_chance_13 : decode cX12_chance 13 = .ok (.aload_n 0, 1) := by decide +kernel
theorem dX12_chance_14 : decode cX12_chance 14 = .ok (.iconst 1, 1) := by decide +kernel
theorem dX12_chance_15 : decode cX12_chance 15 = .ok (.invokevirtual 71, 3) := by decide +kernel
theorem dX12_chance_18 : decode cX12_chance 18 = .ok (.i2l, 1) := by decide +kernel
theorem dX12_chance_19 : decode cX12_chance 19 = .ok (.lreturn, 1) := by decide +kernel
theorem dX12_chance_20 : decode cX12_chance 20 = .ok (.aload_n 0, 1) := by decide +kernel
theorem dX12_chance_21 : decode cX12_chance 21 = .ok (.iconst 0, 1) := by decide +kernel
theorem dX12_chance_22 : decode cX12_chance 22 = .ok (.iconst 0, 1) := by decide +kernel
theorem dX12_chance_23 : decode cX12_chance 23 = .ok (.invokevirtual 113, 3) := by decide +kernel
theorem dX12_chance_26 : decode cX12_chance 26 = .ok (.lstore_n 3, 1) := by decide +kernel
theorem dX12_chance_27 : decode cX12_chance 27 = .ok (.lload_n 3, 1) := by decide +kernel
theorem dX12_chance_28 : decode cX12_chance 28 = .ok (.lconst 0, 1) := by decide +kernel
theorem dX12_chance_29 : decode cX12_chance 29 = .ok (.lcmp, 1) := by decide +kernel
theorem dX12_chance_30 : decode cX12_chance 30 = .ok (.ifCond .ne 10, 3) := by decide +kernel
theorem dX12_chance_33 : decode cX12_chance 33 = .ok (.aload_n 0, 1) := by decide +kernel
theorem dX12_chance_34 : decode cX12_chance 34 = .ok (.iconst 2, 1) := by decide +kernel
theorem dX12_chance_35 : decode cX12_chance 35 = .ok (.invokevirtual 71, 3) := by decide +kernel
theorem dX12_chance_38 : decode cX12_chance 38 = .ok (.i2l, 1) := by decide +kernel
theorem dX12_chance_39 : decode cX12_chance 39 = .ok (.lreturn, 1) := by decide +kernel
theorem dX12_chance_40 : decode cX12_chance 40 = .ok (.aload_n 0, 1) := by decide +kernel
theorem dX12_chance_41 : decode cX12_chance 41 = .ok (.iconst 1, 1) := by decide +kernel
theorem dX12_chance_42 : decode cX12_chance 42 = .ok (.iload_n 1, 1) := by decide +kernel
theorem dX12_chance_43 : decode cX12_chance 43 = .ok (.ishl, 1) := by decide +kernel
theorem dX12_chance_44 : decode cX12_chance 44 = .ok (.iconst 1, 1) := by decide +kernel
theorem dX12_chance_45 : decode cX12_chance 45 = .ok (.iload_n 1, 1) := by decide +kernel
theorem dX12_chance_46 : decode cX12_chance 46 = .ok (.ishl, 1) := by decide +kernel
theorem dX12_chance_47 : decode cX12_chance 47 = .ok (.invokevirtual 113, 3) := by decide +kernel
theorem dX12_chance_50 : decode cX12_chance 50 = .ok (.lstore 5, 2) := by decide +kernel
theorem dX12_chance_52 : decode cX12_chance 52 = .ok (.lload_n 3, 1) := by decide +kernel
theorem dX12_chance_53 : decode cX12_chance 53 = .ok (.lload 5, 2) := by decide +kernel
theorem dX12_chance_55 : decode cX12_chance 55 = .ok (.invokestatic 117, 3) := by decide +kernel
theorem dX12_chance_58 : decode cX12_chance 58 = .ok (.lstore 7, 2) := by decide +kernel
theorem dX12_chance_60 : decode cX12_chance 60 = .ok (.iload_n 2, 1) := by decide +kernel
theorem dX12_chance_61 : decode cX12_chance 61 = .ok (.ifCond .eq 8, 3) := by decide +kernel
theorem dX12_chance_64 : decode cX12_chance 64 = .ok (.lload 5, 2) := by decide +kernel
theorem dX12_chance_66 : decode cX12_chance 66 = .ok (.goto 4, 3) := by decide +kernel
theorem dX12_chance_69 : decode cX12_chance 69 = .ok (.lload_n 3, 1) := by decide +kernel
theorem dX12_chance_70 : decode cX12_chance 70 = .ok (.lload 7, 2) := by decide +kernel
theorem dX12_chance_72 : decode cX12_chance 72 = .ok (.ldiv, 1) := by decide +kernel
theorem dX12_chance_73 : decode cX12_chance 73 = .ok (.lreturn, 1) := by decide +kernel
theorem dX12_chanceTop_0 : decode cX12_chanceTop 0 = .ok (.aload_n 0, 1) := by decide +kernel
theorem dX12_chanceTop_1 : decode cX12_chanceTop 1 = .ok (.iload_n 1, 1) := by decide +kernel
theorem dX12_chanceTop_2 : decode cX12_chanceTop 2 = .ok (.iconst 1, 1) := by decide +kernel
theorem dX12_chanceTop_3 : decode cX12_chanceTop 3 = .ok (.invokevirtual 121, 3) := by decide +kernel
theorem dX12_chanceTop_6 : decode cX12_chanceTop 6 = .ok (.lreturn, 1) := by decide +kernel
theorem dX12_chanceBottom_0 : decode cX12_chanceBottom 0 = .ok (.aload_n 0, 1) := by decide +kernel
theorem dX12_chanceBottom_1 : decode cX12_chanceBottom 1 = .ok (.iload_n 1, 1) := by decide +kernel
theorem dX12_chanceBottom_2 : decode cX12_chanceBottom 2 = .ok (.iconst 0, 1) := by decide +kernel
theorem dX12_chanceBottom_3 : decode cX12_chanceBottom 3 = .ok (.invokevirtual 121, 3) := by decide +kernel
theorem dX12_chanceBottom_6 : decode cX12_chanceBottom 6 = .ok (.lreturn, 1) := by decide +kernel
theorem dX12_projected_0 : decode cX12_projected 0 = .ok (.aload_n 0, 1) := by decide +kernel
theorem dX12_projected_1 : decode cX12_projected 1 = .ok (.iconst 0, 1) := by decide +kernel
theorem dX12_projected_2 : decode cX12_projected 2 = .ok (.putfield 1, 3) := by decide +kernel
theorem dX12_projected_5 : decode cX12_projected 5 = .ok (.aload_n 0, 1) := by decide +kernel
theorem dX12_projected_6 : decode cX12_projected 6 = .ok (.iload_n 1, 1) := by decide +kernel
theorem dX12_projected_7 : decode cX12_projected 7 = .ok (.invokevirtual 82, 3) := by decide +kernel
theorem dX12_projected_10 : decode cX12_projected 10 = .ok (.ifCond .ne 10, 3) := by decide +kernel
theorem dX12_projected_13 : decode cX12_projected 13 = .ok (.aload_n 0, 1) := by decide +kernel
theorem dX12_projected_14 : decode cX12_projected 14 = .ok (.iconst 1, 1) := by decide +kernel
theorem dX12_projected_15 : decode cX12_projected 15 = .ok (.invokevirtual 71, 3) := by decide +kernel
theorem dX12_projected_18 : decode cX12_projected 18 = .ok (.i2l, 1) := by decide +kernel
theorem dX12_projected_19 : decode cX12_projected 19 = .ok (.lreturn, 1) := by decide +kernel
theorem dX12_projected_20 : decode cX12_projected 20 = .ok (.iconst 0, 1) := by decide +kernel
theorem dX12_projected_21 : decode cX12_projected 21 = .ok (.istore_n 2, 1) := by decide +kernel
theorem dX12_projected_22 : decode cX12_projected 22 = .ok (.iload_n 2, 1) := by decide +kernel
theorem dX12_projected_23 : decode cX12_projected 23 = .ok (.sipush 1024, 3) := by decide +kernel
theorem dX12_projected_26 : decode cX12_projected 26 = .ok (.if_icmp .ge 16, 3) := by decide +kernel
theorem dX12_projected_29 : decode cX12_projected 29 = .ok (.aload_n 0, 1) := by decide +kernel
theorem dX12_projected_30 : decode cX12_projected 30 = .ok (.getfield 58, 3) := by decide +kernel
theorem dX12_projected_33 : decode cX12_projected 33 = .ok (.iload_n 2, 1) := by decide +kernel
theorem dX12_projected_34 : decode cX12_projected 34 = .ok (.iconst 0, 1) := by decide +kernel
theorem dX12_projected_35 : decode cX12_projected 35 = .ok (.bastore, 1) := by decide +kernel
theorem dX12_projected_36 : decode cX12_projected 36 = .ok (.iinc 2 1, 3) := by decide +kernel
theorem dX12_projected_39 : decode cX12_projected 39 = .ok (.goto (-17), 3) := by decide +kernel
theorem dX12_projected_42 : decode cX12_projected 42 = .ok (.iconst 0, 1) := by decide +kernel
theorem dX12_projected_43 : decode cX12_projected 43 = .ok (.istore_n 2, 1) := by decide +kernel
theorem dX12_projected_44 : decode cX12_projected 44 = .ok (.iload_n 2, 1) := by decide +kernel
theorem dX12_projected_45 : decode cX12_projected 45 = .ok (.aload_n 0, 1) := by decide +kernel
theorem dX12_projected_46 : decode cX12_projected 46 = .ok (.invokevirtual 98, 3) := by decide +kernel
theorem dX12_projected_49 : decode cX12_projected 49 = .ok (.if_icmp .ge 25, 3) := by decide +kernel
theorem dX12_projected_52 : decode cX12_projected 52 = .ok (.aload_n 0, 1) := by decide +kernel
theorem dX12_projected_53 : decode cX12_projected 53 = .ok (.getfield 58, 3) := by decide +kernel
theorem dX12_projected_56 : decode cX12_projected 56 = .ok (.iload_n 2, 1) := by decide +kernel
theorem dX12_projected_57 : decode cX12_projected 57 = .ok (.iload_n 1, 1) := by decide +kernel
theorem dX12_projected_58 : decode cX12_projected 58 = .ok (.iand, 1) := by decide +kernel
theorem dX12_projected_59 : decode cX12_projected 59 = .ok (.dup2, 1) := by decide +kernel
theorem dX12_projected_60 : decode cX12_projected 60 = .ok (.baload, 1) := by decide +kernel
theorem dX12_projected_61 : decode cX12_projected 61 = .ok (.aload_n 0, 1) := by decide +kernel
theorem dX12_projected_62 : decode cX12_projected 62 = .ok (.iload_n 2, 1) := by decide +kernel
theorem dX12_projected_63 : decode cX12_projected 63 = .ok (.invokevirtual 102, 3) := by decide +kernel
theorem dX12_projected_66 : decode cX12_projected 66 = .ok (.ior, 1) := by decide +kernel
theorem dX12_projected_67 : decode cX12_projected 67 = .ok (.bastore, 1) := by decide +kernel
theorem dX12_projected_68 : decode cX12_projected 68 = .ok (.iinc 2 1, 3) := by decide +kernel
theorem dX12_projected_71 : decode cX12_projected 71 = .ok (.goto (-27), 3) := by decide +kernel
theorem dX12_projected_74 : decode cX12_projected 74 = .ok (.lconst 0, 1) := by decide +kernel
theorem dX12_projected_75 : decode cX12_projected 75 = .ok (.lstore_n 2, 1) := by decide +kernel
theorem dX12_projected_76 : decode cX12_projected 76 = .ok (.iconst 0, 1) := by decide +kernel
theorem dX12_projected_77 : decode cX12_projected 77 = .ok (.istore 4, 2) := by decide +kernel
theorem dX12_projected_79 : decode cX12_projected 79 = .ok (.iload 4, 2) := by decide +kernel
theorem dX12_projected_81 : decode cX12_projected 81 = .ok (.sipush 1024, 3) := by decide +kernel
theorem dX12_projected_84 : decode cX12_projected 84 = .ok (.if_icmp .ge 27, 3) := by decide +kernel
theorem dX12_projected_87 : decode cX12_projected 87 = .ok (.lload_n 2, 1) := by decide +kernel
theorem dX12_projected_88 : decode cX12_projected 88 = .ok (.aload_n 0, 1) := by decide +kernel
theorem dX12_projected_89 : decode cX12_projected 89 = .ok (.getfield 58, 3) := by decide +kernel
theorem dX12_projected_92 : decode cX12_projected 92 = .ok (.iload 4, 2) := by decide +kernel
theorem dX12_projected_94 : decode cX12_projected 94 = .ok (.baload, 1) := by decide +kernel
theorem dX12_projected_95 : decode cX12_projected 95 = .ok (.ifCond .eq 7, 3) := by decide +kernel
theorem dX12_projected_98 : decode cX12_projected 98 = .ok (.lconst 1, 1) := by decide +kernel
theorem dX12_projected_99 : decode cX12_projected 99 = .ok (.goto 4, 3) := by decide +kernel
theorem dX12_projected_102 : decode cX12_projected 102 = .ok (.lconst 0, 1) := by decide +kernel
theorem dX12_projected_103 : decode cX12_projected 103 = .ok (.ladd, 1) := by decide +kernel
theorem dX12_projected_104 : decode cX12_projected 104 = .ok (.lstore_n 2, 1) := by decide +kernel
theorem dX12_projected_105 : decode cX12_projected 105 = .ok (.iinc 4 1, 3) := by decide +kernel
theorem dX12_projected_108 : decode cX12_projected 108 = .ok (.goto (-29), 3) := by decide +kernel
theorem dX12_projected_111 : decode cX12_projected 111 = .ok (.lload_n 2, 1) := by decide +kernel
theorem dX12_projected_112 : decode cX12_projected 112 = .ok (.lreturn, 1) := by decide +kernel
theorem dX12_implied_0 : decode cX12_implied 0 = .ok (.aload_n 0, 1) := by decide +kernel
theorem dX12_implied_1 : decode cX12_implied 1 = .ok (.iconst 0, 1) := by decide +kernel
theorem dX12_implied_2 : decode cX12_implied 2 = .ok (.putfield 1, 3) := by decide +kernel
theorem dX12_implied_5 : decode cX12_implied 5 = .ok (.aload_n 0, 1) := by decide +kernel
theorem dX12_implied_6 : decode cX12_implied 6 = .ok (.iload_n 1, 1) := by decide +kernel
theorem dX12_implied_7 : decode cX12_implied 7 = .ok (.invokevirtual 75, 3) := by decide +kernel
theorem dX12_implied_10 : decode cX12_implied 10 = .ok (.ifCond .ne 10, 3) := by decide +kernel
theorem dX12_implied_13 : decode cX12_implied 13 = .ok (.aload_n 0, 1) := by decide +kernel
theorem dX12_implied_14 : decode cX12_implied 14 = .ok (.iconst 1, 1) := by decide +kernel
theorem dX12_implied_15 : decode cX12_implied 15 = .ok (.invokevirtual 71, 3) := by decide +kernel
theorem dX12_implied_18 : decode cX12_implied 18 = .ok (.i2c, 1) := by decide +kernel
theorem dX12_implied_19 : decode cX12_implied 19 = .ok (.ireturn, 1) := by decide +kernel
theorem dX12_implied_20 : decode cX12_implied 20 = .ok (.iconst 0, 1) := by decide +kernel
theorem dX12_implied_21 : decode cX12_implied 21 = .ok (.istore_n 2, 1) := by decide +kernel
theorem dX12_implied_22 : decode cX12_implied 22 = .ok (.iconst 0, 1) := by decide +kernel
theorem dX12_implied_23 : decode cX12_implied 23 = .ok (.istore_n 3, 1) := by decide +kernel
theorem dX12_implied_24 : decode cX12_implied 24 = .ok (.iconst 0, 1) := by decide +kernel
theorem dX12_implied_25 : decode cX12_implied 25 = .ok (.istore 4, 2) := by decide +kernel
theorem dX12_implied_27 : decode cX12_implied 27 = .ok (.iload 4, 2) := by decide +kernel
theorem dX12_implied_29 : decode cX12_implied 29 = .ok (.aload_n 0, 1) := by decide +kernel
theorem dX12_implied_30 : decode cX12_implied 30 = .ok (.invokevirtual 98, 3) := by decide +kernel
theorem dX12_implied_33 : decode cX12_implied 33 = .ok (.if_icmp .ge 47, 3) := by decide +kernel
theorem dX12_implied_36 : decode cX12_implied 36 = .ok (.aload_n 0, 1) := by decide +kernel
theorem dX12_implied_37 : decode cX12_implied 37 = .ok (.iload 4, 2) := by decide +kernel
theorem dX12_implied_39 : decode cX12_implied 39 = .ok (.invokevirtual 102, 3) := by decide +kernel
theorem dX12_implied_42 : decode cX12_implied 42 = .ok (.ifCond .ne 6, 3) := by decide +kernel
theorem dX12_implied_45 : decode cX12_implied 45 = .ok (.goto 29, 3) := by decide +kernel
