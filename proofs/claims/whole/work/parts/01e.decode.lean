theorem dX12_implied_48 : decode cX12_implied 48 = .ok (.iload_n 2, 1) := by decide +kernel
theorem dX12_implied_49 : decode cX12_implied 49 = .ok (.iload 4, 2) := by decide +kernel
theorem dX12_implied_51 : decode cX12_implied 51 = .ok (.iload_n 1, 1) := by decide +kernel
theorem dX12_implied_52 : decode cX12_implied 52 = .ok (.invokestatic 7, 3) := by decide +kernel
theorem dX12_implied_55 : decode cX12_implied 55 = .ok (.ior, 1) := by decide +kernel
theorem dX12_implied_56 : decode cX12_implied 56 = .ok (.istore_n 2, 1) := by decide +kernel
theorem dX12_implied_57 : decode cX12_implied 57 = .ok (.iload_n 3, 1) := by decide +kernel
theorem dX12_implied_58 : decode cX12_implied 58 = .ok (.iload 4, 2) := by decide +kernel
theorem dX12_implied_60 : decode cX12_implied 60 = .ok (.iload_n 1, 1) := by decide +kernel
theorem dX12_implied_61 : decode cX12_implied 61 = .ok (.invokestatic 7, 3) := by decide +kernel
theorem dX12_implied_64 : decode cX12_implied 64 = .ok (.ifCond .ne 7, 3) := by decide +kernel
theorem dX12_implied_67 : decode cX12_implied 67 = .ok (.iconst 1, 1) := by decide +kernel
theorem dX12_implied_68 : decode cX12_implied 68 = .ok (.goto 4, 3) := by decide +kernel
theorem dX12_implied_71 : decode cX12_implied 71 = .ok (.iconst 0, 1) := by decide +kernel
theorem dX12_implied_72 : decode cX12_implied 72 = .ok (.ior, 1) := by decide +kernel
theorem dX12_implied_73 : decode cX12_implied 73 = .ok (.istore_n 3, 1) := by decide +kernel
theorem dX12_implied_74 : decode cX12_implied 74 = .ok (.iinc 4 1, 3) := by decide +kernel
theorem dX12_implied_77 : decode cX12_implied 77 = .ok (.goto (-50), 3) := by decide +kernel
theorem dX12_implied_80 : decode cX12_implied 80 = .ok (.iload_n 2, 1) := by decide +kernel
theorem dX12_implied_81 : decode cX12_implied 81 = .ok (.ifCond .ne 10, 3) := by decide +kernel
theorem dX12_implied_84 : decode cX12_implied 84 = .ok (.iload_n 3, 1) := by decide +kernel
theorem dX12_implied_85 : decode cX12_implied 85 = .ok (.ifCond .ne 6, 3) := by decide +kernel
theorem dX12_implied_88 : decode cX12_implied 88 = .ok (.bipush 110, 2) := by decide +kernel
theorem dX12_implied_90 : decode cX12_implied 90 = .ok (.ireturn, 1) := by decide +kernel
theorem dX12_implied_91 : decode cX12_implied 91 = .ok (.iload_n 2, 1) := by decide +kernel
theorem dX12_implied_92 : decode cX12_implied 92 = .ok (.ifCond .eq 12, 3) := by decide +kernel
theorem dX12_implied_95 : decode cX12_implied 95 = .ok (.iload_n 3, 1) := by decide +kernel
theorem dX12_implied_96 : decode cX12_implied 96 = .ok (.ifCond .eq 8, 3) := by decide +kernel
theorem dX12_implied_99 : decode cX12_implied 99 = .ok (.bipush 45, 2) := by decide +kernel
theorem dX12_implied_101 : decode cX12_implied 101 = .ok (.goto 14, 3) := by decide +kernel
theorem dX12_implied_104 : decode cX12_implied 104 = .ok (.iload_n 2, 1) := by decide +kernel
theorem dX12_implied_105 : decode cX12_implied 105 = .ok (.ifCond .eq 8, 3) := by decide +kernel
theorem dX12_implied_108 : decode cX12_implied 108 = .ok (.bipush 116, 2) := by decide +kernel
theorem dX12_implied_110 : decode cX12_implied 110 = .ok (.goto 5, 3) := by decide +kernel
theorem dX12_implied_113 : decode cX12_implied 113 = .ok (.bipush 102, 2) := by decide +kernel
theorem dX12_implied_115 : decode cX12_implied 115 = .ok (.ireturn, 1) := by decide +kernel
theorem dX12_free_0 : decode cX12_free 0 = .ok (.iconst 0, 1) := by decide +kernel
theorem dX12_free_1 : decode cX12_free 1 = .ok (.istore_n 1, 1) := by decide +kernel
theorem dX12_free_2 : decode cX12_free 2 = .ok (.iconst 0, 1) := by decide +kernel
theorem dX12_free_3 : decode cX12_free 3 = .ok (.istore_n 2, 1) := by decide +kernel
theorem dX12_free_4 : decode cX12_free 4 = .ok (.iload_n 2, 1) := by decide +kernel
theorem dX12_free_5 : decode cX12_free 5 = .ok (.aload_n 0, 1) := by decide +kernel
theorem dX12_free_6 : decode cX12_free 6 = .ok (.getfield 64, 3) := by decide +kernel
theorem dX12_free_9 : decode cX12_free 9 = .ok (.if_icmp .ge 28, 3) := by decide +kernel
theorem dX12_free_12 : decode cX12_free 12 = .ok (.iload_n 1, 1) := by decide +kernel
theorem dX12_free_13 : decode cX12_free 13 = .ok (.aload_n 0, 1) := by decide +kernel
theorem dX12_free_14 : decode cX12_free 14 = .ok (.getfield 24, 3) := by decide +kernel
theorem dX12_free_17 : decode cX12_free 17 = .ok (.iload_n 2, 1) := by decide +kernel
theorem dX12_free_18 : decode cX12_free 18 = .ok (.iaload, 1) := by decide +kernel
theorem dX12_free_19 : decode cX12_free 19 = .ok (.ifCond .ge 9, 3) := by decide +kernel
theorem dX12_free_22 : decode cX12_free 22 = .ok (.iconst 1, 1) := by decide +kernel
theorem dX12_free_23 : decode cX12_free 23 = .ok (.iload_n 2, 1) := by decide +kernel
theorem dX12_free_24 : decode cX12_free 24 = .ok (.ishl, 1) := by decide +kernel
theorem dX12_free_25 : decode cX12_free 25 = .ok (.goto 4, 3) := by decide +kernel
theorem dX12_free_28 : decode cX12_free 28 = .ok (.iconst 0, 1) := by decide +kernel
theorem dX12_free_29 : decode cX12_free 29 = .ok (.ior, 1) := by decide +kernel
theorem dX12_free_30 : decode cX12_free 30 = .ok (.istore_n 1, 1) := by decide +kernel
theorem dX12_free_31 : decode cX12_free 31 = .ok (.iinc 2 1, 3) := by decide +kernel
theorem dX12_free_34 : decode cX12_free 34 = .ok (.goto (-30), 3) := by decide +kernel
theorem dX12_free_37 : decode cX12_free 37 = .ok (.iload_n 1, 1) := by decide +kernel
theorem dX12_free_38 : decode cX12_free 38 = .ok (.ireturn, 1) := by decide +kernel
theorem dX12_part_0 : decode cX12_part 0 = .ok (.iconst 1, 1) := by decide +kernel
theorem dX12_part_1 : decode cX12_part 1 = .ok (.iload_n 1, 1) := by decide +kernel
theorem dX12_part_2 : decode cX12_part 2 = .ok (.ishl, 1) := by decide +kernel
theorem dX12_part_3 : decode cX12_part 3 = .ok (.istore_n 2, 1) := by decide +kernel
theorem dX12_part_4 : decode cX12_part 4 = .ok (.iconst 0, 1) := by decide +kernel
theorem dX12_part_5 : decode cX12_part 5 = .ok (.istore_n 3, 1) := by decide +kernel
theorem dX12_part_6 : decode cX12_part 6 = .ok (.iload_n 3, 1) := by decide +kernel
theorem dX12_part_7 : decode cX12_part 7 = .ok (.iload_n 2, 1) := by decide +kernel
theorem dX12_part_8 : decode cX12_part 8 = .ok (.if_icmp .eq 74, 3) := by decide +kernel
theorem dX12_part_11 : decode cX12_part 11 = .ok (.iload_n 2, 1) := by decide +kernel
theorem dX12_part_12 : decode cX12_part 12 = .ok (.istore_n 3, 1) := by decide +kernel
theorem dX12_part_13 : decode cX12_part 13 = .ok (.iconst 0, 1) := by decide +kernel
theorem dX12_part_14 : decode cX12_part 14 = .ok (.istore 4, 2) := by decide +kernel
theorem dX12_part_16 : decode cX12_part 16 = .ok (.iload 4, 2) := by decide +kernel
theorem dX12_part_18 : decode cX12_part 18 = .ok (.aload_n 0, 1) := by decide +kernel
theorem dX12_part_19 : decode cX12_part 19 = .ok (.getfield 79, 3) := by decide +kernel
theorem dX12_part_22 : decode cX12_part 22 = .ok (.if_icmp .ge 57, 3) := by decide +kernel
theorem dX12_part_25 : decode cX12_part 25 = .ok (.aload_n 0, 1) := by decide +kernel
theorem dX12_part_26 : decode cX12_part 26 = .ok (.getfield 34, 3) := by decide +kernel
theorem dX12_part_29 : decode cX12_part 29 = .ok (.iload 4, 2) := by decide +kernel
theorem dX12_part_31 : decode cX12_part 31 = .ok (.iaload, 1) := by decide +kernel
theorem dX12_part_32 : decode cX12_part 32 = .ok (.aload_n 0, 1) := by decide +kernel
theorem dX12_part_33 : decode cX12_part 33 = .ok (.getfield 37, 3) := by decide +kernel
theorem dX12_part_36 : decode cX12_part 36 = .ok (.iload 4, 2) := by decide +kernel
theorem dX12_part_38 : decode cX12_part 38 = .ok (.iaload, 1) := by decide +kernel
theorem dX12_part_39 : decode cX12_part 39 = .ok (.ior, 1) := by decide +kernel
theorem dX12_part_40 : decode cX12_part 40 = .ok (.aload_n 0, 1) := by decide +kernel
theorem dX12_part_41 : decode cX12_part 41 = .ok (.invokevirtual 125, 3) := by decide +kernel
theorem dX12_part_44 : decode cX12_part 44 = .ok (.iand, 1) := by decide +kernel
theorem dX12_part_45 : decode cX12_part 45 = .ok (.istore 5, 2) := by decide +kernel
theorem dX12_part_47 : decode cX12_part 47 = .ok (.iload_n 2, 1) := by decide +kernel
theorem dX12_part_48 : decode cX12_part 48 = .ok (.aload_n 0, 1) := by decide +kernel
theorem dX12_part_49 : decode cX12_part 49 = .ok (.getfield 46, 3) := by decide +kernel
theorem dX12_part_52 : decode cX12_part 52 = .ok (.iload 4, 2) := by decide +kernel
theorem dX12_part_54 : decode cX12_part 54 = .ok (.baload, 1) := by decide +kernel
theorem dX12_part_55 : decode cX12_part 55 = .ok (.ifCond .ne 15, 3) := by decide +kernel
theorem dX12_part_58 : decode cX12_part 58 = .ok (.iload 5, 2) := by decide +kernel
theorem dX12_part_60 : decode cX12_part 60 = .ok (.iload_n 2, 1) := by decide +kernel
theorem dX12_part_61 : decode cX12_part 61 = .ok (.iand, 1) := by decide +kernel
theorem dX12_part_62 : decode cX12_part 62 = .ok (.ifCond .eq 8, 3) := by decide +kernel
theorem dX12_part_65 : decode cX12_part 65 = .ok (.iload 5, 2) := by decide +kernel
theorem dX12_part_67 : decode cX12_part 67 = .ok (.goto 4, 3) := by decide +kernel
theorem dX12_part_70 : decode cX12_part 70 = .ok (.iconst 0, 1) := by decide +kernel
theorem dX12_part_71 : decode cX12_part 71 = .ok (.ior, 1) := by decide +kernel
theorem dX12_part_72 : decode cX12_part 72 = .ok (.istore_n 2, 1) := by decide +kernel
theorem dX12_part_73 : decode cX12_part 73 = .ok (.iinc 4 1, 3) := by decide +kernel
theorem dX12_part_76 : decode cX12_part 76 = .ok (.goto (-60), 3) := by decide +kernel
theorem dX12_part_79 : decode cX12_part 79 = .ok (.goto (-73), 3) := by decide +kernel
theorem dX12_part_82 : decode cX12_part 82 = .ok (.iload_n 2, 1) := by decide +kernel
theorem dX12_part_83 : decode cX12_part 83 = .ok (.ireturn, 1) := by decide +kernel
theorem dX12_lowest_0 : decode cX12_lowest 0 = .ok (.iconst 0, 1) := by decide +kernel
theorem dX12_lowest_1 : decode cX12_lowest 1 = .ok (.istore_n 1, 1) := by decide +kernel
theorem dX12_lowest_2 : decode cX12_lowest 2 = .ok (.iload_n 0, 1) := by decide +kernel
theorem dX12_lowest_3 : decode cX12_lowest 3 = .ok (.iload_n 1, 1) := by decide +kernel
theorem dX12_lowest_4 : decode cX12_lowest 4 = .ok (.invokestatic 7, 3) := by decide +kernel
theorem dX12_lowest_7 : decode cX12_lowest 7 = .ok (.ifCond .ne 9, 3) := by decide +kernel
theorem dX12_lowest_10 : decode cX12_lowest 10 = .ok (.iinc 1 1, 3) := by decide +kernel
theorem dX12_lowest_13 : decode cX12_lowest 13 = .ok (.goto (-11), 3) := by decide +kernel
theorem dX12_lowest_16 : decode cX12_lowest 16 = .ok (.iload_n 1, 1) := by decide +kernel
theorem dX12_lowest_17 : decode cX12_lowest 17 = .ok (.ireturn, 1) := by decide +kernel
theorem dX12_parts_0 : decode cX12_parts 0 = .ok (.aload_n 0, 1) := by decide +kernel
theorem dX12_parts_1 : decode cX12_parts 1 = .ok (.iconst 0, 1) := by decide +kernel
theorem dX12_parts_2 : decode cX12_parts 2 = .ok (.putfield 1, 3) := by decide +kernel
theorem dX12_parts_5 : decode cX12_parts 5 = .ok (.iconst 0, 1) := by decide +kernel
theorem dX12_parts_6 : decode cX12_parts 6 = .ok (.istore_n 1, 1) := by decide +kernel
theorem dX12_parts_7 : decode cX12_parts 7 = .ok (.iconst 0, 1) := by decide +kernel
theorem dX12_parts_8 : decode cX12_parts 8 = .ok (.istore_n 2, 1) := by decide +kernel
theorem dX12_parts_9 : decode cX12_parts 9 = .ok (.iload_n 2, 1) := by decide +kernel
theorem dX12_parts_10 : decode cX12_parts 10 = .ok (.aload_n 0, 1) := by decide +kernel
theorem dX12_parts_11 : decode cX12_parts 11 = .ok (.getfield 64, 3) := by decide +kernel
theorem dX12_parts_14 : decode cX12_parts 14 = .ok (.if_icmp .ge 38, 3) := by decide +kernel
theorem dX12_parts_17 : decode cX12_parts 17 = .ok (.iload_n 1, 1) := by decide +kernel
theorem dX12_parts_18 : decode cX12_parts 18 = .ok (.aload_n 0, 1) := by decide +kernel
theorem dX12_parts_19 : decode cX12_parts 19 = .ok (.getfield 24, 3) := by decide +kernel
theorem dX12_parts_22 : decode cX12_parts 22 = .ok (.iload_n 2, 1) := by decide +kernel
theorem dX12_parts_23 : decode cX12_parts 23 = .ok (.iaload, 1) := by decide +kernel
theorem dX12_parts_24 : decode cX12_parts 24 = .ok (.ifCond .ge 19, 3) := by decide +kernel
theorem dX12_parts_27 : decode cX12_parts 27 = .ok (.aload_n 0, 1) := by decide +kernel
theorem dX12_parts_28 : decode cX12_parts 28 = .ok (.iload_n 2, 1) := by decide +kernel
theorem dX12_parts_29 : decode cX12_parts 29 = .ok (.invokevirtual 128, 3) := by decide +kernel
theorem dX12_parts_32 : decode cX12_parts 32 = .ok (.invokestatic 131, 3) := by decide +kernel
theorem dX12_parts_35 : decode cX12_parts 35 = .ok (.iload_n 2, 1) := by decide +kernel
theorem dX12_parts_36 : decode cX12_parts 36 = .ok (.if_icmp .ne 7, 3) := by decide +kernel
theorem dX12_parts_39 : decode cX12_parts 39 = .ok (.iconst 1, 1) := by decide +kernel
theorem dX12_parts_40 : decode cX12_parts 40 = .ok (.goto 4, 3) := by decide +kernel
theorem dX12_parts_43 : decode cX12_parts 43 = .ok (.iconst 0, 1) := by decide +kernel
theorem dX12_parts_44 : decode cX12_parts 44 = .ok (.iadd, 1) := by decide +kernel
theorem dX12_parts_45 : decode cX12_parts 45 = .ok (.istore_n 1, 1) := by decide +kernel
theorem dX12_parts_46 : decode cX12_parts 46 = .ok (.iinc 2 1, 3) := by decide +kernel
theorem dX12_parts_49 : decode cX12_parts 49 = .ok (.goto (-40), 3) := by decide +kernel
theorem dX12_parts_52 : decode cX12_parts 52 = .ok (.iload_n 1, 1) := by decide +kernel
theorem dX12_parts_53 : decode cX12_parts 53 = .ok (.ireturn, 1) := by decide +kernel
theorem dX12_hasNoPart_0 : decode cX12_hasNoPart 0 = .ok (.aload_n 0, 1) := by decide +kernel
theorem dX12_hasNoPart_1 : decode cX12_hasNoPart 1 = .ok (.aload_n 0, 1) := by decide +kernel
theorem dX12_hasNoPart_2 : decode cX12_hasNoPart 2 = .ok (.iload_n 1, 1) := by decide +kernel
theorem dX12_hasNoPart_3 : decode cX12_hasNoPart 3 = .ok (.invokevirtual 75, 3) := by decide +kernel
theorem dX12_hasNoPart_6 : decode cX12_hasNoPart 6 = .ok (.ifCond .ne 7, 3) := by decide +kernel
theorem dX12_hasNoPart_9 : decode cX12_hasNoPart 9 = .ok (.iconst 1, 1) := by decide +kernel
theorem dX12_hasNoPart_10 : decode cX12_hasNoPart 10 = .ok (.goto 17, 3) := by decide +kernel
theorem dX12_hasNoPart_13 : decode cX12_hasNoPart 13 = .ok (.aload_n 0, 1) := by decide +kernel
theorem dX12_hasNoPart_14 : decode cX12_hasNoPart 14 = .ok (.getfield 24, 3) := by decide +kernel
theorem dX12_hasNoPart_17 : decode cX12_hasNoPart 17 = .ok (.iload_n 1, 1) := by decide +kernel
theorem dX12_hasNoPart_18 : decode cX12_hasNoPart 18 = .ok (.iaload, 1) := by decide +kernel
theorem dX12_hasNoPart_19 : decode cX12_hasNoPart 19 = .ok (.ifCond .ge 7, 3) := by decide +kernel
theorem dX12_hasNoPart_22 : decode cX12_hasNoPart 22 = .ok (.iconst 0, 1) := by decide +kernel
theorem dX12_hasNoPart_23 : decode cX12_hasNoPart 23 = .ok (.goto 4, 3) := by decide +kernel
theorem dX12_hasNoPart_26 : decode cX12_hasNoPart 26 = .ok (.iconst 2, 1) := by decide +kernel
theorem dX12_hasNoPart_27 : decode cX12_hasNoPart 27 = .ok (.putfield 1, 3) := by decide +kernel
theorem dX12_hasNoPart_30 : decode cX12_hasNoPart 30 = .ok (.aload_n 0, 1) := by decide +kernel
theorem dX12_hasNoPart_31 : decode cX12_hasNoPart 31 = .ok (.getfield 1, 3) := by decide +kernel
theorem dX12_hasNoPart_34 : decode cX12_hasNoPart 34 = .ok (.ifCond .le 7, 3) := by decide +kernel
theorem dX12_hasNoPart_37 : decode cX12_hasNoPart 37 = .ok (.iconst 1, 1) := by decide +kernel
theorem dX12_hasNoPart_38 : decode cX12_hasNoPart 38 = .ok (.goto 4, 3) := by decide +kernel
theorem dX12_hasNoPart_41 : decode cX12_hasNoPart 41 = .ok (.iconst 0, 1) := by decide +kernel
theorem dX12_hasNoPart_42 : decode cX12_hasNoPart 42 = .ok (.ireturn, 1) := by decide +kernel
theorem dX12_partOf_0 : decode cX12_partOf 0 = .ok (.aload_n 0, 1) := by decide +kernel
theorem dX12_partOf_1 : decode cX12_partOf 1 = .ok (.iload_n 1, 1) := by decide +kernel
theorem dX12_partOf_2 : decode cX12_partOf 2 = .ok (.invokevirtual 134, 3) := by decide +kernel
theorem dX12_partOf_5 : decode cX12_partOf 5 = .ok (.ifCond .eq 7, 3) := by decide +kernel
theorem dX12_partOf_8 : decode cX12_partOf 8 = .ok (.iconst 0, 1) := by decide +kernel
theorem dX12_partOf_9 : decode cX12_partOf 9 = .ok (.goto 11, 3) := by decide +kernel
theorem dX12_partOf_12 : decode cX12_partOf 12 = .ok (.aload_n 0, 1) := by decide +kernel
theorem dX12_partOf_13 : decode cX12_partOf 13 = .ok (.iload_n 1, 1) := by decide +kernel
theorem dX12_partOf_14 : decode cX12_partOf 14 = .ok (.invokevirtual 128, 3) := by decide +kernel
theorem dX12_partOf_17 : decode cX12_partOf 17 = .ok (.invokestatic 131, 3) := by decide +kernel
theorem dX12_partOf_20 : decode cX12_partOf 20 = .ok (.ireturn, 1) := by decide +kernel
theorem dX12_modelsOfPart_0 : decode cX12_modelsOfPart 0 = .ok (.aload_n 0, 1) := by decide +kernel
theorem dX12_modelsOfPart_1 : decode cX12_modelsOfPart 1 = .ok (.iload_n 1, 1) := by decide +kernel
theorem dX12_modelsOfPart_2 : decode cX12_modelsOfPart 2 = .ok (.invokevirtual 134, 3) := by decide +kernel
theorem dX12_modelsOfPart_5 : decode cX12_modelsOfPart 5 = .ok (.ifCond .eq 5, 3) := by decide +kernel
theorem dX12_modelsOfPart_8 : decode cX12_modelsOfPart 8 = .ok (.lconst 0, 1) := by decide +kernel
theorem dX12_modelsOfPart_9 : decode cX12_modelsOfPart 9 = .ok (.lreturn, 1) := by decide +kernel
theorem dX12_modelsOfPart_10 : decode cX12_modelsOfPart 10 = .ok (.aload_n 0, 1) := by decide +kernel
theorem dX12_modelsOfPart_11 : decode cX12_modelsOfPart 11 = .ok (.iload_n 1, 1) := by decide +kernel
theorem dX12_modelsOfPart_12 : decode cX12_modelsOfPart 12 = .ok (.invokevirtual 128, 3) := by decide +kernel
theorem dX12_modelsOfPart_15 : decode cX12_modelsOfPart 15 = .ok (.istore_n 2, 1) := by decide +kernel
theorem dX12_modelsOfPart_16 : decode cX12_modelsOfPart 16 = .ok (.iconst 0, 1) := by decide +kernel
theorem dX12_modelsOfPart_17 : decode cX12_modelsOfPart 17 = .ok (.istore_n 3, 1) := by decide +kernel
theorem dX12_modelsOfPart_18 : decode cX12_modelsOfPart 18 = .ok (.iconst 0, 1) := by decide +kernel
theorem dX12_modelsOfPart_19 : decode cX12_modelsOfPart 19 = .ok (.istore 4, 2) := by decide +kernel
theorem dX12_modelsOfPart_21 : decode cX12_modelsOfPart 21 = .ok (.iload 4, 2) := by decide +kernel
theorem dX12_modelsOfPart_23 : decode cX12_modelsOfPart 23 = .ok (.aload_n 0, 1) := by decide +kernel
theorem dX12_modelsOfPart_24 : decode cX12_modelsOfPart 24 = .ok (.getfield 64, 3) := by decide +kernel
theorem dX12_modelsOfPart_27 : decode cX12_modelsOfPart 27 = .ok (.if_icmp .ge 31, 3) := by decide +kernel
theorem dX12_modelsOfPart_30 : decode cX12_modelsOfPart 30 = .ok (.iload_n 3, 1) := by decide +kernel
theorem dX12_modelsOfPart_31 : decode cX12_modelsOfPart 31 = .ok (.aload_n 0, 1) := by decide +kernel
theorem dX12_modelsOfPart_32 : decode cX12_modelsOfPart 32 = .ok (.getfield 24, 3) := by decide +kernel
theorem dX12_modelsOfPart_35 : decode cX12_modelsOfPart 35 = .ok (.iload 4, 2) := by decide +kernel
theorem dX12_modelsOfPart_37 : decode cX12_modelsOfPart 37 = .ok (.iaload, 1) := by decide +kernel
theorem dX12_modelsOfPart_38 : decode cX12_modelsOfPart 38 = .ok (.iconst 1, 1) := by decide +kernel
theorem dX12_modelsOfPart_39 : decode cX12_modelsOfPart 39 = .ok (.if_icmp .ne 10, 3) := by decide +kernel
theorem dX12_modelsOfPart_42 : decode cX12_modelsOfPart 42 = .ok (.iconst 1, 1) := by decide +kernel
theorem dX12_modelsOfPart_43 : decode cX12_modelsOfPart 43 = .ok (.iload 4, 2) := by decide +kernel
theorem dX12_modelsOfPart_45 : decode cX12_modelsOfPart 45 = .ok (.ishl, 1) := by decide +kernel
theorem dX12_modelsOfPart_46 : decode cX12_modelsOfPart 46 = .ok (.goto 4, 3) := by decide +kernel
theorem dX12_modelsOfPart_49 : decode cX12_modelsOfPart 49 = .ok (.iconst 0, 1) := by decide +kernel
theorem dX12_modelsOfPart_50 : decode cX12_modelsOfPart 50 = .ok (.ior, 1) := by decide +kernel
theorem dX12_modelsOfPart_51 : decode cX12_modelsOfPart 51 = .ok (.istore_n 3, 1) := by decide +kernel
theorem dX12_modelsOfPart_52 : decode cX12_modelsOfPart 52 = .ok (.iinc 4 1, 3) := by decide +kernel
theorem dX12_modelsOfPart_55 : decode cX12_modelsOfPart 55 = .ok (.goto (-34), 3) := by decide +kernel
theorem dX12_modelsOfPart_58 : decode cX12_modelsOfPart 58 = .ok (.lconst 0, 1) := by decide +kernel
theorem dX12_modelsOfPart_59 : decode cX12_modelsOfPart 59 = .ok (.lstore 4, 2) := by decide +kernel
theorem dX12_modelsOfPart_61 : decode cX12_modelsOfPart 61 = .ok (.iconst 0, 1) := by decide +kernel
theorem dX12_modelsOfPart_62 : decode cX12_modelsOfPart 62 = .ok (.istore 6, 2) := by decide +kernel
theorem dX12_modelsOfPart_64 : decode cX12_modelsOfPart 64 = .ok (.iload 6, 2) := by decide +kernel
theorem dX12_modelsOfPart_66 : decode cX12_modelsOfPart 66 = .ok (.aload_n 0, 1) := by decide +kernel
theorem dX12_modelsOfPart_67 : decode cX12_modelsOfPart 67 = .ok (.invokevirtual 98, 3) := by decide +kernel
theorem dX12_modelsOfPart_70 : decode cX12_modelsOfPart 70 = .ok (.if_icmp .ge 110, 3) := by decide +kernel
theorem dX12_modelsOfPart_73 : decode cX12_modelsOfPart 73 = .ok (.iload 6, 2) := by decide +kernel
theorem dX12_modelsOfPart_75 : decode cX12_modelsOfPart 75 = .ok (.iload_n 2, 1) := by decide +kernel
theorem dX12_modelsOfPart_76 : decode cX12_modelsOfPart 76 = .ok (.iconst (-1), 1) := by decide +kernel
theorem dX12_modelsOfPart_77 : decode cX12_modelsOfPart 77 = .ok (.ixor, 1) := by decide +kernel
theorem dX12_modelsOfPart_78 : decode cX12_modelsOfPart 78 = .ok (.iand, 1) := by decide +kernel
theorem dX12_modelsOfPart_79 : decode cX12_modelsOfPart 79 = .ok (.ifCond .eq 6, 3) := by decide +kernel
theorem dX12_modelsOfPart_82 : decode cX12_modelsOfPart 82 = .ok (.goto 92, 3) := by decide +kernel
theorem dX12_modelsOfPart_85 : decode cX12_modelsOfPart 85 = .ok (.iconst 1, 1) := by decide +kernel
theorem dX12_modelsOfPart_86 : decode cX12_modelsOfPart 86 = .ok (.istore 7, 2) := by decide +kernel
theorem dX12_modelsOfPart_88 : decode cX12_modelsOfPart 88 = .ok (.iconst 0, 1) := by decide +kernel
theorem dX12_modelsOfPart_89 : decode cX12_modelsOfPart 89 = .ok (.istore 8, 2) := by decide +kernel
theorem dX12_modelsOfPart_91 : decode cX12_modelsOfPart 91 = .ok (.iload 8, 2) := by decide +kernel
theorem dX12_modelsOfPart_93 : decode cX12_modelsOfPart 93 = .ok (.aload_n 0, 1) := by decide +kernel
theorem dX12_modelsOfPart_94 : decode cX12_modelsOfPart 94 = .ok (.getfield 79, 3) := by decide +kernel
theorem dX12_modelsOfPart_97 : decode cX12_modelsOfPart 97 = .ok (.if_icmp .ge 62, 3) := by decide +kernel
theorem dX12_modelsOfPart_100 : decode cX12_modelsOfPart 100 = .ok (.iload 7, 2) := by decide +kernel
theorem dX12_modelsOfPart_102 : decode cX12_modelsOfPart 102 = .ok (.aload_n 0, 1) := by decide +kernel
theorem dX12_modelsOfPart_103 : decode cX12_modelsOfPart 103 = .ok (.getfield 46, 3) := by decide +kernel
theorem dX12_modelsOfPart_106 : decode cX12_modelsOfPart 106 = .ok (.iload 8, 2) := by decide +kernel
theorem dX12_modelsOfPart_108 : decode cX12_modelsOfPart 108 = .ok (.baload, 1) := by decide +kernel
theorem dX12_modelsOfPart_109 : decode cX12_modelsOfPart 109 = .ok (.ifCond .ne 36, 3) := by decide +kernel
theorem dX12_modelsOfPart_112 : decode cX12_modelsOfPart 112 = .ok (.aload_n 0, 1) := by decide +kernel
theorem dX12_modelsOfPart_113 : decode cX12_modelsOfPart 113 = .ok (.getfield 34, 3) := by decide +kernel
theorem dX12_modelsOfPart_116 : decode cX12_modelsOfPart 116 = .ok (.iload 8, 2) := by decide +kernel
theorem dX12_modelsOfPart_118 : decode cX12_modelsOfPart 118 = .ok (.iaload, 1) := by decide +kernel
theorem dX12_modelsOfPart_119 : decode cX12_modelsOfPart 119 = .ok (.aload_n 0, 1) := by decide +kernel
theorem dX12_modelsOfPart_120 : decode cX12_modelsOfPart 120 = .ok (.getfield 37, 3) := by decide +kernel
theorem dX12_modelsOfPart_123 : decode cX12_modelsOfPart 123 = .ok (.iload 8, 2) := by decide +kernel
theorem dX12_modelsOfPart_125 : decode cX12_modelsOfPart 125 = .ok (.iaload, 1) := by decide +kernel
theorem dX12_modelsOfPart_126 : decode cX12_modelsOfPart 126 = .ok (.ior, 1) := by decide +kernel
theorem dX12_modelsOfPart_127 : decode cX12_modelsOfPart 127 = .ok (.iload_n 2, 1) := by decide +kernel
theorem dX12_modelsOfPart_128 : decode cX12_modelsOfPart 128 = .ok (.iand, 1) := by decide +kernel
theorem dX12_modelsOfPart_129 : decode cX12_modelsOfPart 129 = .ok (.ifCond .eq 16, 3) := by decide +kernel
theorem dX12_modelsOfPart_132 : decode cX12_modelsOfPart 132 = .ok (.aload_n 0, 1) := by decide +kernel
theorem dX12_modelsOfPart_133 : decode cX12_modelsOfPart 133 = .ok (.iload 8, 2) := by decide +kernel
theorem dX12_modelsOfPart_135 : decode cX12_modelsOfPart 135 = .ok (.iload 6, 2) := by decide +kernel
theorem dX12_modelsOfPart_137 : decode cX12_modelsOfPart 137 = .ok (.iload_n 3, 1) := by decide +kernel
theorem dX12_modelsOfPart_138 : decode cX12_modelsOfPart 138 = .ok (.ior, 1) := by decide +kernel
theorem dX12_modelsOfPart_139 : decode cX12_modelsOfPart 139 = .ok (.invokevirtual 95, 3) := by decide +kernel
theorem dX12_modelsOfPart_142 : decode cX12_modelsOfPart 142 = .ok (.ifCond .eq 7, 3) := by decide +kernel
theorem dX12_modelsOfPart_145 : decode cX12_modelsOfPart 145 = .ok (.iconst 1, 1) := by decide +kernel
theorem dX12_modelsOfPart_146 : decode cX12_modelsOfPart 146 = .ok (.goto 4, 3) := by decide +kernel
theorem dX12_modelsOfPart_149 : decode cX12_modelsOfPart 149 = .ok (.iconst 0, 1) := by decide +kernel
theorem dX12_modelsOfPart_150 : decode cX12_modelsOfPart 150 = .ok (.iand, 1) := by decide +kernel
theorem dX12_modelsOfPart_151 : decode cX12_modelsOfPart 151 = .ok (.istore 7, 2) := by decide +kernel
theorem dX12_modelsOfPart_153 : decode cX12_modelsOfPart 153 = .ok (.iinc 8 1, 3) := by decide +kernel
theorem dX12_modelsOfPart_156 : decode cX12_modelsOfPart 156 = .ok (.goto (-65), 3) := by decide +kernel
theorem dX12_modelsOfPart_159 : decode cX12_modelsOfPart 159 = .ok (.lload 4, 2) := by decide +kernel
theorem dX12_modelsOfPart_161 : decode cX12_modelsOfPart 161 = .ok (.iload 7, 2) := by decide +kernel
theorem dX12_modelsOfPart_163 : decode cX12_modelsOfPart 163 = .ok (.ifCond .eq 7, 3) := by decide +kernel
theorem dX12_modelsOfPart_166 : decode cX12_modelsOfPart 166 = .ok (.lconst 1, 1) := by decide +kernel
theorem dX12_modelsOfPart_167 : decode cX12_modelsOfPart 167 = .ok (.goto 4, 3) := by decide +kernel
theorem dX12_modelsOfPart_170 : decode cX12_modelsOfPart 170 = .ok (.lconst 0, 1) := by decide +kernel
theorem dX12_modelsOfPart_171 : decode cX12_modelsOfPart 171 = .ok (.ladd, 1) := by decide +kernel
theorem dX12_modelsOfPart_172 : decode cX12_modelsOfPart 172 = .ok (.lstore 4, 2) := by decide +kernel
theorem dX12_modelsOfPart_174 : decode cX12_modelsOfPart 174 = .ok (.iinc 6 1, 3) := by decide +kernel
theorem dX12_modelsOfPart_177 : decode cX12_modelsOfPart 177 = .ok (.goto (-113), 3) := by decide +kernel
theorem dX12_modelsOfPart_180 : decode cX12_modelsOfPart 180 = .ok (.lload 4, 2) := by decide +kernel
theorem dX12_modelsOfPart_182 : decode cX12_modelsOfPart 182 = .ok (.lreturn, 1) := by decide +kernel
theorem dX12_best_0 : decode cX12_best 0 = .ok (.aload_n 0, 1) := by decide +kernel
theorem dX12_best_1 : decode cX12_best 1 = .ok (.iconst 0, 1) := by decide +kernel
theorem dX12_best_2 : decode cX12_best 2 = .ok (.putfield 1, 3) := by decide +kernel
theorem dX12_best_5 : decode cX12_best 5 = .ok (.iload_n 1, 1) := by decide +kernel
theorem dX12_best_6 : decode cX12_best 6 = .ok (.iconst 0, 1) := by decide +kernel
theorem dX12_best_7 : decode cX12_best 7 = .ok (.bipush 20, 2) := by decide +kernel
theorem dX12_best_9 : decode cX12_best 9 = .ok (.invokestatic 67, 3) := by decide +kernel
theorem dX12_best_12 : decode cX12_best 12 = .ok (.ifCond .ne 9, 3) := by decide +kernel
theorem dX12_best_15 : decode cX12_best 15 = .ok (.aload_n 0, 1) := by decide +kernel
theorem dX12_best_16 : decode cX12_best 16 = .ok (.iconst 1, 1) := by decide +kernel
theorem dX12_best_17 : decode cX12_best 17 = .ok (.invokevirtual 71, 3) := by decide +kernel
theorem dX12_best_20 : decode cX12_best 20 = .ok (.ireturn, 1) := by decide +kernel
theorem dX12_best_21 : decode cX12_best 21 = .ok (.iconst 0, 1) := by decide +kernel
theorem dX12_best_22 : decode cX12_best 22 = .ok (.istore_n 2, 1) := by decide +kernel
theorem dX12_best_23 : decode cX12_best 23 = .ok (.iload_n 2, 1) := by decide +kernel
theorem dX12_best_24 : decode cX12_best 24 = .ok (.sipush 1024, 3) := by decide +kernel
theorem dX12_best_27 : decode cX12_best 27 = .ok (.if_icmp .ge 43, 3) := by decide +kernel
theorem dX12_best_30 : decode cX12_best 30 = .ok (.aload_n 0, 1) := by decide +kernel
theorem dX12_best_31 : decode cX12_best 31 = .ok (.getfield 58, 3) := by decide +kernel
theorem dX12_best_34 : decode cX12_best 34 = .ok (.iload_n 2, 1) := by decide +kernel
theorem dX12_best_35 : decode cX12_best 35 = .ok (.iload_n 2, 1) := by decide +kernel
theorem dX12_best_36 : decode cX12_best 36 = .ok (.aload_n 0, 1) := by decide +kernel
theorem dX12_best_37 : decode cX12_best 37 = .ok (.invokevirtual 98, 3) := by decide +kernel
theorem dX12_best_40 : decode cX12_best 40 = .ok (.if_icmp .ge 22, 3) := by decide +kernel
theorem dX12_best_43 : decode cX12_best 43 = .ok (.aload_n 0, 1) := by decide +kernel
theorem dX12_best_44 : decode cX12_best 44 = .ok (.iload_n 2, 1) := by decide +kernel
theorem dX12_best_45 : decode cX12_best 45 = .ok (.aload_n 0, 1) := by decide +kernel
theorem dX12_best_46 : decode cX12_best 46 = .ok (.getfield 64, 3) := by decide +kernel
theorem dX12_best_49 : decode cX12_best 49 = .ok (.invokestatic 137, 3) := by decide +kernel
theorem dX12_best_52 : decode cX12_best 52 = .ok (.invokevirtual 102, 3) := by decide +kernel
theorem dX12_best_55 : decode cX12_best 55 = .ok (.ifCond .eq 7, 3) := by decide +kernel
theorem dX12_best_58 : decode cX12_best 58 = .ok (.iconst 1, 1) := by decide +kernel
theorem dX12_best_59 : decode cX12_best 59 = .ok (.goto 4, 3) := by decide +kernel
theorem dX12_best_62 : decode cX12_best 62 = .ok (.iconst 0, 1) := by decide +kernel
theorem dX12_best_63 : decode cX12_best 63 = .ok (.bastore, 1) := by decide +kernel
theorem dX12_best_64 : decode cX12_best 64 = .ok (.iinc 2 1, 3) := by decide +kernel
theorem dX12_best_67 : decode cX12_best 67 = .ok (.goto (-44), 3) := by decide +kernel
theorem dX12_best_70 : decode cX12_best 70 = .ok (.iconst (-1), 1) := by decide +kernel
theorem dX12_best_71 : decode cX12_best 71 = .ok (.istore_n 2, 1) := by decide +kernel
theorem dX12_best_72 : decode cX12_best 72 = .ok (.iconst 0, 1) := by decide +kernel
theorem dX12_best_73 : decode cX12_best 73 = .ok (.istore_n 3, 1) := by decide +kernel
theorem dX12_best_74 : decode cX12_best 74 = .ok (.iload_n 3, 1) := by decide +kernel
theorem dX12_best_75 : decode cX12_best 75 = .ok (.iload_n 1, 1) := by decide +kernel
theorem dX12_best_76 : decode cX12_best 76 = .ok (.if_icmp .gt 92, 3) := by decide +kernel
theorem dX12_best_79 : decode cX12_best 79 = .ok (.iconst (-1), 1) := by decide +kernel
theorem dX12_best_80 : decode cX12_best 80 = .ok (.istore_n 2, 1) := by decide +kernel
theorem dX12_best_81 : decode cX12_best 81 = .ok (.iconst 0, 1) := by decide +kernel
theorem dX12_best_82 : decode cX12_best 82 = .ok (.istore 4, 2) := by decide +kernel
theorem dX12_best_84 : decode cX12_best 84 = .ok (.iload 4, 2) := by decide +kernel
theorem dX12_best_86 : decode cX12_best 86 = .ok (.aload_n 0, 1) := by decide +kernel
theorem dX12_best_87 : decode cX12_best 87 = .ok (.invokevirtual 98, 3) := by decide +kernel
theorem dX12_best_90 : decode cX12_best 90 = .ok (.if_icmp .ge 55, 3) := by decide +kernel
theorem dX12_best_93 : decode cX12_best 93 = .ok (.aload_n 0, 1) := by decide +kernel
theorem dX12_best_94 : decode cX12_best 94 = .ok (.getfield 58, 3) := by decide +kernel
theorem dX12_best_97 : decode cX12_best 97 = .ok (.iload 4, 2) := by decide +kernel
theorem dX12_best_99 : decode cX12_best 99 = .ok (.baload, 1) := by decide +kernel
theorem dX12_best_100 : decode cX12_best 100 = .ok (.ifCond .eq 39, 3) := by decide +kernel
theorem dX12_best_103 : decode cX12_best 103 = .ok (.iload_n 2, 1) := by decide +kernel
theorem dX12_best_104 : decode cX12_best 104 = .ok (.ifCond .lt 32, 3) := by decide +kernel
theorem dX12_best_107 : decode cX12_best 107 = .ok (.aload_n 0, 1) := by decide +kernel
theorem dX12_best_108 : decode cX12_best 108 = .ok (.iload 4, 2) := by decide +kernel
theorem dX12_best_110 : decode cX12_best 110 = .ok (.aload_n 0, 1) := by decide +kernel
theorem dX12_best_111 : decode cX12_best 111 = .ok (.getfield 64, 3) := by decide +kernel
theorem dX12_best_114 : decode cX12_best 114 = .ok (.invokestatic 137, 3) := by decide +kernel
theorem dX12_best_117 : decode cX12_best 117 = .ok (.invokevirtual 109, 3) := by decide +kernel
theorem dX12_best_120 : decode cX12_best 120 = .ok (.aload_n 0, 1) := by decide +kernel
theorem dX12_best_121 : decode cX12_best 121 = .ok (.iload_n 2, 1) := by decide +kernel
theorem dX12_best_122 : decode cX12_best 122 = .ok (.aload_n 0, 1) := by decide +kernel
theorem dX12_best_123 : decode cX12_best 123 = .ok (.getfield 64, 3) := by decide +kernel
theorem dX12_best_126 : decode cX12_best 126 = .ok (.invokestatic 137, 3) := by decide +kernel
theorem dX12_best_129 : decode cX12_best 129 = .ok (.invokevirtual 109, 3) := by decide +kernel
theorem dX12_best_132 : decode cX12_best 132 = .ok (.lcmp, 1) := by decide +kernel
theorem dX12_best_133 : decode cX12_best 133 = .ok (.ifCond .le 6, 3) := by decide +kernel
theorem dX12_best_136 : decode cX12_best 136 = .ok (.iload 4, 2) := by decide +kernel
theorem dX12_best_138 : decode cX12_best 138 = .ok (.istore_n 2, 1) := by decide +kernel
theorem dX12_best_139 : decode cX12_best 139 = .ok (.iinc 4 1, 3) := by decide +kernel
theorem dX12_best_142 : decode cX12_best 142 = .ok (.goto (-58), 3) := by decide +kernel
theorem dX12_best_145 : decode cX12_best 145 = .ok (.iload_n 2, 1) := by decide +kernel
theorem dX12_best_146 : decode cX12_best 146 = .ok (.ifCond .ge 9, 3) := by decide +kernel
theorem dX12_best_149 : decode cX12_best 149 = .ok (.aload_n 0, 1) := by decide +kernel
theorem dX12_best_150 : decode cX12_best 150 = .ok (.iconst 2, 1) := by decide +kernel
theorem dX12_best_151 : decode cX12_best 151 = .ok (.invokevirtual 71, 3) := by decide +kernel
theorem dX12_best_154 : decode cX12_best 154 = .ok (.ireturn, 1) := by decide +kernel
theorem dX12_best_155 : decode cX12_best 155 = .ok (.aload_n 0, 1) := by decide +kernel
theorem dX12_best_156 : decode cX12_best 156 = .ok (.getfield 58, 3) := by decide +kernel
theorem dX12_best_159 : decode cX12_best 159 = .ok (.iload_n 2, 1) := by decide +kernel
theorem dX12_best_160 : decode cX12_best 160 = .ok (.iconst 0, 1) := by decide +kernel
theorem dX12_best_161 : decode cX12_best 161 = .ok (.bastore, 1) := by decide +kernel
theorem dX12_best_162 : decode cX12_best 162 = .ok (.iinc 3 1, 3) := by decide +kernel
theorem dX12_best_165 : decode cX12_best 165 = .ok (.goto (-91), 3) := by decide +kernel
theorem dX12_best_168 : decode cX12_best 168 = .ok (.iload_n 2, 1) := by decide +kernel
theorem dX12_best_169 : decode cX12_best 169 = .ok (.aload_n 0, 1) := by decide +kernel
theorem dX12_best_170 : decode cX12_best 170 = .ok (.getfield 64, 3) := by decide +kernel
theorem dX12_best_173 : decode cX12_best 173 = .ok (.invokestatic 137, 3) := by decide +kernel
theorem dX12_best_176 : decode cX12_best 176 = .ok (.ireturn, 1) := by decide +kernel
theorem dX12_weightOf__0 : decode cX12_weightOf_ 0 = .ok (.aload_n 0, 1) := by decide +kernel
theorem dX12_weightOf__1 : decode cX12_weightOf_ 1 = .ok (.iconst 0, 1) := by decide +kernel
theorem dX12_weightOf__2 : decode cX12_weightOf_ 2 = .ok (.putfield 1, 3) := by decide +kernel
theorem dX12_weightOf__5 : decode cX12_weightOf_ 5 = .ok (.aload_n 0, 1) := by decide +kernel
theorem dX12_weightOf__6 : decode cX12_weightOf_ 6 = .ok (.iload_n 1, 1) := by decide +kernel
theorem dX12_weightOf__7 : decode cX12_weightOf_ 7 = .ok (.invokevirtual 82, 3) := by decide +kernel
theorem dX12_weightOf__10 : decode cX12_weightOf_ 10 = .ok (.ifCond .eq 11, 3) := by decide +kernel
theorem dX12_weightOf__13 : decode cX12_weightOf_ 13 = .ok (.aload_n 0, 1) := by decide +kernel
theorem dX12_weightOf__14 : decode cX12_weightOf_ 14 = .ok (.iload_n 1, 1) := by decide +kernel
theorem dX12_weightOf__15 : decode cX12_weightOf_ 15 = .ok (.invokevirtual 109, 3) := by decide +kernel
theorem dX12_weightOf__18 : decode cX12_weightOf_ 18 = .ok (.goto 9, 3) := by decide +kernel
theorem dX12_weightOf__21 : decode cX12_weightOf_ 21 = .ok (.aload_n 0, 1) := by decide +kernel
theorem dX12_weightOf__22 : decode cX12_weightOf_ 22 = .ok (.iconst 1, 1) := by decide +kernel
theorem dX12_weightOf__23 : decode cX12_weightOf_ 23 = .ok (.invokevirtual 71, 3) := by decide +kernel
theorem dX12_weightOf__26 : decode cX12_weightOf_ 26 = .ok (.i2l, 1) := by decide +kernel
theorem dX12_weightOf__27 : decode cX12_weightOf_ 27 = .ok (.lreturn, 1) := by decide +kernel
theorem dX12_lucky_0 : decode cX12_lucky 0 = .ok (.aload_n 0, 1) := by decide +kernel
theorem dX12_lucky_1 : decode cX12_lucky 1 = .ok (.iconst 0, 1) := by decide +kernel
theorem dX12_lucky_2 : decode cX12_lucky 2 = .ok (.putfield 1, 3) := by decide +kernel
theorem dX12_lucky_5 : decode cX12_lucky 5 = .ok (.lconst 0, 1) := by decide +kernel
theorem dX12_lucky_6 : decode cX12_lucky 6 = .ok (.lstore_n 3, 1) := by decide +kernel
theorem dX12_lucky_7 : decode cX12_lucky 7 = .ok (.iconst 0, 1) := by decide +kernel
theorem dX12_lucky_8 : decode cX12_lucky 8 = .ok (.istore 5, 2) := by decide +kernel
theorem dX12_lucky_10 : decode cX12_lucky 10 = .ok (.lload_n 1, 1) := by decide +kernel
theorem dX12_lucky_11 : decode cX12_lucky 11 = .ok (.lconst 0, 1) := by decide +kernel
theorem dX12_lucky_12 : decode cX12_lucky 12 = .ok (.lcmp, 1) := by decide +kernel
theorem dX12_lucky_13 : decode cX12_lucky 13 = .ok (.ifCond .lt 60, 3) := by decide +kernel
theorem dX12_lucky_16 : decode cX12_lucky 16 = .ok (.iload 5, 2) := by decide +kernel
theorem dX12_lucky_18 : decode cX12_lucky 18 = .ok (.aload_n 0, 1) := by decide +kernel
theorem dX12_lucky_19 : decode cX12_lucky 19 = .ok (.invokevirtual 98, 3) := by decide +kernel
theorem dX12_lucky_22 : decode cX12_lucky 22 = .ok (.if_icmp .ge 51, 3) := by decide +kernel
theorem dX12_lucky_25 : decode cX12_lucky 25 = .ok (.iload 5, 2) := by decide +kernel
theorem dX12_lucky_27 : decode cX12_lucky 27 = .ok (.aload_n 0, 1) := by decide +kernel
theorem dX12_lucky_28 : decode cX12_lucky 28 = .ok (.getfield 64, 3) := by decide +kernel
theorem dX12_lucky_31 : decode cX12_lucky 31 = .ok (.invokestatic 137, 3) := by decide +kernel
theorem dX12_lucky_34 : decode cX12_lucky 34 = .ok (.istore 6, 2) := by decide +kernel
theorem dX12_lucky_36 : decode cX12_lucky 36 = .ok (.lload_n 3, 1) := by decide +kernel
theorem dX12_lucky_37 : decode cX12_lucky 37 = .ok (.aload_n 0, 1) := by decide +kernel
theorem dX12_lucky_38 : decode cX12_lucky 38 = .ok (.iload 6, 2) := by decide +kernel
theorem dX12_lucky_40 : decode cX12_lucky 40 = .ok (.invokevirtual 102, 3) := by decide +kernel
theorem dX12_lucky_43 : decode cX12_lucky 43 = .ok (.ifCond .eq 12, 3) := by decide +kernel
theorem dX12_lucky_46 : decode cX12_lucky 46 = .ok (.aload_n 0, 1) := by decide +kernel
theorem dX12_lucky_47 : decode cX12_lucky 47 = .ok (.iload 6, 2) := by decide +kernel
theorem dX12_lucky_49 : decode cX12_lucky 49 = .ok (.invokevirtual 109, 3) := by decide +kernel
theorem dX12_lucky_52 : decode cX12_lucky 52 = .ok (.goto 4, 3) := by decide +kernel
theorem dX12_lucky_55 : decode cX12_lucky 55 = .ok (.lconst 0, 1) := by decide +kernel
theorem dX12_lucky_56 : decode cX12_lucky 56 = .ok (.ladd, 1) := by decide +kernel
theorem dX12_lucky_57 : decode cX12_lucky 57 = .ok (.lstore_n 3, 1) := by decide +kernel
theorem dX12_lucky_58 : decode cX12_lucky 58 = .ok (.lload_n 3, 1) := by decide +kernel
theorem dX12_lucky_59 : decode cX12_lucky 59 = .ok (.lload_n 1, 1) := by decide +kernel
theorem dX12_lucky_60 : decode cX12_lucky 60 = .ok (.lcmp, 1) := by decide +kernel
theorem dX12_lucky_61 : decode cX12_lucky 61 = .ok (.ifCond .le 6, 3) := by decide +kernel
theorem dX12_lucky_64 : decode cX12_lucky 64 = .ok (.iload 6, 2) := by decide +kernel
theorem dX12_lucky_66 : decode cX12_lucky 66 = .ok (.ireturn, 1) := by decide +kernel
theorem dX12_lucky_67 : decode cX12_lucky 67 = .ok (.iinc 5 1, 3) := by decide +kernel
theorem dX12_lucky_70 : decode cX12_lucky 70 = .ok (.goto (-60), 3) := by decide +kernel
theorem dX12_lucky_73 : decode cX12_lucky 73 = .ok (.aload_n 0, 1) := by decide +kernel
theorem dX12_lucky_74 : decode cX12_lucky 74 = .ok (.iconst 1, 1) := by decide +kernel
theorem dX12_lucky_75 : decode cX12_lucky 75 = .ok (.invokevirtual 71, 3) := by decide +kernel
theorem dX12_lucky_78 : decode cX12_lucky 78 = .ok (.ireturn, 1) := by decide +kernel
theorem dX12_first_0 : decode cX12_first 0 = .ok (.aload_n 0, 1) := by decide +kernel
theorem dX12_first_1 : decode cX12_first 1 = .ok (.iconst 0, 1) := by decide +kernel
theorem dX12_first_2 : decode cX12_first 2 = .ok (.putfield 1, 3) := by decide +kernel
theorem dX12_first_5 : decode cX12_first 5 = .ok (.iconst 0, 1) := by decide +kernel
theorem dX12_first_6 : decode cX12_first 6 = .ok (.istore_n 1, 1) := by decide +kernel
theorem dX12_first_7 : decode cX12_first 7 = .ok (.iload_n 1, 1) := by decide +kernel
theorem dX12_first_8 : decode cX12_first 8 = .ok (.aload_n 0, 1) := by decide +kernel
theorem dX12_first_9 : decode cX12_first 9 = .ok (.invokevirtual 98, 3) := by decide +kernel
theorem dX12_first_12 : decode cX12_first 12 = .ok (.if_icmp .ge 33, 3) := by decide +kernel
theorem dX12_first_15 : decode cX12_first 15 = .ok (.aload_n 0, 1) := by decide +kernel
theorem dX12_first_16 : decode cX12_first 16 = .ok (.iload_n 1, 1) := by decide +kernel
theorem dX12_first_17 : decode cX12_first 17 = .ok (.aload_n 0, 1) := by decide +kernel
theorem dX12_first_18 : decode cX12_first 18 = .ok (.getfield 64, 3) := by decide +kernel
theorem dX12_first_21 : decode cX12_first 21 = .ok (.invokestatic 137, 3) := by decide +kernel
theorem dX12_first_24 : decode cX12_first 24 = .ok (.invokevirtual 102, 3) := by decide +kernel
theorem dX12_first_27 : decode cX12_first 27 = .ok (.ifCond .eq 12, 3) := by decide +kernel
theorem dX12_first_30 : decode cX12_first 30 = .ok (.iload_n 1, 1) := by decide +kernel
theorem dX12_first_31 : decode cX12_first 31 = .ok (.aload_n 0, 1) := by decide +kernel
theorem dX12_first_32 : decode cX12_first 32 = .ok (.getfield 64, 3) := by decide +kernel
theorem dX12_first_35 : decode cX12_first 35 = .ok (.invokestatic 137, 3) := by decide +kernel
theorem dX12_first_38 : decode cX12_first 38 = .ok (.ireturn, 1) := by decide +kernel
theorem dX12_first_39 : decode cX12_first 39 = .ok (.iinc 1 1, 3) := by decide +kernel
theorem dX12_first_42 : decode cX12_first 42 = .ok (.goto (-35), 3) := by decide +kernel
theorem dX12_first_45 : decode cX12_first 45 = .ok (.aload_n 0, 1) := by decide +kernel
theorem dX12_first_46 : decode cX12_first 46 = .ok (.iconst 1, 1) := by decide +kernel
theorem dX12_first_47 : decode cX12_first 47 = .ok (.invokevirtual 71, 3) := by decide +kernel
theorem dX12_first_50 : decode cX12_first 50 = .ok (.ireturn, 1) := by decide +kernel
theorem dX12_readsModels_0 : decode cX12_readsModels 0 = .ok (.iconst 0, 1) := by decide +kernel
theorem dX12_readsModels_1 : decode cX12_readsModels 1 = .ok (.istore_n 1, 1) := by decide +kernel
theorem dX12_readsModels_2 : decode cX12_readsModels 2 = .ok (.iload_n 1, 1) := by decide +kernel
theorem dX12_readsModels_3 : decode cX12_readsModels 3 = .ok (.sipush 1024, 3) := by decide +kernel
theorem dX12_readsModels_6 : decode cX12_readsModels 6 = .ok (.if_icmp .ge 36, 3) := by decide +kernel
theorem dX12_readsModels_9 : decode cX12_readsModels 9 = .ok (.aload_n 0, 1) := by decide +kernel
theorem dX12_readsModels_10 : decode cX12_readsModels 10 = .ok (.getfield 58, 3) := by decide +kernel
theorem dX12_readsModels_13 : decode cX12_readsModels 13 = .ok (.iload_n 1, 1) := by decide +kernel
theorem dX12_readsModels_14 : decode cX12_readsModels 14 = .ok (.iload_n 1, 1) := by decide +kernel
theorem dX12_readsModels_15 : decode cX12_readsModels 15 = .ok (.aload_n 0, 1) := by decide +kernel
theorem dX12_readsModels_16 : decode cX12_readsModels 16 = .ok (.invokevirtual 98, 3) := by decide +kernel
theorem dX12_readsModels_19 : decode cX12_readsModels 19 = .ok (.if_icmp .ge 15, 3) := by decide +kernel
theorem dX12_readsModels_22 : decode cX12_readsModels 22 = .ok (.aload_n 0, 1) := by decide +kernel
theorem dX12_readsModels_23 : decode cX12_readsModels 23 = .ok (.iload_n 1, 1) := by decide +kernel
theorem dX12_readsModels_24 : decode cX12_readsModels 24 = .ok (.invokevirtual 102, 3) := by decide +kernel
theorem dX12_readsModels_27 : decode cX12_readsModels 27 = .ok (.ifCond .eq 7, 3) := by decide +kernel
theorem dX12_readsModels_30 : decode cX12_readsModels 30 = .ok (.iconst 1, 1) := by decide +kernel
theorem dX12_readsModels_31 : decode cX12_readsModels 31 = .ok (.goto 4, 3) := by decide +kernel
theorem dX12_readsModels_34 : decode cX12_readsModels 34 = .ok (.iconst 0, 1) := by decide +kernel
theorem dX12_readsModels_35 : decode cX12_readsModels 35 = .ok (.bastore, 1) := by decide +kernel
theorem dX12_readsModels_36 : decode cX12_readsModels 36 = .ok (.iinc 1 1, 3) := by decide +kernel
theorem dX12_readsModels_39 : decode cX12_readsModels 39 = .ok (.goto (-37), 3) := by decide +kernel
theorem dX12_readsModels_42 : decode cX12_readsModels 42 = .ok (.return_, 1) := by decide +kernel
theorem dX12_readsSlot_0 : decode cX12_readsSlot 0 = .ok (.iconst 0, 1) := by decide +kernel
theorem dX12_readsSlot_1 : decode cX12_readsSlot 1 = .ok (.istore_n 2, 1) := by decide +kernel
theorem dX12_readsSlot_2 : decode cX12_readsSlot 2 = .ok (.iload_n 2, 1) := by decide +kernel
theorem dX12_readsSlot_3 : decode cX12_readsSlot 3 = .ok (.sipush 1024, 3) := by decide +kernel
theorem dX12_readsSlot_6 : decode cX12_readsSlot 6 = .ok (.if_icmp .ge 23, 3) := by decide +kernel
theorem dX12_readsSlot_9 : decode cX12_readsSlot 9 = .ok (.aload_n 0, 1) := by decide +kernel
theorem dX12_readsSlot_10 : decode cX12_readsSlot 10 = .ok (.getfield 58, 3) := by decide +kernel
theorem dX12_readsSlot_13 : decode cX12_readsSlot 13 = .ok (.iload_n 2, 1) := by decide +kernel
theorem dX12_readsSlot_14 : decode cX12_readsSlot 14 = .ok (.aload_n 0, 1) := by decide +kernel
theorem dX12_readsSlot_15 : decode cX12_readsSlot 15 = .ok (.getfield 52, 3) := by decide +kernel
theorem dX12_readsSlot_18 : decode cX12_readsSlot 18 = .ok (.iload_n 1, 1) := by decide +kernel
theorem dX12_readsSlot_19 : decode cX12_readsSlot 19 = .ok (.aaload, 1) := by decide +kernel
theorem dX12_readsSlot_20 : decode cX12_readsSlot 20 = .ok (.iload_n 2, 1) := by decide +kernel
theorem dX12_readsSlot_21 : decode cX12_readsSlot 21 = .ok (.baload, 1) := by decide +kernel
theorem dX12_readsSlot_22 : decode cX12_readsSlot 22 = .ok (.bastore, 1) := by decide +kernel
theorem dX12_readsSlot_23 : decode cX12_readsSlot 23 = .ok (.iinc 2 1, 3) := by decide +kernel
theorem dX12_readsSlot_26 : decode cX12_readsSlot 26 = .ok (.goto (-24), 3) := by decide +kernel
theorem dX12_readsSlot_29 : decode cX12_readsSlot 29 = .ok (.return_, 1) := by decide +kernel
theorem dX12_turns_0 : decode cX12_turns 0 = .ok (.iconst 0, 1) := by decide +kernel
theorem dX12_turns_1 : decode cX12_turns 1 = .ok (.istore_n 1, 1) := by decide +kernel
theorem dX12_turns_2 : decode cX12_turns 2 = .ok (.iload_n 1, 1) := by decide +kernel
theorem dX12_turns_3 : decode cX12_turns 3 = .ok (.aload_n 0, 1) := by decide +kernel
theorem dX12_turns_4 : decode cX12_turns 4 = .ok (.invokevirtual 98, 3) := by decide +kernel
theorem dX12_turns_7 : decode cX12_turns 7 = .ok (.if_icmp .ge 61, 3) := by decide +kernel
theorem dX12_turns_10 : decode cX12_turns 10 = .ok (.iconst 0, 1) := by decide +kernel
theorem dX12_turns_11 : decode cX12_turns 11 = .ok (.istore_n 2, 1) := by decide +kernel
theorem dX12_turns_12 : decode cX12_turns 12 = .ok (.iconst 0, 1) := by decide +kernel
theorem dX12_turns_13 : decode cX12_turns 13 = .ok (.istore_n 3, 1) := by decide +kernel
theorem dX12_turns_14 : decode cX12_turns 14 = .ok (.iload_n 3, 1) := by decide +kernel
theorem dX12_turns_15 : decode cX12_turns 15 = .ok (.aload_n 0, 1) := by decide +kernel
theorem dX12_turns_16 : decode cX12_turns 16 = .ok (.getfield 64, 3) := by decide +kernel
theorem dX12_turns_19 : decode cX12_turns 19 = .ok (.if_icmp .ge 31, 3) := by decide +kernel
theorem dX12_turns_22 : decode cX12_turns 22 = .ok (.iload_n 2, 1) := by decide +kernel
theorem dX12_turns_23 : decode cX12_turns 23 = .ok (.iload_n 1, 1) := by decide +kernel
theorem dX12_turns_24 : decode cX12_turns 24 = .ok (.aload_n 0, 1) := by decide +kernel
theorem dX12_turns_25 : decode cX12_turns 25 = .ok (.getfield 64, 3) := by decide +kernel
theorem dX12_turns_28 : decode cX12_turns 28 = .ok (.iconst 1, 1) := by decide +kernel
theorem dX12_turns_29 : decode cX12_turns 29 = .ok (.isub, 1) := by decide +kernel
theorem dX12_turns_30 : decode cX12_turns 30 = .ok (.iload_n 3, 1) := by decide +kernel
theorem dX12_turns_31 : decode cX12_turns 31 = .ok (.isub, 1) := by decide +kernel
theorem dX12_turns_32 : decode cX12_turns 32 = .ok (.ishr, 1) := by decide +kernel
theorem dX12_turns_33 : decode cX12_turns 33 = .ok (.iconst 1, 1) := by decide +kernel
theorem dX12_turns_34 : decode cX12_turns 34 = .ok (.iand, 1) := by decide +kernel
theorem dX12_turns_35 : decode cX12_turns 35 = .ok (.aload_n 0, 1) := by decide +kernel
theorem dX12_turns_36 : decode cX12_turns 36 = .ok (.getfield 27, 3) := by decide +kernel
theorem dX12_turns_39 : decode cX12_turns 39 = .ok (.iload_n 3, 1) := by decide +kernel
theorem dX12_turns_40 : decode cX12_turns 40 = .ok (.iaload, 1) := by decide +kernel
theorem dX12_turns_41 : decode cX12_turns 41 = .ok (.ishl, 1) := by decide +kernel
theorem dX12_turns_42 : decode cX12_turns 42 = .ok (.ior, 1) := by decide +kernel
theorem dX12_turns_43 : decode cX12_turns 43 = .ok (.istore_n 2, 1) := by decide +kernel
theorem dX12_turns_44 : decode cX12_turns 44 = .ok (.iinc 3 1, 3) := by decide +kernel
theorem dX12_turns_47 : decode cX12_turns 47 = .ok (.goto (-33), 3) := by decide +kernel
theorem dX12_turns_50 : decode cX12_turns 50 = .ok (.aload_n 0, 1) := by decide +kernel
theorem dX12_turns_51 : decode cX12_turns 51 = .ok (.getfield 61, 3) := by decide +kernel
theorem dX12_turns_54 : decode cX12_turns 54 = .ok (.iload_n 1, 1) := by decide +kernel
theorem dX12_turns_55 : decode cX12_turns 55 = .ok (.aload_n 0, 1) := by decide +kernel
theorem dX12_turns_56 : decode cX12_turns 56 = .ok (.getfield 58, 3) := by decide +kernel
theorem dX12_turns_59 : decode cX12_turns 59 = .ok (.iload_n 2, 1) := by decide +kernel
theorem dX12_turns_60 : decode cX12_turns 60 = .ok (.baload, 1) := by decide +kernel
theorem dX12_turns_61 : decode cX12_turns 61 = .ok (.bastore, 1) := by decide +kernel
theorem dX12_turns_62 : decode cX12_turns 62 = .ok (.iinc 1 1, 3) := by decide +kernel
theorem dX12_turns_65 : decode cX12_turns 65 = .ok (.goto (-63), 3) := by decide +kernel
theorem dX12_turns_68 : decode cX12_turns 68 = .ok (.return_, 1) := by decide +kernel
theorem dX12_areLike_0 : decode cX12_areLike 0 = .ok (.iconst 1, 1) := by decide +kernel
theorem dX12_areLike_1 : decode cX12_areLike 1 = .ok (.istore 4, 2) := by decide +kernel
theorem dX12_areLike_3 : decode cX12_areLike 3 = .ok (.iconst 0, 1) := by decide +kernel
theorem dX12_areLike_4 : decode cX12_areLike 4 = .ok (.istore 5, 2) := by decide +kernel
theorem dX12_areLike_6 : decode cX12_areLike 6 = .ok (.iload 4, 2) := by decide +kernel
theorem dX12_areLike_8 : decode cX12_areLike 8 = .ok (.ifCond .eq 43, 3) := by decide +kernel
theorem dX12_areLike_11 : decode cX12_areLike 11 = .ok (.iload 5, 2) := by decide +kernel
theorem dX12_areLike_13 : decode cX12_areLike 13 = .ok (.iload_n 3, 1) := by decide +kernel
theorem dX12_areLike_14 : decode cX12_areLike 14 = .ok (.if_icmp .ge 37, 3) := by decide +kernel
theorem dX12_areLike_17 : decode cX12_areLike 17 = .ok (.aload_n 0, 1) := by decide +kernel
theorem dX12_areLike_18 : decode cX12_areLike 18 = .ok (.getfield 61, 3) := by decide +kernel
theorem dX12_areLike_21 : decode cX12_areLike 21 = .ok (.iload_n 1, 1) := by decide +kernel
theorem dX12_areLike_22 : decode cX12_areLike 22 = .ok (.iload 5, 2) := by decide +kernel
theorem dX12_areLike_24 : decode cX12_areLike 24 = .ok (.iadd, 1) := by decide +kernel
theorem dX12_areLike_25 : decode cX12_areLike 25 = .ok (.baload, 1) := by decide +kernel
theorem dX12_areLike_26 : decode cX12_areLike 26 = .ok (.aload_n 0, 1) := by decide +kernel
theorem dX12_areLike_27 : decode cX12_areLike 27 = .ok (.getfield 61, 3) := by decide +kernel
theorem dX12_areLike_30 : decode cX12_areLike 30 = .ok (.iload_n 2, 1) := by decide +kernel
theorem dX12_areLike_31 : decode cX12_areLike 31 = .ok (.iload 5, 2) := by decide +kernel
theorem dX12_areLike_33 : decode cX12_areLike 33 = .ok (.iadd, 1) := by decide +kernel
theorem dX12_areLike_34 : decode cX12_areLike 34 = .ok (.baload, 1) := by decide +kernel
theorem dX12_areLike_35 : decode cX12_areLike 35 = .ok (.if_icmp .ne 7, 3) := by decide +kernel
theorem dX12_areLike_38 : decode cX12_areLike 38 = .ok (.iconst 1, 1) := by decide +kernel
theorem dX12_areLike_39 : decode cX12_areLike 39 = .ok (.goto 4, 3) := by decide +kernel
theorem dX12_areLike_42 : decode cX12_areLike 42 = .ok (.iconst 0, 1) := by decide +kernel
theorem dX12_areLike_43 : decode cX12_areLike 43 = .ok (.istore 4, 2) := by decide +kernel
theorem dX12_areLike_45 : decode cX12_areLike 45 = .ok (.iinc 5 1, 3) := by decide +kernel
theorem dX12_areLike_48 : decode cX12_areLike 48 = .ok (.goto (-42), 3) := by decide +kernel
theorem dX12_areLike_51 : decode cX12_areLike 51 = .ok (.iload 4, 2) := by decide +kernel
theorem dX12_areLike_53 : decode cX12_areLike 53 = .ok (.ireturn, 1) := by decide +kernel
theorem dX12_nodesAt_0 : decode cX12_nodesAt 0 = .ok (.iconst 1, 1) := by decide +kernel
theorem dX12_nodesAt_1 : decode cX12_nodesAt 1 = .ok (.aload_n 0, 1) := by decide +kernel
theorem dX12_nodesAt_2 : decode cX12_nodesAt 2 = .ok (.getfield 64, 3) := by decide +kernel
theorem dX12_nodesAt_5 : decode cX12_nodesAt 5 = .ok (.iload_n 1, 1) := by decide +kernel
theorem dX12_nodesAt_6 : decode cX12_nodesAt 6 = .ok (.isub, 1) := by decide +kernel
theorem dX12_nodesAt_7 : decode cX12_nodesAt 7 = .ok (.ishl, 1) := by decide +kernel
theorem dX12_nodesAt_8 : decode cX12_nodesAt 8 = .ok (.istore_n 2, 1) := by decide +kernel
theorem dX12_nodesAt_9 : decode cX12_nodesAt 9 = .ok (.iconst 0, 1) := by decide +kernel
theorem dX12_nodesAt_10 : decode cX12_nodesAt 10 = .ok (.istore_n 3, 1) := by decide +kernel
theorem dX12_nodesAt_11 : decode cX12_nodesAt 11 = .ok (.iconst 0, 1) := by decide +kernel
theorem dX12_nodesAt_12 : decode cX12_nodesAt 12 = .ok (.istore 4, 2) := by decide +kernel
theorem dX12_nodesAt_14 : decode cX12_nodesAt 14 = .ok (.iload 4, 2) := by decide +kernel
theorem dX12_nodesAt_16 : decode cX12_nodesAt 16 = .ok (.aload_n 0, 1) := by decide +kernel
theorem dX12_nodesAt_17 : decode cX12_nodesAt 17 = .ok (.invokevirtual 98, 3) := by decide +kernel
theorem dX12_nodesAt_20 : decode cX12_nodesAt 20 = .ok (.if_icmp .ge 93, 3) := by decide +kernel
theorem dX12_nodesAt_23 : decode cX12_nodesAt 23 = .ok (.aload_n 0, 1) := by decide +kernel
theorem dX12_nodesAt_24 : decode cX12_nodesAt 24 = .ok (.iload 4, 2) := by decide +kernel
theorem dX12_nodesAt_26 : decode cX12_nodesAt 26 = .ok (.iload 4, 2) := by decide +kernel
theorem dX12_nodesAt_28 : decode cX12_nodesAt 28 = .ok (.iload_n 2, 1) := by decide +kernel
theorem dX12_nodesAt_29 : decode cX12_nodesAt 29 = .ok (.iconst 2, 1) := by decide +kernel
theorem dX12_nodesAt_30 : decode cX12_nodesAt 30 = .ok (.idiv, 1) := by decide +kernel
theorem dX12_nodesAt_31 : decode cX12_nodesAt 31 = .ok (.iadd, 1) := by decide +kernel
theorem dX12_nodesAt_32 : decode cX12_nodesAt 32 = .ok (.iload_n 2, 1) := by decide +kernel
theorem dX12_nodesAt_33 : decode cX12_nodesAt 33 = .ok (.iconst 2, 1) := by decide +kernel
theorem dX12_nodesAt_34 : decode cX12_nodesAt 34 = .ok (.idiv, 1) := by decide +kernel
theorem dX12_nodesAt_35 : decode cX12_nodesAt 35 = .ok (.invokevirtual 141, 3) := by decide +kernel
theorem dX12_nodesAt_38 : decode cX12_nodesAt 38 = .ok (.ifCond .ne 7, 3) := by decide +kernel
theorem dX12_nodesAt_41 : decode cX12_nodesAt 41 = .ok (.iconst 1, 1) := by decide +kernel
theorem dX12_nodesAt_42 : decode cX12_nodesAt 42 = .ok (.goto 4, 3) := by decide +kernel
theorem dX12_nodesAt_45 : decode cX12_nodesAt 45 = .ok (.iconst 0, 1) := by decide +kernel
theorem dX12_nodesAt_46 : decode cX12_nodesAt 46 = .ok (.istore 5, 2) := by decide +kernel
theorem dX12_nodesAt_48 : decode cX12_nodesAt 48 = .ok (.iconst 0, 1) := by decide +kernel
theorem dX12_nodesAt_49 : decode cX12_nodesAt 49 = .ok (.istore 6, 2) := by decide +kernel
theorem dX12_nodesAt_51 : decode cX12_nodesAt 51 = .ok (.iload 5, 2) := by decide +kernel
theorem dX12_nodesAt_53 : decode cX12_nodesAt 53 = .ok (.ifCond .eq 38, 3) := by decide +kernel
theorem dX12_nodesAt_56 : decode cX12_nodesAt 56 = .ok (.iload 6, 2) := by decide +kernel
theorem dX12_nodesAt_58 : decode cX12_nodesAt 58 = .ok (.iload 4, 2) := by decide +kernel
theorem dX12_nodesAt_60 : decode cX12_nodesAt 60 = .ok (.if_icmp .ge 31, 3) := by decide +kernel
theorem dX12_nodesAt_63 : decode cX12_nodesAt 63 = .ok (.aload_n 0, 1) := by decide +kernel
theorem dX12_nodesAt_64 : decode cX12_nodesAt 64 = .ok (.iload 6, 2) := by decide +kernel
theorem dX12_nodesAt_66 : decode cX12_nodesAt 66 = .ok (.iload 4, 2) := by decide +kernel
theorem dX12_nodesAt_68 : decode cX12_nodesAt 68 = .ok (.iload_n 2, 1) := by decide +kernel
theorem dX12_nodesAt_69 : decode cX12_nodesAt 69 = .ok (.invokevirtual 141, 3) := by decide +kernel
theorem dX12_nodesAt_72 : decode cX12_nodesAt 72 = .ok (.ifCond .ne 7, 3) := by decide +kernel
theorem dX12_nodesAt_75 : decode cX12_nodesAt 75 = .ok (.iconst 1, 1) := by decide +kernel
theorem dX12_nodesAt_76 : decode cX12_nodesAt 76 = .ok (.goto 4, 3) := by decide +kernel
theorem dX12_nodesAt_79 : decode cX12_nodesAt 79 = .ok (.iconst 0, 1) := by decide +kernel
theorem dX12_nodesAt_80 : decode cX12_nodesAt 80 = .ok (.istore 5, 2) := by decide +kernel
theorem dX12_nodesAt_82 : decode cX12_nodesAt 82 = .ok (.iload 6, 2) := by decide +kernel
theorem dX12_nodesAt_84 : decode cX12_nodesAt 84 = .ok (.iload_n 2, 1) := by decide +kernel
theorem dX12_nodesAt_85 : decode cX12_nodesAt 85 = .ok (.iadd, 1) := by decide +kernel
theorem dX12_nodesAt_86 : decode cX12_nodesAt 86 = .ok (.istore 6, 2) := by decide +kernel
theorem dX12_nodesAt_88 : decode cX12_nodesAt 88 = .ok (.goto (-37), 3) := by decide +kernel
theorem dX12_nodesAt_91 : decode cX12_nodesAt 91 = .ok (.iload_n 3, 1) := by decide +kernel
theorem dX12_nodesAt_92 : decode cX12_nodesAt 92 = .ok (.iload 5, 2) := by decide +kernel
theorem dX12_nodesAt_94 : decode cX12_nodesAt 94 = .ok (.ifCond .eq 7, 3) := by decide +kernel
theorem dX12_nodesAt_97 : decode cX12_nodesAt 97 = .ok (.iconst 1, 1) := by decide +kernel
theorem dX12_nodesAt_98 : decode cX12_nodesAt 98 = .ok (.goto 4, 3) := by decide +kernel
theorem dX12_nodesAt_101 : decode cX12_nodesAt 101 = .ok (.iconst 0, 1) := by decide +kernel
theorem dX12_nodesAt_102 : decode cX12_nodesAt 102 = .ok (.iadd, 1) := by decide +kernel
theorem dX12_nodesAt_103 : decode cX12_nodesAt 103 = .ok (.istore_n 3, 1) := by decide +kernel
theorem dX12_nodesAt_104 : decode cX12_nodesAt 104 = .ok (.iload 4, 2) := by decide +kernel
theorem dX12_nodesAt_106 : decode cX12_nodesAt 106 = .ok (.iload_n 2, 1) := by decide +kernel
theorem dX12_nodesAt_107 : decode cX12_nodesAt 107 = .ok (.iadd, 1) := by decide +kernel
theorem dX12_nodesAt_108 : decode cX12_nodesAt 108 = .ok (.istore 4, 2) := by decide +kernel
theorem dX12_nodesAt_110 : decode cX12_nodesAt 110 = .ok (.goto (-96), 3) := by decide +kernel
theorem dX12_nodesAt_113 : decode cX12_nodesAt 113 = .ok (.iload_n 3, 1) := by decide +kernel
theorem dX12_nodesAt_114 : decode cX12_nodesAt 114 = .ok (.ireturn, 1) := by decide +kernel
theorem dX12_nodesOfRow_0 : decode cX12_nodesOfRow 0 = .ok (.aload_n 0, 1) := by decide +kernel
theorem dX12_nodesOfRow_1 : decode cX12_nodesOfRow 1 = .ok (.invokevirtual 144, 3) := by decide +kernel
theorem dX12_nodesOfRow_4 : decode cX12_nodesOfRow 4 = .ok (.iconst 0, 1) := by decide +kernel
theorem dX12_nodesOfRow_5 : decode cX12_nodesOfRow 5 = .ok (.istore_n 1, 1) := by decide +kernel
theorem dX12_nodesOfRow_6 : decode cX12_nodesOfRow 6 = .ok (.iconst 0, 1) := by decide +kernel
theorem dX12_nodesOfRow_7 : decode cX12_nodesOfRow 7 = .ok (.istore_n 2, 1) := by decide +kernel
theorem dX12_nodesOfRow_8 : decode cX12_nodesOfRow 8 = .ok (.iload_n 2, 1) := by decide +kernel
theorem dX12_nodesOfRow_9 : decode cX12_nodesOfRow 9 = .ok (.aload_n 0, 1) := by decide +kernel
theorem dX12_nodesOfRow_10 : decode cX12_nodesOfRow 10 = .ok (.getfield 64, 3) := by decide +kernel
theorem dX12_nodesOfRow_13 : decode cX12_nodesOfRow 13 = .ok (.if_icmp .ge 17, 3) := by decide +kernel
theorem dX12_nodesOfRow_16 : decode cX12_nodesOfRow 16 = .ok (.iload_n 1, 1) := by decide +kernel
theorem dX12_nodesOfRow_17 : decode cX12_nodesOfRow 17 = .ok (.aload_n 0, 1) := by decide +kernel
theorem dX12_nodesOfRow_18 : decode cX12_nodesOfRow 18 = .ok (.iload_n 2, 1) := by decide +kernel
theorem dX12_nodesOfRow_19 : decode cX12_nodesOfRow 19 = .ok (.invokevirtual 147, 3) := by decide +kernel
theorem dX12_nodesOfRow_22 : decode cX12_nodesOfRow 22 = .ok (.iadd, 1) := by decide +kernel
theorem dX12_nodesOfRow_23 : decode cX12_nodesOfRow 23 = .ok (.istore_n 1, 1) := by decide +kernel
theorem dX12_nodesOfRow_24 : decode cX12_nodesOfRow 24 = .ok (.iinc 2 1, 3) := by decide +kernel
theorem dX12_nodesOfRow_27 : decode cX12_nodesOfRow 27 = .ok (.goto (-19), 3) := by decide +kernel
theorem dX12_nodesOfRow_30 : decode cX12_nodesOfRow 30 = .ok (.iload_n 1, 1) := by decide +kernel
theorem dX12_nodesOfRow_31 : decode cX12_nodesOfRow 31 = .ok (.ireturn, 1) := by decide +kernel
theorem dX12_nodes_0 : decode cX12_nodes 0 = .ok (.aload_n 0, 1) := by decide +kernel
theorem dX12_nodes_1 : decode cX12_nodes 1 = .ok (.iconst 0, 1) := by decide +kernel
theorem dX12_nodes_2 : decode cX12_nodes 2 = .ok (.putfield 1, 3) := by decide +kernel
theorem dX12_nodes_5 : decode cX12_nodes 5 = .ok (.aload_n 0, 1) := by decide +kernel
theorem dX12_nodes_6 : decode cX12_nodes 6 = .ok (.invokevirtual 150, 3) := by decide +kernel
theorem dX12_nodes_9 : decode cX12_nodes 9 = .ok (.aload_n 0, 1) := by decide +kernel
theorem dX12_nodes_10 : decode cX12_nodes 10 = .ok (.invokevirtual 153, 3) := by decide +kernel
theorem dX12_nodes_13 : decode cX12_nodes 13 = .ok (.ireturn, 1) := by decide +kernel
theorem dX12_nodesFor_0 : decode cX12_nodesFor 0 = .ok (.aload_n 0, 1) := by decide +kernel
theorem dX12_nodesFor_1 : decode cX12_nodesFor 1 = .ok (.iconst 0, 1) := by decide +kernel
theorem dX12_nodesFor_2 : decode cX12_nodesFor 2 = .ok (.putfield 1, 3) := by decide +kernel
theorem dX12_nodesFor_5 : decode cX12_nodesFor 5 = .ok (.aload_n 0, 1) := by decide +kernel
theorem dX12_nodesFor_6 : decode cX12_nodesFor 6 = .ok (.iload_n 1, 1) := by decide +kernel
theorem dX12_nodesFor_7 : decode cX12_nodesFor 7 = .ok (.invokevirtual 75, 3) := by decide +kernel
theorem dX12_nodesFor_10 : decode cX12_nodesFor 10 = .ok (.ifCond .ne 9, 3) := by decide +kernel
theorem dX12_nodesFor_13 : decode cX12_nodesFor 13 = .ok (.aload_n 0, 1) := by decide +kernel
theorem dX12_nodesFor_14 : decode cX12_nodesFor 14 = .ok (.iconst 1, 1) := by decide +kernel
theorem dX12_nodesFor_15 : decode cX12_nodesFor 15 = .ok (.invokevirtual 71, 3) := by decide +kernel
theorem dX12_nodesFor_18 : decode cX12_nodesFor 18 = .ok (.ireturn, 1) := by decide +kernel
theorem dX12_nodesFor_19 : decode cX12_nodesFor 19 = .ok (.aload_n 0, 1) := by decide +kernel
theorem dX12_nodesFor_20 : decode cX12_nodesFor 20 = .ok (.invokevirtual 150, 3) := by decide +kernel
theorem dX12_nodesFor_23 : decode cX12_nodesFor 23 = .ok (.aload_n 0, 1) := by decide +kernel
theorem dX12_nodesFor_24 : decode cX12_nodesFor 24 = .ok (.invokevirtual 144, 3) := by decide +kernel
theorem dX12_nodesFor_27 : decode cX12_nodesFor 27 = .ok (.iconst 0, 1) := by decide +kernel
theorem dX12_nodesFor_28 : decode cX12_nodesFor 28 = .ok (.istore_n 2, 1) := by decide +kernel
theorem dX12_nodesFor_29 : decode cX12_nodesFor 29 = .ok (.iconst 0, 1) := by decide +kernel
theorem dX12_nodesFor_30 : decode cX12_nodesFor 30 = .ok (.istore_n 3, 1) := by decide +kernel
theorem dX12_nodesFor_31 : decode cX12_nodesFor 31 = .ok (.iload_n 3, 1) := by decide +kernel
theorem dX12_nodesFor_32 : decode cX12_nodesFor 32 = .ok (.aload_n 0, 1) := by decide +kernel
theorem dX12_nodesFor_33 : decode cX12_nodesFor 33 = .ok (.getfield 64, 3) := by decide +kernel
theorem dX12_nodesFor_36 : decode cX12_nodesFor 36 = .ok (.if_icmp .ge 31, 3) := by decide +kernel
theorem dX12_nodesFor_39 : decode cX12_nodesFor 39 = .ok (.iload_n 2, 1) := by decide +kernel
theorem dX12_nodesFor_40 : decode cX12_nodesFor 40 = .ok (.aload_n 0, 1) := by decide +kernel
theorem dX12_nodesFor_41 : decode cX12_nodesFor 41 = .ok (.getfield 27, 3) := by decide +kernel
theorem dX12_nodesFor_44 : decode cX12_nodesFor 44 = .ok (.iload_n 3, 1) := by decide +kernel
theorem dX12_nodesFor_45 : decode cX12_nodesFor 45 = .ok (.iaload, 1) := by decide +kernel
theorem dX12_nodesFor_46 : decode cX12_nodesFor 46 = .ok (.iload_n 1, 1) := by decide +kernel
theorem dX12_nodesFor_47 : decode cX12_nodesFor 47 = .ok (.if_icmp .ne 11, 3) := by decide +kernel
theorem dX12_nodesFor_50 : decode cX12_nodesFor 50 = .ok (.aload_n 0, 1) := by decide +kernel
theorem dX12_nodesFor_51 : decode cX12_nodesFor 51 = .ok (.iload_n 3, 1) := by decide +kernel
theorem dX12_nodesFor_52 : decode cX12_nodesFor 52 = .ok (.invokevirtual 147, 3) := by decide +kernel
theorem dX12_nodesFor_55 : decode cX12_nodesFor 55 = .ok (.goto 4, 3) := by decide +kernel
theorem dX12_nodesFor_58 : decode cX12_nodesFor 58 = .ok (.iconst 0, 1) := by decide +kernel
theorem dX12_nodesFor_59 : decode cX12_nodesFor 59 = .ok (.iadd, 1) := by decide +kernel
theorem dX12_nodesFor_60 : decode cX12_nodesFor 60 = .ok (.istore_n 2, 1) := by decide +kernel
theorem dX12_nodesFor_61 : decode cX12_nodesFor 61 = .ok (.iinc 3 1, 3) := by decide +kernel
theorem dX12_nodesFor_64 : decode cX12_nodesFor 64 = .ok (.goto (-33), 3) := by decide +kernel
theorem dX12_nodesFor_67 : decode cX12_nodesFor 67 = .ok (.iload_n 2, 1) := by decide +kernel
theorem dX12_nodesFor_68 : decode cX12_nodesFor 68 = .ok (.ireturn, 1) := by decide +kernel
theorem dX12_waysFrom_0 : decode cX12_waysFrom 0 = .ok (.iload_n 2, 1) := by decide +kernel
theorem dX12_waysFrom_1 : decode cX12_waysFrom 1 = .ok (.iconst 1, 1) := by decide +kernel
theorem dX12_waysFrom_2 : decode cX12_waysFrom 2 = .ok (.if_icmp .ne 18, 3) := by decide +kernel
theorem dX12_waysFrom_5 : decode cX12_waysFrom 5 = .ok (.aload_n 0, 1) := by decide +kernel
theorem dX12_waysFrom_6 : decode cX12_waysFrom 6 = .ok (.getfield 61, 3) := by decide +kernel
theorem dX12_waysFrom_9 : decode cX12_waysFrom 9 = .ok (.iload_n 1, 1) := by decide +kernel
theorem dX12_waysFrom_10 : decode cX12_waysFrom 10 = .ok (.baload, 1) := by decide +kernel
theorem dX12_waysFrom_11 : decode cX12_waysFrom 11 = .ok (.ifCond .eq 7, 3) := by decide +kernel
theorem dX12_waysFrom_14 : decode cX12_waysFrom 14 = .ok (.lconst 1, 1) := by decide +kernel
theorem dX12_waysFrom_15 : decode cX12_waysFrom 15 = .ok (.goto 4, 3) := by decide +kernel
theorem dX12_waysFrom_18 : decode cX12_waysFrom 18 = .ok (.lconst 0, 1) := by decide +kernel
theorem dX12_waysFrom_19 : decode cX12_waysFrom 19 = .ok (.lreturn, 1) := by decide +kernel
theorem dX12_waysFrom_20 : decode cX12_waysFrom 20 = .ok (.iload_n 2, 1) := by decide +kernel
theorem dX12_waysFrom_21 : decode cX12_waysFrom 21 = .ok (.iconst 2, 1) := by decide +kernel
theorem dX12_waysFrom_22 : decode cX12_waysFrom 22 = .ok (.idiv, 1) := by decide +kernel
theorem dX12_waysFrom_23 : decode cX12_waysFrom 23 = .ok (.istore_n 3, 1) := by decide +kernel
theorem dX12_waysFrom_24 : decode cX12_waysFrom 24 = .ok (.aload_n 0, 1) := by decide +kernel
theorem dX12_waysFrom_25 : decode cX12_waysFrom 25 = .ok (.iload_n 1, 1) := by decide +kernel
theorem dX12_waysFrom_26 : decode cX12_waysFrom 26 = .ok (.iload_n 3, 1) := by decide +kernel
theorem dX12_waysFrom_27 : decode cX12_waysFrom 27 = .ok (.invokevirtual 156, 3) := by decide +kernel
theorem dX12_waysFrom_30 : decode cX12_waysFrom 30 = .ok (.lstore 4, 2) := by decide +kernel
theorem dX12_waysFrom_32 : decode cX12_waysFrom 32 = .ok (.aload_n 0, 1) := by decide +kernel
theorem dX12_waysFrom_33 : decode cX12_waysFrom 33 = .ok (.iload_n 1, 1) := by decide +kernel
theorem dX12_waysFrom_34 : decode cX12_waysFrom 34 = .ok (.iload_n 1, 1) := by decide +kernel
theorem dX12_waysFrom_35 : decode cX12_waysFrom 35 = .ok (.iload_n 3, 1) := by decide +kernel
theorem dX12_waysFrom_36 : decode cX12_waysFrom 36 = .ok (.iadd, 1) := by decide +kernel
theorem dX12_waysFrom_37 : decode cX12_waysFrom 37 = .ok (.iload_n 3, 1) := by decide +kernel
theorem dX12_waysFrom_38 : decode cX12_waysFrom 38 = .ok (.invokevirtual 141, 3) := by decide +kernel
theorem dX12_waysFrom_41 : decode cX12_waysFrom 41 = .ok (.ifCond .eq 8, 3) := by decide +kernel
theorem dX12_waysFrom_44 : decode cX12_waysFrom 44 = .ok (.lload 4, 2) := by decide +kernel
theorem dX12_waysFrom_46 : decode cX12_waysFrom 46 = .ok (.goto 14, 3) := by decide +kernel
theorem dX12_waysFrom_49 : decode cX12_waysFrom 49 = .ok (.lload 4, 2) := by decide +kernel
theorem dX12_waysFrom_51 : decode cX12_waysFrom 51 = .ok (.aload_n 0, 1) := by decide +kernel
theorem dX12_waysFrom_52 : decode cX12_waysFrom 52 = .ok (.iload_n 1, 1) := by decide +kernel
theorem dX12_waysFrom_53 : decode cX12_waysFrom 53 = .ok (.iload_n 3, 1) := by decide +kernel
theorem dX12_waysFrom_54 : decode cX12_waysFrom 54 = .ok (.iadd, 1) := by decide +kernel
theorem dX12_waysFrom_55 : decode cX12_waysFrom 55 = .ok (.iload_n 3, 1) := by decide +kernel
theorem dX12_waysFrom_56 : decode cX12_waysFrom 56 = .ok (.invokevirtual 156, 3) := by decide +kernel
theorem dX12_waysFrom_59 : decode cX12_waysFrom 59 = .ok (.ladd, 1) := by decide +kernel
theorem dX12_waysFrom_60 : decode cX12_waysFrom 60 = .ok (.lreturn, 1) := by decide +kernel
theorem dX12_ways_0 : decode cX12_ways 0 = .ok (.aload_n 0, 1) := by decide +kernel
theorem dX12_ways_1 : decode cX12_ways 1 = .ok (.iconst 0, 1) := by decide +kernel
theorem dX12_ways_2 : decode cX12_ways 2 = .ok (.putfield 1, 3) := by decide +kernel
theorem dX12_ways_5 : decode cX12_ways 5 = .ok (.aload_n 0, 1) := by decide +kernel
theorem dX12_ways_6 : decode cX12_ways 6 = .ok (.invokevirtual 150, 3) := by decide +kernel
theorem dX12_ways_9 : decode cX12_ways 9 = .ok (.aload_n 0, 1) := by decide +kernel
theorem dX12_ways_10 : decode cX12_ways 10 = .ok (.invokevirtual 144, 3) := by decide +kernel
theorem dX12_ways_13 : decode cX12_ways 13 = .ok (.aload_n 0, 1) := by decide +kernel
theorem dX12_ways_14 : decode cX12_ways 14 = .ok (.iconst 0, 1) := by decide +kernel
theorem dX12_ways_15 : decode cX12_ways 15 = .ok (.aload_n 0, 1) := by decide +kernel
theorem dX12_ways_16 : decode cX12_ways 16 = .ok (.invokevirtual 98, 3) := by decide +kernel
theorem dX12_ways_19 : decode cX12_ways 19 = .ok (.invokevirtual 156, 3) := by decide +kernel
theorem dX12_ways_22 : decode cX12_ways 22 = .ok (.lreturn, 1) := by decide +kernel
theorem dX12_exchange_0 : decode cX12_exchange 0 = .ok (.aload_n 0, 1) := by decide +kernel
theorem dX12_exchange_1 : decode cX12_exchange 1 = .ok (.iconst 0, 1) := by decide +kernel
theorem dX12_exchange_2 : decode cX12_exchange 2 = .ok (.putfield 1, 3) := by decide +kernel
theorem dX12_exchange_5 : decode cX12_exchange 5 = .ok (.aload_n 0, 1) := by decide +kernel
theorem dX12_exchange_6 : decode cX12_exchange 6 = .ok (.iload_n 1, 1) := by decide +kernel
theorem dX12_exchange_7 : decode cX12_exchange 7 = .ok (.invokevirtual 75, 3) := by decide +kernel
theorem dX12_exchange_10 : decode cX12_exchange 10 = .ok (.ifCond .eq 11, 3) := by decide +kernel
theorem dX12_exchange_13 : decode cX12_exchange 13 = .ok (.aload_n 0, 1) := by decide +kernel
theorem dX12_exchange_14 : decode cX12_exchange 14 = .ok (.iload_n 2, 1) := by decide +kernel
theorem dX12_exchange_15 : decode cX12_exchange 15 = .ok (.invokevirtual 75, 3) := by decide +kernel
theorem dX12_exchange_18 : decode cX12_exchange 18 = .ok (.ifCond .ne 9, 3) := by decide +kernel
theorem dX12_exchange_21 : decode cX12_exchange 21 = .ok (.aload_n 0, 1) := by decide +kernel
theorem dX12_exchange_22 : decode cX12_exchange 22 = .ok (.iconst 1, 1) := by decide +kernel
theorem dX12_exchange_23 : decode cX12_exchange 23 = .ok (.invokevirtual 71, 3) := by decide +kernel
theorem dX12_exchange_26 : decode cX12_exchange 26 = .ok (.ireturn, 1) := by decide +kernel
theorem dX12_exchange_27 : decode cX12_exchange 27 = .ok (.aload_n 0, 1) := by decide +kernel
theorem dX12_exchange_28 : decode cX12_exchange 28 = .ok (.getfield 27, 3) := by decide +kernel
theorem dX12_exchange_31 : decode cX12_exchange 31 = .ok (.iload_n 1, 1) := by decide +kernel
theorem dX12_exchange_32 : decode cX12_exchange 32 = .ok (.iaload, 1) := by decide +kernel
theorem dX12_exchange_33 : decode cX12_exchange 33 = .ok (.istore_n 3, 1) := by decide +kernel
theorem dX12_exchange_34 : decode cX12_exchange 34 = .ok (.aload_n 0, 1) := by decide +kernel
theorem dX12_exchange_35 : decode cX12_exchange 35 = .ok (.getfield 27, 3) := by decide +kernel
theorem dX12_exchange_38 : decode cX12_exchange 38 = .ok (.iload_n 1, 1) := by decide +kernel
theorem dX12_exchange_39 : decode cX12_exchange 39 = .ok (.aload_n 0, 1) := by decide +kernel
theorem dX12_exchange_40 : decode cX12_exchange 40 = .ok (.getfield 27, 3) := by decide +kernel
theorem dX12_exchange_43 : decode cX12_exchange 43 = .ok (.iload_n 2, 1) := by decide +kernel
theorem dX12_exchange_44 : decode cX12_exchange 44 = .ok (.iaload, 1) := by decide +kernel
theorem dX12_exchange_45 : decode cX12_exchange 45 = .ok (.iastore, 1) := by decide +kernel
theorem dX12_exchange_46 : decode cX12_exchange 46 = .ok (.aload_n 0, 1) := by decide +kernel
theorem dX12_exchange_47 : decode cX12_exchange 47 = .ok (.getfield 27, 3) := by decide +kernel
theorem dX12_exchange_50 : decode cX12_exchange 50 = .ok (.iload_n 2, 1) := by decide +kernel
theorem dX12_exchange_51 : decode cX12_exchange 51 = .ok (.iload_n 3, 1) := by decide +kernel
theorem dX12_exchange_52 : decode cX12_exchange 52 = .ok (.iastore, 1) := by decide +kernel
theorem dX12_exchange_53 : decode cX12_exchange 53 = .ok (.aload_n 0, 1) := by decide +kernel
theorem dX12_exchange_54 : decode cX12_exchange 54 = .ok (.invokevirtual 159, 3) := by decide +kernel
theorem dX12_exchange_57 : decode cX12_exchange 57 = .ok (.ireturn, 1) := by decide +kernel
theorem dX12_orderAt_0 : decode cX12_orderAt 0 = .ok (.aload_n 0, 1) := by decide +kernel
theorem dX12_orderAt_1 : decode cX12_orderAt 1 = .ok (.iconst 0, 1) := by decide +kernel
theorem dX12_orderAt_2 : decode cX12_orderAt 2 = .ok (.putfield 1, 3) := by decide +kernel
theorem dX12_orderAt_5 : decode cX12_orderAt 5 = .ok (.aload_n 0, 1) := by decide +kernel
theorem dX12_orderAt_6 : decode cX12_orderAt 6 = .ok (.iload_n 1, 1) := by decide +kernel
theorem dX12_orderAt_7 : decode cX12_orderAt 7 = .ok (.invokevirtual 75, 3) := by decide +kernel
theorem dX12_orderAt_10 : decode cX12_orderAt 10 = .ok (.ifCond .eq 12, 3) := by decide +kernel
theorem dX12_orderAt_13 : decode cX12_orderAt 13 = .ok (.aload_n 0, 1) := by decide +kernel
theorem dX12_orderAt_14 : decode cX12_orderAt 14 = .ok (.getfield 27, 3) := by decide +kernel
theorem dX12_orderAt_17 : decode cX12_orderAt 17 = .ok (.iload_n 1, 1) := by decide +kernel
theorem dX12_orderAt_18 : decode cX12_orderAt 18 = .ok (.iaload, 1) := by decide +kernel
theorem dX12_orderAt_19 : decode cX12_orderAt 19 = .ok (.goto 8, 3) := by decide +kernel
theorem dX12_orderAt_22 : decode cX12_orderAt 22 = .ok (.aload_n 0, 1) := by decide +kernel
theorem dX12_orderAt_23 : decode cX12_orderAt 23 = .ok (.iconst 1, 1) := by decide +kernel
theorem dX12_orderAt_24 : decode cX12_orderAt 24 = .ok (.invokevirtual 71, 3) := by decide +kernel
theorem dX12_orderAt_27 : decode cX12_orderAt 27 = .ok (.ireturn, 1) := by decide +kernel
theorem dX12_isSlot_0 : decode cX12_isSlot 0 = .ok (.iload_n 0, 1) := by decide +kernel
theorem dX12_isSlot_1 : decode cX12_isSlot 1 = .ok (.iconst 0, 1) := by decide +kernel
theorem dX12_isSlot_2 : decode cX12_isSlot 2 = .ok (.iconst 3, 1) := by decide +kernel
theorem dX12_isSlot_3 : decode cX12_isSlot 3 = .ok (.invokestatic 67, 3) := by decide +kernel
theorem dX12_isSlot_6 : decode cX12_isSlot 6 = .ok (.ireturn, 1) := by decide +kernel
theorem dX12_keep_0 : decode cX12_keep 0 = .ok (.aload_n 0, 1) := by decide +kernel
theorem dX12_keep_1 : decode cX12_keep 1 = .ok (.iconst 0, 1) := by decide +kernel
theorem dX12_keep_2 : decode cX12_keep 2 = .ok (.putfield 1, 3) := by decide +kernel
theorem dX12_keep_5 : decode cX12_keep 5 = .ok (.iload_n 1, 1) := by decide +kernel
theorem dX12_keep_6 : decode cX12_keep 6 = .ok (.invokestatic 162, 3) := by decide +kernel
theorem dX12_keep_9 : decode cX12_keep 9 = .ok (.ifCond .ne 9, 3) := by decide +kernel
theorem dX12_keep_12 : decode cX12_keep 12 = .ok (.aload_n 0, 1) := by decide +kernel
theorem dX12_keep_13 : decode cX12_keep 13 = .ok (.iconst 1, 1) := by decide +kernel
theorem dX12_keep_14 : decode cX12_keep 14 = .ok (.invokevirtual 71, 3) := by decide +kernel
theorem dX12_keep_17 : decode cX12_keep 17 = .ok (.ireturn, 1) := by decide +kernel
theorem dX12_keep_18 : decode cX12_keep 18 = .ok (.aload_n 0, 1) := by decide +kernel
theorem dX12_keep_19 : decode cX12_keep 19 = .ok (.invokevirtual 150, 3) := by decide +kernel
theorem dX12_keep_22 : decode cX12_keep 22 = .ok (.iconst 0, 1) := by decide +kernel
theorem dX12_keep_23 : decode cX12_keep 23 = .ok (.istore_n 2, 1) := by decide +kernel
theorem dX12_keep_24 : decode cX12_keep 24 = .ok (.iload_n 2, 1) := by decide +kernel
theorem dX12_keep_25 : decode cX12_keep 25 = .ok (.sipush 1024, 3) := by decide +kernel
theorem dX12_keep_28 : decode cX12_keep 28 = .ok (.if_icmp .ge 23, 3) := by decide +kernel
theorem dX12_keep_31 : decode cX12_keep 31 = .ok (.aload_n 0, 1) := by decide +kernel
theorem dX12_keep_32 : decode cX12_keep 32 = .ok (.getfield 52, 3) := by decide +kernel
theorem dX12_keep_35 : decode cX12_keep 35 = .ok (.iload_n 1, 1) := by decide +kernel
theorem dX12_keep_36 : decode cX12_keep 36 = .ok (.aaload, 1) := by decide +kernel
theorem dX12_keep_37 : decode cX12_keep 37 = .ok (.iload_n 2, 1) := by decide +kernel
theorem dX12_keep_38 : decode cX12_keep 38 = .ok (.aload_n 0, 1) := by decide +kernel
theorem dX12_keep_39 : decode cX12_keep 39 = .ok (.getfield 58, 3) := by decide +kernel
theorem dX12_keep_42 : decode cX12_keep 42 = .ok (.iload_n 2, 1) := by decide +kernel
theorem dX12_keep_43 : decode cX12_keep 43 = .ok (.baload, 1) := by decide +kernel
theorem dX12_keep_44 : decode cX12_keep 44 = .ok (.bastore, 1) := by decide +kernel
theorem dX12_keep_45 : decode cX12_keep 45 = .ok (.iinc 2 1, 3) := by decide +kernel
theorem dX12_keep_48 : decode cX12_keep 48 = .ok (.goto (-24), 3) := by decide +kernel
theorem dX12_keep_51 : decode cX12_keep 51 = .ok (.aload_n 0, 1) := by decide +kernel
theorem dX12_keep_52 : decode cX12_keep 52 = .ok (.getfield 55, 3) := by decide +kernel
theorem dX12_keep_55 : decode cX12_keep 55 = .ok (.iload_n 1, 1) := by decide +kernel
theorem dX12_keep_56 : decode cX12_keep 56 = .ok (.aload_n 0, 1) := by decide +kernel
theorem dX12_keep_57 : decode cX12_keep 57 = .ok (.getfield 64, 3) := by decide +kernel
theorem dX12_keep_60 : decode cX12_keep 60 = .ok (.iastore, 1) := by decide +kernel
theorem dX12_keep_61 : decode cX12_keep 61 = .ok (.aload_n 0, 1) := by decide +kernel
theorem dX12_keep_62 : decode cX12_keep 62 = .ok (.invokevirtual 153, 3) := by decide +kernel
theorem dX12_keep_65 : decode cX12_keep 65 = .ok (.ireturn, 1) := by decide +kernel
theorem dX12_join_0 : decode cX12_join 0 = .ok (.aload_n 0, 1) := by decide +kernel
theorem dX12_join_1 : decode cX12_join 1 = .ok (.iconst 0, 1) := by decide +kernel
theorem dX12_join_2 : decode cX12_join 2 = .ok (.putfield 1, 3) := by decide +kernel
theorem dX12_join_5 : decode cX12_join 5 = .ok (.iload_n 1, 1) := by decide +kernel
theorem dX12_join_6 : decode cX12_join 6 = .ok (.invokestatic 162, 3) := by decide +kernel
theorem dX12_join_9 : decode cX12_join 9 = .ok (.ifCond .eq 36, 3) := by decide +kernel
theorem dX12_join_12 : decode cX12_join 12 = .ok (.iload_n 2, 1) := by decide +kernel
theorem dX12_join_13 : decode cX12_join 13 = .ok (.invokestatic 162, 3) := by decide +kernel
theorem dX12_join_16 : decode cX12_join 16 = .ok (.ifCond .eq 29, 3) := by decide +kernel
theorem dX12_join_19 : decode cX12_join 19 = .ok (.iload 4, 2) := by decide +kernel
theorem dX12_join_21 : decode cX12_join 21 = .ok (.invokestatic 162, 3) := by decide +kernel
theorem dX12_join_24 : decode cX12_join 24 = .ok (.ifCond .eq 21, 3) := by decide +kernel
theorem dX12_join_27 : decode cX12_join 27 = .ok (.iload_n 3, 1) := by decide +kernel
theorem dX12_join_28 : decode cX12_join 28 = .ok (.bipush 97, 2) := by decide +kernel
theorem dX12_join_30 : decode cX12_join 30 = .ok (.if_icmp .eq 21, 3) := by decide +kernel
theorem dX12_join_33 : decode cX12_join 33 = .ok (.iload_n 3, 1) := by decide +kernel
theorem dX12_join_34 : decode cX12_join 34 = .ok (.bipush 111, 2) := by decide +kernel
theorem dX12_join_36 : decode cX12_join 36 = .ok (.if_icmp .eq 15, 3) := by decide +kernel
theorem dX12_join_39 : decode cX12_join 39 = .ok (.iload_n 3, 1) := by decide +kernel
theorem dX12_join_40 : decode cX12_join 40 = .ok (.bipush 120, 2) := by decide +kernel
theorem dX12_join_42 : decode cX12_join 42 = .ok (.if_icmp .eq 9, 3) := by decide +kernel
theorem dX12_join_45 : decode cX12_join 45 = .ok (.aload_n 0, 1) := by decide +kernel
theorem dX12_join_46 : decode cX12_join 46 = .ok (.iconst 1, 1) := by decide +kernel
theorem dX12_join_47 : decode cX12_join 47 = .ok (.invokevirtual 71, 3) := by decide +kernel
theorem dX12_join_50 : decode cX12_join 50 = .ok (.ireturn, 1) := by decide +kernel
theorem dX12_join_51 : decode cX12_join 51 = .ok (.aload_n 0, 1) := by decide +kernel
theorem dX12_join_52 : decode cX12_join 52 = .ok (.getfield 55, 3) := by decide +kernel
theorem dX12_join_55 : decode cX12_join 55 = .ok (.iload_n 1, 1) := by decide +kernel
theorem dX12_join_56 : decode cX12_join 56 = .ok (.iaload, 1) := by decide +kernel
theorem dX12_join_57 : decode cX12_join 57 = .ok (.ifCond .lt 12, 3) := by decide +kernel
theorem dX12_join_60 : decode cX12_join 60 = .ok (.aload_n 0, 1) := by decide +kernel
theorem dX12_join_61 : decode cX12_join 61 = .ok (.getfield 55, 3) := by decide +kernel
theorem dX12_join_64 : decode cX12_join 64 = .ok (.iload_n 2, 1) := by decide +kernel
theorem dX12_join_65 : decode cX12_join 65 = .ok (.iaload, 1) := by decide +kernel
theorem dX12_join_66 : decode cX12_join 66 = .ok (.ifCond .ge 9, 3) := by decide +kernel
theorem dX12_join_69 : decode cX12_join 69 = .ok (.aload_n 0, 1) := by decide +kernel
theorem dX12_join_70 : decode cX12_join 70 = .ok (.iconst 2, 1) := by decide +kernel
theorem dX12_join_71 : decode cX12_join 71 = .ok (.invokevirtual 71, 3) := by decide +kernel
theorem dX12_join_74 : decode cX12_join 74 = .ok (.ireturn, 1) := by decide +kernel
theorem dX12_join_75 : decode cX12_join 75 = .ok (.aload_n 0, 1) := by decide +kernel
theorem dX12_join_76 : decode cX12_join 76 = .ok (.getfield 55, 3) := by decide +kernel
theorem dX12_join_79 : decode cX12_join 79 = .ok (.iload_n 1, 1) := by decide +kernel
theorem dX12_join_80 : decode cX12_join 80 = .ok (.iaload, 1) := by decide +kernel
theorem dX12_join_81 : decode cX12_join 81 = .ok (.aload_n 0, 1) := by decide +kernel
theorem dX12_join_82 : decode cX12_join 82 = .ok (.getfield 64, 3) := by decide +kernel
theorem dX12_join_85 : decode cX12_join 85 = .ok (.if_icmp .ne 16, 3) := by decide +kernel
theorem dX12_join_88 : decode cX12_join 88 = .ok (.aload_n 0, 1) := by decide +kernel
theorem dX12_join_89 : decode cX12_join 89 = .ok (.getfield 55, 3) := by decide +kernel
theorem dX12_join_92 : decode cX12_join 92 = .ok (.iload_n 2, 1) := by decide +kernel
theorem dX12_join_93 : decode cX12_join 93 = .ok (.iaload, 1) := by decide +kernel
theorem dX12_join_94 : decode cX12_join 94 = .ok (.aload_n 0, 1) := by decide +kernel
theorem dX12_join_95 : decode cX12_join 95 = .ok (.getfield 64, 3) := by decide +kernel
theorem dX12_join_98 : decode cX12_join 98 = .ok (.if_icmp .eq 9, 3) := by decide +kernel
theorem dX12_join_101 : decode cX12_join 101 = .ok (.aload_n 0, 1) := by decide +kernel
theorem dX12_join_102 : decode cX12_join 102 = .ok (.iconst 3, 1) := by decide +kernel
theorem dX12_join_103 : decode cX12_join 103 = .ok (.invokevirtual 71, 3) := by decide +kernel
theorem dX12_join_106 : decode cX12_join 106 = .ok (.ireturn, 1) := by decide +kernel
theorem dX12_join_107 : decode cX12_join 107 = .ok (.iconst 0, 1) := by decide +kernel
theorem dX12_join_108 : decode cX12_join 108 = .ok (.istore 5, 2) := by decide +kernel
theorem dX12_join_110 : decode cX12_join 110 = .ok (.iload 5, 2) := by decide +kernel
theorem dX12_join_112 : decode cX12_join 112 = .ok (.sipush 1024, 3) := by decide +kernel
theorem dX12_join_115 : decode cX12_join 115 = .ok (.if_icmp .ge 98, 3) := by decide +kernel
theorem dX12_join_118 : decode cX12_join 118 = .ok (.aload_n 0, 1) := by decide +kernel
theorem dX12_join_119 : decode cX12_join 119 = .ok (.getfield 52, 3) := by decide +kernel
theorem dX12_join_122 : decode cX12_join 122 = .ok (.iload_n 1, 1) := by decide +kernel
theorem dX12_join_123 : decode cX12_join 123 = .ok (.aaload, 1) := by decide +kernel
theorem dX12_join_124 : decode cX12_join 124 = .ok (.iload 5, 2) := by decide +kernel
theorem dX12_join_126 : decode cX12_join 126 = .ok (.baload, 1) := by decide +kernel
theorem dX12_join_127 : decode cX12_join 127 = .ok (.istore 6, 2) := by decide +kernel
theorem dX12_join_129 : decode cX12_join 129 = .ok (.aload_n 0, 1) := by decide +kernel
theorem dX12_join_130 : decode cX12_join 130 = .ok (.getfield 52, 3) := by decide +kernel
theorem dX12_join_133 : decode cX12_join 133 = .ok (.iload_n 2, 1) := by decide +kernel
theorem dX12_join_134 : decode cX12_join 134 = .ok (.aaload, 1) := by decide +kernel
theorem dX12_join_135 : decode cX12_join 135 = .ok (.iload 5, 2) := by decide +kernel
theorem dX12_join_137 : decode cX12_join 137 = .ok (.baload, 1) := by decide +kernel
theorem dX12_join_138 : decode cX12_join 138 = .ok (.istore 7, 2) := by decide +kernel
theorem dX12_join_140 : decode cX12_join 140 = .ok (.aload_n 0, 1) := by decide +kernel
theorem dX12_join_141 : decode cX12_join 141 = .ok (.getfield 58, 3) := by decide +kernel
theorem dX12_join_144 : decode cX12_join 144 = .ok (.iload 5, 2) := by decide +kernel
theorem dX12_join_146 : decode cX12_join 146 = .ok (.iload_n 3, 1) := by decide +kernel
theorem dX12_join_147 : decode cX12_join 147 = .ok (.bipush 97, 2) := by decide +kernel
theorem dX12_join_149 : decode cX12_join 149 = .ok (.if_icmp .ne 21, 3) := by decide +kernel
theorem dX12_join_152 : decode cX12_join 152 = .ok (.iload 6, 2) := by decide +kernel
theorem dX12_join_154 : decode cX12_join 154 = .ok (.ifCond .eq 12, 3) := by decide +kernel
theorem dX12_join_157 : decode cX12_join 157 = .ok (.iload 7, 2) := by decide +kernel
theorem dX12_join_159 : decode cX12_join 159 = .ok (.ifCond .eq 7, 3) := by decide +kernel
theorem dX12_join_162 : decode cX12_join 162 = .ok (.iconst 1, 1) := by decide +kernel
theorem dX12_join_163 : decode cX12_join 163 = .ok (.goto 43, 3) := by decide +kernel
theorem dX12_join_166 : decode cX12_join 166 = .ok (.iconst 0, 1) := by decide +kernel
theorem dX12_join_167 : decode cX12_join 167 = .ok (.goto 39, 3) := by decide +kernel
theorem dX12_join_170 : decode cX12_join 170 = .ok (.iload_n 3, 1) := by decide +kernel
theorem dX12_join_171 : decode cX12_join 171 = .ok (.bipush 111, 2) := by decide +kernel
theorem dX12_join_173 : decode cX12_join 173 = .ok (.if_icmp .ne 21, 3) := by decide +kernel
theorem dX12_join_176 : decode cX12_join 176 = .ok (.iload 6, 2) := by decide +kernel
theorem dX12_join_178 : decode cX12_join 178 = .ok (.ifCond .ne 8, 3) := by decide +kernel
theorem dX12_join_181 : decode cX12_join 181 = .ok (.iload 7, 2) := by decide +kernel
theorem dX12_join_183 : decode cX12_join 183 = .ok (.ifCond .eq 7, 3) := by decide +kernel
theorem dX12_join_186 : decode cX12_join 186 = .ok (.iconst 1, 1) := by decide +kernel
theorem dX12_join_187 : decode cX12_join 187 = .ok (.goto 19, 3) := by decide +kernel
theorem dX12_join_190 : decode cX12_join 190 = .ok (.iconst 0, 1) := by decide +kernel
theorem dX12_join_191 : decode cX12_join 191 = .ok (.goto 15, 3) := by decide +kernel
theorem dX12_join_194 : decode cX12_join 194 = .ok (.iload 6, 2) := by decide +kernel
theorem dX12_join_196 : decode cX12_join 196 = .ok (.iload 7, 2) := by decide +kernel
theorem dX12_join_198 : decode cX12_join 198 = .ok (.if_icmp .eq 7, 3) := by decide +kernel
theorem dX12_join_201 : decode cX12_join 201 = .ok (.iconst 1, 1) := by decide +kernel
theorem dX12_join_202 : decode cX12_join 202 = .ok (.goto 4, 3) := by decide +kernel
theorem dX12_join_205 : decode cX12_join 205 = .ok (.iconst 0, 1) := by decide +kernel
theorem dX12_join_206 : decode cX12_join 206 = .ok (.bastore, 1) := by decide +kernel
theorem dX12_join_207 : decode cX12_join 207 = .ok (.iinc 5 1, 3) := by decide +kernel
theorem dX12_join_210 : decode cX12_join 210 = .ok (.goto (-100), 3) := by decide +kernel
theorem dX12_join_213 : decode cX12_join 213 = .ok (.iconst 0, 1) := by decide +kernel
theorem dX12_join_214 : decode cX12_join 214 = .ok (.istore 5, 2) := by decide +kernel
theorem dX12_join_216 : decode cX12_join 216 = .ok (.iload 5, 2) := by decide +kernel
theorem dX12_join_218 : decode cX12_join 218 = .ok (.sipush 1024, 3) := by decide +kernel
theorem dX12_join_221 : decode cX12_join 221 = .ok (.if_icmp .ge 26, 3) := by decide +kernel
theorem dX12_join_224 : decode cX12_join 224 = .ok (.aload_n 0, 1) := by decide +kernel
theorem dX12_join_225 : decode cX12_join 225 = .ok (.getfield 52, 3) := by decide +kernel
theorem dX12_join_228 : decode cX12_join 228 = .ok (.iload 4, 2) := by decide +kernel
theorem dX12_join_230 : decode cX12_join 230 = .ok (.aaload, 1) := by decide +kernel
theorem dX12_join_231 : decode cX12_join 231 = .ok (.iload 5, 2) := by decide +kernel
theorem dX12_join_233 : decode cX12_join 233 = .ok (.aload_n 0, 1) := by decide +kernel
theorem dX12_join_234 : decode cX12_join 234 = .ok (.getfield 58, 3) := by decide +kernel
theorem dX12_join_237 : decode cX12_join 237 = .ok (.iload 5, 2) := by decide +kernel
theorem dX12_join_239 : decode cX12_join 239 = .ok (.baload, 1) := by decide +kernel
theorem dX12_join_240 : decode cX12_join 240 = .ok (.bastore, 1) := by decide +kernel
theorem dX12_join_241 : decode cX12_join 241 = .ok (.iinc 5 1, 3) := by decide +kernel
theorem dX12_join_244 : decode cX12_join 244 = .ok (.goto (-28), 3) := by decide +kernel
theorem dX12_join_247 : decode cX12_join 247 = .ok (.aload_n 0, 1) := by decide +kernel
theorem dX12_join_248 : decode cX12_join 248 = .ok (.getfield 55, 3) := by decide +kernel
theorem dX12_join_251 : decode cX12_join 251 = .ok (.iload 4, 2) := by decide +kernel
theorem dX12_join_253 : decode cX12_join 253 = .ok (.aload_n 0, 1) := by decide +kernel
theorem dX12_join_254 : decode cX12_join 254 = .ok (.getfield 64, 3) := by decide +kernel
theorem dX12_join_257 : decode cX12_join 257 = .ok (.iastore, 1) := by decide +kernel
theorem dX12_join_258 : decode cX12_join 258 = .ok (.aload_n 0, 1) := by decide +kernel
theorem dX12_join_259 : decode cX12_join 259 = .ok (.invokevirtual 153, 3) := by decide +kernel
theorem dX12_join_262 : decode cX12_join 262 = .ok (.ireturn, 1) := by decide +kernel
theorem dX12_becomes_0 : decode cX12_becomes 0 = .ok (.iconst 0, 1) := by decide +kernel
theorem dX12_becomes_1 : decode cX12_becomes 1 = .ok (.istore_n 2, 1) := by decide +kernel
theorem dX12_becomes_2 : decode cX12_becomes 2 = .ok (.iload_n 2, 1) := by decide +kernel
theorem dX12_becomes_3 : decode cX12_becomes 3 = .ok (.sipush 1024, 3) := by decide +kernel
theorem dX12_becomes_6 : decode cX12_becomes 6 = .ok (.if_icmp .ge 23, 3) := by decide +kernel
theorem dX12_becomes_9 : decode cX12_becomes 9 = .ok (.aload_n 0, 1) := by decide +kernel
theorem dX12_becomes_10 : decode cX12_becomes 10 = .ok (.getfield 52, 3) := by decide +kernel
theorem dX12_becomes_13 : decode cX12_becomes 13 = .ok (.iload_n 1, 1) := by decide +kernel
theorem dX12_becomes_14 : decode cX12_becomes 14 = .ok (.aaload, 1) := by decide +kernel
theorem dX12_becomes_15 : decode cX12_becomes 15 = .ok (.iload_n 2, 1) := by decide +kernel
theorem dX12_becomes_16 : decode cX12_becomes 16 = .ok (.aload_n 0, 1) := by decide +kernel
theorem dX12_becomes_17 : decode cX12_becomes 17 = .ok (.getfield 58, 3) := by decide +kernel
theorem dX12_becomes_20 : decode cX12_becomes 20 = .ok (.iload_n 2, 1) := by decide +kernel
theorem dX12_becomes_21 : decode cX12_becomes 21 = .ok (.baload, 1) := by decide +kernel
theorem dX12_becomes_22 : decode cX12_becomes 22 = .ok (.bastore, 1) := by decide +kernel
theorem dX12_becomes_23 : decode cX12_becomes 23 = .ok (.iinc 2 1, 3) := by decide +kernel
theorem dX12_becomes_26 : decode cX12_becomes 26 = .ok (.goto (-24), 3) := by decide +kernel
theorem dX12_becomes_29 : decode cX12_becomes 29 = .ok (.aload_n 0, 1) := by decide +kernel
theorem dX12_becomes_30 : decode cX12_becomes 30 = .ok (.invokevirtual 153, 3) := by decide +kernel
theorem dX12_becomes_33 : decode cX12_becomes 33 = .ok (.ireturn, 1) := by decide +kernel
theorem dX12_fix_0 : decode cX12_fix 0 = .ok (.aload_n 0, 1) := by decide +kernel
theorem dX12_fix_1 : decode cX12_fix 1 = .ok (.iconst 0, 1) := by decide +kernel
theorem dX12_fix_2 : decode cX12_fix 2 = .ok (.putfield 1, 3) := by decide +kernel
theorem dX12_fix_5 : decode cX12_fix 5 = .ok (.iload_n 1, 1) := by decide +kernel
theorem dX12_fix_6 : decode cX12_fix 6 = .ok (.invokestatic 162, 3) := by decide +kernel
theorem dX12_fix_9 : decode cX12_fix 9 = .ok (.ifCond .eq 12, 3) := by decide +kernel
theorem dX12_fix_12 : decode cX12_fix 12 = .ok (.iload_n 3, 1) := by decide +kernel
theorem dX12_fix_13 : decode cX12_fix 13 = .ok (.iconst 0, 1) := by decide +kernel
theorem dX12_fix_14 : decode cX12_fix 14 = .ok (.iconst 1, 1) := by decide +kernel
theorem dX12_fix_15 : decode cX12_fix 15 = .ok (.invokestatic 67, 3) := by decide +kernel
theorem dX12_fix_18 : decode cX12_fix 18 = .ok (.ifCond .ne 9, 3) := by decide +kernel
theorem dX12_fix_21 : decode cX12_fix 21 = .ok (.aload_n 0, 1) := by decide +kernel
theorem dX12_fix_22 : decode cX12_fix 22 = .ok (.iconst 1, 1) := by decide +kernel
theorem dX12_fix_23 : decode cX12_fix 23 = .ok (.invokevirtual 71, 3) := by decide +kernel
theorem dX12_fix_26 : decode cX12_fix 26 = .ok (.ireturn, 1) := by decide +kernel
theorem dX12_fix_27 : decode cX12_fix 27 = .ok (.aload_n 0, 1) := by decide +kernel
theorem dX12_fix_28 : decode cX12_fix 28 = .ok (.iload_n 2, 1) := by decide +kernel
theorem dX12_fix_29 : decode cX12_fix 29 = .ok (.invokevirtual 75, 3) := by decide +kernel
theorem dX12_fix_32 : decode cX12_fix 32 = .ok (.ifCond .ne 9, 3) := by decide +kernel
theorem dX12_fix_35 : decode cX12_fix 35 = .ok (.aload_n 0, 1) := by decide +kernel
theorem dX12_fix_36 : decode cX12_fix 36 = .ok (.iconst 2, 1) := by decide +kernel
theorem dX12_fix_37 : decode cX12_fix 37 = .ok (.invokevirtual 71, 3) := by decide +kernel
theorem dX12_fix_40 : decode cX12_fix 40 = .ok (.ireturn, 1) := by decide +kernel
theorem dX12_fix_41 : decode cX12_fix 41 = .ok (.aload_n 0, 1) := by decide +kernel
theorem dX12_fix_42 : decode cX12_fix 42 = .ok (.getfield 55, 3) := by decide +kernel
theorem dX12_fix_45 : decode cX12_fix 45 = .ok (.iload_n 1, 1) := by decide +kernel
theorem dX12_fix_46 : decode cX12_fix 46 = .ok (.iaload, 1) := by decide +kernel
theorem dX12_fix_47 : decode cX12_fix 47 = .ok (.ifCond .ge 9, 3) := by decide +kernel
theorem dX12_fix_50 : decode cX12_fix 50 = .ok (.aload_n 0, 1) := by decide +kernel
theorem dX12_fix_51 : decode cX12_fix 51 = .ok (.iconst 3, 1) := by decide +kernel
theorem dX12_fix_52 : decode cX12_fix 52 = .ok (.invokevirtual 71, 3) := by decide +kernel
theorem dX12_fix_55 : decode cX12_fix 55 = .ok (.ireturn, 1) := by decide +kernel
theorem dX12_fix_56 : decode cX12_fix 56 = .ok (.aload_n 0, 1) := by decide +kernel
theorem dX12_fix_57 : decode cX12_fix 57 = .ok (.getfield 55, 3) := by decide +kernel
theorem dX12_fix_60 : decode cX12_fix 60 = .ok (.iload_n 1, 1) := by decide +kernel
theorem dX12_fix_61 : decode cX12_fix 61 = .ok (.iaload, 1) := by decide +kernel
theorem dX12_fix_62 : decode cX12_fix 62 = .ok (.aload_n 0, 1) := by decide +kernel
theorem dX12_fix_63 : decode cX12_fix 63 = .ok (.getfield 64, 3) := by decide +kernel
theorem dX12_fix_66 : decode cX12_fix 66 = .ok (.if_icmp .eq 9, 3) := by decide +kernel
theorem dX12_fix_69 : decode cX12_fix 69 = .ok (.aload_n 0, 1) := by decide +kernel
theorem dX12_fix_70 : decode cX12_fix 70 = .ok (.iconst 4, 1) := by decide +kernel
theorem dX12_fix_71 : decode cX12_fix 71 = .ok (.invokevirtual 71, 3) := by decide +kernel
theorem dX12_fix_74 : decode cX12_fix 74 = .ok (.ireturn, 1) := by decide +kernel
theorem dX12_fix_75 : decode cX12_fix 75 = .ok (.iconst 0, 1) := by decide +kernel
theorem dX12_fix_76 : decode cX12_fix 76 = .ok (.istore 4, 2) := by decide +kernel
theorem dX12_fix_78 : decode cX12_fix 78 = .ok (.iload 4, 2) := by decide +kernel
theorem dX12_fix_80 : decode cX12_fix 80 = .ok (.sipush 1024, 3) := by decide +kernel
theorem dX12_fix_83 : decode cX12_fix 83 = .ok (.if_icmp .ge 52, 3) := by decide +kernel
theorem dX12_fix_86 : decode cX12_fix 86 = .ok (.aload_n 0, 1) := by decide +kernel
theorem dX12_fix_87 : decode cX12_fix 87 = .ok (.getfield 58, 3) := by decide +kernel
theorem dX12_fix_90 : decode cX12_fix 90 = .ok (.iload 4, 2) := by decide +kernel
theorem dX12_fix_92 : decode cX12_fix 92 = .ok (.iload 4, 2) := by decide +kernel
theorem dX12_fix_94 : decode cX12_fix 94 = .ok (.aload_n 0, 1) := by decide +kernel
theorem dX12_fix_95 : decode cX12_fix 95 = .ok (.invokevirtual 98, 3) := by decide +kernel
theorem dX12_fix_98 : decode cX12_fix 98 = .ok (.if_icmp .ge 29, 3) := by decide +kernel
theorem dX12_fix_101 : decode cX12_fix 101 = .ok (.aload_n 0, 1) := by decide +kernel
theorem dX12_fix_102 : decode cX12_fix 102 = .ok (.getfield 52, 3) := by decide +kernel
theorem dX12_fix_105 : decode cX12_fix 105 = .ok (.iload_n 1, 1) := by decide +kernel
theorem dX12_fix_106 : decode cX12_fix 106 = .ok (.aaload, 1) := by decide +kernel
theorem dX12_fix_107 : decode cX12_fix 107 = .ok (.iload 4, 2) := by decide +kernel
theorem dX12_fix_109 : decode cX12_fix 109 = .ok (.iconst 1, 1) := by decide +kernel
theorem dX12_fix_110 : decode cX12_fix 110 = .ok (.iload_n 2, 1) := by decide +kernel
theorem dX12_fix_111 : decode cX12_fix 111 = .ok (.ishl, 1) := by decide +kernel
theorem dX12_fix_112 : decode cX12_fix 112 = .ok (.iconst (-1), 1) := by decide +kernel
theorem dX12_fix_113 : decode cX12_fix 113 = .ok (.ixor, 1) := by decide +kernel
theorem dX12_fix_114 : decode cX12_fix 114 = .ok (.iand, 1) := by decide +kernel
theorem dX12_fix_115 : decode cX12_fix 115 = .ok (.iload_n 3, 1) := by decide +kernel
theorem dX12_fix_116 : decode cX12_fix 116 = .ok (.iload_n 2, 1) := by decide +kernel
theorem dX12_fix_117 : decode cX12_fix 117 = .ok (.ishl, 1) := by decide +kernel
theorem dX12_fix_118 : decode cX12_fix 118 = .ok (.ior, 1) := by decide +kernel
theorem dX12_fix_119 : decode cX12_fix 119 = .ok (.baload, 1) := by decide +kernel
theorem dX12_fix_120 : decode cX12_fix 120 = .ok (.ifCond .eq 7, 3) := by decide +kernel
theorem dX12_fix_123 : decode cX12_fix 123 = .ok (.iconst 1, 1) := by decide +kernel
theorem dX12_fix_124 : decode cX12_fix 124 = .ok (.goto 4, 3) := by decide +kernel
theorem dX12_fix_127 : decode cX12_fix 127 = .ok (.iconst 0, 1) := by decide +kernel
theorem dX12_fix_128 : decode cX12_fix 128 = .ok (.bastore, 1) := by decide +kernel
theorem dX12_fix_129 : decode cX12_fix 129 = .ok (.iinc 4 1, 3) := by decide +kernel
theorem dX12_fix_132 : decode cX12_fix 132 = .ok (.goto (-54), 3) := by decide +kernel
theorem dX12_fix_135 : decode cX12_fix 135 = .ok (.aload_n 0, 1) := by decide +kernel
theorem dX12_fix_136 : decode cX12_fix 136 = .ok (.iload_n 1, 1) := by decide +kernel
theorem dX12_fix_137 : decode cX12_fix 137 = .ok (.invokevirtual 165, 3) := by decide +kernel
theorem dX12_fix_140 : decode cX12_fix 140 = .ok (.ireturn, 1) := by decide +kernel
theorem dX12_free__0 : decode cX12_free_ 0 = .ok (.aload_n 0, 1) := by decide +kernel
theorem dX12_free__1 : decode cX12_free_ 1 = .ok (.iconst 0, 1) := by decide +kernel
theorem dX12_free__2 : decode cX12_free_ 2 = .ok (.putfield 1, 3) := by decide +kernel
theorem dX12_free__5 : decode cX12_free_ 5 = .ok (.iload_n 1, 1) := by decide +kernel
theorem dX12_free__6 : decode cX12_free_ 6 = .ok (.invokestatic 162, 3) := by decide +kernel
theorem dX12_free__9 : decode cX12_free_ 9 = .ok (.ifCond .ne 9, 3) := by decide +kernel
theorem dX12_free__12 : decode cX12_free_ 12 = .ok (.aload_n 0, 1) := by decide +kernel
theorem dX12_free__13 : decode cX12_free_ 13 = .ok (.iconst 1, 1) := by decide +kernel
theorem dX12_free__14 : decode cX12_free_ 14 = .ok (.invokevirtual 71, 3) := by decide +kernel
theorem dX12_free__17 : decode cX12_free_ 17 = .ok (.ireturn, 1) := by decide +kernel
theorem dX12_free__18 : decode cX12_free_ 18 = .ok (.aload_n 0, 1) := by decide +kernel
theorem dX12_free__19 : decode cX12_free_ 19 = .ok (.iload_n 2, 1) := by decide +kernel
theorem dX12_free__20 : decode cX12_free_ 20 = .ok (.invokevirtual 75, 3) := by decide +kernel
theorem dX12_free__23 : decode cX12_free_ 23 = .ok (.ifCond .ne 9, 3) := by decide +kernel
theorem dX12_free__26 : decode cX12_free_ 26 = .ok (.aload_n 0, 1) := by decide +kernel
theorem dX12_free__27 : decode cX12_free_ 27 = .ok (.iconst 2, 1) := by decide +kernel
theorem dX12_free__28 : decode cX12_free_ 28 = .ok (.invokevirtual 71, 3) := by decide +kernel
theorem dX12_free__31 : decode cX12_free_ 31 = .ok (.ireturn, 1) := by decide +kernel
theorem dX12_free__32 : decode cX12_free_ 32 = .ok (.aload_n 0, 1) := by decide +kernel
theorem dX12_free__33 : decode cX12_free_ 33 = .ok (.getfield 55, 3) := by decide +kernel
theorem dX12_free__36 : decode cX12_free_ 36 = .ok (.iload_n 1, 1) := by decide +kernel
theorem dX12_free__37 : decode cX12_free_ 37 = .ok (.iaload, 1) := by decide +kernel
theorem dX12_free__38 : decode cX12_free_ 38 = .ok (.ifCond .ge 9, 3) := by decide +kernel
theorem dX12_free__41 : decode cX12_free_ 41 = .ok (.aload_n 0, 1) := by decide +kernel
theorem dX12_free__42 : decode cX12_free_ 42 = .ok (.iconst 3, 1) := by decide +kernel
theorem dX12_free__43 : decode cX12_free_ 43 = .ok (.invokevirtual 71, 3) := by decide +kernel
theorem dX12_free__46 : decode cX12_free_ 46 = .ok (.ireturn, 1) := by decide +kernel
theorem dX12_free__47 : decode cX12_free_ 47 = .ok (.aload_n 0, 1) := by decide +kernel
theorem dX12_free__48 : decode cX12_free_ 48 = .ok (.getfield 55, 3) := by decide +kernel
theorem dX12_free__51 : decode cX12_free_ 51 = .ok (.iload_n 1, 1) := by decide +kernel
theorem dX12_free__52 : decode cX12_free_ 52 = .ok (.iaload, 1) := by decide +kernel
theorem dX12_free__53 : decode cX12_free_ 53 = .ok (.aload_n 0, 1) := by decide +kernel
theorem dX12_free__54 : decode cX12_free_ 54 = .ok (.getfield 64, 3) := by decide +kernel
theorem dX12_free__57 : decode cX12_free_ 57 = .ok (.if_icmp .eq 9, 3) := by decide +kernel
theorem dX12_free__60 : decode cX12_free_ 60 = .ok (.aload_n 0, 1) := by decide +kernel
theorem dX12_free__61 : decode cX12_free_ 61 = .ok (.iconst 4, 1) := by decide +kernel
theorem dX12_free__62 : decode cX12_free_ 62 = .ok (.invokevirtual 71, 3) := by decide +kernel
theorem dX12_free__65 : decode cX12_free_ 65 = .ok (.ireturn, 1) := by decide +kernel
theorem dX12_free__66 : decode cX12_free_ 66 = .ok (.iconst 0, 1) := by decide +kernel
theorem dX12_free__67 : decode cX12_free_ 67 = .ok (.istore_n 3, 1) := by decide +kernel
theorem dX12_free__68 : decode cX12_free_ 68 = .ok (.iload_n 3, 1) := by decide +kernel
theorem dX12_free__69 : decode cX12_free_ 69 = .ok (.sipush 1024, 3) := by decide +kernel
theorem dX12_free__72 : decode cX12_free_ 72 = .ok (.if_icmp .ge 54, 3) := by decide +kernel
theorem dX12_free__75 : decode cX12_free_ 75 = .ok (.aload_n 0, 1) := by decide +kernel
theorem dX12_free__76 : decode cX12_free_ 76 = .ok (.getfield 58, 3) := by decide +kernel
theorem dX12_free__79 : decode cX12_free_ 79 = .ok (.iload_n 3, 1) := by decide +kernel
theorem dX12_free__80 : decode cX12_free_ 80 = .ok (.iload_n 3, 1) := by decide +kernel
theorem dX12_free__81 : decode cX12_free_ 81 = .ok (.aload_n 0, 1) := by decide +kernel
theorem dX12_free__82 : decode cX12_free_ 82 = .ok (.invokevirtual 98, 3) := by decide +kernel
theorem dX12_free__85 : decode cX12_free_ 85 = .ok (.if_icmp .ge 33, 3) := by decide +kernel
theorem dX12_free__88 : decode cX12_free_ 88 = .ok (.aload_n 0, 1) := by decide +kernel
theorem dX12_free__89 : decode cX12_free_ 89 = .ok (.getfield 52, 3) := by decide +kernel
theorem dX12_free__92 : decode cX12_free_ 92 = .ok (.iload_n 1, 1) := by decide +kernel
theorem dX12_free__93 : decode cX12_free_ 93 = .ok (.aaload, 1) := by decide +kernel
theorem dX12_free__94 : decode cX12_free_ 94 = .ok (.iload_n 3, 1) := by decide +kernel
theorem dX12_free__95 : decode cX12_free_ 95 = .ok (.baload, 1) := by decide +kernel
theorem dX12_free__96 : decode cX12_free_ 96 = .ok (.ifCond .ne 18, 3) := by decide +kernel
theorem dX12_free__99 : decode cX12_free_ 99 = .ok (.aload_n 0, 1) := by decide +kernel
theorem dX12_free__100 : decode cX12_free_ 100 = .ok (.getfield 52, 3) := by decide +kernel
theorem dX12_free__103 : decode cX12_free_ 103 = .ok (.iload_n 1, 1) := by decide +kernel
theorem dX12_free__104 : decode cX12_free_ 104 = .ok (.aaload, 1) := by decide +kernel
theorem dX12_free__105 : decode cX12_free_ 105 = .ok (.iload_n 3, 1) := by decide +kernel
theorem dX12_free__106 : decode cX12_free_ 106 = .ok (.iconst 1, 1) := by decide +kernel
theorem dX12_free__107 : decode cX12_free_ 107 = .ok (.iload_n 2, 1) := by decide +kernel
theorem dX12_free__108 : decode cX12_free_ 108 = .ok (.ishl, 1) := by decide +kernel
theorem dX12_free__109 : decode cX12_free_ 109 = .ok (.ixor, 1) := by decide +kernel
theorem dX12_free__110 : decode cX12_free_ 110 = .ok (.baload, 1) := by decide +kernel
theorem dX12_free__111 : decode cX12_free_ 111 = .ok (.ifCond .eq 7, 3) := by decide +kernel
theorem dX12_free__114 : decode cX12_free_ 114 = .ok (.iconst 1, 1) := by decide +kernel
theorem dX12_free__115 : decode cX12_free_ 115 = .ok (.goto 4, 3) := by decide +kernel
theorem dX12_free__118 : decode cX12_free_ 118 = .ok (.iconst 0, 1) := by decide +kernel
theorem dX12_free__119 : decode cX12_free_ 119 = .ok (.bastore, 1) := by decide +kernel
theorem dX12_free__120 : decode cX12_free_ 120 = .ok (.iinc 3 1, 3) := by decide +kernel
theorem dX12_free__123 : decode cX12_free_ 123 = .ok (.goto (-55), 3) := by decide +kernel
theorem dX12_free__126 : decode cX12_free_ 126 = .ok (.aload_n 0, 1) := by decide +kernel
theorem dX12_free__127 : decode cX12_free_ 127 = .ok (.iload_n 1, 1) := by decide +kernel
theorem dX12_free__128 : decode cX12_free_ 128 = .ok (.invokevirtual 165, 3) := by decide +kernel
theorem dX12_free__131 : decode cX12_free_ 131 = .ok (.ireturn, 1) := by decide +kernel
theorem dX12_nodesOf_0 : decode cX12_nodesOf 0 = .ok (.aload_n 0, 1) := by decide +kernel
theorem dX12_nodesOf_1 : decode cX12_nodesOf 1 = .ok (.iconst 0, 1) := by decide +kernel
theorem dX12_nodesOf_2 : decode cX12_nodesOf 2 = .ok (.putfield 1, 3) := by decide +kernel
theorem dX12_nodesOf_5 : decode cX12_nodesOf 5 = .ok (.iload_n 1, 1) := by decide +kernel
theorem dX12_nodesOf_6 : decode cX12_nodesOf 6 = .ok (.invokestatic 162, 3) := by decide +kernel
theorem dX12_nodesOf_9 : decode cX12_nodesOf 9 = .ok (.ifCond .ne 9, 3) := by decide +kernel
theorem dX12_nodesOf_12 : decode cX12_nodesOf 12 = .ok (.aload_n 0, 1) := by decide +kernel
theorem dX12_nodesOf_13 : decode cX12_nodesOf 13 = .ok (.iconst 1, 1) := by decide +kernel
theorem dX12_nodesOf_14 : decode cX12_nodesOf 14 = .ok (.invokevirtual 71, 3) := by decide +kernel
theorem dX12_nodesOf_17 : decode cX12_nodesOf 17 = .ok (.ireturn, 1) := by decide +kernel
theorem dX12_nodesOf_18 : decode cX12_nodesOf 18 = .ok (.aload_n 0, 1) := by decide +kernel
theorem dX12_nodesOf_19 : decode cX12_nodesOf 19 = .ok (.getfield 55, 3) := by decide +kernel
theorem dX12_nodesOf_22 : decode cX12_nodesOf 22 = .ok (.iload_n 1, 1) := by decide +kernel
theorem dX12_nodesOf_23 : decode cX12_nodesOf 23 = .ok (.iaload, 1) := by decide +kernel
theorem dX12_nodesOf_24 : decode cX12_nodesOf 24 = .ok (.ifCond .ge 9, 3) := by decide +kernel
theorem dX12_nodesOf_27 : decode cX12_nodesOf 27 = .ok (.aload_n 0, 1) := by decide +kernel
theorem dX12_nodesOf_28 : decode cX12_nodesOf 28 = .ok (.iconst 2, 1) := by decide +kernel
theorem dX12_nodesOf_29 : decode cX12_nodesOf 29 = .ok (.invokevirtual 71, 3) := by decide +kernel
theorem dX12_nodesOf_32 : decode cX12_nodesOf 32 = .ok (.ireturn, 1) := by decide +kernel
theorem dX12_nodesOf_33 : decode cX12_nodesOf 33 = .ok (.aload_n 0, 1) := by decide +kernel
theorem dX12_nodesOf_34 : decode cX12_nodesOf 34 = .ok (.getfield 55, 3) := by decide +kernel
theorem dX12_nodesOf_37 : decode cX12_nodesOf 37 = .ok (.iload_n 1, 1) := by decide +kernel
theorem dX12_nodesOf_38 : decode cX12_nodesOf 38 = .ok (.iaload, 1) := by decide +kernel
theorem dX12_nodesOf_39 : decode cX12_nodesOf 39 = .ok (.aload_n 0, 1) := by decide +kernel
theorem dX12_nodesOf_40 : decode cX12_nodesOf 40 = .ok (.getfield 64, 3) := by decide +kernel
theorem dX12_nodesOf_43 : decode cX12_nodesOf 43 = .ok (.if_icmp .eq 9, 3) := by decide +kernel
theorem dX12_nodesOf_46 : decode cX12_nodesOf 46 = .ok (.aload_n 0, 1) := by decide +kernel
theorem dX12_nodesOf_47 : decode cX12_nodesOf 47 = .ok (.iconst 3, 1) := by decide +kernel
theorem dX12_nodesOf_48 : decode cX12_nodesOf 48 = .ok (.invokevirtual 71, 3) := by decide +kernel
theorem dX12_nodesOf_51 : decode cX12_nodesOf 51 = .ok (.ireturn, 1) := by decide +kernel
theorem dX12_nodesOf_52 : decode cX12_nodesOf 52 = .ok (.aload_n 0, 1) := by decide +kernel
theorem dX12_nodesOf_53 : decode cX12_nodesOf 53 = .ok (.iload_n 1, 1) := by decide +kernel
theorem dX12_nodesOf_54 : decode cX12_nodesOf 54 = .ok (.invokevirtual 168, 3) := by decide +kernel
theorem dX12_nodesOf_57 : decode cX12_nodesOf 57 = .ok (.aload_n 0, 1) := by decide +kernel
theorem dX12_nodesOf_58 : decode cX12_nodesOf 58 = .ok (.invokevirtual 153, 3) := by decide +kernel
theorem dX12_nodesOf_61 : decode cX12_nodesOf 61 = .ok (.ireturn, 1) := by decide +kernel
theorem dX12_modelsOf_0 : decode cX12_modelsOf 0 = .ok (.aload_n 0, 1) := by decide +kernel
theorem dX12_modelsOf_1 : decode cX12_modelsOf 1 = .ok (.iconst 0, 1) := by decide +kernel
theorem dX12_modelsOf_2 : decode cX12_modelsOf 2 = .ok (.putfield 1, 3) := by decide +kernel
theorem dX12_modelsOf_5 : decode cX12_modelsOf 5 = .ok (.iload_n 1, 1) := by decide +kernel
theorem dX12_modelsOf_6 : decode cX12_modelsOf 6 = .ok (.invokestatic 162, 3) := by decide +kernel
theorem dX12_modelsOf_9 : decode cX12_modelsOf 9 = .ok (.ifCond .ne 10, 3) := by decide +kernel
theorem dX12_modelsOf_12 : decode cX12_modelsOf 12 = .ok (.aload_n 0, 1) := by decide +kernel
theorem dX12_modelsOf_13 : decode cX12_modelsOf 13 = .ok (.iconst 1, 1) := by decide +kernel
theorem dX12_modelsOf_14 : decode cX12_modelsOf 14 = .ok (.invokevirtual 71, 3) := by decide +kernel
theorem dX12_modelsOf_17 : decode cX12_modelsOf 17 = .ok (.i2l, 1) := by decide +kernel
theorem dX12_modelsOf_18 : decode cX12_modelsOf 18 = .ok (.lreturn, 1) := by decide +kernel
theorem dX12_modelsOf_19 : decode cX12_modelsOf 19 = .ok (.aload_n 0, 1) := by decide +kernel
theorem dX12_modelsOf_20 : decode cX12_modelsOf 20 = .ok (.getfield 55, 3) := by decide +kernel
theorem dX12_modelsOf_23 : decode cX12_modelsOf 23 = .ok (.iload_n 1, 1) := by decide +kernel
theorem dX12_modelsOf_24 : decode cX12_modelsOf 24 = .ok (.iaload, 1) := by decide +kernel
theorem dX12_modelsOf_25 : decode cX12_modelsOf 25 = .ok (.ifCond .ge 10, 3) := by decide +kernel
theorem dX12_modelsOf_28 : decode cX12_modelsOf 28 = .ok (.aload_n 0, 1) := by decide +kernel
theorem dX12_modelsOf_29 : decode cX12_modelsOf 29 = .ok (.iconst 2, 1) := by decide +kernel
theorem dX12_modelsOf_30 : decode cX12_modelsOf 30 = .ok (.invokevirtual 71, 3) := by decide +kernel
theorem dX12_modelsOf_33 : decode cX12_modelsOf 33 = .ok (.i2l, 1) := by decide +kernel
theorem dX12_modelsOf_34 : decode cX12_modelsOf 34 = .ok (.lreturn, 1) := by decide +kernel
theorem dX12_modelsOf_35 : decode cX12_modelsOf 35 = .ok (.lconst 0, 1) := by decide +kernel
theorem dX12_modelsOf_36 : decode cX12_modelsOf 36 = .ok (.lstore_n 2, 1) := by decide +kernel
theorem dX12_modelsOf_37 : decode cX12_modelsOf 37 = .ok (.iconst 0, 1) := by decide +kernel
theorem dX12_modelsOf_38 : decode cX12_modelsOf 38 = .ok (.istore 4, 2) := by decide +kernel
theorem dX12_modelsOf_40 : decode cX12_modelsOf 40 = .ok (.iload 4, 2) := by decide +kernel
theorem dX12_modelsOf_42 : decode cX12_modelsOf 42 = .ok (.sipush 1024, 3) := by decide +kernel
theorem dX12_modelsOf_45 : decode cX12_modelsOf 45 = .ok (.if_icmp .ge 29, 3) := by decide +kernel
theorem dX12_modelsOf_48 : decode cX12_modelsOf 48 = .ok (.lload_n 2, 1) := by decide +kernel
theorem dX12_modelsOf_49 : decode cX12_modelsOf 49 = .ok (.aload_n 0, 1) := by decide +kernel
theorem dX12_modelsOf_50 : decode cX12_modelsOf 50 = .ok (.getfield 52, 3) := by decide +kernel
theorem dX12_modelsOf_53 : decode cX12_modelsOf 53 = .ok (.iload_n 1, 1) := by decide +kernel
theorem dX12_modelsOf_54 : decode cX12_modelsOf 54 = .ok (.aaload, 1) := by decide +kernel
theorem dX12_modelsOf_55 : decode cX12_modelsOf 55 = .ok (.iload 4, 2) := by decide +kernel
theorem dX12_modelsOf_57 : decode cX12_modelsOf 57 = .ok (.baload, 1) := by decide +kernel
theorem dX12_modelsOf_58 : decode cX12_modelsOf 58 = .ok (.ifCond .eq 7, 3) := by decide +kernel
theorem dX12_modelsOf_61 : decode cX12_modelsOf 61 = .ok (.lconst 1, 1) := by decide +kernel
theorem dX12_modelsOf_62 : decode cX12_modelsOf 62 = .ok (.goto 4, 3) := by decide +kernel
theorem dX12_modelsOf_65 : decode cX12_modelsOf 65 = .ok (.lconst 0, 1) := by decide +kernel
theorem dX12_modelsOf_66 : decode cX12_modelsOf 66 = .ok (.ladd, 1) := by decide +kernel
theorem dX12_modelsOf_67 : decode cX12_modelsOf 67 = .ok (.lstore_n 2, 1) := by decide +kernel
theorem dX12_modelsOf_68 : decode cX12_modelsOf 68 = .ok (.iinc 4 1, 3) := by decide +kernel
theorem dX12_modelsOf_71 : decode cX12_modelsOf 71 = .ok (.goto (-31), 3) := by decide +kernel
theorem dX12_modelsOf_74 : decode cX12_modelsOf 74 = .ok (.lload_n 2, 1) := by decide +kernel
theorem dX12_modelsOf_75 : decode cX12_modelsOf 75 = .ok (.lreturn, 1) := by decide +kernel
theorem dX12_cannotCompare_0 : decode cX12_cannotCompare 0 = .ok (.aload_n 0, 1) := by decide +kernel
theorem dX12_cannotCompare_1 : decode cX12_cannotCompare 1 = .ok (.iconst 0, 1) := by decide +kernel
theorem dX12_cannotCompare_2 : decode cX12_cannotCompare 2 = .ok (.putfield 1, 3) := by decide +kernel
theorem dX12_cannotCompare_5 : decode cX12_cannotCompare 5 = .ok (.iload_n 1, 1) := by decide +kernel
theorem dX12_cannotCompare_6 : decode cX12_cannotCompare 6 = .ok (.invokestatic 162, 3) := by decide +kernel
theorem dX12_cannotCompare_9 : decode cX12_cannotCompare 9 = .ok (.ifCond .eq 10, 3) := by decide +kernel
theorem dX12_cannotCompare_12 : decode cX12_cannotCompare 12 = .ok (.iload_n 2, 1) := by decide +kernel
theorem dX12_cannotCompare_13 : decode cX12_cannotCompare 13 = .ok (.invokestatic 162, 3) := by decide +kernel
theorem dX12_cannotCompare_16 : decode cX12_cannotCompare 16 = .ok (.ifCond .ne 11, 3) := by decide +kernel
theorem dX12_cannotCompare_19 : decode cX12_cannotCompare 19 = .ok (.aload_n 0, 1) := by decide +kernel
theorem dX12_cannotCompare_20 : decode cX12_cannotCompare 20 = .ok (.iconst 1, 1) := by decide +kernel
theorem dX12_cannotCompare_21 : decode cX12_cannotCompare 21 = .ok (.putfield 1, 3) := by decide +kernel
theorem dX12_cannotCompare_24 : decode cX12_cannotCompare 24 = .ok (.goto 49, 3) := by decide +kernel
theorem dX12_cannotCompare_27 : decode cX12_cannotCompare 27 = .ok (.aload_n 0, 1) := by decide +kernel
theorem dX12_cannotCompare_28 : decode cX12_cannotCompare 28 = .ok (.getfield 55, 3) := by decide +kernel
theorem dX12_cannotCompare_31 : decode cX12_cannotCompare 31 = .ok (.iload_n 1, 1) := by decide +kernel
theorem dX12_cannotCompare_32 : decode cX12_cannotCompare 32 = .ok (.iaload, 1) := by decide +kernel
theorem dX12_cannotCompare_33 : decode cX12_cannotCompare 33 = .ok (.ifCond .lt 12, 3) := by decide +kernel
theorem dX12_cannotCompare_36 : decode cX12_cannotCompare 36 = .ok (.aload_n 0, 1) := by decide +kernel
theorem dX12_cannotCompare_37 : decode cX12_cannotCompare 37 = .ok (.getfield 55, 3) := by decide +kernel
theorem dX12_cannotCompare_40 : decode cX12_cannotCompare 40 = .ok (.iload_n 2, 1) := by decide +kernel
theorem dX12_cannotCompare_41 : decode cX12_cannotCompare 41 = .ok (.iaload, 1) := by decide +kernel
theorem dX12_cannotCompare_42 : decode cX12_cannotCompare 42 = .ok (.ifCond .ge 11, 3) := by decide +kernel
theorem dX12_cannotCompare_45 : decode cX12_cannotCompare 45 = .ok (.aload_n 0, 1) := by decide +kernel
theorem dX12_cannotCompare_46 : decode cX12_cannotCompare 46 = .ok (.iconst 2, 1) := by decide +kernel
theorem dX12_cannotCompare_47 : decode cX12_cannotCompare 47 = .ok (.putfield 1, 3) := by decide +kernel
theorem dX12_cannotCompare_50 : decode cX12_cannotCompare 50 = .ok (.goto 23, 3) := by decide +kernel
theorem dX12_cannotCompare_53 : decode cX12_cannotCompare 53 = .ok (.aload_n 0, 1) := by decide +kernel
theorem dX12_cannotCompare_54 : decode cX12_cannotCompare 54 = .ok (.getfield 55, 3) := by decide +kernel
theorem dX12_cannotCompare_57 : decode cX12_cannotCompare 57 = .ok (.iload_n 1, 1) := by decide +kernel
theorem dX12_cannotCompare_58 : decode cX12_cannotCompare 58 = .ok (.iaload, 1) := by decide +kernel
theorem dX12_cannotCompare_59 : decode cX12_cannotCompare 59 = .ok (.aload_n 0, 1) := by decide +kernel
theorem dX12_cannotCompare_60 : decode cX12_cannotCompare 60 = .ok (.getfield 55, 3) := by decide +kernel
theorem dX12_cannotCompare_63 : decode cX12_cannotCompare 63 = .ok (.iload_n 2, 1) := by decide +kernel
theorem dX12_cannotCompare_64 : decode cX12_cannotCompare 64 = .ok (.iaload, 1) := by decide +kernel
theorem dX12_cannotCompare_65 : decode cX12_cannotCompare 65 = .ok (.if_icmp .eq 8, 3) := by decide +kernel
theorem dX12_cannotCompare_68 : decode cX12_cannotCompare 68 = .ok (.aload_n 0, 1) := by decide +kernel
theorem dX12_cannotCompare_69 : decode cX12_cannotCompare 69 = .ok (.iconst 3, 1) := by decide +kernel
theorem dX12_cannotCompare_70 : decode cX12_cannotCompare 70 = .ok (.putfield 1, 3) := by decide +kernel
theorem dX12_cannotCompare_73 : decode cX12_cannotCompare 73 = .ok (.aload_n 0, 1) := by decide +kernel
theorem dX12_cannotCompare_74 : decode cX12_cannotCompare 74 = .ok (.getfield 1, 3) := by decide +kernel
theorem dX12_cannotCompare_77 : decode cX12_cannotCompare 77 = .ok (.ifCond .le 7, 3) := by decide +kernel
theorem dX12_cannotCompare_80 : decode cX12_cannotCompare 80 = .ok (.iconst 1, 1) := by decide +kernel
theorem dX12_cannotCompare_81 : decode cX12_cannotCompare 81 = .ok (.goto 4, 3) := by decide +kernel
theorem dX12_cannotCompare_84 : decode cX12_cannotCompare 84 = .ok (.iconst 0, 1) := by decide +kernel
theorem dX12_cannotCompare_85 : decode cX12_cannotCompare 85 = .ok (.ireturn, 1) := by decide +kernel
theorem dX12_areSame_0 : decode cX12_areSame 0 = .ok (.aload_n 0, 1) := by decide +kernel
theorem dX12_areSame_1 : decode cX12_areSame 1 = .ok (.iload_n 1, 1) := by decide +kernel
theorem dX12_areSame_2 : decode cX12_areSame 2 = .ok (.iload_n 2, 1) := by decide +kernel
theorem dX12_areSame_3 : decode cX12_areSame 3 = .ok (.invokevirtual 172, 3) := by decide +kernel
theorem dX12_areSame_6 : decode cX12_areSame 6 = .ok (.ifCond .eq 5, 3) := by decide +kernel
theorem dX12_areSame_9 : decode cX12_areSame 9 = .ok (.iconst 0, 1) := by decide +kernel
theorem dX12_areSame_10 : decode cX12_areSame 10 = .ok (.ireturn, 1) := by decide +kernel
theorem dX12_areSame_11 : decode cX12_areSame 11 = .ok (.iconst 1, 1) := by decide +kernel
theorem dX12_areSame_12 : decode cX12_areSame 12 = .ok (.istore_n 3, 1) := by decide +kernel
theorem dX12_areSame_13 : decode cX12_areSame 13 = .ok (.iconst 0, 1) := by decide +kernel
theorem dX12_areSame_14 : decode cX12_areSame 14 = .ok (.istore 4, 2) := by decide +kernel
theorem dX12_areSame_16 : decode cX12_areSame 16 = .ok (.iload 4, 2) := by decide +kernel
theorem dX12_areSame_18 : decode cX12_areSame 18 = .ok (.sipush 1024, 3) := by decide +kernel
theorem dX12_areSame_21 : decode cX12_areSame 21 = .ok (.if_icmp .ge 38, 3) := by decide +kernel
theorem dX12_areSame_24 : decode cX12_areSame 24 = .ok (.iload_n 3, 1) := by decide +kernel
theorem dX12_areSame_25 : decode cX12_areSame 25 = .ok (.aload_n 0, 1) := by decide +kernel
theorem dX12_areSame_26 : decode cX12_areSame 26 = .ok (.getfield 52, 3) := by decide +kernel
theorem dX12_areSame_29 : decode cX12_areSame 29 = .ok (.iload_n 1, 1) := by decide +kernel
theorem dX12_areSame_30 : decode cX12_areSame 30 = .ok (.aaload, 1) := by decide +kernel
theorem dX12_areSame_31 : decode cX12_areSame 31 = .ok (.iload 4, 2) := by decide +kernel
theorem dX12_areSame_33 : decode cX12_areSame 33 = .ok (.baload, 1) := by decide +kernel
theorem dX12_areSame_34 : decode cX12_areSame 34 = .ok (.aload_n 0, 1) := by decide +kernel
theorem dX12_areSame_35 : decode cX12_areSame 35 = .ok (.getfield 52, 3) := by decide +kernel
theorem dX12_areSame_38 : decode cX12_areSame 38 = .ok (.iload_n 2, 1) := by decide +kernel
theorem dX12_areSame_39 : decode cX12_areSame 39 = .ok (.aaload, 1) := by decide +kernel
theorem dX12_areSame_40 : decode cX12_areSame 40 = .ok (.iload 4, 2) := by decide +kernel
theorem dX12_areSame_42 : decode cX12_areSame 42 = .ok (.baload, 1) := by decide +kernel
theorem dX12_areSame_43 : decode cX12_areSame 43 = .ok (.if_icmp .ne 7, 3) := by decide +kernel
theorem dX12_areSame_46 : decode cX12_areSame 46 = .ok (.iconst 1, 1) := by decide +kernel
theorem dX12_areSame_47 : decode cX12_areSame 47 = .ok (.goto 4, 3) := by decide +kernel
theorem dX12_areSame_50 : decode cX12_areSame 50 = .ok (.iconst 0, 1) := by decide +kernel
theorem dX12_areSame_51 : decode cX12_areSame 51 = .ok (.iand, 1) := by decide +kernel
theorem dX12_areSame_52 : decode cX12_areSame 52 = .ok (.istore_n 3, 1) := by decide +kernel
theorem dX12_areSame_53 : decode cX12_areSame 53 = .ok (.iinc 4 1, 3) := by decide +kernel
theorem dX12_areSame_56 : decode cX12_areSame 56 = .ok (.goto (-40), 3) := by decide +kernel
theorem dX12_areSame_59 : decode cX12_areSame 59 = .ok (.iload_n 3, 1) := by decide +kernel
theorem dX12_areSame_60 : decode cX12_areSame 60 = .ok (.ireturn, 1) := by decide +kernel
theorem dX12_isWithin_0 : decode cX12_isWithin 0 = .ok (.aload_n 0, 1) := by decide +kernel
theorem dX12_isWithin_1 : decode cX12_isWithin 1 = .ok (.iload_n 1, 1) := by decide +kernel
theorem dX12_isWithin_2 : decode cX12_isWithin 2 = .ok (.iload_n 2, 1) := by decide +kernel
theorem dX12_isWithin_3 : decode cX12_isWithin 3 = .ok (.invokevirtual 172, 3) := by decide +kernel
theorem dX12_isWithin_6 : decode cX12_isWithin 6 = .ok (.ifCond .eq 5, 3) := by decide +kernel
theorem dX12_isWithin_9 : decode cX12_isWithin 9 = .ok (.iconst 0, 1) := by decide +kernel
theorem dX12_isWithin_10 : decode cX12_isWithin 10 = .ok (.ireturn, 1) := by decide +kernel
theorem dX12_isWithin_11 : decode cX12_isWithin 11 = .ok (.iconst 1, 1) := by decide +kernel
theorem dX12_isWithin_12 : decode cX12_isWithin 12 = .ok (.istore_n 3, 1) := by decide +kernel
theorem dX12_isWithin_13 : decode cX12_isWithin 13 = .ok (.iconst 0, 1) := by decide +kernel
theorem dX12_isWithin_14 : decode cX12_isWithin 14 = .ok (.istore 4, 2) := by decide +kernel
theorem dX12_isWithin_16 : decode cX12_isWithin 16 = .ok (.iload 4, 2) := by decide +kernel
theorem dX12_isWithin_18 : decode cX12_isWithin 18 = .ok (.sipush 1024, 3) := by decide +kernel
theorem dX12_isWithin_21 : decode cX12_isWithin 21 = .ok (.if_icmp .ge 41, 3) := by decide +kernel
theorem dX12_isWithin_24 : decode cX12_isWithin 24 = .ok (.iload_n 3, 1) := by decide +kernel
theorem dX12_isWithin_25 : decode cX12_isWithin 25 = .ok (.aload_n 0, 1) := by decide +kernel
theorem dX12_isWithin_26 : decode cX12_isWithin 26 = .ok (.getfield 52, 3) := by decide +kernel
theorem dX12_isWithin_29 : decode cX12_isWithin 29 = .ok (.iload_n 1, 1) := by decide +kernel
theorem dX12_isWithin_30 : decode cX12_isWithin 30 = .ok (.aaload, 1) := by decide +kernel
theorem dX12_isWithin_31 : decode cX12_isWithin 31 = .ok (.iload 4, 2) := by decide +kernel
theorem dX12_isWithin_33 : decode cX12_isWithin 33 = .ok (.baload, 1) := by decide +kernel
theorem dX12_isWithin_34 : decode cX12_isWithin 34 = .ok (.ifCond .eq 15, 3) := by decide +kernel
theorem dX12_isWithin_37 : decode cX12_isWithin 37 = .ok (.aload_n 0, 1) := by decide +kernel
theorem dX12_isWithin_38 : decode cX12_isWithin 38 = .ok (.getfield 52, 3) := by decide +kernel
theorem dX12_isWithin_41 : decode cX12_isWithin 41 = .ok (.iload_n 2, 1) := by decide +kernel
theorem dX12_isWithin_42 : decode cX12_isWithin 42 = .ok (.aaload, 1) := by decide +kernel
theorem dX12_isWithin_43 : decode cX12_isWithin 43 = .ok (.iload 4, 2) := by decide +kernel
theorem dX12_isWithin_45 : decode cX12_isWithin 45 = .ok (.baload, 1) := by decide +kernel
theorem dX12_isWithin_46 : decode cX12_isWithin 46 = .ok (.ifCond .eq 7, 3) := by decide +kernel
theorem dX12_isWithin_49 : decode cX12_isWithin 49 = .ok (.iconst 1, 1) := by decide +kernel
theorem dX12_isWithin_50 : decode cX12_isWithin 50 = .ok (.goto 4, 3) := by decide +kernel
theorem dX12_isWithin_53 : decode cX12_isWithin 53 = .ok (.iconst 0, 1) := by decide +kernel
theorem dX12_isWithin_54 : decode cX12_isWithin 54 = .ok (.iand, 1) := by decide +kernel
theorem dX12_isWithin_55 : decode cX12_isWithin 55 = .ok (.istore_n 3, 1) := by decide +kernel
theorem dX12_isWithin_56 : decode cX12_isWithin 56 = .ok (.iinc 4 1, 3) := by decide +kernel
theorem dX12_isWithin_59 : decode cX12_isWithin 59 = .ok (.goto (-43), 3) := by decide +kernel
theorem dX12_isWithin_62 : decode cX12_isWithin 62 = .ok (.iload_n 3, 1) := by decide +kernel
theorem dX12_isWithin_63 : decode cX12_isWithin 63 = .ok (.ireturn, 1) := by decide +kernel
theorem dX12_density_0 : decode cX12_density 0 = .ok (.aload_n 0, 1) := by decide +kernel
theorem dX12_density_1 : decode cX12_density 1 = .ok (.invokevirtual 105, 3) := by decide +kernel
theorem dX12_density_4 : decode cX12_density 4 = .ok (.l2f, 1) := by decide +kernel
theorem dX12_density_5 : decode cX12_density 5 = .ok (.aload_n 0, 1) := by decide +kernel
theorem dX12_density_6 : decode cX12_density 6 = .ok (.invokevirtual 98, 3) := by decide +kernel
theorem dX12_density_9 : decode cX12_density 9 = .ok (.i2f, 1) := by decide +kernel
theorem dX12_density_10 : decode cX12_density 10 = .ok (.fdiv, 1) := by decide +kernel
theorem dX12_density_11 : decode cX12_density 11 = .ok (.freturn, 1) := by decide +kernel
theorem dX12_meanTrue_0 : decode cX12_meanTrue 0 = .ok (.aload_n 0, 1) := by decide +kernel
theorem dX12_meanTrue_1 : decode cX12_meanTrue 1 = .ok (.iconst 0, 1) := by decide +kernel
theorem dX12_meanTrue_2 : decode cX12_meanTrue 2 = .ok (.putfield 1, 3) := by decide +kernel
theorem dX12_meanTrue_5 : decode cX12_meanTrue 5 = .ok (.lconst 0, 1) := by decide +kernel
theorem dX12_meanTrue_6 : decode cX12_meanTrue 6 = .ok (.lstore_n 1, 1) := by decide +kernel
theorem dX12_meanTrue_7 : decode cX12_meanTrue 7 = .ok (.lconst 0, 1) := by decide +kernel
theorem dX12_meanTrue_8 : decode cX12_meanTrue 8 = .ok (.lstore_n 3, 1) := by decide +kernel
theorem dX12_meanTrue_9 : decode cX12_meanTrue 9 = .ok (.iconst 0, 1) := by decide +kernel
theorem dX12_meanTrue_10 : decode cX12_meanTrue 10 = .ok (.istore 5, 2) := by decide +kernel
theorem dX12_meanTrue_12 : decode cX12_meanTrue 12 = .ok (.iload 5, 2) := by decide +kernel
theorem dX12_meanTrue_14 : decode cX12_meanTrue 14 = .ok (.aload_n 0, 1) := by decide +kernel
theorem dX12_meanTrue_15 : decode cX12_meanTrue 15 = .ok (.invokevirtual 98, 3) := by decide +kernel
theorem dX12_meanTrue_18 : decode cX12_meanTrue 18 = .ok (.if_icmp .ge 46, 3) := by decide +kernel
theorem dX12_meanTrue_21 : decode cX12_meanTrue 21 = .ok (.aload_n 0, 1) := by decide +kernel
theorem dX12_meanTrue_22 : decode cX12_meanTrue 22 = .ok (.iload 5, 2) := by decide +kernel
theorem dX12_meanTrue_24 : decode cX12_meanTrue 24 = .ok (.invokevirtual 102, 3) := by decide +kernel
theorem dX12_meanTrue_27 : decode cX12_meanTrue 27 = .ok (.ifCond .ne 6, 3) := by decide +kernel
theorem dX12_meanTrue_30 : decode cX12_meanTrue 30 = .ok (.goto 28, 3) := by decide +kernel
theorem dX12_meanTrue_33 : decode cX12_meanTrue 33 = .ok (.lload_n 1, 1) := by decide +kernel
theorem dX12_meanTrue_34 : decode cX12_meanTrue 34 = .ok (.aload_n 0, 1) := by decide +kernel
theorem dX12_meanTrue_35 : decode cX12_meanTrue 35 = .ok (.iload 5, 2) := by decide +kernel
theorem dX12_meanTrue_37 : decode cX12_meanTrue 37 = .ok (.invokevirtual 109, 3) := by decide +kernel
theorem dX12_meanTrue_40 : decode cX12_meanTrue 40 = .ok (.ladd, 1) := by decide +kernel
theorem dX12_meanTrue_41 : decode cX12_meanTrue 41 = .ok (.lstore_n 1, 1) := by decide +kernel
theorem dX12_meanTrue_42 : decode cX12_meanTrue 42 = .ok (.lload_n 3, 1) := by decide +kernel
theorem dX12_meanTrue_43 : decode cX12_meanTrue 43 = .ok (.aload_n 0, 1) := by decide +kernel
theorem dX12_meanTrue_44 : decode cX12_meanTrue 44 = .ok (.iload 5, 2) := by decide +kernel
theorem dX12_meanTrue_46 : decode cX12_meanTrue 46 = .ok (.invokevirtual 109, 3) := by decide +kernel
theorem dX12_meanTrue_49 : decode cX12_meanTrue 49 = .ok (.iload 5, 2) := by decide +kernel
theorem dX12_meanTrue_51 : decode cX12_meanTrue 51 = .ok (.invokestatic 92, 3) := by decide +kernel
theorem dX12_meanTrue_54 : decode cX12_meanTrue 54 = .ok (.i2l, 1) := by decide +kernel
theorem dX12_meanTrue_55 : decode cX12_meanTrue 55 = .ok (.lmul, 1) := by decide +kernel
theorem dX12_meanTrue_56 : decode cX12_meanTrue 56 = .ok (.ladd, 1) := by decide +kernel
theorem dX12_meanTrue_57 : decode cX12_meanTrue 57 = .ok (.lstore_n 3, 1) := by decide +kernel
theorem dX12_meanTrue_58 : decode cX12_meanTrue 58 = .ok (.iinc 5 1, 3) := by decide +kernel
theorem dX12_meanTrue_61 : decode cX12_meanTrue 61 = .ok (.goto (-49), 3) := by decide +kernel
theorem dX12_meanTrue_64 : decode cX12_meanTrue 64 = .ok (.lload_n 1, 1) := by decide +kernel
theorem dX12_meanTrue_65 : decode cX12_meanTrue 65 = .ok (.lconst 0, 1) := by decide +kernel
theorem dX12_meanTrue_66 : decode cX12_meanTrue 66 = .ok (.lcmp, 1) := by decide +kernel
theorem dX12_meanTrue_67 : decode cX12_meanTrue 67 = .ok (.ifCond .ne 12, 3) := by decide +kernel
theorem dX12_meanTrue_70 : decode cX12_meanTrue 70 = .ok (.aload_n 0, 1) := by decide +kernel
theorem dX12_meanTrue_71 : decode cX12_meanTrue 71 = .ok (.iconst 1, 1) := by decide +kernel
theorem dX12_meanTrue_72 : decode cX12_meanTrue 72 = .ok (.invokevirtual 71, 3) := by decide +kernel
theorem dX12_meanTrue_75 : decode cX12_meanTrue 75 = .ok (.i2d, 1) := by decide +kernel
theorem dX12_meanTrue_76 : decode cX12_meanTrue 76 = .ok (.goto 8, 3) := by decide +kernel
theorem dX12_meanTrue_79 : decode cX12_meanTrue 79 = .ok (.lload_n 3, 1) := by decide +kernel
theorem dX12_meanTrue_80 : decode cX12_meanTrue 80 = .ok (.l2d, 1) := by decide +kernel
theorem dX12_meanTrue_81 : decode cX12_meanTrue 81 = .ok (.lload_n 1, 1) := by decide +kernel
theorem dX12_meanTrue_82 : decode cX12_meanTrue 82 = .ok (.l2d, 1) := by decide +kernel
theorem dX12_meanTrue_83 : decode cX12_meanTrue 83 = .ok (.ddiv, 1) := by decide +kernel
theorem dX12_meanTrue_84 : decode cX12_meanTrue 84 = .ok (.dreturn, 1) := by decide +kernel
theorem dJ6_bitCount_0f7a4_0 : decode cJ6_bitCount_0f7a4 0 = .ok (.iload_n 0, 1) := by decide +kernel
theorem dJ6_bitCount_0f7a4_1 : decode cJ6_bitCount_0f7a4 1 = .ok (.iload_n 0, 1) := by decide +kernel
theorem dJ6_bitCount_0f7a4_2 : decode cJ6_bitCount_0f7a4 2 = .ok (.iconst 1, 1) := by decide +kernel
theorem dJ6_bitCount_0f7a4_3 : decode cJ6_bitCount_0f7a4 3 = .ok (.iushr, 1) := by decide +kernel
theorem dJ6_bitCount_0f7a4_4 : decode cJ6_bitCount_0f7a4 4 = .ok (.ldc_w 265, 3) := by decide +kernel
theorem dJ6_bitCount_0f7a4_7 : decode cJ6_bitCount_0f7a4 7 = .ok (.iand, 1) := by decide +kernel
theorem dJ6_bitCount_0f7a4_8 : decode cJ6_bitCount_0f7a4 8 = .ok (.isub, 1) := by decide +kernel
theorem dJ6_bitCount_0f7a4_9 : decode cJ6_bitCount_0f7a4 9 = .ok (.istore_n 0, 1) := by decide +kernel
theorem dJ6_bitCount_0f7a4_10 : decode cJ6_bitCount_0f7a4 10 = .ok (.iload_n 0, 1) := by decide +kernel
theorem dJ6_bitCount_0f7a4_11 : decode cJ6_bitCount_0f7a4 11 = .ok (.ldc_w 266, 3) := by decide +kernel
theorem dJ6_bitCount_0f7a4_14 : decode cJ6_bitCount_0f7a4 14 = .ok (.iand, 1) := by decide +kernel
theorem dJ6_bitCount_0f7a4_15 : decode cJ6_bitCount_0f7a4 15 = .ok (.iload_n 0, 1) := by decide +kernel
theorem dJ6_bitCount_0f7a4_16 : decode cJ6_bitCount_0f7a4 16 = .ok (.iconst 2, 1) := by decide +kernel
theorem dJ6_bitCount_0f7a4_17 : decode cJ6_bitCount_0f7a4 17 = .ok (.iushr, 1) := by decide +kernel
theorem dJ6_bitCount_0f7a4_18 : decode cJ6_bitCount_0f7a4 18 = .ok (.ldc_w 266, 3) := by decide +kernel
theorem dJ6_bitCount_0f7a4_21 : decode cJ6_bitCount_0f7a4 21 = .ok (.iand, 1) := by decide +kernel
theorem dJ6_bitCount_0f7a4_22 : decode cJ6_bitCount_0f7a4 22 = .ok (.iadd, 1) := by decide +kernel
theorem dJ6_bitCount_0f7a4_23 : decode cJ6_bitCount_0f7a4 23 = .ok (.istore_n 0, 1) := by decide +kernel
theorem dJ6_bitCount_0f7a4_24 : decode cJ6_bitCount_0f7a4 24 = .ok (.iload_n 0, 1) := by decide +kernel
theorem dJ6_bitCount_0f7a4_25 : decode cJ6_bitCount_0f7a4 25 = .ok (.iload_n 0, 1) := by decide +kernel
theorem dJ6_bitCount_0f7a4_26 : decode cJ6_bitCount_0f7a4 26 = .ok (.iconst 4, 1) := by decide +kernel
theorem dJ6_bitCount_0f7a4_27 : decode cJ6_bitCount_0f7a4 27 = .ok (.iushr, 1) := by decide +kernel
theorem dJ6_bitCount_0f7a4_28 : decode cJ6_bitCount_0f7a4 28 = .ok (.iadd, 1) := by decide +kernel
theorem dJ6_bitCount_0f7a4_29 : decode cJ6_bitCount_0f7a4 29 = .ok (.ldc_w 267, 3) := by decide +kernel
theorem dJ6_bitCount_0f7a4_32 : decode cJ6_bitCount_0f7a4 32 = .ok (.iand, 1) := by decide +kernel
theorem dJ6_bitCount_0f7a4_33 : decode cJ6_bitCount_0f7a4 33 = .ok (.istore_n 0, 1) := by decide +kernel
theorem dJ6_bitCount_0f7a4_34 : decode cJ6_bitCount_0f7a4 34 = .ok (.iload_n 0, 1) := by decide +kernel
theorem dJ6_bitCount_0f7a4_35 : decode cJ6_bitCount_0f7a4 35 = .ok (.iload_n 0, 1) := by decide +kernel
theorem dJ6_bitCount_0f7a4_36 : decode cJ6_bitCount_0f7a4 36 = .ok (.bipush 8, 2) := by decide +kernel
theorem dJ6_bitCount_0f7a4_38 : decode cJ6_bitCount_0f7a4 38 = .ok (.iushr, 1) := by decide +kernel
theorem dJ6_bitCount_0f7a4_39 : decode cJ6_bitCount_0f7a4 39 = .ok (.iadd, 1) := by decide +kernel
theorem dJ6_bitCount_0f7a4_40 : decode cJ6_bitCount_0f7a4 40 = .ok (.istore_n 0, 1) := by decide +kernel
theorem dJ6_bitCount_0f7a4_41 : decode cJ6_bitCount_0f7a4 41 = .ok (.iload_n 0, 1) := by decide +kernel
theorem dJ6_bitCount_0f7a4_42 : decode cJ6_bitCount_0f7a4 42 = .ok (.iload_n 0, 1) := by decide +kernel
theorem dJ6_bitCount_0f7a4_43 : decode cJ6_bitCount_0f7a4 43 = .ok (.bipush 16, 2) := by decide +kernel
theorem dJ6_bitCount_0f7a4_45 : decode cJ6_bitCount_0f7a4 45 = .ok (.iushr, 1) := by decide +kernel
theorem dJ6_bitCount_0f7a4_46 : decode cJ6_bitCount_0f7a4 46 = .ok (.iadd, 1) := by decide +kernel
theorem dJ6_bitCount_0f7a4_47 : decode cJ6_bitCount_0f7a4 47 = .ok (.istore_n 0, 1) := by decide +kernel
theorem dJ6_bitCount_0f7a4_48 : decode cJ6_bitCount_0f7a4 48 = .ok (.iload_n 0, 1) := by decide +kernel
theorem dJ6_bitCount_0f7a4_49 : decode cJ6_bitCount_0f7a4 49 = .ok (.bipush 63, 2) := by decide +kernel
theorem dJ6_bitCount_0f7a4_51 : decode cJ6_bitCount_0f7a4 51 = .ok (.iand, 1) := by decide +kernel
theorem dJ6_bitCount_0f7a4_52 : decode cJ6_bitCount_0f7a4 52 = .ok (.ireturn, 1) := by decide +kernel
theorem dJ13_bitCount_95d88_0 : decode cJ13_bitCount_95d88 0 = .ok (.lload_n 0, 1) := by decide +kernel
theorem dJ13_bitCount_95d88_1 : decode cJ13_bitCount_95d88 1 = .ok (.lload_n 0, 1) := by decide +kernel
theorem dJ13_bitCount_95d88_2 : decode cJ13_bitCount_95d88 2 = .ok (.iconst 1, 1) := by decide +kernel
theorem dJ13_bitCount_95d88_3 : decode cJ13_bitCount_95d88 3 = .ok (.lushr, 1) := by decide +kernel
theorem dJ13_bitCount_95d88_4 : decode cJ13_bitCount_95d88 4 = .ok (.ldc2_w 314, 3) := by decide +kernel
theorem dJ13_bitCount_95d88_7 : decode cJ13_bitCount_95d88 7 = .ok (.land, 1) := by decide +kernel
theorem dJ13_bitCount_95d88_8 : decode cJ13_bitCount_95d88 8 = .ok (.lsub, 1) := by decide +kernel
theorem dJ13_bitCount_95d88_9 : decode cJ13_bitCount_95d88 9 = .ok (.lstore_n 0, 1) := by decide +kernel
theorem dJ13_bitCount_95d88_10 : decode cJ13_bitCount_95d88 10 = .ok (.lload_n 0, 1) := by decide +kernel
theorem dJ13_bitCount_95d88_11 : decode cJ13_bitCount_95d88 11 = .ok (.ldc2_w 316, 3) := by decide +kernel
theorem dJ13_bitCount_95d88_14 : decode cJ13_bitCount_95d88 14 = .ok (.land, 1) := by decide +kernel
theorem dJ13_bitCount_95d88_15 : decode cJ13_bitCount_95d88 15 = .ok (.lload_n 0, 1) := by decide +kernel
theorem dJ13_bitCount_95d88_16 : decode cJ13_bitCount_95d88 16 = .ok (.iconst 2, 1) := by decide +kernel
theorem dJ13_bitCount_95d88_17 : decode cJ13_bitCount_95d88 17 = .ok (.lushr, 1) := by decide +kernel
theorem dJ13_bitCount_95d88_18 : decode cJ13_bitCount_95d88 18 = .ok (.ldc2_w 316, 3) := by decide +kernel
theorem dJ13_bitCount_95d88_21 : decode cJ13_bitCount_95d88 21 = .ok (.land, 1) := by decide +kernel
theorem dJ13_bitCount_95d88_22 : decode cJ13_bitCount_95d88 22 = .ok (.ladd, 1) := by decide +kernel
theorem dJ13_bitCount_95d88_23 : decode cJ13_bitCount_95d88 23 = .ok (.lstore_n 0, 1) := by decide +kernel
theorem dJ13_bitCount_95d88_24 : decode cJ13_bitCount_95d88 24 = .ok (.lload_n 0, 1) := by decide +kernel
theorem dJ13_bitCount_95d88_25 : decode cJ13_bitCount_95d88 25 = .ok (.lload_n 0, 1) := by decide +kernel
theorem dJ13_bitCount_95d88_26 : decode cJ13_bitCount_95d88 26 = .ok (.iconst 4, 1) := by decide +kernel
theorem dJ13_bitCount_95d88_27 : decode cJ13_bitCount_95d88 27 = .ok (.lushr, 1) := by decide +kernel
theorem dJ13_bitCount_95d88_28 : decode cJ13_bitCount_95d88 28 = .ok (.ladd, 1) := by decide +kernel
theorem dJ13_bitCount_95d88_29 : decode cJ13_bitCount_95d88 29 = .ok (.ldc2_w 318, 3) := by decide +kernel
theorem dJ13_bitCount_95d88_32 : decode cJ13_bitCount_95d88 32 = .ok (.land, 1) := by decide +kernel
theorem dJ13_bitCount_95d88_33 : decode cJ13_bitCount_95d88 33 = .ok (.lstore_n 0, 1) := by decide +kernel
theorem dJ13_bitCount_95d88_34 : decode cJ13_bitCount_95d88 34 = .ok (.lload_n 0, 1) := by decide +kernel
theorem dJ13_bitCount_95d88_35 : decode cJ13_bitCount_95d88 35 = .ok (.lload_n 0, 1) := by decide +kernel
theorem dJ13_bitCount_95d88_36 : decode cJ13_bitCount_95d88 36 = .ok (.bipush 8, 2) := by decide +kernel
theorem dJ13_bitCount_95d88_38 : decode cJ13_bitCount_95d88 38 = .ok (.lushr, 1) := by decide +kernel
theorem dJ13_bitCount_95d88_39 : decode cJ13_bitCount_95d88 39 = .ok (.ladd, 1) := by decide +kernel
theorem dJ13_bitCount_95d88_40 : decode cJ13_bitCount_95d88 40 = .ok (.lstore_n 0, 1) := by decide +kernel
theorem dJ13_bitCount_95d88_41 : decode cJ13_bitCount_95d88 41 = .ok (.lload_n 0, 1) := by decide +kernel
theorem dJ13_bitCount_95d88_42 : decode cJ13_bitCount_95d88 42 = .ok (.lload_n 0, 1) := by decide +kernel
theorem dJ13_bitCount_95d88_43 : decode cJ13_bitCount_95d88 43 = .ok (.bipush 16, 2) := by decide +kernel
theorem dJ13_bitCount_95d88_45 : decode cJ13_bitCount_95d88 45 = .ok (.lushr, 1) := by decide +kernel
theorem dJ13_bitCount_95d88_46 : decode cJ13_bitCount_95d88 46 = .ok (.ladd, 1) := by decide +kernel
theorem dJ13_bitCount_95d88_47 : decode cJ13_bitCount_95d88 47 = .ok (.lstore_n 0, 1) := by decide +kernel
theorem dJ13_bitCount_95d88_48 : decode cJ13_bitCount_95d88 48 = .ok (.lload_n 0, 1) := by decide +kernel
theorem dJ13_bitCount_95d88_49 : decode cJ13_bitCount_95d88 49 = .ok (.lload_n 0, 1) := by decide +kernel
theorem dJ13_bitCount_95d88_50 : decode cJ13_bitCount_95d88 50 = .ok (.bipush 32, 2) := by decide +kernel
theorem dJ13_bitCount_95d88_52 : decode cJ13_bitCount_95d88 52 = .ok (.lushr, 1) := by decide +kernel
theorem dJ13_bitCount_95d88_53 : decode cJ13_bitCount_95d88 53 = .ok (.ladd, 1) := by decide +kernel
theorem dJ13_bitCount_95d88_54 : decode cJ13_bitCount_95d88 54 = .ok (.lstore_n 0, 1) := by decide +kernel
theorem dJ13_bitCount_95d88_55 : decode cJ13_bitCount_95d88 55 = .ok (.lload_n 0, 1) := by decide +kernel
theorem dJ13_bitCount_95d88_56 : decode cJ13_bitCount_95d88 56 = .ok (.l2i, 1) := by decide +kernel
theorem dJ13_bitCount_95d88_57 : decode cJ13_bitCount_95d88 57 = .ok (.bipush 127, 2) := by decide +kernel
theorem dJ13_bitCount_95d88_59 : decode cJ13_bitCount_95d88 59 = .ok (.iand, 1) := by decide +kernel
theorem dJ13_bitCount_95d88_60 : decode cJ13_bitCount_95d88 60 = .ok (.ireturn, 1) := by decide +kernel
theorem dL_addVariable_0 : decode cL_addVariable 0 = .ok (.aload_n 1, 1) := by decide +kernel
theorem dL_addVariable_1 : decode cL_addVariable 1 = .ok (.iconst 0, 1) := by decide +kernel
theorem dL_addVariable_2 : decode cL_addVariable 2 = .ok (.aload_n 0, 1) := by decide +kernel
theorem dL_addVariable_3 : decode cL_addVariable 3 = .ok (.invokevirtual 7, 3) := by decide +kernel
theorem dL_addVariable_6 : decode cL_addVariable 6 = .ok (.i2l, 1) := by decide +kernel
theorem dL_addVariable_7 : decode cL_addVariable 7 = .ok (.lastore, 1) := by decide +kernel
theorem dL_addVariable_8 : decode cL_addVariable 8 = .ok (.goto 6, 3) := by decide +kernel
theorem dL_addVariable_11 : decode cL_addVariable 11 = .ok (.astore_n 2, 1) := by decide +kernel
theorem dL_addVariable_12 : decode cL_addVariable 12 = .ok (.iconst 1, 1) := by decide +kernel
theorem dL_addVariable_13 : decode cL_addVariable 13 = .ok (.ireturn, 1) := by decide +kernel
theorem dL_addVariable_14 : decode cL_addVariable 14 = .ok (.iconst 0, 1) := by decide +kernel
theorem dL_addVariable_15 : decode cL_addVariable 15 = .ok (.ireturn, 1) := by decide +kernel
theorem dL_setWeights_0 : decode cL_setWeights 0 = .ok (.aload 4, 2) := by decide +kernel
theorem dL_setWeights_2 : decode cL_setWeights 2 = .ok (.iconst 0, 1) := by decide +kernel
theorem dL_setWeights_3 : decode cL_setWeights 3 = .ok (.aload_n 0, 1) := by decide +kernel
theorem dL_setWeights_4 : decode cL_setWeights 4 = .ok (.iload_n 1, 1) := by decide +kernel
theorem dL_setWeights_5 : decode cL_setWeights 5 = .ok (.iload_n 2, 1) := by decide +kernel
theorem dL_setWeights_6 : decode cL_setWeights 6 = .ok (.iload_n 3, 1) := by decide +kernel
theorem dL_setWeights_7 : decode cL_setWeights 7 = .ok (.invokevirtual 15, 3) := by decide +kernel
theorem dL_setWeights_10 : decode cL_setWeights 10 = .ok (.i2l, 1) := by decide +kernel
theorem dL_setWeights_11 : decode cL_setWeights 11 = .ok (.lastore, 1) := by decide +kernel
theorem dL_setWeights_12 : decode cL_setWeights 12 = .ok (.goto 11, 3) := by decide +kernel
theorem dL_setWeights_15 : decode cL_setWeights 15 = .ok (.astore 5, 2) := by decide +kernel
theorem dL_setWeights_17 : decode cL_setWeights 17 = .ok (.iconst 1, 1) := by decide +kernel
theorem dL_setWeights_18 : decode cL_setWeights 18 = .ok (.ireturn, 1) := by decide +kernel
theorem dL_setWeights_19 : decode cL_setWeights 19 = .ok (.astore 5, 2) := by decide +kernel
theorem dL_setWeights_21 : decode cL_setWeights 21 = .ok (.iconst 2, 1) := by decide +kernel
theorem dL_setWeights_22 : decode cL_setWeights 22 = .ok (.ireturn, 1) := by decide +kernel
theorem dL_setWeights_23 : decode cL_setWeights 23 = .ok (.iconst 0, 1) := by decide +kernel
theorem dL_setWeights_24 : decode cL_setWeights 24 = .ok (.ireturn, 1) := by decide +kernel
theorem dL_addClause_0 : decode cL_addClause 0 = .ok (.aload_n 3, 1) := by decide +kernel
theorem dL_addClause_1 : decode cL_addClause 1 = .ok (.iconst 0, 1) := by decide +kernel
theorem dL_addClause_2 : decode cL_addClause 2 = .ok (.aload_n 0, 1) := by decide +kernel
theorem dL_addClause_3 : decode cL_addClause 3 = .ok (.iload_n 1, 1) := by decide +kernel
theorem dL_addClause_4 : decode cL_addClause 4 = .ok (.iload_n 2, 1) := by decide +kernel
theorem dL_addClause_5 : decode cL_addClause 5 = .ok (.invokevirtual 23, 3) := by decide +kernel
theorem dL_addClause_8 : decode cL_addClause 8 = .ok (.i2l, 1) := by decide +kernel
theorem dL_addClause_9 : decode cL_addClause 9 = .ok (.lastore, 1) := by decide +kernel
theorem dL_addClause_10 : decode cL_addClause 10 = .ok (.goto 11, 3) := by decide +kernel
theorem dL_addClause_13 : decode cL_addClause 13 = .ok (.astore 4, 2) := by decide +kernel
theorem dL_addClause_15 : decode cL_addClause 15 = .ok (.iconst 1, 1) := by decide +kernel
theorem dL_addClause_16 : decode cL_addClause 16 = .ok (.ireturn, 1) := by decide +kernel
theorem dL_addClause_17 : decode cL_addClause 17 = .ok (.astore 4, 2) := by decide +kernel
theorem dL_addClause_19 : decode cL_addClause 19 = .ok (.iconst 2, 1) := by decide +kernel
theorem dL_addClause_20 : decode cL_addClause 20 = .ok (.ireturn, 1) := by decide +kernel
theorem dL_addClause_21 : decode cL_addClause 21 = .ok (.iconst 0, 1) := by decide +kernel
theorem dL_addClause_22 : decode cL_addClause 22 = .ok (.ireturn, 1) := by decide +kernel
theorem dL_addParity_0 : decode cL_addParity 0 = .ok (.aload_n 3, 1) := by decide +kernel
theorem dL_addParity_1 : decode cL_addParity 1 = .ok (.iconst 0, 1) := by decide +kernel
theorem dL_addParity_2 : decode cL_addParity 2 = .ok (.aload_n 0, 1) := by decide +kernel
theorem dL_addParity_3 : decode cL_addParity 3 = .ok (.iload_n 1, 1) := by decide +kernel
theorem dL_addParity_4 : decode cL_addParity 4 = .ok (.iload_n 2, 1) := by decide +kernel
theorem dL_addParity_5 : decode cL_addParity 5 = .ok (.invokevirtual 27, 3) := by decide +kernel
theorem dL_addParity_8 : decode cL_addParity 8 = .ok (.i2l, 1) := by decide +kernel
theorem dL_addParity_9 : decode cL_addParity 9 = .ok (.lastore, 1) := by decide +kernel
theorem dL_addParity_10 : decode cL_addParity 10 = .ok (.goto 11, 3) := by decide +kernel
theorem dL_addParity_13 : decode cL_addParity 13 = .ok (.astore 4, 2) := by decide +kernel
theorem dL_addParity_15 : decode cL_addParity 15 = .ok (.iconst 1, 1) := by decide +kernel
theorem dL_addParity_16 : decode cL_addParity 16 = .ok (.ireturn, 1) := by decide +kernel
theorem dL_addParity_17 : decode cL_addParity 17 = .ok (.astore 4, 2) := by decide +kernel
theorem dL_addParity_19 : decode cL_addParity 19 = .ok (.iconst 2, 1) := by decide +kernel
theorem dL_addParity_20 : decode cL_addParity 20 = .ok (.ireturn, 1) := by decide +kernel
theorem dL_addParity_21 : decode cL_addParity 21 = .ok (.iconst 0, 1) := by decide +kernel
theorem dL_addParity_22 : decode cL_addParity 22 = .ok (.ireturn, 1) := by decide +kernel
theorem dL_addBound_0 : decode cL_addBound 0 = .ok (.aload 4, 2) := by decide +kernel
theorem dL_addBound_2 : decode cL_addBound 2 = .ok (.iconst 0, 1) := by decide +kernel
theorem dL_addBound_3 : decode cL_addBound 3 = .ok (.aload_n 0, 1) := by decide +kernel
theorem dL_addBound_4 : decode cL_addBound 4 = .ok (.iload_n 1, 1) := by decide +kernel
theorem dL_addBound_5 : decode cL_addBound 5 = .ok (.iload_n 2, 1) := by decide +kernel
theorem dL_addBound_6 : decode cL_addBound 6 = .ok (.iload_n 3, 1) := by decide +kernel
theorem dL_addBound_7 : decode cL_addBound 7 = .ok (.invokevirtual 30, 3) := by decide +kernel
theorem dL_addBound_10 : decode cL_addBound 10 = .ok (.i2l, 1) := by decide +kernel
theorem dL_addBound_11 : decode cL_addBound 11 = .ok (.lastore, 1) := by decide +kernel
theorem dL_addBound_12 : decode cL_addBound 12 = .ok (.goto 11, 3) := by decide +kernel
theorem dL_addBound_15 : decode cL_addBound 15 = .ok (.astore 5, 2) := by decide +kernel
theorem dL_addBound_17 : decode cL_addBound 17 = .ok (.iconst 1, 1) := by decide +kernel
theorem dL_addBound_18 : decode cL_addBound 18 = .ok (.ireturn, 1) := by decide +kernel
theorem dL_addBound_19 : decode cL_addBound 19 = .ok (.astore 5, 2) := by decide +kernel
theorem dL_addBound_21 : decode cL_addBound 21 = .ok (.iconst 2, 1) := by decide +kernel
theorem dL_addBound_22 : decode cL_addBound 22 = .ok (.ireturn, 1) := by decide +kernel
theorem dL_addBound_23 : decode cL_addBound 23 = .ok (.iconst 0, 1) := by decide +kernel
theorem dL_addBound_24 : decode cL_addBound 24 = .ok (.ireturn, 1) := by decide +kernel
theorem dL_drop_0 : decode cL_drop 0 = .ok (.aload_n 2, 1) := by decide +kernel
theorem dL_drop_1 : decode cL_drop 1 = .ok (.iconst 0, 1) := by decide +kernel
theorem dL_drop_2 : decode cL_drop 2 = .ok (.aload_n 0, 1) := by decide +kernel
theorem dL_drop_3 : decode cL_drop 3 = .ok (.iload_n 1, 1) := by decide +kernel
theorem dL_drop_4 : decode cL_drop 4 = .ok (.invokevirtual 33, 3) := by decide +kernel
theorem dL_drop_7 : decode cL_drop 7 = .ok (.i2l, 1) := by decide +kernel
theorem dL_drop_8 : decode cL_drop 8 = .ok (.lastore, 1) := by decide +kernel
theorem dL_drop_9 : decode cL_drop 9 = .ok (.goto 9, 3) := by decide +kernel
theorem dL_drop_12 : decode cL_drop 12 = .ok (.astore_n 3, 1) := by decide +kernel
theorem dL_drop_13 : decode cL_drop 13 = .ok (.iconst 1, 1) := by decide +kernel
theorem dL_drop_14 : decode cL_drop 14 = .ok (.ireturn, 1) := by decide +kernel
theorem dL_drop_15 : decode cL_drop 15 = .ok (.astore_n 3, 1) := by decide +kernel
theorem dL_drop_16 : decode cL_drop 16 = .ok (.iconst 2, 1) := by decide +kernel
theorem dL_drop_17 : decode cL_drop 17 = .ok (.ireturn, 1) := by decide +kernel
theorem dL_drop_18 : decode cL_drop 18 = .ok (.iconst 0, 1) := by decide +kernel
theorem dL_drop_19 : decode cL_drop 19 = .ok (.ireturn, 1) := by decide +kernel
theorem dL_kind_0 : decode cL_kind 0 = .ok (.aload_n 2, 1) := by decide +kernel
theorem dL_kind_1 : decode cL_kind 1 = .ok (.iconst 0, 1) := by decide +kernel
theorem dL_kind_2 : decode cL_kind 2 = .ok (.aload_n 0, 1) := by decide +kernel
theorem dL_kind_3 : decode cL_kind 3 = .ok (.iload_n 1, 1) := by decide +kernel
theorem dL_kind_4 : decode cL_kind 4 = .ok (.invokevirtual 37, 3) := by decide +kernel
theorem dL_kind_7 : decode cL_kind 7 = .ok (.i2l, 1) := by decide +kernel
theorem dL_kind_8 : decode cL_kind 8 = .ok (.lastore, 1) := by decide +kernel
theorem dL_kind_9 : decode cL_kind 9 = .ok (.goto 6, 3) := by decide +kernel
theorem dL_kind_12 : decode cL_kind 12 = .ok (.astore_n 3, 1) := by decide +kernel
theorem dL_kind_13 : decode cL_kind 13 = .ok (.iconst 1, 1) := by decide +kernel
theorem dL_kind_14 : decode cL_kind 14 = .ok (.ireturn, 1) := by decide +kernel
theorem dL_kind_15 : decode cL_kind 15 = .ok (.iconst 0, 1) := by decide +kernel
theorem dL_kind_16 : decode cL_kind 16 = .ok (.ireturn, 1) := by decide +kernel
theorem dL_setEvidence_0 : decode cL_setEvidence 0 = .ok (.aload_n 3, 1) := by decide +kernel
theorem dL_setEvidence_1 : decode cL_setEvidence 1 = .ok (.iconst 0, 1) := by decide +kernel
theorem dL_setEvidence_2 : decode cL_setEvidence 2 = .ok (.aload_n 0, 1) := by decide +kernel
theorem dL_setEvidence_3 : decode cL_setEvidence 3 = .ok (.iload_n 1, 1) := by decide +kernel
theorem dL_setEvidence_4 : decode cL_setEvidence 4 = .ok (.iload_n 2, 1) := by decide +kernel
theorem dL_setEvidence_5 : decode cL_setEvidence 5 = .ok (.invokevirtual 41, 3) := by decide +kernel
theorem dL_setEvidence_8 : decode cL_setEvidence 8 = .ok (.i2l, 1) := by decide +kernel
theorem dL_setEvidence_9 : decode cL_setEvidence 9 = .ok (.lastore, 1) := by decide +kernel
theorem dL_setEvidence_10 : decode cL_setEvidence 10 = .ok (.goto 11, 3) := by decide +kernel
theorem dL_setEvidence_13 : decode cL_setEvidence 13 = .ok (.astore 4, 2) := by decide +kernel
theorem dL_setEvidence_15 : decode cL_setEvidence 15 = .ok (.iconst 1, 1) := by decide +kernel
theorem dL_setEvidence_16 : decode cL_setEvidence 16 = .ok (.ireturn, 1) := by decide +kernel
theorem dL_setEvidence_17 : decode cL_setEvidence 17 = .ok (.astore 4, 2) := by decide +kernel
theorem dL_setEvidence_19 : decode cL_setEvidence 19 = .ok (.iconst 2, 1) := by decide +kernel
theorem dL_setEvidence_20 : decode cL_setEvidence 20 = .ok (.ireturn, 1) := by decide +kernel
theorem dL_setEvidence_21 : decode cL_setEvidence 21 = .ok (.iconst 0, 1) := by decide +kernel
theorem dL_setEvidence_22 : decode cL_setEvidence 22 = .ok (.ireturn, 1) := by decide +kernel
theorem dL_holds_0 : decode cL_holds 0 = .ok (.aload_n 3, 1) := by decide +kernel
theorem dL_holds_1 : decode cL_holds 1 = .ok (.iconst 0, 1) := by decide +kernel
theorem dL_holds_2 : decode cL_holds 2 = .ok (.aload_n 0, 1) := by decide +kernel
theorem dL_holds_3 : decode cL_holds 3 = .ok (.iload_n 1, 1) := by decide +kernel
theorem dL_holds_4 : decode cL_holds 4 = .ok (.iload_n 2, 1) := by decide +kernel
theorem dL_holds_5 : decode cL_holds 5 = .ok (.invokevirtual 44, 3) := by decide +kernel
theorem dL_holds_8 : decode cL_holds 8 = .ok (.ifCond .eq 7, 3) := by decide +kernel
theorem dL_holds_11 : decode cL_holds 11 = .ok (.lconst 1, 1) := by decide +kernel
theorem dL_holds_12 : decode cL_holds 12 = .ok (.goto 4, 3) := by decide +kernel
theorem dL_holds_15 : decode cL_holds 15 = .ok (.lconst 0, 1) := by decide +kernel
theorem dL_holds_16 : decode cL_holds 16 = .ok (.lastore, 1) := by decide +kernel
theorem dL_holds_17 : decode cL_holds 17 = .ok (.goto 11, 3) := by decide +kernel
theorem dL_holds_20 : decode cL_holds 20 = .ok (.astore 4, 2) := by decide +kernel
theorem dL_holds_22 : decode cL_holds 22 = .ok (.iconst 1, 1) := by decide +kernel
theorem dL_holds_23 : decode cL_holds 23 = .ok (.ireturn, 1) := by decide +kernel
theorem dL_holds_24 : decode cL_holds 24 = .ok (.astore 4, 2) := by decide +kernel
theorem dL_holds_26 : decode cL_holds 26 = .ok (.iconst 2, 1) := by decide +kernel
theorem dL_holds_27 : decode cL_holds 27 = .ok (.ireturn, 1) := by decide +kernel
theorem dL_holds_28 : decode cL_holds 28 = .ok (.iconst 0, 1) := by decide +kernel
theorem dL_holds_29 : decode cL_holds 29 = .ok (.ireturn, 1) := by decide +kernel
theorem dL_weightWith_0 : decode cL_weightWith 0 = .ok (.aload_n 3, 1) := by decide +kernel
theorem dL_weightWith_1 : decode cL_weightWith 1 = .ok (.iconst 0, 1) := by decide +kernel
theorem dL_weightWith_2 : decode cL_weightWith 2 = .ok (.aload_n 0, 1) := by decide +kernel
theorem dL_weightWith_3 : decode cL_weightWith 3 = .ok (.iload_n 1, 1) := by decide +kernel
theorem dL_weightWith_4 : decode cL_weightWith 4 = .ok (.iload_n 2, 1) := by decide +kernel
theorem dL_weightWith_5 : decode cL_weightWith 5 = .ok (.invokevirtual 48, 3) := by decide +kernel
theorem dL_weightWith_8 : decode cL_weightWith 8 = .ok (.lastore, 1) := by decide +kernel
theorem dL_weightWith_9 : decode cL_weightWith 9 = .ok (.goto 11, 3) := by decide +kernel
theorem dL_weightWith_12 : decode cL_weightWith 12 = .ok (.astore 4, 2) := by decide +kernel
theorem dL_weightWith_14 : decode cL_weightWith 14 = .ok (.iconst 1, 1) := by decide +kernel
theorem dL_weightWith_15 : decode cL_weightWith 15 = .ok (.ireturn, 1) := by decide +kernel
theorem dL_weightWith_16 : decode cL_weightWith 16 = .ok (.astore 4, 2) := by decide +kernel
theorem dL_weightWith_18 : decode cL_weightWith 18 = .ok (.iconst 2, 1) := by decide +kernel
theorem dL_weightWith_19 : decode cL_weightWith 19 = .ok (.ireturn, 1) := by decide +kernel
theorem dL_weightWith_20 : decode cL_weightWith 20 = .ok (.iconst 0, 1) := by decide +kernel
theorem dL_weightWith_21 : decode cL_weightWith 21 = .ok (.ireturn, 1) := by decide +kernel
theorem dL_chanceTop_0 : decode cL_chanceTop 0 = .ok (.aload_n 2, 1) := by decide +kernel
theorem dL_chanceTop_1 : decode cL_chanceTop 1 = .ok (.iconst 0, 1) := by decide +kernel
theorem dL_chanceTop_2 : decode cL_chanceTop 2 = .ok (.aload_n 0, 1) := by decide +kernel
theorem dL_chanceTop_3 : decode cL_chanceTop 3 = .ok (.iload_n 1, 1) := by decide +kernel
theorem dL_chanceTop_4 : decode cL_chanceTop 4 = .ok (.invokevirtual 52, 3) := by decide +kernel
theorem dL_chanceTop_7 : decode cL_chanceTop 7 = .ok (.lastore, 1) := by decide +kernel
theorem dL_chanceTop_8 : decode cL_chanceTop 8 = .ok (.goto 9, 3) := by decide +kernel
theorem dL_chanceTop_11 : decode cL_chanceTop 11 = .ok (.astore_n 3, 1) := by decide +kernel
theorem dL_chanceTop_12 : decode cL_chanceTop 12 = .ok (.iconst 1, 1) := by decide +kernel
theorem dL_chanceTop_13 : decode cL_chanceTop 13 = .ok (.ireturn, 1) := by decide +kernel
theorem dL_chanceTop_14 : decode cL_chanceTop 14 = .ok (.astore_n 3, 1) := by decide +kernel
theorem dL_chanceTop_15 : decode cL_chanceTop 15 = .ok (.iconst 2, 1) := by decide +kernel
theorem dL_chanceTop_16 : decode cL_chanceTop 16 = .ok (.ireturn, 1) := by decide +kernel
theorem dL_chanceTop_17 : decode cL_chanceTop 17 = .ok (.iconst 0, 1) := by decide +kernel
theorem dL_chanceTop_18 : decode cL_chanceTop 18 = .ok (.ireturn, 1) := by decide +kernel
theorem dL_chanceBottom_0 : decode cL_chanceBottom 0 = .ok (.aload_n 2, 1) := by decide +kernel
theorem dL_chanceBottom_1 : decode cL_chanceBottom 1 = .ok (.iconst 0, 1) := by decide +kernel
theorem dL_chanceBottom_2 : decode cL_chanceBottom 2 = .ok (.aload_n 0, 1) := by decide +kernel
theorem dL_chanceBottom_3 : decode cL_chanceBottom 3 = .ok (.iload_n 1, 1) := by decide +kernel
theorem dL_chanceBottom_4 : decode cL_chanceBottom 4 = .ok (.invokevirtual 58, 3) := by decide +kernel
theorem dL_chanceBottom_7 : decode cL_chanceBottom 7 = .ok (.lastore, 1) := by decide +kernel
theorem dL_chanceBottom_8 : decode cL_chanceBottom 8 = .ok (.goto 9, 3) := by decide +kernel
theorem dL_chanceBottom_11 : decode cL_chanceBottom 11 = .ok (.astore_n 3, 1) := by decide +kernel
theorem dL_chanceBottom_12 : decode cL_chanceBottom 12 = .ok (.iconst 1, 1) := by decide +kernel
theorem dL_chanceBottom_13 : decode cL_chanceBottom 13 = .ok (.ireturn, 1) := by decide +kernel
theorem dL_chanceBottom_14 : decode cL_chanceBottom 14 = .ok (.astore_n 3, 1) := by decide +kernel
theorem dL_chanceBottom_15 : decode cL_chanceBottom 15 = .ok (.iconst 2, 1) := by decide +kernel
theorem dL_chanceBottom_16 : decode cL_chanceBottom 16 = .ok (.ireturn, 1) := by decide +kernel
theorem dL_chanceBottom_17 : decode cL_chanceBottom 17 = .ok (.iconst 0, 1) := by decide +kernel
theorem dL_chanceBottom_18 : decode cL_chanceBottom 18 = .ok (.ireturn, 1) := by decide +kernel
theorem dL_projected_0 : decode cL_projected 0 = .ok (.aload_n 2, 1) := by decide +kernel
theorem dL_projected_1 : decode cL_projected 1 = .ok (.iconst 0, 1) := by decide +kernel
theorem dL_projected_2 : decode cL_projected 2 = .ok (.aload_n 0, 1) := by decide +kernel
theorem dL_projected_3 : decode cL_projected 3 = .ok (.iload_n 1, 1) := by decide +kernel
theorem dL_projected_4 : decode cL_projected 4 = .ok (.invokevirtual 61, 3) := by decide +kernel
theorem dL_projected_7 : decode cL_projected 7 = .ok (.lastore, 1) := by decide +kernel
theorem dL_projected_8 : decode cL_projected 8 = .ok (.goto 6, 3) := by decide +kernel
theorem dL_projected_11 : decode cL_projected 11 = .ok (.astore_n 3, 1) := by decide +kernel
theorem dL_projected_12 : decode cL_projected 12 = .ok (.iconst 1, 1) := by decide +kernel
theorem dL_projected_13 : decode cL_projected 13 = .ok (.ireturn, 1) := by decide +kernel
theorem dL_projected_14 : decode cL_projected 14 = .ok (.iconst 0, 1) := by decide +kernel
theorem dL_projected_15 : decode cL_projected 15 = .ok (.ireturn, 1) := by decide +kernel
theorem dL_implied_0 : decode cL_implied 0 = .ok (.aload_n 2, 1) := by decide +kernel
theorem dL_implied_1 : decode cL_implied 1 = .ok (.iconst 0, 1) := by decide +kernel
theorem dL_implied_2 : decode cL_implied 2 = .ok (.aload_n 0, 1) := by decide +kernel
theorem dL_implied_3 : decode cL_implied 3 = .ok (.iload_n 1, 1) := by decide +kernel
theorem dL_implied_4 : decode cL_implied 4 = .ok (.invokevirtual 64, 3) := by decide +kernel
theorem dL_implied_7 : decode cL_implied 7 = .ok (.i2l, 1) := by decide +kernel
theorem dL_implied_8 : decode cL_implied 8 = .ok (.lastore, 1) := by decide +kernel
theorem dL_implied_9 : decode cL_implied 9 = .ok (.goto 6, 3) := by decide +kernel
theorem dL_implied_12 : decode cL_implied 12 = .ok (.astore_n 3, 1) := by decide +kernel
theorem dL_implied_13 : decode cL_implied 13 = .ok (.iconst 1, 1) := by decide +kernel
theorem dL_implied_14 : decode cL_implied 14 = .ok (.ireturn, 1) := by decide +kernel
theorem dL_implied_15 : decode cL_implied 15 = .ok (.iconst 0, 1) := by decide +kernel
theorem dL_implied_16 : decode cL_implied 16 = .ok (.ireturn, 1) := by decide +kernel
theorem dL_partOf_0 : decode cL_partOf 0 = .ok (.aload_n 2, 1) := by decide +kernel
theorem dL_partOf_1 : decode cL_partOf 1 = .ok (.iconst 0, 1) := by decide +kernel
theorem dL_partOf_2 : decode cL_partOf 2 = .ok (.aload_n 0, 1) := by decide +kernel
theorem dL_partOf_3 : decode cL_partOf 3 = .ok (.iload_n 1, 1) := by decide +kernel
theorem dL_partOf_4 : decode cL_partOf 4 = .ok (.invokevirtual 67, 3) := by decide +kernel
theorem dL_partOf_7 : decode cL_partOf 7 = .ok (.i2l, 1) := by decide +kernel
theorem dL_partOf_8 : decode cL_partOf 8 = .ok (.lastore, 1) := by decide +kernel
theorem dL_partOf_9 : decode cL_partOf 9 = .ok (.goto 9, 3) := by decide +kernel
theorem dL_partOf_12 : decode cL_partOf 12 = .ok (.astore_n 3, 1) := by decide +kernel
theorem dL_partOf_13 : decode cL_partOf 13 = .ok (.iconst 1, 1) := by decide +kernel
theorem dL_partOf_14 : decode cL_partOf 14 = .ok (.ireturn, 1) := by decide +kernel
theorem dL_partOf_15 : decode cL_partOf 15 = .ok (.astore_n 3, 1) := by decide +kernel
theorem dL_partOf_16 : decode cL_partOf 16 = .ok (.iconst 2, 1) := by decide +kernel
theorem dL_partOf_17 : decode cL_partOf 17 = .ok (.ireturn, 1) := by decide +kernel
theorem dL_partOf_18 : decode cL_partOf 18 = .ok (.iconst 0, 1) := by decide +kernel
theorem dL_partOf_19 : decode cL_partOf 19 = .ok (.ireturn, 1) := by decide +kernel
theorem dL_modelsOfPart_0 : decode cL_modelsOfPart 0 = .ok (.aload_n 2, 1) := by decide +kernel
theorem dL_modelsOfPart_1 : decode cL_modelsOfPart 1 = .ok (.iconst 0, 1) := by decide +kernel
theorem dL_modelsOfPart_2 : decode cL_modelsOfPart 2 = .ok (.aload_n 0, 1) := by decide +kernel
theorem dL_modelsOfPart_3 : decode cL_modelsOfPart 3 = .ok (.iload_n 1, 1) := by decide +kernel
theorem dL_modelsOfPart_4 : decode cL_modelsOfPart 4 = .ok (.invokevirtual 70, 3) := by decide +kernel
theorem dL_modelsOfPart_7 : decode cL_modelsOfPart 7 = .ok (.lastore, 1) := by decide +kernel
theorem dL_modelsOfPart_8 : decode cL_modelsOfPart 8 = .ok (.goto 9, 3) := by decide +kernel
theorem dL_modelsOfPart_11 : decode cL_modelsOfPart 11 = .ok (.astore_n 3, 1) := by decide +kernel
theorem dL_modelsOfPart_12 : decode cL_modelsOfPart 12 = .ok (.iconst 1, 1) := by decide +kernel
theorem dL_modelsOfPart_13 : decode cL_modelsOfPart 13 = .ok (.ireturn, 1) := by decide +kernel
theorem dL_modelsOfPart_14 : decode cL_modelsOfPart 14 = .ok (.astore_n 3, 1) := by decide +kernel
theorem dL_modelsOfPart_15 : decode cL_modelsOfPart 15 = .ok (.iconst 2, 1) := by decide +kernel
theorem dL_modelsOfPart_16 : decode cL_modelsOfPart 16 = .ok (.ireturn, 1) := by decide +kernel
theorem dL_modelsOfPart_17 : decode cL_modelsOfPart 17 = .ok (.iconst 0, 1) := by decide +kernel
theorem dL_modelsOfPart_18 : decode cL_modelsOfPart 18 = .ok (.ireturn, 1) := by decide +kernel
theorem dL_best_0 : decode cL_best 0 = .ok (.aload_n 2, 1) := by decide +kernel
theorem dL_best_1 : decode cL_best 1 = .ok (.iconst 0, 1) := by decide +kernel
theorem dL_best_2 : decode cL_best 2 = .ok (.aload_n 0, 1) := by decide +kernel
theorem dL_best_3 : decode cL_best 3 = .ok (.iload_n 1, 1) := by decide +kernel
theorem dL_best_4 : decode cL_best 4 = .ok (.invokevirtual 73, 3) := by decide +kernel
theorem dL_best_7 : decode cL_best 7 = .ok (.i2l, 1) := by decide +kernel
theorem dL_best_8 : decode cL_best 8 = .ok (.lastore, 1) := by decide +kernel
theorem dL_best_9 : decode cL_best 9 = .ok (.goto 9, 3) := by decide +kernel
theorem dL_best_12 : decode cL_best 12 = .ok (.astore_n 3, 1) := by decide +kernel
theorem dL_best_13 : decode cL_best 13 = .ok (.iconst 1, 1) := by decide +kernel
theorem dL_best_14 : decode cL_best 14 = .ok (.ireturn, 1) := by decide +kernel
