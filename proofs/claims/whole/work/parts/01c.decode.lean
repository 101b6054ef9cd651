theorem dX0_init_0 : decode cX0_init 0 = .ok (.aload_n 0, 1) := by decide +kernel
theorem dX0_init_1 : decode cX0_init 1 = .ok (.invokespecial 3, 3) := by decide +kernel
theorem dX0_init_4 : decode cX0_init 4 = .ok (.aload_n 0, 1) := by decide +kernel
theorem dX0_init_5 : decode cX0_init 5 = .ok (.new 9, 3) := by decide +kernel
theorem dX0_init_8 : decode cX0_init 8 = .ok (.dup, 1) := by decide +kernel
theorem dX0_init_9 : decode cX0_init 9 = .ok (.bipush 16, 2) := by decide +kernel
theorem dX0_init_11 : decode cX0_init 11 = .ok (.invokespecial 13, 3) := by decide +kernel
theorem dX0_init_14 : decode cX0_init 14 = .ok (.putfield 16, 3) := by decide +kernel
theorem dX0_init_17 : decode cX0_init 17 = .ok (.aload_n 0, 1) := by decide +kernel
theorem dX0_init_18 : decode cX0_init 18 = .ok (.iconst (-1), 1) := by decide +kernel
theorem dX0_init_19 : decode cX0_init 19 = .ok (.putfield 20, 3) := by decide +kernel
theorem dX0_init_22 : decode cX0_init 22 = .ok (.return_, 1) := by decide +kernel
theorem dX0_isMade_0 : decode cX0_isMade 0 = .ok (.aload_n 0, 1) := by decide +kernel
theorem dX0_isMade_1 : decode cX0_isMade 1 = .ok (.getfield 20, 3) := by decide +kernel
theorem dX0_isMade_4 : decode cX0_isMade 4 = .ok (.iconst (-1), 1) := by decide +kernel
theorem dX0_isMade_5 : decode cX0_isMade 5 = .ok (.if_icmp .eq 7, 3) := by decide +kernel
theorem dX0_isMade_8 : decode cX0_isMade 8 = .ok (.iconst 1, 1) := by decide +kernel
theorem dX0_isMade_9 : decode cX0_isMade 9 = .ok (.goto 4, 3) := by decide +kernel
theorem dX0_isMade_12 : decode cX0_isMade 12 = .ok (.iconst 0, 1) := by decide +kernel
theorem dX0_isMade_13 : decode cX0_isMade 13 = .ok (.ireturn, 1) := by decide +kernel
theorem dX0_variables_0 : decode cX0_variables 0 = .ok (.aload_n 0, 1) := by decide +kernel
theorem dX0_variables_1 : decode cX0_variables 1 = .ok (.getfield 20, 3) := by decide +kernel
theorem dX0_variables_4 : decode cX0_variables 4 = .ok (.ireturn, 1) := by decide +kernel
theorem dX0_restart_0 : decode cX0_restart 0 = .ok (.aload_n 0, 1) := by decide +kernel
theorem dX0_restart_1 : decode cX0_restart 1 = .ok (.iload_n 1, 1) := by decide +kernel
theorem dX0_restart_2 : decode cX0_restart 2 = .ok (.putfield 20, 3) := by decide +kernel
theorem dX0_restart_5 : decode cX0_restart 5 = .ok (.iconst 0, 1) := by decide +kernel
theorem dX0_restart_6 : decode cX0_restart 6 = .ok (.istore_n 2, 1) := by decide +kernel
theorem dX0_restart_7 : decode cX0_restart 7 = .ok (.iload_n 2, 1) := by decide +kernel
theorem dX0_restart_8 : decode cX0_restart 8 = .ok (.aload_n 0, 1) := by decide +kernel
theorem dX0_restart_9 : decode cX0_restart 9 = .ok (.getfield 16, 3) := by decide +kernel
theorem dX0_restart_12 : decode cX0_restart 12 = .ok (.invokevirtual 24, 3) := by decide +kernel
theorem dX0_restart_15 : decode cX0_restart 15 = .ok (.if_icmp .ge 18, 3) := by decide +kernel
theorem dX0_restart_18 : decode cX0_restart 18 = .ok (.aload_n 0, 1) := by decide +kernel
theorem dX0_restart_19 : decode cX0_restart 19 = .ok (.getfield 16, 3) := by decide +kernel
theorem dX0_restart_22 : decode cX0_restart 22 = .ok (.iload_n 2, 1) := by decide +kernel
theorem dX0_restart_23 : decode cX0_restart 23 = .ok (.lconst 0, 1) := by decide +kernel
theorem dX0_restart_24 : decode cX0_restart 24 = .ok (.invokevirtual 28, 3) := by decide +kernel
theorem dX0_restart_27 : decode cX0_restart 27 = .ok (.iinc 2 1, 3) := by decide +kernel
theorem dX0_restart_30 : decode cX0_restart 30 = .ok (.goto (-23), 3) := by decide +kernel
theorem dX0_restart_33 : decode cX0_restart 33 = .ok (.return_, 1) := by decide +kernel
theorem dX0_has_0 : decode cX0_has 0 = .ok (.aload_n 0, 1) := by decide +kernel
theorem dX0_has_1 : decode cX0_has 1 = .ok (.getfield 16, 3) := by decide +kernel
theorem dX0_has_4 : decode cX0_has 4 = .ok (.iload_n 1, 1) := by decide +kernel
theorem dX0_has_5 : decode cX0_has 5 = .ok (.bipush 64, 2) := by decide +kernel
theorem dX0_has_7 : decode cX0_has 7 = .ok (.idiv, 1) := by decide +kernel
theorem dX0_has_8 : decode cX0_has 8 = .ok (.invokevirtual 32, 3) := by decide +kernel
theorem dX0_has_11 : decode cX0_has 11 = .ok (.iload_n 1, 1) := by decide +kernel
theorem dX0_has_12 : decode cX0_has 12 = .ok (.bipush 64, 2) := by decide +kernel
theorem dX0_has_14 : decode cX0_has 14 = .ok (.irem, 1) := by decide +kernel
theorem dX0_has_15 : decode cX0_has 15 = .ok (.lushr, 1) := by decide +kernel
theorem dX0_has_16 : decode cX0_has 16 = .ok (.lconst 1, 1) := by decide +kernel
theorem dX0_has_17 : decode cX0_has 17 = .ok (.land, 1) := by decide +kernel
theorem dX0_has_18 : decode cX0_has 18 = .ok (.lconst 0, 1) := by decide +kernel
theorem dX0_has_19 : decode cX0_has 19 = .ok (.lcmp, 1) := by decide +kernel
theorem dX0_has_20 : decode cX0_has 20 = .ok (.ifCond .eq 7, 3) := by decide +kernel
theorem dX0_has_23 : decode cX0_has 23 = .ok (.iconst 1, 1) := by decide +kernel
theorem dX0_has_24 : decode cX0_has 24 = .ok (.goto 4, 3) := by decide +kernel
theorem dX0_has_27 : decode cX0_has 27 = .ok (.iconst 0, 1) := by decide +kernel
theorem dX0_has_28 : decode cX0_has 28 = .ok (.ireturn, 1) := by decide +kernel
theorem dX0_add_0 : decode cX0_add 0 = .ok (.iload_n 1, 1) := by decide +kernel
theorem dX0_add_1 : decode cX0_add 1 = .ok (.bipush 64, 2) := by decide +kernel
theorem dX0_add_3 : decode cX0_add 3 = .ok (.idiv, 1) := by decide +kernel
theorem dX0_add_4 : decode cX0_add 4 = .ok (.istore_n 2, 1) := by decide +kernel
theorem dX0_add_5 : decode cX0_add 5 = .ok (.aload_n 0, 1) := by decide +kernel
theorem dX0_add_6 : decode cX0_add 6 = .ok (.getfield 16, 3) := by decide +kernel
theorem dX0_add_9 : decode cX0_add 9 = .ok (.iload_n 2, 1) := by decide +kernel
theorem dX0_add_10 : decode cX0_add 10 = .ok (.aload_n 0, 1) := by decide +kernel
theorem dX0_add_11 : decode cX0_add 11 = .ok (.getfield 16, 3) := by decide +kernel
theorem dX0_add_14 : decode cX0_add 14 = .ok (.iload_n 2, 1) := by decide +kernel
theorem dX0_add_15 : decode cX0_add 15 = .ok (.invokevirtual 32, 3) := by decide +kernel
theorem dX0_add_18 : decode cX0_add 18 = .ok (.lconst 1, 1) := by decide +kernel
theorem dX0_add_19 : decode cX0_add 19 = .ok (.iload_n 1, 1) := by decide +kernel
theorem dX0_add_20 : decode cX0_add 20 = .ok (.bipush 64, 2) := by decide +kernel
theorem dX0_add_22 : decode cX0_add 22 = .ok (.irem, 1) := by decide +kernel
theorem dX0_add_23 : decode cX0_add 23 = .ok (.lshl, 1) := by decide +kernel
theorem dX0_add_24 : decode cX0_add 24 = .ok (.lor, 1) := by decide +kernel
theorem dX0_add_25 : decode cX0_add 25 = .ok (.invokevirtual 28, 3) := by decide +kernel
theorem dX0_add_28 : decode cX0_add 28 = .ok (.return_, 1) := by decide +kernel
theorem dX0_size_0 : decode cX0_size 0 = .ok (.iconst 0, 1) := by decide +kernel
theorem dX0_size_1 : decode cX0_size 1 = .ok (.istore_n 1, 1) := by decide +kernel
theorem dX0_size_2 : decode cX0_size 2 = .ok (.iconst 0, 1) := by decide +kernel
theorem dX0_size_3 : decode cX0_size 3 = .ok (.istore_n 2, 1) := by decide +kernel
theorem dX0_size_4 : decode cX0_size 4 = .ok (.iload_n 2, 1) := by decide +kernel
theorem dX0_size_5 : decode cX0_size 5 = .ok (.aload_n 0, 1) := by decide +kernel
theorem dX0_size_6 : decode cX0_size 6 = .ok (.getfield 16, 3) := by decide +kernel
theorem dX0_size_9 : decode cX0_size 9 = .ok (.invokevirtual 24, 3) := by decide +kernel
theorem dX0_size_12 : decode cX0_size 12 = .ok (.if_icmp .ge 23, 3) := by decide +kernel
theorem dX0_size_15 : decode cX0_size 15 = .ok (.iload_n 1, 1) := by decide +kernel
theorem dX0_size_16 : decode cX0_size 16 = .ok (.aload_n 0, 1) := by decide +kernel
theorem dX0_size_17 : decode cX0_size 17 = .ok (.getfield 16, 3) := by decide +kernel
theorem dX0_size_20 : decode cX0_size 20 = .ok (.iload_n 2, 1) := by decide +kernel
theorem dX0_size_21 : decode cX0_size 21 = .ok (.invokevirtual 32, 3) := by decide +kernel
theorem dX0_size_24 : decode cX0_size 24 = .ok (.invokestatic 36, 3) := by decide +kernel
theorem dX0_size_27 : decode cX0_size 27 = .ok (.iadd, 1) := by decide +kernel
theorem dX0_size_28 : decode cX0_size 28 = .ok (.istore_n 1, 1) := by decide +kernel
theorem dX0_size_29 : decode cX0_size 29 = .ok (.iinc 2 1, 3) := by decide +kernel
theorem dX0_size_32 : decode cX0_size 32 = .ok (.goto (-28), 3) := by decide +kernel
theorem dX0_size_35 : decode cX0_size 35 = .ok (.iload_n 1, 1) := by decide +kernel
theorem dX0_size_36 : decode cX0_size 36 = .ok (.ireturn, 1) := by decide +kernel
theorem dX0_copy_0 : decode cX0_copy 0 = .ok (.aload_n 0, 1) := by decide +kernel
theorem dX0_copy_1 : decode cX0_copy 1 = .ok (.aload_n 1, 1) := by decide +kernel
theorem dX0_copy_2 : decode cX0_copy 2 = .ok (.getfield 20, 3) := by decide +kernel
theorem dX0_copy_5 : decode cX0_copy 5 = .ok (.putfield 20, 3) := by decide +kernel
theorem dX0_copy_8 : decode cX0_copy 8 = .ok (.iconst 0, 1) := by decide +kernel
theorem dX0_copy_9 : decode cX0_copy 9 = .ok (.istore_n 2, 1) := by decide +kernel
theorem dX0_copy_10 : decode cX0_copy 10 = .ok (.iload_n 2, 1) := by decide +kernel
theorem dX0_copy_11 : decode cX0_copy 11 = .ok (.aload_n 0, 1) := by decide +kernel
theorem dX0_copy_12 : decode cX0_copy 12 = .ok (.getfield 16, 3) := by decide +kernel
theorem dX0_copy_15 : decode cX0_copy 15 = .ok (.invokevirtual 24, 3) := by decide +kernel
theorem dX0_copy_18 : decode cX0_copy 18 = .ok (.if_icmp .ge 25, 3) := by decide +kernel
theorem dX0_copy_21 : decode cX0_copy 21 = .ok (.aload_n 0, 1) := by decide +kernel
theorem dX0_copy_22 : decode cX0_copy 22 = .ok (.getfield 16, 3) := by decide +kernel
theorem dX0_copy_25 : decode cX0_copy 25 = .ok (.iload_n 2, 1) := by decide +kernel
theorem dX0_copy_26 : decode cX0_copy 26 = .ok (.aload_n 1, 1) := by decide +kernel
theorem dX0_copy_27 : decode cX0_copy 27 = .ok (.getfield 16, 3) := by decide +kernel
theorem dX0_copy_30 : decode cX0_copy 30 = .ok (.iload_n 2, 1) := by decide +kernel
theorem dX0_copy_31 : decode cX0_copy 31 = .ok (.invokevirtual 32, 3) := by decide +kernel
theorem dX0_copy_34 : decode cX0_copy 34 = .ok (.invokevirtual 28, 3) := by decide +kernel
theorem dX0_copy_37 : decode cX0_copy 37 = .ok (.iinc 2 1, 3) := by decide +kernel
theorem dX0_copy_40 : decode cX0_copy 40 = .ok (.goto (-30), 3) := by decide +kernel
theorem dX0_copy_43 : decode cX0_copy 43 = .ok (.return_, 1) := by decide +kernel
theorem dX0_isContainedIn_0 : decode cX0_isContainedIn 0 = .ok (.iconst 0, 1) := by decide +kernel
theorem dX0_isContainedIn_1 : decode cX0_isContainedIn 1 = .ok (.istore_n 2, 1) := by decide +kernel
theorem dX0_isContainedIn_2 : decode cX0_isContainedIn 2 = .ok (.iload_n 2, 1) := by decide +kernel
theorem dX0_isContainedIn_3 : decode cX0_isContainedIn 3 = .ok (.aload_n 0, 1) := by decide +kernel
theorem dX0_isContainedIn_4 : decode cX0_isContainedIn 4 = .ok (.getfield 16, 3) := by decide +kernel
theorem dX0_isContainedIn_7 : decode cX0_isContainedIn 7 = .ok (.invokevirtual 24, 3) := by decide +kernel
theorem dX0_isContainedIn_10 : decode cX0_isContainedIn 10 = .ok (.if_icmp .ge 37, 3) := by decide +kernel
theorem dX0_isContainedIn_13 : decode cX0_isContainedIn 13 = .ok (.aload_n 0, 1) := by decide +kernel
theorem dX0_isContainedIn_14 : decode cX0_isContainedIn 14 = .ok (.getfield 16, 3) := by decide +kernel
theorem dX0_isContainedIn_17 : decode cX0_isContainedIn 17 = .ok (.iload_n 2, 1) := by decide +kernel
theorem dX0_isContainedIn_18 : decode cX0_isContainedIn 18 = .ok (.invokevirtual 32, 3) := by decide +kernel
theorem dX0_isContainedIn_21 : decode cX0_isContainedIn 21 = .ok (.aload_n 1, 1) := by decide +kernel
theorem dX0_isContainedIn_22 : decode cX0_isContainedIn 22 = .ok (.getfield 16, 3) := by decide +kernel
theorem dX0_isContainedIn_25 : decode cX0_isContainedIn 25 = .ok (.iload_n 2, 1) := by decide +kernel
theorem dX0_isContainedIn_26 : decode cX0_isContainedIn 26 = .ok (.invokevirtual 32, 3) := by decide +kernel
theorem dX0_isContainedIn_29 : decode cX0_isContainedIn 29 = .ok (.ldc2_w 42, 3) := by decide +kernel
theorem dX0_isContainedIn_32 : decode cX0_isContainedIn 32 = .ok (.lxor, 1) := by decide +kernel
theorem dX0_isContainedIn_33 : decode cX0_isContainedIn 33 = .ok (.land, 1) := by decide +kernel
theorem dX0_isContainedIn_34 : decode cX0_isContainedIn 34 = .ok (.lconst 0, 1) := by decide +kernel
theorem dX0_isContainedIn_35 : decode cX0_isContainedIn 35 = .ok (.lcmp, 1) := by decide +kernel
theorem dX0_isContainedIn_36 : decode cX0_isContainedIn 36 = .ok (.ifCond .eq 5, 3) := by decide +kernel
theorem dX0_isContainedIn_39 : decode cX0_isContainedIn 39 = .ok (.iconst 0, 1) := by decide +kernel
theorem dX0_isContainedIn_40 : decode cX0_isContainedIn 40 = .ok (.ireturn, 1) := by decide +kernel
theorem dX0_isContainedIn_41 : decode cX0_isContainedIn 41 = .ok (.iinc 2 1, 3) := by decide +kernel
theorem dX0_isContainedIn_44 : decode cX0_isContainedIn 44 = .ok (.goto (-42), 3) := by decide +kernel
theorem dX0_isContainedIn_47 : decode cX0_isContainedIn 47 = .ok (.iconst 1, 1) := by decide +kernel
theorem dX0_isContainedIn_48 : decode cX0_isContainedIn 48 = .ok (.ireturn, 1) := by decide +kernel
theorem dX0_combine_0 : decode cX0_combine 0 = .ok (.aload_n 0, 1) := by decide +kernel
theorem dX0_combine_1 : decode cX0_combine 1 = .ok (.aload_n 1, 1) := by decide +kernel
theorem dX0_combine_2 : decode cX0_combine 2 = .ok (.getfield 20, 3) := by decide +kernel
theorem dX0_combine_5 : decode cX0_combine 5 = .ok (.putfield 20, 3) := by decide +kernel
theorem dX0_combine_8 : decode cX0_combine 8 = .ok (.iconst 0, 1) := by decide +kernel
theorem dX0_combine_9 : decode cX0_combine 9 = .ok (.istore 4, 2) := by decide +kernel
theorem dX0_combine_11 : decode cX0_combine 11 = .ok (.iload 4, 2) := by decide +kernel
theorem dX0_combine_13 : decode cX0_combine 13 = .ok (.aload_n 0, 1) := by decide +kernel
theorem dX0_combine_14 : decode cX0_combine 14 = .ok (.getfield 16, 3) := by decide +kernel
theorem dX0_combine_17 : decode cX0_combine 17 = .ok (.invokevirtual 24, 3) := by decide +kernel
theorem dX0_combine_20 : decode cX0_combine 20 = .ok (.if_icmp .ge 73, 3) := by decide +kernel
theorem dX0_combine_23 : decode cX0_combine 23 = .ok (.aload_n 1, 1) := by decide +kernel
theorem dX0_combine_24 : decode cX0_combine 24 = .ok (.getfield 16, 3) := by decide +kernel
theorem dX0_combine_27 : decode cX0_combine 27 = .ok (.iload 4, 2) := by decide +kernel
theorem dX0_combine_29 : decode cX0_combine 29 = .ok (.invokevirtual 32, 3) := by decide +kernel
theorem dX0_combine_32 : decode cX0_combine 32 = .ok (.lstore 5, 2) := by decide +kernel
theorem dX0_combine_34 : decode cX0_combine 34 = .ok (.aload_n 2, 1) := by decide +kernel
theorem dX0_combine_35 : decode cX0_combine 35 = .ok (.getfield 16, 3) := by decide +kernel
theorem dX0_combine_38 : decode cX0_combine 38 = .ok (.iload 4, 2) := by decide +kernel
theorem dX0_combine_40 : decode cX0_combine 40 = .ok (.invokevirtual 32, 3) := by decide +kernel
theorem dX0_combine_43 : decode cX0_combine 43 = .ok (.lstore 7, 2) := by decide +kernel
theorem dX0_combine_45 : decode cX0_combine 45 = .ok (.aload_n 0, 1) := by decide +kernel
theorem dX0_combine_46 : decode cX0_combine 46 = .ok (.getfield 16, 3) := by decide +kernel
theorem dX0_combine_49 : decode cX0_combine 49 = .ok (.iload 4, 2) := by decide +kernel
theorem dX0_combine_51 : decode cX0_combine 51 = .ok (.iload_n 3, 1) := by decide +kernel
theorem dX0_combine_52 : decode cX0_combine 52 = .ok (.bipush 97, 2) := by decide +kernel
theorem dX0_combine_54 : decode cX0_combine 54 = .ok (.if_icmp .ne 11, 3) := by decide +kernel
theorem dX0_combine_57 : decode cX0_combine 57 = .ok (.lload 5, 2) := by decide +kernel
theorem dX0_combine_59 : decode cX0_combine 59 = .ok (.lload 7, 2) := by decide +kernel
theorem dX0_combine_61 : decode cX0_combine 61 = .ok (.land, 1) := by decide +kernel
theorem dX0_combine_62 : decode cX0_combine 62 = .ok (.goto 22, 3) := by decide +kernel
theorem dX0_combine_65 : decode cX0_combine 65 = .ok (.iload_n 3, 1) := by decide +kernel
theorem dX0_combine_66 : decode cX0_combine 66 = .ok (.bipush 111, 2) := by decide +kernel
theorem dX0_combine_68 : decode cX0_combine 68 = .ok (.if_icmp .ne 11, 3) := by decide +kernel
theorem dX0_combine_71 : decode cX0_combine 71 = .ok (.lload 5, 2) := by decide +kernel
theorem dX0_combine_73 : decode cX0_combine 73 = .ok (.lload 7, 2) := by decide +kernel
theorem dX0_combine_75 : decode cX0_combine 75 = .ok (.lor, 1) := by decide +kernel
theorem dX0_combine_76 : decode cX0_combine 76 = .ok (.goto 8, 3) := by decide +kernel
theorem dX0_combine_79 : decode cX0_combine 79 = .ok (.lload 5, 2) := by decide +kernel
theorem dX0_combine_81 : decode cX0_combine 81 = .ok (.lload 7, 2) := by decide +kernel
theorem dX0_combine_83 : decode cX0_combine 83 = .ok (.lxor, 1) := by decide +kernel
theorem dX0_combine_84 : decode cX0_combine 84 = .ok (.invokevirtual 28, 3) := by decide +kernel
theorem dX0_combine_87 : decode cX0_combine 87 = .ok (.iinc 4 1, 3) := by decide +kernel
theorem dX0_combine_90 : decode cX0_combine 90 = .ok (.goto (-79), 3) := by decide +kernel
theorem dX0_combine_93 : decode cX0_combine 93 = .ok (.return_, 1) := by decide +kernel
theorem dX0_settle_0 : decode cX0_settle 0 = .ok (.iconst 1, 1) := by decide +kernel
theorem dX0_settle_1 : decode cX0_settle 1 = .ok (.iload_n 1, 1) := by decide +kernel
theorem dX0_settle_2 : decode cX0_settle 2 = .ok (.ishl, 1) := by decide +kernel
theorem dX0_settle_3 : decode cX0_settle 3 = .ok (.istore_n 3, 1) := by decide +kernel
theorem dX0_settle_4 : decode cX0_settle 4 = .ok (.iconst 0, 1) := by decide +kernel
theorem dX0_settle_5 : decode cX0_settle 5 = .ok (.istore 4, 2) := by decide +kernel
theorem dX0_settle_7 : decode cX0_settle 7 = .ok (.iload 4, 2) := by decide +kernel
theorem dX0_settle_9 : decode cX0_settle 9 = .ok (.iconst 1, 1) := by decide +kernel
theorem dX0_settle_10 : decode cX0_settle 10 = .ok (.aload_n 0, 1) := by decide +kernel
theorem dX0_settle_11 : decode cX0_settle 11 = .ok (.getfield 20, 3) := by decide +kernel
theorem dX0_settle_14 : decode cX0_settle 14 = .ok (.ishl, 1) := by decide +kernel
theorem dX0_settle_15 : decode cX0_settle 15 = .ok (.if_icmp .ge 40, 3) := by decide +kernel
theorem dX0_settle_18 : decode cX0_settle 18 = .ok (.iload 4, 2) := by decide +kernel
theorem dX0_settle_20 : decode cX0_settle 20 = .ok (.iload_n 3, 1) := by decide +kernel
theorem dX0_settle_21 : decode cX0_settle 21 = .ok (.iand, 1) := by decide +kernel
theorem dX0_settle_22 : decode cX0_settle 22 = .ok (.ifCond .ne 27, 3) := by decide +kernel
theorem dX0_settle_25 : decode cX0_settle 25 = .ok (.aload_n 0, 1) := by decide +kernel
theorem dX0_settle_26 : decode cX0_settle 26 = .ok (.iload 4, 2) := by decide +kernel
theorem dX0_settle_28 : decode cX0_settle 28 = .ok (.iload_n 2, 1) := by decide +kernel
theorem dX0_settle_29 : decode cX0_settle 29 = .ok (.iload_n 1, 1) := by decide +kernel
theorem dX0_settle_30 : decode cX0_settle 30 = .ok (.ishl, 1) := by decide +kernel
theorem dX0_settle_31 : decode cX0_settle 31 = .ok (.ior, 1) := by decide +kernel
theorem dX0_settle_32 : decode cX0_settle 32 = .ok (.invokevirtual 44, 3) := by decide +kernel
theorem dX0_settle_35 : decode cX0_settle 35 = .ok (.istore 5, 2) := by decide +kernel
theorem dX0_settle_37 : decode cX0_settle 37 = .ok (.aload_n 0, 1) := by decide +kernel
theorem dX0_settle_38 : decode cX0_settle 38 = .ok (.iload 4, 2) := by decide +kernel
theorem dX0_settle_40 : decode cX0_settle 40 = .ok (.iload 4, 2) := by decide +kernel
theorem dX0_settle_42 : decode cX0_settle 42 = .ok (.iload_n 3, 1) := by decide +kernel
theorem dX0_settle_43 : decode cX0_settle 43 = .ok (.ior, 1) := by decide +kernel
theorem dX0_settle_44 : decode cX0_settle 44 = .ok (.iload 5, 2) := by decide +kernel
theorem dX0_settle_46 : decode cX0_settle 46 = .ok (.invokevirtual 48, 3) := by decide +kernel
theorem dX0_settle_49 : decode cX0_settle 49 = .ok (.iinc 4 1, 3) := by decide +kernel
theorem dX0_settle_52 : decode cX0_settle 52 = .ok (.goto (-45), 3) := by decide +kernel
theorem dX0_settle_55 : decode cX0_settle 55 = .ok (.return_, 1) := by decide +kernel
theorem dX0_forget_0 : decode cX0_forget 0 = .ok (.iconst 1, 1) := by decide +kernel
theorem dX0_forget_1 : decode cX0_forget 1 = .ok (.iload_n 1, 1) := by decide +kernel
theorem dX0_forget_2 : decode cX0_forget 2 = .ok (.ishl, 1) := by decide +kernel
theorem dX0_forget_3 : decode cX0_forget 3 = .ok (.istore_n 2, 1) := by decide +kernel
theorem dX0_forget_4 : decode cX0_forget 4 = .ok (.iconst 0, 1) := by decide +kernel
theorem dX0_forget_5 : decode cX0_forget 5 = .ok (.istore_n 3, 1) := by decide +kernel
theorem dX0_forget_6 : decode cX0_forget 6 = .ok (.iload_n 3, 1) := by decide +kernel
theorem dX0_forget_7 : decode cX0_forget 7 = .ok (.iconst 1, 1) := by decide +kernel
theorem dX0_forget_8 : decode cX0_forget 8 = .ok (.aload_n 0, 1) := by decide +kernel
theorem dX0_forget_9 : decode cX0_forget 9 = .ok (.getfield 20, 3) := by decide +kernel
theorem dX0_forget_12 : decode cX0_forget 12 = .ok (.ishl, 1) := by decide +kernel
theorem dX0_forget_13 : decode cX0_forget 13 = .ok (.if_icmp .ge 50, 3) := by decide +kernel
theorem dX0_forget_16 : decode cX0_forget 16 = .ok (.iload_n 3, 1) := by decide +kernel
theorem dX0_forget_17 : decode cX0_forget 17 = .ok (.iload_n 2, 1) := by decide +kernel
theorem dX0_forget_18 : decode cX0_forget 18 = .ok (.iand, 1) := by decide +kernel
theorem dX0_forget_19 : decode cX0_forget 19 = .ok (.ifCond .ne 38, 3) := by decide +kernel
theorem dX0_forget_22 : decode cX0_forget 22 = .ok (.aload_n 0, 1) := by decide +kernel
theorem dX0_forget_23 : decode cX0_forget 23 = .ok (.iload_n 3, 1) := by decide +kernel
theorem dX0_forget_24 : decode cX0_forget 24 = .ok (.invokevirtual 44, 3) := by decide +kernel
theorem dX0_forget_27 : decode cX0_forget 27 = .ok (.ifCond .ne 13, 3) := by decide +kernel
theorem dX0_forget_30 : decode cX0_forget 30 = .ok (.aload_n 0, 1) := by decide +kernel
theorem dX0_forget_31 : decode cX0_forget 31 = .ok (.iload_n 3, 1) := by decide +kernel
theorem dX0_forget_32 : decode cX0_forget 32 = .ok (.iload_n 2, 1) := by decide +kernel
theorem dX0_forget_33 : decode cX0_forget 33 = .ok (.ior, 1) := by decide +kernel
theorem dX0_forget_34 : decode cX0_forget 34 = .ok (.invokevirtual 44, 3) := by decide +kernel
theorem dX0_forget_37 : decode cX0_forget 37 = .ok (.ifCond .eq 7, 3) := by decide +kernel
theorem dX0_forget_40 : decode cX0_forget 40 = .ok (.iconst 1, 1) := by decide +kernel
theorem dX0_forget_41 : decode cX0_forget 41 = .ok (.goto 4, 3) := by decide +kernel
theorem dX0_forget_44 : decode cX0_forget 44 = .ok (.iconst 0, 1) := by decide +kernel
theorem dX0_forget_45 : decode cX0_forget 45 = .ok (.istore 4, 2) := by decide +kernel
theorem dX0_forget_47 : decode cX0_forget 47 = .ok (.aload_n 0, 1) := by decide +kernel
theorem dX0_forget_48 : decode cX0_forget 48 = .ok (.iload_n 3, 1) := by decide +kernel
theorem dX0_forget_49 : decode cX0_forget 49 = .ok (.iload_n 3, 1) := by decide +kernel
theorem dX0_forget_50 : decode cX0_forget 50 = .ok (.iload_n 2, 1) := by decide +kernel
theorem dX0_forget_51 : decode cX0_forget 51 = .ok (.ior, 1) := by decide +kernel
theorem dX0_forget_52 : decode cX0_forget 52 = .ok (.iload 4, 2) := by decide +kernel
theorem dX0_forget_54 : decode cX0_forget 54 = .ok (.invokevirtual 48, 3) := by decide +kernel
theorem dX0_forget_57 : decode cX0_forget 57 = .ok (.iinc 3 1, 3) := by decide +kernel
theorem dX0_forget_60 : decode cX0_forget 60 = .ok (.goto (-54), 3) := by decide +kernel
theorem dX0_forget_63 : decode cX0_forget 63 = .ok (.return_, 1) := by decide +kernel
theorem dX0_putPair_0 : decode cX0_putPair 0 = .ok (.iload_n 3, 1) := by decide +kernel
theorem dX0_putPair_1 : decode cX0_putPair 1 = .ok (.ifCond .eq 16, 3) := by decide +kernel
theorem dX0_putPair_4 : decode cX0_putPair 4 = .ok (.aload_n 0, 1) := by decide +kernel
theorem dX0_putPair_5 : decode cX0_putPair 5 = .ok (.iload_n 1, 1) := by decide +kernel
theorem dX0_putPair_6 : decode cX0_putPair 6 = .ok (.invokevirtual 52, 3) := by decide +kernel
theorem dX0_putPair_9 : decode cX0_putPair 9 = .ok (.aload_n 0, 1) := by decide +kernel
theorem dX0_putPair_10 : decode cX0_putPair 10 = .ok (.iload_n 2, 1) := by decide +kernel
theorem dX0_putPair_11 : decode cX0_putPair 11 = .ok (.invokevirtual 52, 3) := by decide +kernel
theorem dX0_putPair_14 : decode cX0_putPair 14 = .ok (.goto 13, 3) := by decide +kernel
theorem dX0_putPair_17 : decode cX0_putPair 17 = .ok (.aload_n 0, 1) := by decide +kernel
theorem dX0_putPair_18 : decode cX0_putPair 18 = .ok (.iload_n 1, 1) := by decide +kernel
theorem dX0_putPair_19 : decode cX0_putPair 19 = .ok (.invokevirtual 55, 3) := by decide +kernel
theorem dX0_putPair_22 : decode cX0_putPair 22 = .ok (.aload_n 0, 1) := by decide +kernel
theorem dX0_putPair_23 : decode cX0_putPair 23 = .ok (.iload_n 2, 1) := by decide +kernel
theorem dX0_putPair_24 : decode cX0_putPair 24 = .ok (.invokevirtual 55, 3) := by decide +kernel
theorem dX0_putPair_27 : decode cX0_putPair 27 = .ok (.return_, 1) := by decide +kernel
theorem dX0_remove_0 : decode cX0_remove 0 = .ok (.iload_n 1, 1) := by decide +kernel
theorem dX0_remove_1 : decode cX0_remove 1 = .ok (.bipush 64, 2) := by decide +kernel
theorem dX0_remove_3 : decode cX0_remove 3 = .ok (.idiv, 1) := by decide +kernel
theorem dX0_remove_4 : decode cX0_remove 4 = .ok (.istore_n 2, 1) := by decide +kernel
theorem dX0_remove_5 : decode cX0_remove 5 = .ok (.aload_n 0, 1) := by decide +kernel
theorem dX0_remove_6 : decode cX0_remove 6 = .ok (.getfield 16, 3) := by decide +kernel
theorem dX0_remove_9 : decode cX0_remove 9 = .ok (.iload_n 2, 1) := by decide +kernel
theorem dX0_remove_10 : decode cX0_remove 10 = .ok (.aload_n 0, 1) := by decide +kernel
theorem dX0_remove_11 : decode cX0_remove 11 = .ok (.getfield 16, 3) := by decide +kernel
theorem dX0_remove_14 : decode cX0_remove 14 = .ok (.iload_n 2, 1) := by decide +kernel
theorem dX0_remove_15 : decode cX0_remove 15 = .ok (.invokevirtual 32, 3) := by decide +kernel
theorem dX0_remove_18 : decode cX0_remove 18 = .ok (.lconst 1, 1) := by decide +kernel
theorem dX0_remove_19 : decode cX0_remove 19 = .ok (.iload_n 1, 1) := by decide +kernel
theorem dX0_remove_20 : decode cX0_remove 20 = .ok (.bipush 64, 2) := by decide +kernel
theorem dX0_remove_22 : decode cX0_remove 22 = .ok (.irem, 1) := by decide +kernel
theorem dX0_remove_23 : decode cX0_remove 23 = .ok (.lshl, 1) := by decide +kernel
theorem dX0_remove_24 : decode cX0_remove 24 = .ok (.ldc2_w 42, 3) := by decide +kernel
theorem dX0_remove_27 : decode cX0_remove 27 = .ok (.lxor, 1) := by decide +kernel
theorem dX0_remove_28 : decode cX0_remove 28 = .ok (.land, 1) := by decide +kernel
theorem dX0_remove_29 : decode cX0_remove 29 = .ok (.invokevirtual 28, 3) := by decide +kernel
theorem dX0_remove_32 : decode cX0_remove 32 = .ok (.return_, 1) := by decide +kernel
theorem dX1_init_0 : decode cX1_init 0 = .ok (.aload_n 0, 1) := by decide +kernel
theorem dX1_init_1 : decode cX1_init 1 = .ok (.bipush 107, 2) := by decide +kernel
theorem dX1_init_3 : decode cX1_init 3 = .ok (.iload_n 1, 1) := by decide +kernel
theorem dX1_init_4 : decode cX1_init 4 = .ok (.invokespecial 1, 3) := by decide +kernel
theorem dX1_init_7 : decode cX1_init 7 = .ok (.aload_n 0, 1) := by decide +kernel
theorem dX1_init_8 : decode cX1_init 8 = .ok (.iload_n 2, 1) := by decide +kernel
theorem dX1_init_9 : decode cX1_init 9 = .ok (.putfield 7, 3) := by decide +kernel
theorem dX1_init_12 : decode cX1_init 12 = .ok (.aload_n 0, 1) := by decide +kernel
theorem dX1_init_13 : decode cX1_init 13 = .ok (.iload_n 3, 1) := by decide +kernel
theorem dX1_init_14 : decode cX1_init 14 = .ok (.putfield 13, 3) := by decide +kernel
theorem dX1_init_17 : decode cX1_init 17 = .ok (.return_, 1) := by decide +kernel
theorem dX1_isMetBy_0 : decode cX1_isMetBy 0 = .ok (.iload_n 1, 1) := by decide +kernel
theorem dX1_isMetBy_1 : decode cX1_isMetBy 1 = .ok (.aload_n 0, 1) := by decide +kernel
theorem dX1_isMetBy_2 : decode cX1_isMetBy 2 = .ok (.getfield 16, 3) := by decide +kernel
theorem dX1_isMetBy_5 : decode cX1_isMetBy 5 = .ok (.iand, 1) := by decide +kernel
theorem dX1_isMetBy_6 : decode cX1_isMetBy 6 = .ok (.invokestatic 19, 3) := by decide +kernel
theorem dX1_isMetBy_9 : decode cX1_isMetBy 9 = .ok (.istore_n 2, 1) := by decide +kernel
theorem dX1_isMetBy_10 : decode cX1_isMetBy 10 = .ok (.iload_n 2, 1) := by decide +kernel
theorem dX1_isMetBy_11 : decode cX1_isMetBy 11 = .ok (.aload_n 0, 1) := by decide +kernel
theorem dX1_isMetBy_12 : decode cX1_isMetBy 12 = .ok (.getfield 7, 3) := by decide +kernel
theorem dX1_isMetBy_15 : decode cX1_isMetBy 15 = .ok (.if_icmp .lt 15, 3) := by decide +kernel
theorem dX1_isMetBy_18 : decode cX1_isMetBy 18 = .ok (.iload_n 2, 1) := by decide +kernel
theorem dX1_isMetBy_19 : decode cX1_isMetBy 19 = .ok (.aload_n 0, 1) := by decide +kernel
theorem dX1_isMetBy_20 : decode cX1_isMetBy 20 = .ok (.getfield 13, 3) := by decide +kernel
theorem dX1_isMetBy_23 : decode cX1_isMetBy 23 = .ok (.if_icmp .gt 7, 3) := by decide +kernel
theorem dX1_isMetBy_26 : decode cX1_isMetBy 26 = .ok (.iconst 1, 1) := by decide +kernel
theorem dX1_isMetBy_27 : decode cX1_isMetBy 27 = .ok (.goto 4, 3) := by decide +kernel
theorem dX1_isMetBy_30 : decode cX1_isMetBy 30 = .ok (.iconst 0, 1) := by decide +kernel
theorem dX1_isMetBy_31 : decode cX1_isMetBy 31 = .ok (.ireturn, 1) := by decide +kernel
theorem dX2_init_0 : decode cX2_init 0 = .ok (.aload_n 0, 1) := by decide +kernel
theorem dX2_init_1 : decode cX2_init 1 = .ok (.invokespecial 3, 3) := by decide +kernel
theorem dX2_init_4 : decode cX2_init 4 = .ok (.aload_n 0, 1) := by decide +kernel
theorem dX2_init_5 : decode cX2_init 5 = .ok (.new 9, 3) := by decide +kernel
theorem dX2_init_8 : decode cX2_init 8 = .ok (.dup, 1) := by decide +kernel
theorem dX2_init_9 : decode cX2_init 9 = .ok (.sipush 1024, 3) := by decide +kernel
theorem dX2_init_12 : decode cX2_init 12 = .ok (.invokespecial 11, 3) := by decide +kernel
theorem dX2_init_15 : decode cX2_init 15 = .ok (.putfield 14, 3) := by decide +kernel
theorem dX2_init_18 : decode cX2_init 18 = .ok (.aload_n 0, 1) := by decide +kernel
theorem dX2_init_19 : decode cX2_init 19 = .ok (.new 9, 3) := by decide +kernel
theorem dX2_init_22 : decode cX2_init 22 = .ok (.dup, 1) := by decide +kernel
theorem dX2_init_23 : decode cX2_init 23 = .ok (.sipush 272, 3) := by decide +kernel
theorem dX2_init_26 : decode cX2_init 26 = .ok (.invokespecial 11, 3) := by decide +kernel
theorem dX2_init_29 : decode cX2_init 29 = .ok (.putfield 20, 3) := by decide +kernel
theorem dX2_init_32 : decode cX2_init 32 = .ok (.aload_n 0, 1) := by decide +kernel
theorem dX2_init_33 : decode cX2_init 33 = .ok (.new 9, 3) := by decide +kernel
theorem dX2_init_36 : decode cX2_init 36 = .ok (.dup, 1) := by decide +kernel
theorem dX2_init_37 : decode cX2_init 37 = .ok (.sipush 272, 3) := by decide +kernel
theorem dX2_init_40 : decode cX2_init 40 = .ok (.invokespecial 11, 3) := by decide +kernel
theorem dX2_init_43 : decode cX2_init 43 = .ok (.putfield 23, 3) := by decide +kernel
theorem dX2_init_46 : decode cX2_init 46 = .ok (.aload_n 0, 1) := by decide +kernel
theorem dX2_init_47 : decode cX2_init 47 = .ok (.new 9, 3) := by decide +kernel
theorem dX2_init_50 : decode cX2_init 50 = .ok (.dup, 1) := by decide +kernel
theorem dX2_init_51 : decode cX2_init 51 = .ok (.sipush 272, 3) := by decide +kernel
theorem dX2_init_54 : decode cX2_init 54 = .ok (.invokespecial 11, 3) := by decide +kernel
theorem dX2_init_57 : decode cX2_init 57 = .ok (.putfield 26, 3) := by decide +kernel
theorem dX2_init_60 : decode cX2_init 60 = .ok (.aload_n 0, 1) := by decide +kernel
theorem dX2_init_61 : decode cX2_init 61 = .ok (.new 9, 3) := by decide +kernel
theorem dX2_init_64 : decode cX2_init 64 = .ok (.dup, 1) := by decide +kernel
theorem dX2_init_65 : decode cX2_init 65 = .ok (.bipush 10, 2) := by decide +kernel
theorem dX2_init_67 : decode cX2_init 67 = .ok (.invokespecial 11, 3) := by decide +kernel
theorem dX2_init_70 : decode cX2_init 70 = .ok (.putfield 29, 3) := by decide +kernel
theorem dX2_init_73 : decode cX2_init 73 = .ok (.return_, 1) := by decide +kernel
theorem dX2_make_0 : decode cX2_make 0 = .ok (.aload_n 1, 1) := by decide +kernel
theorem dX2_make_1 : decode cX2_make 1 = .ok (.invokevirtual 32, 3) := by decide +kernel
theorem dX2_make_4 : decode cX2_make 4 = .ok (.istore_n 3, 1) := by decide +kernel
theorem dX2_make_5 : decode cX2_make 5 = .ok (.aload_n 0, 1) := by decide +kernel
theorem dX2_make_6 : decode cX2_make 6 = .ok (.iload_n 3, 1) := by decide +kernel
theorem dX2_make_7 : decode cX2_make 7 = .ok (.aload_n 2, 1) := by decide +kernel
theorem dX2_make_8 : decode cX2_make 8 = .ok (.invokevirtual 38, 3) := by decide +kernel
theorem dX2_make_11 : decode cX2_make 11 = .ok (.iconst 0, 1) := by decide +kernel
theorem dX2_make_12 : decode cX2_make 12 = .ok (.istore 4, 2) := by decide +kernel
theorem dX2_make_14 : decode cX2_make 14 = .ok (.iload 4, 2) := by decide +kernel
theorem dX2_make_16 : decode cX2_make 16 = .ok (.iconst 1, 1) := by decide +kernel
theorem dX2_make_17 : decode cX2_make 17 = .ok (.iload_n 3, 1) := by decide +kernel
theorem dX2_make_18 : decode cX2_make 18 = .ok (.ishl, 1) := by decide +kernel
theorem dX2_make_19 : decode cX2_make 19 = .ok (.if_icmp .ge 39, 3) := by decide +kernel
theorem dX2_make_22 : decode cX2_make 22 = .ok (.aload_n 0, 1) := by decide +kernel
theorem dX2_make_23 : decode cX2_make 23 = .ok (.getfield 14, 3) := by decide +kernel
theorem dX2_make_26 : decode cX2_make 26 = .ok (.iload 4, 2) := by decide +kernel
theorem dX2_make_28 : decode cX2_make 28 = .ok (.aload_n 1, 1) := by decide +kernel
theorem dX2_make_29 : decode cX2_make 29 = .ok (.aload_n 0, 1) := by decide +kernel
theorem dX2_make_30 : decode cX2_make 30 = .ok (.getfield 14, 3) := by decide +kernel
theorem dX2_make_33 : decode cX2_make 33 = .ok (.iload 4, 2) := by decide +kernel
theorem dX2_make_35 : decode cX2_make 35 = .ok (.invokevirtual 42, 3) := by decide +kernel
theorem dX2_make_38 : decode cX2_make 38 = .ok (.invokevirtual 46, 3) := by decide +kernel
theorem dX2_make_41 : decode cX2_make 41 = .ok (.ifCond .eq 7, 3) := by decide +kernel
theorem dX2_make_44 : decode cX2_make 44 = .ok (.iconst 1, 1) := by decide +kernel
theorem dX2_make_45 : decode cX2_make 45 = .ok (.goto 4, 3) := by decide +kernel
theorem dX2_make_48 : decode cX2_make 48 = .ok (.iconst 0, 1) := by decide +kernel
theorem dX2_make_49 : decode cX2_make 49 = .ok (.invokevirtual 50, 3) := by decide +kernel
theorem dX2_make_52 : decode cX2_make 52 = .ok (.iinc 4 1, 3) := by decide +kernel
theorem dX2_make_55 : decode cX2_make 55 = .ok (.goto (-41), 3) := by decide +kernel
theorem dX2_make_58 : decode cX2_make 58 = .ok (.aload_n 0, 1) := by decide +kernel
theorem dX2_make_59 : decode cX2_make 59 = .ok (.getfield 26, 3) := by decide +kernel
theorem dX2_make_62 : decode cX2_make 62 = .ok (.iconst 0, 1) := by decide +kernel
theorem dX2_make_63 : decode cX2_make 63 = .ok (.iconst 0, 1) := by decide +kernel
theorem dX2_make_64 : decode cX2_make 64 = .ok (.invokevirtual 50, 3) := by decide +kernel
theorem dX2_make_67 : decode cX2_make 67 = .ok (.aload_n 0, 1) := by decide +kernel
theorem dX2_make_68 : decode cX2_make 68 = .ok (.getfield 26, 3) := by decide +kernel
theorem dX2_make_71 : decode cX2_make 71 = .ok (.iconst 1, 1) := by decide +kernel
theorem dX2_make_72 : decode cX2_make 72 = .ok (.iconst 1, 1) := by decide +kernel
theorem dX2_make_73 : decode cX2_make 73 = .ok (.invokevirtual 50, 3) := by decide +kernel
theorem dX2_make_76 : decode cX2_make 76 = .ok (.aload_n 0, 1) := by decide +kernel
theorem dX2_make_77 : decode cX2_make 77 = .ok (.iconst 2, 1) := by decide +kernel
theorem dX2_make_78 : decode cX2_make 78 = .ok (.putfield 54, 3) := by decide +kernel
theorem dX2_make_81 : decode cX2_make 81 = .ok (.iload_n 3, 1) := by decide +kernel
theorem dX2_make_82 : decode cX2_make 82 = .ok (.iconst 1, 1) := by decide +kernel
theorem dX2_make_83 : decode cX2_make 83 = .ok (.isub, 1) := by decide +kernel
theorem dX2_make_84 : decode cX2_make 84 = .ok (.istore 4, 2) := by decide +kernel
theorem dX2_make_86 : decode cX2_make 86 = .ok (.iload 4, 2) := by decide +kernel
theorem dX2_make_88 : decode cX2_make 88 = .ok (.ifCond .lt 15, 3) := by decide +kernel
theorem dX2_make_91 : decode cX2_make 91 = .ok (.aload_n 0, 1) := by decide +kernel
theorem dX2_make_92 : decode cX2_make 92 = .ok (.iload 4, 2) := by decide +kernel
theorem dX2_make_94 : decode cX2_make 94 = .ok (.invokevirtual 58, 3) := by decide +kernel
theorem dX2_make_97 : decode cX2_make 97 = .ok (.iinc 4 (-1), 3) := by decide +kernel
theorem dX2_make_100 : decode cX2_make 100 = .ok (.goto (-14), 3) := by decide +kernel
theorem dX2_make_103 : decode cX2_make 103 = .ok (.return_, 1) := by decide +kernel
theorem dX2_nodesInAll_0 : decode cX2_nodesInAll 0 = .ok (.aload_n 0, 1) := by decide +kernel
theorem dX2_nodesInAll_1 : decode cX2_nodesInAll 1 = .ok (.getfield 54, 3) := by decide +kernel
theorem dX2_nodesInAll_4 : decode cX2_nodesInAll 4 = .ok (.iconst 2, 1) := by decide +kernel
theorem dX2_nodesInAll_5 : decode cX2_nodesInAll 5 = .ok (.isub, 1) := by decide +kernel
theorem dX2_nodesInAll_6 : decode cX2_nodesInAll 6 = .ok (.ireturn, 1) := by decide +kernel
theorem dX2_nodesAtPlace_0 : decode cX2_nodesAtPlace 0 = .ok (.aload_n 0, 1) := by decide +kernel
theorem dX2_nodesAtPlace_1 : decode cX2_nodesAtPlace 1 = .ok (.getfield 29, 3) := by decide +kernel
theorem dX2_nodesAtPlace_4 : decode cX2_nodesAtPlace 4 = .ok (.iload_n 1, 1) := by decide +kernel
theorem dX2_nodesAtPlace_5 : decode cX2_nodesAtPlace 5 = .ok (.invokevirtual 42, 3) := by decide +kernel
theorem dX2_nodesAtPlace_8 : decode cX2_nodesAtPlace 8 = .ok (.ireturn, 1) := by decide +kernel
theorem dX2_waysToYes_0 : decode cX2_waysToYes 0 = .ok (.aload_n 0, 1) := by decide +kernel
theorem dX2_waysToYes_1 : decode cX2_waysToYes 1 = .ok (.getfield 26, 3) := by decide +kernel
theorem dX2_waysToYes_4 : decode cX2_waysToYes 4 = .ok (.aload_n 0, 1) := by decide +kernel
theorem dX2_waysToYes_5 : decode cX2_waysToYes 5 = .ok (.getfield 14, 3) := by decide +kernel
theorem dX2_waysToYes_8 : decode cX2_waysToYes 8 = .ok (.iconst 0, 1) := by decide +kernel
theorem dX2_waysToYes_9 : decode cX2_waysToYes 9 = .ok (.invokevirtual 42, 3) := by decide +kernel
theorem dX2_waysToYes_12 : decode cX2_waysToYes 12 = .ok (.invokevirtual 42, 3) := by decide +kernel
theorem dX2_waysToYes_15 : decode cX2_waysToYes 15 = .ok (.ireturn, 1) := by decide +kernel
theorem dX2_layOut_0 : decode cX2_layOut 0 = .ok (.aload_n 0, 1) := by decide +kernel
theorem dX2_layOut_1 : decode cX2_layOut 1 = .ok (.getfield 14, 3) := by decide +kernel
theorem dX2_layOut_4 : decode cX2_layOut 4 = .ok (.iconst 0, 1) := by decide +kernel
theorem dX2_layOut_5 : decode cX2_layOut 5 = .ok (.iconst 0, 1) := by decide +kernel
theorem dX2_layOut_6 : decode cX2_layOut 6 = .ok (.invokevirtual 50, 3) := by decide +kernel
theorem dX2_layOut_9 : decode cX2_layOut 9 = .ok (.iconst 1, 1) := by decide +kernel
theorem dX2_layOut_10 : decode cX2_layOut 10 = .ok (.istore_n 3, 1) := by decide +kernel
theorem dX2_layOut_11 : decode cX2_layOut 11 = .ok (.iload_n 1, 1) := by decide +kernel
theorem dX2_layOut_12 : decode cX2_layOut 12 = .ok (.iconst 1, 1) := by decide +kernel
theorem dX2_layOut_13 : decode cX2_layOut 13 = .ok (.isub, 1) := by decide +kernel
theorem dX2_layOut_14 : decode cX2_layOut 14 = .ok (.istore 4, 2) := by decide +kernel
theorem dX2_layOut_16 : decode cX2_layOut 16 = .ok (.iload 4, 2) := by decide +kernel
theorem dX2_layOut_18 : decode cX2_layOut 18 = .ok (.ifCond .lt 61, 3) := by decide +kernel
theorem dX2_layOut_21 : decode cX2_layOut 21 = .ok (.iconst 1, 1) := by decide +kernel
theorem dX2_layOut_22 : decode cX2_layOut 22 = .ok (.aload_n 2, 1) := by decide +kernel
theorem dX2_layOut_23 : decode cX2_layOut 23 = .ok (.iload 4, 2) := by decide +kernel
theorem dX2_layOut_25 : decode cX2_layOut 25 = .ok (.invokevirtual 42, 3) := by decide +kernel
theorem dX2_layOut_28 : decode cX2_layOut 28 = .ok (.ishl, 1) := by decide +kernel
theorem dX2_layOut_29 : decode cX2_layOut 29 = .ok (.istore 5, 2) := by decide +kernel
theorem dX2_layOut_31 : decode cX2_layOut 31 = .ok (.iconst 0, 1) := by decide +kernel
theorem dX2_layOut_32 : decode cX2_layOut 32 = .ok (.istore 6, 2) := by decide +kernel
theorem dX2_layOut_34 : decode cX2_layOut 34 = .ok (.iload 6, 2) := by decide +kernel
theorem dX2_layOut_36 : decode cX2_layOut 36 = .ok (.iload_n 3, 1) := by decide +kernel
theorem dX2_layOut_37 : decode cX2_layOut 37 = .ok (.if_icmp .ge 32, 3) := by decide +kernel
theorem dX2_layOut_40 : decode cX2_layOut 40 = .ok (.aload_n 0, 1) := by decide +kernel
theorem dX2_layOut_41 : decode cX2_layOut 41 = .ok (.getfield 14, 3) := by decide +kernel
theorem dX2_layOut_44 : decode cX2_layOut 44 = .ok (.iload_n 3, 1) := by decide +kernel
theorem dX2_layOut_45 : decode cX2_layOut 45 = .ok (.iload 6, 2) := by decide +kernel
theorem dX2_layOut_47 : decode cX2_layOut 47 = .ok (.iadd, 1) := by decide +kernel
theorem dX2_layOut_48 : decode cX2_layOut 48 = .ok (.aload_n 0, 1) := by decide +kernel
theorem dX2_layOut_49 : decode cX2_layOut 49 = .ok (.getfield 14, 3) := by decide +kernel
theorem dX2_layOut_52 : decode cX2_layOut 52 = .ok (.iload 6, 2) := by decide +kernel
theorem dX2_layOut_54 : decode cX2_layOut 54 = .ok (.invokevirtual 42, 3) := by decide +kernel
theorem dX2_layOut_57 : decode cX2_layOut 57 = .ok (.iload 5, 2) := by decide +kernel
theorem dX2_layOut_59 : decode cX2_layOut 59 = .ok (.ior, 1) := by decide +kernel
theorem dX2_layOut_60 : decode cX2_layOut 60 = .ok (.invokevirtual 50, 3) := by decide +kernel
theorem dX2_layOut_63 : decode cX2_layOut 63 = .ok (.iinc 6 1, 3) := by decide +kernel
theorem dX2_layOut_66 : decode cX2_layOut 66 = .ok (.goto (-32), 3) := by decide +kernel
theorem dX2_layOut_69 : decode cX2_layOut 69 = .ok (.iload_n 3, 1) := by decide +kernel
theorem dX2_layOut_70 : decode cX2_layOut 70 = .ok (.iconst 2, 1) := by decide +kernel
theorem dX2_layOut_71 : decode cX2_layOut 71 = .ok (.imul, 1) := by decide +kernel
theorem dX2_layOut_72 : decode cX2_layOut 72 = .ok (.istore_n 3, 1) := by decide +kernel
theorem dX2_layOut_73 : decode cX2_layOut 73 = .ok (.iinc 4 (-1), 3) := by decide +kernel
theorem dX2_layOut_76 : decode cX2_layOut 76 = .ok (.goto (-60), 3) := by decide +kernel
theorem dX2_layOut_79 : decode cX2_layOut 79 = .ok (.return_, 1) := by decide +kernel
theorem dX2_mergePlace_0 : decode cX2_mergePlace 0 = .ok (.aload_n 0, 1) := by decide +kernel
theorem dX2_mergePlace_1 : decode cX2_mergePlace 1 = .ok (.getfield 54, 3) := by decide +kernel
theorem dX2_mergePlace_4 : decode cX2_mergePlace 4 = .ok (.istore_n 2, 1) := by decide +kernel
theorem dX2_mergePlace_5 : decode cX2_mergePlace 5 = .ok (.iconst 0, 1) := by decide +kernel
theorem dX2_mergePlace_6 : decode cX2_mergePlace 6 = .ok (.istore_n 3, 1) := by decide +kernel
theorem dX2_mergePlace_7 : decode cX2_mergePlace 7 = .ok (.iload_n 3, 1) := by decide +kernel
theorem dX2_mergePlace_8 : decode cX2_mergePlace 8 = .ok (.iconst 1, 1) := by decide +kernel
theorem dX2_mergePlace_9 : decode cX2_mergePlace 9 = .ok (.iload_n 1, 1) := by decide +kernel
theorem dX2_mergePlace_10 : decode cX2_mergePlace 10 = .ok (.ishl, 1) := by decide +kernel
theorem dX2_mergePlace_11 : decode cX2_mergePlace 11 = .ok (.if_icmp .ge 64, 3) := by decide +kernel
theorem dX2_mergePlace_14 : decode cX2_mergePlace 14 = .ok (.aload_n 0, 1) := by decide +kernel
theorem dX2_mergePlace_15 : decode cX2_mergePlace 15 = .ok (.getfield 14, 3) := by decide +kernel
theorem dX2_mergePlace_18 : decode cX2_mergePlace 18 = .ok (.iconst 2, 1) := by decide +kernel
theorem dX2_mergePlace_19 : decode cX2_mergePlace 19 = .ok (.iload_n 3, 1) := by decide +kernel
theorem dX2_mergePlace_20 : decode cX2_mergePlace 20 = .ok (.imul, 1) := by decide +kernel
theorem dX2_mergePlace_21 : decode cX2_mergePlace 21 = .ok (.invokevirtual 42, 3) := by decide +kernel
theorem dX2_mergePlace_24 : decode cX2_mergePlace 24 = .ok (.istore 4, 2) := by decide +kernel
theorem dX2_mergePlace_26 : decode cX2_mergePlace 26 = .ok (.aload_n 0, 1) := by decide +kernel
theorem dX2_mergePlace_27 : decode cX2_mergePlace 27 = .ok (.getfield 14, 3) := by decide +kernel
theorem dX2_mergePlace_30 : decode cX2_mergePlace 30 = .ok (.iconst 2, 1) := by decide +kernel
theorem dX2_mergePlace_31 : decode cX2_mergePlace 31 = .ok (.iload_n 3, 1) := by decide +kernel
theorem dX2_mergePlace_32 : decode cX2_mergePlace 32 = .ok (.imul, 1) := by decide +kernel
theorem dX2_mergePlace_33 : decode cX2_mergePlace 33 = .ok (.iconst 1, 1) := by decide +kernel
theorem dX2_mergePlace_34 : decode cX2_mergePlace 34 = .ok (.iadd, 1) := by decide +kernel
theorem dX2_mergePlace_35 : decode cX2_mergePlace 35 = .ok (.invokevirtual 42, 3) := by decide +kernel
theorem dX2_mergePlace_38 : decode cX2_mergePlace 38 = .ok (.istore 5, 2) := by decide +kernel
theorem dX2_mergePlace_40 : decode cX2_mergePlace 40 = .ok (.aload_n 0, 1) := by decide +kernel
theorem dX2_mergePlace_41 : decode cX2_mergePlace 41 = .ok (.getfield 14, 3) := by decide +kernel
theorem dX2_mergePlace_44 : decode cX2_mergePlace 44 = .ok (.iload_n 3, 1) := by decide +kernel
theorem dX2_mergePlace_45 : decode cX2_mergePlace 45 = .ok (.iload 4, 2) := by decide +kernel
theorem dX2_mergePlace_47 : decode cX2_mergePlace 47 = .ok (.iload 5, 2) := by decide +kernel
theorem dX2_mergePlace_49 : decode cX2_mergePlace 49 = .ok (.if_icmp .ne 8, 3) := by decide +kernel
theorem dX2_mergePlace_52 : decode cX2_mergePlace 52 = .ok (.iload 4, 2) := by decide +kernel
theorem dX2_mergePlace_54 : decode cX2_mergePlace 54 = .ok (.goto 12, 3) := by decide +kernel
theorem dX2_mergePlace_57 : decode cX2_mergePlace 57 = .ok (.aload_n 0, 1) := by decide +kernel
theorem dX2_mergePlace_58 : decode cX2_mergePlace 58 = .ok (.iload 4, 2) := by decide +kernel
theorem dX2_mergePlace_60 : decode cX2_mergePlace 60 = .ok (.iload 5, 2) := by decide +kernel
theorem dX2_mergePlace_62 : decode cX2_mergePlace 62 = .ok (.iload_n 2, 1) := by decide +kernel
theorem dX2_mergePlace_63 : decode cX2_mergePlace 63 = .ok (.invokevirtual 61, 3) := by decide +kernel
theorem dX2_mergePlace_66 : decode cX2_mergePlace 66 = .ok (.invokevirtual 50, 3) := by decide +kernel
theorem dX2_mergePlace_69 : decode cX2_mergePlace 69 = .ok (.iinc 3 1, 3) := by decide +kernel
theorem dX2_mergePlace_72 : decode cX2_mergePlace 72 = .ok (.goto (-65), 3) := by decide +kernel
theorem dX2_mergePlace_75 : decode cX2_mergePlace 75 = .ok (.aload_n 0, 1) := by decide +kernel
theorem dX2_mergePlace_76 : decode cX2_mergePlace 76 = .ok (.getfield 29, 3) := by decide +kernel
theorem dX2_mergePlace_79 : decode cX2_mergePlace 79 = .ok (.iload_n 1, 1) := by decide +kernel
theorem dX2_mergePlace_80 : decode cX2_mergePlace 80 = .ok (.aload_n 0, 1) := by decide +kernel
theorem dX2_mergePlace_81 : decode cX2_mergePlace 81 = .ok (.getfield 54, 3) := by decide +kernel
theorem dX2_mergePlace_84 : decode cX2_mergePlace 84 = .ok (.iload_n 2, 1) := by decide +kernel
theorem dX2_mergePlace_85 : decode cX2_mergePlace 85 = .ok (.isub, 1) := by decide +kernel
theorem dX2_mergePlace_86 : decode cX2_mergePlace 86 = .ok (.invokevirtual 50, 3) := by decide +kernel
theorem dX2_mergePlace_89 : decode cX2_mergePlace 89 = .ok (.return_, 1) := by decide +kernel
theorem dX2_nodeWith_0 : decode cX2_nodeWith 0 = .ok (.iload_n 3, 1) := by decide +kernel
theorem dX2_nodeWith_1 : decode cX2_nodeWith 1 = .ok (.istore 4, 2) := by decide +kernel
theorem dX2_nodeWith_3 : decode cX2_nodeWith 3 = .ok (.iload 4, 2) := by decide +kernel
theorem dX2_nodeWith_5 : decode cX2_nodeWith 5 = .ok (.aload_n 0, 1) := by decide +kernel
theorem dX2_nodeWith_6 : decode cX2_nodeWith 6 = .ok (.getfield 54, 3) := by decide +kernel
theorem dX2_nodeWith_9 : decode cX2_nodeWith 9 = .ok (.if_icmp .ge 38, 3) := by decide +kernel
theorem dX2_nodeWith_12 : decode cX2_nodeWith 12 = .ok (.aload_n 0, 1) := by decide +kernel
theorem dX2_nodeWith_13 : decode cX2_nodeWith 13 = .ok (.getfield 20, 3) := by decide +kernel
theorem dX2_nodeWith_16 : decode cX2_nodeWith 16 = .ok (.iload 4, 2) := by decide +kernel
theorem dX2_nodeWith_18 : decode cX2_nodeWith 18 = .ok (.invokevirtual 42, 3) := by decide +kernel
theorem dX2_nodeWith_21 : decode cX2_nodeWith 21 = .ok (.iload_n 1, 1) := by decide +kernel
theorem dX2_nodeWith_22 : decode cX2_nodeWith 22 = .ok (.if_icmp .ne 19, 3) := by decide +kernel
theorem dX2_nodeWith_25 : decode cX2_nodeWith 25 = .ok (.aload_n 0, 1) := by decide +kernel
theorem dX2_nodeWith_26 : decode cX2_nodeWith 26 = .ok (.getfield 23, 3) := by decide +kernel
theorem dX2_nodeWith_29 : decode cX2_nodeWith 29 = .ok (.iload 4, 2) := by decide +kernel
theorem dX2_nodeWith_31 : decode cX2_nodeWith 31 = .ok (.invokevirtual 42, 3) := by decide +kernel
theorem dX2_nodeWith_34 : decode cX2_nodeWith 34 = .ok (.iload_n 2, 1) := by decide +kernel
theorem dX2_nodeWith_35 : decode cX2_nodeWith 35 = .ok (.if_icmp .ne 6, 3) := by decide +kernel
theorem dX2_nodeWith_38 : decode cX2_nodeWith 38 = .ok (.iload 4, 2) := by decide +kernel
theorem dX2_nodeWith_40 : decode cX2_nodeWith 40 = .ok (.ireturn, 1) := by decide +kernel
theorem dX2_nodeWith_41 : decode cX2_nodeWith 41 = .ok (.iinc 4 1, 3) := by decide +kernel
theorem dX2_nodeWith_44 : decode cX2_nodeWith 44 = .ok (.goto (-41), 3) := by decide +kernel
theorem dX2_nodeWith_47 : decode cX2_nodeWith 47 = .ok (.aload_n 0, 1) := by decide +kernel
theorem dX2_nodeWith_48 : decode cX2_nodeWith 48 = .ok (.getfield 54, 3) := by decide +kernel
theorem dX2_nodeWith_51 : decode cX2_nodeWith 51 = .ok (.istore 4, 2) := by decide +kernel
theorem dX2_nodeWith_53 : decode cX2_nodeWith 53 = .ok (.aload_n 0, 1) := by decide +kernel
theorem dX2_nodeWith_54 : decode cX2_nodeWith 54 = .ok (.getfield 20, 3) := by decide +kernel
theorem dX2_nodeWith_57 : decode cX2_nodeWith 57 = .ok (.iload 4, 2) := by decide +kernel
theorem dX2_nodeWith_59 : decode cX2_nodeWith 59 = .ok (.iload_n 1, 1) := by decide +kernel
theorem dX2_nodeWith_60 : decode cX2_nodeWith 60 = .ok (.invokevirtual 50, 3) := by decide +kernel
theorem dX2_nodeWith_63 : decode cX2_nodeWith 63 = .ok (.aload_n 0, 1) := by decide +kernel
theorem dX2_nodeWith_64 : decode cX2_nodeWith 64 = .ok (.getfield 23, 3) := by decide +kernel
theorem dX2_nodeWith_67 : decode cX2_nodeWith 67 = .ok (.iload 4, 2) := by decide +kernel
theorem dX2_nodeWith_69 : decode cX2_nodeWith 69 = .ok (.iload_n 2, 1) := by decide +kernel
theorem dX2_nodeWith_70 : decode cX2_nodeWith 70 = .ok (.invokevirtual 50, 3) := by decide +kernel
theorem dX2_nodeWith_73 : decode cX2_nodeWith 73 = .ok (.aload_n 0, 1) := by decide +kernel
theorem dX2_nodeWith_74 : decode cX2_nodeWith 74 = .ok (.getfield 26, 3) := by decide +kernel
theorem dX2_nodeWith_77 : decode cX2_nodeWith 77 = .ok (.iload 4, 2) := by decide +kernel
theorem dX2_nodeWith_79 : decode cX2_nodeWith 79 = .ok (.aload_n 0, 1) := by decide +kernel
theorem dX2_nodeWith_80 : decode cX2_nodeWith 80 = .ok (.getfield 26, 3) := by decide +kernel
theorem dX2_nodeWith_83 : decode cX2_nodeWith 83 = .ok (.iload_n 1, 1) := by decide +kernel
theorem dX2_nodeWith_84 : decode cX2_nodeWith 84 = .ok (.invokevirtual 42, 3) := by decide +kernel
theorem dX2_nodeWith_87 : decode cX2_nodeWith 87 = .ok (.aload_n 0, 1) := by decide +kernel
theorem dX2_nodeWith_88 : decode cX2_nodeWith 88 = .ok (.getfield 26, 3) := by decide +kernel
theorem dX2_nodeWith_91 : decode cX2_nodeWith 91 = .ok (.iload_n 2, 1) := by decide +kernel
theorem dX2_nodeWith_92 : decode cX2_nodeWith 92 = .ok (.invokevirtual 42, 3) := by decide +kernel
theorem dX2_nodeWith_95 : decode cX2_nodeWith 95 = .ok (.iadd, 1) := by decide +kernel
theorem dX2_nodeWith_96 : decode cX2_nodeWith 96 = .ok (.invokevirtual 50, 3) := by decide +kernel
theorem dX2_nodeWith_99 : decode cX2_nodeWith 99 = .ok (.aload_n 0, 1) := by decide +kernel
theorem dX2_nodeWith_100 : decode cX2_nodeWith 100 = .ok (.dup, 1) := by decide +kernel
theorem dX2_nodeWith_101 : decode cX2_nodeWith 101 = .ok (.getfield 54, 3) := by decide +kernel
theorem dX2_nodeWith_104 : decode cX2_nodeWith 104 = .ok (.iconst 1, 1) := by decide +kernel
theorem dX2_nodeWith_105 : decode cX2_nodeWith 105 = .ok (.iadd, 1) := by decide +kernel
theorem dX2_nodeWith_106 : decode cX2_nodeWith 106 = .ok (.putfield 54, 3) := by decide +kernel
theorem dX2_nodeWith_109 : decode cX2_nodeWith 109 = .ok (.iload 4, 2) := by decide +kernel
theorem dX2_nodeWith_111 : decode cX2_nodeWith 111 = .ok (.ireturn, 1) := by decide +kernel
theorem dX3_init_0 : decode cX3_init 0 = .ok (.aload_n 0, 1) := by decide +kernel
theorem dX3_init_1 : decode cX3_init 1 = .ok (.bipush 111, 2) := by decide +kernel
theorem dX3_init_3 : decode cX3_init 3 = .ok (.iload_n 1, 1) := by decide +kernel
theorem dX3_init_4 : decode cX3_init 4 = .ok (.iload_n 2, 1) := by decide +kernel
theorem dX3_init_5 : decode cX3_init 5 = .ok (.ior, 1) := by decide +kernel
theorem dX3_init_6 : decode cX3_init 6 = .ok (.invokespecial 1, 3) := by decide +kernel
theorem dX3_init_9 : decode cX3_init 9 = .ok (.aload_n 0, 1) := by decide +kernel
theorem dX3_init_10 : decode cX3_init 10 = .ok (.iload_n 1, 1) := by decide +kernel
theorem dX3_init_11 : decode cX3_init 11 = .ok (.putfield 7, 3) := by decide +kernel
theorem dX3_init_14 : decode cX3_init 14 = .ok (.aload_n 0, 1) := by decide +kernel
theorem dX3_init_15 : decode cX3_init 15 = .ok (.iload_n 2, 1) := by decide +kernel
theorem dX3_init_16 : decode cX3_init 16 = .ok (.putfield 13, 3) := by decide +kernel
theorem dX3_init_19 : decode cX3_init 19 = .ok (.return_, 1) := by decide +kernel
theorem dX3_isMetBy_0 : decode cX3_isMetBy 0 = .ok (.iload_n 1, 1) := by decide +kernel
theorem dX3_isMetBy_1 : decode cX3_isMetBy 1 = .ok (.aload_n 0, 1) := by decide +kernel
theorem dX3_isMetBy_2 : decode cX3_isMetBy 2 = .ok (.getfield 7, 3) := by decide +kernel
theorem dX3_isMetBy_5 : decode cX3_isMetBy 5 = .ok (.iand, 1) := by decide +kernel
theorem dX3_isMetBy_6 : decode cX3_isMetBy 6 = .ok (.iload_n 1, 1) := by decide +kernel
theorem dX3_isMetBy_7 : decode cX3_isMetBy 7 = .ok (.iconst (-1), 1) := by decide +kernel
theorem dX3_isMetBy_8 : decode cX3_isMetBy 8 = .ok (.ixor, 1) := by decide +kernel
theorem dX3_isMetBy_9 : decode cX3_isMetBy 9 = .ok (.aload_n 0, 1) := by decide +kernel
theorem dX3_isMetBy_10 : decode cX3_isMetBy 10 = .ok (.getfield 13, 3) := by decide +kernel
theorem dX3_isMetBy_13 : decode cX3_isMetBy 13 = .ok (.iand, 1) := by decide +kernel
theorem dX3_isMetBy_14 : decode cX3_isMetBy 14 = .ok (.ior, 1) := by decide +kernel
theorem dX3_isMetBy_15 : decode cX3_isMetBy 15 = .ok (.ifCond .eq 7, 3) := by decide +kernel
theorem dX3_isMetBy_18 : decode cX3_isMetBy 18 = .ok (.iconst 1, 1) := by decide +kernel
theorem dX3_isMetBy_19 : decode cX3_isMetBy 19 = .ok (.goto 4, 3) := by decide +kernel
theorem dX3_isMetBy_22 : decode cX3_isMetBy 22 = .ok (.iconst 0, 1) := by decide +kernel
theorem dX3_isMetBy_23 : decode cX3_isMetBy 23 = .ok (.ireturn, 1) := by decide +kernel
theorem dX4_init_0 : decode cX4_init 0 = .ok (.aload_n 0, 1) := by decide +kernel
theorem dX4_init_1 : decode cX4_init 1 = .ok (.invokespecial 1, 3) := by decide +kernel
theorem dX4_init_4 : decode cX4_init 4 = .ok (.aload_n 0, 1) := by decide +kernel
theorem dX4_init_5 : decode cX4_init 5 = .ok (.iload_n 1, 1) := by decide +kernel
theorem dX4_init_6 : decode cX4_init 6 = .ok (.putfield 7, 3) := by decide +kernel
theorem dX4_init_9 : decode cX4_init 9 = .ok (.aload_n 0, 1) := by decide +kernel
theorem dX4_init_10 : decode cX4_init 10 = .ok (.iload_n 2, 1) := by decide +kernel
theorem dX4_init_11 : decode cX4_init 11 = .ok (.putfield 13, 3) := by decide +kernel
theorem dX4_init_14 : decode cX4_init 14 = .ok (.return_, 1) := by decide +kernel
theorem dX5_init_0 : decode cX5_init 0 = .ok (.aload_n 0, 1) := by decide +kernel
theorem dX5_init_1 : decode cX5_init 1 = .ok (.invokespecial 3, 3) := by decide +kernel
theorem dX5_init_4 : decode cX5_init 4 = .ok (.aload_n 0, 1) := by decide +kernel
theorem dX5_init_5 : decode cX5_init 5 = .ok (.bipush 20, 2) := by decide +kernel
theorem dX5_init_7 : decode cX5_init 7 = .ok (.anewarray 9, 3) := by decide +kernel
theorem dX5_init_10 : decode cX5_init 10 = .ok (.putfield 11, 3) := by decide +kernel
theorem dX5_init_13 : decode cX5_init 13 = .ok (.return_, 1) := by decide +kernel
theorem dX5_count_0 : decode cX5_count 0 = .ok (.aload_n 0, 1) := by decide +kernel
theorem dX5_count_1 : decode cX5_count 1 = .ok (.getfield 17, 3) := by decide +kernel
theorem dX5_count_4 : decode cX5_count 4 = .ok (.ireturn, 1) := by decide +kernel
theorem dX5_live_0 : decode cX5_live 0 = .ok (.aload_n 0, 1) := by decide +kernel
theorem dX5_live_1 : decode cX5_live 1 = .ok (.getfield 21, 3) := by decide +kernel
theorem dX5_live_4 : decode cX5_live 4 = .ok (.ireturn, 1) := by decide +kernel
theorem dX5_isLive_0 : decode cX5_isLive 0 = .ok (.aload_n 0, 1) := by decide +kernel
theorem dX5_isLive_1 : decode cX5_isLive 1 = .ok (.iload_n 1, 1) := by decide +kernel
theorem dX5_isLive_2 : decode cX5_isLive 2 = .ok (.invokevirtual 24, 3) := by decide +kernel
theorem dX5_isLive_5 : decode cX5_isLive 5 = .ok (.ifnull 18, 3) := by decide +kernel
theorem dX5_isLive_8 : decode cX5_isLive 8 = .ok (.aload_n 0, 1) := by decide +kernel
theorem dX5_isLive_9 : decode cX5_isLive 9 = .ok (.getfield 21, 3) := by decide +kernel
theorem dX5_isLive_12 : decode cX5_isLive 12 = .ok (.iload_n 1, 1) := by decide +kernel
theorem dX5_isLive_13 : decode cX5_isLive 13 = .ok (.ishr, 1) := by decide +kernel
theorem dX5_isLive_14 : decode cX5_isLive 14 = .ok (.iconst 1, 1) := by decide +kernel
theorem dX5_isLive_15 : decode cX5_isLive 15 = .ok (.iand, 1) := by decide +kernel
theorem dX5_isLive_16 : decode cX5_isLive 16 = .ok (.ifCond .eq 7, 3) := by decide +kernel
theorem dX5_isLive_19 : decode cX5_isLive 19 = .ok (.iconst 1, 1) := by decide +kernel
theorem dX5_isLive_20 : decode cX5_isLive 20 = .ok (.goto 4, 3) := by decide +kernel
theorem dX5_isLive_23 : decode cX5_isLive 23 = .ok (.iconst 0, 1) := by decide +kernel
theorem dX5_isLive_24 : decode cX5_isLive 24 = .ok (.ireturn, 1) := by decide +kernel
theorem dX5_at_0 : decode cX5_at 0 = .ok (.iload_n 1, 1) := by decide +kernel
theorem dX5_at_1 : decode cX5_at 1 = .ok (.ifCond .lt 21, 3) := by decide +kernel
theorem dX5_at_4 : decode cX5_at 4 = .ok (.iload_n 1, 1) := by decide +kernel
theorem dX5_at_5 : decode cX5_at 5 = .ok (.aload_n 0, 1) := by decide +kernel
theorem dX5_at_6 : decode cX5_at 6 = .ok (.getfield 11, 3) := by decide +kernel
theorem dX5_at_9 : decode cX5_at 9 = .ok (.arraylength, 1) := by decide +kernel
theorem dX5_at_10 : decode cX5_at 10 = .ok (.if_icmp .ge 12, 3) := by decide +kernel
theorem dX5_at_13 : decode cX5_at 13 = .ok (.aload_n 0, 1) := by decide +kernel
theorem dX5_at_14 : decode cX5_at 14 = .ok (.getfield 11, 3) := by decide +kernel
theorem dX5_at_17 : decode cX5_at 17 = .ok (.iload_n 1, 1) := by decide +kernel
theorem dX5_at_18 : decode cX5_at 18 = .ok (.aaload, 1) := by decide +kernel
theorem dX5_at_19 : decode cX5_at 19 = .ok (.goto 4, 3) := by decide +kernel
theorem dX5_at_22 : decode cX5_at 22 = .ok (.aconst_null, 1) := by decide +kernel
theorem dX5_at_23 : decode cX5_at 23 = .ok (.areturn, 1) := by decide +kernel
theorem dX5_add_0 : decode cX5_add 0 = .ok (.aload_n 0, 1) := by decide +kernel
theorem dX5_add_1 : decode cX5_add 1 = .ok (.getfield 17, 3) := by decide +kernel
theorem dX5_add_4 : decode cX5_add 4 = .ok (.istore_n 2, 1) := by decide +kernel
theorem dX5_add_5 : decode cX5_add 5 = .ok (.iload_n 2, 1) := by decide +kernel
theorem dX5_add_6 : decode cX5_add 6 = .ok (.ifCond .lt 41, 3) := by decide +kernel
theorem dX5_add_9 : decode cX5_add 9 = .ok (.iload_n 2, 1) := by decide +kernel
theorem dX5_add_10 : decode cX5_add 10 = .ok (.aload_n 0, 1) := by decide +kernel
theorem dX5_add_11 : decode cX5_add 11 = .ok (.getfield 11, 3) := by decide +kernel
theorem dX5_add_14 : decode cX5_add 14 = .ok (.arraylength, 1) := by decide +kernel
theorem dX5_add_15 : decode cX5_add 15 = .ok (.if_icmp .ge 32, 3) := by decide +kernel
theorem dX5_add_18 : decode cX5_add 18 = .ok (.aload_n 0, 1) := by decide +kernel
theorem dX5_add_19 : decode cX5_add 19 = .ok (.getfield 11, 3) := by decide +kernel
theorem dX5_add_22 : decode cX5_add 22 = .ok (.iload_n 2, 1) := by decide +kernel
theorem dX5_add_23 : decode cX5_add 23 = .ok (.aload_n 1, 1) := by decide +kernel
theorem dX5_add_24 : decode cX5_add 24 = .ok (.aastore, 1) := by decide +kernel
theorem dX5_add_25 : decode cX5_add 25 = .ok (.aload_n 0, 1) := by decide +kernel
theorem dX5_add_26 : decode cX5_add 26 = .ok (.dup, 1) := by decide +kernel
theorem dX5_add_27 : decode cX5_add 27 = .ok (.getfield 21, 3) := by decide +kernel
theorem dX5_add_30 : decode cX5_add 30 = .ok (.iconst 1, 1) := by decide +kernel
theorem dX5_add_31 : decode cX5_add 31 = .ok (.iload_n 2, 1) := by decide +kernel
theorem dX5_add_32 : decode cX5_add 32 = .ok (.ishl, 1) := by decide +kernel
theorem dX5_add_33 : decode cX5_add 33 = .ok (.ior, 1) := by decide +kernel
theorem dX5_add_34 : decode cX5_add 34 = .ok (.putfield 21, 3) := by decide +kernel
theorem dX5_add_37 : decode cX5_add 37 = .ok (.aload_n 0, 1) := by decide +kernel
theorem dX5_add_38 : decode cX5_add 38 = .ok (.dup, 1) := by decide +kernel
theorem dX5_add_39 : decode cX5_add 39 = .ok (.getfield 17, 3) := by decide +kernel
theorem dX5_add_42 : decode cX5_add 42 = .ok (.iconst 1, 1) := by decide +kernel
theorem dX5_add_43 : decode cX5_add 43 = .ok (.iadd, 1) := by decide +kernel
theorem dX5_add_44 : decode cX5_add 44 = .ok (.putfield 17, 3) := by decide +kernel
theorem dX5_add_47 : decode cX5_add 47 = .ok (.iload_n 2, 1) := by decide +kernel
theorem dX5_add_48 : decode cX5_add 48 = .ok (.ireturn, 1) := by decide +kernel
theorem dX5_strike_0 : decode cX5_strike 0 = .ok (.aload_n 0, 1) := by decide +kernel
theorem dX5_strike_1 : decode cX5_strike 1 = .ok (.dup, 1) := by decide +kernel
theorem dX5_strike_2 : decode cX5_strike 2 = .ok (.getfield 21, 3) := by decide +kernel
theorem dX5_strike_5 : decode cX5_strike 5 = .ok (.iconst 1, 1) := by decide +kernel
theorem dX5_strike_6 : decode cX5_strike 6 = .ok (.iload_n 1, 1) := by decide +kernel
theorem dX5_strike_7 : decode cX5_strike 7 = .ok (.ishl, 1) := by decide +kernel
theorem dX5_strike_8 : decode cX5_strike 8 = .ok (.iconst (-1), 1) := by decide +kernel
theorem dX5_strike_9 : decode cX5_strike 9 = .ok (.ixor, 1) := by decide +kernel
theorem dX5_strike_10 : decode cX5_strike 10 = .ok (.iand, 1) := by decide +kernel
theorem dX5_strike_11 : decode cX5_strike 11 = .ok (.putfield 21, 3) := by decide +kernel
theorem dX5_strike_14 : decode cX5_strike 14 = .ok (.return_, 1) := by decide +kernel
theorem dX5_areMet_0 : decode cX5_areMet 0 = .ok (.iconst 0, 1) := by decide +kernel
theorem dX5_areMet_1 : decode cX5_areMet 1 = .ok (.istore_n 3, 1) := by decide +kernel
theorem dX5_areMet_2 : decode cX5_areMet 2 = .ok (.iload_n 3, 1) := by decide +kernel
theorem dX5_areMet_3 : decode cX5_areMet 3 = .ok (.aload_n 0, 1) := by decide +kernel
theorem dX5_areMet_4 : decode cX5_areMet 4 = .ok (.getfield 17, 3) := by decide +kernel
theorem dX5_areMet_7 : decode cX5_areMet 7 = .ok (.if_icmp .ge 40, 3) := by decide +kernel
theorem dX5_areMet_10 : decode cX5_areMet 10 = .ok (.aload_n 0, 1) := by decide +kernel
theorem dX5_areMet_11 : decode cX5_areMet 11 = .ok (.iload_n 3, 1) := by decide +kernel
theorem dX5_areMet_12 : decode cX5_areMet 12 = .ok (.invokevirtual 24, 3) := by decide +kernel
theorem dX5_areMet_15 : decode cX5_areMet 15 = .ok (.astore 4, 2) := by decide +kernel
theorem dX5_areMet_17 : decode cX5_areMet 17 = .ok (.iload_n 1, 1) := by decide +kernel
theorem dX5_areMet_18 : decode cX5_areMet 18 = .ok (.iload_n 3, 1) := by decide +kernel
theorem dX5_areMet_19 : decode cX5_areMet 19 = .ok (.ishr, 1) := by decide +kernel
theorem dX5_areMet_20 : decode cX5_areMet 20 = .ok (.iconst 1, 1) := by decide +kernel
theorem dX5_areMet_21 : decode cX5_areMet 21 = .ok (.iand, 1) := by decide +kernel
theorem dX5_areMet_22 : decode cX5_areMet 22 = .ok (.ifCond .eq 19, 3) := by decide +kernel
theorem dX5_areMet_25 : decode cX5_areMet 25 = .ok (.aload 4, 2) := by decide +kernel
theorem dX5_areMet_27 : decode cX5_areMet 27 = .ok (.ifnull 14, 3) := by decide +kernel
theorem dX5_areMet_30 : decode cX5_areMet 30 = .ok (.aload 4, 2) := by decide +kernel
theorem dX5_areMet_32 : decode cX5_areMet 32 = .ok (.iload_n 2, 1) := by decide +kernel
theorem dX5_areMet_33 : decode cX5_areMet 33 = .ok (.invokevirtual 28, 3) := by decide +kernel
theorem dX5_areMet_36 : decode cX5_areMet 36 = .ok (.ifCond .ne 5, 3) := by decide +kernel
theorem dX5_areMet_39 : decode cX5_areMet 39 = .ok (.iconst 0, 1) := by decide +kernel
theorem dX5_areMet_40 : decode cX5_areMet 40 = .ok (.ireturn, 1) := by decide +kernel
theorem dX5_areMet_41 : decode cX5_areMet 41 = .ok (.iinc 3 1, 3) := by decide +kernel
theorem dX5_areMet_44 : decode cX5_areMet 44 = .ok (.goto (-42), 3) := by decide +kernel
theorem dX5_areMet_47 : decode cX5_areMet 47 = .ok (.iconst 1, 1) := by decide +kernel
theorem dX5_areMet_48 : decode cX5_areMet 48 = .ok (.ireturn, 1) := by decide +kernel
theorem dX5_touching_0 : decode cX5_touching 0 = .ok (.iconst 0, 1) := by decide +kernel
theorem dX5_touching_1 : decode cX5_touching 1 = .ok (.istore_n 2, 1) := by decide +kernel
theorem dX5_touching_2 : decode cX5_touching 2 = .ok (.iconst 0, 1) := by decide +kernel
theorem dX5_touching_3 : decode cX5_touching 3 = .ok (.istore_n 3, 1) := by decide +kernel
theorem dX5_touching_4 : decode cX5_touching 4 = .ok (.iload_n 3, 1) := by decide +kernel
theorem dX5_touching_5 : decode cX5_touching 5 = .ok (.aload_n 0, 1) := by decide +kernel
theorem dX5_touching_6 : decode cX5_touching 6 = .ok (.getfield 17, 3) := by decide +kernel
theorem dX5_touching_9 : decode cX5_touching 9 = .ok (.if_icmp .ge 37, 3) := by decide +kernel
theorem dX5_touching_12 : decode cX5_touching 12 = .ok (.aload_n 0, 1) := by decide +kernel
theorem dX5_touching_13 : decode cX5_touching 13 = .ok (.iload_n 3, 1) := by decide +kernel
theorem dX5_touching_14 : decode cX5_touching 14 = .ok (.invokevirtual 24, 3) := by decide +kernel
theorem dX5_touching_17 : decode cX5_touching 17 = .ok (.astore 4, 2) := by decide +kernel
theorem dX5_touching_19 : decode cX5_touching 19 = .ok (.aload 4, 2) := by decide +kernel
theorem dX5_touching_21 : decode cX5_touching 21 = .ok (.ifnull 19, 3) := by decide +kernel
theorem dX5_touching_24 : decode cX5_touching 24 = .ok (.aload 4, 2) := by decide +kernel
theorem dX5_touching_26 : decode cX5_touching 26 = .ok (.getfield 32, 3) := by decide +kernel
theorem dX5_touching_29 : decode cX5_touching 29 = .ok (.iload_n 1, 1) := by decide +kernel
theorem dX5_touching_30 : decode cX5_touching 30 = .ok (.iand, 1) := by decide +kernel
theorem dX5_touching_31 : decode cX5_touching 31 = .ok (.ifCond .eq 9, 3) := by decide +kernel
theorem dX5_touching_34 : decode cX5_touching 34 = .ok (.iload_n 2, 1) := by decide +kernel
theorem dX5_touching_35 : decode cX5_touching 35 = .ok (.iconst 1, 1) := by decide +kernel
theorem dX5_touching_36 : decode cX5_touching 36 = .ok (.iload_n 3, 1) := by decide +kernel
theorem dX5_touching_37 : decode cX5_touching 37 = .ok (.ishl, 1) := by decide +kernel
theorem dX5_touching_38 : decode cX5_touching 38 = .ok (.ior, 1) := by decide +kernel
theorem dX5_touching_39 : decode cX5_touching 39 = .ok (.istore_n 2, 1) := by decide +kernel
theorem dX5_touching_40 : decode cX5_touching 40 = .ok (.iinc 3 1, 3) := by decide +kernel
theorem dX5_touching_43 : decode cX5_touching 43 = .ok (.goto (-39), 3) := by decide +kernel
theorem dX5_touching_46 : decode cX5_touching 46 = .ok (.iload_n 2, 1) := by decide +kernel
theorem dX5_touching_47 : decode cX5_touching 47 = .ok (.aload_n 0, 1) := by decide +kernel
theorem dX5_touching_48 : decode cX5_touching 48 = .ok (.getfield 21, 3) := by decide +kernel
theorem dX5_touching_51 : decode cX5_touching 51 = .ok (.iand, 1) := by decide +kernel
theorem dX5_touching_52 : decode cX5_touching 52 = .ok (.ireturn, 1) := by decide +kernel
theorem dX5_membersOf_0 : decode cX5_membersOf 0 = .ok (.iconst 0, 1) := by decide +kernel
theorem dX5_membersOf_1 : decode cX5_membersOf 1 = .ok (.istore_n 2, 1) := by decide +kernel
theorem dX5_membersOf_2 : decode cX5_membersOf 2 = .ok (.iconst 0, 1) := by decide +kernel
theorem dX5_membersOf_3 : decode cX5_membersOf 3 = .ok (.istore_n 3, 1) := by decide +kernel
theorem dX5_membersOf_4 : decode cX5_membersOf 4 = .ok (.iload_n 3, 1) := by decide +kernel
theorem dX5_membersOf_5 : decode cX5_membersOf 5 = .ok (.aload_n 0, 1) := by decide +kernel
theorem dX5_membersOf_6 : decode cX5_membersOf 6 = .ok (.getfield 17, 3) := by decide +kernel
theorem dX5_membersOf_9 : decode cX5_membersOf 9 = .ok (.if_icmp .ge 37, 3) := by decide +kernel
theorem dX5_membersOf_12 : decode cX5_membersOf 12 = .ok (.aload_n 0, 1) := by decide +kernel
theorem dX5_membersOf_13 : decode cX5_membersOf 13 = .ok (.iload_n 3, 1) := by decide +kernel
theorem dX5_membersOf_14 : decode cX5_membersOf 14 = .ok (.invokevirtual 24, 3) := by decide +kernel
theorem dX5_membersOf_17 : decode cX5_membersOf 17 = .ok (.astore 4, 2) := by decide +kernel
theorem dX5_membersOf_19 : decode cX5_membersOf 19 = .ok (.iload_n 1, 1) := by decide +kernel
theorem dX5_membersOf_20 : decode cX5_membersOf 20 = .ok (.iload_n 3, 1) := by decide +kernel
theorem dX5_membersOf_21 : decode cX5_membersOf 21 = .ok (.ishr, 1) := by decide +kernel
theorem dX5_membersOf_22 : decode cX5_membersOf 22 = .ok (.iconst 1, 1) := by decide +kernel
theorem dX5_membersOf_23 : decode cX5_membersOf 23 = .ok (.iand, 1) := by decide +kernel
theorem dX5_membersOf_24 : decode cX5_membersOf 24 = .ok (.ifCond .eq 16, 3) := by decide +kernel
theorem dX5_membersOf_27 : decode cX5_membersOf 27 = .ok (.aload 4, 2) := by decide +kernel
theorem dX5_membersOf_29 : decode cX5_membersOf 29 = .ok (.ifnull 11, 3) := by decide +kernel
theorem dX5_membersOf_32 : decode cX5_membersOf 32 = .ok (.iload_n 2, 1) := by decide +kernel
theorem dX5_membersOf_33 : decode cX5_membersOf 33 = .ok (.aload 4, 2) := by decide +kernel
theorem dX5_membersOf_35 : decode cX5_membersOf 35 = .ok (.getfield 32, 3) := by decide +kernel
theorem dX5_membersOf_38 : decode cX5_membersOf 38 = .ok (.ior, 1) := by decide +kernel
theorem dX5_membersOf_39 : decode cX5_membersOf 39 = .ok (.istore_n 2, 1) := by decide +kernel
theorem dX5_membersOf_40 : decode cX5_membersOf 40 = .ok (.iinc 3 1, 3) := by decide +kernel
theorem dX5_membersOf_43 : decode cX5_membersOf 43 = .ok (.goto (-39), 3) := by decide +kernel
theorem dX5_membersOf_46 : decode cX5_membersOf 46 = .ok (.iload_n 2, 1) := by decide +kernel
theorem dX5_membersOf_47 : decode cX5_membersOf 47 = .ok (.ireturn, 1) := by decide +kernel
theorem dX6_init_0 : decode cX6_init 0 = .ok (.aload_n 0, 1) := by decide +kernel
theorem dX6_init_1 : decode cX6_init 1 = .ok (.invokespecial 1, 3) := by decide +kernel
theorem dX6_init_4 : decode cX6_init 4 = .ok (.aload_n 0, 1) := by decide +kernel
theorem dX6_init_5 : decode cX6_init 5 = .ok (.iload_n 1, 1) := by decide +kernel
theorem dX6_init_6 : decode cX6_init 6 = .ok (.ifCond .le 7, 3) := by decide +kernel
theorem dX6_init_9 : decode cX6_init 9 = .ok (.iload_n 1, 1) := by decide +kernel
theorem dX6_init_10 : decode cX6_init 10 = .ok (.goto 4, 3) := by decide +kernel
theorem dX6_init_13 : decode cX6_init 13 = .ok (.iconst 0, 1) := by decide +kernel
theorem dX6_init_14 : decode cX6_init 14 = .ok (.newarray .int, 2) := by decide +kernel
theorem dX6_init_16 : decode cX6_init 16 = .ok (.putfield 7, 3) := by decide +kernel
theorem dX6_init_19 : decode cX6_init 19 = .ok (.return_, 1) := by decide +kernel
theorem dX6_at_0 : decode cX6_at 0 = .ok (.iload_n 1, 1) := by decide +kernel
theorem dX6_at_1 : decode cX6_at 1 = .ok (.ifCond .lt 21, 3) := by decide +kernel
theorem dX6_at_4 : decode cX6_at 4 = .ok (.iload_n 1, 1) := by decide +kernel
theorem dX6_at_5 : decode cX6_at 5 = .ok (.aload_n 0, 1) := by decide +kernel
theorem dX6_at_6 : decode cX6_at 6 = .ok (.getfield 7, 3) := by decide +kernel
theorem dX6_at_9 : decode cX6_at 9 = .ok (.arraylength, 1) := by decide +kernel
theorem dX6_at_10 : decode cX6_at 10 = .ok (.if_icmp .ge 12, 3) := by decide +kernel
theorem dX6_at_13 : decode cX6_at 13 = .ok (.aload_n 0, 1) := by decide +kernel
theorem dX6_at_14 : decode cX6_at 14 = .ok (.getfield 7, 3) := by decide +kernel
theorem dX6_at_17 : decode cX6_at 17 = .ok (.iload_n 1, 1) := by decide +kernel
theorem dX6_at_18 : decode cX6_at 18 = .ok (.iaload, 1) := by decide +kernel
theorem dX6_at_19 : decode cX6_at 19 = .ok (.goto 4, 3) := by decide +kernel
theorem dX6_at_22 : decode cX6_at 22 = .ok (.iconst 0, 1) := by decide +kernel
theorem dX6_at_23 : decode cX6_at 23 = .ok (.ireturn, 1) := by decide +kernel
theorem dX6_put_0 : decode cX6_put 0 = .ok (.iload_n 1, 1) := by decide +kernel
theorem dX6_put_1 : decode cX6_put 1 = .ok (.ifCond .lt 19, 3) := by decide +kernel
theorem dX6_put_4 : decode cX6_put 4 = .ok (.iload_n 1, 1) := by decide +kernel
theorem dX6_put_5 : decode cX6_put 5 = .ok (.aload_n 0, 1) := by decide +kernel
theorem dX6_put_6 : decode cX6_put 6 = .ok (.getfield 7, 3) := by decide +kernel
theorem dX6_put_9 : decode cX6_put 9 = .ok (.arraylength, 1) := by decide +kernel
theorem dX6_put_10 : decode cX6_put 10 = .ok (.if_icmp .ge 10, 3) := by decide +kernel
theorem dX6_put_13 : decode cX6_put 13 = .ok (.aload_n 0, 1) := by decide +kernel
theorem dX6_put_14 : decode cX6_put 14 = .ok (.getfield 7, 3) := by decide +kernel
theorem dX6_put_17 : decode cX6_put 17 = .ok (.iload_n 1, 1) := by decide +kernel
theorem dX6_put_18 : decode cX6_put 18 = .ok (.iload_n 2, 1) := by decide +kernel
theorem dX6_put_19 : decode cX6_put 19 = .ok (.iastore, 1) := by decide +kernel
theorem dX6_put_20 : decode cX6_put 20 = .ok (.return_, 1) := by decide +kernel
theorem dX7_init_0 : decode cX7_init 0 = .ok (.aload_n 0, 1) := by decide +kernel
theorem dX7_init_1 : decode cX7_init 1 = .ok (.invokespecial 1, 3) := by decide +kernel
theorem dX7_init_4 : decode cX7_init 4 = .ok (.aload_n 0, 1) := by decide +kernel
theorem dX7_init_5 : decode cX7_init 5 = .ok (.iload_n 1, 1) := by decide +kernel
theorem dX7_init_6 : decode cX7_init 6 = .ok (.ifCond .le 7, 3) := by decide +kernel
theorem dX7_init_9 : decode cX7_init 9 = .ok (.iload_n 1, 1) := by decide +kernel
theorem dX7_init_10 : decode cX7_init 10 = .ok (.goto 4, 3) := by decide +kernel
theorem dX7_init_13 : decode cX7_init 13 = .ok (.iconst 0, 1) := by decide +kernel
theorem dX7_init_14 : decode cX7_init 14 = .ok (.newarray .long, 2) := by decide +kernel
theorem dX7_init_16 : decode cX7_init 16 = .ok (.putfield 7, 3) := by decide +kernel
theorem dX7_init_19 : decode cX7_init 19 = .ok (.return_, 1) := by decide +kernel
theorem dX7_length_0 : decode cX7_length 0 = .ok (.aload_n 0, 1) := by decide +kernel
theorem dX7_length_1 : decode cX7_length 1 = .ok (.getfield 7, 3) := by decide +kernel
theorem dX7_length_4 : decode cX7_length 4 = .ok (.arraylength, 1) := by decide +kernel
theorem dX7_length_5 : decode cX7_length 5 = .ok (.ireturn, 1) := by decide +kernel
theorem dX7_at_0 : decode cX7_at 0 = .ok (.iload_n 1, 1) := by decide +kernel
theorem dX7_at_1 : decode cX7_at 1 = .ok (.ifCond .lt 21, 3) := by decide +kernel
theorem dX7_at_4 : decode cX7_at 4 = .ok (.iload_n 1, 1) := by decide +kernel
theorem dX7_at_5 : decode cX7_at 5 = .ok (.aload_n 0, 1) := by decide +kernel
theorem dX7_at_6 : decode cX7_at 6 = .ok (.getfield 7, 3) := by decide +kernel
theorem dX7_at_9 : decode cX7_at 9 = .ok (.arraylength, 1) := by decide +kernel
theorem dX7_at_10 : decode cX7_at 10 = .ok (.if_icmp .ge 12, 3) := by decide +kernel
theorem dX7_at_13 : decode cX7_at 13 = .ok (.aload_n 0, 1) := by decide +kernel
theorem dX7_at_14 : decode cX7_at 14 = .ok (.getfield 7, 3) := by decide +kernel
theorem dX7_at_17 : decode cX7_at 17 = .ok (.iload_n 1, 1) := by decide +kernel
theorem dX7_at_18 : decode cX7_at 18 = .ok (.laload, 1) := by decide +kernel
theorem dX7_at_19 : decode cX7_at 19 = .ok (.goto 4, 3) := by decide +kernel
theorem dX7_at_22 : decode cX7_at 22 = .ok (.lconst 0, 1) := by decide +kernel
theorem dX7_at_23 : decode cX7_at 23 = .ok (.lreturn, 1) := by decide +kernel
theorem dX7_put_0 : decode cX7_put 0 = .ok (.iload_n 1, 1) := by decide +kernel
theorem dX7_put_1 : decode cX7_put 1 = .ok (.ifCond .lt 19, 3) := by decide +kernel
theorem dX7_put_4 : decode cX7_put 4 = .ok (.iload_n 1, 1) := by decide +kernel
theorem dX7_put_5 : decode cX7_put 5 = .ok (.aload_n 0, 1) := by decide +kernel
theorem dX7_put_6 : decode cX7_put 6 = .ok (.getfield 7, 3) := by decide +kernel
theorem dX7_put_9 : decode cX7_put 9 = .ok (.arraylength, 1) := by decide +kernel
theorem dX7_put_10 : decode cX7_put 10 = .ok (.if_icmp .ge 10, 3) := by decide +kernel
theorem dX7_put_13 : decode cX7_put 13 = .ok (.aload_n 0, 1) := by decide +kernel
theorem dX7_put_14 : decode cX7_put 14 = .ok (.getfield 7, 3) := by decide +kernel
theorem dX7_put_17 : decode cX7_put 17 = .ok (.iload_n 1, 1) := by decide +kernel
theorem dX7_put_18 : decode cX7_put 18 = .ok (.lload_n 2, 1) := by decide +kernel
theorem dX7_put_19 : decode cX7_put 19 = .ok (.lastore, 1) := by decide +kernel
theorem dX7_put_20 : decode cX7_put 20 = .ok (.return_, 1) := by decide +kernel
theorem dX8_init_0 : decode cX8_init 0 = .ok (.aload_n 0, 1) := by decide +kernel
theorem dX8_init_1 : decode cX8_init 1 = .ok (.bipush 120, 2) := by decide +kernel
theorem dX8_init_3 : decode cX8_init 3 = .ok (.iload_n 1, 1) := by decide +kernel
theorem dX8_init_4 : decode cX8_init 4 = .ok (.invokespecial 1, 3) := by decide +kernel
theorem dX8_init_7 : decode cX8_init 7 = .ok (.aload_n 0, 1) := by decide +kernel
theorem dX8_init_8 : decode cX8_init 8 = .ok (.iload_n 2, 1) := by decide +kernel
theorem dX8_init_9 : decode cX8_init 9 = .ok (.putfield 7, 3) := by decide +kernel
theorem dX8_init_12 : decode cX8_init 12 = .ok (.return_, 1) := by decide +kernel
theorem dX8_isMetBy_0 : decode cX8_isMetBy 0 = .ok (.iload_n 1, 1) := by decide +kernel
theorem dX8_isMetBy_1 : decode cX8_isMetBy 1 = .ok (.aload_n 0, 1) := by decide +kernel
theorem dX8_isMetBy_2 : decode cX8_isMetBy 2 = .ok (.getfield 13, 3) := by decide +kernel
theorem dX8_isMetBy_5 : decode cX8_isMetBy 5 = .ok (.iand, 1) := by decide +kernel
theorem dX8_isMetBy_6 : decode cX8_isMetBy 6 = .ok (.invokestatic 16, 3) := by decide +kernel
theorem dX8_isMetBy_9 : decode cX8_isMetBy 9 = .ok (.iconst 1, 1) := by decide +kernel
theorem dX8_isMetBy_10 : decode cX8_isMetBy 10 = .ok (.iand, 1) := by decide +kernel
theorem dX8_isMetBy_11 : decode cX8_isMetBy 11 = .ok (.aload_n 0, 1) := by decide +kernel
theorem dX8_isMetBy_12 : decode cX8_isMetBy 12 = .ok (.getfield 7, 3) := by decide +kernel
theorem dX8_isMetBy_15 : decode cX8_isMetBy 15 = .ok (.if_icmp .ne 7, 3) := by decide +kernel
theorem dX8_isMetBy_18 : decode cX8_isMetBy 18 = .ok (.iconst 1, 1) := by decide +kernel
theorem dX8_isMetBy_19 : decode cX8_isMetBy 19 = .ok (.goto 4, 3) := by decide +kernel
theorem dX8_isMetBy_22 : decode cX8_isMetBy 22 = .ok (.iconst 0, 1) := by decide +kernel
theorem dX8_isMetBy_23 : decode cX8_isMetBy 23 = .ok (.ireturn, 1) := by decide +kernel
theorem dX9_init_0 : decode cX9_init 0 = .ok (.aload_n 0, 1) := by decide +kernel
theorem dX9_init_1 : decode cX9_init 1 = .ok (.invokespecial 3, 3) := by decide +kernel
theorem dX9_init_4 : decode cX9_init 4 = .ok (.aload_n 0, 1) := by decide +kernel
theorem dX9_init_5 : decode cX9_init 5 = .ok (.new 9, 3) := by decide +kernel
theorem dX9_init_8 : decode cX9_init 8 = .ok (.dup, 1) := by decide +kernel
theorem dX9_init_9 : decode cX9_init 9 = .ok (.bipush 10, 2) := by decide +kernel
theorem dX9_init_11 : decode cX9_init 11 = .ok (.invokespecial 11, 3) := by decide +kernel
theorem dX9_init_14 : decode cX9_init 14 = .ok (.putfield 14, 3) := by decide +kernel
theorem dX9_init_17 : decode cX9_init 17 = .ok (.aload_n 0, 1) := by decide +kernel
theorem dX9_init_18 : decode cX9_init 18 = .ok (.new 9, 3) := by decide +kernel
theorem dX9_init_21 : decode cX9_init 21 = .ok (.dup, 1) := by decide +kernel
theorem dX9_init_22 : decode cX9_init 22 = .ok (.bipush 10, 2) := by decide +kernel
theorem dX9_init_24 : decode cX9_init 24 = .ok (.invokespecial 11, 3) := by decide +kernel
theorem dX9_init_27 : decode cX9_init 27 = .ok (.putfield 20, 3) := by decide +kernel
theorem dX9_init_30 : decode cX9_init 30 = .ok (.aload_n 0, 1) := by decide +kernel
theorem dX9_init_31 : decode cX9_init 31 = .ok (.new 9, 3) := by decide +kernel
theorem dX9_init_34 : decode cX9_init 34 = .ok (.dup, 1) := by decide +kernel
theorem dX9_init_35 : decode cX9_init 35 = .ok (.bipush 10, 2) := by decide +kernel
theorem dX9_init_37 : decode cX9_init 37 = .ok (.invokespecial 11, 3) := by decide +kernel
theorem dX9_init_40 : decode cX9_init 40 = .ok (.putfield 23, 3) := by decide +kernel
theorem dX9_init_43 : decode cX9_init 43 = .ok (.aload_n 0, 1) := by decide +kernel
theorem dX9_init_44 : decode cX9_init 44 = .ok (.new 26, 3) := by decide +kernel
theorem dX9_init_47 : decode cX9_init 47 = .ok (.dup, 1) := by decide +kernel
theorem dX9_init_48 : decode cX9_init 48 = .ok (.bipush 10, 2) := by decide +kernel
theorem dX9_init_50 : decode cX9_init 50 = .ok (.invokespecial 28, 3) := by decide +kernel
theorem dX9_init_53 : decode cX9_init 53 = .ok (.putfield 29, 3) := by decide +kernel
theorem dX9_init_56 : decode cX9_init 56 = .ok (.return_, 1) := by decide +kernel
theorem dX9_hasKept_0 : decode cX9_hasKept 0 = .ok (.aload_n 0, 1) := by decide +kernel
theorem dX9_hasKept_1 : decode cX9_hasKept 1 = .ok (.getfield 14, 3) := by decide +kernel
theorem dX9_hasKept_4 : decode cX9_hasKept 4 = .ok (.iload_n 1, 1) := by decide +kernel
theorem dX9_hasKept_5 : decode cX9_hasKept 5 = .ok (.invokevirtual 33, 3) := by decide +kernel
theorem dX9_hasKept_8 : decode cX9_hasKept 8 = .ok (.iload_n 2, 1) := by decide +kernel
theorem dX9_hasKept_9 : decode cX9_hasKept 9 = .ok (.if_icmp .ne 32, 3) := by decide +kernel
theorem dX9_hasKept_12 : decode cX9_hasKept 12 = .ok (.aload_n 0, 1) := by decide +kernel
theorem dX9_hasKept_13 : decode cX9_hasKept 13 = .ok (.getfield 20, 3) := by decide +kernel
theorem dX9_hasKept_16 : decode cX9_hasKept 16 = .ok (.iload_n 1, 1) := by decide +kernel
theorem dX9_hasKept_17 : decode cX9_hasKept 17 = .ok (.invokevirtual 33, 3) := by decide +kernel
theorem dX9_hasKept_20 : decode cX9_hasKept 20 = .ok (.iload_n 3, 1) := by decide +kernel
theorem dX9_hasKept_21 : decode cX9_hasKept 21 = .ok (.if_icmp .ne 20, 3) := by decide +kernel
theorem dX9_hasKept_24 : decode cX9_hasKept 24 = .ok (.aload_n 0, 1) := by decide +kernel
theorem dX9_hasKept_25 : decode cX9_hasKept 25 = .ok (.getfield 23, 3) := by decide +kernel
theorem dX9_hasKept_28 : decode cX9_hasKept 28 = .ok (.iload_n 1, 1) := by decide +kernel
theorem dX9_hasKept_29 : decode cX9_hasKept 29 = .ok (.invokevirtual 33, 3) := by decide +kernel
theorem dX9_hasKept_32 : decode cX9_hasKept 32 = .ok (.iload 4, 2) := by decide +kernel
theorem dX9_hasKept_34 : decode cX9_hasKept 34 = .ok (.if_icmp .ne 7, 3) := by decide +kernel
theorem dX9_hasKept_37 : decode cX9_hasKept 37 = .ok (.iconst 1, 1) := by decide +kernel
theorem dX9_hasKept_38 : decode cX9_hasKept 38 = .ok (.goto 4, 3) := by decide +kernel
theorem dX9_hasKept_41 : decode cX9_hasKept 41 = .ok (.iconst 0, 1) := by decide +kernel
theorem dX9_hasKept_42 : decode cX9_hasKept 42 = .ok (.ireturn, 1) := by decide +kernel
theorem dX9_note_0 : decode cX9_note 0 = .ok (.aload_n 0, 1) := by decide +kernel
theorem dX9_note_1 : decode cX9_note 1 = .ok (.getfield 14, 3) := by decide +kernel
theorem dX9_note_4 : decode cX9_note 4 = .ok (.iload_n 1, 1) := by decide +kernel
theorem dX9_note_5 : decode cX9_note 5 = .ok (.iload_n 2, 1) := by decide +kernel
theorem dX9_note_6 : decode cX9_note 6 = .ok (.invokevirtual 37, 3) := by decide +kernel
theorem dX9_note_9 : decode cX9_note 9 = .ok (.aload_n 0, 1) := by decide +kernel
theorem dX9_note_10 : decode cX9_note 10 = .ok (.getfield 20, 3) := by decide +kernel
theorem dX9_note_13 : decode cX9_note 13 = .ok (.iload_n 1, 1) := by decide +kernel
theorem dX9_note_14 : decode cX9_note 14 = .ok (.iload_n 3, 1) := by decide +kernel
theorem dX9_note_15 : decode cX9_note 15 = .ok (.invokevirtual 37, 3) := by decide +kernel
theorem dX9_note_18 : decode cX9_note 18 = .ok (.aload_n 0, 1) := by decide +kernel
theorem dX9_note_19 : decode cX9_note 19 = .ok (.getfield 23, 3) := by decide +kernel
theorem dX9_note_22 : decode cX9_note 22 = .ok (.iload_n 1, 1) := by decide +kernel
theorem dX9_note_23 : decode cX9_note 23 = .ok (.iload 4, 2) := by decide +kernel
theorem dX9_note_25 : decode cX9_note 25 = .ok (.invokevirtual 37, 3) := by decide +kernel
theorem dX9_note_28 : decode cX9_note 28 = .ok (.aload_n 0, 1) := by decide +kernel
theorem dX9_note_29 : decode cX9_note 29 = .ok (.getfield 29, 3) := by decide +kernel
theorem dX9_note_32 : decode cX9_note 32 = .ok (.iload_n 1, 1) := by decide +kernel
theorem dX9_note_33 : decode cX9_note 33 = .ok (.lload 5, 2) := by decide +kernel
theorem dX9_note_35 : decode cX9_note 35 = .ok (.invokevirtual 41, 3) := by decide +kernel
theorem dX9_note_38 : decode cX9_note 38 = .ok (.return_, 1) := by decide +kernel
theorem dX9_recall_0 : decode cX9_recall 0 = .ok (.aload_n 0, 1) := by decide +kernel
theorem dX9_recall_1 : decode cX9_recall 1 = .ok (.getfield 29, 3) := by decide +kernel
theorem dX9_recall_4 : decode cX9_recall 4 = .ok (.iload_n 1, 1) := by decide +kernel
theorem dX9_recall_5 : decode cX9_recall 5 = .ok (.invokevirtual 44, 3) := by decide +kernel
theorem dX9_recall_8 : decode cX9_recall 8 = .ok (.lreturn, 1) := by decide +kernel
theorem dX10_init_0 : decode cX10_init 0 = .ok (.aload_n 0, 1) := by decide +kernel
theorem dX10_init_1 : decode cX10_init 1 = .ok (.invokespecial 3, 3) := by decide +kernel
theorem dX10_init_4 : decode cX10_init 4 = .ok (.aload_n 0, 1) := by decide +kernel
theorem dX10_init_5 : decode cX10_init 5 = .ok (.new 9, 3) := by decide +kernel
theorem dX10_init_8 : decode cX10_init 8 = .ok (.dup, 1) := by decide +kernel
theorem dX10_init_9 : decode cX10_init 9 = .ok (.bipush 21, 2) := by decide +kernel
theorem dX10_init_11 : decode cX10_init 11 = .ok (.invokespecial 13, 3) := by decide +kernel
theorem dX10_init_14 : decode cX10_init 14 = .ok (.putfield 16, 3) := by decide +kernel
theorem dX10_init_17 : decode cX10_init 17 = .ok (.aload_n 0, 1) := by decide +kernel
theorem dX10_init_18 : decode cX10_init 18 = .ok (.new 20, 3) := by decide +kernel
theorem dX10_init_21 : decode cX10_init 21 = .ok (.dup, 1) := by decide +kernel
theorem dX10_init_22 : decode cX10_init 22 = .ok (.bipush 21, 2) := by decide +kernel
theorem dX10_init_24 : decode cX10_init 24 = .ok (.invokespecial 22, 3) := by decide +kernel
theorem dX10_init_27 : decode cX10_init 27 = .ok (.putfield 23, 3) := by decide +kernel
theorem dX10_init_30 : decode cX10_init 30 = .ok (.return_, 1) := by decide +kernel
theorem dX10_restart_0 : decode cX10_restart 0 = .ok (.aload_n 0, 1) := by decide +kernel
theorem dX10_restart_1 : decode cX10_restart 1 = .ok (.iconst 0, 1) := by decide +kernel
theorem dX10_restart_2 : decode cX10_restart 2 = .ok (.putfield 27, 3) := by decide +kernel
theorem dX10_restart_5 : decode cX10_restart 5 = .ok (.return_, 1) := by decide +kernel
theorem dX10_enter_0 : decode cX10_enter 0 = .ok (.aload_n 0, 1) := by decide +kernel
theorem dX10_enter_1 : decode cX10_enter 1 = .ok (.getfield 27, 3) := by decide +kernel
theorem dX10_enter_4 : decode cX10_enter 4 = .ok (.istore 4, 2) := by decide +kernel
theorem dX10_enter_6 : decode cX10_enter 6 = .ok (.iload 4, 2) := by decide +kernel
theorem dX10_enter_8 : decode cX10_enter 8 = .ok (.ifCond .le 65, 3) := by decide +kernel
theorem dX10_enter_11 : decode cX10_enter 11 = .ok (.aload_n 0, 1) := by decide +kernel
theorem dX10_enter_12 : decode cX10_enter 12 = .ok (.getfield 23, 3) := by decide +kernel
theorem dX10_enter_15 : decode cX10_enter 15 = .ok (.iload 4, 2) := by decide +kernel
theorem dX10_enter_17 : decode cX10_enter 17 = .ok (.iconst 1, 1) := by decide +kernel
theorem dX10_enter_18 : decode cX10_enter 18 = .ok (.isub, 1) := by decide +kernel
theorem dX10_enter_19 : decode cX10_enter 19 = .ok (.invokevirtual 31, 3) := by decide +kernel
theorem dX10_enter_22 : decode cX10_enter 22 = .ok (.lload_n 2, 1) := by decide +kernel
theorem dX10_enter_23 : decode cX10_enter 23 = .ok (.lcmp, 1) := by decide +kernel
theorem dX10_enter_24 : decode cX10_enter 24 = .ok (.ifCond .ge 49, 3) := by decide +kernel
theorem dX10_enter_27 : decode cX10_enter 27 = .ok (.aload_n 0, 1) := by decide +kernel
theorem dX10_enter_28 : decode cX10_enter 28 = .ok (.getfield 16, 3) := by decide +kernel
theorem dX10_enter_31 : decode cX10_enter 31 = .ok (.iload 4, 2) := by decide +kernel
theorem dX10_enter_33 : decode cX10_enter 33 = .ok (.aload_n 0, 1) := by decide +kernel
theorem dX10_enter_34 : decode cX10_enter 34 = .ok (.getfield 16, 3) := by decide +kernel
theorem dX10_enter_37 : decode cX10_enter 37 = .ok (.iload 4, 2) := by decide +kernel
theorem dX10_enter_39 : decode cX10_enter 39 = .ok (.iconst 1, 1) := by decide +kernel
theorem dX10_enter_40 : decode cX10_enter 40 = .ok (.isub, 1) := by decide +kernel
theorem dX10_enter_41 : decode cX10_enter 41 = .ok (.invokevirtual 35, 3) := by decide +kernel
theorem dX10_enter_44 : decode cX10_enter 44 = .ok (.invokevirtual 38, 3) := by decide +kernel
theorem dX10_enter_47 : decode cX10_enter 47 = .ok (.aload_n 0, 1) := by decide +kernel
theorem dX10_enter_48 : decode cX10_enter 48 = .ok (.getfield 23, 3) := by decide +kernel
theorem dX10_enter_51 : decode cX10_enter 51 = .ok (.iload 4, 2) := by decide +kernel
theorem dX10_enter_53 : decode cX10_enter 53 = .ok (.aload_n 0, 1) := by decide +kernel
theorem dX10_enter_54 : decode cX10_enter 54 = .ok (.getfield 23, 3) := by decide +kernel
theorem dX10_enter_57 : decode cX10_enter 57 = .ok (.iload 4, 2) := by decide +kernel
theorem dX10_enter_59 : decode cX10_enter 59 = .ok (.iconst 1, 1) := by decide +kernel
theorem dX10_enter_60 : decode cX10_enter 60 = .ok (.isub, 1) := by decide +kernel
theorem dX10_enter_61 : decode cX10_enter 61 = .ok (.invokevirtual 31, 3) := by decide +kernel
theorem dX10_enter_64 : decode cX10_enter 64 = .ok (.invokevirtual 42, 3) := by decide +kernel
theorem dX10_enter_67 : decode cX10_enter 67 = .ok (.iinc 4 (-1), 3) := by decide +kernel
theorem dX10_enter_70 : decode cX10_enter 70 = .ok (.goto (-64), 3) := by decide +kernel
theorem dX10_enter_73 : decode cX10_enter 73 = .ok (.aload_n 0, 1) := by decide +kernel
theorem dX10_enter_74 : decode cX10_enter 74 = .ok (.getfield 16, 3) := by decide +kernel
theorem dX10_enter_77 : decode cX10_enter 77 = .ok (.iload 4, 2) := by decide +kernel
theorem dX10_enter_79 : decode cX10_enter 79 = .ok (.iload_n 1, 1) := by decide +kernel
theorem dX10_enter_80 : decode cX10_enter 80 = .ok (.invokevirtual 38, 3) := by decide +kernel
theorem dX10_enter_83 : decode cX10_enter 83 = .ok (.aload_n 0, 1) := by decide +kernel
theorem dX10_enter_84 : decode cX10_enter 84 = .ok (.getfield 23, 3) := by decide +kernel
theorem dX10_enter_87 : decode cX10_enter 87 = .ok (.iload 4, 2) := by decide +kernel
theorem dX10_enter_89 : decode cX10_enter 89 = .ok (.lload_n 2, 1) := by decide +kernel
theorem dX10_enter_90 : decode cX10_enter 90 = .ok (.invokevirtual 42, 3) := by decide +kernel
theorem dX10_enter_93 : decode cX10_enter 93 = .ok (.aload_n 0, 1) := by decide +kernel
theorem dX10_enter_94 : decode cX10_enter 94 = .ok (.aload_n 0, 1) := by decide +kernel
theorem dX10_enter_95 : decode cX10_enter 95 = .ok (.getfield 27, 3) := by decide +kernel
theorem dX10_enter_98 : decode cX10_enter 98 = .ok (.bipush 21, 2) := by decide +kernel
theorem dX10_enter_100 : decode cX10_enter 100 = .ok (.if_icmp .ge 12, 3) := by decide +kernel
theorem dX10_enter_103 : decode cX10_enter 103 = .ok (.aload_n 0, 1) := by decide +kernel
theorem dX10_enter_104 : decode cX10_enter 104 = .ok (.getfield 27, 3) := by decide +kernel
theorem dX10_enter_107 : decode cX10_enter 107 = .ok (.iconst 1, 1) := by decide +kernel
theorem dX10_enter_108 : decode cX10_enter 108 = .ok (.iadd, 1) := by decide +kernel
theorem dX10_enter_109 : decode cX10_enter 109 = .ok (.goto 5, 3) := by decide +kernel
theorem dX10_enter_112 : decode cX10_enter 112 = .ok (.bipush 21, 2) := by decide +kernel
theorem dX10_enter_114 : decode cX10_enter 114 = .ok (.putfield 27, 3) := by decide +kernel
theorem dX10_enter_117 : decode cX10_enter 117 = .ok (.return_, 1) := by decide +kernel
theorem dX10_assignmentAt_0 : decode cX10_assignmentAt 0 = .ok (.aload_n 0, 1) := by decide +kernel
theorem dX10_assignmentAt_1 : decode cX10_assignmentAt 1 = .ok (.getfield 16, 3) := by decide +kernel
theorem dX10_assignmentAt_4 : decode cX10_assignmentAt 4 = .ok (.iload_n 1, 1) := by decide +kernel
theorem dX10_assignmentAt_5 : decode cX10_assignmentAt 5 = .ok (.invokevirtual 35, 3) := by decide +kernel
theorem dX10_assignmentAt_8 : decode cX10_assignmentAt 8 = .ok (.ireturn, 1) := by decide +kernel
theorem dX11_init_0 : decode cX11_init 0 = .ok (.aload_n 0, 1) := by decide +kernel
theorem dX11_init_1 : decode cX11_init 1 = .ok (.invokespecial 1, 3) := by decide +kernel
theorem dX11_init_4 : decode cX11_init 4 = .ok (.aload_n 0, 1) := by decide +kernel
theorem dX11_init_5 : decode cX11_init 5 = .ok (.new 7, 3) := by decide +kernel
theorem dX11_init_8 : decode cX11_init 8 = .ok (.dup, 1) := by decide +kernel
theorem dX11_init_9 : decode cX11_init 9 = .ok (.bipush 10, 2) := by decide +kernel
theorem dX11_init_11 : decode cX11_init 11 = .ok (.invokespecial 11, 3) := by decide +kernel
theorem dX11_init_14 : decode cX11_init 14 = .ok (.putfield 14, 3) := by decide +kernel
theorem dX11_init_17 : decode cX11_init 17 = .ok (.aload_n 0, 1) := by decide +kernel
theorem dX11_init_18 : decode cX11_init 18 = .ok (.new 7, 3) := by decide +kernel
theorem dX11_init_21 : decode cX11_init 21 = .ok (.dup, 1) := by decide +kernel
theorem dX11_init_22 : decode cX11_init 22 = .ok (.bipush 10, 2) := by decide +kernel
theorem dX11_init_24 : decode cX11_init 24 = .ok (.invokespecial 11, 3) := by decide +kernel
theorem dX11_init_27 : decode cX11_init 27 = .ok (.putfield 18, 3) := by decide +kernel
theorem dX11_init_30 : decode cX11_init 30 = .ok (.aload_n 0, 1) := by decide +kernel
theorem dX11_init_31 : decode cX11_init 31 = .ok (.new 21, 3) := by decide +kernel
theorem dX11_init_34 : decode cX11_init 34 = .ok (.dup, 1) := by decide +kernel
theorem dX11_init_35 : decode cX11_init 35 = .ok (.sipush 1024, 3) := by decide +kernel
theorem dX11_init_38 : decode cX11_init 38 = .ok (.invokespecial 23, 3) := by decide +kernel
theorem dX11_init_41 : decode cX11_init 41 = .ok (.putfield 24, 3) := by decide +kernel
theorem dX11_init_44 : decode cX11_init 44 = .ok (.aload_n 0, 1) := by decide +kernel
theorem dX11_init_45 : decode cX11_init 45 = .ok (.new 7, 3) := by decide +kernel
theorem dX11_init_48 : decode cX11_init 48 = .ok (.dup, 1) := by decide +kernel
theorem dX11_init_49 : decode cX11_init 49 = .ok (.bipush 10, 2) := by decide +kernel
theorem dX11_init_51 : decode cX11_init 51 = .ok (.invokespecial 11, 3) := by decide +kernel
theorem dX11_init_54 : decode cX11_init 54 = .ok (.putfield 28, 3) := by decide +kernel
theorem dX11_init_57 : decode cX11_init 57 = .ok (.aload_n 0, 1) := by decide +kernel
theorem dX11_init_58 : decode cX11_init 58 = .ok (.new 31, 3) := by decide +kernel
theorem dX11_init_61 : decode cX11_init 61 = .ok (.dup, 1) := by decide +kernel
theorem dX11_init_62 : decode cX11_init 62 = .ok (.invokespecial 33, 3) := by decide +kernel
theorem dX11_init_65 : decode cX11_init 65 = .ok (.putfield 34, 3) := by decide +kernel
theorem dX11_init_68 : decode cX11_init 68 = .ok (.aload_n 0, 1) := by decide +kernel
theorem dX11_init_69 : decode cX11_init 69 = .ok (.new 38, 3) := by decide +kernel
theorem dX11_init_72 : decode cX11_init 72 = .ok (.dup, 1) := by decide +kernel
theorem dX11_init_73 : decode cX11_init 73 = .ok (.invokespecial 40, 3) := by decide +kernel
theorem dX11_init_76 : decode cX11_init 76 = .ok (.putfield 41, 3) := by decide +kernel
theorem dX11_init_79 : decode cX11_init 79 = .ok (.aload_n 0, 1) := by decide +kernel
theorem dX11_init_80 : decode cX11_init 80 = .ok (.new 45, 3) := by decide +kernel
theorem dX11_init_83 : decode cX11_init 83 = .ok (.dup, 1) := by decide +kernel
theorem dX11_init_84 : decode cX11_init 84 = .ok (.invokespecial 47, 3) := by decide +kernel
theorem dX11_init_87 : decode cX11_init 87 = .ok (.putfield 48, 3) := by decide +kernel
theorem dX11_init_90 : decode cX11_init 90 = .ok (.aload_n 0, 1) := by decide +kernel
theorem dX11_init_91 : decode cX11_init 91 = .ok (.new 45, 3) := by decide +kernel
theorem dX11_init_94 : decode cX11_init 94 = .ok (.dup, 1) := by decide +kernel
theorem dX11_init_95 : decode cX11_init 95 = .ok (.invokespecial 47, 3) := by decide +kernel
theorem dX11_init_98 : decode cX11_init 98 = .ok (.putfield 52, 3) := by decide +kernel
theorem dX11_init_101 : decode cX11_init 101 = .ok (.aload_n 0, 1) := by decide +kernel
theorem dX11_init_102 : decode cX11_init 102 = .ok (.new 55, 3) := by decide +kernel
theorem dX11_init_105 : decode cX11_init 105 = .ok (.dup, 1) := by decide +kernel
theorem dX11_init_106 : decode cX11_init 106 = .ok (.invokespecial 57, 3) := by decide +kernel
theorem dX11_init_109 : decode cX11_init 109 = .ok (.putfield 58, 3) := by decide +kernel
theorem dX11_init_112 : decode cX11_init 112 = .ok (.aload_n 0, 1) := by decide +kernel
theorem dX11_init_113 : decode cX11_init 113 = .ok (.new 62, 3) := by decide +kernel
theorem dX11_init_116 : decode cX11_init 116 = .ok (.dup, 1) := by decide +kernel
theorem dX11_init_117 : decode cX11_init 117 = .ok (.invokespecial 64, 3) := by decide +kernel
theorem dX11_init_120 : decode cX11_init 120 = .ok (.putfield 65, 3) := by decide +kernel
theorem dX11_init_123 : decode cX11_init 123 = .ok (.aload_n 0, 1) := by decide +kernel
theorem dX11_init_124 : decode cX11_init 124 = .ok (.iconst 4, 1) := by decide +kernel
theorem dX11_init_125 : decode cX11_init 125 = .ok (.anewarray 45, 3) := by decide +kernel
theorem dX11_init_128 : decode cX11_init 128 = .ok (.putfield 69, 3) := by decide +kernel
theorem dX11_init_131 : decode cX11_init 131 = .ok (.aload_n 0, 1) := by decide +kernel
theorem dX11_init_132 : decode cX11_init 132 = .ok (.getfield 24, 3) := by decide +kernel
theorem dX11_init_135 : decode cX11_init 135 = .ok (.iconst 0, 1) := by decide +kernel
theorem dX11_init_136 : decode cX11_init 136 = .ok (.lconst 1, 1) := by decide +kernel
theorem dX11_init_137 : decode cX11_init 137 = .ok (.invokevirtual 73, 3) := by decide +kernel
theorem dX11_init_140 : decode cX11_init 140 = .ok (.iconst 0, 1) := by decide +kernel
theorem dX11_init_141 : decode cX11_init 141 = .ok (.istore_n 1, 1) := by decide +kernel
theorem dX11_init_142 : decode cX11_init 142 = .ok (.iload_n 1, 1) := by decide +kernel
theorem dX11_init_143 : decode cX11_init 143 = .ok (.aload_n 0, 1) := by decide +kernel
theorem dX11_init_144 : decode cX11_init 144 = .ok (.getfield 69, 3) := by decide +kernel
theorem dX11_init_147 : decode cX11_init 147 = .ok (.arraylength, 1) := by decide +kernel
theorem dX11_init_148 : decode cX11_init 148 = .ok (.if_icmp .ge 22, 3) := by decide +kernel
theorem dX11_init_151 : decode cX11_init 151 = .ok (.aload_n 0, 1) := by decide +kernel
theorem dX11_init_152 : decode cX11_init 152 = .ok (.getfield 69, 3) := by decide +kernel
theorem dX11_init_155 : decode cX11_init 155 = .ok (.iload_n 1, 1) := by decide +kernel
theorem dX11_init_156 : decode cX11_init 156 = .ok (.new 45, 3) := by decide +kernel
theorem dX11_init_159 : decode cX11_init 159 = .ok (.dup, 1) := by decide +kernel
theorem dX11_init_160 : decode cX11_init 160 = .ok (.invokespecial 47, 3) := by decide +kernel
theorem dX11_init_163 : decode cX11_init 163 = .ok (.aastore, 1) := by decide +kernel
theorem dX11_init_164 : decode cX11_init 164 = .ok (.iinc 1 1, 3) := by decide +kernel
theorem dX11_init_167 : decode cX11_init 167 = .ok (.goto (-25), 3) := by decide +kernel
theorem dX11_init_170 : decode cX11_init 170 = .ok (.return_, 1) := by decide +kernel
theorem dX11_addVariable_0 : decode cX11_addVariable 0 = .ok (.aload_n 0, 1) := by decide +kernel
theorem dX11_addVariable_1 : decode cX11_addVariable 1 = .ok (.getfield 77, 3) := by decide +kernel
theorem dX11_addVariable_4 : decode cX11_addVariable 4 = .ok (.bipush 10, 2) := by decide +kernel
theorem dX11_addVariable_6 : decode cX11_addVariable 6 = .ok (.if_icmp .lt 13, 3) := by decide +kernel
theorem dX11_addVariable_9 : decode cX11_addVariable 9 = .ok (.new 81, 3) := by decide +kernel
theorem dX11_addVariable_12 : decode cX11_addVariable 12 = .ok (.dup, 1) := by decide +kernel
theorem dX11_addVariable_13 : decode cX11_addVariable 13 = .ok (.ldc 83, 2) := by decide +kernel
theorem dX11_addVariable_15 : decode cX11_addVariable 15 = .ok (.invokespecial 85, 3) := by decide +kernel
theorem dX11_addVariable_18 : decode cX11_addVariable 18 = .ok (.athrow, 1) := by decide +kernel
theorem dX11_addVariable_19 : decode cX11_addVariable 19 = .ok (.aload_n 0, 1) := by decide +kernel
theorem dX11_addVariable_20 : decode cX11_addVariable 20 = .ok (.getfield 77, 3) := by decide +kernel
theorem dX11_addVariable_23 : decode cX11_addVariable 23 = .ok (.istore_n 1, 1) := by decide +kernel
theorem dX11_addVariable_24 : decode cX11_addVariable 24 = .ok (.aload_n 0, 1) := by decide +kernel
theorem dX11_addVariable_25 : decode cX11_addVariable 25 = .ok (.dup, 1) := by decide +kernel
theorem dX11_addVariable_26 : decode cX11_addVariable 26 = .ok (.getfield 77, 3) := by decide +kernel
theorem dX11_addVariable_29 : decode cX11_addVariable 29 = .ok (.iconst 1, 1) := by decide +kernel
theorem dX11_addVariable_30 : decode cX11_addVariable 30 = .ok (.iadd, 1) := by decide +kernel
theorem dX11_addVariable_31 : decode cX11_addVariable 31 = .ok (.putfield 77, 3) := by decide +kernel
theorem dX11_addVariable_34 : decode cX11_addVariable 34 = .ok (.aload_n 0, 1) := by decide +kernel
theorem dX11_addVariable_35 : decode cX11_addVariable 35 = .ok (.getfield 14, 3) := by decide +kernel
theorem dX11_addVariable_38 : decode cX11_addVariable 38 = .ok (.iload_n 1, 1) := by decide +kernel
theorem dX11_addVariable_39 : decode cX11_addVariable 39 = .ok (.iconst 1, 1) := by decide +kernel
theorem dX11_addVariable_40 : decode cX11_addVariable 40 = .ok (.invokevirtual 88, 3) := by decide +kernel
theorem dX11_addVariable_43 : decode cX11_addVariable 43 = .ok (.aload_n 0, 1) := by decide +kernel
theorem dX11_addVariable_44 : decode cX11_addVariable 44 = .ok (.getfield 18, 3) := by decide +kernel
theorem dX11_addVariable_47 : decode cX11_addVariable 47 = .ok (.iload_n 1, 1) := by decide +kernel
theorem dX11_addVariable_48 : decode cX11_addVariable 48 = .ok (.iconst 1, 1) := by decide +kernel
theorem dX11_addVariable_49 : decode cX11_addVariable 49 = .ok (.invokevirtual 88, 3) := by decide +kernel
theorem dX11_addVariable_52 : decode cX11_addVariable 52 = .ok (.aload_n 0, 1) := by decide +kernel
theorem dX11_addVariable_53 : decode cX11_addVariable 53 = .ok (.getfield 28, 3) := by decide +kernel
theorem dX11_addVariable_56 : decode cX11_addVariable 56 = .ok (.iload_n 1, 1) := by decide +kernel
theorem dX11_addVariable_57 : decode cX11_addVariable 57 = .ok (.iload_n 1, 1) := by decide +kernel
theorem dX11_addVariable_58 : decode cX11_addVariable 58 = .ok (.invokevirtual 88, 3) := by decide +kernel
theorem dX11_addVariable_61 : decode cX11_addVariable 61 = .ok (.aload_n 0, 1) := by decide +kernel
theorem dX11_addVariable_62 : decode cX11_addVariable 62 = .ok (.invokevirtual 91, 3) := by decide +kernel
theorem dX11_addVariable_65 : decode cX11_addVariable 65 = .ok (.aload_n 0, 1) := by decide +kernel
theorem dX11_addVariable_66 : decode cX11_addVariable 66 = .ok (.iconst 0, 1) := by decide +kernel
theorem dX11_addVariable_67 : decode cX11_addVariable 67 = .ok (.putfield 94, 3) := by decide +kernel
theorem dX11_addVariable_70 : decode cX11_addVariable 70 = .ok (.iload_n 1, 1) := by decide +kernel
theorem dX11_addVariable_71 : decode cX11_addVariable 71 = .ok (.ireturn, 1) := by decide +kernel
theorem dX11_setWeights_0 : decode cX11_setWeights 0 = .ok (.aload_n 0, 1) := by decide +kernel
theorem dX11_setWeights_1 : decode cX11_setWeights 1 = .ok (.iload_n 1, 1) := by decide +kernel
theorem dX11_setWeights_2 : decode cX11_setWeights 2 = .ok (.invokevirtual 98, 3) := by decide +kernel
theorem dX11_setWeights_5 : decode cX11_setWeights 5 = .ok (.iload_n 2, 1) := by decide +kernel
theorem dX11_setWeights_6 : decode cX11_setWeights 6 = .ok (.ifCond .lt 19, 3) := by decide +kernel
theorem dX11_setWeights_9 : decode cX11_setWeights 9 = .ok (.iload_n 2, 1) := by decide +kernel
theorem dX11_setWeights_10 : decode cX11_setWeights 10 = .ok (.bipush 9, 2) := by decide +kernel
theorem dX11_setWeights_12 : decode cX11_setWeights 12 = .ok (.if_icmp .gt 13, 3) := by decide +kernel
theorem dX11_setWeights_15 : decode cX11_setWeights 15 = .ok (.iload_n 3, 1) := by decide +kernel
theorem dX11_setWeights_16 : decode cX11_setWeights 16 = .ok (.ifCond .lt 9, 3) := by decide +kernel
theorem dX11_setWeights_19 : decode cX11_setWeights 19 = .ok (.iload_n 3, 1) := by decide +kernel
theorem dX11_setWeights_20 : decode cX11_setWeights 20 = .ok (.bipush 9, 2) := by decide +kernel
theorem dX11_setWeights_22 : decode cX11_setWeights 22 = .ok (.if_icmp .le 13, 3) := by decide +kernel
theorem dX11_setWeights_25 : decode cX11_setWeights 25 = .ok (.new 101, 3) := by decide +kernel
theorem dX11_setWeights_28 : decode cX11_setWeights 28 = .ok (.dup, 1) := by decide +kernel
theorem dX11_setWeights_29 : decode cX11_setWeights 29 = .ok (.ldc 103, 2) := by decide +kernel
theorem dX11_setWeights_31 : decode cX11_setWeights 31 = .ok (.invokespecial 105, 3) := by decide +kernel
theorem dX11_setWeights_34 : decode cX11_setWeights 34 = .ok (.athrow, 1) := by decide +kernel
theorem dX11_setWeights_35 : decode cX11_setWeights 35 = .ok (.bipush 10, 2) := by decide +kernel
theorem dX11_setWeights_37 : decode cX11_setWeights 37 = .ok (.aload_n 0, 1) := by decide +kernel
theorem dX11_setWeights_38 : decode cX11_setWeights 38 = .ok (.getfield 14, 3) := by decide +kernel
theorem dX11_setWeights_41 : decode cX11_setWeights 41 = .ok (.iload_n 1, 1) := by decide +kernel
theorem dX11_setWeights_42 : decode cX11_setWeights 42 = .ok (.invokevirtual 106, 3) := by decide +kernel
theorem dX11_setWeights_45 : decode cX11_setWeights 45 = .ok (.imul, 1) := by decide +kernel
theorem dX11_setWeights_46 : decode cX11_setWeights 46 = .ok (.aload_n 0, 1) := by decide +kernel
theorem dX11_setWeights_47 : decode cX11_setWeights 47 = .ok (.getfield 18, 3) := by decide +kernel
theorem dX11_setWeights_50 : decode cX11_setWeights 50 = .ok (.iload_n 1, 1) := by decide +kernel
theorem dX11_setWeights_51 : decode cX11_setWeights 51 = .ok (.invokevirtual 106, 3) := by decide +kernel
theorem dX11_setWeights_54 : decode cX11_setWeights 54 = .ok (.iadd, 1) := by decide +kernel
theorem dX11_setWeights_55 : decode cX11_setWeights 55 = .ok (.istore 4, 2) := by decide +kernel
theorem dX11_setWeights_57 : decode cX11_setWeights 57 = .ok (.aload_n 0, 1) := by decide +kernel
theorem dX11_setWeights_58 : decode cX11_setWeights 58 = .ok (.getfield 14, 3) := by decide +kernel
theorem dX11_setWeights_61 : decode cX11_setWeights 61 = .ok (.iload_n 1, 1) := by decide +kernel
theorem dX11_setWeights_62 : decode cX11_setWeights 62 = .ok (.iload_n 2, 1) := by decide +kernel
theorem dX11_setWeights_63 : decode cX11_setWeights 63 = .ok (.invokevirtual 88, 3) := by decide +kernel
theorem dX11_setWeights_66 : decode cX11_setWeights 66 = .ok (.aload_n 0, 1) := by decide +kernel
theorem dX11_setWeights_67 : decode cX11_setWeights 67 = .ok (.getfield 18, 3) := by decide +kernel
theorem dX11_setWeights_70 : decode cX11_setWeights 70 = .ok (.iload_n 1, 1) := by decide +kernel
theorem dX11_setWeights_71 : decode cX11_setWeights 71 = .ok (.iload_n 3, 1) := by decide +kernel
theorem dX11_setWeights_72 : decode cX11_setWeights 72 = .ok (.invokevirtual 88, 3) := by decide +kernel
theorem dX11_setWeights_75 : decode cX11_setWeights 75 = .ok (.aload_n 0, 1) := by decide +kernel
theorem dX11_setWeights_76 : decode cX11_setWeights 76 = .ok (.invokevirtual 91, 3) := by decide +kernel
theorem dX11_setWeights_79 : decode cX11_setWeights 79 = .ok (.iload 4, 2) := by decide +kernel
theorem dX11_setWeights_81 : decode cX11_setWeights 81 = .ok (.ireturn, 1) := by decide +kernel
theorem dX11_addClause_0 : decode cX11_addClause 0 = .ok (.aload_n 0, 1) := by decide +kernel
theorem dX11_addClause_1 : decode cX11_addClause 1 = .ok (.iload_n 1, 1) := by decide +kernel
theorem dX11_addClause_2 : decode cX11_addClause 2 = .ok (.invokevirtual 110, 3) := by decide +kernel
theorem dX11_addClause_5 : decode cX11_addClause 5 = .ok (.aload_n 0, 1) := by decide +kernel
theorem dX11_addClause_6 : decode cX11_addClause 6 = .ok (.iload_n 2, 1) := by decide +kernel
theorem dX11_addClause_7 : decode cX11_addClause 7 = .ok (.invokevirtual 110, 3) := by decide +kernel
theorem dX11_addClause_10 : decode cX11_addClause 10 = .ok (.aload_n 0, 1) := by decide +kernel
theorem dX11_addClause_11 : decode cX11_addClause 11 = .ok (.iload_n 1, 1) := by decide +kernel
theorem dX11_addClause_12 : decode cX11_addClause 12 = .ok (.iload_n 2, 1) := by decide +kernel
theorem dX11_addClause_13 : decode cX11_addClause 13 = .ok (.ior, 1) := by decide +kernel
theorem dX11_addClause_14 : decode cX11_addClause 14 = .ok (.invokevirtual 113, 3) := by decide +kernel
theorem dX11_addClause_17 : decode cX11_addClause 17 = .ok (.aload_n 0, 1) := by decide +kernel
theorem dX11_addClause_18 : decode cX11_addClause 18 = .ok (.invokevirtual 116, 3) := by decide +kernel
theorem dX11_addClause_21 : decode cX11_addClause 21 = .ok (.aload_n 0, 1) := by decide +kernel
theorem dX11_addClause_22 : decode cX11_addClause 22 = .ok (.new 119, 3) := by decide +kernel
theorem dX11_addClause_25 : decode cX11_addClause 25 = .ok (.dup, 1) := by decide +kernel
theorem dX11_addClause_26 : decode cX11_addClause 26 = .ok (.iload_n 1, 1) := by decide +kernel
theorem dX11_addClause_27 : decode cX11_addClause 27 = .ok (.iload_n 2, 1) := by decide +kernel
theorem dX11_addClause_28 : decode cX11_addClause 28 = .ok (.invokespecial 121, 3) := by decide +kernel
theorem dX11_addClause_31 : decode cX11_addClause 31 = .ok (.invokevirtual 123, 3) := by decide +kernel
theorem dX11_addClause_34 : decode cX11_addClause 34 = .ok (.ireturn, 1) := by decide +kernel
theorem dX11_addParity_0 : decode cX11_addParity 0 = .ok (.aload_n 0, 1) := by decide +kernel
theorem dX11_addParity_1 : decode cX11_addParity 1 = .ok (.iload_n 1, 1) := by decide +kernel
theorem dX11_addParity_2 : decode cX11_addParity 2 = .ok (.invokevirtual 110, 3) := by decide +kernel
theorem dX11_addParity_5 : decode cX11_addParity 5 = .ok (.aload_n 0, 1) := by decide +kernel
theorem dX11_addParity_6 : decode cX11_addParity 6 = .ok (.iload_n 1, 1) := by decide +kernel
theorem dX11_addParity_7 : decode cX11_addParity 7 = .ok (.invokevirtual 113, 3) := by decide +kernel
theorem dX11_addParity_10 : decode cX11_addParity 10 = .ok (.aload_n 0, 1) := by decide +kernel
theorem dX11_addParity_11 : decode cX11_addParity 11 = .ok (.iload_n 2, 1) := by decide +kernel
theorem dX11_addParity_12 : decode cX11_addParity 12 = .ok (.invokevirtual 127, 3) := by decide +kernel
theorem dX11_addParity_15 : decode cX11_addParity 15 = .ok (.aload_n 0, 1) := by decide +kernel
theorem dX11_addParity_16 : decode cX11_addParity 16 = .ok (.invokevirtual 116, 3) := by decide +kernel
theorem dX11_addParity_19 : decode cX11_addParity 19 = .ok (.aload_n 0, 1) := by decide +kernel
theorem dX11_addParity_20 : decode cX11_addParity 20 = .ok (.new 130, 3) := by decide +kernel
theorem dX11_addParity_23 : decode cX11_addParity 23 = .ok (.dup, 1) := by decide +kernel
theorem dX11_addParity_24 : decode cX11_addParity 24 = .ok (.iload_n 1, 1) := by decide +kernel
theorem dX11_addParity_25 : decode cX11_addParity 25 = .ok (.iload_n 2, 1) := by decide +kernel
theorem dX11_addParity_26 : decode cX11_addParity 26 = .ok (.invokespecial 132, 3) := by decide +kernel
theorem dX11_addParity_29 : decode cX11_addParity 29 = .ok (.invokevirtual 123, 3) := by decide +kernel
theorem dX11_addParity_32 : decode cX11_addParity 32 = .ok (.ireturn, 1) := by decide +kernel
theorem dX11_addBound_0 : decode cX11_addBound 0 = .ok (.aload_n 0, 1) := by decide +kernel
theorem dX11_addBound_1 : decode cX11_addBound 1 = .ok (.iload_n 1, 1) := by decide +kernel
theorem dX11_addBound_2 : decode cX11_addBound 2 = .ok (.invokevirtual 110, 3) := by decide +kernel
theorem dX11_addBound_5 : decode cX11_addBound 5 = .ok (.aload_n 0, 1) := by decide +kernel
theorem dX11_addBound_6 : decode cX11_addBound 6 = .ok (.iload_n 1, 1) := by decide +kernel
theorem dX11_addBound_7 : decode cX11_addBound 7 = .ok (.invokevirtual 113, 3) := by decide +kernel
theorem dX11_addBound_10 : decode cX11_addBound 10 = .ok (.iload_n 2, 1) := by decide +kernel
theorem dX11_addBound_11 : decode cX11_addBound 11 = .ok (.ifCond .lt 14, 3) := by decide +kernel
theorem dX11_addBound_14 : decode cX11_addBound 14 = .ok (.iload_n 3, 1) := by decide +kernel
theorem dX11_addBound_15 : decode cX11_addBound 15 = .ok (.bipush 10, 2) := by decide +kernel
theorem dX11_addBound_17 : decode cX11_addBound 17 = .ok (.if_icmp .gt 8, 3) := by decide +kernel
theorem dX11_addBound_20 : decode cX11_addBound 20 = .ok (.iload_n 2, 1) := by decide +kernel
theorem dX11_addBound_21 : decode cX11_addBound 21 = .ok (.iload_n 3, 1) := by decide +kernel
theorem dX11_addBound_22 : decode cX11_addBound 22 = .ok (.if_icmp .le 13, 3) := by decide +kernel
theorem dX11_addBound_25 : decode cX11_addBound 25 = .ok (.new 101, 3) := by decide +kernel
theorem dX11_addBound_28 : decode cX11_addBound 28 = .ok (.dup, 1) := by decide +kernel
theorem dX11_addBound_29 : decode cX11_addBound 29 = .ok (.ldc 133, 2) := by decide +kernel
theorem dX11_addBound_31 : decode cX11_addBound 31 = .ok (.invokespecial 105, 3) := by decide +kernel
theorem dX11_addBound_34 : decode cX11_addBound 34 = .ok (.athrow, 1) := by decide +kernel
theorem dX11_addBound_35 : decode cX11_addBound 35 = .ok (.aload_n 0, 1) := by decide +kernel
theorem dX11_addBound_36 : decode cX11_addBound 36 = .ok (.invokevirtual 116, 3) := by decide +kernel
theorem dX11_addBound_39 : decode cX11_addBound 39 = .ok (.aload_n 0, 1) := by decide +kernel
theorem dX11_addBound_40 : decode cX11_addBound 40 = .ok (.new 135, 3) := by decide +kernel
theorem dX11_addBound_43 : decode cX11_addBound 43 = .ok (.dup, 1) := by decide +kernel
theorem dX11_addBound_44 : decode cX11_addBound 44 = .ok (.iload_n 1, 1) := by decide +kernel
theorem dX11_addBound_45 : decode cX11_addBound 45 = .ok (.iload_n 2, 1) := by decide +kernel
theorem dX11_addBound_46 : decode cX11_addBound 46 = .ok (.iload_n 3, 1) := by decide +kernel
theorem dX11_addBound_47 : decode cX11_addBound 47 = .ok (.invokespecial 137, 3) := by decide +kernel
theorem dX11_addBound_50 : decode cX11_addBound 50 = .ok (.invokevirtual 123, 3) := by decide +kernel
theorem dX11_addBound_53 : decode cX11_addBound 53 = .ok (.ireturn, 1) := by decide +kernel
theorem dX11_drop_0 : decode cX11_drop 0 = .ok (.aload_n 0, 1) := by decide +kernel
theorem dX11_drop_1 : decode cX11_drop 1 = .ok (.iload_n 1, 1) := by decide +kernel
theorem dX11_drop_2 : decode cX11_drop 2 = .ok (.invokevirtual 140, 3) := by decide +kernel
theorem dX11_drop_5 : decode cX11_drop 5 = .ok (.pop, 1) := by decide +kernel
theorem dX11_drop_6 : decode cX11_drop 6 = .ok (.aload_n 0, 1) := by decide +kernel
theorem dX11_drop_7 : decode cX11_drop 7 = .ok (.getfield 34, 3) := by decide +kernel
theorem dX11_drop_10 : decode cX11_drop 10 = .ok (.iload_n 1, 1) := by decide +kernel
theorem dX11_drop_11 : decode cX11_drop 11 = .ok (.invokevirtual 144, 3) := by decide +kernel
theorem dX11_drop_14 : decode cX11_drop 14 = .ok (.ifCond .ne 13, 3) := by decide +kernel
theorem dX11_drop_17 : decode cX11_drop 17 = .ok (.new 81, 3) := by decide +kernel
theorem dX11_drop_20 : decode cX11_drop 20 = .ok (.dup, 1) := by decide +kernel
theorem dX11_drop_21 : decode cX11_drop 21 = .ok (.ldc 148, 2) := by decide +kernel
theorem dX11_drop_23 : decode cX11_drop 23 = .ok (.invokespecial 85, 3) := by decide +kernel
theorem dX11_drop_26 : decode cX11_drop 26 = .ok (.athrow, 1) := by decide +kernel
theorem dX11_drop_27 : decode cX11_drop 27 = .ok (.aload_n 0, 1) := by decide +kernel
theorem dX11_drop_28 : decode cX11_drop 28 = .ok (.getfield 34, 3) := by decide +kernel
theorem dX11_drop_31 : decode cX11_drop 31 = .ok (.iload_n 1, 1) := by decide +kernel
theorem dX11_drop_32 : decode cX11_drop 32 = .ok (.invokevirtual 150, 3) := by decide +kernel
theorem dX11_drop_35 : decode cX11_drop 35 = .ok (.aload_n 0, 1) := by decide +kernel
theorem dX11_drop_36 : decode cX11_drop 36 = .ok (.iconst 0, 1) := by decide +kernel
theorem dX11_drop_37 : decode cX11_drop 37 = .ok (.putfield 94, 3) := by decide +kernel
theorem dX11_drop_40 : decode cX11_drop 40 = .ok (.aload_n 0, 1) := by decide +kernel
theorem dX11_drop_41 : decode cX11_drop 41 = .ok (.getfield 34, 3) := by decide +kernel
theorem dX11_drop_44 : decode cX11_drop 44 = .ok (.invokevirtual 153, 3) := by decide +kernel
theorem dX11_drop_47 : decode cX11_drop 47 = .ok (.invokestatic 157, 3) := by decide +kernel
theorem dX11_drop_50 : decode cX11_drop 50 = .ok (.ireturn, 1) := by decide +kernel
theorem dX11_kind_0 : decode cX11_kind 0 = .ok (.aload_n 0, 1) := by decide +kernel
theorem dX11_kind_1 : decode cX11_kind 1 = .ok (.iload_n 1, 1) := by decide +kernel
theorem dX11_kind_2 : decode cX11_kind 2 = .ok (.invokevirtual 140, 3) := by decide +kernel
theorem dX11_kind_5 : decode cX11_kind 5 = .ok (.getfield 162, 3) := by decide +kernel
theorem dX11_kind_8 : decode cX11_kind 8 = .ok (.ireturn, 1) := by decide +kernel
theorem dX11_setEvidence_0 : decode cX11_setEvidence 0 = .ok (.aload_n 0, 1) := by decide +kernel
theorem dX11_setEvidence_1 : decode cX11_setEvidence 1 = .ok (.iload_n 1, 1) := by decide +kernel
theorem dX11_setEvidence_2 : decode cX11_setEvidence 2 = .ok (.invokevirtual 98, 3) := by decide +kernel
theorem dX11_setEvidence_5 : decode cX11_setEvidence 5 = .ok (.iload_n 2, 1) := by decide +kernel
theorem dX11_setEvidence_6 : decode cX11_setEvidence 6 = .ok (.iconst (-1), 1) := by decide +kernel
theorem dX11_setEvidence_7 : decode cX11_setEvidence 7 = .ok (.if_icmp .lt 8, 3) := by decide +kernel
theorem dX11_setEvidence_10 : decode cX11_setEvidence 10 = .ok (.iload_n 2, 1) := by decide +kernel
theorem dX11_setEvidence_11 : decode cX11_setEvidence 11 = .ok (.iconst 1, 1) := by decide +kernel
theorem dX11_setEvidence_12 : decode cX11_setEvidence 12 = .ok (.if_icmp .le 13, 3) := by decide +kernel
theorem dX11_setEvidence_15 : decode cX11_setEvidence 15 = .ok (.new 101, 3) := by decide +kernel
theorem dX11_setEvidence_18 : decode cX11_setEvidence 18 = .ok (.dup, 1) := by decide +kernel
theorem dX11_setEvidence_19 : decode cX11_setEvidence 19 = .ok (.ldc 168, 2) := by decide +kernel
theorem dX11_setEvidence_21 : decode cX11_setEvidence 21 = .ok (.invokespecial 105, 3) := by decide +kernel
theorem dX11_setEvidence_24 : decode cX11_setEvidence 24 = .ok (.athrow, 1) := by decide +kernel
theorem dX11_setEvidence_25 : decode cX11_setEvidence 25 = .ok (.aload_n 0, 1) := by decide +kernel
theorem dX11_setEvidence_26 : decode cX11_setEvidence 26 = .ok (.iload_n 1, 1) := by decide +kernel
theorem dX11_setEvidence_27 : decode cX11_setEvidence 27 = .ok (.invokevirtual 170, 3) := by decide +kernel
theorem dX11_setEvidence_30 : decode cX11_setEvidence 30 = .ok (.ifCond .eq 14, 3) := by decide +kernel
theorem dX11_setEvidence_33 : decode cX11_setEvidence 33 = .ok (.aload_n 0, 1) := by decide +kernel
theorem dX11_setEvidence_34 : decode cX11_setEvidence 34 = .ok (.getfield 173, 3) := by decide +kernel
theorem dX11_setEvidence_37 : decode cX11_setEvidence 37 = .ok (.iload_n 1, 1) := by decide +kernel
theorem dX11_setEvidence_38 : decode cX11_setEvidence 38 = .ok (.ishr, 1) := by decide +kernel
theorem dX11_setEvidence_39 : decode cX11_setEvidence 39 = .ok (.iconst 1, 1) := by decide +kernel
theorem dX11_setEvidence_40 : decode cX11_setEvidence 40 = .ok (.iand, 1) := by decide +kernel
theorem dX11_setEvidence_41 : decode cX11_setEvidence 41 = .ok (.goto 4, 3) := by decide +kernel
theorem dX11_setEvidence_44 : decode cX11_setEvidence 44 = .ok (.iconst (-1), 1) := by decide +kernel
theorem dX11_setEvidence_45 : decode cX11_setEvidence 45 = .ok (.istore_n 3, 1) := by decide +kernel
theorem dX11_setEvidence_46 : decode cX11_setEvidence 46 = .ok (.iconst 1, 1) := by decide +kernel
theorem dX11_setEvidence_47 : decode cX11_setEvidence 47 = .ok (.iload_n 1, 1) := by decide +kernel
theorem dX11_setEvidence_48 : decode cX11_setEvidence 48 = .ok (.ishl, 1) := by decide +kernel
theorem dX11_setEvidence_49 : decode cX11_setEvidence 49 = .ok (.istore 4, 2) := by decide +kernel
theorem dX11_setEvidence_51 : decode cX11_setEvidence 51 = .ok (.aload_n 0, 1) := by decide +kernel
theorem dX11_setEvidence_52 : decode cX11_setEvidence 52 = .ok (.iload_n 2, 1) := by decide +kernel
theorem dX11_setEvidence_53 : decode cX11_setEvidence 53 = .ok (.iconst (-1), 1) := by decide +kernel
theorem dX11_setEvidence_54 : decode cX11_setEvidence 54 = .ok (.if_icmp .ne 15, 3) := by decide +kernel
theorem dX11_setEvidence_57 : decode cX11_setEvidence 57 = .ok (.aload_n 0, 1) := by decide +kernel
theorem dX11_setEvidence_58 : decode cX11_setEvidence 58 = .ok (.getfield 176, 3) := by decide +kernel
theorem dX11_setEvidence_61 : decode cX11_setEvidence 61 = .ok (.iload 4, 2) := by decide +kernel
theorem dX11_setEvidence_63 : decode cX11_setEvidence 63 = .ok (.iconst (-1), 1) := by decide +kernel
theorem dX11_setEvidence_64 : decode cX11_setEvidence 64 = .ok (.ixor, 1) := by decide +kernel
theorem dX11_setEvidence_65 : decode cX11_setEvidence 65 = .ok (.iand, 1) := by decide +kernel
theorem dX11_setEvidence_66 : decode cX11_setEvidence 66 = .ok (.goto 10, 3) := by decide +kernel
theorem dX11_setEvidence_69 : decode cX11_setEvidence 69 = .ok (.aload_n 0, 1) := by decide +kernel
theorem dX11_setEvidence_70 : decode cX11_setEvidence 70 = .ok (.getfield 176, 3) := by decide +kernel
theorem dX11_setEvidence_73 : decode cX11_setEvidence 73 = .ok (.iload 4, 2) := by decide +kernel
theorem dX11_setEvidence_75 : decode cX11_setEvidence 75 = .ok (.ior, 1) := by decide +kernel
theorem dX11_setEvidence_76 : decode cX11_setEvidence 76 = .ok (.putfield 176, 3) := by decide +kernel
theorem dX11_setEvidence_79 : decode cX11_setEvidence 79 = .ok (.aload_n 0, 1) := by decide +kernel
theorem dX11_setEvidence_80 : decode cX11_setEvidence 80 = .ok (.iload_n 2, 1) := by decide +kernel
theorem dX11_setEvidence_81 : decode cX11_setEvidence 81 = .ok (.iconst 1, 1) := by decide +kernel
theorem dX11_setEvidence_82 : decode cX11_setEvidence 82 = .ok (.if_icmp .ne 13, 3) := by decide +kernel
theorem dX11_setEvidence_85 : decode cX11_setEvidence 85 = .ok (.aload_n 0, 1) := by decide +kernel
theorem dX11_setEvidence_86 : decode cX11_setEvidence 86 = .ok (.getfield 173, 3) := by decide +kernel
theorem dX11_setEvidence_89 : decode cX11_setEvidence 89 = .ok (.iload 4, 2) := by decide +kernel
theorem dX11_setEvidence_91 : decode cX11_setEvidence 91 = .ok (.ior, 1) := by decide +kernel
theorem dX11_setEvidence_92 : decode cX11_setEvidence 92 = .ok (.goto 12, 3) := by decide +kernel
theorem dX11_setEvidence_95 : decode cX11_setEvidence 95 = .ok (.aload_n 0, 1) := by decide +kernel
theorem dX11_setEvidence_96 : decode cX11_setEvidence 96 = .ok (.getfield 173, 3) := by decide +kernel
theorem dX11_setEvidence_99 : decode cX11_setEvidence 99 = .ok (.iload 4, 2) := by decide +kernel
theorem dX11_setEvidence_101 : decode cX11_setEvidence 101 = .ok (.iconst (-1), 1) := by decide +kernel
theorem dX11_setEvidence_102 : decode cX11_setEvidence 102 = .ok (.ixor, 1) := by decide +kernel
theorem dX11_setEvidence_103 : decode cX11_setEvidence 103 = .ok (.iand, 1) := by decide +kernel
theorem dX11_setEvidence_104 : decode cX11_setEvidence 104 = .ok (.putfield 173, 3) := by decide +kernel
theorem dX11_setEvidence_107 : decode cX11_setEvidence 107 = .ok (.aload_n 0, 1) := by decide +kernel
theorem dX11_setEvidence_108 : decode cX11_setEvidence 108 = .ok (.iconst 0, 1) := by decide +kernel
theorem dX11_setEvidence_109 : decode cX11_setEvidence 109 = .ok (.putfield 94, 3) := by decide +kernel
theorem dX11_setEvidence_112 : decode cX11_setEvidence 112 = .ok (.iload_n 3, 1) := by decide +kernel
theorem dX11_setEvidence_113 : decode cX11_setEvidence 113 = .ok (.ireturn, 1) := by decide +kernel
theorem dX11_holds_0 : decode cX11_holds 0 = .ok (.aload_n 0, 1) := by decide +kernel
theorem dX11_holds_1 : decode cX11_holds 1 = .ok (.iload_n 1, 1) := by decide +kernel
theorem dX11_holds_2 : decode cX11_holds 2 = .ok (.invokevirtual 140, 3) := by decide +kernel
theorem dX11_holds_5 : decode cX11_holds 5 = .ok (.astore_n 3, 1) := by decide +kernel
theorem dX11_holds_6 : decode cX11_holds 6 = .ok (.aload_n 0, 1) := by decide +kernel
theorem dX11_holds_7 : decode cX11_holds 7 = .ok (.iload_n 2, 1) := by decide +kernel
theorem dX11_holds_8 : decode cX11_holds 8 = .ok (.invokevirtual 110, 3) := by decide +kernel
theorem dX11_holds_11 : decode cX11_holds 11 = .ok (.aload_n 3, 1) := by decide +kernel
theorem dX11_holds_12 : decode cX11_holds 12 = .ok (.iload_n 2, 1) := by decide +kernel
theorem dX11_holds_13 : decode cX11_holds 13 = .ok (.invokevirtual 179, 3) := by decide +kernel
theorem dX11_holds_16 : decode cX11_holds 16 = .ok (.ireturn, 1) := by decide +kernel
theorem dX11_models_0 : decode cX11_models 0 = .ok (.aload_n 0, 1) := by decide +kernel
theorem dX11_models_1 : decode cX11_models 1 = .ok (.invokevirtual 182, 3) := by decide +kernel
theorem dX11_models_4 : decode cX11_models 4 = .ok (.istore_n 1, 1) := by decide +kernel
theorem dX11_models_5 : decode cX11_models 5 = .ok (.aload_n 0, 1) := by decide +kernel
theorem dX11_models_6 : decode cX11_models 6 = .ok (.getfield 34, 3) := by decide +kernel
theorem dX11_models_9 : decode cX11_models 9 = .ok (.invokevirtual 153, 3) := by decide +kernel
theorem dX11_models_12 : decode cX11_models 12 = .ok (.aload_n 0, 1) := by decide +kernel
theorem dX11_models_13 : decode cX11_models 13 = .ok (.getfield 34, 3) := by decide +kernel
theorem dX11_models_16 : decode cX11_models 16 = .ok (.iload_n 1, 1) := by decide +kernel
theorem dX11_models_17 : decode cX11_models 17 = .ok (.invokevirtual 185, 3) := by decide +kernel
theorem dX11_models_20 : decode cX11_models 20 = .ok (.iconst (-1), 1) := by decide +kernel
theorem dX11_models_21 : decode cX11_models 21 = .ok (.ixor, 1) := by decide +kernel
theorem dX11_models_22 : decode cX11_models 22 = .ok (.iand, 1) := by decide +kernel
theorem dX11_models_23 : decode cX11_models 23 = .ok (.istore_n 2, 1) := by decide +kernel
theorem dX11_models_24 : decode cX11_models 24 = .ok (.aload_n 0, 1) := by decide +kernel
theorem dX11_models_25 : decode cX11_models 25 = .ok (.getfield 34, 3) := by decide +kernel
theorem dX11_models_28 : decode cX11_models 28 = .ok (.iload_n 2, 1) := by decide +kernel
theorem dX11_models_29 : decode cX11_models 29 = .ok (.aload_n 0, 1) := by decide +kernel
theorem dX11_models_30 : decode cX11_models 30 = .ok (.getfield 173, 3) := by decide +kernel
theorem dX11_models_33 : decode cX11_models 33 = .ok (.invokevirtual 188, 3) := by decide +kernel
theorem dX11_models_36 : decode cX11_models 36 = .ok (.ifCond .ne 5, 3) := by decide +kernel
theorem dX11_models_39 : decode cX11_models 39 = .ok (.lconst 0, 1) := by decide +kernel
theorem dX11_models_40 : decode cX11_models 40 = .ok (.lreturn, 1) := by decide +kernel
theorem dX11_models_41 : decode cX11_models 41 = .ok (.lconst 1, 1) := by decide +kernel
theorem dX11_models_42 : decode cX11_models 42 = .ok (.lstore_n 3, 1) := by decide +kernel
theorem dX11_models_43 : decode cX11_models 43 = .ok (.iconst 0, 1) := by decide +kernel
theorem dX11_models_44 : decode cX11_models 44 = .ok (.istore 5, 2) := by decide +kernel
theorem dX11_models_46 : decode cX11_models 46 = .ok (.iconst 0, 1) := by decide +kernel
theorem dX11_models_47 : decode cX11_models 47 = .ok (.istore 6, 2) := by decide +kernel
theorem dX11_models_49 : decode cX11_models 49 = .ok (.iload 6, 2) := by decide +kernel
theorem dX11_models_51 : decode cX11_models 51 = .ok (.aload_n 0, 1) := by decide +kernel
theorem dX11_models_52 : decode cX11_models 52 = .ok (.getfield 77, 3) := by decide +kernel
theorem dX11_models_55 : decode cX11_models 55 = .ok (.if_icmp .ge 47, 3) := by decide +kernel
theorem dX11_models_58 : decode cX11_models 58 = .ok (.iload_n 1, 1) := by decide +kernel
theorem dX11_models_59 : decode cX11_models 59 = .ok (.iload 5, 2) := by decide +kernel
theorem dX11_models_61 : decode cX11_models 61 = .ok (.iconst (-1), 1) := by decide +kernel
theorem dX11_models_62 : decode cX11_models 62 = .ok (.ixor, 1) := by decide +kernel
theorem dX11_models_63 : decode cX11_models 63 = .ok (.iand, 1) := by decide +kernel
theorem dX11_models_64 : decode cX11_models 64 = .ok (.iconst 1, 1) := by decide +kernel
theorem dX11_models_65 : decode cX11_models 65 = .ok (.iload 6, 2) := by decide +kernel
theorem dX11_models_67 : decode cX11_models 67 = .ok (.ishl, 1) := by decide +kernel
theorem dX11_models_68 : decode cX11_models 68 = .ok (.iand, 1) := by decide +kernel
theorem dX11_models_69 : decode cX11_models 69 = .ok (.ifCond .eq 27, 3) := by decide +kernel
theorem dX11_models_72 : decode cX11_models 72 = .ok (.aload_n 0, 1) := by decide +kernel
theorem dX11_models_73 : decode cX11_models 73 = .ok (.iload 6, 2) := by decide +kernel
theorem dX11_models_75 : decode cX11_models 75 = .ok (.invokevirtual 192, 3) := by decide +kernel
theorem dX11_models_78 : decode cX11_models 78 = .ok (.istore 7, 2) := by decide +kernel
theorem dX11_models_80 : decode cX11_models 80 = .ok (.lload_n 3, 1) := by decide +kernel
theorem dX11_models_81 : decode cX11_models 81 = .ok (.aload_n 0, 1) := by decide +kernel
theorem dX11_models_82 : decode cX11_models 82 = .ok (.iload 7, 2) := by decide +kernel
theorem dX11_models_84 : decode cX11_models 84 = .ok (.invokevirtual 195, 3) := by decide +kernel
theorem dX11_models_87 : decode cX11_models 87 = .ok (.lmul, 1) := by decide +kernel
theorem dX11_models_88 : decode cX11_models 88 = .ok (.lstore_n 3, 1) := by decide +kernel
theorem dX11_models_89 : decode cX11_models 89 = .ok (.iload 5, 2) := by decide +kernel
theorem dX11_models_91 : decode cX11_models 91 = .ok (.iload 7, 2) := by decide +kernel
theorem dX11_models_93 : decode cX11_models 93 = .ok (.ior, 1) := by decide +kernel
theorem dX11_models_94 : decode cX11_models 94 = .ok (.istore 5, 2) := by decide +kernel
theorem dX11_models_96 : decode cX11_models 96 = .ok (.iinc 6 1, 3) := by decide +kernel
theorem dX11_models_99 : decode cX11_models 99 = .ok (.goto (-50), 3) := by decide +kernel
theorem dX11_models_102 : decode cX11_models 102 = .ok (.lload_n 3, 1) := by decide +kernel
theorem dX11_models_103 : decode cX11_models 103 = .ok (.lreturn, 1) := by decide +kernel
theorem dX11_modelsByAll_0 : decode cX11_modelsByAll 0 = .ok (.aload_n 0, 1) := by decide +kernel
theorem dX11_modelsByAll_1 : decode cX11_modelsByAll 1 = .ok (.invokevirtual 199, 3) := by decide +kernel
theorem dX11_modelsByAll_4 : decode cX11_modelsByAll 4 = .ok (.invokevirtual 203, 3) := by decide +kernel
theorem dX11_modelsByAll_7 : decode cX11_modelsByAll 7 = .ok (.i2l, 1) := by decide +kernel
theorem dX11_modelsByAll_8 : decode cX11_modelsByAll 8 = .ok (.lreturn, 1) := by decide +kernel
theorem dX11_weight_0 : decode cX11_weight 0 = .ok (.aload_n 0, 1) := by decide +kernel
theorem dX11_weight_1 : decode cX11_weight 1 = .ok (.iconst 0, 1) := by decide +kernel
theorem dX11_weight_2 : decode cX11_weight 2 = .ok (.iconst 0, 1) := by decide +kernel
theorem dX11_weight_3 : decode cX11_weight 3 = .ok (.invokevirtual 206, 3) := by decide +kernel
theorem dX11_weight_6 : decode cX11_weight 6 = .ok (.lreturn, 1) := by decide +kernel
theorem dX11_weightWith_0 : decode cX11_weightWith 0 = .ok (.aload_n 0, 1) := by decide +kernel
theorem dX11_weightWith_1 : decode cX11_weightWith 1 = .ok (.iload_n 1, 1) := by decide +kernel
theorem dX11_weightWith_2 : decode cX11_weightWith 2 = .ok (.invokevirtual 98, 3) := by decide +kernel
theorem dX11_weightWith_5 : decode cX11_weightWith 5 = .ok (.aload_n 0, 1) := by decide +kernel
theorem dX11_weightWith_6 : decode cX11_weightWith 6 = .ok (.iload_n 2, 1) := by decide +kernel
theorem dX11_weightWith_7 : decode cX11_weightWith 7 = .ok (.invokevirtual 127, 3) := by decide +kernel
theorem dX11_weightWith_10 : decode cX11_weightWith 10 = .ok (.aload_n 0, 1) := by decide +kernel
theorem dX11_weightWith_11 : decode cX11_weightWith 11 = .ok (.iconst 1, 1) := by decide +kernel
theorem dX11_weightWith_12 : decode cX11_weightWith 12 = .ok (.iload_n 1, 1) := by decide +kernel
theorem dX11_weightWith_13 : decode cX11_weightWith 13 = .ok (.ishl, 1) := by decide +kernel
theorem dX11_weightWith_14 : decode cX11_weightWith 14 = .ok (.iload_n 2, 1) := by decide +kernel
theorem dX11_weightWith_15 : decode cX11_weightWith 15 = .ok (.iload_n 1, 1) := by decide +kernel
theorem dX11_weightWith_16 : decode cX11_weightWith 16 = .ok (.ishl, 1) := by decide +kernel
theorem dX11_weightWith_17 : decode cX11_weightWith 17 = .ok (.invokevirtual 206, 3) := by decide +kernel
theorem dX11_weightWith_20 : decode cX11_weightWith 20 = .ok (.lreturn, 1) := by decide +kernel
theorem dX11_chanceTop_0 : decode cX11_chanceTop 0 = .ok (.aload_n 0, 1) := by decide +kernel
theorem dX11_chanceTop_1 : decode cX11_chanceTop 1 = .ok (.iload_n 1, 1) := by decide +kernel
theorem dX11_chanceTop_2 : decode cX11_chanceTop 2 = .ok (.invokevirtual 98, 3) := by decide +kernel
theorem dX11_chanceTop_5 : decode cX11_chanceTop 5 = .ok (.aload_n 0, 1) := by decide +kernel
theorem dX11_chanceTop_6 : decode cX11_chanceTop 6 = .ok (.invokevirtual 210, 3) := by decide +kernel
theorem dX11_chanceTop_9 : decode cX11_chanceTop 9 = .ok (.lstore_n 2, 1) := by decide +kernel
theorem dX11_chanceTop_10 : decode cX11_chanceTop 10 = .ok (.aload_n 0, 1) := by decide +kernel
theorem dX11_chanceTop_11 : decode cX11_chanceTop 11 = .ok (.iconst 1, 1) := by decide +kernel
theorem dX11_chanceTop_12 : decode cX11_chanceTop 12 = .ok (.iload_n 1, 1) := by decide +kernel
theorem dX11_chanceTop_13 : decode cX11_chanceTop 13 = .ok (.ishl, 1) := by decide +kernel
theorem dX11_chanceTop_14 : decode cX11_chanceTop 14 = .ok (.iconst 1, 1) := by decide +kernel
theorem dX11_chanceTop_15 : decode cX11_chanceTop 15 = .ok (.iload_n 1, 1) := by decide +kernel
theorem dX11_chanceTop_16 : decode cX11_chanceTop 16 = .ok (.ishl, 1) := by decide +kernel
theorem dX11_chanceTop_17 : decode cX11_chanceTop 17 = .ok (.invokevirtual 206, 3) := by decide +kernel
theorem dX11_chanceTop_20 : decode cX11_chanceTop 20 = .ok (.lstore 4, 2) := by decide +kernel
theorem dX11_chanceTop_22 : decode cX11_chanceTop 22 = .ok (.lload 4, 2) := by decide +kernel
theorem dX11_chanceTop_24 : decode cX11_chanceTop 24 = .ok (.lload 4, 2) := by decide +kernel
theorem dX11_chanceTop_26 : decode cX11_chanceTop 26 = .ok (.lload_n 2, 1) := by decide +kernel
theorem dX11_chanceTop_27 : decode cX11_chanceTop 27 = .ok (.invokestatic 214, 3) := by decide +kernel
theorem dX11_chanceTop_30 : decode cX11_chanceTop 30 = .ok (.lreturn, 1) := by decide +kernel
theorem dX11_chanceBottom_0 : decode cX11_chanceBottom 0 = .ok (.aload_n 0, 1) := by decide +kernel
theorem dX11_chanceBottom_1 : decode cX11_chanceBottom 1 = .ok (.iload_n 1, 1) := by decide +kernel
theorem dX11_chanceBottom_2 : decode cX11_chanceBottom 2 = .ok (.invokevirtual 98, 3) := by decide +kernel
theorem dX11_chanceBottom_5 : decode cX11_chanceBottom 5 = .ok (.aload_n 0, 1) := by decide +kernel
theorem dX11_chanceBottom_6 : decode cX11_chanceBottom 6 = .ok (.invokevirtual 210, 3) := by decide +kernel
theorem dX11_chanceBottom_9 : decode cX11_chanceBottom 9 = .ok (.lstore_n 2, 1) := by decide +kernel
theorem dX11_chanceBottom_10 : decode cX11_chanceBottom 10 = .ok (.lload_n 2, 1) := by decide +kernel
theorem dX11_chanceBottom_11 : decode cX11_chanceBottom 11 = .ok (.aload_n 0, 1) := by decide +kernel
theorem dX11_chanceBottom_12 : decode cX11_chanceBottom 12 = .ok (.iconst 1, 1) := by decide +kernel
theorem dX11_chanceBottom_13 : decode cX11_chanceBottom 13 = .ok (.iload_n 1, 1) := by decide +kernel
theorem dX11_chanceBottom_14 : decode cX11_chanceBottom 14 = .ok (.ishl, 1) := by decide +kernel
theorem dX11_chanceBottom_15 : decode cX11_chanceBottom 15 = .ok (.iconst 1, 1) := by decide +kernel
theorem dX11_chanceBottom_16 : decode cX11_chanceBottom 16 = .ok (.iload_n 1, 1) := by decide +kernel
theorem dX11_chanceBottom_17 : decode cX11_chanceBottom 17 = .ok (.ishl, 1) := by decide +kernel
theorem dX11_chanceBottom_18 : decode cX11_chanceBottom 18 = .ok (.invokevirtual 206, 3) := by decide +kernel
theorem dX11_chanceBottom_21 : decode cX11_chanceBottom 21 = .ok (.lload_n 2, 1) := by decide +kernel
theorem dX11_chanceBottom_22 : decode cX11_chanceBottom 22 = .ok (.invokestatic 214, 3) := by decide +kernel
theorem dX11_chanceBottom_25 : decode cX11_chanceBottom 25 = .ok (.lreturn, 1) := by decide +kernel
theorem dX11_projected_0 : decode cX11_projected 0 = .ok (.aload_n 0, 1) := by decide +kernel
theorem dX11_projected_1 : decode cX11_projected 1 = .ok (.iload_n 1, 1) := by decide +kernel
theorem dX11_projected_2 : decode cX11_projected 2 = .ok (.invokevirtual 110, 3) := by decide +kernel
theorem dX11_projected_5 : decode cX11_projected 5 = .ok (.aload_n 0, 1) := by decide +kernel
theorem dX11_projected_6 : decode cX11_projected 6 = .ok (.invokevirtual 199, 3) := by decide +kernel
theorem dX11_projected_9 : decode cX11_projected 9 = .ok (.astore_n 2, 1) := by decide +kernel
theorem dX11_projected_10 : decode cX11_projected 10 = .ok (.aload_n 0, 1) := by decide +kernel
theorem dX11_projected_11 : decode cX11_projected 11 = .ok (.getfield 52, 3) := by decide +kernel
theorem dX11_projected_14 : decode cX11_projected 14 = .ok (.aload_n 0, 1) := by decide +kernel
theorem dX11_projected_15 : decode cX11_projected 15 = .ok (.getfield 77, 3) := by decide +kernel
theorem dX11_projected_18 : decode cX11_projected 18 = .ok (.invokevirtual 218, 3) := by decide +kernel
theorem dX11_projected_21 : decode cX11_projected 21 = .ok (.iconst 0, 1) := by decide +kernel
theorem dX11_projected_22 : decode cX11_projected 22 = .ok (.istore_n 3, 1) := by decide +kernel
theorem dX11_projected_23 : decode cX11_projected 23 = .ok (.iload_n 3, 1) := by decide +kernel
theorem dX11_projected_24 : decode cX11_projected 24 = .ok (.aload_n 0, 1) := by decide +kernel
theorem dX11_projected_25 : decode cX11_projected 25 = .ok (.invokevirtual 221, 3) := by decide +kernel
theorem dX11_projected_28 : decode cX11_projected 28 = .ok (.if_icmp .ge 27, 3) := by decide +kernel
theorem dX11_projected_31 : decode cX11_projected 31 = .ok (.aload_n 2, 1) := by decide +kernel
theorem dX11_projected_32 : decode cX11_projected 32 = .ok (.iload_n 3, 1) := by decide +kernel
theorem dX11_projected_33 : decode cX11_projected 33 = .ok (.invokevirtual 224, 3) := by decide +kernel
theorem dX11_projected_36 : decode cX11_projected 36 = .ok (.ifCond .eq 13, 3) := by decide +kernel
theorem dX11_projected_39 : decode cX11_projected 39 = .ok (.aload_n 0, 1) := by decide +kernel
theorem dX11_projected_40 : decode cX11_projected 40 = .ok (.getfield 52, 3) := by decide +kernel
theorem dX11_projected_43 : decode cX11_projected 43 = .ok (.iload_n 3, 1) := by decide +kernel
theorem dX11_projected_44 : decode cX11_projected 44 = .ok (.iload_n 1, 1) := by decide +kernel
theorem dX11_projected_45 : decode cX11_projected 45 = .ok (.iand, 1) := by decide +kernel
theorem dX11_projected_46 : decode cX11_projected 46 = .ok (.invokevirtual 227, 3) := by decide +kernel
theorem dX11_projected_49 : decode cX11_projected 49 = .ok (.iinc 3 1, 3) := by decide +kernel
theorem dX11_projected_52 : decode cX11_projected 52 = .ok (.goto (-29), 3) := by decide +kernel
theorem dX11_projected_55 : decode cX11_projected 55 = .ok (.aload_n 0, 1) := by decide +kernel
theorem dX11_projected_56 : decode cX11_projected 56 = .ok (.getfield 52, 3) := by decide +kernel
theorem dX11_projected_59 : decode cX11_projected 59 = .ok (.invokevirtual 203, 3) := by decide +kernel
theorem dX11_projected_62 : decode cX11_projected 62 = .ok (.i2l, 1) := by decide +kernel
theorem dX11_projected_63 : decode cX11_projected 63 = .ok (.lreturn, 1) := by decide +kernel
theorem dX11_implied_0 : decode cX11_implied 0 = .ok (.aload_n 0, 1) := by decide +kernel
theorem dX11_implied_1 : decode cX11_implied 1 = .ok (.iload_n 1, 1) := by decide +kernel
theorem dX11_implied_2 : decode cX11_implied 2 = .ok (.invokevirtual 98, 3) := by decide +kernel
theorem dX11_implied_5 : decode cX11_implied 5 = .ok (.aload_n 0, 1) := by decide +kernel
theorem dX11_implied_6 : decode cX11_implied 6 = .ok (.invokevirtual 199, 3) := by decide +kernel
theorem dX11_implied_9 : decode cX11_implied 9 = .ok (.astore_n 2, 1) := by decide +kernel
theorem dX11_implied_10 : decode cX11_implied 10 = .ok (.iconst 0, 1) := by decide +kernel
theorem dX11_implied_11 : decode cX11_implied 11 = .ok (.istore_n 3, 1) := by decide +kernel
theorem dX11_implied_12 : decode cX11_implied 12 = .ok (.iconst 0, 1) := by decide +kernel
theorem dX11_implied_13 : decode cX11_implied 13 = .ok (.istore 4, 2) := by decide +kernel
theorem dX11_implied_15 : decode cX11_implied 15 = .ok (.iconst 0, 1) := by decide +kernel
theorem dX11_implied_16 : decode cX11_implied 16 = .ok (.istore 5, 2) := by decide +kernel
theorem dX11_implied_18 : decode cX11_implied 18 = .ok (.iload 5, 2) := by decide +kernel
theorem dX11_implied_20 : decode cX11_implied 20 = .ok (.aload_n 0, 1) := by decide +kernel
theorem dX11_implied_21 : decode cX11_implied 21 = .ok (.invokevirtual 221, 3) := by decide +kernel
theorem dX11_implied_24 : decode cX11_implied 24 = .ok (.if_icmp .ge 35, 3) := by decide +kernel
theorem dX11_implied_27 : decode cX11_implied 27 = .ok (.aload_n 2, 1) := by decide +kernel
theorem dX11_implied_28 : decode cX11_implied 28 = .ok (.iload 5, 2) := by decide +kernel
theorem dX11_implied_30 : decode cX11_implied 30 = .ok (.invokevirtual 224, 3) := by decide +kernel
theorem dX11_implied_33 : decode cX11_implied 33 = .ok (.ifCond .eq 20, 3) := by decide +kernel
theorem dX11_implied_36 : decode cX11_implied 36 = .ok (.iload 5, 2) := by decide +kernel
theorem dX11_implied_38 : decode cX11_implied 38 = .ok (.iload_n 1, 1) := by decide +kernel
theorem dX11_implied_39 : decode cX11_implied 39 = .ok (.ishr, 1) := by decide +kernel
theorem dX11_implied_40 : decode cX11_implied 40 = .ok (.iconst 1, 1) := by decide +kernel
theorem dX11_implied_41 : decode cX11_implied 41 = .ok (.iand, 1) := by decide +kernel
theorem dX11_implied_42 : decode cX11_implied 42 = .ok (.ifCond .eq 9, 3) := by decide +kernel
theorem dX11_implied_45 : decode cX11_implied 45 = .ok (.iconst 1, 1) := by decide +kernel
theorem dX11_implied_46 : decode cX11_implied 46 = .ok (.istore 4, 2) := by decide +kernel
theorem dX11_implied_48 : decode cX11_implied 48 = .ok (.goto 5, 3) := by decide +kernel
theorem dX11_implied_51 : decode cX11_implied 51 = .ok (.iconst 1, 1) := by decide +kernel
theorem dX11_implied_52 : decode cX11_implied 52 = .ok (.istore_n 3, 1) := by decide +kernel
theorem dX11_implied_53 : decode cX11_implied 53 = .ok (.iinc 5 1, 3) := by decide +kernel
theorem dX11_implied_56 : decode cX11_implied 56 = .ok (.goto (-38), 3) := by decide +kernel
theorem dX11_implied_59 : decode cX11_implied 59 = .ok (.iload 4, 2) := by decide +kernel
theorem dX11_implied_61 : decode cX11_implied 61 = .ok (.ifCond .eq 15, 3) := by decide +kernel
theorem dX11_implied_64 : decode cX11_implied 64 = .ok (.iload_n 3, 1) := by decide +kernel
theorem dX11_implied_65 : decode cX11_implied 65 = .ok (.ifCond .eq 8, 3) := by decide +kernel
theorem dX11_implied_68 : decode cX11_implied 68 = .ok (.bipush 45, 2) := by decide +kernel
theorem dX11_implied_70 : decode cX11_implied 70 = .ok (.goto 5, 3) := by decide +kernel
theorem dX11_implied_73 : decode cX11_implied 73 = .ok (.bipush 116, 2) := by decide +kernel
theorem dX11_implied_75 : decode cX11_implied 75 = .ok (.ireturn, 1) := by decide +kernel
theorem dX11_implied_76 : decode cX11_implied 76 = .ok (.iload_n 3, 1) := by decide +kernel
theorem dX11_implied_77 : decode cX11_implied 77 = .ok (.ifCond .eq 8, 3) := by decide +kernel
theorem dX11_implied_80 : decode cX11_implied 80 = .ok (.bipush 102, 2) := by decide +kernel
theorem dX11_implied_82 : decode cX11_implied 82 = .ok (.goto 5, 3) := by decide +kernel
theorem dX11_implied_85 : decode cX11_implied 85 = .ok (.bipush 110, 2) := by decide +kernel
theorem dX11_implied_87 : decode cX11_implied 87 = .ok (.ireturn, 1) := by decide +kernel
theorem dX11_parts_0 : decode cX11_parts 0 = .ok (.aload_n 0, 1) := by decide +kernel
theorem dX11_parts_1 : decode cX11_parts 1 = .ok (.invokevirtual 182, 3) := by decide +kernel
theorem dX11_parts_4 : decode cX11_parts 4 = .ok (.istore_n 1, 1) := by decide +kernel
theorem dX11_parts_5 : decode cX11_parts 5 = .ok (.iconst 0, 1) := by decide +kernel
theorem dX11_parts_6 : decode cX11_parts 6 = .ok (.istore_n 2, 1) := by decide +kernel
theorem dX11_parts_7 : decode cX11_parts 7 = .ok (.iconst 0, 1) := by decide +kernel
theorem dX11_parts_8 : decode cX11_parts 8 = .ok (.istore_n 3, 1) := by decide +kernel
theorem dX11_parts_9 : decode cX11_parts 9 = .ok (.iconst 0, 1) := by decide +kernel
theorem dX11_parts_10 : decode cX11_parts 10 = .ok (.istore 4, 2) := by decide +kernel
theorem dX11_parts_12 : decode cX11_parts 12 = .ok (.iload 4, 2) := by decide +kernel
theorem dX11_parts_14 : decode cX11_parts 14 = .ok (.aload_n 0, 1) := by decide +kernel
theorem dX11_parts_15 : decode cX11_parts 15 = .ok (.getfield 77, 3) := by decide +kernel
theorem dX11_parts_18 : decode cX11_parts 18 = .ok (.if_icmp .ge 34, 3) := by decide +kernel
theorem dX11_parts_21 : decode cX11_parts 21 = .ok (.iload_n 1, 1) := by decide +kernel
theorem dX11_parts_22 : decode cX11_parts 22 = .ok (.iload_n 3, 1) := by decide +kernel
theorem dX11_parts_23 : decode cX11_parts 23 = .ok (.iconst (-1), 1) := by decide +kernel
theorem dX11_parts_24 : decode cX11_parts 24 = .ok (.ixor, 1) := by decide +kernel
theorem dX11_parts_25 : decode cX11_parts 25 = .ok (.iand, 1) := by decide +kernel
theorem dX11_parts_26 : decode cX11_parts 26 = .ok (.iconst 1, 1) := by decide +kernel
theorem dX11_parts_27 : decode cX11_parts 27 = .ok (.iload 4, 2) := by decide +kernel
theorem dX11_parts_29 : decode cX11_parts 29 = .ok (.ishl, 1) := by decide +kernel
theorem dX11_parts_30 : decode cX11_parts 30 = .ok (.iand, 1) := by decide +kernel
theorem dX11_parts_31 : decode cX11_parts 31 = .ok (.ifCond .eq 15, 3) := by decide +kernel
theorem dX11_parts_34 : decode cX11_parts 34 = .ok (.iinc 2 1, 3) := by decide +kernel
theorem dX11_parts_37 : decode cX11_parts 37 = .ok (.iload_n 3, 1) := by decide +kernel
theorem dX11_parts_38 : decode cX11_parts 38 = .ok (.aload_n 0, 1) := by decide +kernel
theorem dX11_parts_39 : decode cX11_parts 39 = .ok (.iload 4, 2) := by decide +kernel
theorem dX11_parts_41 : decode cX11_parts 41 = .ok (.invokevirtual 192, 3) := by decide +kernel
theorem dX11_parts_44 : decode cX11_parts 44 = .ok (.ior, 1) := by decide +kernel
theorem dX11_parts_45 : decode cX11_parts 45 = .ok (.istore_n 3, 1) := by decide +kernel
theorem dX11_parts_46 : decode cX11_parts 46 = .ok (.iinc 4 1, 3) := by decide +kernel
theorem dX11_parts_49 : decode cX11_parts 49 = .ok (.goto (-37), 3) := by decide +kernel
theorem dX11_parts_52 : decode cX11_parts 52 = .ok (.iload_n 2, 1) := by decide +kernel
theorem dX11_parts_53 : decode cX11_parts 53 = .ok (.ireturn, 1) := by decide +kernel
theorem dX11_partOf_0 : decode cX11_partOf 0 = .ok (.aload_n 0, 1) := by decide +kernel
theorem dX11_partOf_1 : decode cX11_partOf 1 = .ok (.iload_n 1, 1) := by decide +kernel
theorem dX11_partOf_2 : decode cX11_partOf 2 = .ok (.invokevirtual 98, 3) := by decide +kernel
theorem dX11_partOf_5 : decode cX11_partOf 5 = .ok (.aload_n 0, 1) := by decide +kernel
theorem dX11_partOf_6 : decode cX11_partOf 6 = .ok (.iload_n 1, 1) := by decide +kernel
theorem dX11_partOf_7 : decode cX11_partOf 7 = .ok (.invokevirtual 230, 3) := by decide +kernel
theorem dX11_partOf_10 : decode cX11_partOf 10 = .ok (.aload_n 0, 1) := by decide +kernel
theorem dX11_partOf_11 : decode cX11_partOf 11 = .ok (.aload_n 0, 1) := by decide +kernel
theorem dX11_partOf_12 : decode cX11_partOf 12 = .ok (.iload_n 1, 1) := by decide +kernel
theorem dX11_partOf_13 : decode cX11_partOf 13 = .ok (.invokevirtual 192, 3) := by decide +kernel
theorem dX11_partOf_16 : decode cX11_partOf 16 = .ok (.invokevirtual 233, 3) := by decide +kernel
theorem dX11_partOf_19 : decode cX11_partOf 19 = .ok (.ireturn, 1) := by decide +kernel
theorem dX11_modelsOfPart_0 : decode cX11_modelsOfPart 0 = .ok (.aload_n 0, 1) := by decide +kernel
theorem dX11_modelsOfPart_1 : decode cX11_modelsOfPart 1 = .ok (.iload_n 1, 1) := by decide +kernel
theorem dX11_modelsOfPart_2 : decode cX11_modelsOfPart 2 = .ok (.invokevirtual 98, 3) := by decide +kernel
theorem dX11_modelsOfPart_5 : decode cX11_modelsOfPart 5 = .ok (.aload_n 0, 1) := by decide +kernel
theorem dX11_modelsOfPart_6 : decode cX11_modelsOfPart 6 = .ok (.iload_n 1, 1) := by decide +kernel
theorem dX11_modelsOfPart_7 : decode cX11_modelsOfPart 7 = .ok (.invokevirtual 230, 3) := by decide +kernel
theorem dX11_modelsOfPart_10 : decode cX11_modelsOfPart 10 = .ok (.aload_n 0, 1) := by decide +kernel
theorem dX11_modelsOfPart_11 : decode cX11_modelsOfPart 11 = .ok (.aload_n 0, 1) := by decide +kernel
theorem dX11_modelsOfPart_12 : decode cX11_modelsOfPart 12 = .ok (.iload_n 1, 1) := by decide +kernel
theorem dX11_modelsOfPart_13 : decode cX11_modelsOfPart 13 = .ok (.invokevirtual 192, 3) := by decide +kernel
theorem dX11_modelsOfPart_16 : decode cX11_modelsOfPart 16 = .ok (.invokevirtual 195, 3) := by decide +kernel
theorem dX11_modelsOfPart_19 : decode cX11_modelsOfPart 19 = .ok (.lreturn, 1) := by decide +kernel
theorem dX11_best_0 : decode cX11_best 0 = .ok (.iload_n 1, 1) := by decide +kernel
theorem dX11_best_1 : decode cX11_best 1 = .ok (.ifCond .lt 9, 3) := by decide +kernel
theorem dX11_best_4 : decode cX11_best 4 = .ok (.iload_n 1, 1) := by decide +kernel
theorem dX11_best_5 : decode cX11_best 5 = .ok (.bipush 20, 2) := by decide +kernel
theorem dX11_best_7 : decode cX11_best 7 = .ok (.if_icmp .le 13, 3) := by decide +kernel
theorem dX11_best_10 : decode cX11_best 10 = .ok (.new 101, 3) := by decide +kernel
theorem dX11_best_13 : decode cX11_best 13 = .ok (.dup, 1) := by decide +kernel
theorem dX11_best_14 : decode cX11_best 14 = .ok (.ldc 236, 2) := by decide +kernel
theorem dX11_best_16 : decode cX11_best 16 = .ok (.invokespecial 105, 3) := by decide +kernel
theorem dX11_best_19 : decode cX11_best 19 = .ok (.athrow, 1) := by decide +kernel
theorem dX11_best_20 : decode cX11_best 20 = .ok (.aload_n 0, 1) := by decide +kernel
theorem dX11_best_21 : decode cX11_best 21 = .ok (.invokevirtual 199, 3) := by decide +kernel
theorem dX11_best_24 : decode cX11_best 24 = .ok (.astore_n 2, 1) := by decide +kernel
theorem dX11_best_25 : decode cX11_best 25 = .ok (.iload_n 1, 1) := by decide +kernel
theorem dX11_best_26 : decode cX11_best 26 = .ok (.aload_n 2, 1) := by decide +kernel
theorem dX11_best_27 : decode cX11_best 27 = .ok (.invokevirtual 203, 3) := by decide +kernel
theorem dX11_best_30 : decode cX11_best 30 = .ok (.if_icmp .lt 13, 3) := by decide +kernel
theorem dX11_best_33 : decode cX11_best 33 = .ok (.new 238, 3) := by decide +kernel
theorem dX11_best_36 : decode cX11_best 36 = .ok (.dup, 1) := by decide +kernel
theorem dX11_best_37 : decode cX11_best 37 = .ok (.ldc 240, 2) := by decide +kernel
theorem dX11_best_39 : decode cX11_best 39 = .ok (.invokespecial 242, 3) := by decide +kernel
theorem dX11_best_42 : decode cX11_best 42 = .ok (.athrow, 1) := by decide +kernel
theorem dX11_best_43 : decode cX11_best 43 = .ok (.aload_n 0, 1) := by decide +kernel
theorem dX11_best_44 : decode cX11_best 44 = .ok (.getfield 58, 3) := by decide +kernel
theorem dX11_best_47 : decode cX11_best 47 = .ok (.invokevirtual 243, 3) := by decide +kernel
theorem dX11_best_50 : decode cX11_best 50 = .ok (.iconst 0, 1) := by decide +kernel
theorem dX11_best_51 : decode cX11_best 51 = .ok (.istore_n 3, 1) := by decide +kernel
theorem dX11_best_52 : decode cX11_best 52 = .ok (.iconst 0, 1) := by decide +kernel
theorem dX11_best_53 : decode cX11_best 53 = .ok (.istore 4, 2) := by decide +kernel
theorem dX11_best_55 : decode cX11_best 55 = .ok (.iload 4, 2) := by decide +kernel
theorem dX11_best_57 : decode cX11_best 57 = .ok (.aload_n 0, 1) := by decide +kernel
theorem dX11_best_58 : decode cX11_best 58 = .ok (.invokevirtual 221, 3) := by decide +kernel
theorem dX11_best_61 : decode cX11_best 61 = .ok (.if_icmp .ge 39, 3) := by decide +kernel
theorem dX11_best_64 : decode cX11_best 64 = .ok (.aload_n 2, 1) := by decide +kernel
theorem dX11_best_65 : decode cX11_best 65 = .ok (.iload_n 3, 1) := by decide +kernel
theorem dX11_best_66 : decode cX11_best 66 = .ok (.invokevirtual 224, 3) := by decide +kernel
theorem dX11_best_69 : decode cX11_best 69 = .ok (.ifCond .eq 19, 3) := by decide +kernel
theorem dX11_best_72 : decode cX11_best 72 = .ok (.aload_n 0, 1) := by decide +kernel
theorem dX11_best_73 : decode cX11_best 73 = .ok (.getfield 58, 3) := by decide +kernel
theorem dX11_best_76 : decode cX11_best 76 = .ok (.iload_n 3, 1) := by decide +kernel
theorem dX11_best_77 : decode cX11_best 77 = .ok (.aload_n 0, 1) := by decide +kernel
theorem dX11_best_78 : decode cX11_best 78 = .ok (.getfield 24, 3) := by decide +kernel
theorem dX11_best_81 : decode cX11_best 81 = .ok (.iload_n 3, 1) := by decide +kernel
theorem dX11_best_82 : decode cX11_best 82 = .ok (.invokevirtual 245, 3) := by decide +kernel
theorem dX11_best_85 : decode cX11_best 85 = .ok (.invokevirtual 247, 3) := by decide +kernel
theorem dX11_best_88 : decode cX11_best 88 = .ok (.aload_n 0, 1) := by decide +kernel
theorem dX11_best_89 : decode cX11_best 89 = .ok (.iload_n 3, 1) := by decide +kernel
theorem dX11_best_90 : decode cX11_best 90 = .ok (.invokevirtual 250, 3) := by decide +kernel
theorem dX11_best_93 : decode cX11_best 93 = .ok (.istore_n 3, 1) := by decide +kernel
theorem dX11_best_94 : decode cX11_best 94 = .ok (.iinc 4 1, 3) := by decide +kernel
theorem dX11_best_97 : decode cX11_best 97 = .ok (.goto (-42), 3) := by decide +kernel
theorem dX11_best_100 : decode cX11_best 100 = .ok (.aload_n 0, 1) := by decide +kernel
theorem dX11_best_101 : decode cX11_best 101 = .ok (.getfield 58, 3) := by decide +kernel
theorem dX11_best_104 : decode cX11_best 104 = .ok (.iload_n 1, 1) := by decide +kernel
theorem dX11_best_105 : decode cX11_best 105 = .ok (.invokevirtual 253, 3) := by decide +kernel
theorem dX11_best_108 : decode cX11_best 108 = .ok (.ireturn, 1) := by decide +kernel
theorem dX11_weightOf_0 : decode cX11_weightOf 0 = .ok (.aload_n 0, 1) := by decide +kernel
theorem dX11_weightOf_1 : decode cX11_weightOf 1 = .ok (.iload_n 1, 1) := by decide +kernel
theorem dX11_weightOf_2 : decode cX11_weightOf 2 = .ok (.invokevirtual 110, 3) := by decide +kernel
theorem dX11_weightOf_5 : decode cX11_weightOf 5 = .ok (.aload_n 0, 1) := by decide +kernel
theorem dX11_weightOf_6 : decode cX11_weightOf 6 = .ok (.getfield 24, 3) := by decide +kernel
theorem dX11_weightOf_9 : decode cX11_weightOf 9 = .ok (.iload_n 1, 1) := by decide +kernel
theorem dX11_weightOf_10 : decode cX11_weightOf 10 = .ok (.invokevirtual 245, 3) := by decide +kernel
theorem dX11_weightOf_13 : decode cX11_weightOf 13 = .ok (.lreturn, 1) := by decide +kernel
theorem dX11_lucky_0 : decode cX11_lucky 0 = .ok (.lload_n 1, 1) := by decide +kernel
theorem dX11_lucky_1 : decode cX11_lucky 1 = .ok (.lconst 0, 1) := by decide +kernel
theorem dX11_lucky_2 : decode cX11_lucky 2 = .ok (.lcmp, 1) := by decide +kernel
theorem dX11_lucky_3 : decode cX11_lucky 3 = .ok (.ifCond .lt 14, 3) := by decide +kernel
theorem dX11_lucky_6 : decode cX11_lucky 6 = .ok (.lload_n 1, 1) := by decide +kernel
theorem dX11_lucky_7 : decode cX11_lucky 7 = .ok (.aload_n 0, 1) := by decide +kernel
theorem dX11_lucky_8 : decode cX11_lucky 8 = .ok (.iconst 0, 1) := by decide +kernel
theorem dX11_lucky_9 : decode cX11_lucky 9 = .ok (.iconst 0, 1) := by decide +kernel
theorem dX11_lucky_10 : decode cX11_lucky 10 = .ok (.invokevirtual 206, 3) := by decide +kernel
theorem dX11_lucky_13 : decode cX11_lucky 13 = .ok (.lcmp, 1) := by decide +kernel
theorem dX11_lucky_14 : decode cX11_lucky 14 = .ok (.ifCond .lt 14, 3) := by decide +kernel
theorem dX11_lucky_17 : decode cX11_lucky 17 = .ok (.new 101, 3) := by decide +kernel
theorem dX11_lucky_20 : decode cX11_lucky 20 = .ok (.dup, 1) := by decide +kernel
theorem dX11_lucky_21 : decode cX11_lucky 21 = .ok (.ldc_w 256, 3) := by decide +kernel
theorem dX11_lucky_24 : decode cX11_lucky 24 = .ok (.invokespecial 105, 3) := by decide +kernel
theorem dX11_lucky_27 : decode cX11_lucky 27 = .ok (.athrow, 1) := by decide +kernel
theorem dX11_lucky_28 : decode cX11_lucky 28 = .ok (.aload_n 0, 1) := by decide +kernel
theorem dX11_lucky_29 : decode cX11_lucky 29 = .ok (.invokevirtual 199, 3) := by decide +kernel
theorem dX11_lucky_32 : decode cX11_lucky 32 = .ok (.astore_n 3, 1) := by decide +kernel
theorem dX11_lucky_33 : decode cX11_lucky 33 = .ok (.lconst 0, 1) := by decide +kernel
theorem dX11_lucky_34 : decode cX11_lucky 34 = .ok (.lstore 4, 2) := by decide +kernel
theorem dX11_lucky_36 : decode cX11_lucky 36 = .ok (.iconst 0, 1) := by decide +kernel
theorem dX11_lucky_37 : decode cX11_lucky 37 = .ok (.istore 6, 2) := by decide +kernel
theorem dX11_lucky_39 : decode cX11_lucky 39 = .ok (.iconst 0, 1) := by decide +kernel
theorem dX11_lucky_40 : decode cX11_lucky 40 = .ok (.istore 7, 2) := by decide +kernel
theorem dX11_lucky_42 : decode cX11_lucky 42 = .ok (.iconst 0, 1) := by decide +kernel
theorem dX11_lucky_43 : decode cX11_lucky 43 = .ok (.istore 8, 2) := by decide +kernel
theorem dX11_lucky_45 : decode cX11_lucky 45 = .ok (.iload 8, 2) := by decide +kernel
theorem dX11_lucky_47 : decode cX11_lucky 47 = .ok (.aload_n 0, 1) := by decide +kernel
theorem dX11_lucky_48 : decode cX11_lucky 48 = .ok (.invokevirtual 221, 3) := by decide +kernel
theorem dX11_lucky_51 : decode cX11_lucky 51 = .ok (.if_icmp .ge 51, 3) := by decide +kernel
theorem dX11_lucky_54 : decode cX11_lucky 54 = .ok (.lload 4, 2) := by decide +kernel
theorem dX11_lucky_56 : decode cX11_lucky 56 = .ok (.lload_n 1, 1) := by decide +kernel
theorem dX11_lucky_57 : decode cX11_lucky 57 = .ok (.lcmp, 1) := by decide +kernel
theorem dX11_lucky_58 : decode cX11_lucky 58 = .ok (.ifCond .gt 44, 3) := by decide +kernel
theorem dX11_lucky_61 : decode cX11_lucky 61 = .ok (.aload_n 3, 1) := by decide +kernel
theorem dX11_lucky_62 : decode cX11_lucky 62 = .ok (.iload 7, 2) := by decide +kernel
theorem dX11_lucky_64 : decode cX11_lucky 64 = .ok (.invokevirtual 224, 3) := by decide +kernel
theorem dX11_lucky_67 : decode cX11_lucky 67 = .ok (.ifCond .eq 21, 3) := by decide +kernel
theorem dX11_lucky_70 : decode cX11_lucky 70 = .ok (.lload 4, 2) := by decide +kernel
theorem dX11_lucky_72 : decode cX11_lucky 72 = .ok (.aload_n 0, 1) := by decide +kernel
theorem dX11_lucky_73 : decode cX11_lucky 73 = .ok (.getfield 24, 3) := by decide +kernel
theorem dX11_lucky_76 : decode cX11_lucky 76 = .ok (.iload 7, 2) := by decide +kernel
theorem dX11_lucky_78 : decode cX11_lucky 78 = .ok (.invokevirtual 245, 3) := by decide +kernel
theorem dX11_lucky_81 : decode cX11_lucky 81 = .ok (.ladd, 1) := by decide +kernel
theorem dX11_lucky_82 : decode cX11_lucky 82 = .ok (.lstore 4, 2) := by decide +kernel
theorem dX11_lucky_84 : decode cX11_lucky 84 = .ok (.iload 7, 2) := by decide +kernel
theorem dX11_lucky_86 : decode cX11_lucky 86 = .ok (.istore 6, 2) := by decide +kernel
theorem dX11_lucky_88 : decode cX11_lucky 88 = .ok (.aload_n 0, 1) := by decide +kernel
theorem dX11_lucky_89 : decode cX11_lucky 89 = .ok (.iload 7, 2) := by decide +kernel
theorem dX11_lucky_91 : decode cX11_lucky 91 = .ok (.invokevirtual 250, 3) := by decide +kernel
theorem dX11_lucky_94 : decode cX11_lucky 94 = .ok (.istore 7, 2) := by decide +kernel
theorem dX11_lucky_96 : decode cX11_lucky 96 = .ok (.iinc 8 1, 3) := by decide +kernel
theorem dX11_lucky_99 : decode cX11_lucky 99 = .ok (.goto (-54), 3) := by decide +kernel
theorem dX11_lucky_102 : decode cX11_lucky 102 = .ok (.iload 6, 2) := by decide +kernel
theorem dX11_lucky_104 : decode cX11_lucky 104 = .ok (.ireturn, 1) := by decide +kernel
theorem dX11_first_0 : decode cX11_first 0 = .ok (.aload_n 0, 1) := by decide +kernel
theorem dX11_first_1 : decode cX11_first 1 = .ok (.invokevirtual 199, 3) := by decide +kernel
theorem dX11_first_4 : decode cX11_first 4 = .ok (.astore_n 1, 1) := by decide +kernel
theorem dX11_first_5 : decode cX11_first 5 = .ok (.aload_n 1, 1) := by decide +kernel
theorem dX11_first_6 : decode cX11_first 6 = .ok (.invokevirtual 203, 3) := by decide +kernel
theorem dX11_first_9 : decode cX11_first 9 = .ok (.ifCond .ne 14, 3) := by decide +kernel
theorem dX11_first_12 : decode cX11_first 12 = .ok (.new 238, 3) := by decide +kernel
theorem dX11_first_15 : decode cX11_first 15 = .ok (.dup, 1) := by decide +kernel
