theorem dX6_init_0 : decode cX6_init 0 = .ok (.aload_n 0, 1) := by decide +kernel
theorem dX6_init_1 : decode cX6_init 1 = .ok (.invokespecial 1, 3) := by decide +kernel
theorem dX6_init_4 : decode cX6_init 4 = .ok (.aload_n 0, 1) := by decide +kernel
theorem dX6_init_5 : decode cX6_init 5 = .ok (.bipush 119, 2) := by decide +kernel
theorem dX6_init_7 : decode cX6_init 7 = .ok (.newarray .int, 2) := by decide +kernel
theorem dX6_init_9 : decode cX6_init 9 = .ok (.putfield 7, 3) := by decide +kernel
theorem dX6_init_12 : decode cX6_init 12 = .ok (.aload_n 0, 1) := by decide +kernel
theorem dX6_init_13 : decode cX6_init 13 = .ok (.sipush 714, 3) := by decide +kernel
theorem dX6_init_16 : decode cX6_init 16 = .ok (.newarray .int, 2) := by decide +kernel
theorem dX6_init_18 : decode cX6_init 18 = .ok (.putfield 13, 3) := by decide +kernel
theorem dX6_init_21 : decode cX6_init 21 = .ok (.aload_n 0, 1) := by decide +kernel
theorem dX6_init_22 : decode cX6_init 22 = .ok (.sipush 238, 3) := by decide +kernel
theorem dX6_init_25 : decode cX6_init 25 = .ok (.newarray .int, 2) := by decide +kernel
theorem dX6_init_27 : decode cX6_init 27 = .ok (.putfield 16, 3) := by decide +kernel
theorem dX6_init_30 : decode cX6_init 30 = .ok (.aload_n 0, 1) := by decide +kernel
theorem dX6_init_31 : decode cX6_init 31 = .ok (.iconst 2, 1) := by decide +kernel
theorem dX6_init_32 : decode cX6_init 32 = .ok (.newarray .boolean, 2) := by decide +kernel
theorem dX6_init_34 : decode cX6_init 34 = .ok (.putfield 19, 3) := by decide +kernel
theorem dX6_init_37 : decode cX6_init 37 = .ok (.aload_n 0, 1) := by decide +kernel
theorem dX6_init_38 : decode cX6_init 38 = .ok (.bipush 119, 2) := by decide +kernel
theorem dX6_init_40 : decode cX6_init 40 = .ok (.newarray .int, 2) := by decide +kernel
theorem dX6_init_42 : decode cX6_init 42 = .ok (.putfield 23, 3) := by decide +kernel
theorem dX6_init_45 : decode cX6_init 45 = .ok (.aload_n 0, 1) := by decide +kernel
theorem dX6_init_46 : decode cX6_init 46 = .ok (.bipush 60, 2) := by decide +kernel
theorem dX6_init_48 : decode cX6_init 48 = .ok (.newarray .int, 2) := by decide +kernel
theorem dX6_init_50 : decode cX6_init 50 = .ok (.putfield 26, 3) := by decide +kernel
theorem dX6_init_53 : decode cX6_init 53 = .ok (.aload_n 0, 1) := by decide +kernel
theorem dX6_init_54 : decode cX6_init 54 = .ok (.bipush 110, 2) := by decide +kernel
theorem dX6_init_56 : decode cX6_init 56 = .ok (.newarray .int, 2) := by decide +kernel
theorem dX6_init_58 : decode cX6_init 58 = .ok (.putfield 29, 3) := by decide +kernel
theorem dX6_init_61 : decode cX6_init 61 = .ok (.aload_n 0, 1) := by decide +kernel
theorem dX6_init_62 : decode cX6_init 62 = .ok (.getfield 7, 3) := by decide +kernel
theorem dX6_init_65 : decode cX6_init 65 = .ok (.iconst 0, 1) := by decide +kernel
theorem dX6_init_66 : decode cX6_init 66 = .ok (.iconst 2, 1) := by decide +kernel
theorem dX6_init_67 : decode cX6_init 67 = .ok (.iastore, 1) := by decide +kernel
theorem dX6_init_68 : decode cX6_init 68 = .ok (.aload_n 0, 1) := by decide +kernel
theorem dX6_init_69 : decode cX6_init 69 = .ok (.getfield 7, 3) := by decide +kernel
theorem dX6_init_72 : decode cX6_init 72 = .ok (.iconst 2, 1) := by decide +kernel
theorem dX6_init_73 : decode cX6_init 73 = .ok (.iconst 3, 1) := by decide +kernel
theorem dX6_init_74 : decode cX6_init 74 = .ok (.iastore, 1) := by decide +kernel
theorem dX6_init_75 : decode cX6_init 75 = .ok (.iconst 0, 1) := by decide +kernel
theorem dX6_init_76 : decode cX6_init 76 = .ok (.istore_n 1, 1) := by decide +kernel
theorem dX6_init_77 : decode cX6_init 77 = .ok (.iload_n 1, 1) := by decide +kernel
theorem dX6_init_78 : decode cX6_init 78 = .ok (.iconst 4, 1) := by decide +kernel
theorem dX6_init_79 : decode cX6_init 79 = .ok (.if_icmp .ge 25, 3) := by decide +kernel
theorem dX6_init_82 : decode cX6_init 82 = .ok (.aload_n 0, 1) := by decide +kernel
theorem dX6_init_83 : decode cX6_init 83 = .ok (.iload_n 1, 1) := by decide +kernel
theorem dX6_init_84 : decode cX6_init 84 = .ok (.iconst 0, 1) := by decide +kernel
theorem dX6_init_85 : decode cX6_init 85 = .ok (.sipush 200, 3) := by decide +kernel
theorem dX6_init_88 : decode cX6_init 88 = .ok (.invokevirtual 32, 3) := by decide +kernel
theorem dX6_init_91 : decode cX6_init 91 = .ok (.aload_n 0, 1) := by decide +kernel
theorem dX6_init_92 : decode cX6_init 92 = .ok (.iload_n 1, 1) := by decide +kernel
theorem dX6_init_93 : decode cX6_init 93 = .ok (.iconst 1, 1) := by decide +kernel
theorem dX6_init_94 : decode cX6_init 94 = .ok (.iconst 1, 1) := by decide +kernel
theorem dX6_init_95 : decode cX6_init 95 = .ok (.invokevirtual 32, 3) := by decide +kernel
theorem dX6_init_98 : decode cX6_init 98 = .ok (.iinc 1 1, 3) := by decide +kernel
theorem dX6_init_101 : decode cX6_init 101 = .ok (.goto (-24), 3) := by decide +kernel
theorem dX6_init_104 : decode cX6_init 104 = .ok (.return_, 1) := by decide +kernel
theorem dX6_thrown_0 : decode cX6_thrown 0 = .ok (.aload_n 0, 1) := by decide +kernel
theorem dX6_thrown_1 : decode cX6_thrown 1 = .ok (.getfield 36, 3) := by decide +kernel
theorem dX6_thrown_4 : decode cX6_thrown 4 = .ok (.ireturn, 1) := by decide +kernel
theorem dX6_in_0 : decode cX6_in 0 = .ok (.iload_n 0, 1) := by decide +kernel
theorem dX6_in_1 : decode cX6_in 1 = .ok (.iload_n 1, 1) := by decide +kernel
theorem dX6_in_2 : decode cX6_in 2 = .ok (.if_icmp .lt 12, 3) := by decide +kernel
theorem dX6_in_5 : decode cX6_in 5 = .ok (.iload_n 0, 1) := by decide +kernel
theorem dX6_in_6 : decode cX6_in 6 = .ok (.iload_n 2, 1) := by decide +kernel
theorem dX6_in_7 : decode cX6_in 7 = .ok (.if_icmp .gt 7, 3) := by decide +kernel
theorem dX6_in_10 : decode cX6_in 10 = .ok (.iconst 1, 1) := by decide +kernel
theorem dX6_in_11 : decode cX6_in 11 = .ok (.goto 4, 3) := by decide +kernel
theorem dX6_in_14 : decode cX6_in 14 = .ok (.iconst 0, 1) := by decide +kernel
theorem dX6_in_15 : decode cX6_in 15 = .ok (.ireturn, 1) := by decide +kernel
theorem dX6_isBreaker_0 : decode cX6_isBreaker 0 = .ok (.iload_n 0, 1) := by decide +kernel
theorem dX6_isBreaker_1 : decode cX6_isBreaker 1 = .ok (.iconst 0, 1) := by decide +kernel
theorem dX6_isBreaker_2 : decode cX6_isBreaker 2 = .ok (.iconst 3, 1) := by decide +kernel
theorem dX6_isBreaker_3 : decode cX6_isBreaker 3 = .ok (.invokestatic 40, 3) := by decide +kernel
theorem dX6_isBreaker_6 : decode cX6_isBreaker 6 = .ok (.ireturn, 1) := by decide +kernel
theorem dX6_isSocket_0 : decode cX6_isSocket 0 = .ok (.iload_n 0, 1) := by decide +kernel
theorem dX6_isSocket_1 : decode cX6_isSocket 1 = .ok (.iconst 0, 1) := by decide +kernel
theorem dX6_isSocket_2 : decode cX6_isSocket 2 = .ok (.bipush 11, 2) := by decide +kernel
theorem dX6_isSocket_4 : decode cX6_isSocket 4 = .ok (.invokestatic 40, 3) := by decide +kernel
theorem dX6_isSocket_7 : decode cX6_isSocket 7 = .ok (.ireturn, 1) := by decide +kernel
theorem dX6_isStall_0 : decode cX6_isStall 0 = .ok (.iload_n 1, 1) := by decide +kernel
theorem dX6_isStall_1 : decode cX6_isStall 1 = .ok (.ifCond .lt 17, 3) := by decide +kernel
theorem dX6_isStall_4 : decode cX6_isStall 4 = .ok (.iload_n 1, 1) := by decide +kernel
theorem dX6_isStall_5 : decode cX6_isStall 5 = .ok (.aload_n 0, 1) := by decide +kernel
theorem dX6_isStall_6 : decode cX6_isStall 6 = .ok (.getfield 7, 3) := by decide +kernel
theorem dX6_isStall_9 : decode cX6_isStall 9 = .ok (.iconst 4, 1) := by decide +kernel
theorem dX6_isStall_10 : decode cX6_isStall 10 = .ok (.iaload, 1) := by decide +kernel
theorem dX6_isStall_11 : decode cX6_isStall 11 = .ok (.if_icmp .ge 7, 3) := by decide +kernel
theorem dX6_isStall_14 : decode cX6_isStall 14 = .ok (.iconst 1, 1) := by decide +kernel
theorem dX6_isStall_15 : decode cX6_isStall 15 = .ok (.goto 4, 3) := by decide +kernel
theorem dX6_isStall_18 : decode cX6_isStall 18 = .ok (.iconst 0, 1) := by decide +kernel
theorem dX6_isStall_19 : decode cX6_isStall 19 = .ok (.ireturn, 1) := by decide +kernel
theorem dX6_by_0 : decode cX6_by 0 = .ok (.aload_n 0, 1) := by decide +kernel
theorem dX6_by_1 : decode cX6_by 1 = .ok (.getfield 7, 3) := by decide +kernel
theorem dX6_by_4 : decode cX6_by 4 = .ok (.bipush 7, 2) := by decide +kernel
theorem dX6_by_6 : decode cX6_by 6 = .ok (.iconst 5, 1) := by decide +kernel
theorem dX6_by_7 : decode cX6_by 7 = .ok (.iload_n 1, 1) := by decide +kernel
theorem dX6_by_8 : decode cX6_by 8 = .ok (.imul, 1) := by decide +kernel
theorem dX6_by_9 : decode cX6_by 9 = .ok (.iadd, 1) := by decide +kernel
theorem dX6_by_10 : decode cX6_by 10 = .ok (.iload_n 2, 1) := by decide +kernel
theorem dX6_by_11 : decode cX6_by 11 = .ok (.iadd, 1) := by decide +kernel
theorem dX6_by_12 : decode cX6_by 12 = .ok (.iaload, 1) := by decide +kernel
theorem dX6_by_13 : decode cX6_by 13 = .ok (.ireturn, 1) := by decide +kernel
theorem dX6_put_0 : decode cX6_put 0 = .ok (.aload_n 0, 1) := by decide +kernel
theorem dX6_put_1 : decode cX6_put 1 = .ok (.getfield 7, 3) := by decide +kernel
theorem dX6_put_4 : decode cX6_put 4 = .ok (.bipush 7, 2) := by decide +kernel
theorem dX6_put_6 : decode cX6_put 6 = .ok (.iconst 5, 1) := by decide +kernel
theorem dX6_put_7 : decode cX6_put 7 = .ok (.iload_n 1, 1) := by decide +kernel
theorem dX6_put_8 : decode cX6_put 8 = .ok (.imul, 1) := by decide +kernel
theorem dX6_put_9 : decode cX6_put 9 = .ok (.iadd, 1) := by decide +kernel
theorem dX6_put_10 : decode cX6_put 10 = .ok (.iload_n 2, 1) := by decide +kernel
theorem dX6_put_11 : decode cX6_put 11 = .ok (.iadd, 1) := by decide +kernel
theorem dX6_put_12 : decode cX6_put 12 = .ok (.iload_n 3, 1) := by decide +kernel
theorem dX6_put_13 : decode cX6_put 13 = .ok (.iastore, 1) := by decide +kernel
theorem dX6_put_14 : decode cX6_put 14 = .ok (.return_, 1) := by decide +kernel
theorem dX6_of_0 : decode cX6_of 0 = .ok (.aload_n 0, 1) := by decide +kernel
theorem dX6_of_1 : decode cX6_of 1 = .ok (.getfield 7, 3) := by decide +kernel
theorem dX6_of_4 : decode cX6_of 4 = .ok (.bipush 39, 2) := by decide +kernel
theorem dX6_of_6 : decode cX6_of 6 = .ok (.bipush 8, 2) := by decide +kernel
theorem dX6_of_8 : decode cX6_of 8 = .ok (.iload_n 1, 1) := by decide +kernel
theorem dX6_of_9 : decode cX6_of 9 = .ok (.imul, 1) := by decide +kernel
theorem dX6_of_10 : decode cX6_of 10 = .ok (.iadd, 1) := by decide +kernel
theorem dX6_of_11 : decode cX6_of 11 = .ok (.iload_n 2, 1) := by decide +kernel
theorem dX6_of_12 : decode cX6_of 12 = .ok (.iadd, 1) := by decide +kernel
theorem dX6_of_13 : decode cX6_of 13 = .ok (.iaload, 1) := by decide +kernel
theorem dX6_of_14 : decode cX6_of 14 = .ok (.ireturn, 1) := by decide +kernel
theorem dX6_lay_0 : decode cX6_lay 0 = .ok (.aload_n 0, 1) := by decide +kernel
theorem dX6_lay_1 : decode cX6_lay 1 = .ok (.getfield 7, 3) := by decide +kernel
theorem dX6_lay_4 : decode cX6_lay 4 = .ok (.bipush 39, 2) := by decide +kernel
theorem dX6_lay_6 : decode cX6_lay 6 = .ok (.bipush 8, 2) := by decide +kernel
theorem dX6_lay_8 : decode cX6_lay 8 = .ok (.iload_n 1, 1) := by decide +kernel
theorem dX6_lay_9 : decode cX6_lay 9 = .ok (.imul, 1) := by decide +kernel
theorem dX6_lay_10 : decode cX6_lay 10 = .ok (.iadd, 1) := by decide +kernel
theorem dX6_lay_11 : decode cX6_lay 11 = .ok (.iload_n 2, 1) := by decide +kernel
theorem dX6_lay_12 : decode cX6_lay 12 = .ok (.iadd, 1) := by decide +kernel
theorem dX6_lay_13 : decode cX6_lay 13 = .ok (.iload_n 3, 1) := by decide +kernel
theorem dX6_lay_14 : decode cX6_lay 14 = .ok (.iastore, 1) := by decide +kernel
theorem dX6_lay_15 : decode cX6_lay 15 = .ok (.return_, 1) := by decide +kernel
theorem dX6_save_0 : decode cX6_save 0 = .ok (.aload_n 0, 1) := by decide +kernel
theorem dX6_save_1 : decode cX6_save 1 = .ok (.getfield 44, 3) := by decide +kernel
theorem dX6_save_4 : decode cX6_save 4 = .ok (.bipush 6, 2) := by decide +kernel
theorem dX6_save_6 : decode cX6_save 6 = .ok (.if_icmp .ne 43, 3) := by decide +kernel
theorem dX6_save_9 : decode cX6_save 9 = .ok (.iconst 0, 1) := by decide +kernel
theorem dX6_save_10 : decode cX6_save 10 = .ok (.istore_n 1, 1) := by decide +kernel
theorem dX6_save_11 : decode cX6_save 11 = .ok (.iload_n 1, 1) := by decide +kernel
theorem dX6_save_12 : decode cX6_save 12 = .ok (.sipush 595, 3) := by decide +kernel
theorem dX6_save_15 : decode cX6_save 15 = .ok (.if_icmp .ge 24, 3) := by decide +kernel
theorem dX6_save_18 : decode cX6_save 18 = .ok (.aload_n 0, 1) := by decide +kernel
theorem dX6_save_19 : decode cX6_save 19 = .ok (.getfield 13, 3) := by decide +kernel
theorem dX6_save_22 : decode cX6_save 22 = .ok (.iload_n 1, 1) := by decide +kernel
theorem dX6_save_23 : decode cX6_save 23 = .ok (.aload_n 0, 1) := by decide +kernel
theorem dX6_save_24 : decode cX6_save 24 = .ok (.getfield 13, 3) := by decide +kernel
theorem dX6_save_27 : decode cX6_save 27 = .ok (.iload_n 1, 1) := by decide +kernel
theorem dX6_save_28 : decode cX6_save 28 = .ok (.bipush 119, 2) := by decide +kernel
theorem dX6_save_30 : decode cX6_save 30 = .ok (.iadd, 1) := by decide +kernel
theorem dX6_save_31 : decode cX6_save 31 = .ok (.iaload, 1) := by decide +kernel
theorem dX6_save_32 : decode cX6_save 32 = .ok (.iastore, 1) := by decide +kernel
theorem dX6_save_33 : decode cX6_save 33 = .ok (.iinc 1 1, 3) := by decide +kernel
theorem dX6_save_36 : decode cX6_save 36 = .ok (.goto (-25), 3) := by decide +kernel
theorem dX6_save_39 : decode cX6_save 39 = .ok (.aload_n 0, 1) := by decide +kernel
theorem dX6_save_40 : decode cX6_save 40 = .ok (.dup, 1) := by decide +kernel
theorem dX6_save_41 : decode cX6_save 41 = .ok (.getfield 44, 3) := by decide +kernel
theorem dX6_save_44 : decode cX6_save 44 = .ok (.iconst 1, 1) := by decide +kernel
theorem dX6_save_45 : decode cX6_save 45 = .ok (.isub, 1) := by decide +kernel
theorem dX6_save_46 : decode cX6_save 46 = .ok (.putfield 44, 3) := by decide +kernel
theorem dX6_save_49 : decode cX6_save 49 = .ok (.iconst 0, 1) := by decide +kernel
theorem dX6_save_50 : decode cX6_save 50 = .ok (.istore_n 1, 1) := by decide +kernel
theorem dX6_save_51 : decode cX6_save 51 = .ok (.iload_n 1, 1) := by decide +kernel
theorem dX6_save_52 : decode cX6_save 52 = .ok (.bipush 119, 2) := by decide +kernel
theorem dX6_save_54 : decode cX6_save 54 = .ok (.if_icmp .ge 29, 3) := by decide +kernel
theorem dX6_save_57 : decode cX6_save 57 = .ok (.aload_n 0, 1) := by decide +kernel
theorem dX6_save_58 : decode cX6_save 58 = .ok (.getfield 13, 3) := by decide +kernel
theorem dX6_save_61 : decode cX6_save 61 = .ok (.aload_n 0, 1) := by decide +kernel
theorem dX6_save_62 : decode cX6_save 62 = .ok (.getfield 44, 3) := by decide +kernel
theorem dX6_save_65 : decode cX6_save 65 = .ok (.bipush 119, 2) := by decide +kernel
theorem dX6_save_67 : decode cX6_save 67 = .ok (.imul, 1) := by decide +kernel
theorem dX6_save_68 : decode cX6_save 68 = .ok (.iload_n 1, 1) := by decide +kernel
theorem dX6_save_69 : decode cX6_save 69 = .ok (.iadd, 1) := by decide +kernel
theorem dX6_save_70 : decode cX6_save 70 = .ok (.aload_n 0, 1) := by decide +kernel
theorem dX6_save_71 : decode cX6_save 71 = .ok (.getfield 7, 3) := by decide +kernel
theorem dX6_save_74 : decode cX6_save 74 = .ok (.iload_n 1, 1) := by decide +kernel
theorem dX6_save_75 : decode cX6_save 75 = .ok (.iaload, 1) := by decide +kernel
theorem dX6_save_76 : decode cX6_save 76 = .ok (.iastore, 1) := by decide +kernel
theorem dX6_save_77 : decode cX6_save 77 = .ok (.iinc 1 1, 3) := by decide +kernel
theorem dX6_save_80 : decode cX6_save 80 = .ok (.goto (-29), 3) := by decide +kernel
theorem dX6_save_83 : decode cX6_save 83 = .ok (.aload_n 0, 1) := by decide +kernel
theorem dX6_save_84 : decode cX6_save 84 = .ok (.dup, 1) := by decide +kernel
theorem dX6_save_85 : decode cX6_save 85 = .ok (.getfield 44, 3) := by decide +kernel
theorem dX6_save_88 : decode cX6_save 88 = .ok (.iconst 1, 1) := by decide +kernel
theorem dX6_save_89 : decode cX6_save 89 = .ok (.iadd, 1) := by decide +kernel
theorem dX6_save_90 : decode cX6_save 90 = .ok (.putfield 44, 3) := by decide +kernel
theorem dX6_save_93 : decode cX6_save 93 = .ok (.return_, 1) := by decide +kernel
theorem dX6_undo_0 : decode cX6_undo 0 = .ok (.aload_n 0, 1) := by decide +kernel
theorem dX6_undo_1 : decode cX6_undo 1 = .ok (.aload_n 0, 1) := by decide +kernel
theorem dX6_undo_2 : decode cX6_undo 2 = .ok (.getfield 44, 3) := by decide +kernel
theorem dX6_undo_5 : decode cX6_undo 5 = .ok (.ifCond .ne 7, 3) := by decide +kernel
theorem dX6_undo_8 : decode cX6_undo 8 = .ok (.iconst 1, 1) := by decide +kernel
theorem dX6_undo_9 : decode cX6_undo 9 = .ok (.goto 4, 3) := by decide +kernel
theorem dX6_undo_12 : decode cX6_undo 12 = .ok (.iconst 0, 1) := by decide +kernel
theorem dX6_undo_13 : decode cX6_undo 13 = .ok (.putfield 36, 3) := by decide +kernel
theorem dX6_undo_16 : decode cX6_undo 16 = .ok (.aload_n 0, 1) := by decide +kernel
theorem dX6_undo_17 : decode cX6_undo 17 = .ok (.getfield 36, 3) := by decide +kernel
theorem dX6_undo_20 : decode cX6_undo 20 = .ok (.ifCond .le 5, 3) := by decide +kernel
theorem dX6_undo_23 : decode cX6_undo 23 = .ok (.iconst 0, 1) := by decide +kernel
theorem dX6_undo_24 : decode cX6_undo 24 = .ok (.ireturn, 1) := by decide +kernel
theorem dX6_undo_25 : decode cX6_undo 25 = .ok (.aload_n 0, 1) := by decide +kernel
theorem dX6_undo_26 : decode cX6_undo 26 = .ok (.dup, 1) := by decide +kernel
theorem dX6_undo_27 : decode cX6_undo 27 = .ok (.getfield 44, 3) := by decide +kernel
theorem dX6_undo_30 : decode cX6_undo 30 = .ok (.iconst 1, 1) := by decide +kernel
theorem dX6_undo_31 : decode cX6_undo 31 = .ok (.isub, 1) := by decide +kernel
theorem dX6_undo_32 : decode cX6_undo 32 = .ok (.putfield 44, 3) := by decide +kernel
theorem dX6_undo_35 : decode cX6_undo 35 = .ok (.iconst 0, 1) := by decide +kernel
theorem dX6_undo_36 : decode cX6_undo 36 = .ok (.istore_n 1, 1) := by decide +kernel
theorem dX6_undo_37 : decode cX6_undo 37 = .ok (.iload_n 1, 1) := by decide +kernel
theorem dX6_undo_38 : decode cX6_undo 38 = .ok (.bipush 119, 2) := by decide +kernel
theorem dX6_undo_40 : decode cX6_undo 40 = .ok (.if_icmp .ge 29, 3) := by decide +kernel
theorem dX6_undo_43 : decode cX6_undo 43 = .ok (.aload_n 0, 1) := by decide +kernel
theorem dX6_undo_44 : decode cX6_undo 44 = .ok (.getfield 7, 3) := by decide +kernel
theorem dX6_undo_47 : decode cX6_undo 47 = .ok (.iload_n 1, 1) := by decide +kernel
theorem dX6_undo_48 : decode cX6_undo 48 = .ok (.aload_n 0, 1) := by decide +kernel
theorem dX6_undo_49 : decode cX6_undo 49 = .ok (.getfield 13, 3) := by decide +kernel
theorem dX6_undo_52 : decode cX6_undo 52 = .ok (.aload_n 0, 1) := by decide +kernel
theorem dX6_undo_53 : decode cX6_undo 53 = .ok (.getfield 44, 3) := by decide +kernel
theorem dX6_undo_56 : decode cX6_undo 56 = .ok (.bipush 119, 2) := by decide +kernel
theorem dX6_undo_58 : decode cX6_undo 58 = .ok (.imul, 1) := by decide +kernel
theorem dX6_undo_59 : decode cX6_undo 59 = .ok (.iload_n 1, 1) := by decide +kernel
theorem dX6_undo_60 : decode cX6_undo 60 = .ok (.iadd, 1) := by decide +kernel
theorem dX6_undo_61 : decode cX6_undo 61 = .ok (.iaload, 1) := by decide +kernel
theorem dX6_undo_62 : decode cX6_undo 62 = .ok (.iastore, 1) := by decide +kernel
theorem dX6_undo_63 : decode cX6_undo 63 = .ok (.iinc 1 1, 3) := by decide +kernel
theorem dX6_undo_66 : decode cX6_undo 66 = .ok (.goto (-29), 3) := by decide +kernel
theorem dX6_undo_69 : decode cX6_undo 69 = .ok (.aload_n 0, 1) := by decide +kernel
theorem dX6_undo_70 : decode cX6_undo 70 = .ok (.getfield 44, 3) := by decide +kernel
theorem dX6_undo_73 : decode cX6_undo 73 = .ok (.ireturn, 1) := by decide +kernel
theorem dX6_putAside_0 : decode cX6_putAside 0 = .ok (.iconst 0, 1) := by decide +kernel
theorem dX6_putAside_1 : decode cX6_putAside 1 = .ok (.istore_n 1, 1) := by decide +kernel
theorem dX6_putAside_2 : decode cX6_putAside 2 = .ok (.iload_n 1, 1) := by decide +kernel
theorem dX6_putAside_3 : decode cX6_putAside 3 = .ok (.bipush 119, 2) := by decide +kernel
theorem dX6_putAside_5 : decode cX6_putAside 5 = .ok (.if_icmp .ge 21, 3) := by decide +kernel
theorem dX6_putAside_8 : decode cX6_putAside 8 = .ok (.aload_n 0, 1) := by decide +kernel
theorem dX6_putAside_9 : decode cX6_putAside 9 = .ok (.getfield 23, 3) := by decide +kernel
theorem dX6_putAside_12 : decode cX6_putAside 12 = .ok (.iload_n 1, 1) := by decide +kernel
theorem dX6_putAside_13 : decode cX6_putAside 13 = .ok (.aload_n 0, 1) := by decide +kernel
theorem dX6_putAside_14 : decode cX6_putAside 14 = .ok (.getfield 7, 3) := by decide +kernel
theorem dX6_putAside_17 : decode cX6_putAside 17 = .ok (.iload_n 1, 1) := by decide +kernel
theorem dX6_putAside_18 : decode cX6_putAside 18 = .ok (.iaload, 1) := by decide +kernel
theorem dX6_putAside_19 : decode cX6_putAside 19 = .ok (.iastore, 1) := by decide +kernel
theorem dX6_putAside_20 : decode cX6_putAside 20 = .ok (.iinc 1 1, 3) := by decide +kernel
theorem dX6_putAside_23 : decode cX6_putAside 23 = .ok (.goto (-21), 3) := by decide +kernel
theorem dX6_putAside_26 : decode cX6_putAside 26 = .ok (.return_, 1) := by decide +kernel
theorem dX6_bringBack_0 : decode cX6_bringBack 0 = .ok (.iconst 0, 1) := by decide +kernel
theorem dX6_bringBack_1 : decode cX6_bringBack 1 = .ok (.istore_n 1, 1) := by decide +kernel
theorem dX6_bringBack_2 : decode cX6_bringBack 2 = .ok (.iload_n 1, 1) := by decide +kernel
theorem dX6_bringBack_3 : decode cX6_bringBack 3 = .ok (.bipush 119, 2) := by decide +kernel
theorem dX6_bringBack_5 : decode cX6_bringBack 5 = .ok (.if_icmp .ge 21, 3) := by decide +kernel
theorem dX6_bringBack_8 : decode cX6_bringBack 8 = .ok (.aload_n 0, 1) := by decide +kernel
theorem dX6_bringBack_9 : decode cX6_bringBack 9 = .ok (.getfield 7, 3) := by decide +kernel
theorem dX6_bringBack_12 : decode cX6_bringBack 12 = .ok (.iload_n 1, 1) := by decide +kernel
theorem dX6_bringBack_13 : decode cX6_bringBack 13 = .ok (.aload_n 0, 1) := by decide +kernel
theorem dX6_bringBack_14 : decode cX6_bringBack 14 = .ok (.getfield 23, 3) := by decide +kernel
theorem dX6_bringBack_17 : decode cX6_bringBack 17 = .ok (.iload_n 1, 1) := by decide +kernel
theorem dX6_bringBack_18 : decode cX6_bringBack 18 = .ok (.iaload, 1) := by decide +kernel
theorem dX6_bringBack_19 : decode cX6_bringBack 19 = .ok (.iastore, 1) := by decide +kernel
theorem dX6_bringBack_20 : decode cX6_bringBack 20 = .ok (.iinc 1 1, 3) := by decide +kernel
theorem dX6_bringBack_23 : decode cX6_bringBack 23 = .ok (.goto (-21), 3) := by decide +kernel
theorem dX6_bringBack_26 : decode cX6_bringBack 26 = .ok (.return_, 1) := by decide +kernel
theorem dX6_breakerOf_0 : decode cX6_breakerOf 0 = .ok (.aload_n 0, 1) := by decide +kernel
theorem dX6_breakerOf_1 : decode cX6_breakerOf 1 = .ok (.getfield 7, 3) := by decide +kernel
theorem dX6_breakerOf_4 : decode cX6_breakerOf 4 = .ok (.bipush 27, 2) := by decide +kernel
theorem dX6_breakerOf_6 : decode cX6_breakerOf 6 = .ok (.iload_n 1, 1) := by decide +kernel
theorem dX6_breakerOf_7 : decode cX6_breakerOf 7 = .ok (.iadd, 1) := by decide +kernel
theorem dX6_breakerOf_8 : decode cX6_breakerOf 8 = .ok (.iaload, 1) := by decide +kernel
theorem dX6_breakerOf_9 : decode cX6_breakerOf 9 = .ok (.iconst 1, 1) := by decide +kernel
theorem dX6_breakerOf_10 : decode cX6_breakerOf 10 = .ok (.if_icmp .ne 7, 3) := by decide +kernel
theorem dX6_breakerOf_13 : decode cX6_breakerOf 13 = .ok (.iconst 3, 1) := by decide +kernel
theorem dX6_breakerOf_14 : decode cX6_breakerOf 14 = .ok (.goto 6, 3) := by decide +kernel
theorem dX6_breakerOf_17 : decode cX6_breakerOf 17 = .ok (.iload_n 1, 1) := by decide +kernel
theorem dX6_breakerOf_18 : decode cX6_breakerOf 18 = .ok (.iconst 3, 1) := by decide +kernel
theorem dX6_breakerOf_19 : decode cX6_breakerOf 19 = .ok (.idiv, 1) := by decide +kernel
theorem dX6_breakerOf_20 : decode cX6_breakerOf 20 = .ok (.ireturn, 1) := by decide +kernel
theorem dX6_wantsLoad_0 : decode cX6_wantsLoad 0 = .ok (.aload_n 0, 1) := by decide +kernel
theorem dX6_wantsLoad_1 : decode cX6_wantsLoad 1 = .ok (.getfield 7, 3) := by decide +kernel
theorem dX6_wantsLoad_4 : decode cX6_wantsLoad 4 = .ok (.iconst 3, 1) := by decide +kernel
theorem dX6_wantsLoad_5 : decode cX6_wantsLoad 5 = .ok (.iaload, 1) := by decide +kernel
theorem dX6_wantsLoad_6 : decode cX6_wantsLoad 6 = .ok (.bipush 24, 2) := by decide +kernel
theorem dX6_wantsLoad_8 : decode cX6_wantsLoad 8 = .ok (.irem, 1) := by decide +kernel
theorem dX6_wantsLoad_9 : decode cX6_wantsLoad 9 = .ok (.istore_n 2, 1) := by decide +kernel
theorem dX6_wantsLoad_10 : decode cX6_wantsLoad 10 = .ok (.aload_n 0, 1) := by decide +kernel
theorem dX6_wantsLoad_11 : decode cX6_wantsLoad 11 = .ok (.iload_n 1, 1) := by decide +kernel
theorem dX6_wantsLoad_12 : decode cX6_wantsLoad 12 = .ok (.iconst 1, 1) := by decide +kernel
theorem dX6_wantsLoad_13 : decode cX6_wantsLoad 13 = .ok (.invokevirtual 47, 3) := by decide +kernel
theorem dX6_wantsLoad_16 : decode cX6_wantsLoad 16 = .ok (.istore_n 3, 1) := by decide +kernel
theorem dX6_wantsLoad_17 : decode cX6_wantsLoad 17 = .ok (.aload_n 0, 1) := by decide +kernel
theorem dX6_wantsLoad_18 : decode cX6_wantsLoad 18 = .ok (.iload_n 1, 1) := by decide +kernel
theorem dX6_wantsLoad_19 : decode cX6_wantsLoad 19 = .ok (.iconst 2, 1) := by decide +kernel
theorem dX6_wantsLoad_20 : decode cX6_wantsLoad 20 = .ok (.invokevirtual 47, 3) := by decide +kernel
theorem dX6_wantsLoad_23 : decode cX6_wantsLoad 23 = .ok (.istore 4, 2) := by decide +kernel
theorem dX6_wantsLoad_25 : decode cX6_wantsLoad 25 = .ok (.iload_n 3, 1) := by decide +kernel
theorem dX6_wantsLoad_26 : decode cX6_wantsLoad 26 = .ok (.iload 4, 2) := by decide +kernel
theorem dX6_wantsLoad_28 : decode cX6_wantsLoad 28 = .ok (.if_icmp .gt 22, 3) := by decide +kernel
theorem dX6_wantsLoad_31 : decode cX6_wantsLoad 31 = .ok (.iload_n 2, 1) := by decide +kernel
theorem dX6_wantsLoad_32 : decode cX6_wantsLoad 32 = .ok (.iload_n 3, 1) := by decide +kernel
theorem dX6_wantsLoad_33 : decode cX6_wantsLoad 33 = .ok (.if_icmp .lt 13, 3) := by decide +kernel
theorem dX6_wantsLoad_36 : decode cX6_wantsLoad 36 = .ok (.iload_n 2, 1) := by decide +kernel
theorem dX6_wantsLoad_37 : decode cX6_wantsLoad 37 = .ok (.iload 4, 2) := by decide +kernel
theorem dX6_wantsLoad_39 : decode cX6_wantsLoad 39 = .ok (.if_icmp .gt 7, 3) := by decide +kernel
theorem dX6_wantsLoad_42 : decode cX6_wantsLoad 42 = .ok (.iconst 1, 1) := by decide +kernel
theorem dX6_wantsLoad_43 : decode cX6_wantsLoad 43 = .ok (.goto 23, 3) := by decide +kernel
theorem dX6_wantsLoad_46 : decode cX6_wantsLoad 46 = .ok (.iconst 0, 1) := by decide +kernel
theorem dX6_wantsLoad_47 : decode cX6_wantsLoad 47 = .ok (.goto 19, 3) := by decide +kernel
theorem dX6_wantsLoad_50 : decode cX6_wantsLoad 50 = .ok (.iload_n 2, 1) := by decide +kernel
theorem dX6_wantsLoad_51 : decode cX6_wantsLoad 51 = .ok (.iload_n 3, 1) := by decide +kernel
theorem dX6_wantsLoad_52 : decode cX6_wantsLoad 52 = .ok (.if_icmp .ge 9, 3) := by decide +kernel
theorem dX6_wantsLoad_55 : decode cX6_wantsLoad 55 = .ok (.iload_n 2, 1) := by decide +kernel
theorem dX6_wantsLoad_56 : decode cX6_wantsLoad 56 = .ok (.iload 4, 2) := by decide +kernel
theorem dX6_wantsLoad_58 : decode cX6_wantsLoad 58 = .ok (.if_icmp .gt 7, 3) := by decide +kernel
theorem dX6_wantsLoad_61 : decode cX6_wantsLoad 61 = .ok (.iconst 1, 1) := by decide +kernel
theorem dX6_wantsLoad_62 : decode cX6_wantsLoad 62 = .ok (.goto 4, 3) := by decide +kernel
theorem dX6_wantsLoad_65 : decode cX6_wantsLoad 65 = .ok (.iconst 0, 1) := by decide +kernel
theorem dX6_wantsLoad_66 : decode cX6_wantsLoad 66 = .ok (.ireturn, 1) := by decide +kernel
theorem dX6_reason_0 : decode cX6_reason 0 = .ok (.aload_n 0, 1) := by decide +kernel
theorem dX6_reason_1 : decode cX6_reason 1 = .ok (.iload_n 1, 1) := by decide +kernel
theorem dX6_reason_2 : decode cX6_reason 2 = .ok (.invokevirtual 51, 3) := by decide +kernel
theorem dX6_reason_5 : decode cX6_reason 5 = .ok (.ifCond .ne 5, 3) := by decide +kernel
theorem dX6_reason_8 : decode cX6_reason 8 = .ok (.iconst 1, 1) := by decide +kernel
theorem dX6_reason_9 : decode cX6_reason 9 = .ok (.ireturn, 1) := by decide +kernel
theorem dX6_reason_10 : decode cX6_reason 10 = .ok (.aload_n 0, 1) := by decide +kernel
theorem dX6_reason_11 : decode cX6_reason 11 = .ok (.iload_n 1, 1) := by decide +kernel
theorem dX6_reason_12 : decode cX6_reason 12 = .ok (.iconst 4, 1) := by decide +kernel
theorem dX6_reason_13 : decode cX6_reason 13 = .ok (.invokevirtual 47, 3) := by decide +kernel
theorem dX6_reason_16 : decode cX6_reason 16 = .ok (.iconst (-1), 1) := by decide +kernel
theorem dX6_reason_17 : decode cX6_reason 17 = .ok (.if_icmp .ne 5, 3) := by decide +kernel
theorem dX6_reason_20 : decode cX6_reason 20 = .ok (.iconst 2, 1) := by decide +kernel
theorem dX6_reason_21 : decode cX6_reason 21 = .ok (.ireturn, 1) := by decide +kernel
theorem dX6_reason_22 : decode cX6_reason 22 = .ok (.aload_n 0, 1) := by decide +kernel
theorem dX6_reason_23 : decode cX6_reason 23 = .ok (.aload_n 0, 1) := by decide +kernel
theorem dX6_reason_24 : decode cX6_reason 24 = .ok (.aload_n 0, 1) := by decide +kernel
theorem dX6_reason_25 : decode cX6_reason 25 = .ok (.iload_n 1, 1) := by decide +kernel
theorem dX6_reason_26 : decode cX6_reason 26 = .ok (.iconst 4, 1) := by decide +kernel
theorem dX6_reason_27 : decode cX6_reason 27 = .ok (.invokevirtual 47, 3) := by decide +kernel
theorem dX6_reason_30 : decode cX6_reason 30 = .ok (.invokevirtual 55, 3) := by decide +kernel
theorem dX6_reason_33 : decode cX6_reason 33 = .ok (.iconst 1, 1) := by decide +kernel
theorem dX6_reason_34 : decode cX6_reason 34 = .ok (.invokevirtual 59, 3) := by decide +kernel
theorem dX6_reason_37 : decode cX6_reason 37 = .ok (.ifCond .ne 7, 3) := by decide +kernel
theorem dX6_reason_40 : decode cX6_reason 40 = .ok (.iconst 3, 1) := by decide +kernel
theorem dX6_reason_41 : decode cX6_reason 41 = .ok (.goto 18, 3) := by decide +kernel
theorem dX6_reason_44 : decode cX6_reason 44 = .ok (.aload_n 0, 1) := by decide +kernel
theorem dX6_reason_45 : decode cX6_reason 45 = .ok (.iload_n 1, 1) := by decide +kernel
theorem dX6_reason_46 : decode cX6_reason 46 = .ok (.iconst 5, 1) := by decide +kernel
theorem dX6_reason_47 : decode cX6_reason 47 = .ok (.invokevirtual 47, 3) := by decide +kernel
theorem dX6_reason_50 : decode cX6_reason 50 = .ok (.iconst 1, 1) := by decide +kernel
theorem dX6_reason_51 : decode cX6_reason 51 = .ok (.if_icmp .ne 7, 3) := by decide +kernel
theorem dX6_reason_54 : decode cX6_reason 54 = .ok (.iconst 4, 1) := by decide +kernel
theorem dX6_reason_55 : decode cX6_reason 55 = .ok (.goto 4, 3) := by decide +kernel
theorem dX6_reason_58 : decode cX6_reason 58 = .ok (.iconst 0, 1) := by decide +kernel
theorem dX6_reason_59 : decode cX6_reason 59 = .ok (.ireturn, 1) := by decide +kernel
theorem dX6_isOn_0 : decode cX6_isOn 0 = .ok (.aload_n 0, 1) := by decide +kernel
theorem dX6_isOn_1 : decode cX6_isOn 1 = .ok (.iload_n 1, 1) := by decide +kernel
theorem dX6_isOn_2 : decode cX6_isOn 2 = .ok (.iconst 4, 1) := by decide +kernel
theorem dX6_isOn_3 : decode cX6_isOn 3 = .ok (.invokevirtual 47, 3) := by decide +kernel
theorem dX6_isOn_6 : decode cX6_isOn 6 = .ok (.iconst (-1), 1) := by decide +kernel
theorem dX6_isOn_7 : decode cX6_isOn 7 = .ok (.if_icmp .eq 21, 3) := by decide +kernel
theorem dX6_isOn_10 : decode cX6_isOn 10 = .ok (.aload_n 0, 1) := by decide +kernel
theorem dX6_isOn_11 : decode cX6_isOn 11 = .ok (.aload_n 0, 1) := by decide +kernel
theorem dX6_isOn_12 : decode cX6_isOn 12 = .ok (.iload_n 1, 1) := by decide +kernel
theorem dX6_isOn_13 : decode cX6_isOn 13 = .ok (.iconst 4, 1) := by decide +kernel
theorem dX6_isOn_14 : decode cX6_isOn 14 = .ok (.invokevirtual 47, 3) := by decide +kernel
theorem dX6_isOn_17 : decode cX6_isOn 17 = .ok (.invokevirtual 55, 3) := by decide +kernel
theorem dX6_isOn_20 : decode cX6_isOn 20 = .ok (.iload_n 2, 1) := by decide +kernel
theorem dX6_isOn_21 : decode cX6_isOn 21 = .ok (.if_icmp .ne 7, 3) := by decide +kernel
theorem dX6_isOn_24 : decode cX6_isOn 24 = .ok (.iconst 1, 1) := by decide +kernel
theorem dX6_isOn_25 : decode cX6_isOn 25 = .ok (.goto 4, 3) := by decide +kernel
theorem dX6_isOn_28 : decode cX6_isOn 28 = .ok (.iconst 0, 1) := by decide +kernel
theorem dX6_isOn_29 : decode cX6_isOn 29 = .ok (.ireturn, 1) := by decide +kernel
theorem dX6_carried_0 : decode cX6_carried 0 = .ok (.iconst 0, 1) := by decide +kernel
theorem dX6_carried_1 : decode cX6_carried 1 = .ok (.istore_n 2, 1) := by decide +kernel
theorem dX6_carried_2 : decode cX6_carried 2 = .ok (.iconst 0, 1) := by decide +kernel
theorem dX6_carried_3 : decode cX6_carried 3 = .ok (.istore_n 3, 1) := by decide +kernel
theorem dX6_carried_4 : decode cX6_carried 4 = .ok (.iload_n 3, 1) := by decide +kernel
theorem dX6_carried_5 : decode cX6_carried 5 = .ok (.aload_n 0, 1) := by decide +kernel
theorem dX6_carried_6 : decode cX6_carried 6 = .ok (.getfield 7, 3) := by decide +kernel
theorem dX6_carried_9 : decode cX6_carried 9 = .ok (.iconst 4, 1) := by decide +kernel
theorem dX6_carried_10 : decode cX6_carried 10 = .ok (.iaload, 1) := by decide +kernel
theorem dX6_carried_11 : decode cX6_carried 11 = .ok (.if_icmp .ge 39, 3) := by decide +kernel
theorem dX6_carried_14 : decode cX6_carried 14 = .ok (.iload_n 2, 1) := by decide +kernel
theorem dX6_carried_15 : decode cX6_carried 15 = .ok (.aload_n 0, 1) := by decide +kernel
theorem dX6_carried_16 : decode cX6_carried 16 = .ok (.iload_n 3, 1) := by decide +kernel
theorem dX6_carried_17 : decode cX6_carried 17 = .ok (.iload_n 1, 1) := by decide +kernel
theorem dX6_carried_18 : decode cX6_carried 18 = .ok (.invokevirtual 62, 3) := by decide +kernel
theorem dX6_carried_21 : decode cX6_carried 21 = .ok (.ifCond .eq 20, 3) := by decide +kernel
theorem dX6_carried_24 : decode cX6_carried 24 = .ok (.aload_n 0, 1) := by decide +kernel
theorem dX6_carried_25 : decode cX6_carried 25 = .ok (.iload_n 3, 1) := by decide +kernel
theorem dX6_carried_26 : decode cX6_carried 26 = .ok (.invokevirtual 66, 3) := by decide +kernel
theorem dX6_carried_29 : decode cX6_carried 29 = .ok (.ifCond .ne 12, 3) := by decide +kernel
theorem dX6_carried_32 : decode cX6_carried 32 = .ok (.aload_n 0, 1) := by decide +kernel
theorem dX6_carried_33 : decode cX6_carried 33 = .ok (.iload_n 3, 1) := by decide +kernel
theorem dX6_carried_34 : decode cX6_carried 34 = .ok (.iconst 0, 1) := by decide +kernel
theorem dX6_carried_35 : decode cX6_carried 35 = .ok (.invokevirtual 47, 3) := by decide +kernel
theorem dX6_carried_38 : decode cX6_carried 38 = .ok (.goto 4, 3) := by decide +kernel
theorem dX6_carried_41 : decode cX6_carried 41 = .ok (.iconst 0, 1) := by decide +kernel
theorem dX6_carried_42 : decode cX6_carried 42 = .ok (.iadd, 1) := by decide +kernel
theorem dX6_carried_43 : decode cX6_carried 43 = .ok (.istore_n 2, 1) := by decide +kernel
theorem dX6_carried_44 : decode cX6_carried 44 = .ok (.iinc 3 1, 3) := by decide +kernel
theorem dX6_carried_47 : decode cX6_carried 47 = .ok (.goto (-43), 3) := by decide +kernel
theorem dX6_carried_50 : decode cX6_carried 50 = .ok (.iload_n 2, 1) := by decide +kernel
theorem dX6_carried_51 : decode cX6_carried 51 = .ok (.ireturn, 1) := by decide +kernel
theorem dX6_goesFirst_0 : decode cX6_goesFirst 0 = .ok (.aload_n 0, 1) := by decide +kernel
theorem dX6_goesFirst_1 : decode cX6_goesFirst 1 = .ok (.iload_n 1, 1) := by decide +kernel
theorem dX6_goesFirst_2 : decode cX6_goesFirst 2 = .ok (.iconst 3, 1) := by decide +kernel
theorem dX6_goesFirst_3 : decode cX6_goesFirst 3 = .ok (.invokevirtual 47, 3) := by decide +kernel
theorem dX6_goesFirst_6 : decode cX6_goesFirst 6 = .ok (.aload_n 0, 1) := by decide +kernel
theorem dX6_goesFirst_7 : decode cX6_goesFirst 7 = .ok (.iload_n 2, 1) := by decide +kernel
theorem dX6_goesFirst_8 : decode cX6_goesFirst 8 = .ok (.iconst 3, 1) := by decide +kernel
theorem dX6_goesFirst_9 : decode cX6_goesFirst 9 = .ok (.invokevirtual 47, 3) := by decide +kernel
theorem dX6_goesFirst_12 : decode cX6_goesFirst 12 = .ok (.if_icmp .gt 33, 3) := by decide +kernel
theorem dX6_goesFirst_15 : decode cX6_goesFirst 15 = .ok (.aload_n 0, 1) := by decide +kernel
theorem dX6_goesFirst_16 : decode cX6_goesFirst 16 = .ok (.iload_n 1, 1) := by decide +kernel
theorem dX6_goesFirst_17 : decode cX6_goesFirst 17 = .ok (.iconst 3, 1) := by decide +kernel
theorem dX6_goesFirst_18 : decode cX6_goesFirst 18 = .ok (.invokevirtual 47, 3) := by decide +kernel
theorem dX6_goesFirst_21 : decode cX6_goesFirst 21 = .ok (.aload_n 0, 1) := by decide +kernel
theorem dX6_goesFirst_22 : decode cX6_goesFirst 22 = .ok (.iload_n 2, 1) := by decide +kernel
theorem dX6_goesFirst_23 : decode cX6_goesFirst 23 = .ok (.iconst 3, 1) := by decide +kernel
theorem dX6_goesFirst_24 : decode cX6_goesFirst 24 = .ok (.invokevirtual 47, 3) := by decide +kernel
theorem dX6_goesFirst_27 : decode cX6_goesFirst 27 = .ok (.if_icmp .ne 22, 3) := by decide +kernel
theorem dX6_goesFirst_30 : decode cX6_goesFirst 30 = .ok (.aload_n 0, 1) := by decide +kernel
theorem dX6_goesFirst_31 : decode cX6_goesFirst 31 = .ok (.iload_n 1, 1) := by decide +kernel
theorem dX6_goesFirst_32 : decode cX6_goesFirst 32 = .ok (.iconst 0, 1) := by decide +kernel
theorem dX6_goesFirst_33 : decode cX6_goesFirst 33 = .ok (.invokevirtual 47, 3) := by decide +kernel
theorem dX6_goesFirst_36 : decode cX6_goesFirst 36 = .ok (.aload_n 0, 1) := by decide +kernel
theorem dX6_goesFirst_37 : decode cX6_goesFirst 37 = .ok (.iload_n 2, 1) := by decide +kernel
theorem dX6_goesFirst_38 : decode cX6_goesFirst 38 = .ok (.iconst 0, 1) := by decide +kernel
theorem dX6_goesFirst_39 : decode cX6_goesFirst 39 = .ok (.invokevirtual 47, 3) := by decide +kernel
theorem dX6_goesFirst_42 : decode cX6_goesFirst 42 = .ok (.if_icmp .le 7, 3) := by decide +kernel
theorem dX6_goesFirst_45 : decode cX6_goesFirst 45 = .ok (.iconst 1, 1) := by decide +kernel
theorem dX6_goesFirst_46 : decode cX6_goesFirst 46 = .ok (.goto 4, 3) := by decide +kernel
theorem dX6_goesFirst_49 : decode cX6_goesFirst 49 = .ok (.iconst 0, 1) := by decide +kernel
theorem dX6_goesFirst_50 : decode cX6_goesFirst 50 = .ok (.ireturn, 1) := by decide +kernel
theorem dX6_firstToShed_0 : decode cX6_firstToShed 0 = .ok (.iconst (-1), 1) := by decide +kernel
theorem dX6_firstToShed_1 : decode cX6_firstToShed 1 = .ok (.istore_n 2, 1) := by decide +kernel
theorem dX6_firstToShed_2 : decode cX6_firstToShed 2 = .ok (.iconst 0, 1) := by decide +kernel
theorem dX6_firstToShed_3 : decode cX6_firstToShed 3 = .ok (.istore_n 3, 1) := by decide +kernel
theorem dX6_firstToShed_4 : decode cX6_firstToShed 4 = .ok (.iload_n 3, 1) := by decide +kernel
theorem dX6_firstToShed_5 : decode cX6_firstToShed 5 = .ok (.aload_n 0, 1) := by decide +kernel
theorem dX6_firstToShed_6 : decode cX6_firstToShed 6 = .ok (.getfield 7, 3) := by decide +kernel
theorem dX6_firstToShed_9 : decode cX6_firstToShed 9 = .ok (.iconst 4, 1) := by decide +kernel
theorem dX6_firstToShed_10 : decode cX6_firstToShed 10 = .ok (.iaload, 1) := by decide +kernel
theorem dX6_firstToShed_11 : decode cX6_firstToShed 11 = .ok (.if_icmp .ge 46, 3) := by decide +kernel
theorem dX6_firstToShed_14 : decode cX6_firstToShed 14 = .ok (.aload_n 0, 1) := by decide +kernel
theorem dX6_firstToShed_15 : decode cX6_firstToShed 15 = .ok (.iload_n 3, 1) := by decide +kernel
theorem dX6_firstToShed_16 : decode cX6_firstToShed 16 = .ok (.iload_n 1, 1) := by decide +kernel
theorem dX6_firstToShed_17 : decode cX6_firstToShed 17 = .ok (.invokevirtual 62, 3) := by decide +kernel
theorem dX6_firstToShed_20 : decode cX6_firstToShed 20 = .ok (.ifCond .eq 29, 3) := by decide +kernel
theorem dX6_firstToShed_23 : decode cX6_firstToShed 23 = .ok (.aload_n 0, 1) := by decide +kernel
theorem dX6_firstToShed_24 : decode cX6_firstToShed 24 = .ok (.iload_n 3, 1) := by decide +kernel
theorem dX6_firstToShed_25 : decode cX6_firstToShed 25 = .ok (.invokevirtual 66, 3) := by decide +kernel
theorem dX6_firstToShed_28 : decode cX6_firstToShed 28 = .ok (.ifCond .ne 21, 3) := by decide +kernel
theorem dX6_firstToShed_31 : decode cX6_firstToShed 31 = .ok (.iload_n 2, 1) := by decide +kernel
theorem dX6_firstToShed_32 : decode cX6_firstToShed 32 = .ok (.iconst (-1), 1) := by decide +kernel
theorem dX6_firstToShed_33 : decode cX6_firstToShed 33 = .ok (.if_icmp .eq 12, 3) := by decide +kernel
theorem dX6_firstToShed_36 : decode cX6_firstToShed 36 = .ok (.aload_n 0, 1) := by decide +kernel
theorem dX6_firstToShed_37 : decode cX6_firstToShed 37 = .ok (.iload_n 3, 1) := by decide +kernel
theorem dX6_firstToShed_38 : decode cX6_firstToShed 38 = .ok (.iload_n 2, 1) := by decide +kernel
theorem dX6_firstToShed_39 : decode cX6_firstToShed 39 = .ok (.invokevirtual 69, 3) := by decide +kernel
theorem dX6_firstToShed_42 : decode cX6_firstToShed 42 = .ok (.ifCond .eq 7, 3) := by decide +kernel
theorem dX6_firstToShed_45 : decode cX6_firstToShed 45 = .ok (.iload_n 3, 1) := by decide +kernel
theorem dX6_firstToShed_46 : decode cX6_firstToShed 46 = .ok (.goto 4, 3) := by decide +kernel
theorem dX6_firstToShed_49 : decode cX6_firstToShed 49 = .ok (.iload_n 2, 1) := by decide +kernel
theorem dX6_firstToShed_50 : decode cX6_firstToShed 50 = .ok (.istore_n 2, 1) := by decide +kernel
theorem dX6_firstToShed_51 : decode cX6_firstToShed 51 = .ok (.iinc 3 1, 3) := by decide +kernel
theorem dX6_firstToShed_54 : decode cX6_firstToShed 54 = .ok (.goto (-50), 3) := by decide +kernel
theorem dX6_firstToShed_57 : decode cX6_firstToShed 57 = .ok (.iload_n 2, 1) := by decide +kernel
theorem dX6_firstToShed_58 : decode cX6_firstToShed 58 = .ok (.ireturn, 1) := by decide +kernel
theorem dX6_shedByRank_0 : decode cX6_shedByRank 0 = .ok (.aload_n 0, 1) := by decide +kernel
theorem dX6_shedByRank_1 : decode cX6_shedByRank 1 = .ok (.getfield 7, 3) := by decide +kernel
theorem dX6_shedByRank_4 : decode cX6_shedByRank 4 = .ok (.iconst 1, 1) := by decide +kernel
theorem dX6_shedByRank_5 : decode cX6_shedByRank 5 = .ok (.iaload, 1) := by decide +kernel
theorem dX6_shedByRank_6 : decode cX6_shedByRank 6 = .ok (.iconst 1, 1) := by decide +kernel
theorem dX6_shedByRank_7 : decode cX6_shedByRank 7 = .ok (.if_icmp .ne 51, 3) := by decide +kernel
theorem dX6_shedByRank_10 : decode cX6_shedByRank 10 = .ok (.aload_n 0, 1) := by decide +kernel
theorem dX6_shedByRank_11 : decode cX6_shedByRank 11 = .ok (.iload_n 1, 1) := by decide +kernel
theorem dX6_shedByRank_12 : decode cX6_shedByRank 12 = .ok (.iconst 1, 1) := by decide +kernel
theorem dX6_shedByRank_13 : decode cX6_shedByRank 13 = .ok (.invokevirtual 59, 3) := by decide +kernel
theorem dX6_shedByRank_16 : decode cX6_shedByRank 16 = .ok (.iconst 1, 1) := by decide +kernel
theorem dX6_shedByRank_17 : decode cX6_shedByRank 17 = .ok (.if_icmp .ne 41, 3) := by decide +kernel
theorem dX6_shedByRank_20 : decode cX6_shedByRank 20 = .ok (.aload_n 0, 1) := by decide +kernel
theorem dX6_shedByRank_21 : decode cX6_shedByRank 21 = .ok (.iload_n 1, 1) := by decide +kernel
theorem dX6_shedByRank_22 : decode cX6_shedByRank 22 = .ok (.invokevirtual 72, 3) := by decide +kernel
theorem dX6_shedByRank_25 : decode cX6_shedByRank 25 = .ok (.aload_n 0, 1) := by decide +kernel
theorem dX6_shedByRank_26 : decode cX6_shedByRank 26 = .ok (.iload_n 1, 1) := by decide +kernel
theorem dX6_shedByRank_27 : decode cX6_shedByRank 27 = .ok (.iconst 0, 1) := by decide +kernel
theorem dX6_shedByRank_28 : decode cX6_shedByRank 28 = .ok (.invokevirtual 59, 3) := by decide +kernel
theorem dX6_shedByRank_31 : decode cX6_shedByRank 31 = .ok (.if_icmp .le 27, 3) := by decide +kernel
theorem dX6_shedByRank_34 : decode cX6_shedByRank 34 = .ok (.aload_n 0, 1) := by decide +kernel
theorem dX6_shedByRank_35 : decode cX6_shedByRank 35 = .ok (.aload_n 0, 1) := by decide +kernel
theorem dX6_shedByRank_36 : decode cX6_shedByRank 36 = .ok (.iload_n 1, 1) := by decide +kernel
theorem dX6_shedByRank_37 : decode cX6_shedByRank 37 = .ok (.invokevirtual 75, 3) := by decide +kernel
theorem dX6_shedByRank_40 : decode cX6_shedByRank 40 = .ok (.iconst 5, 1) := by decide +kernel
theorem dX6_shedByRank_41 : decode cX6_shedByRank 41 = .ok (.iconst 1, 1) := by decide +kernel
theorem dX6_shedByRank_42 : decode cX6_shedByRank 42 = .ok (.invokevirtual 78, 3) := by decide +kernel
theorem dX6_shedByRank_45 : decode cX6_shedByRank 45 = .ok (.aload_n 0, 1) := by decide +kernel
theorem dX6_shedByRank_46 : decode cX6_shedByRank 46 = .ok (.getfield 7, 3) := by decide +kernel
theorem dX6_shedByRank_49 : decode cX6_shedByRank 49 = .ok (.iconst 5, 1) := by decide +kernel
theorem dX6_shedByRank_50 : decode cX6_shedByRank 50 = .ok (.dup2, 1) := by decide +kernel
theorem dX6_shedByRank_51 : decode cX6_shedByRank 51 = .ok (.iaload, 1) := by decide +kernel
theorem dX6_shedByRank_52 : decode cX6_shedByRank 52 = .ok (.iconst 1, 1) := by decide +kernel
theorem dX6_shedByRank_53 : decode cX6_shedByRank 53 = .ok (.iadd, 1) := by decide +kernel
theorem dX6_shedByRank_54 : decode cX6_shedByRank 54 = .ok (.iastore, 1) := by decide +kernel
theorem dX6_shedByRank_55 : decode cX6_shedByRank 55 = .ok (.goto (-55), 3) := by decide +kernel
theorem dX6_shedByRank_58 : decode cX6_shedByRank 58 = .ok (.return_, 1) := by decide +kernel
theorem dX6_warm_0 : decode cX6_warm 0 = .ok (.aload_n 0, 1) := by decide +kernel
theorem dX6_warm_1 : decode cX6_warm 1 = .ok (.iload_n 1, 1) := by decide +kernel
theorem dX6_warm_2 : decode cX6_warm 2 = .ok (.invokevirtual 72, 3) := by decide +kernel
theorem dX6_warm_5 : decode cX6_warm 5 = .ok (.aload_n 0, 1) := by decide +kernel
theorem dX6_warm_6 : decode cX6_warm 6 = .ok (.iload_n 1, 1) := by decide +kernel
theorem dX6_warm_7 : decode cX6_warm 7 = .ok (.iconst 0, 1) := by decide +kernel
theorem dX6_warm_8 : decode cX6_warm 8 = .ok (.invokevirtual 59, 3) := by decide +kernel
theorem dX6_warm_11 : decode cX6_warm 11 = .ok (.isub, 1) := by decide +kernel
theorem dX6_warm_12 : decode cX6_warm 12 = .ok (.istore_n 2, 1) := by decide +kernel
theorem dX6_warm_13 : decode cX6_warm 13 = .ok (.aload_n 0, 1) := by decide +kernel
theorem dX6_warm_14 : decode cX6_warm 14 = .ok (.iload_n 1, 1) := by decide +kernel
theorem dX6_warm_15 : decode cX6_warm 15 = .ok (.iconst 2, 1) := by decide +kernel
theorem dX6_warm_16 : decode cX6_warm 16 = .ok (.invokevirtual 59, 3) := by decide +kernel
theorem dX6_warm_19 : decode cX6_warm 19 = .ok (.aload_n 0, 1) := by decide +kernel
theorem dX6_warm_20 : decode cX6_warm 20 = .ok (.getfield 7, 3) := by decide +kernel
theorem dX6_warm_23 : decode cX6_warm 23 = .ok (.iconst 0, 1) := by decide +kernel
theorem dX6_warm_24 : decode cX6_warm 24 = .ok (.iaload, 1) := by decide +kernel
theorem dX6_warm_25 : decode cX6_warm 25 = .ok (.if_icmp .ge 7, 3) := by decide +kernel
theorem dX6_warm_28 : decode cX6_warm 28 = .ok (.iconst 0, 1) := by decide +kernel
theorem dX6_warm_29 : decode cX6_warm 29 = .ok (.goto 16, 3) := by decide +kernel
theorem dX6_warm_32 : decode cX6_warm 32 = .ok (.aload_n 0, 1) := by decide +kernel
theorem dX6_warm_33 : decode cX6_warm 33 = .ok (.iload_n 1, 1) := by decide +kernel
theorem dX6_warm_34 : decode cX6_warm 34 = .ok (.iconst 2, 1) := by decide +kernel
theorem dX6_warm_35 : decode cX6_warm 35 = .ok (.invokevirtual 59, 3) := by decide +kernel
theorem dX6_warm_38 : decode cX6_warm 38 = .ok (.aload_n 0, 1) := by decide +kernel
theorem dX6_warm_39 : decode cX6_warm 39 = .ok (.getfield 7, 3) := by decide +kernel
theorem dX6_warm_42 : decode cX6_warm 42 = .ok (.iconst 0, 1) := by decide +kernel
theorem dX6_warm_43 : decode cX6_warm 43 = .ok (.iaload, 1) := by decide +kernel
theorem dX6_warm_44 : decode cX6_warm 44 = .ok (.isub, 1) := by decide +kernel
theorem dX6_warm_45 : decode cX6_warm 45 = .ok (.istore_n 3, 1) := by decide +kernel
theorem dX6_warm_46 : decode cX6_warm 46 = .ok (.aload_n 0, 1) := by decide +kernel
theorem dX6_warm_47 : decode cX6_warm 47 = .ok (.iload_n 1, 1) := by decide +kernel
theorem dX6_warm_48 : decode cX6_warm 48 = .ok (.iconst 2, 1) := by decide +kernel
theorem dX6_warm_49 : decode cX6_warm 49 = .ok (.aload_n 0, 1) := by decide +kernel
theorem dX6_warm_50 : decode cX6_warm 50 = .ok (.iload_n 1, 1) := by decide +kernel
theorem dX6_warm_51 : decode cX6_warm 51 = .ok (.iconst 1, 1) := by decide +kernel
theorem dX6_warm_52 : decode cX6_warm 52 = .ok (.invokevirtual 59, 3) := by decide +kernel
theorem dX6_warm_55 : decode cX6_warm 55 = .ok (.iconst 1, 1) := by decide +kernel
theorem dX6_warm_56 : decode cX6_warm 56 = .ok (.if_icmp .ne 23, 3) := by decide +kernel
theorem dX6_warm_59 : decode cX6_warm 59 = .ok (.iload_n 2, 1) := by decide +kernel
theorem dX6_warm_60 : decode cX6_warm 60 = .ok (.ifCond .le 19, 3) := by decide +kernel
theorem dX6_warm_63 : decode cX6_warm 63 = .ok (.aload_n 0, 1) := by decide +kernel
theorem dX6_warm_64 : decode cX6_warm 64 = .ok (.iload_n 1, 1) := by decide +kernel
theorem dX6_warm_65 : decode cX6_warm 65 = .ok (.iconst 2, 1) := by decide +kernel
theorem dX6_warm_66 : decode cX6_warm 66 = .ok (.invokevirtual 59, 3) := by decide +kernel
theorem dX6_warm_69 : decode cX6_warm 69 = .ok (.iload_n 2, 1) := by decide +kernel
theorem dX6_warm_70 : decode cX6_warm 70 = .ok (.bipush 10, 2) := by decide +kernel
theorem dX6_warm_72 : decode cX6_warm 72 = .ok (.idiv, 1) := by decide +kernel
theorem dX6_warm_73 : decode cX6_warm 73 = .ok (.iadd, 1) := by decide +kernel
theorem dX6_warm_74 : decode cX6_warm 74 = .ok (.iconst 1, 1) := by decide +kernel
theorem dX6_warm_75 : decode cX6_warm 75 = .ok (.iadd, 1) := by decide +kernel
theorem dX6_warm_76 : decode cX6_warm 76 = .ok (.goto 4, 3) := by decide +kernel
theorem dX6_warm_79 : decode cX6_warm 79 = .ok (.iload_n 3, 1) := by decide +kernel
theorem dX6_warm_80 : decode cX6_warm 80 = .ok (.invokevirtual 32, 3) := by decide +kernel
theorem dX6_warm_83 : decode cX6_warm 83 = .ok (.aload_n 0, 1) := by decide +kernel
theorem dX6_warm_84 : decode cX6_warm 84 = .ok (.iload_n 1, 1) := by decide +kernel
theorem dX6_warm_85 : decode cX6_warm 85 = .ok (.iconst 4, 1) := by decide +kernel
theorem dX6_warm_86 : decode cX6_warm 86 = .ok (.aload_n 0, 1) := by decide +kernel
theorem dX6_warm_87 : decode cX6_warm 87 = .ok (.iload_n 1, 1) := by decide +kernel
theorem dX6_warm_88 : decode cX6_warm 88 = .ok (.iconst 4, 1) := by decide +kernel
theorem dX6_warm_89 : decode cX6_warm 89 = .ok (.invokevirtual 59, 3) := by decide +kernel
theorem dX6_warm_92 : decode cX6_warm 92 = .ok (.aload_n 0, 1) := by decide +kernel
theorem dX6_warm_93 : decode cX6_warm 93 = .ok (.iload_n 1, 1) := by decide +kernel
theorem dX6_warm_94 : decode cX6_warm 94 = .ok (.invokevirtual 72, 3) := by decide +kernel
theorem dX6_warm_97 : decode cX6_warm 97 = .ok (.iadd, 1) := by decide +kernel
theorem dX6_warm_98 : decode cX6_warm 98 = .ok (.invokevirtual 32, 3) := by decide +kernel
theorem dX6_warm_101 : decode cX6_warm 101 = .ok (.return_, 1) := by decide +kernel
theorem dX6_meter_0 : decode cX6_meter 0 = .ok (.aload_n 0, 1) := by decide +kernel
theorem dX6_meter_1 : decode cX6_meter 1 = .ok (.iload_n 1, 1) := by decide +kernel
theorem dX6_meter_2 : decode cX6_meter 2 = .ok (.invokevirtual 66, 3) := by decide +kernel
theorem dX6_meter_5 : decode cX6_meter 5 = .ok (.istore_n 2, 1) := by decide +kernel
theorem dX6_meter_6 : decode cX6_meter 6 = .ok (.aload_n 0, 1) := by decide +kernel
theorem dX6_meter_7 : decode cX6_meter 7 = .ok (.iload_n 1, 1) := by decide +kernel
theorem dX6_meter_8 : decode cX6_meter 8 = .ok (.bipush 6, 2) := by decide +kernel
theorem dX6_meter_10 : decode cX6_meter 10 = .ok (.aload_n 0, 1) := by decide +kernel
theorem dX6_meter_11 : decode cX6_meter 11 = .ok (.iload_n 1, 1) := by decide +kernel
theorem dX6_meter_12 : decode cX6_meter 12 = .ok (.bipush 6, 2) := by decide +kernel
theorem dX6_meter_14 : decode cX6_meter 14 = .ok (.invokevirtual 47, 3) := by decide +kernel
theorem dX6_meter_17 : decode cX6_meter 17 = .ok (.iload_n 2, 1) := by decide +kernel
theorem dX6_meter_18 : decode cX6_meter 18 = .ok (.ifCond .ne 12, 3) := by decide +kernel
theorem dX6_meter_21 : decode cX6_meter 21 = .ok (.aload_n 0, 1) := by decide +kernel
theorem dX6_meter_22 : decode cX6_meter 22 = .ok (.iload_n 1, 1) := by decide +kernel
theorem dX6_meter_23 : decode cX6_meter 23 = .ok (.iconst 0, 1) := by decide +kernel
theorem dX6_meter_24 : decode cX6_meter 24 = .ok (.invokevirtual 47, 3) := by decide +kernel
theorem dX6_meter_27 : decode cX6_meter 27 = .ok (.goto 4, 3) := by decide +kernel
theorem dX6_meter_30 : decode cX6_meter 30 = .ok (.iconst 0, 1) := by decide +kernel
theorem dX6_meter_31 : decode cX6_meter 31 = .ok (.iadd, 1) := by decide +kernel
theorem dX6_meter_32 : decode cX6_meter 32 = .ok (.invokevirtual 78, 3) := by decide +kernel
theorem dX6_meter_35 : decode cX6_meter 35 = .ok (.aload_n 0, 1) := by decide +kernel
theorem dX6_meter_36 : decode cX6_meter 36 = .ok (.iload_n 1, 1) := by decide +kernel
theorem dX6_meter_37 : decode cX6_meter 37 = .ok (.bipush 7, 2) := by decide +kernel
theorem dX6_meter_39 : decode cX6_meter 39 = .ok (.aload_n 0, 1) := by decide +kernel
theorem dX6_meter_40 : decode cX6_meter 40 = .ok (.iload_n 1, 1) := by decide +kernel
theorem dX6_meter_41 : decode cX6_meter 41 = .ok (.bipush 7, 2) := by decide +kernel
theorem dX6_meter_43 : decode cX6_meter 43 = .ok (.invokevirtual 47, 3) := by decide +kernel
theorem dX6_meter_46 : decode cX6_meter 46 = .ok (.iload_n 2, 1) := by decide +kernel
theorem dX6_meter_47 : decode cX6_meter 47 = .ok (.iconst 1, 1) := by decide +kernel
theorem dX6_meter_48 : decode cX6_meter 48 = .ok (.if_icmp .le 7, 3) := by decide +kernel
theorem dX6_meter_51 : decode cX6_meter 51 = .ok (.iconst 1, 1) := by decide +kernel
theorem dX6_meter_52 : decode cX6_meter 52 = .ok (.goto 4, 3) := by decide +kernel
theorem dX6_meter_55 : decode cX6_meter 55 = .ok (.iconst 0, 1) := by decide +kernel
theorem dX6_meter_56 : decode cX6_meter 56 = .ok (.iadd, 1) := by decide +kernel
theorem dX6_meter_57 : decode cX6_meter 57 = .ok (.invokevirtual 78, 3) := by decide +kernel
theorem dX6_meter_60 : decode cX6_meter 60 = .ok (.aload_n 0, 1) := by decide +kernel
theorem dX6_meter_61 : decode cX6_meter 61 = .ok (.getfield 7, 3) := by decide +kernel
theorem dX6_meter_64 : decode cX6_meter 64 = .ok (.bipush 6, 2) := by decide +kernel
theorem dX6_meter_66 : decode cX6_meter 66 = .ok (.dup2, 1) := by decide +kernel
theorem dX6_meter_67 : decode cX6_meter 67 = .ok (.iaload, 1) := by decide +kernel
theorem dX6_meter_68 : decode cX6_meter 68 = .ok (.iload_n 2, 1) := by decide +kernel
theorem dX6_meter_69 : decode cX6_meter 69 = .ok (.ifCond .ne 7, 3) := by decide +kernel
theorem dX6_meter_72 : decode cX6_meter 72 = .ok (.iconst 1, 1) := by decide +kernel
theorem dX6_meter_73 : decode cX6_meter 73 = .ok (.goto 4, 3) := by decide +kernel
theorem dX6_meter_76 : decode cX6_meter 76 = .ok (.iconst 0, 1) := by decide +kernel
theorem dX6_meter_77 : decode cX6_meter 77 = .ok (.iadd, 1) := by decide +kernel
theorem dX6_meter_78 : decode cX6_meter 78 = .ok (.iastore, 1) := by decide +kernel
theorem dX6_meter_79 : decode cX6_meter 79 = .ok (.return_, 1) := by decide +kernel
theorem dX6_hour_0 : decode cX6_hour 0 = .ok (.iconst 0, 1) := by decide +kernel
theorem dX6_hour_1 : decode cX6_hour 1 = .ok (.istore_n 1, 1) := by decide +kernel
theorem dX6_hour_2 : decode cX6_hour 2 = .ok (.iconst 0, 1) := by decide +kernel
theorem dX6_hour_3 : decode cX6_hour 3 = .ok (.istore_n 2, 1) := by decide +kernel
theorem dX6_hour_4 : decode cX6_hour 4 = .ok (.iload_n 2, 1) := by decide +kernel
theorem dX6_hour_5 : decode cX6_hour 5 = .ok (.iconst 4, 1) := by decide +kernel
theorem dX6_hour_6 : decode cX6_hour 6 = .ok (.if_icmp .ge 14, 3) := by decide +kernel
theorem dX6_hour_9 : decode cX6_hour 9 = .ok (.aload_n 0, 1) := by decide +kernel
theorem dX6_hour_10 : decode cX6_hour 10 = .ok (.iload_n 2, 1) := by decide +kernel
theorem dX6_hour_11 : decode cX6_hour 11 = .ok (.invokevirtual 81, 3) := by decide +kernel
theorem dX6_hour_14 : decode cX6_hour 14 = .ok (.iinc 2 1, 3) := by decide +kernel
theorem dX6_hour_17 : decode cX6_hour 17 = .ok (.goto (-13), 3) := by decide +kernel
theorem dX6_hour_20 : decode cX6_hour 20 = .ok (.iconst 0, 1) := by decide +kernel
theorem dX6_hour_21 : decode cX6_hour 21 = .ok (.istore_n 2, 1) := by decide +kernel
theorem dX6_hour_22 : decode cX6_hour 22 = .ok (.iload_n 2, 1) := by decide +kernel
theorem dX6_hour_23 : decode cX6_hour 23 = .ok (.iconst 4, 1) := by decide +kernel
theorem dX6_hour_24 : decode cX6_hour 24 = .ok (.if_icmp .ge 14, 3) := by decide +kernel
theorem dX6_hour_27 : decode cX6_hour 27 = .ok (.aload_n 0, 1) := by decide +kernel
theorem dX6_hour_28 : decode cX6_hour 28 = .ok (.iload_n 2, 1) := by decide +kernel
theorem dX6_hour_29 : decode cX6_hour 29 = .ok (.invokevirtual 85, 3) := by decide +kernel
theorem dX6_hour_32 : decode cX6_hour 32 = .ok (.iinc 2 1, 3) := by decide +kernel
theorem dX6_hour_35 : decode cX6_hour 35 = .ok (.goto (-13), 3) := by decide +kernel
theorem dX6_hour_38 : decode cX6_hour 38 = .ok (.iconst 0, 1) := by decide +kernel
theorem dX6_hour_39 : decode cX6_hour 39 = .ok (.istore_n 2, 1) := by decide +kernel
theorem dX6_hour_40 : decode cX6_hour 40 = .ok (.iload_n 2, 1) := by decide +kernel
theorem dX6_hour_41 : decode cX6_hour 41 = .ok (.aload_n 0, 1) := by decide +kernel
theorem dX6_hour_42 : decode cX6_hour 42 = .ok (.getfield 7, 3) := by decide +kernel
theorem dX6_hour_45 : decode cX6_hour 45 = .ok (.iconst 4, 1) := by decide +kernel
theorem dX6_hour_46 : decode cX6_hour 46 = .ok (.iaload, 1) := by decide +kernel
theorem dX6_hour_47 : decode cX6_hour 47 = .ok (.if_icmp .ge 14, 3) := by decide +kernel
theorem dX6_hour_50 : decode cX6_hour 50 = .ok (.aload_n 0, 1) := by decide +kernel
theorem dX6_hour_51 : decode cX6_hour 51 = .ok (.iload_n 2, 1) := by decide +kernel
theorem dX6_hour_52 : decode cX6_hour 52 = .ok (.invokevirtual 88, 3) := by decide +kernel
theorem dX6_hour_55 : decode cX6_hour 55 = .ok (.iinc 2 1, 3) := by decide +kernel
theorem dX6_hour_58 : decode cX6_hour 58 = .ok (.goto (-18), 3) := by decide +kernel
theorem dX6_hour_61 : decode cX6_hour 61 = .ok (.iconst 0, 1) := by decide +kernel
theorem dX6_hour_62 : decode cX6_hour 62 = .ok (.istore_n 2, 1) := by decide +kernel
theorem dX6_hour_63 : decode cX6_hour 63 = .ok (.iload_n 2, 1) := by decide +kernel
theorem dX6_hour_64 : decode cX6_hour 64 = .ok (.iconst 4, 1) := by decide +kernel
theorem dX6_hour_65 : decode cX6_hour 65 = .ok (.if_icmp .ge 54, 3) := by decide +kernel
theorem dX6_hour_68 : decode cX6_hour 68 = .ok (.aload_n 0, 1) := by decide +kernel
theorem dX6_hour_69 : decode cX6_hour 69 = .ok (.iload_n 2, 1) := by decide +kernel
theorem dX6_hour_70 : decode cX6_hour 70 = .ok (.iconst 1, 1) := by decide +kernel
theorem dX6_hour_71 : decode cX6_hour 71 = .ok (.invokevirtual 59, 3) := by decide +kernel
theorem dX6_hour_74 : decode cX6_hour 74 = .ok (.iconst 1, 1) := by decide +kernel
theorem dX6_hour_75 : decode cX6_hour 75 = .ok (.if_icmp .ne 38, 3) := by decide +kernel
theorem dX6_hour_78 : decode cX6_hour 78 = .ok (.aload_n 0, 1) := by decide +kernel
theorem dX6_hour_79 : decode cX6_hour 79 = .ok (.iload_n 2, 1) := by decide +kernel
theorem dX6_hour_80 : decode cX6_hour 80 = .ok (.iconst 2, 1) := by decide +kernel
theorem dX6_hour_81 : decode cX6_hour 81 = .ok (.invokevirtual 59, 3) := by decide +kernel
theorem dX6_hour_84 : decode cX6_hour 84 = .ok (.bipush 9, 2) := by decide +kernel
theorem dX6_hour_86 : decode cX6_hour 86 = .ok (.if_icmp .le 27, 3) := by decide +kernel
theorem dX6_hour_89 : decode cX6_hour 89 = .ok (.aload_n 0, 1) := by decide +kernel
theorem dX6_hour_90 : decode cX6_hour 90 = .ok (.iload_n 2, 1) := by decide +kernel
theorem dX6_hour_91 : decode cX6_hour 91 = .ok (.iconst 1, 1) := by decide +kernel
theorem dX6_hour_92 : decode cX6_hour 92 = .ok (.iconst 0, 1) := by decide +kernel
theorem dX6_hour_93 : decode cX6_hour 93 = .ok (.invokevirtual 32, 3) := by decide +kernel
theorem dX6_hour_96 : decode cX6_hour 96 = .ok (.aload_n 0, 1) := by decide +kernel
theorem dX6_hour_97 : decode cX6_hour 97 = .ok (.iload_n 2, 1) := by decide +kernel
theorem dX6_hour_98 : decode cX6_hour 98 = .ok (.iconst 3, 1) := by decide +kernel
theorem dX6_hour_99 : decode cX6_hour 99 = .ok (.aload_n 0, 1) := by decide +kernel
theorem dX6_hour_100 : decode cX6_hour 100 = .ok (.iload_n 2, 1) := by decide +kernel
theorem dX6_hour_101 : decode cX6_hour 101 = .ok (.iconst 3, 1) := by decide +kernel
theorem dX6_hour_102 : decode cX6_hour 102 = .ok (.invokevirtual 59, 3) := by decide +kernel
theorem dX6_hour_105 : decode cX6_hour 105 = .ok (.iconst 1, 1) := by decide +kernel
theorem dX6_hour_106 : decode cX6_hour 106 = .ok (.iadd, 1) := by decide +kernel
theorem dX6_hour_107 : decode cX6_hour 107 = .ok (.invokevirtual 32, 3) := by decide +kernel
theorem dX6_hour_110 : decode cX6_hour 110 = .ok (.iinc 1 1, 3) := by decide +kernel
theorem dX6_hour_113 : decode cX6_hour 113 = .ok (.iinc 2 1, 3) := by decide +kernel
theorem dX6_hour_116 : decode cX6_hour 116 = .ok (.goto (-53), 3) := by decide +kernel
theorem dX6_hour_119 : decode cX6_hour 119 = .ok (.aload_n 0, 1) := by decide +kernel
theorem dX6_hour_120 : decode cX6_hour 120 = .ok (.getfield 7, 3) := by decide +kernel
theorem dX6_hour_123 : decode cX6_hour 123 = .ok (.iconst 3, 1) := by decide +kernel
theorem dX6_hour_124 : decode cX6_hour 124 = .ok (.dup2, 1) := by decide +kernel
theorem dX6_hour_125 : decode cX6_hour 125 = .ok (.iaload, 1) := by decide +kernel
theorem dX6_hour_126 : decode cX6_hour 126 = .ok (.iconst 1, 1) := by decide +kernel
theorem dX6_hour_127 : decode cX6_hour 127 = .ok (.iadd, 1) := by decide +kernel
theorem dX6_hour_128 : decode cX6_hour 128 = .ok (.iastore, 1) := by decide +kernel
theorem dX6_hour_129 : decode cX6_hour 129 = .ok (.iload_n 1, 1) := by decide +kernel
theorem dX6_hour_130 : decode cX6_hour 130 = .ok (.ireturn, 1) := by decide +kernel
theorem dX6_hours_0 : decode cX6_hours 0 = .ok (.iconst 0, 1) := by decide +kernel
theorem dX6_hours_1 : decode cX6_hours 1 = .ok (.istore_n 2, 1) := by decide +kernel
theorem dX6_hours_2 : decode cX6_hours 2 = .ok (.iconst 0, 1) := by decide +kernel
theorem dX6_hours_3 : decode cX6_hours 3 = .ok (.istore_n 3, 1) := by decide +kernel
theorem dX6_hours_4 : decode cX6_hours 4 = .ok (.iload_n 3, 1) := by decide +kernel
theorem dX6_hours_5 : decode cX6_hours 5 = .ok (.iload_n 1, 1) := by decide +kernel
theorem dX6_hours_6 : decode cX6_hours 6 = .ok (.if_icmp .ge 16, 3) := by decide +kernel
theorem dX6_hours_9 : decode cX6_hours 9 = .ok (.iload_n 2, 1) := by decide +kernel
theorem dX6_hours_10 : decode cX6_hours 10 = .ok (.aload_n 0, 1) := by decide +kernel
theorem dX6_hours_11 : decode cX6_hours 11 = .ok (.invokevirtual 91, 3) := by decide +kernel
theorem dX6_hours_14 : decode cX6_hours 14 = .ok (.iadd, 1) := by decide +kernel
theorem dX6_hours_15 : decode cX6_hours 15 = .ok (.istore_n 2, 1) := by decide +kernel
theorem dX6_hours_16 : decode cX6_hours 16 = .ok (.iinc 3 1, 3) := by decide +kernel
theorem dX6_hours_19 : decode cX6_hours 19 = .ok (.goto (-15), 3) := by decide +kernel
theorem dX6_hours_22 : decode cX6_hours 22 = .ok (.iload_n 2, 1) := by decide +kernel
theorem dX6_hours_23 : decode cX6_hours 23 = .ok (.ireturn, 1) := by decide +kernel
theorem dX6_stallComes_0 : decode cX6_stallComes 0 = .ok (.aload_n 0, 1) := by decide +kernel
theorem dX6_stallComes_1 : decode cX6_stallComes 1 = .ok (.getfield 7, 3) := by decide +kernel
theorem dX6_stallComes_4 : decode cX6_stallComes 4 = .ok (.iconst 4, 1) := by decide +kernel
theorem dX6_stallComes_5 : decode cX6_stallComes 5 = .ok (.iaload, 1) := by decide +kernel
theorem dX6_stallComes_6 : decode cX6_stallComes 6 = .ok (.istore 5, 2) := by decide +kernel
theorem dX6_stallComes_8 : decode cX6_stallComes 8 = .ok (.aload_n 0, 1) := by decide +kernel
theorem dX6_stallComes_9 : decode cX6_stallComes 9 = .ok (.iload 5, 2) := by decide +kernel
theorem dX6_stallComes_11 : decode cX6_stallComes 11 = .ok (.iconst 0, 1) := by decide +kernel
theorem dX6_stallComes_12 : decode cX6_stallComes 12 = .ok (.iload_n 1, 1) := by decide +kernel
theorem dX6_stallComes_13 : decode cX6_stallComes 13 = .ok (.invokevirtual 78, 3) := by decide +kernel
theorem dX6_stallComes_16 : decode cX6_stallComes 16 = .ok (.aload_n 0, 1) := by decide +kernel
theorem dX6_stallComes_17 : decode cX6_stallComes 17 = .ok (.iload 5, 2) := by decide +kernel
theorem dX6_stallComes_19 : decode cX6_stallComes 19 = .ok (.iconst 1, 1) := by decide +kernel
theorem dX6_stallComes_20 : decode cX6_stallComes 20 = .ok (.iload_n 2, 1) := by decide +kernel
theorem dX6_stallComes_21 : decode cX6_stallComes 21 = .ok (.invokevirtual 78, 3) := by decide +kernel
theorem dX6_stallComes_24 : decode cX6_stallComes 24 = .ok (.aload_n 0, 1) := by decide +kernel
theorem dX6_stallComes_25 : decode cX6_stallComes 25 = .ok (.iload 5, 2) := by decide +kernel
theorem dX6_stallComes_27 : decode cX6_stallComes 27 = .ok (.iconst 2, 1) := by decide +kernel
theorem dX6_stallComes_28 : decode cX6_stallComes 28 = .ok (.iload_n 3, 1) := by decide +kernel
theorem dX6_stallComes_29 : decode cX6_stallComes 29 = .ok (.invokevirtual 78, 3) := by decide +kernel
theorem dX6_stallComes_32 : decode cX6_stallComes 32 = .ok (.aload_n 0, 1) := by decide +kernel
theorem dX6_stallComes_33 : decode cX6_stallComes 33 = .ok (.iload 5, 2) := by decide +kernel
theorem dX6_stallComes_35 : decode cX6_stallComes 35 = .ok (.iconst 3, 1) := by decide +kernel
theorem dX6_stallComes_36 : decode cX6_stallComes 36 = .ok (.iload 4, 2) := by decide +kernel
theorem dX6_stallComes_38 : decode cX6_stallComes 38 = .ok (.invokevirtual 78, 3) := by decide +kernel
theorem dX6_stallComes_41 : decode cX6_stallComes 41 = .ok (.aload_n 0, 1) := by decide +kernel
theorem dX6_stallComes_42 : decode cX6_stallComes 42 = .ok (.iload 5, 2) := by decide +kernel
theorem dX6_stallComes_44 : decode cX6_stallComes 44 = .ok (.iconst 4, 1) := by decide +kernel
theorem dX6_stallComes_45 : decode cX6_stallComes 45 = .ok (.iconst (-1), 1) := by decide +kernel
theorem dX6_stallComes_46 : decode cX6_stallComes 46 = .ok (.invokevirtual 78, 3) := by decide +kernel
theorem dX6_stallComes_49 : decode cX6_stallComes 49 = .ok (.aload_n 0, 1) := by decide +kernel
theorem dX6_stallComes_50 : decode cX6_stallComes 50 = .ok (.iload 5, 2) := by decide +kernel
theorem dX6_stallComes_52 : decode cX6_stallComes 52 = .ok (.iconst 5, 1) := by decide +kernel
theorem dX6_stallComes_53 : decode cX6_stallComes 53 = .ok (.iconst 0, 1) := by decide +kernel
theorem dX6_stallComes_54 : decode cX6_stallComes 54 = .ok (.invokevirtual 78, 3) := by decide +kernel
theorem dX6_stallComes_57 : decode cX6_stallComes 57 = .ok (.aload_n 0, 1) := by decide +kernel
theorem dX6_stallComes_58 : decode cX6_stallComes 58 = .ok (.iload 5, 2) := by decide +kernel
theorem dX6_stallComes_60 : decode cX6_stallComes 60 = .ok (.bipush 6, 2) := by decide +kernel
theorem dX6_stallComes_62 : decode cX6_stallComes 62 = .ok (.iconst 0, 1) := by decide +kernel
theorem dX6_stallComes_63 : decode cX6_stallComes 63 = .ok (.invokevirtual 78, 3) := by decide +kernel
theorem dX6_stallComes_66 : decode cX6_stallComes 66 = .ok (.aload_n 0, 1) := by decide +kernel
theorem dX6_stallComes_67 : decode cX6_stallComes 67 = .ok (.iload 5, 2) := by decide +kernel
theorem dX6_stallComes_69 : decode cX6_stallComes 69 = .ok (.bipush 7, 2) := by decide +kernel
theorem dX6_stallComes_71 : decode cX6_stallComes 71 = .ok (.iconst 0, 1) := by decide +kernel
theorem dX6_stallComes_72 : decode cX6_stallComes 72 = .ok (.invokevirtual 78, 3) := by decide +kernel
theorem dX6_stallComes_75 : decode cX6_stallComes 75 = .ok (.aload_n 0, 1) := by decide +kernel
theorem dX6_stallComes_76 : decode cX6_stallComes 76 = .ok (.getfield 7, 3) := by decide +kernel
theorem dX6_stallComes_79 : decode cX6_stallComes 79 = .ok (.iconst 4, 1) := by decide +kernel
theorem dX6_stallComes_80 : decode cX6_stallComes 80 = .ok (.dup2, 1) := by decide +kernel
theorem dX6_stallComes_81 : decode cX6_stallComes 81 = .ok (.iaload, 1) := by decide +kernel
theorem dX6_stallComes_82 : decode cX6_stallComes 82 = .ok (.iconst 1, 1) := by decide +kernel
theorem dX6_stallComes_83 : decode cX6_stallComes 83 = .ok (.iadd, 1) := by decide +kernel
theorem dX6_stallComes_84 : decode cX6_stallComes 84 = .ok (.iastore, 1) := by decide +kernel
theorem dX6_stallComes_85 : decode cX6_stallComes 85 = .ok (.iload 5, 2) := by decide +kernel
theorem dX6_stallComes_87 : decode cX6_stallComes 87 = .ok (.ireturn, 1) := by decide +kernel
theorem dX6_stall_0 : decode cX6_stall 0 = .ok (.iload_n 1, 1) := by decide +kernel
theorem dX6_stall_1 : decode cX6_stall 1 = .ok (.iconst 1, 1) := by decide +kernel
theorem dX6_stall_2 : decode cX6_stall 2 = .ok (.sipush 500, 3) := by decide +kernel
theorem dX6_stall_5 : decode cX6_stall 5 = .ok (.invokestatic 40, 3) := by decide +kernel
theorem dX6_stall_8 : decode cX6_stall 8 = .ok (.ifCond .eq 38, 3) := by decide +kernel
theorem dX6_stall_11 : decode cX6_stall 11 = .ok (.iload_n 2, 1) := by decide +kernel
theorem dX6_stall_12 : decode cX6_stall 12 = .ok (.iconst 0, 1) := by decide +kernel
theorem dX6_stall_13 : decode cX6_stall 13 = .ok (.bipush 23, 2) := by decide +kernel
theorem dX6_stall_15 : decode cX6_stall 15 = .ok (.invokestatic 40, 3) := by decide +kernel
theorem dX6_stall_18 : decode cX6_stall 18 = .ok (.ifCond .eq 28, 3) := by decide +kernel
theorem dX6_stall_21 : decode cX6_stall 21 = .ok (.iload_n 3, 1) := by decide +kernel
theorem dX6_stall_22 : decode cX6_stall 22 = .ok (.iconst 0, 1) := by decide +kernel
theorem dX6_stall_23 : decode cX6_stall 23 = .ok (.bipush 23, 2) := by decide +kernel
theorem dX6_stall_25 : decode cX6_stall 25 = .ok (.invokestatic 40, 3) := by decide +kernel
theorem dX6_stall_28 : decode cX6_stall 28 = .ok (.ifCond .eq 18, 3) := by decide +kernel
theorem dX6_stall_31 : decode cX6_stall 31 = .ok (.iload 4, 2) := by decide +kernel
theorem dX6_stall_33 : decode cX6_stall 33 = .ok (.iconst 1, 1) := by decide +kernel
theorem dX6_stall_34 : decode cX6_stall 34 = .ok (.bipush 9, 2) := by decide +kernel
theorem dX6_stall_36 : decode cX6_stall 36 = .ok (.invokestatic 40, 3) := by decide +kernel
theorem dX6_stall_39 : decode cX6_stall 39 = .ok (.ifCond .eq 7, 3) := by decide +kernel
theorem dX6_stall_42 : decode cX6_stall 42 = .ok (.iconst 1, 1) := by decide +kernel
theorem dX6_stall_43 : decode cX6_stall 43 = .ok (.goto 4, 3) := by decide +kernel
theorem dX6_stall_46 : decode cX6_stall 46 = .ok (.iconst 0, 1) := by decide +kernel
theorem dX6_stall_47 : decode cX6_stall 47 = .ok (.istore 5, 2) := by decide +kernel
theorem dX6_stall_49 : decode cX6_stall 49 = .ok (.aload_n 0, 1) := by decide +kernel
theorem dX6_stall_50 : decode cX6_stall 50 = .ok (.iload 5, 2) := by decide +kernel
theorem dX6_stall_52 : decode cX6_stall 52 = .ok (.ifCond .ne 7, 3) := by decide +kernel
theorem dX6_stall_55 : decode cX6_stall 55 = .ok (.iconst 1, 1) := by decide +kernel
theorem dX6_stall_56 : decode cX6_stall 56 = .ok (.goto 19, 3) := by decide +kernel
theorem dX6_stall_59 : decode cX6_stall 59 = .ok (.aload_n 0, 1) := by decide +kernel
theorem dX6_stall_60 : decode cX6_stall 60 = .ok (.getfield 7, 3) := by decide +kernel
theorem dX6_stall_63 : decode cX6_stall 63 = .ok (.iconst 4, 1) := by decide +kernel
theorem dX6_stall_64 : decode cX6_stall 64 = .ok (.iaload, 1) := by decide +kernel
theorem dX6_stall_65 : decode cX6_stall 65 = .ok (.bipush 10, 2) := by decide +kernel
theorem dX6_stall_67 : decode cX6_stall 67 = .ok (.if_icmp .ne 7, 3) := by decide +kernel
theorem dX6_stall_70 : decode cX6_stall 70 = .ok (.iconst 2, 1) := by decide +kernel
theorem dX6_stall_71 : decode cX6_stall 71 = .ok (.goto 4, 3) := by decide +kernel
theorem dX6_stall_74 : decode cX6_stall 74 = .ok (.iconst 0, 1) := by decide +kernel
theorem dX6_stall_75 : decode cX6_stall 75 = .ok (.putfield 36, 3) := by decide +kernel
theorem dX6_stall_78 : decode cX6_stall 78 = .ok (.aload_n 0, 1) := by decide +kernel
theorem dX6_stall_79 : decode cX6_stall 79 = .ok (.getfield 36, 3) := by decide +kernel
theorem dX6_stall_82 : decode cX6_stall 82 = .ok (.ifCond .le 5, 3) := by decide +kernel
theorem dX6_stall_85 : decode cX6_stall 85 = .ok (.iconst 0, 1) := by decide +kernel
theorem dX6_stall_86 : decode cX6_stall 86 = .ok (.ireturn, 1) := by decide +kernel
theorem dX6_stall_87 : decode cX6_stall 87 = .ok (.aload_n 0, 1) := by decide +kernel
theorem dX6_stall_88 : decode cX6_stall 88 = .ok (.invokevirtual 95, 3) := by decide +kernel
theorem dX6_stall_91 : decode cX6_stall 91 = .ok (.aload_n 0, 1) := by decide +kernel
theorem dX6_stall_92 : decode cX6_stall 92 = .ok (.iload_n 1, 1) := by decide +kernel
theorem dX6_stall_93 : decode cX6_stall 93 = .ok (.iload_n 2, 1) := by decide +kernel
theorem dX6_stall_94 : decode cX6_stall 94 = .ok (.iload_n 3, 1) := by decide +kernel
theorem dX6_stall_95 : decode cX6_stall 95 = .ok (.iload 4, 2) := by decide +kernel
theorem dX6_stall_97 : decode cX6_stall 97 = .ok (.invokevirtual 98, 3) := by decide +kernel
theorem dX6_stall_100 : decode cX6_stall 100 = .ok (.ireturn, 1) := by decide +kernel
theorem dX6_stallAt_0 : decode cX6_stallAt 0 = .ok (.iconst (-1), 1) := by decide +kernel
theorem dX6_stallAt_1 : decode cX6_stallAt 1 = .ok (.istore_n 2, 1) := by decide +kernel
theorem dX6_stallAt_2 : decode cX6_stallAt 2 = .ok (.iconst 0, 1) := by decide +kernel
theorem dX6_stallAt_3 : decode cX6_stallAt 3 = .ok (.istore_n 3, 1) := by decide +kernel
theorem dX6_stallAt_4 : decode cX6_stallAt 4 = .ok (.iload_n 3, 1) := by decide +kernel
theorem dX6_stallAt_5 : decode cX6_stallAt 5 = .ok (.aload_n 0, 1) := by decide +kernel
theorem dX6_stallAt_6 : decode cX6_stallAt 6 = .ok (.getfield 7, 3) := by decide +kernel
theorem dX6_stallAt_9 : decode cX6_stallAt 9 = .ok (.iconst 4, 1) := by decide +kernel
theorem dX6_stallAt_10 : decode cX6_stallAt 10 = .ok (.iaload, 1) := by decide +kernel
theorem dX6_stallAt_11 : decode cX6_stallAt 11 = .ok (.if_icmp .ge 25, 3) := by decide +kernel
theorem dX6_stallAt_14 : decode cX6_stallAt 14 = .ok (.aload_n 0, 1) := by decide +kernel
theorem dX6_stallAt_15 : decode cX6_stallAt 15 = .ok (.iload_n 3, 1) := by decide +kernel
theorem dX6_stallAt_16 : decode cX6_stallAt 16 = .ok (.iconst 4, 1) := by decide +kernel
theorem dX6_stallAt_17 : decode cX6_stallAt 17 = .ok (.invokevirtual 47, 3) := by decide +kernel
theorem dX6_stallAt_20 : decode cX6_stallAt 20 = .ok (.iload_n 1, 1) := by decide +kernel
theorem dX6_stallAt_21 : decode cX6_stallAt 21 = .ok (.if_icmp .ne 7, 3) := by decide +kernel
theorem dX6_stallAt_24 : decode cX6_stallAt 24 = .ok (.iload_n 3, 1) := by decide +kernel
theorem dX6_stallAt_25 : decode cX6_stallAt 25 = .ok (.goto 4, 3) := by decide +kernel
theorem dX6_stallAt_28 : decode cX6_stallAt 28 = .ok (.iload_n 2, 1) := by decide +kernel
theorem dX6_stallAt_29 : decode cX6_stallAt 29 = .ok (.istore_n 2, 1) := by decide +kernel
theorem dX6_stallAt_30 : decode cX6_stallAt 30 = .ok (.iinc 3 1, 3) := by decide +kernel
theorem dX6_stallAt_33 : decode cX6_stallAt 33 = .ok (.goto (-29), 3) := by decide +kernel
theorem dX6_stallAt_36 : decode cX6_stallAt 36 = .ok (.iload_n 2, 1) := by decide +kernel
theorem dX6_stallAt_37 : decode cX6_stallAt 37 = .ok (.ireturn, 1) := by decide +kernel
theorem dX6_whyNotPlug_0 : decode cX6_whyNotPlug 0 = .ok (.aload_n 0, 1) := by decide +kernel
theorem dX6_whyNotPlug_1 : decode cX6_whyNotPlug 1 = .ok (.iload_n 1, 1) := by decide +kernel
theorem dX6_whyNotPlug_2 : decode cX6_whyNotPlug 2 = .ok (.invokevirtual 102, 3) := by decide +kernel
theorem dX6_whyNotPlug_5 : decode cX6_whyNotPlug 5 = .ok (.ifCond .ne 5, 3) := by decide +kernel
theorem dX6_whyNotPlug_8 : decode cX6_whyNotPlug 8 = .ok (.iconst 1, 1) := by decide +kernel
theorem dX6_whyNotPlug_9 : decode cX6_whyNotPlug 9 = .ok (.ireturn, 1) := by decide +kernel
theorem dX6_whyNotPlug_10 : decode cX6_whyNotPlug 10 = .ok (.iload_n 2, 1) := by decide +kernel
theorem dX6_whyNotPlug_11 : decode cX6_whyNotPlug 11 = .ok (.invokestatic 105, 3) := by decide +kernel
theorem dX6_whyNotPlug_14 : decode cX6_whyNotPlug 14 = .ok (.ifCond .ne 7, 3) := by decide +kernel
theorem dX6_whyNotPlug_17 : decode cX6_whyNotPlug 17 = .ok (.iconst 2, 1) := by decide +kernel
theorem dX6_whyNotPlug_18 : decode cX6_whyNotPlug 18 = .ok (.goto 17, 3) := by decide +kernel
theorem dX6_whyNotPlug_21 : decode cX6_whyNotPlug 21 = .ok (.aload_n 0, 1) := by decide +kernel
theorem dX6_whyNotPlug_22 : decode cX6_whyNotPlug 22 = .ok (.iload_n 2, 1) := by decide +kernel
theorem dX6_whyNotPlug_23 : decode cX6_whyNotPlug 23 = .ok (.invokevirtual 108, 3) := by decide +kernel
theorem dX6_whyNotPlug_26 : decode cX6_whyNotPlug 26 = .ok (.iconst (-1), 1) := by decide +kernel
theorem dX6_whyNotPlug_27 : decode cX6_whyNotPlug 27 = .ok (.if_icmp .eq 7, 3) := by decide +kernel
theorem dX6_whyNotPlug_30 : decode cX6_whyNotPlug 30 = .ok (.iconst 3, 1) := by decide +kernel
theorem dX6_whyNotPlug_31 : decode cX6_whyNotPlug 31 = .ok (.goto 4, 3) := by decide +kernel
theorem dX6_whyNotPlug_34 : decode cX6_whyNotPlug 34 = .ok (.iconst 0, 1) := by decide +kernel
theorem dX6_whyNotPlug_35 : decode cX6_whyNotPlug 35 = .ok (.ireturn, 1) := by decide +kernel
theorem dX6_plug_0 : decode cX6_plug 0 = .ok (.aload_n 0, 1) := by decide +kernel
theorem dX6_plug_1 : decode cX6_plug 1 = .ok (.aload_n 0, 1) := by decide +kernel
theorem dX6_plug_2 : decode cX6_plug 2 = .ok (.iload_n 1, 1) := by decide +kernel
theorem dX6_plug_3 : decode cX6_plug 3 = .ok (.iload_n 2, 1) := by decide +kernel
theorem dX6_plug_4 : decode cX6_plug 4 = .ok (.invokevirtual 111, 3) := by decide +kernel
theorem dX6_plug_7 : decode cX6_plug 7 = .ok (.putfield 36, 3) := by decide +kernel
theorem dX6_plug_10 : decode cX6_plug 10 = .ok (.aload_n 0, 1) := by decide +kernel
theorem dX6_plug_11 : decode cX6_plug 11 = .ok (.getfield 36, 3) := by decide +kernel
theorem dX6_plug_14 : decode cX6_plug 14 = .ok (.ifCond .le 5, 3) := by decide +kernel
theorem dX6_plug_17 : decode cX6_plug 17 = .ok (.iconst 0, 1) := by decide +kernel
theorem dX6_plug_18 : decode cX6_plug 18 = .ok (.ireturn, 1) := by decide +kernel
theorem dX6_plug_19 : decode cX6_plug 19 = .ok (.aload_n 0, 1) := by decide +kernel
theorem dX6_plug_20 : decode cX6_plug 20 = .ok (.invokevirtual 95, 3) := by decide +kernel
theorem dX6_plug_23 : decode cX6_plug 23 = .ok (.aload_n 0, 1) := by decide +kernel
theorem dX6_plug_24 : decode cX6_plug 24 = .ok (.iload_n 1, 1) := by decide +kernel
theorem dX6_plug_25 : decode cX6_plug 25 = .ok (.iconst 4, 1) := by decide +kernel
theorem dX6_plug_26 : decode cX6_plug 26 = .ok (.invokevirtual 47, 3) := by decide +kernel
theorem dX6_plug_29 : decode cX6_plug 29 = .ok (.istore_n 3, 1) := by decide +kernel
theorem dX6_plug_30 : decode cX6_plug 30 = .ok (.aload_n 0, 1) := by decide +kernel
theorem dX6_plug_31 : decode cX6_plug 31 = .ok (.iload_n 1, 1) := by decide +kernel
theorem dX6_plug_32 : decode cX6_plug 32 = .ok (.iconst 4, 1) := by decide +kernel
theorem dX6_plug_33 : decode cX6_plug 33 = .ok (.iload_n 2, 1) := by decide +kernel
theorem dX6_plug_34 : decode cX6_plug 34 = .ok (.invokevirtual 78, 3) := by decide +kernel
theorem dX6_plug_37 : decode cX6_plug 37 = .ok (.iload_n 3, 1) := by decide +kernel
theorem dX6_plug_38 : decode cX6_plug 38 = .ok (.ireturn, 1) := by decide +kernel
theorem dX6_pull_0 : decode cX6_pull 0 = .ok (.aload_n 0, 1) := by decide +kernel
theorem dX6_pull_1 : decode cX6_pull 1 = .ok (.iload_n 1, 1) := by decide +kernel
theorem dX6_pull_2 : decode cX6_pull 2 = .ok (.invokevirtual 102, 3) := by decide +kernel
theorem dX6_pull_5 : decode cX6_pull 5 = .ok (.ifCond .ne 10, 3) := by decide +kernel
theorem dX6_pull_8 : decode cX6_pull 8 = .ok (.aload_n 0, 1) := by decide +kernel
theorem dX6_pull_9 : decode cX6_pull 9 = .ok (.iconst 1, 1) := by decide +kernel
theorem dX6_pull_10 : decode cX6_pull 10 = .ok (.putfield 36, 3) := by decide +kernel
theorem dX6_pull_13 : decode cX6_pull 13 = .ok (.iconst 0, 1) := by decide +kernel
theorem dX6_pull_14 : decode cX6_pull 14 = .ok (.ireturn, 1) := by decide +kernel
theorem dX6_pull_15 : decode cX6_pull 15 = .ok (.aload_n 0, 1) := by decide +kernel
theorem dX6_pull_16 : decode cX6_pull 16 = .ok (.aload_n 0, 1) := by decide +kernel
theorem dX6_pull_17 : decode cX6_pull 17 = .ok (.iload_n 1, 1) := by decide +kernel
theorem dX6_pull_18 : decode cX6_pull 18 = .ok (.iconst 4, 1) := by decide +kernel
theorem dX6_pull_19 : decode cX6_pull 19 = .ok (.invokevirtual 47, 3) := by decide +kernel
theorem dX6_pull_22 : decode cX6_pull 22 = .ok (.iconst (-1), 1) := by decide +kernel
theorem dX6_pull_23 : decode cX6_pull 23 = .ok (.if_icmp .ne 7, 3) := by decide +kernel
theorem dX6_pull_26 : decode cX6_pull 26 = .ok (.iconst 2, 1) := by decide +kernel
theorem dX6_pull_27 : decode cX6_pull 27 = .ok (.goto 4, 3) := by decide +kernel
theorem dX6_pull_30 : decode cX6_pull 30 = .ok (.iconst 0, 1) := by decide +kernel
theorem dX6_pull_31 : decode cX6_pull 31 = .ok (.putfield 36, 3) := by decide +kernel
theorem dX6_pull_34 : decode cX6_pull 34 = .ok (.aload_n 0, 1) := by decide +kernel
theorem dX6_pull_35 : decode cX6_pull 35 = .ok (.getfield 36, 3) := by decide +kernel
theorem dX6_pull_38 : decode cX6_pull 38 = .ok (.ifCond .le 5, 3) := by decide +kernel
theorem dX6_pull_41 : decode cX6_pull 41 = .ok (.iconst 0, 1) := by decide +kernel
theorem dX6_pull_42 : decode cX6_pull 42 = .ok (.ireturn, 1) := by decide +kernel
theorem dX6_pull_43 : decode cX6_pull 43 = .ok (.aload_n 0, 1) := by decide +kernel
theorem dX6_pull_44 : decode cX6_pull 44 = .ok (.invokevirtual 95, 3) := by decide +kernel
theorem dX6_pull_47 : decode cX6_pull 47 = .ok (.aload_n 0, 1) := by decide +kernel
theorem dX6_pull_48 : decode cX6_pull 48 = .ok (.iload_n 1, 1) := by decide +kernel
theorem dX6_pull_49 : decode cX6_pull 49 = .ok (.iconst 4, 1) := by decide +kernel
theorem dX6_pull_50 : decode cX6_pull 50 = .ok (.invokevirtual 47, 3) := by decide +kernel
theorem dX6_pull_53 : decode cX6_pull 53 = .ok (.istore_n 2, 1) := by decide +kernel
theorem dX6_pull_54 : decode cX6_pull 54 = .ok (.aload_n 0, 1) := by decide +kernel
theorem dX6_pull_55 : decode cX6_pull 55 = .ok (.iload_n 1, 1) := by decide +kernel
theorem dX6_pull_56 : decode cX6_pull 56 = .ok (.iconst 4, 1) := by decide +kernel
theorem dX6_pull_57 : decode cX6_pull 57 = .ok (.iconst (-1), 1) := by decide +kernel
theorem dX6_pull_58 : decode cX6_pull 58 = .ok (.invokevirtual 78, 3) := by decide +kernel
theorem dX6_pull_61 : decode cX6_pull 61 = .ok (.iload_n 2, 1) := by decide +kernel
theorem dX6_pull_62 : decode cX6_pull 62 = .ok (.ireturn, 1) := by decide +kernel
theorem dX6_shed_0 : decode cX6_shed 0 = .ok (.aload_n 0, 1) := by decide +kernel
theorem dX6_shed_1 : decode cX6_shed 1 = .ok (.aload_n 0, 1) := by decide +kernel
theorem dX6_shed_2 : decode cX6_shed 2 = .ok (.iload_n 1, 1) := by decide +kernel
theorem dX6_shed_3 : decode cX6_shed 3 = .ok (.invokevirtual 102, 3) := by decide +kernel
theorem dX6_shed_6 : decode cX6_shed 6 = .ok (.ifCond .eq 7, 3) := by decide +kernel
theorem dX6_shed_9 : decode cX6_shed 9 = .ok (.iconst 0, 1) := by decide +kernel
theorem dX6_shed_10 : decode cX6_shed 10 = .ok (.goto 4, 3) := by decide +kernel
theorem dX6_shed_13 : decode cX6_shed 13 = .ok (.iconst 1, 1) := by decide +kernel
theorem dX6_shed_14 : decode cX6_shed 14 = .ok (.putfield 36, 3) := by decide +kernel
theorem dX6_shed_17 : decode cX6_shed 17 = .ok (.aload_n 0, 1) := by decide +kernel
theorem dX6_shed_18 : decode cX6_shed 18 = .ok (.getfield 36, 3) := by decide +kernel
theorem dX6_shed_21 : decode cX6_shed 21 = .ok (.ifCond .le 5, 3) := by decide +kernel
theorem dX6_shed_24 : decode cX6_shed 24 = .ok (.iconst 0, 1) := by decide +kernel
theorem dX6_shed_25 : decode cX6_shed 25 = .ok (.ireturn, 1) := by decide +kernel
theorem dX6_shed_26 : decode cX6_shed 26 = .ok (.aload_n 0, 1) := by decide +kernel
theorem dX6_shed_27 : decode cX6_shed 27 = .ok (.invokevirtual 95, 3) := by decide +kernel
theorem dX6_shed_30 : decode cX6_shed 30 = .ok (.aload_n 0, 1) := by decide +kernel
theorem dX6_shed_31 : decode cX6_shed 31 = .ok (.iload_n 1, 1) := by decide +kernel
theorem dX6_shed_32 : decode cX6_shed 32 = .ok (.iconst 5, 1) := by decide +kernel
theorem dX6_shed_33 : decode cX6_shed 33 = .ok (.iconst 1, 1) := by decide +kernel
theorem dX6_shed_34 : decode cX6_shed 34 = .ok (.aload_n 0, 1) := by decide +kernel
theorem dX6_shed_35 : decode cX6_shed 35 = .ok (.iload_n 1, 1) := by decide +kernel
theorem dX6_shed_36 : decode cX6_shed 36 = .ok (.iconst 5, 1) := by decide +kernel
theorem dX6_shed_37 : decode cX6_shed 37 = .ok (.invokevirtual 47, 3) := by decide +kernel
theorem dX6_shed_40 : decode cX6_shed 40 = .ok (.isub, 1) := by decide +kernel
theorem dX6_shed_41 : decode cX6_shed 41 = .ok (.invokevirtual 78, 3) := by decide +kernel
theorem dX6_shed_44 : decode cX6_shed 44 = .ok (.aload_n 0, 1) := by decide +kernel
theorem dX6_shed_45 : decode cX6_shed 45 = .ok (.iload_n 1, 1) := by decide +kernel
theorem dX6_shed_46 : decode cX6_shed 46 = .ok (.iconst 5, 1) := by decide +kernel
theorem dX6_shed_47 : decode cX6_shed 47 = .ok (.invokevirtual 47, 3) := by decide +kernel
theorem dX6_shed_50 : decode cX6_shed 50 = .ok (.ireturn, 1) := by decide +kernel
theorem dX6_bound_0 : decode cX6_bound 0 = .ok (.aload_n 0, 1) := by decide +kernel
theorem dX6_bound_1 : decode cX6_bound 1 = .ok (.iload_n 1, 1) := by decide +kernel
theorem dX6_bound_2 : decode cX6_bound 2 = .ok (.invokestatic 114, 3) := by decide +kernel
theorem dX6_bound_5 : decode cX6_bound 5 = .ok (.ifCond .eq 19, 3) := by decide +kernel
theorem dX6_bound_8 : decode cX6_bound 8 = .ok (.iload_n 2, 1) := by decide +kernel
theorem dX6_bound_9 : decode cX6_bound 9 = .ok (.bipush 10, 2) := by decide +kernel
theorem dX6_bound_11 : decode cX6_bound 11 = .ok (.sipush 999, 3) := by decide +kernel
theorem dX6_bound_14 : decode cX6_bound 14 = .ok (.invokestatic 40, 3) := by decide +kernel
theorem dX6_bound_17 : decode cX6_bound 17 = .ok (.ifCond .eq 7, 3) := by decide +kernel
theorem dX6_bound_20 : decode cX6_bound 20 = .ok (.iconst 0, 1) := by decide +kernel
theorem dX6_bound_21 : decode cX6_bound 21 = .ok (.goto 4, 3) := by decide +kernel
theorem dX6_bound_24 : decode cX6_bound 24 = .ok (.iconst 1, 1) := by decide +kernel
theorem dX6_bound_25 : decode cX6_bound 25 = .ok (.putfield 36, 3) := by decide +kernel
theorem dX6_bound_28 : decode cX6_bound 28 = .ok (.aload_n 0, 1) := by decide +kernel
theorem dX6_bound_29 : decode cX6_bound 29 = .ok (.getfield 36, 3) := by decide +kernel
theorem dX6_bound_32 : decode cX6_bound 32 = .ok (.ifCond .le 5, 3) := by decide +kernel
theorem dX6_bound_35 : decode cX6_bound 35 = .ok (.iconst 0, 1) := by decide +kernel
theorem dX6_bound_36 : decode cX6_bound 36 = .ok (.ireturn, 1) := by decide +kernel
theorem dX6_bound_37 : decode cX6_bound 37 = .ok (.aload_n 0, 1) := by decide +kernel
theorem dX6_bound_38 : decode cX6_bound 38 = .ok (.invokevirtual 95, 3) := by decide +kernel
theorem dX6_bound_41 : decode cX6_bound 41 = .ok (.aload_n 0, 1) := by decide +kernel
theorem dX6_bound_42 : decode cX6_bound 42 = .ok (.iload_n 1, 1) := by decide +kernel
theorem dX6_bound_43 : decode cX6_bound 43 = .ok (.iconst 0, 1) := by decide +kernel
theorem dX6_bound_44 : decode cX6_bound 44 = .ok (.invokevirtual 59, 3) := by decide +kernel
theorem dX6_bound_47 : decode cX6_bound 47 = .ok (.istore_n 3, 1) := by decide +kernel
theorem dX6_bound_48 : decode cX6_bound 48 = .ok (.aload_n 0, 1) := by decide +kernel
theorem dX6_bound_49 : decode cX6_bound 49 = .ok (.iload_n 1, 1) := by decide +kernel
theorem dX6_bound_50 : decode cX6_bound 50 = .ok (.iconst 0, 1) := by decide +kernel
theorem dX6_bound_51 : decode cX6_bound 51 = .ok (.iload_n 2, 1) := by decide +kernel
theorem dX6_bound_52 : decode cX6_bound 52 = .ok (.invokevirtual 32, 3) := by decide +kernel
theorem dX6_bound_55 : decode cX6_bound 55 = .ok (.iload_n 3, 1) := by decide +kernel
theorem dX6_bound_56 : decode cX6_bound 56 = .ok (.ireturn, 1) := by decide +kernel
theorem dX6_drawing_0 : decode cX6_drawing 0 = .ok (.iconst 0, 1) := by decide +kernel
theorem dX6_drawing_1 : decode cX6_drawing 1 = .ok (.istore_n 2, 1) := by decide +kernel
theorem dX6_drawing_2 : decode cX6_drawing 2 = .ok (.iconst 0, 1) := by decide +kernel
theorem dX6_drawing_3 : decode cX6_drawing 3 = .ok (.istore_n 3, 1) := by decide +kernel
theorem dX6_drawing_4 : decode cX6_drawing 4 = .ok (.iload_n 3, 1) := by decide +kernel
theorem dX6_drawing_5 : decode cX6_drawing 5 = .ok (.aload_n 0, 1) := by decide +kernel
theorem dX6_drawing_6 : decode cX6_drawing 6 = .ok (.getfield 7, 3) := by decide +kernel
theorem dX6_drawing_9 : decode cX6_drawing 9 = .ok (.iconst 4, 1) := by decide +kernel
theorem dX6_drawing_10 : decode cX6_drawing 10 = .ok (.iaload, 1) := by decide +kernel
theorem dX6_drawing_11 : decode cX6_drawing 11 = .ok (.if_icmp .ge 39, 3) := by decide +kernel
theorem dX6_drawing_14 : decode cX6_drawing 14 = .ok (.iload_n 2, 1) := by decide +kernel
theorem dX6_drawing_15 : decode cX6_drawing 15 = .ok (.iload_n 1, 1) := by decide +kernel
theorem dX6_drawing_16 : decode cX6_drawing 16 = .ok (.iconst (-1), 1) := by decide +kernel
theorem dX6_drawing_17 : decode cX6_drawing 17 = .ok (.if_icmp .eq 12, 3) := by decide +kernel
theorem dX6_drawing_20 : decode cX6_drawing 20 = .ok (.aload_n 0, 1) := by decide +kernel
theorem dX6_drawing_21 : decode cX6_drawing 21 = .ok (.iload_n 3, 1) := by decide +kernel
theorem dX6_drawing_22 : decode cX6_drawing 22 = .ok (.iload_n 1, 1) := by decide +kernel
theorem dX6_drawing_23 : decode cX6_drawing 23 = .ok (.invokevirtual 62, 3) := by decide +kernel
theorem dX6_drawing_26 : decode cX6_drawing 26 = .ok (.ifCond .eq 15, 3) := by decide +kernel
theorem dX6_drawing_29 : decode cX6_drawing 29 = .ok (.aload_n 0, 1) := by decide +kernel
theorem dX6_drawing_30 : decode cX6_drawing 30 = .ok (.iload_n 3, 1) := by decide +kernel
theorem dX6_drawing_31 : decode cX6_drawing 31 = .ok (.invokevirtual 66, 3) := by decide +kernel
theorem dX6_drawing_34 : decode cX6_drawing 34 = .ok (.ifCond .ne 7, 3) := by decide +kernel
theorem dX6_drawing_37 : decode cX6_drawing 37 = .ok (.iconst 1, 1) := by decide +kernel
theorem dX6_drawing_38 : decode cX6_drawing 38 = .ok (.goto 4, 3) := by decide +kernel
theorem dX6_drawing_41 : decode cX6_drawing 41 = .ok (.iconst 0, 1) := by decide +kernel
theorem dX6_drawing_42 : decode cX6_drawing 42 = .ok (.iadd, 1) := by decide +kernel
theorem dX6_drawing_43 : decode cX6_drawing 43 = .ok (.istore_n 2, 1) := by decide +kernel
theorem dX6_drawing_44 : decode cX6_drawing 44 = .ok (.iinc 3 1, 3) := by decide +kernel
theorem dX6_drawing_47 : decode cX6_drawing 47 = .ok (.goto (-43), 3) := by decide +kernel
theorem dX6_drawing_50 : decode cX6_drawing 50 = .ok (.iload_n 2, 1) := by decide +kernel
theorem dX6_drawing_51 : decode cX6_drawing 51 = .ok (.ireturn, 1) := by decide +kernel
theorem dX6_putOn_0 : decode cX6_putOn 0 = .ok (.aload_n 0, 1) := by decide +kernel
theorem dX6_putOn_1 : decode cX6_putOn 1 = .ok (.iload_n 1, 1) := by decide +kernel
theorem dX6_putOn_2 : decode cX6_putOn 2 = .ok (.iconst 1, 1) := by decide +kernel
theorem dX6_putOn_3 : decode cX6_putOn 3 = .ok (.iconst 1, 1) := by decide +kernel
theorem dX6_putOn_4 : decode cX6_putOn 4 = .ok (.invokevirtual 32, 3) := by decide +kernel
theorem dX6_putOn_7 : decode cX6_putOn 7 = .ok (.aload_n 0, 1) := by decide +kernel
theorem dX6_putOn_8 : decode cX6_putOn 8 = .ok (.iload_n 1, 1) := by decide +kernel
theorem dX6_putOn_9 : decode cX6_putOn 9 = .ok (.iconst 2, 1) := by decide +kernel
theorem dX6_putOn_10 : decode cX6_putOn 10 = .ok (.iconst 0, 1) := by decide +kernel
theorem dX6_putOn_11 : decode cX6_putOn 11 = .ok (.invokevirtual 32, 3) := by decide +kernel
theorem dX6_putOn_14 : decode cX6_putOn 14 = .ok (.return_, 1) := by decide +kernel
theorem dX6_reset_0 : decode cX6_reset 0 = .ok (.iload_n 1, 1) := by decide +kernel
theorem dX6_reset_1 : decode cX6_reset 1 = .ok (.invokestatic 114, 3) := by decide +kernel
theorem dX6_reset_4 : decode cX6_reset 4 = .ok (.ifCond .ne 10, 3) := by decide +kernel
theorem dX6_reset_7 : decode cX6_reset 7 = .ok (.aload_n 0, 1) := by decide +kernel
theorem dX6_reset_8 : decode cX6_reset 8 = .ok (.iconst 1, 1) := by decide +kernel
theorem dX6_reset_9 : decode cX6_reset 9 = .ok (.putfield 36, 3) := by decide +kernel
theorem dX6_reset_12 : decode cX6_reset 12 = .ok (.iconst 0, 1) := by decide +kernel
theorem dX6_reset_13 : decode cX6_reset 13 = .ok (.ireturn, 1) := by decide +kernel
theorem dX6_reset_14 : decode cX6_reset 14 = .ok (.aload_n 0, 1) := by decide +kernel
theorem dX6_reset_15 : decode cX6_reset 15 = .ok (.aload_n 0, 1) := by decide +kernel
theorem dX6_reset_16 : decode cX6_reset 16 = .ok (.iload_n 1, 1) := by decide +kernel
theorem dX6_reset_17 : decode cX6_reset 17 = .ok (.iconst 1, 1) := by decide +kernel
theorem dX6_reset_18 : decode cX6_reset 18 = .ok (.invokevirtual 59, 3) := by decide +kernel
theorem dX6_reset_21 : decode cX6_reset 21 = .ok (.iconst 1, 1) := by decide +kernel
theorem dX6_reset_22 : decode cX6_reset 22 = .ok (.if_icmp .ne 7, 3) := by decide +kernel
theorem dX6_reset_25 : decode cX6_reset 25 = .ok (.iconst 2, 1) := by decide +kernel
theorem dX6_reset_26 : decode cX6_reset 26 = .ok (.goto 4, 3) := by decide +kernel
theorem dX6_reset_29 : decode cX6_reset 29 = .ok (.iconst 0, 1) := by decide +kernel
theorem dX6_reset_30 : decode cX6_reset 30 = .ok (.putfield 36, 3) := by decide +kernel
theorem dX6_reset_33 : decode cX6_reset 33 = .ok (.aload_n 0, 1) := by decide +kernel
theorem dX6_reset_34 : decode cX6_reset 34 = .ok (.getfield 36, 3) := by decide +kernel
theorem dX6_reset_37 : decode cX6_reset 37 = .ok (.ifCond .le 5, 3) := by decide +kernel
theorem dX6_reset_40 : decode cX6_reset 40 = .ok (.iconst 0, 1) := by decide +kernel
theorem dX6_reset_41 : decode cX6_reset 41 = .ok (.ireturn, 1) := by decide +kernel
theorem dX6_reset_42 : decode cX6_reset 42 = .ok (.aload_n 0, 1) := by decide +kernel
theorem dX6_reset_43 : decode cX6_reset 43 = .ok (.invokevirtual 95, 3) := by decide +kernel
theorem dX6_reset_46 : decode cX6_reset 46 = .ok (.aload_n 0, 1) := by decide +kernel
theorem dX6_reset_47 : decode cX6_reset 47 = .ok (.iload_n 1, 1) := by decide +kernel
theorem dX6_reset_48 : decode cX6_reset 48 = .ok (.invokevirtual 117, 3) := by decide +kernel
theorem dX6_reset_51 : decode cX6_reset 51 = .ok (.aload_n 0, 1) := by decide +kernel
theorem dX6_reset_52 : decode cX6_reset 52 = .ok (.iload_n 1, 1) := by decide +kernel
theorem dX6_reset_53 : decode cX6_reset 53 = .ok (.invokevirtual 120, 3) := by decide +kernel
theorem dX6_reset_56 : decode cX6_reset 56 = .ok (.ireturn, 1) := by decide +kernel
theorem dX6_over_0 : decode cX6_over 0 = .ok (.aload_n 0, 1) := by decide +kernel
theorem dX6_over_1 : decode cX6_over 1 = .ok (.iload_n 1, 1) := by decide +kernel
theorem dX6_over_2 : decode cX6_over 2 = .ok (.iconst 0, 1) := by decide +kernel
theorem dX6_over_3 : decode cX6_over 3 = .ok (.bipush 8, 2) := by decide +kernel
theorem dX6_over_5 : decode cX6_over 5 = .ok (.invokestatic 40, 3) := by decide +kernel
theorem dX6_over_8 : decode cX6_over 8 = .ok (.ifCond .eq 7, 3) := by decide +kernel
theorem dX6_over_11 : decode cX6_over 11 = .ok (.iconst 0, 1) := by decide +kernel
theorem dX6_over_12 : decode cX6_over 12 = .ok (.goto 4, 3) := by decide +kernel
theorem dX6_over_15 : decode cX6_over 15 = .ok (.iconst 1, 1) := by decide +kernel
theorem dX6_over_16 : decode cX6_over 16 = .ok (.putfield 36, 3) := by decide +kernel
theorem dX6_over_19 : decode cX6_over 19 = .ok (.aload_n 0, 1) := by decide +kernel
theorem dX6_over_20 : decode cX6_over 20 = .ok (.getfield 36, 3) := by decide +kernel
theorem dX6_over_23 : decode cX6_over 23 = .ok (.ifCond .le 5, 3) := by decide +kernel
theorem dX6_over_26 : decode cX6_over 26 = .ok (.iconst 0, 1) := by decide +kernel
theorem dX6_over_27 : decode cX6_over 27 = .ok (.ireturn, 1) := by decide +kernel
theorem dX6_over_28 : decode cX6_over 28 = .ok (.aload_n 0, 1) := by decide +kernel
theorem dX6_over_29 : decode cX6_over 29 = .ok (.invokevirtual 95, 3) := by decide +kernel
theorem dX6_over_32 : decode cX6_over 32 = .ok (.aload_n 0, 1) := by decide +kernel
theorem dX6_over_33 : decode cX6_over 33 = .ok (.getfield 7, 3) := by decide +kernel
theorem dX6_over_36 : decode cX6_over 36 = .ok (.bipush 27, 2) := by decide +kernel
theorem dX6_over_38 : decode cX6_over 38 = .ok (.iload_n 1, 1) := by decide +kernel
theorem dX6_over_39 : decode cX6_over 39 = .ok (.iadd, 1) := by decide +kernel
theorem dX6_over_40 : decode cX6_over 40 = .ok (.iconst 1, 1) := by decide +kernel
theorem dX6_over_41 : decode cX6_over 41 = .ok (.aload_n 0, 1) := by decide +kernel
theorem dX6_over_42 : decode cX6_over 42 = .ok (.getfield 7, 3) := by decide +kernel
theorem dX6_over_45 : decode cX6_over 45 = .ok (.bipush 27, 2) := by decide +kernel
theorem dX6_over_47 : decode cX6_over 47 = .ok (.iload_n 1, 1) := by decide +kernel
theorem dX6_over_48 : decode cX6_over 48 = .ok (.iadd, 1) := by decide +kernel
theorem dX6_over_49 : decode cX6_over 49 = .ok (.iaload, 1) := by decide +kernel
theorem dX6_over_50 : decode cX6_over 50 = .ok (.isub, 1) := by decide +kernel
theorem dX6_over_51 : decode cX6_over 51 = .ok (.iastore, 1) := by decide +kernel
theorem dX6_over_52 : decode cX6_over 52 = .ok (.aload_n 0, 1) := by decide +kernel
theorem dX6_over_53 : decode cX6_over 53 = .ok (.iload_n 1, 1) := by decide +kernel
theorem dX6_over_54 : decode cX6_over 54 = .ok (.invokevirtual 55, 3) := by decide +kernel
theorem dX6_over_57 : decode cX6_over 57 = .ok (.ireturn, 1) := by decide +kernel
theorem dX6_pass_0 : decode cX6_pass 0 = .ok (.aload_n 0, 1) := by decide +kernel
theorem dX6_pass_1 : decode cX6_pass 1 = .ok (.iload_n 1, 1) := by decide +kernel
theorem dX6_pass_2 : decode cX6_pass 2 = .ok (.iconst 1, 1) := by decide +kernel
theorem dX6_pass_3 : decode cX6_pass 3 = .ok (.bipush 48, 2) := by decide +kernel
theorem dX6_pass_5 : decode cX6_pass 5 = .ok (.invokestatic 40, 3) := by decide +kernel
theorem dX6_pass_8 : decode cX6_pass 8 = .ok (.ifCond .ne 7, 3) := by decide +kernel
theorem dX6_pass_11 : decode cX6_pass 11 = .ok (.iconst 1, 1) := by decide +kernel
theorem dX6_pass_12 : decode cX6_pass 12 = .ok (.goto 22, 3) := by decide +kernel
theorem dX6_pass_15 : decode cX6_pass 15 = .ok (.aload_n 0, 1) := by decide +kernel
theorem dX6_pass_16 : decode cX6_pass 16 = .ok (.getfield 7, 3) := by decide +kernel
theorem dX6_pass_19 : decode cX6_pass 19 = .ok (.iconst 3, 1) := by decide +kernel
theorem dX6_pass_20 : decode cX6_pass 20 = .ok (.iaload, 1) := by decide +kernel
theorem dX6_pass_21 : decode cX6_pass 21 = .ok (.iload_n 1, 1) := by decide +kernel
theorem dX6_pass_22 : decode cX6_pass 22 = .ok (.iadd, 1) := by decide +kernel
theorem dX6_pass_23 : decode cX6_pass 23 = .ok (.sipush 9999, 3) := by decide +kernel
theorem dX6_pass_26 : decode cX6_pass 26 = .ok (.if_icmp .le 7, 3) := by decide +kernel
theorem dX6_pass_29 : decode cX6_pass 29 = .ok (.iconst 2, 1) := by decide +kernel
theorem dX6_pass_30 : decode cX6_pass 30 = .ok (.goto 4, 3) := by decide +kernel
theorem dX6_pass_33 : decode cX6_pass 33 = .ok (.iconst 0, 1) := by decide +kernel
theorem dX6_pass_34 : decode cX6_pass 34 = .ok (.putfield 36, 3) := by decide +kernel
theorem dX6_pass_37 : decode cX6_pass 37 = .ok (.aload_n 0, 1) := by decide +kernel
theorem dX6_pass_38 : decode cX6_pass 38 = .ok (.getfield 36, 3) := by decide +kernel
theorem dX6_pass_41 : decode cX6_pass 41 = .ok (.ifCond .le 5, 3) := by decide +kernel
theorem dX6_pass_44 : decode cX6_pass 44 = .ok (.iconst 0, 1) := by decide +kernel
theorem dX6_pass_45 : decode cX6_pass 45 = .ok (.ireturn, 1) := by decide +kernel
theorem dX6_pass_46 : decode cX6_pass 46 = .ok (.aload_n 0, 1) := by decide +kernel
theorem dX6_pass_47 : decode cX6_pass 47 = .ok (.invokevirtual 95, 3) := by decide +kernel
theorem dX6_pass_50 : decode cX6_pass 50 = .ok (.aload_n 0, 1) := by decide +kernel
theorem dX6_pass_51 : decode cX6_pass 51 = .ok (.iload_n 1, 1) := by decide +kernel
theorem dX6_pass_52 : decode cX6_pass 52 = .ok (.invokevirtual 123, 3) := by decide +kernel
theorem dX6_pass_55 : decode cX6_pass 55 = .ok (.ireturn, 1) := by decide +kernel
theorem dX6_isValue_0 : decode cX6_isValue 0 = .ok (.iload_n 0, 1) := by decide +kernel
theorem dX6_isValue_1 : decode cX6_isValue 1 = .ok (.ifCond .ne 13, 3) := by decide +kernel
theorem dX6_isValue_4 : decode cX6_isValue 4 = .ok (.iload_n 1, 1) := by decide +kernel
theorem dX6_isValue_5 : decode cX6_isValue 5 = .ok (.iconst 1, 1) := by decide +kernel
theorem dX6_isValue_6 : decode cX6_isValue 6 = .ok (.bipush 9, 2) := by decide +kernel
theorem dX6_isValue_8 : decode cX6_isValue 8 = .ok (.invokestatic 40, 3) := by decide +kernel
theorem dX6_isValue_11 : decode cX6_isValue 11 = .ok (.goto 24, 3) := by decide +kernel
theorem dX6_isValue_14 : decode cX6_isValue 14 = .ok (.iload_n 0, 1) := by decide +kernel
theorem dX6_isValue_15 : decode cX6_isValue 15 = .ok (.iconst 1, 1) := by decide +kernel
theorem dX6_isValue_16 : decode cX6_isValue 16 = .ok (.if_icmp .ne 12, 3) := by decide +kernel
theorem dX6_isValue_19 : decode cX6_isValue 19 = .ok (.iload_n 1, 1) := by decide +kernel
theorem dX6_isValue_20 : decode cX6_isValue 20 = .ok (.iconst 0, 1) := by decide +kernel
theorem dX6_isValue_21 : decode cX6_isValue 21 = .ok (.iconst 1, 1) := by decide +kernel
theorem dX6_isValue_22 : decode cX6_isValue 22 = .ok (.invokestatic 40, 3) := by decide +kernel
theorem dX6_isValue_25 : decode cX6_isValue 25 = .ok (.goto 10, 3) := by decide +kernel
theorem dX6_isValue_28 : decode cX6_isValue 28 = .ok (.iload_n 1, 1) := by decide +kernel
theorem dX6_isValue_29 : decode cX6_isValue 29 = .ok (.iconst 1, 1) := by decide +kernel
theorem dX6_isValue_30 : decode cX6_isValue 30 = .ok (.bipush 99, 2) := by decide +kernel
theorem dX6_isValue_32 : decode cX6_isValue 32 = .ok (.invokestatic 40, 3) := by decide +kernel
theorem dX6_isValue_35 : decode cX6_isValue 35 = .ok (.ireturn, 1) := by decide +kernel
theorem dX6_set_0 : decode cX6_set 0 = .ok (.aload_n 0, 1) := by decide +kernel
theorem dX6_set_1 : decode cX6_set 1 = .ok (.iload_n 1, 1) := by decide +kernel
theorem dX6_set_2 : decode cX6_set 2 = .ok (.iconst 0, 1) := by decide +kernel
theorem dX6_set_3 : decode cX6_set 3 = .ok (.iconst 2, 1) := by decide +kernel
theorem dX6_set_4 : decode cX6_set 4 = .ok (.invokestatic 40, 3) := by decide +kernel
theorem dX6_set_7 : decode cX6_set 7 = .ok (.ifCond .ne 7, 3) := by decide +kernel
theorem dX6_set_10 : decode cX6_set 10 = .ok (.iconst 1, 1) := by decide +kernel
theorem dX6_set_11 : decode cX6_set 11 = .ok (.goto 16, 3) := by decide +kernel
theorem dX6_set_14 : decode cX6_set 14 = .ok (.iload_n 1, 1) := by decide +kernel
theorem dX6_set_15 : decode cX6_set 15 = .ok (.iload_n 2, 1) := by decide +kernel
theorem dX6_set_16 : decode cX6_set 16 = .ok (.invokestatic 126, 3) := by decide +kernel
theorem dX6_set_19 : decode cX6_set 19 = .ok (.ifCond .eq 7, 3) := by decide +kernel
theorem dX6_set_22 : decode cX6_set 22 = .ok (.iconst 0, 1) := by decide +kernel
theorem dX6_set_23 : decode cX6_set 23 = .ok (.goto 4, 3) := by decide +kernel
theorem dX6_set_26 : decode cX6_set 26 = .ok (.iconst 2, 1) := by decide +kernel
theorem dX6_set_27 : decode cX6_set 27 = .ok (.putfield 36, 3) := by decide +kernel
theorem dX6_set_30 : decode cX6_set 30 = .ok (.aload_n 0, 1) := by decide +kernel
theorem dX6_set_31 : decode cX6_set 31 = .ok (.getfield 36, 3) := by decide +kernel
theorem dX6_set_34 : decode cX6_set 34 = .ok (.ifCond .le 5, 3) := by decide +kernel
theorem dX6_set_37 : decode cX6_set 37 = .ok (.iconst 0, 1) := by decide +kernel
theorem dX6_set_38 : decode cX6_set 38 = .ok (.ireturn, 1) := by decide +kernel
theorem dX6_set_39 : decode cX6_set 39 = .ok (.aload_n 0, 1) := by decide +kernel
theorem dX6_set_40 : decode cX6_set 40 = .ok (.invokevirtual 95, 3) := by decide +kernel
theorem dX6_set_43 : decode cX6_set 43 = .ok (.aload_n 0, 1) := by decide +kernel
theorem dX6_set_44 : decode cX6_set 44 = .ok (.getfield 7, 3) := by decide +kernel
theorem dX6_set_47 : decode cX6_set 47 = .ok (.iconst 0, 1) := by decide +kernel
theorem dX6_set_48 : decode cX6_set 48 = .ok (.iload_n 1, 1) := by decide +kernel
theorem dX6_set_49 : decode cX6_set 49 = .ok (.iadd, 1) := by decide +kernel
theorem dX6_set_50 : decode cX6_set 50 = .ok (.iaload, 1) := by decide +kernel
theorem dX6_set_51 : decode cX6_set 51 = .ok (.istore_n 3, 1) := by decide +kernel
theorem dX6_set_52 : decode cX6_set 52 = .ok (.aload_n 0, 1) := by decide +kernel
theorem dX6_set_53 : decode cX6_set 53 = .ok (.getfield 7, 3) := by decide +kernel
theorem dX6_set_56 : decode cX6_set 56 = .ok (.iconst 0, 1) := by decide +kernel
theorem dX6_set_57 : decode cX6_set 57 = .ok (.iload_n 1, 1) := by decide +kernel
theorem dX6_set_58 : decode cX6_set 58 = .ok (.iadd, 1) := by decide +kernel
theorem dX6_set_59 : decode cX6_set 59 = .ok (.iload_n 2, 1) := by decide +kernel
theorem dX6_set_60 : decode cX6_set 60 = .ok (.iastore, 1) := by decide +kernel
theorem dX6_set_61 : decode cX6_set 61 = .ok (.iload_n 3, 1) := by decide +kernel
theorem dX6_set_62 : decode cX6_set 62 = .ok (.ireturn, 1) := by decide +kernel
theorem dX6_append_0 : decode cX6_append 0 = .ok (.aload_n 0, 1) := by decide +kernel
theorem dX6_append_1 : decode cX6_append 1 = .ok (.iload_n 1, 1) := by decide +kernel
theorem dX6_append_2 : decode cX6_append 2 = .ok (.bipush 33, 2) := by decide +kernel
theorem dX6_append_4 : decode cX6_append 4 = .ok (.bipush 126, 2) := by decide +kernel
theorem dX6_append_6 : decode cX6_append 6 = .ok (.invokestatic 40, 3) := by decide +kernel
theorem dX6_append_9 : decode cX6_append 9 = .ok (.ifCond .ne 7, 3) := by decide +kernel
theorem dX6_append_12 : decode cX6_append 12 = .ok (.iconst 1, 1) := by decide +kernel
theorem dX6_append_13 : decode cX6_append 13 = .ok (.goto 17, 3) := by decide +kernel
theorem dX6_append_16 : decode cX6_append 16 = .ok (.aload_n 0, 1) := by decide +kernel
theorem dX6_append_17 : decode cX6_append 17 = .ok (.getfield 129, 3) := by decide +kernel
theorem dX6_append_20 : decode cX6_append 20 = .ok (.bipush 60, 2) := by decide +kernel
theorem dX6_append_22 : decode cX6_append 22 = .ok (.if_icmp .ne 7, 3) := by decide +kernel
theorem dX6_append_25 : decode cX6_append 25 = .ok (.iconst 2, 1) := by decide +kernel
theorem dX6_append_26 : decode cX6_append 26 = .ok (.goto 4, 3) := by decide +kernel
theorem dX6_append_29 : decode cX6_append 29 = .ok (.iconst 0, 1) := by decide +kernel
theorem dX6_append_30 : decode cX6_append 30 = .ok (.putfield 36, 3) := by decide +kernel
theorem dX6_append_33 : decode cX6_append 33 = .ok (.aload_n 0, 1) := by decide +kernel
theorem dX6_append_34 : decode cX6_append 34 = .ok (.getfield 36, 3) := by decide +kernel
theorem dX6_append_37 : decode cX6_append 37 = .ok (.ifCond .le 5, 3) := by decide +kernel
theorem dX6_append_40 : decode cX6_append 40 = .ok (.iconst 0, 1) := by decide +kernel
theorem dX6_append_41 : decode cX6_append 41 = .ok (.ireturn, 1) := by decide +kernel
theorem dX6_append_42 : decode cX6_append 42 = .ok (.aload_n 0, 1) := by decide +kernel
theorem dX6_append_43 : decode cX6_append 43 = .ok (.getfield 26, 3) := by decide +kernel
theorem dX6_append_46 : decode cX6_append 46 = .ok (.aload_n 0, 1) := by decide +kernel
theorem dX6_append_47 : decode cX6_append 47 = .ok (.getfield 129, 3) := by decide +kernel
theorem dX6_append_50 : decode cX6_append 50 = .ok (.iload_n 1, 1) := by decide +kernel
theorem dX6_append_51 : decode cX6_append 51 = .ok (.iastore, 1) := by decide +kernel
theorem dX6_append_52 : decode cX6_append 52 = .ok (.aload_n 0, 1) := by decide +kernel
theorem dX6_append_53 : decode cX6_append 53 = .ok (.dup, 1) := by decide +kernel
theorem dX6_append_54 : decode cX6_append 54 = .ok (.getfield 129, 3) := by decide +kernel
theorem dX6_append_57 : decode cX6_append 57 = .ok (.iconst 1, 1) := by decide +kernel
theorem dX6_append_58 : decode cX6_append 58 = .ok (.iadd, 1) := by decide +kernel
theorem dX6_append_59 : decode cX6_append 59 = .ok (.putfield 129, 3) := by decide +kernel
theorem dX6_append_62 : decode cX6_append 62 = .ok (.aload_n 0, 1) := by decide +kernel
theorem dX6_append_63 : decode cX6_append 63 = .ok (.getfield 129, 3) := by decide +kernel
theorem dX6_append_66 : decode cX6_append 66 = .ok (.ireturn, 1) := by decide +kernel
theorem dX6_clearBuffer_0 : decode cX6_clearBuffer 0 = .ok (.aload_n 0, 1) := by decide +kernel
theorem dX6_clearBuffer_1 : decode cX6_clearBuffer 1 = .ok (.iconst 0, 1) := by decide +kernel
theorem dX6_clearBuffer_2 : decode cX6_clearBuffer 2 = .ok (.putfield 36, 3) := by decide +kernel
theorem dX6_clearBuffer_5 : decode cX6_clearBuffer 5 = .ok (.aload_n 0, 1) := by decide +kernel
theorem dX6_clearBuffer_6 : decode cX6_clearBuffer 6 = .ok (.getfield 129, 3) := by decide +kernel
theorem dX6_clearBuffer_9 : decode cX6_clearBuffer 9 = .ok (.istore_n 1, 1) := by decide +kernel
theorem dX6_clearBuffer_10 : decode cX6_clearBuffer 10 = .ok (.aload_n 0, 1) := by decide +kernel
theorem dX6_clearBuffer_11 : decode cX6_clearBuffer 11 = .ok (.iconst 0, 1) := by decide +kernel
theorem dX6_clearBuffer_12 : decode cX6_clearBuffer 12 = .ok (.putfield 129, 3) := by decide +kernel
theorem dX6_clearBuffer_15 : decode cX6_clearBuffer 15 = .ok (.iload_n 1, 1) := by decide +kernel
theorem dX6_clearBuffer_16 : decode cX6_clearBuffer 16 = .ok (.ireturn, 1) := by decide +kernel
theorem dX6_letter_0 : decode cX6_letter 0 = .ok (.aload_n 0, 1) := by decide +kernel
theorem dX6_letter_1 : decode cX6_letter 1 = .ok (.getfield 132, 3) := by decide +kernel
theorem dX6_letter_4 : decode cX6_letter 4 = .ok (.aload_n 0, 1) := by decide +kernel
theorem dX6_letter_5 : decode cX6_letter 5 = .ok (.getfield 129, 3) := by decide +kernel
theorem dX6_letter_8 : decode cX6_letter 8 = .ok (.if_icmp .ge 15, 3) := by decide +kernel
theorem dX6_letter_11 : decode cX6_letter 11 = .ok (.aload_n 0, 1) := by decide +kernel
theorem dX6_letter_12 : decode cX6_letter 12 = .ok (.getfield 26, 3) := by decide +kernel
theorem dX6_letter_15 : decode cX6_letter 15 = .ok (.aload_n 0, 1) := by decide +kernel
theorem dX6_letter_16 : decode cX6_letter 16 = .ok (.getfield 132, 3) := by decide +kernel
theorem dX6_letter_19 : decode cX6_letter 19 = .ok (.iaload, 1) := by decide +kernel
theorem dX6_letter_20 : decode cX6_letter 20 = .ok (.goto 4, 3) := by decide +kernel
theorem dX6_letter_23 : decode cX6_letter 23 = .ok (.iconst (-1), 1) := by decide +kernel
theorem dX6_letter_24 : decode cX6_letter 24 = .ok (.ireturn, 1) := by decide +kernel
theorem dX6_wants_0 : decode cX6_wants 0 = .ok (.aload_n 0, 1) := by decide +kernel
theorem dX6_wants_1 : decode cX6_wants 1 = .ok (.getfield 135, 3) := by decide +kernel
theorem dX6_wants_4 : decode cX6_wants 4 = .ok (.iconst (-1), 1) := by decide +kernel
theorem dX6_wants_5 : decode cX6_wants 5 = .ok (.if_icmp .ne 29, 3) := by decide +kernel
theorem dX6_wants_8 : decode cX6_wants 8 = .ok (.aload_n 0, 1) := by decide +kernel
theorem dX6_wants_9 : decode cX6_wants 9 = .ok (.iload_n 1, 1) := by decide +kernel
theorem dX6_wants_10 : decode cX6_wants 10 = .ok (.ifCond .eq 7, 3) := by decide +kernel
theorem dX6_wants_13 : decode cX6_wants 13 = .ok (.iconst (-1), 1) := by decide +kernel
theorem dX6_wants_14 : decode cX6_wants 14 = .ok (.goto 7, 3) := by decide +kernel
theorem dX6_wants_17 : decode cX6_wants 17 = .ok (.aload_n 0, 1) := by decide +kernel
theorem dX6_wants_18 : decode cX6_wants 18 = .ok (.getfield 132, 3) := by decide +kernel
theorem dX6_wants_21 : decode cX6_wants 21 = .ok (.putfield 135, 3) := by decide +kernel
theorem dX6_wants_24 : decode cX6_wants 24 = .ok (.aload_n 0, 1) := by decide +kernel
theorem dX6_wants_25 : decode cX6_wants 25 = .ok (.dup, 1) := by decide +kernel
theorem dX6_wants_26 : decode cX6_wants 26 = .ok (.getfield 132, 3) := by decide +kernel
theorem dX6_wants_29 : decode cX6_wants 29 = .ok (.iconst 1, 1) := by decide +kernel
theorem dX6_wants_30 : decode cX6_wants 30 = .ok (.iadd, 1) := by decide +kernel
theorem dX6_wants_31 : decode cX6_wants 31 = .ok (.putfield 132, 3) := by decide +kernel
theorem dX6_wants_34 : decode cX6_wants 34 = .ok (.return_, 1) := by decide +kernel
theorem dX6_number_0 : decode cX6_number 0 = .ok (.aload_n 0, 1) := by decide +kernel
theorem dX6_number_1 : decode cX6_number 1 = .ok (.invokevirtual 138, 3) := by decide +kernel
theorem dX6_number_4 : decode cX6_number 4 = .ok (.bipush 48, 2) := by decide +kernel
theorem dX6_number_6 : decode cX6_number 6 = .ok (.isub, 1) := by decide +kernel
theorem dX6_number_7 : decode cX6_number 7 = .ok (.istore_n 3, 1) := by decide +kernel
theorem dX6_number_8 : decode cX6_number 8 = .ok (.aload_n 0, 1) := by decide +kernel
theorem dX6_number_9 : decode cX6_number 9 = .ok (.iload_n 3, 1) := by decide +kernel
theorem dX6_number_10 : decode cX6_number 10 = .ok (.iload_n 1, 1) := by decide +kernel
theorem dX6_number_11 : decode cX6_number 11 = .ok (.bipush 9, 2) := by decide +kernel
theorem dX6_number_13 : decode cX6_number 13 = .ok (.invokestatic 40, 3) := by decide +kernel
theorem dX6_number_16 : decode cX6_number 16 = .ok (.invokevirtual 141, 3) := by decide +kernel
theorem dX6_number_19 : decode cX6_number 19 = .ok (.aload_n 0, 1) := by decide +kernel
theorem dX6_number_20 : decode cX6_number 20 = .ok (.invokevirtual 138, 3) := by decide +kernel
theorem dX6_number_23 : decode cX6_number 23 = .ok (.bipush 48, 2) := by decide +kernel
theorem dX6_number_25 : decode cX6_number 25 = .ok (.isub, 1) := by decide +kernel
theorem dX6_number_26 : decode cX6_number 26 = .ok (.istore 4, 2) := by decide +kernel
theorem dX6_number_28 : decode cX6_number 28 = .ok (.aload_n 0, 1) := by decide +kernel
theorem dX6_number_29 : decode cX6_number 29 = .ok (.getfield 135, 3) := by decide +kernel
theorem dX6_number_32 : decode cX6_number 32 = .ok (.iconst (-1), 1) := by decide +kernel
theorem dX6_number_33 : decode cX6_number 33 = .ok (.if_icmp .ne 59, 3) := by decide +kernel
theorem dX6_number_36 : decode cX6_number 36 = .ok (.iload_n 3, 1) := by decide +kernel
theorem dX6_number_37 : decode cX6_number 37 = .ok (.ifCond .le 55, 3) := by decide +kernel
theorem dX6_number_40 : decode cX6_number 40 = .ok (.iload 4, 2) := by decide +kernel
theorem dX6_number_42 : decode cX6_number 42 = .ok (.iconst 0, 1) := by decide +kernel
theorem dX6_number_43 : decode cX6_number 43 = .ok (.bipush 9, 2) := by decide +kernel
theorem dX6_number_45 : decode cX6_number 45 = .ok (.invokestatic 40, 3) := by decide +kernel
theorem dX6_number_48 : decode cX6_number 48 = .ok (.ifCond .eq 44, 3) := by decide +kernel
theorem dX6_number_51 : decode cX6_number 51 = .ok (.bipush 10, 2) := by decide +kernel
theorem dX6_number_53 : decode cX6_number 53 = .ok (.iload_n 3, 1) := by decide +kernel
theorem dX6_number_54 : decode cX6_number 54 = .ok (.imul, 1) := by decide +kernel
theorem dX6_number_55 : decode cX6_number 55 = .ok (.iload 4, 2) := by decide +kernel
theorem dX6_number_57 : decode cX6_number 57 = .ok (.iadd, 1) := by decide +kernel
theorem dX6_number_58 : decode cX6_number 58 = .ok (.iload_n 2, 1) := by decide +kernel
theorem dX6_number_59 : decode cX6_number 59 = .ok (.if_icmp .gt 33, 3) := by decide +kernel
theorem dX6_number_62 : decode cX6_number 62 = .ok (.bipush 10, 2) := by decide +kernel
theorem dX6_number_64 : decode cX6_number 64 = .ok (.iload_n 3, 1) := by decide +kernel
theorem dX6_number_65 : decode cX6_number 65 = .ok (.imul, 1) := by decide +kernel
theorem dX6_number_66 : decode cX6_number 66 = .ok (.iload 4, 2) := by decide +kernel
theorem dX6_number_68 : decode cX6_number 68 = .ok (.iadd, 1) := by decide +kernel
theorem dX6_number_69 : decode cX6_number 69 = .ok (.istore_n 3, 1) := by decide +kernel
theorem dX6_number_70 : decode cX6_number 70 = .ok (.aload_n 0, 1) := by decide +kernel
theorem dX6_number_71 : decode cX6_number 71 = .ok (.dup, 1) := by decide +kernel
theorem dX6_number_72 : decode cX6_number 72 = .ok (.getfield 132, 3) := by decide +kernel
theorem dX6_number_75 : decode cX6_number 75 = .ok (.iconst 1, 1) := by decide +kernel
theorem dX6_number_76 : decode cX6_number 76 = .ok (.iadd, 1) := by decide +kernel
theorem dX6_number_77 : decode cX6_number 77 = .ok (.putfield 132, 3) := by decide +kernel
theorem dX6_number_80 : decode cX6_number 80 = .ok (.aload_n 0, 1) := by decide +kernel
theorem dX6_number_81 : decode cX6_number 81 = .ok (.invokevirtual 138, 3) := by decide +kernel
theorem dX6_number_84 : decode cX6_number 84 = .ok (.bipush 48, 2) := by decide +kernel
theorem dX6_number_86 : decode cX6_number 86 = .ok (.isub, 1) := by decide +kernel
theorem dX6_number_87 : decode cX6_number 87 = .ok (.istore 4, 2) := by decide +kernel
theorem dX6_number_89 : decode cX6_number 89 = .ok (.goto (-61), 3) := by decide +kernel
theorem dX6_number_92 : decode cX6_number 92 = .ok (.iload_n 3, 1) := by decide +kernel
theorem dX6_number_93 : decode cX6_number 93 = .ok (.ireturn, 1) := by decide +kernel
theorem dX6_readStall_0 : decode cX6_readStall 0 = .ok (.aload_n 0, 1) := by decide +kernel
theorem dX6_readStall_1 : decode cX6_readStall 1 = .ok (.getfield 29, 3) := by decide +kernel
theorem dX6_readStall_4 : decode cX6_readStall 4 = .ok (.iload_n 1, 1) := by decide +kernel
theorem dX6_readStall_5 : decode cX6_readStall 5 = .ok (.iconst 1, 1) := by decide +kernel
theorem dX6_readStall_6 : decode cX6_readStall 6 = .ok (.iadd, 1) := by decide +kernel
theorem dX6_readStall_7 : decode cX6_readStall 7 = .ok (.aload_n 0, 1) := by decide +kernel
theorem dX6_readStall_8 : decode cX6_readStall 8 = .ok (.iconst 1, 1) := by decide +kernel
theorem dX6_readStall_9 : decode cX6_readStall 9 = .ok (.sipush 500, 3) := by decide +kernel
theorem dX6_readStall_12 : decode cX6_readStall 12 = .ok (.invokevirtual 145, 3) := by decide +kernel
theorem dX6_readStall_15 : decode cX6_readStall 15 = .ok (.iastore, 1) := by decide +kernel
theorem dX6_readStall_16 : decode cX6_readStall 16 = .ok (.aload_n 0, 1) := by decide +kernel
theorem dX6_readStall_17 : decode cX6_readStall 17 = .ok (.aload_n 0, 1) := by decide +kernel
theorem dX6_readStall_18 : decode cX6_readStall 18 = .ok (.invokevirtual 138, 3) := by decide +kernel
theorem dX6_readStall_21 : decode cX6_readStall 21 = .ok (.bipush 64, 2) := by decide +kernel
theorem dX6_readStall_23 : decode cX6_readStall 23 = .ok (.if_icmp .ne 7, 3) := by decide +kernel
theorem dX6_readStall_26 : decode cX6_readStall 26 = .ok (.iconst 1, 1) := by decide +kernel
theorem dX6_readStall_27 : decode cX6_readStall 27 = .ok (.goto 4, 3) := by decide +kernel
theorem dX6_readStall_30 : decode cX6_readStall 30 = .ok (.iconst 0, 1) := by decide +kernel
theorem dX6_readStall_31 : decode cX6_readStall 31 = .ok (.invokevirtual 141, 3) := by decide +kernel
theorem dX6_readStall_34 : decode cX6_readStall 34 = .ok (.aload_n 0, 1) := by decide +kernel
theorem dX6_readStall_35 : decode cX6_readStall 35 = .ok (.getfield 29, 3) := by decide +kernel
theorem dX6_readStall_38 : decode cX6_readStall 38 = .ok (.iload_n 1, 1) := by decide +kernel
theorem dX6_readStall_39 : decode cX6_readStall 39 = .ok (.iconst 2, 1) := by decide +kernel
theorem dX6_readStall_40 : decode cX6_readStall 40 = .ok (.iadd, 1) := by decide +kernel
theorem dX6_readStall_41 : decode cX6_readStall 41 = .ok (.aload_n 0, 1) := by decide +kernel
theorem dX6_readStall_42 : decode cX6_readStall 42 = .ok (.iconst 0, 1) := by decide +kernel
theorem dX6_readStall_43 : decode cX6_readStall 43 = .ok (.bipush 23, 2) := by decide +kernel
theorem dX6_readStall_45 : decode cX6_readStall 45 = .ok (.invokevirtual 145, 3) := by decide +kernel
theorem dX6_readStall_48 : decode cX6_readStall 48 = .ok (.iastore, 1) := by decide +kernel
theorem dX6_readStall_49 : decode cX6_readStall 49 = .ok (.aload_n 0, 1) := by decide +kernel
theorem dX6_readStall_50 : decode cX6_readStall 50 = .ok (.aload_n 0, 1) := by decide +kernel
theorem dX6_readStall_51 : decode cX6_readStall 51 = .ok (.invokevirtual 138, 3) := by decide +kernel
theorem dX6_readStall_54 : decode cX6_readStall 54 = .ok (.bipush 45, 2) := by decide +kernel
theorem dX6_readStall_56 : decode cX6_readStall 56 = .ok (.if_icmp .ne 7, 3) := by decide +kernel
theorem dX6_readStall_59 : decode cX6_readStall 59 = .ok (.iconst 1, 1) := by decide +kernel
theorem dX6_readStall_60 : decode cX6_readStall 60 = .ok (.goto 4, 3) := by decide +kernel
theorem dX6_readStall_63 : decode cX6_readStall 63 = .ok (.iconst 0, 1) := by decide +kernel
theorem dX6_readStall_64 : decode cX6_readStall 64 = .ok (.invokevirtual 141, 3) := by decide +kernel
theorem dX6_readStall_67 : decode cX6_readStall 67 = .ok (.aload_n 0, 1) := by decide +kernel
theorem dX6_readStall_68 : decode cX6_readStall 68 = .ok (.getfield 29, 3) := by decide +kernel
theorem dX6_readStall_71 : decode cX6_readStall 71 = .ok (.iload_n 1, 1) := by decide +kernel
theorem dX6_readStall_72 : decode cX6_readStall 72 = .ok (.iconst 3, 1) := by decide +kernel
theorem dX6_readStall_73 : decode cX6_readStall 73 = .ok (.iadd, 1) := by decide +kernel
theorem dX6_readStall_74 : decode cX6_readStall 74 = .ok (.aload_n 0, 1) := by decide +kernel
theorem dX6_readStall_75 : decode cX6_readStall 75 = .ok (.iconst 0, 1) := by decide +kernel
theorem dX6_readStall_76 : decode cX6_readStall 76 = .ok (.bipush 23, 2) := by decide +kernel
theorem dX6_readStall_78 : decode cX6_readStall 78 = .ok (.invokevirtual 145, 3) := by decide +kernel
theorem dX6_readStall_81 : decode cX6_readStall 81 = .ok (.iastore, 1) := by decide +kernel
theorem dX6_readStall_82 : decode cX6_readStall 82 = .ok (.aload_n 0, 1) := by decide +kernel
theorem dX6_readStall_83 : decode cX6_readStall 83 = .ok (.aload_n 0, 1) := by decide +kernel
theorem dX6_readStall_84 : decode cX6_readStall 84 = .ok (.invokevirtual 138, 3) := by decide +kernel
theorem dX6_readStall_87 : decode cX6_readStall 87 = .ok (.bipush 42, 2) := by decide +kernel
theorem dX6_readStall_89 : decode cX6_readStall 89 = .ok (.if_icmp .ne 7, 3) := by decide +kernel
theorem dX6_readStall_92 : decode cX6_readStall 92 = .ok (.iconst 1, 1) := by decide +kernel
theorem dX6_readStall_93 : decode cX6_readStall 93 = .ok (.goto 4, 3) := by decide +kernel
theorem dX6_readStall_96 : decode cX6_readStall 96 = .ok (.iconst 0, 1) := by decide +kernel
theorem dX6_readStall_97 : decode cX6_readStall 97 = .ok (.invokevirtual 141, 3) := by decide +kernel
theorem dX6_readStall_100 : decode cX6_readStall 100 = .ok (.aload_n 0, 1) := by decide +kernel
theorem dX6_readStall_101 : decode cX6_readStall 101 = .ok (.getfield 29, 3) := by decide +kernel
theorem dX6_readStall_104 : decode cX6_readStall 104 = .ok (.iload_n 1, 1) := by decide +kernel
theorem dX6_readStall_105 : decode cX6_readStall 105 = .ok (.iconst 4, 1) := by decide +kernel
theorem dX6_readStall_106 : decode cX6_readStall 106 = .ok (.iadd, 1) := by decide +kernel
theorem dX6_readStall_107 : decode cX6_readStall 107 = .ok (.aload_n 0, 1) := by decide +kernel
theorem dX6_readStall_108 : decode cX6_readStall 108 = .ok (.iconst 1, 1) := by decide +kernel
theorem dX6_readStall_109 : decode cX6_readStall 109 = .ok (.bipush 9, 2) := by decide +kernel
theorem dX6_readStall_111 : decode cX6_readStall 111 = .ok (.invokevirtual 145, 3) := by decide +kernel
theorem dX6_readStall_114 : decode cX6_readStall 114 = .ok (.iastore, 1) := by decide +kernel
theorem dX6_readStall_115 : decode cX6_readStall 115 = .ok (.return_, 1) := by decide +kernel
theorem dX6_readOrder_0 : decode cX6_readOrder 0 = .ok (.iconst 5, 1) := by decide +kernel
theorem dX6_readOrder_1 : decode cX6_readOrder 1 = .ok (.aload_n 0, 1) := by decide +kernel
theorem dX6_readOrder_2 : decode cX6_readOrder 2 = .ok (.getfield 148, 3) := by decide +kernel
theorem dX6_readOrder_5 : decode cX6_readOrder 5 = .ok (.imul, 1) := by decide +kernel
theorem dX6_readOrder_6 : decode cX6_readOrder 6 = .ok (.istore_n 1, 1) := by decide +kernel
theorem dX6_readOrder_7 : decode cX6_readOrder 7 = .ok (.aload_n 0, 1) := by decide +kernel
theorem dX6_readOrder_8 : decode cX6_readOrder 8 = .ok (.invokevirtual 138, 3) := by decide +kernel
theorem dX6_readOrder_11 : decode cX6_readOrder 11 = .ok (.istore_n 2, 1) := by decide +kernel
theorem dX6_readOrder_12 : decode cX6_readOrder 12 = .ok (.aload_n 0, 1) := by decide +kernel
theorem dX6_readOrder_13 : decode cX6_readOrder 13 = .ok (.getfield 29, 3) := by decide +kernel
theorem dX6_readOrder_16 : decode cX6_readOrder 16 = .ok (.iload_n 1, 1) := by decide +kernel
theorem dX6_readOrder_17 : decode cX6_readOrder 17 = .ok (.iload_n 2, 1) := by decide +kernel
theorem dX6_readOrder_18 : decode cX6_readOrder 18 = .ok (.iastore, 1) := by decide +kernel
theorem dX6_readOrder_19 : decode cX6_readOrder 19 = .ok (.aload_n 0, 1) := by decide +kernel
theorem dX6_readOrder_20 : decode cX6_readOrder 20 = .ok (.iload_n 2, 1) := by decide +kernel
theorem dX6_readOrder_21 : decode cX6_readOrder 21 = .ok (.bipush 115, 2) := by decide +kernel
theorem dX6_readOrder_23 : decode cX6_readOrder 23 = .ok (.if_icmp .eq 15, 3) := by decide +kernel
theorem dX6_readOrder_26 : decode cX6_readOrder 26 = .ok (.iload_n 2, 1) := by decide +kernel
theorem dX6_readOrder_27 : decode cX6_readOrder 27 = .ok (.bipush 112, 2) := by decide +kernel
theorem dX6_readOrder_29 : decode cX6_readOrder 29 = .ok (.if_icmp .eq 9, 3) := by decide +kernel
theorem dX6_readOrder_32 : decode cX6_readOrder 32 = .ok (.iload_n 2, 1) := by decide +kernel
theorem dX6_readOrder_33 : decode cX6_readOrder 33 = .ok (.bipush 104, 2) := by decide +kernel
theorem dX6_readOrder_35 : decode cX6_readOrder 35 = .ok (.if_icmp .ne 7, 3) := by decide +kernel
theorem dX6_readOrder_38 : decode cX6_readOrder 38 = .ok (.iconst 1, 1) := by decide +kernel
theorem dX6_readOrder_39 : decode cX6_readOrder 39 = .ok (.goto 4, 3) := by decide +kernel
theorem dX6_readOrder_42 : decode cX6_readOrder 42 = .ok (.iconst 0, 1) := by decide +kernel
theorem dX6_readOrder_43 : decode cX6_readOrder 43 = .ok (.invokevirtual 141, 3) := by decide +kernel
theorem dX6_readOrder_46 : decode cX6_readOrder 46 = .ok (.iload_n 2, 1) := by decide +kernel
theorem dX6_readOrder_47 : decode cX6_readOrder 47 = .ok (.bipush 115, 2) := by decide +kernel
theorem dX6_readOrder_49 : decode cX6_readOrder 49 = .ok (.if_icmp .ne 11, 3) := by decide +kernel
theorem dX6_readOrder_52 : decode cX6_readOrder 52 = .ok (.aload_n 0, 1) := by decide +kernel
theorem dX6_readOrder_53 : decode cX6_readOrder 53 = .ok (.iload_n 1, 1) := by decide +kernel
theorem dX6_readOrder_54 : decode cX6_readOrder 54 = .ok (.invokevirtual 151, 3) := by decide +kernel
theorem dX6_readOrder_57 : decode cX6_readOrder 57 = .ok (.goto 75, 3) := by decide +kernel
theorem dX6_readOrder_60 : decode cX6_readOrder 60 = .ok (.iload_n 2, 1) := by decide +kernel
theorem dX6_readOrder_61 : decode cX6_readOrder 61 = .ok (.bipush 112, 2) := by decide +kernel
theorem dX6_readOrder_63 : decode cX6_readOrder 63 = .ok (.if_icmp .ne 54, 3) := by decide +kernel
theorem dX6_readOrder_66 : decode cX6_readOrder 66 = .ok (.aload_n 0, 1) := by decide +kernel
theorem dX6_readOrder_67 : decode cX6_readOrder 67 = .ok (.getfield 29, 3) := by decide +kernel
theorem dX6_readOrder_70 : decode cX6_readOrder 70 = .ok (.iload_n 1, 1) := by decide +kernel
theorem dX6_readOrder_71 : decode cX6_readOrder 71 = .ok (.iconst 1, 1) := by decide +kernel
theorem dX6_readOrder_72 : decode cX6_readOrder 72 = .ok (.iadd, 1) := by decide +kernel
theorem dX6_readOrder_73 : decode cX6_readOrder 73 = .ok (.aload_n 0, 1) := by decide +kernel
theorem dX6_readOrder_74 : decode cX6_readOrder 74 = .ok (.iconst 0, 1) := by decide +kernel
theorem dX6_readOrder_75 : decode cX6_readOrder 75 = .ok (.bipush 9, 2) := by decide +kernel
theorem dX6_readOrder_77 : decode cX6_readOrder 77 = .ok (.invokevirtual 145, 3) := by decide +kernel
theorem dX6_readOrder_80 : decode cX6_readOrder 80 = .ok (.iastore, 1) := by decide +kernel
theorem dX6_readOrder_81 : decode cX6_readOrder 81 = .ok (.aload_n 0, 1) := by decide +kernel
theorem dX6_readOrder_82 : decode cX6_readOrder 82 = .ok (.aload_n 0, 1) := by decide +kernel
theorem dX6_readOrder_83 : decode cX6_readOrder 83 = .ok (.invokevirtual 138, 3) := by decide +kernel
theorem dX6_readOrder_86 : decode cX6_readOrder 86 = .ok (.bipush 61, 2) := by decide +kernel
theorem dX6_readOrder_88 : decode cX6_readOrder 88 = .ok (.if_icmp .ne 7, 3) := by decide +kernel
theorem dX6_readOrder_91 : decode cX6_readOrder 91 = .ok (.iconst 1, 1) := by decide +kernel
theorem dX6_readOrder_92 : decode cX6_readOrder 92 = .ok (.goto 4, 3) := by decide +kernel
theorem dX6_readOrder_95 : decode cX6_readOrder 95 = .ok (.iconst 0, 1) := by decide +kernel
theorem dX6_readOrder_96 : decode cX6_readOrder 96 = .ok (.invokevirtual 141, 3) := by decide +kernel
theorem dX6_readOrder_99 : decode cX6_readOrder 99 = .ok (.aload_n 0, 1) := by decide +kernel
theorem dX6_readOrder_100 : decode cX6_readOrder 100 = .ok (.getfield 29, 3) := by decide +kernel
theorem dX6_readOrder_103 : decode cX6_readOrder 103 = .ok (.iload_n 1, 1) := by decide +kernel
theorem dX6_readOrder_104 : decode cX6_readOrder 104 = .ok (.iconst 2, 1) := by decide +kernel
theorem dX6_readOrder_105 : decode cX6_readOrder 105 = .ok (.iadd, 1) := by decide +kernel
theorem dX6_readOrder_106 : decode cX6_readOrder 106 = .ok (.aload_n 0, 1) := by decide +kernel
theorem dX6_readOrder_107 : decode cX6_readOrder 107 = .ok (.iconst 0, 1) := by decide +kernel
theorem dX6_readOrder_108 : decode cX6_readOrder 108 = .ok (.bipush 11, 2) := by decide +kernel
theorem dX6_readOrder_110 : decode cX6_readOrder 110 = .ok (.invokevirtual 145, 3) := by decide +kernel
theorem dX6_readOrder_113 : decode cX6_readOrder 113 = .ok (.iastore, 1) := by decide +kernel
theorem dX6_readOrder_114 : decode cX6_readOrder 114 = .ok (.goto 18, 3) := by decide +kernel
theorem dX6_readOrder_117 : decode cX6_readOrder 117 = .ok (.aload_n 0, 1) := by decide +kernel
theorem dX6_readOrder_118 : decode cX6_readOrder 118 = .ok (.getfield 29, 3) := by decide +kernel
theorem dX6_readOrder_121 : decode cX6_readOrder 121 = .ok (.iload_n 1, 1) := by decide +kernel
theorem dX6_readOrder_122 : decode cX6_readOrder 122 = .ok (.iconst 1, 1) := by decide +kernel
theorem dX6_readOrder_123 : decode cX6_readOrder 123 = .ok (.iadd, 1) := by decide +kernel
theorem dX6_readOrder_124 : decode cX6_readOrder 124 = .ok (.aload_n 0, 1) := by decide +kernel
theorem dX6_readOrder_125 : decode cX6_readOrder 125 = .ok (.iconst 1, 1) := by decide +kernel
theorem dX6_readOrder_126 : decode cX6_readOrder 126 = .ok (.bipush 48, 2) := by decide +kernel
theorem dX6_readOrder_128 : decode cX6_readOrder 128 = .ok (.invokevirtual 145, 3) := by decide +kernel
theorem dX6_readOrder_131 : decode cX6_readOrder 131 = .ok (.iastore, 1) := by decide +kernel
theorem dX6_readOrder_132 : decode cX6_readOrder 132 = .ok (.aload_n 0, 1) := by decide +kernel
theorem dX6_readOrder_133 : decode cX6_readOrder 133 = .ok (.dup, 1) := by decide +kernel
theorem dX6_readOrder_134 : decode cX6_readOrder 134 = .ok (.getfield 148, 3) := by decide +kernel
theorem dX6_readOrder_137 : decode cX6_readOrder 137 = .ok (.iconst 1, 1) := by decide +kernel
theorem dX6_readOrder_138 : decode cX6_readOrder 138 = .ok (.iadd, 1) := by decide +kernel
theorem dX6_readOrder_139 : decode cX6_readOrder 139 = .ok (.putfield 148, 3) := by decide +kernel
theorem dX6_readOrder_142 : decode cX6_readOrder 142 = .ok (.return_, 1) := by decide +kernel
theorem dX6_readBuffer_0 : decode cX6_readBuffer 0 = .ok (.aload_n 0, 1) := by decide +kernel
theorem dX6_readBuffer_1 : decode cX6_readBuffer 1 = .ok (.iconst 0, 1) := by decide +kernel
theorem dX6_readBuffer_2 : decode cX6_readBuffer 2 = .ok (.putfield 148, 3) := by decide +kernel
theorem dX6_readBuffer_5 : decode cX6_readBuffer 5 = .ok (.aload_n 0, 1) := by decide +kernel
theorem dX6_readBuffer_6 : decode cX6_readBuffer 6 = .ok (.iconst 0, 1) := by decide +kernel
theorem dX6_readBuffer_7 : decode cX6_readBuffer 7 = .ok (.putfield 132, 3) := by decide +kernel
theorem dX6_readBuffer_10 : decode cX6_readBuffer 10 = .ok (.aload_n 0, 1) := by decide +kernel
theorem dX6_readBuffer_11 : decode cX6_readBuffer 11 = .ok (.iconst (-1), 1) := by decide +kernel
theorem dX6_readBuffer_12 : decode cX6_readBuffer 12 = .ok (.putfield 135, 3) := by decide +kernel
theorem dX6_readBuffer_15 : decode cX6_readBuffer 15 = .ok (.iconst 1, 1) := by decide +kernel
theorem dX6_readBuffer_16 : decode cX6_readBuffer 16 = .ok (.istore_n 1, 1) := by decide +kernel
theorem dX6_readBuffer_17 : decode cX6_readBuffer 17 = .ok (.iload_n 1, 1) := by decide +kernel
theorem dX6_readBuffer_18 : decode cX6_readBuffer 18 = .ok (.ifCond .eq 71, 3) := by decide +kernel
theorem dX6_readBuffer_21 : decode cX6_readBuffer 21 = .ok (.aload_n 0, 1) := by decide +kernel
theorem dX6_readBuffer_22 : decode cX6_readBuffer 22 = .ok (.invokevirtual 154, 3) := by decide +kernel
theorem dX6_readBuffer_25 : decode cX6_readBuffer 25 = .ok (.aload_n 0, 1) := by decide +kernel
theorem dX6_readBuffer_26 : decode cX6_readBuffer 26 = .ok (.getfield 135, 3) := by decide +kernel
theorem dX6_readBuffer_29 : decode cX6_readBuffer 29 = .ok (.iconst (-1), 1) := by decide +kernel
theorem dX6_readBuffer_30 : decode cX6_readBuffer 30 = .ok (.if_icmp .ne 18, 3) := by decide +kernel
theorem dX6_readBuffer_33 : decode cX6_readBuffer 33 = .ok (.aload_n 0, 1) := by decide +kernel
theorem dX6_readBuffer_34 : decode cX6_readBuffer 34 = .ok (.getfield 132, 3) := by decide +kernel
theorem dX6_readBuffer_37 : decode cX6_readBuffer 37 = .ok (.aload_n 0, 1) := by decide +kernel
theorem dX6_readBuffer_38 : decode cX6_readBuffer 38 = .ok (.getfield 129, 3) := by decide +kernel
theorem dX6_readBuffer_41 : decode cX6_readBuffer 41 = .ok (.if_icmp .ge 7, 3) := by decide +kernel
theorem dX6_readBuffer_44 : decode cX6_readBuffer 44 = .ok (.iconst 1, 1) := by decide +kernel
theorem dX6_readBuffer_45 : decode cX6_readBuffer 45 = .ok (.goto 4, 3) := by decide +kernel
theorem dX6_readBuffer_48 : decode cX6_readBuffer 48 = .ok (.iconst 0, 1) := by decide +kernel
theorem dX6_readBuffer_49 : decode cX6_readBuffer 49 = .ok (.istore_n 1, 1) := by decide +kernel
theorem dX6_readBuffer_50 : decode cX6_readBuffer 50 = .ok (.iload_n 1, 1) := by decide +kernel
theorem dX6_readBuffer_51 : decode cX6_readBuffer 51 = .ok (.ifCond .eq (-34), 3) := by decide +kernel
theorem dX6_readBuffer_54 : decode cX6_readBuffer 54 = .ok (.aload_n 0, 1) := by decide +kernel
theorem dX6_readBuffer_55 : decode cX6_readBuffer 55 = .ok (.aload_n 0, 1) := by decide +kernel
theorem dX6_readBuffer_56 : decode cX6_readBuffer 56 = .ok (.invokevirtual 138, 3) := by decide +kernel
theorem dX6_readBuffer_59 : decode cX6_readBuffer 59 = .ok (.bipush 59, 2) := by decide +kernel
theorem dX6_readBuffer_61 : decode cX6_readBuffer 61 = .ok (.if_icmp .ne 7, 3) := by decide +kernel
theorem dX6_readBuffer_64 : decode cX6_readBuffer 64 = .ok (.iconst 1, 1) := by decide +kernel
theorem dX6_readBuffer_65 : decode cX6_readBuffer 65 = .ok (.goto 4, 3) := by decide +kernel
theorem dX6_readBuffer_68 : decode cX6_readBuffer 68 = .ok (.iconst 0, 1) := by decide +kernel
theorem dX6_readBuffer_69 : decode cX6_readBuffer 69 = .ok (.invokevirtual 141, 3) := by decide +kernel
theorem dX6_readBuffer_72 : decode cX6_readBuffer 72 = .ok (.aload_n 0, 1) := by decide +kernel
theorem dX6_readBuffer_73 : decode cX6_readBuffer 73 = .ok (.getfield 135, 3) := by decide +kernel
theorem dX6_readBuffer_76 : decode cX6_readBuffer 76 = .ok (.iconst (-1), 1) := by decide +kernel
theorem dX6_readBuffer_77 : decode cX6_readBuffer 77 = .ok (.if_icmp .ne 7, 3) := by decide +kernel
theorem dX6_readBuffer_80 : decode cX6_readBuffer 80 = .ok (.iconst 1, 1) := by decide +kernel
theorem dX6_readBuffer_81 : decode cX6_readBuffer 81 = .ok (.goto 4, 3) := by decide +kernel
theorem dX6_readBuffer_84 : decode cX6_readBuffer 84 = .ok (.iconst 0, 1) := by decide +kernel
theorem dX6_readBuffer_85 : decode cX6_readBuffer 85 = .ok (.istore_n 1, 1) := by decide +kernel
theorem dX6_readBuffer_86 : decode cX6_readBuffer 86 = .ok (.goto (-69), 3) := by decide +kernel
theorem dX6_readBuffer_89 : decode cX6_readBuffer 89 = .ok (.aload_n 0, 1) := by decide +kernel
theorem dX6_readBuffer_90 : decode cX6_readBuffer 90 = .ok (.getfield 135, 3) := by decide +kernel
theorem dX6_readBuffer_93 : decode cX6_readBuffer 93 = .ok (.ireturn, 1) := by decide +kernel
theorem dX6_firstError_0 : decode cX6_firstError 0 = .ok (.aload_n 0, 1) := by decide +kernel
theorem dX6_firstError_1 : decode cX6_firstError 1 = .ok (.iconst 0, 1) := by decide +kernel
theorem dX6_firstError_2 : decode cX6_firstError 2 = .ok (.putfield 36, 3) := by decide +kernel
theorem dX6_firstError_5 : decode cX6_firstError 5 = .ok (.aload_n 0, 1) := by decide +kernel
theorem dX6_firstError_6 : decode cX6_firstError 6 = .ok (.invokevirtual 157, 3) := by decide +kernel
theorem dX6_firstError_9 : decode cX6_firstError 9 = .ok (.istore_n 1, 1) := by decide +kernel
theorem dX6_firstError_10 : decode cX6_firstError 10 = .ok (.iload_n 1, 1) := by decide +kernel
theorem dX6_firstError_11 : decode cX6_firstError 11 = .ok (.iconst (-1), 1) := by decide +kernel
theorem dX6_firstError_12 : decode cX6_firstError 12 = .ok (.if_icmp .ne 10, 3) := by decide +kernel
theorem dX6_firstError_15 : decode cX6_firstError 15 = .ok (.aload_n 0, 1) := by decide +kernel
theorem dX6_firstError_16 : decode cX6_firstError 16 = .ok (.getfield 129, 3) := by decide +kernel
theorem dX6_firstError_19 : decode cX6_firstError 19 = .ok (.goto 4, 3) := by decide +kernel
theorem dX6_firstError_22 : decode cX6_firstError 22 = .ok (.iload_n 1, 1) := by decide +kernel
theorem dX6_firstError_23 : decode cX6_firstError 23 = .ok (.ireturn, 1) := by decide +kernel
theorem dX6_does_0 : decode cX6_does 0 = .ok (.aload_n 0, 1) := by decide +kernel
theorem dX6_does_1 : decode cX6_does 1 = .ok (.getfield 29, 3) := by decide +kernel
theorem dX6_does_4 : decode cX6_does 4 = .ok (.iload_n 1, 1) := by decide +kernel
theorem dX6_does_5 : decode cX6_does 5 = .ok (.iaload, 1) := by decide +kernel
theorem dX6_does_6 : decode cX6_does 6 = .ok (.istore_n 2, 1) := by decide +kernel
theorem dX6_does_7 : decode cX6_does 7 = .ok (.aload_n 0, 1) := by decide +kernel
theorem dX6_does_8 : decode cX6_does 8 = .ok (.getfield 29, 3) := by decide +kernel
theorem dX6_does_11 : decode cX6_does 11 = .ok (.iload_n 1, 1) := by decide +kernel
theorem dX6_does_12 : decode cX6_does 12 = .ok (.iconst 1, 1) := by decide +kernel
theorem dX6_does_13 : decode cX6_does 13 = .ok (.iadd, 1) := by decide +kernel
theorem dX6_does_14 : decode cX6_does 14 = .ok (.iaload, 1) := by decide +kernel
theorem dX6_does_15 : decode cX6_does 15 = .ok (.istore_n 3, 1) := by decide +kernel
theorem dX6_does_16 : decode cX6_does 16 = .ok (.aload_n 0, 1) := by decide +kernel
theorem dX6_does_17 : decode cX6_does 17 = .ok (.getfield 29, 3) := by decide +kernel
theorem dX6_does_20 : decode cX6_does 20 = .ok (.iload_n 1, 1) := by decide +kernel
theorem dX6_does_21 : decode cX6_does 21 = .ok (.iconst 2, 1) := by decide +kernel
theorem dX6_does_22 : decode cX6_does 22 = .ok (.iadd, 1) := by decide +kernel
theorem dX6_does_23 : decode cX6_does 23 = .ok (.iaload, 1) := by decide +kernel
theorem dX6_does_24 : decode cX6_does 24 = .ok (.istore 4, 2) := by decide +kernel
theorem dX6_does_26 : decode cX6_does 26 = .ok (.iload_n 2, 1) := by decide +kernel
theorem dX6_does_27 : decode cX6_does 27 = .ok (.bipush 115, 2) := by decide +kernel
theorem dX6_does_29 : decode cX6_does 29 = .ok (.if_icmp .ne 22, 3) := by decide +kernel
theorem dX6_does_32 : decode cX6_does 32 = .ok (.aload_n 0, 1) := by decide +kernel
theorem dX6_does_33 : decode cX6_does 33 = .ok (.getfield 7, 3) := by decide +kernel
theorem dX6_does_36 : decode cX6_does 36 = .ok (.iconst 4, 1) := by decide +kernel
theorem dX6_does_37 : decode cX6_does 37 = .ok (.iaload, 1) := by decide +kernel
theorem dX6_does_38 : decode cX6_does 38 = .ok (.bipush 10, 2) := by decide +kernel
theorem dX6_does_40 : decode cX6_does 40 = .ok (.if_icmp .ge 7, 3) := by decide +kernel
theorem dX6_does_43 : decode cX6_does 43 = .ok (.iconst 1, 1) := by decide +kernel
theorem dX6_does_44 : decode cX6_does 44 = .ok (.goto 50, 3) := by decide +kernel
theorem dX6_does_47 : decode cX6_does 47 = .ok (.iconst 0, 1) := by decide +kernel
theorem dX6_does_48 : decode cX6_does 48 = .ok (.goto 46, 3) := by decide +kernel
theorem dX6_does_51 : decode cX6_does 51 = .ok (.iload_n 2, 1) := by decide +kernel
theorem dX6_does_52 : decode cX6_does 52 = .ok (.bipush 112, 2) := by decide +kernel
theorem dX6_does_54 : decode cX6_does 54 = .ok (.if_icmp .ne 21, 3) := by decide +kernel
theorem dX6_does_57 : decode cX6_does 57 = .ok (.aload_n 0, 1) := by decide +kernel
theorem dX6_does_58 : decode cX6_does 58 = .ok (.iload_n 3, 1) := by decide +kernel
theorem dX6_does_59 : decode cX6_does 59 = .ok (.iload 4, 2) := by decide +kernel
theorem dX6_does_61 : decode cX6_does 61 = .ok (.invokevirtual 111, 3) := by decide +kernel
theorem dX6_does_64 : decode cX6_does 64 = .ok (.ifCond .ne 7, 3) := by decide +kernel
theorem dX6_does_67 : decode cX6_does 67 = .ok (.iconst 1, 1) := by decide +kernel
theorem dX6_does_68 : decode cX6_does 68 = .ok (.goto 26, 3) := by decide +kernel
theorem dX6_does_71 : decode cX6_does 71 = .ok (.iconst 0, 1) := by decide +kernel
theorem dX6_does_72 : decode cX6_does 72 = .ok (.goto 22, 3) := by decide +kernel
theorem dX6_does_75 : decode cX6_does 75 = .ok (.aload_n 0, 1) := by decide +kernel
theorem dX6_does_76 : decode cX6_does 76 = .ok (.getfield 7, 3) := by decide +kernel
theorem dX6_does_79 : decode cX6_does 79 = .ok (.iconst 3, 1) := by decide +kernel
theorem dX6_does_80 : decode cX6_does 80 = .ok (.iaload, 1) := by decide +kernel
theorem dX6_does_81 : decode cX6_does 81 = .ok (.iload_n 3, 1) := by decide +kernel
theorem dX6_does_82 : decode cX6_does 82 = .ok (.iadd, 1) := by decide +kernel
theorem dX6_does_83 : decode cX6_does 83 = .ok (.sipush 9999, 3) := by decide +kernel
theorem dX6_does_86 : decode cX6_does 86 = .ok (.if_icmp .gt 7, 3) := by decide +kernel
theorem dX6_does_89 : decode cX6_does 89 = .ok (.iconst 1, 1) := by decide +kernel
theorem dX6_does_90 : decode cX6_does 90 = .ok (.goto 4, 3) := by decide +kernel
theorem dX6_does_93 : decode cX6_does 93 = .ok (.iconst 0, 1) := by decide +kernel
theorem dX6_does_94 : decode cX6_does 94 = .ok (.istore 5, 2) := by decide +kernel
theorem dX6_does_96 : decode cX6_does 96 = .ok (.iload 5, 2) := by decide +kernel
theorem dX6_does_98 : decode cX6_does 98 = .ok (.ifCond .eq 36, 3) := by decide +kernel
theorem dX6_does_101 : decode cX6_does 101 = .ok (.iload_n 2, 1) := by decide +kernel
theorem dX6_does_102 : decode cX6_does 102 = .ok (.bipush 115, 2) := by decide +kernel
theorem dX6_does_104 : decode cX6_does 104 = .ok (.if_icmp .ne 30, 3) := by decide +kernel
theorem dX6_does_107 : decode cX6_does 107 = .ok (.aload_n 0, 1) := by decide +kernel
theorem dX6_does_108 : decode cX6_does 108 = .ok (.iload_n 3, 1) := by decide +kernel
theorem dX6_does_109 : decode cX6_does 109 = .ok (.iload 4, 2) := by decide +kernel
theorem dX6_does_111 : decode cX6_does 111 = .ok (.aload_n 0, 1) := by decide +kernel
theorem dX6_does_112 : decode cX6_does 112 = .ok (.getfield 29, 3) := by decide +kernel
theorem dX6_does_115 : decode cX6_does 115 = .ok (.iload_n 1, 1) := by decide +kernel
theorem dX6_does_116 : decode cX6_does 116 = .ok (.iconst 3, 1) := by decide +kernel
theorem dX6_does_117 : decode cX6_does 117 = .ok (.iadd, 1) := by decide +kernel
theorem dX6_does_118 : decode cX6_does 118 = .ok (.iaload, 1) := by decide +kernel
theorem dX6_does_119 : decode cX6_does 119 = .ok (.aload_n 0, 1) := by decide +kernel
theorem dX6_does_120 : decode cX6_does 120 = .ok (.getfield 29, 3) := by decide +kernel
theorem dX6_does_123 : decode cX6_does 123 = .ok (.iload_n 1, 1) := by decide +kernel
theorem dX6_does_124 : decode cX6_does 124 = .ok (.iconst 4, 1) := by decide +kernel
theorem dX6_does_125 : decode cX6_does 125 = .ok (.iadd, 1) := by decide +kernel
theorem dX6_does_126 : decode cX6_does 126 = .ok (.iaload, 1) := by decide +kernel
theorem dX6_does_127 : decode cX6_does 127 = .ok (.invokevirtual 98, 3) := by decide +kernel
theorem dX6_does_130 : decode cX6_does 130 = .ok (.pop, 1) := by decide +kernel
theorem dX6_does_131 : decode cX6_does 131 = .ok (.goto 36, 3) := by decide +kernel
theorem dX6_does_134 : decode cX6_does 134 = .ok (.iload 5, 2) := by decide +kernel
theorem dX6_does_136 : decode cX6_does 136 = .ok (.ifCond .eq 20, 3) := by decide +kernel
theorem dX6_does_139 : decode cX6_does 139 = .ok (.iload_n 2, 1) := by decide +kernel
theorem dX6_does_140 : decode cX6_does 140 = .ok (.bipush 112, 2) := by decide +kernel
theorem dX6_does_142 : decode cX6_does 142 = .ok (.if_icmp .ne 14, 3) := by decide +kernel
theorem dX6_does_145 : decode cX6_does 145 = .ok (.aload_n 0, 1) := by decide +kernel
theorem dX6_does_146 : decode cX6_does 146 = .ok (.iload_n 3, 1) := by decide +kernel
theorem dX6_does_147 : decode cX6_does 147 = .ok (.iconst 4, 1) := by decide +kernel
theorem dX6_does_148 : decode cX6_does 148 = .ok (.iload 4, 2) := by decide +kernel
theorem dX6_does_150 : decode cX6_does 150 = .ok (.invokevirtual 78, 3) := by decide +kernel
theorem dX6_does_153 : decode cX6_does 153 = .ok (.goto 14, 3) := by decide +kernel
theorem dX6_does_156 : decode cX6_does 156 = .ok (.iload 5, 2) := by decide +kernel
theorem dX6_does_158 : decode cX6_does 158 = .ok (.ifCond .eq 9, 3) := by decide +kernel
theorem dX6_does_161 : decode cX6_does 161 = .ok (.aload_n 0, 1) := by decide +kernel
theorem dX6_does_162 : decode cX6_does 162 = .ok (.iload_n 3, 1) := by decide +kernel
theorem dX6_does_163 : decode cX6_does 163 = .ok (.invokevirtual 123, 3) := by decide +kernel
theorem dX6_does_166 : decode cX6_does 166 = .ok (.pop, 1) := by decide +kernel
theorem dX6_does_167 : decode cX6_does 167 = .ok (.iload 5, 2) := by decide +kernel
theorem dX6_does_169 : decode cX6_does 169 = .ok (.ireturn, 1) := by decide +kernel
theorem dX6_open_0 : decode cX6_open 0 = .ok (.aload_n 0, 1) := by decide +kernel
theorem dX6_open_1 : decode cX6_open 1 = .ok (.aload_n 0, 1) := by decide +kernel
theorem dX6_open_2 : decode cX6_open 2 = .ok (.invokevirtual 157, 3) := by decide +kernel
theorem dX6_open_5 : decode cX6_open 5 = .ok (.iconst (-1), 1) := by decide +kernel
theorem dX6_open_6 : decode cX6_open 6 = .ok (.if_icmp .ne 7, 3) := by decide +kernel
theorem dX6_open_9 : decode cX6_open 9 = .ok (.iconst 0, 1) := by decide +kernel
theorem dX6_open_10 : decode cX6_open 10 = .ok (.goto 4, 3) := by decide +kernel
theorem dX6_open_13 : decode cX6_open 13 = .ok (.iconst 1, 1) := by decide +kernel
theorem dX6_open_14 : decode cX6_open 14 = .ok (.putfield 36, 3) := by decide +kernel
theorem dX6_open_17 : decode cX6_open 17 = .ok (.aload_n 0, 1) := by decide +kernel
theorem dX6_open_18 : decode cX6_open 18 = .ok (.getfield 36, 3) := by decide +kernel
theorem dX6_open_21 : decode cX6_open 21 = .ok (.ifCond .le 5, 3) := by decide +kernel
theorem dX6_open_24 : decode cX6_open 24 = .ok (.iconst 0, 1) := by decide +kernel
theorem dX6_open_25 : decode cX6_open 25 = .ok (.ireturn, 1) := by decide +kernel
theorem dX6_open_26 : decode cX6_open 26 = .ok (.aload_n 0, 1) := by decide +kernel
theorem dX6_open_27 : decode cX6_open 27 = .ok (.invokevirtual 95, 3) := by decide +kernel
theorem dX6_open_30 : decode cX6_open 30 = .ok (.iconst 0, 1) := by decide +kernel
theorem dX6_open_31 : decode cX6_open 31 = .ok (.istore_n 1, 1) := by decide +kernel
theorem dX6_open_32 : decode cX6_open 32 = .ok (.iload_n 1, 1) := by decide +kernel
theorem dX6_open_33 : decode cX6_open 33 = .ok (.aload_n 0, 1) := by decide +kernel
theorem dX6_open_34 : decode cX6_open 34 = .ok (.getfield 148, 3) := by decide +kernel
theorem dX6_open_37 : decode cX6_open 37 = .ok (.if_icmp .ge 19, 3) := by decide +kernel
theorem dX6_open_40 : decode cX6_open 40 = .ok (.aload_n 0, 1) := by decide +kernel
theorem dX6_open_41 : decode cX6_open 41 = .ok (.iconst 5, 1) := by decide +kernel
theorem dX6_open_42 : decode cX6_open 42 = .ok (.iload_n 1, 1) := by decide +kernel
theorem dX6_open_43 : decode cX6_open 43 = .ok (.imul, 1) := by decide +kernel
theorem dX6_open_44 : decode cX6_open 44 = .ok (.invokevirtual 160, 3) := by decide +kernel
theorem dX6_open_47 : decode cX6_open 47 = .ok (.ifCond .eq 9, 3) := by decide +kernel
theorem dX6_open_50 : decode cX6_open 50 = .ok (.iinc 1 1, 3) := by decide +kernel
theorem dX6_open_53 : decode cX6_open 53 = .ok (.goto (-21), 3) := by decide +kernel
theorem dX6_open_56 : decode cX6_open 56 = .ok (.aload_n 0, 1) := by decide +kernel
theorem dX6_open_57 : decode cX6_open 57 = .ok (.iconst 0, 1) := by decide +kernel
theorem dX6_open_58 : decode cX6_open 58 = .ok (.putfield 129, 3) := by decide +kernel
theorem dX6_open_61 : decode cX6_open 61 = .ok (.iload_n 1, 1) := by decide +kernel
theorem dX6_open_62 : decode cX6_open 62 = .ok (.ireturn, 1) := by decide +kernel
theorem dX6_keep_0 : decode cX6_keep 0 = .ok (.aload_n 0, 1) := by decide +kernel
theorem dX6_keep_1 : decode cX6_keep 1 = .ok (.iload_n 1, 1) := by decide +kernel
theorem dX6_keep_2 : decode cX6_keep 2 = .ok (.iconst 0, 1) := by decide +kernel
theorem dX6_keep_3 : decode cX6_keep 3 = .ok (.iconst 1, 1) := by decide +kernel
theorem dX6_keep_4 : decode cX6_keep 4 = .ok (.invokestatic 40, 3) := by decide +kernel
theorem dX6_keep_7 : decode cX6_keep 7 = .ok (.ifCond .eq 7, 3) := by decide +kernel
theorem dX6_keep_10 : decode cX6_keep 10 = .ok (.iconst 0, 1) := by decide +kernel
theorem dX6_keep_11 : decode cX6_keep 11 = .ok (.goto 4, 3) := by decide +kernel
theorem dX6_keep_14 : decode cX6_keep 14 = .ok (.iconst 1, 1) := by decide +kernel
theorem dX6_keep_15 : decode cX6_keep 15 = .ok (.putfield 36, 3) := by decide +kernel
theorem dX6_keep_18 : decode cX6_keep 18 = .ok (.aload_n 0, 1) := by decide +kernel
theorem dX6_keep_19 : decode cX6_keep 19 = .ok (.getfield 36, 3) := by decide +kernel
theorem dX6_keep_22 : decode cX6_keep 22 = .ok (.ifCond .le 5, 3) := by decide +kernel
theorem dX6_keep_25 : decode cX6_keep 25 = .ok (.iconst 0, 1) := by decide +kernel
theorem dX6_keep_26 : decode cX6_keep 26 = .ok (.ireturn, 1) := by decide +kernel
theorem dX6_keep_27 : decode cX6_keep 27 = .ok (.aload_n 0, 1) := by decide +kernel
theorem dX6_keep_28 : decode cX6_keep 28 = .ok (.getfield 19, 3) := by decide +kernel
theorem dX6_keep_31 : decode cX6_keep 31 = .ok (.iload_n 1, 1) := by decide +kernel
theorem dX6_keep_32 : decode cX6_keep 32 = .ok (.iconst 1, 1) := by decide +kernel
theorem dX6_keep_33 : decode cX6_keep 33 = .ok (.bastore, 1) := by decide +kernel
theorem dX6_keep_34 : decode cX6_keep 34 = .ok (.iconst 0, 1) := by decide +kernel
theorem dX6_keep_35 : decode cX6_keep 35 = .ok (.istore_n 2, 1) := by decide +kernel
theorem dX6_keep_36 : decode cX6_keep 36 = .ok (.iload_n 2, 1) := by decide +kernel
theorem dX6_keep_37 : decode cX6_keep 37 = .ok (.bipush 119, 2) := by decide +kernel
theorem dX6_keep_39 : decode cX6_keep 39 = .ok (.if_icmp .ge 26, 3) := by decide +kernel
theorem dX6_keep_42 : decode cX6_keep 42 = .ok (.aload_n 0, 1) := by decide +kernel
theorem dX6_keep_43 : decode cX6_keep 43 = .ok (.getfield 16, 3) := by decide +kernel
theorem dX6_keep_46 : decode cX6_keep 46 = .ok (.iload_n 1, 1) := by decide +kernel
theorem dX6_keep_47 : decode cX6_keep 47 = .ok (.bipush 119, 2) := by decide +kernel
theorem dX6_keep_49 : decode cX6_keep 49 = .ok (.imul, 1) := by decide +kernel
theorem dX6_keep_50 : decode cX6_keep 50 = .ok (.iload_n 2, 1) := by decide +kernel
theorem dX6_keep_51 : decode cX6_keep 51 = .ok (.iadd, 1) := by decide +kernel
theorem dX6_keep_52 : decode cX6_keep 52 = .ok (.aload_n 0, 1) := by decide +kernel
theorem dX6_keep_53 : decode cX6_keep 53 = .ok (.getfield 7, 3) := by decide +kernel
theorem dX6_keep_56 : decode cX6_keep 56 = .ok (.iload_n 2, 1) := by decide +kernel
theorem dX6_keep_57 : decode cX6_keep 57 = .ok (.iaload, 1) := by decide +kernel
theorem dX6_keep_58 : decode cX6_keep 58 = .ok (.iastore, 1) := by decide +kernel
theorem dX6_keep_59 : decode cX6_keep 59 = .ok (.iinc 2 1, 3) := by decide +kernel
theorem dX6_keep_62 : decode cX6_keep 62 = .ok (.goto (-26), 3) := by decide +kernel
theorem dX6_keep_65 : decode cX6_keep 65 = .ok (.aload_n 0, 1) := by decide +kernel
theorem dX6_keep_66 : decode cX6_keep 66 = .ok (.getfield 7, 3) := by decide +kernel
theorem dX6_keep_69 : decode cX6_keep 69 = .ok (.iconst 3, 1) := by decide +kernel
theorem dX6_keep_70 : decode cX6_keep 70 = .ok (.iaload, 1) := by decide +kernel
theorem dX6_keep_71 : decode cX6_keep 71 = .ok (.ireturn, 1) := by decide +kernel
theorem dX6_goBack_0 : decode cX6_goBack 0 = .ok (.iload_n 1, 1) := by decide +kernel
theorem dX6_goBack_1 : decode cX6_goBack 1 = .ok (.iconst 0, 1) := by decide +kernel
theorem dX6_goBack_2 : decode cX6_goBack 2 = .ok (.iconst 1, 1) := by decide +kernel
theorem dX6_goBack_3 : decode cX6_goBack 3 = .ok (.invokestatic 40, 3) := by decide +kernel
theorem dX6_goBack_6 : decode cX6_goBack 6 = .ok (.ifCond .ne 10, 3) := by decide +kernel
theorem dX6_goBack_9 : decode cX6_goBack 9 = .ok (.aload_n 0, 1) := by decide +kernel
theorem dX6_goBack_10 : decode cX6_goBack 10 = .ok (.iconst 1, 1) := by decide +kernel
theorem dX6_goBack_11 : decode cX6_goBack 11 = .ok (.putfield 36, 3) := by decide +kernel
theorem dX6_goBack_14 : decode cX6_goBack 14 = .ok (.iconst 0, 1) := by decide +kernel
theorem dX6_goBack_15 : decode cX6_goBack 15 = .ok (.ireturn, 1) := by decide +kernel
theorem dX6_goBack_16 : decode cX6_goBack 16 = .ok (.aload_n 0, 1) := by decide +kernel
theorem dX6_goBack_17 : decode cX6_goBack 17 = .ok (.aload_n 0, 1) := by decide +kernel
theorem dX6_goBack_18 : decode cX6_goBack 18 = .ok (.getfield 19, 3) := by decide +kernel
theorem dX6_goBack_21 : decode cX6_goBack 21 = .ok (.iload_n 1, 1) := by decide +kernel
theorem dX6_goBack_22 : decode cX6_goBack 22 = .ok (.baload, 1) := by decide +kernel
theorem dX6_goBack_23 : decode cX6_goBack 23 = .ok (.ifCond .eq 7, 3) := by decide +kernel
theorem dX6_goBack_26 : decode cX6_goBack 26 = .ok (.iconst 0, 1) := by decide +kernel
theorem dX6_goBack_27 : decode cX6_goBack 27 = .ok (.goto 4, 3) := by decide +kernel
theorem dX6_goBack_30 : decode cX6_goBack 30 = .ok (.iconst 2, 1) := by decide +kernel
theorem dX6_goBack_31 : decode cX6_goBack 31 = .ok (.putfield 36, 3) := by decide +kernel
theorem dX6_goBack_34 : decode cX6_goBack 34 = .ok (.aload_n 0, 1) := by decide +kernel
theorem dX6_goBack_35 : decode cX6_goBack 35 = .ok (.getfield 36, 3) := by decide +kernel
theorem dX6_goBack_38 : decode cX6_goBack 38 = .ok (.ifCond .le 5, 3) := by decide +kernel
theorem dX6_goBack_41 : decode cX6_goBack 41 = .ok (.iconst 0, 1) := by decide +kernel
theorem dX6_goBack_42 : decode cX6_goBack 42 = .ok (.ireturn, 1) := by decide +kernel
theorem dX6_goBack_43 : decode cX6_goBack 43 = .ok (.aload_n 0, 1) := by decide +kernel
theorem dX6_goBack_44 : decode cX6_goBack 44 = .ok (.invokevirtual 95, 3) := by decide +kernel
theorem dX6_goBack_47 : decode cX6_goBack 47 = .ok (.iconst 0, 1) := by decide +kernel
theorem dX6_goBack_48 : decode cX6_goBack 48 = .ok (.istore_n 2, 1) := by decide +kernel
theorem dX6_goBack_49 : decode cX6_goBack 49 = .ok (.iload_n 2, 1) := by decide +kernel
theorem dX6_goBack_50 : decode cX6_goBack 50 = .ok (.bipush 119, 2) := by decide +kernel
theorem dX6_goBack_52 : decode cX6_goBack 52 = .ok (.if_icmp .ge 26, 3) := by decide +kernel
theorem dX6_goBack_55 : decode cX6_goBack 55 = .ok (.aload_n 0, 1) := by decide +kernel
theorem dX6_goBack_56 : decode cX6_goBack 56 = .ok (.getfield 7, 3) := by decide +kernel
theorem dX6_goBack_59 : decode cX6_goBack 59 = .ok (.iload_n 2, 1) := by decide +kernel
theorem dX6_goBack_60 : decode cX6_goBack 60 = .ok (.aload_n 0, 1) := by decide +kernel
theorem dX6_goBack_61 : decode cX6_goBack 61 = .ok (.getfield 16, 3) := by decide +kernel
theorem dX6_goBack_64 : decode cX6_goBack 64 = .ok (.iload_n 1, 1) := by decide +kernel
theorem dX6_goBack_65 : decode cX6_goBack 65 = .ok (.bipush 119, 2) := by decide +kernel
theorem dX6_goBack_67 : decode cX6_goBack 67 = .ok (.imul, 1) := by decide +kernel
theorem dX6_goBack_68 : decode cX6_goBack 68 = .ok (.iload_n 2, 1) := by decide +kernel
theorem dX6_goBack_69 : decode cX6_goBack 69 = .ok (.iadd, 1) := by decide +kernel
theorem dX6_goBack_70 : decode cX6_goBack 70 = .ok (.iaload, 1) := by decide +kernel
theorem dX6_goBack_71 : decode cX6_goBack 71 = .ok (.iastore, 1) := by decide +kernel
theorem dX6_goBack_72 : decode cX6_goBack 72 = .ok (.iinc 2 1, 3) := by decide +kernel
theorem dX6_goBack_75 : decode cX6_goBack 75 = .ok (.goto (-26), 3) := by decide +kernel
theorem dX6_goBack_78 : decode cX6_goBack 78 = .ok (.aload_n 0, 1) := by decide +kernel
theorem dX6_goBack_79 : decode cX6_goBack 79 = .ok (.getfield 7, 3) := by decide +kernel
theorem dX6_goBack_82 : decode cX6_goBack 82 = .ok (.iconst 3, 1) := by decide +kernel
theorem dX6_goBack_83 : decode cX6_goBack 83 = .ok (.iaload, 1) := by decide +kernel
theorem dX6_goBack_84 : decode cX6_goBack 84 = .ok (.ireturn, 1) := by decide +kernel
theorem dX6_fee_0 : decode cX6_fee 0 = .ok (.aload_n 0, 1) := by decide +kernel
theorem dX6_fee_1 : decode cX6_fee 1 = .ok (.iload_n 1, 1) := by decide +kernel
theorem dX6_fee_2 : decode cX6_fee 2 = .ok (.bipush 6, 2) := by decide +kernel
theorem dX6_fee_4 : decode cX6_fee 4 = .ok (.invokevirtual 47, 3) := by decide +kernel
theorem dX6_fee_7 : decode cX6_fee 7 = .ok (.aload_n 0, 1) := by decide +kernel
theorem dX6_fee_8 : decode cX6_fee 8 = .ok (.getfield 7, 3) := by decide +kernel
theorem dX6_fee_11 : decode cX6_fee 11 = .ok (.iconst 2, 1) := by decide +kernel
theorem dX6_fee_12 : decode cX6_fee 12 = .ok (.iaload, 1) := by decide +kernel
theorem dX6_fee_13 : decode cX6_fee 13 = .ok (.imul, 1) := by decide +kernel
theorem dX6_fee_14 : decode cX6_fee 14 = .ok (.bipush 10, 2) := by decide +kernel
theorem dX6_fee_16 : decode cX6_fee 16 = .ok (.idiv, 1) := by decide +kernel
theorem dX6_fee_17 : decode cX6_fee 17 = .ok (.ireturn, 1) := by decide +kernel
theorem dX6_toldStall_0 : decode cX6_toldStall 0 = .ok (.iload_n 2, 1) := by decide +kernel
theorem dX6_toldStall_1 : decode cX6_toldStall 1 = .ok (.bipush 8, 2) := by decide +kernel
theorem dX6_toldStall_3 : decode cX6_toldStall 3 = .ok (.if_icmp .ge 12, 3) := by decide +kernel
theorem dX6_toldStall_6 : decode cX6_toldStall 6 = .ok (.aload_n 0, 1) := by decide +kernel
theorem dX6_toldStall_7 : decode cX6_toldStall 7 = .ok (.iload_n 1, 1) := by decide +kernel
theorem dX6_toldStall_8 : decode cX6_toldStall 8 = .ok (.iload_n 2, 1) := by decide +kernel
theorem dX6_toldStall_9 : decode cX6_toldStall 9 = .ok (.invokevirtual 47, 3) := by decide +kernel
theorem dX6_toldStall_12 : decode cX6_toldStall 12 = .ok (.goto 22, 3) := by decide +kernel
theorem dX6_toldStall_15 : decode cX6_toldStall 15 = .ok (.iload_n 2, 1) := by decide +kernel
theorem dX6_toldStall_16 : decode cX6_toldStall 16 = .ok (.bipush 8, 2) := by decide +kernel
theorem dX6_toldStall_18 : decode cX6_toldStall 18 = .ok (.if_icmp .ne 11, 3) := by decide +kernel
theorem dX6_toldStall_21 : decode cX6_toldStall 21 = .ok (.aload_n 0, 1) := by decide +kernel
theorem dX6_toldStall_22 : decode cX6_toldStall 22 = .ok (.iload_n 1, 1) := by decide +kernel
theorem dX6_toldStall_23 : decode cX6_toldStall 23 = .ok (.invokevirtual 66, 3) := by decide +kernel
theorem dX6_toldStall_26 : decode cX6_toldStall 26 = .ok (.goto 8, 3) := by decide +kernel
theorem dX6_toldStall_29 : decode cX6_toldStall 29 = .ok (.aload_n 0, 1) := by decide +kernel
theorem dX6_toldStall_30 : decode cX6_toldStall 30 = .ok (.iload_n 1, 1) := by decide +kernel
theorem dX6_toldStall_31 : decode cX6_toldStall 31 = .ok (.invokevirtual 163, 3) := by decide +kernel
theorem dX6_toldStall_34 : decode cX6_toldStall 34 = .ok (.ireturn, 1) := by decide +kernel
theorem dX6_stallOf_0 : decode cX6_stallOf 0 = .ok (.aload_n 0, 1) := by decide +kernel
theorem dX6_stallOf_1 : decode cX6_stallOf 1 = .ok (.aload_n 0, 1) := by decide +kernel
theorem dX6_stallOf_2 : decode cX6_stallOf 2 = .ok (.iload_n 1, 1) := by decide +kernel
theorem dX6_stallOf_3 : decode cX6_stallOf 3 = .ok (.invokevirtual 102, 3) := by decide +kernel
theorem dX6_stallOf_6 : decode cX6_stallOf 6 = .ok (.ifCond .ne 7, 3) := by decide +kernel
theorem dX6_stallOf_9 : decode cX6_stallOf 9 = .ok (.iconst 1, 1) := by decide +kernel
theorem dX6_stallOf_10 : decode cX6_stallOf 10 = .ok (.goto 18, 3) := by decide +kernel
theorem dX6_stallOf_13 : decode cX6_stallOf 13 = .ok (.iload_n 2, 1) := by decide +kernel
theorem dX6_stallOf_14 : decode cX6_stallOf 14 = .ok (.iconst 0, 1) := by decide +kernel
theorem dX6_stallOf_15 : decode cX6_stallOf 15 = .ok (.bipush 9, 2) := by decide +kernel
theorem dX6_stallOf_17 : decode cX6_stallOf 17 = .ok (.invokestatic 40, 3) := by decide +kernel
theorem dX6_stallOf_20 : decode cX6_stallOf 20 = .ok (.ifCond .eq 7, 3) := by decide +kernel
theorem dX6_stallOf_23 : decode cX6_stallOf 23 = .ok (.iconst 0, 1) := by decide +kernel
theorem dX6_stallOf_24 : decode cX6_stallOf 24 = .ok (.goto 4, 3) := by decide +kernel
theorem dX6_stallOf_27 : decode cX6_stallOf 27 = .ok (.iconst 2, 1) := by decide +kernel
theorem dX6_stallOf_28 : decode cX6_stallOf 28 = .ok (.putfield 36, 3) := by decide +kernel
theorem dX6_stallOf_31 : decode cX6_stallOf 31 = .ok (.aload_n 0, 1) := by decide +kernel
theorem dX6_stallOf_32 : decode cX6_stallOf 32 = .ok (.getfield 36, 3) := by decide +kernel
theorem dX6_stallOf_35 : decode cX6_stallOf 35 = .ok (.ifCond .le 7, 3) := by decide +kernel
theorem dX6_stallOf_38 : decode cX6_stallOf 38 = .ok (.iconst 0, 1) := by decide +kernel
theorem dX6_stallOf_39 : decode cX6_stallOf 39 = .ok (.goto 9, 3) := by decide +kernel
theorem dX6_stallOf_42 : decode cX6_stallOf 42 = .ok (.aload_n 0, 1) := by decide +kernel
theorem dX6_stallOf_43 : decode cX6_stallOf 43 = .ok (.iload_n 1, 1) := by decide +kernel
theorem dX6_stallOf_44 : decode cX6_stallOf 44 = .ok (.iload_n 2, 1) := by decide +kernel
theorem dX6_stallOf_45 : decode cX6_stallOf 45 = .ok (.invokevirtual 166, 3) := by decide +kernel
theorem dX6_stallOf_48 : decode cX6_stallOf 48 = .ok (.ireturn, 1) := by decide +kernel
theorem dX6_allLoads_0 : decode cX6_allLoads 0 = .ok (.iconst 0, 1) := by decide +kernel
theorem dX6_allLoads_1 : decode cX6_allLoads 1 = .ok (.istore_n 2, 1) := by decide +kernel
theorem dX6_allLoads_2 : decode cX6_allLoads 2 = .ok (.iconst 0, 1) := by decide +kernel
theorem dX6_allLoads_3 : decode cX6_allLoads 3 = .ok (.istore_n 3, 1) := by decide +kernel
theorem dX6_allLoads_4 : decode cX6_allLoads 4 = .ok (.iload_n 3, 1) := by decide +kernel
theorem dX6_allLoads_5 : decode cX6_allLoads 5 = .ok (.aload_n 0, 1) := by decide +kernel
theorem dX6_allLoads_6 : decode cX6_allLoads 6 = .ok (.getfield 7, 3) := by decide +kernel
theorem dX6_allLoads_9 : decode cX6_allLoads 9 = .ok (.iconst 4, 1) := by decide +kernel
theorem dX6_allLoads_10 : decode cX6_allLoads 10 = .ok (.iaload, 1) := by decide +kernel
theorem dX6_allLoads_11 : decode cX6_allLoads 11 = .ok (.if_icmp .ge 40, 3) := by decide +kernel
theorem dX6_allLoads_14 : decode cX6_allLoads 14 = .ok (.iload_n 2, 1) := by decide +kernel
theorem dX6_allLoads_15 : decode cX6_allLoads 15 = .ok (.aload_n 0, 1) := by decide +kernel
theorem dX6_allLoads_16 : decode cX6_allLoads 16 = .ok (.iload_n 3, 1) := by decide +kernel
theorem dX6_allLoads_17 : decode cX6_allLoads 17 = .ok (.iload_n 1, 1) := by decide +kernel
theorem dX6_allLoads_18 : decode cX6_allLoads 18 = .ok (.invokevirtual 62, 3) := by decide +kernel
theorem dX6_allLoads_21 : decode cX6_allLoads 21 = .ok (.ifCond .eq 21, 3) := by decide +kernel
theorem dX6_allLoads_24 : decode cX6_allLoads 24 = .ok (.aload_n 0, 1) := by decide +kernel
theorem dX6_allLoads_25 : decode cX6_allLoads 25 = .ok (.iload_n 3, 1) := by decide +kernel
theorem dX6_allLoads_26 : decode cX6_allLoads 26 = .ok (.iconst 5, 1) := by decide +kernel
theorem dX6_allLoads_27 : decode cX6_allLoads 27 = .ok (.invokevirtual 47, 3) := by decide +kernel
theorem dX6_allLoads_30 : decode cX6_allLoads 30 = .ok (.ifCond .ne 12, 3) := by decide +kernel
theorem dX6_allLoads_33 : decode cX6_allLoads 33 = .ok (.aload_n 0, 1) := by decide +kernel
theorem dX6_allLoads_34 : decode cX6_allLoads 34 = .ok (.iload_n 3, 1) := by decide +kernel
theorem dX6_allLoads_35 : decode cX6_allLoads 35 = .ok (.iconst 0, 1) := by decide +kernel
theorem dX6_allLoads_36 : decode cX6_allLoads 36 = .ok (.invokevirtual 47, 3) := by decide +kernel
theorem dX6_allLoads_39 : decode cX6_allLoads 39 = .ok (.goto 4, 3) := by decide +kernel
theorem dX6_allLoads_42 : decode cX6_allLoads 42 = .ok (.iconst 0, 1) := by decide +kernel
theorem dX6_allLoads_43 : decode cX6_allLoads 43 = .ok (.iadd, 1) := by decide +kernel
theorem dX6_allLoads_44 : decode cX6_allLoads 44 = .ok (.istore_n 2, 1) := by decide +kernel
theorem dX6_allLoads_45 : decode cX6_allLoads 45 = .ok (.iinc 3 1, 3) := by decide +kernel
theorem dX6_allLoads_48 : decode cX6_allLoads 48 = .ok (.goto (-44), 3) := by decide +kernel
theorem dX6_allLoads_51 : decode cX6_allLoads 51 = .ok (.iload_n 2, 1) := by decide +kernel
theorem dX6_allLoads_52 : decode cX6_allLoads 52 = .ok (.ireturn, 1) := by decide +kernel
theorem dX6_toldBreaker_0 : decode cX6_toldBreaker 0 = .ok (.iload_n 2, 1) := by decide +kernel
theorem dX6_toldBreaker_1 : decode cX6_toldBreaker 1 = .ok (.tableswitch 52 3 6 #[31, 37, 43, 43], 31) := by decide +kernel
theorem dX6_toldBreaker_32 : decode cX6_toldBreaker 32 = .ok (.aload_n 0, 1) := by decide +kernel
theorem dX6_toldBreaker_33 : decode cX6_toldBreaker 33 = .ok (.iload_n 1, 1) := by decide +kernel
theorem dX6_toldBreaker_34 : decode cX6_toldBreaker 34 = .ok (.invokevirtual 72, 3) := by decide +kernel
theorem dX6_toldBreaker_37 : decode cX6_toldBreaker 37 = .ok (.ireturn, 1) := by decide +kernel
theorem dX6_toldBreaker_38 : decode cX6_toldBreaker 38 = .ok (.aload_n 0, 1) := by decide +kernel
theorem dX6_toldBreaker_39 : decode cX6_toldBreaker 39 = .ok (.iload_n 1, 1) := by decide +kernel
theorem dX6_toldBreaker_40 : decode cX6_toldBreaker 40 = .ok (.invokevirtual 169, 3) := by decide +kernel
theorem dX6_toldBreaker_43 : decode cX6_toldBreaker 43 = .ok (.ireturn, 1) := by decide +kernel
theorem dX6_toldBreaker_44 : decode cX6_toldBreaker 44 = .ok (.aload_n 0, 1) := by decide +kernel
theorem dX6_toldBreaker_45 : decode cX6_toldBreaker 45 = .ok (.iload_n 1, 1) := by decide +kernel
theorem dX6_toldBreaker_46 : decode cX6_toldBreaker 46 = .ok (.iload_n 2, 1) := by decide +kernel
theorem dX6_toldBreaker_47 : decode cX6_toldBreaker 47 = .ok (.iconst 2, 1) := by decide +kernel
theorem dX6_toldBreaker_48 : decode cX6_toldBreaker 48 = .ok (.isub, 1) := by decide +kernel
theorem dX6_toldBreaker_49 : decode cX6_toldBreaker 49 = .ok (.invokevirtual 59, 3) := by decide +kernel
theorem dX6_toldBreaker_52 : decode cX6_toldBreaker 52 = .ok (.ireturn, 1) := by decide +kernel
theorem dX6_toldBreaker_53 : decode cX6_toldBreaker 53 = .ok (.aload_n 0, 1) := by decide +kernel
theorem dX6_toldBreaker_54 : decode cX6_toldBreaker 54 = .ok (.iload_n 1, 1) := by decide +kernel
theorem dX6_toldBreaker_55 : decode cX6_toldBreaker 55 = .ok (.iload_n 2, 1) := by decide +kernel
theorem dX6_toldBreaker_56 : decode cX6_toldBreaker 56 = .ok (.invokevirtual 59, 3) := by decide +kernel
theorem dX6_toldBreaker_59 : decode cX6_toldBreaker 59 = .ok (.ireturn, 1) := by decide +kernel
theorem dX6_breaker_0 : decode cX6_breaker 0 = .ok (.aload_n 0, 1) := by decide +kernel
theorem dX6_breaker_1 : decode cX6_breaker 1 = .ok (.iload_n 1, 1) := by decide +kernel
theorem dX6_breaker_2 : decode cX6_breaker 2 = .ok (.invokestatic 114, 3) := by decide +kernel
theorem dX6_breaker_5 : decode cX6_breaker 5 = .ok (.ifCond .eq 17, 3) := by decide +kernel
theorem dX6_breaker_8 : decode cX6_breaker 8 = .ok (.iload_n 2, 1) := by decide +kernel
theorem dX6_breaker_9 : decode cX6_breaker 9 = .ok (.iconst 0, 1) := by decide +kernel
theorem dX6_breaker_10 : decode cX6_breaker 10 = .ok (.bipush 6, 2) := by decide +kernel
theorem dX6_breaker_12 : decode cX6_breaker 12 = .ok (.invokestatic 40, 3) := by decide +kernel
theorem dX6_breaker_15 : decode cX6_breaker 15 = .ok (.ifCond .eq 7, 3) := by decide +kernel
theorem dX6_breaker_18 : decode cX6_breaker 18 = .ok (.iconst 0, 1) := by decide +kernel
theorem dX6_breaker_19 : decode cX6_breaker 19 = .ok (.goto 4, 3) := by decide +kernel
theorem dX6_breaker_22 : decode cX6_breaker 22 = .ok (.iconst 1, 1) := by decide +kernel
theorem dX6_breaker_23 : decode cX6_breaker 23 = .ok (.putfield 36, 3) := by decide +kernel
theorem dX6_breaker_26 : decode cX6_breaker 26 = .ok (.aload_n 0, 1) := by decide +kernel
theorem dX6_breaker_27 : decode cX6_breaker 27 = .ok (.getfield 36, 3) := by decide +kernel
theorem dX6_breaker_30 : decode cX6_breaker 30 = .ok (.ifCond .le 7, 3) := by decide +kernel
theorem dX6_breaker_33 : decode cX6_breaker 33 = .ok (.iconst 0, 1) := by decide +kernel
theorem dX6_breaker_34 : decode cX6_breaker 34 = .ok (.goto 9, 3) := by decide +kernel
theorem dX6_breaker_37 : decode cX6_breaker 37 = .ok (.aload_n 0, 1) := by decide +kernel
theorem dX6_breaker_38 : decode cX6_breaker 38 = .ok (.iload_n 1, 1) := by decide +kernel
theorem dX6_breaker_39 : decode cX6_breaker 39 = .ok (.iload_n 2, 1) := by decide +kernel
theorem dX6_breaker_40 : decode cX6_breaker 40 = .ok (.invokevirtual 172, 3) := by decide +kernel
theorem dX6_breaker_43 : decode cX6_breaker 43 = .ok (.ireturn, 1) := by decide +kernel
theorem dX6_socket_0 : decode cX6_socket 0 = .ok (.aload_n 0, 1) := by decide +kernel
theorem dX6_socket_1 : decode cX6_socket 1 = .ok (.iload_n 1, 1) := by decide +kernel
theorem dX6_socket_2 : decode cX6_socket 2 = .ok (.invokestatic 105, 3) := by decide +kernel
theorem dX6_socket_5 : decode cX6_socket 5 = .ok (.ifCond .eq 16, 3) := by decide +kernel
theorem dX6_socket_8 : decode cX6_socket 8 = .ok (.iload_n 2, 1) := by decide +kernel
theorem dX6_socket_9 : decode cX6_socket 9 = .ok (.iconst 0, 1) := by decide +kernel
theorem dX6_socket_10 : decode cX6_socket 10 = .ok (.iconst 1, 1) := by decide +kernel
theorem dX6_socket_11 : decode cX6_socket 11 = .ok (.invokestatic 40, 3) := by decide +kernel
theorem dX6_socket_14 : decode cX6_socket 14 = .ok (.ifCond .eq 7, 3) := by decide +kernel
theorem dX6_socket_17 : decode cX6_socket 17 = .ok (.iconst 0, 1) := by decide +kernel
theorem dX6_socket_18 : decode cX6_socket 18 = .ok (.goto 4, 3) := by decide +kernel
theorem dX6_socket_21 : decode cX6_socket 21 = .ok (.iconst 1, 1) := by decide +kernel
theorem dX6_socket_22 : decode cX6_socket 22 = .ok (.putfield 36, 3) := by decide +kernel
theorem dX6_socket_25 : decode cX6_socket 25 = .ok (.aload_n 0, 1) := by decide +kernel
theorem dX6_socket_26 : decode cX6_socket 26 = .ok (.getfield 36, 3) := by decide +kernel
theorem dX6_socket_29 : decode cX6_socket 29 = .ok (.ifCond .le 7, 3) := by decide +kernel
theorem dX6_socket_32 : decode cX6_socket 32 = .ok (.iconst 0, 1) := by decide +kernel
theorem dX6_socket_33 : decode cX6_socket 33 = .ok (.goto 20, 3) := by decide +kernel
theorem dX6_socket_36 : decode cX6_socket 36 = .ok (.iload_n 2, 1) := by decide +kernel
theorem dX6_socket_37 : decode cX6_socket 37 = .ok (.ifCond .ne 11, 3) := by decide +kernel
theorem dX6_socket_40 : decode cX6_socket 40 = .ok (.aload_n 0, 1) := by decide +kernel
theorem dX6_socket_41 : decode cX6_socket 41 = .ok (.iload_n 1, 1) := by decide +kernel
theorem dX6_socket_42 : decode cX6_socket 42 = .ok (.invokevirtual 55, 3) := by decide +kernel
theorem dX6_socket_45 : decode cX6_socket 45 = .ok (.goto 8, 3) := by decide +kernel
theorem dX6_socket_48 : decode cX6_socket 48 = .ok (.aload_n 0, 1) := by decide +kernel
theorem dX6_socket_49 : decode cX6_socket 49 = .ok (.iload_n 1, 1) := by decide +kernel
theorem dX6_socket_50 : decode cX6_socket 50 = .ok (.invokevirtual 108, 3) := by decide +kernel
theorem dX6_socket_53 : decode cX6_socket 53 = .ok (.ireturn, 1) := by decide +kernel
theorem dX6_allStalls_0 : decode cX6_allStalls 0 = .ok (.iconst 0, 1) := by decide +kernel
theorem dX6_allStalls_1 : decode cX6_allStalls 1 = .ok (.istore_n 2, 1) := by decide +kernel
theorem dX6_allStalls_2 : decode cX6_allStalls 2 = .ok (.iconst 0, 1) := by decide +kernel
theorem dX6_allStalls_3 : decode cX6_allStalls 3 = .ok (.istore_n 3, 1) := by decide +kernel
theorem dX6_allStalls_4 : decode cX6_allStalls 4 = .ok (.iload_n 3, 1) := by decide +kernel
theorem dX6_allStalls_5 : decode cX6_allStalls 5 = .ok (.aload_n 0, 1) := by decide +kernel
theorem dX6_allStalls_6 : decode cX6_allStalls 6 = .ok (.getfield 7, 3) := by decide +kernel
theorem dX6_allStalls_9 : decode cX6_allStalls 9 = .ok (.iconst 4, 1) := by decide +kernel
theorem dX6_allStalls_10 : decode cX6_allStalls 10 = .ok (.iaload, 1) := by decide +kernel
theorem dX6_allStalls_11 : decode cX6_allStalls 11 = .ok (.if_icmp .ge 18, 3) := by decide +kernel
theorem dX6_allStalls_14 : decode cX6_allStalls 14 = .ok (.iload_n 2, 1) := by decide +kernel
theorem dX6_allStalls_15 : decode cX6_allStalls 15 = .ok (.aload_n 0, 1) := by decide +kernel
theorem dX6_allStalls_16 : decode cX6_allStalls 16 = .ok (.iload_n 3, 1) := by decide +kernel
theorem dX6_allStalls_17 : decode cX6_allStalls 17 = .ok (.iload_n 1, 1) := by decide +kernel
theorem dX6_allStalls_18 : decode cX6_allStalls 18 = .ok (.invokevirtual 166, 3) := by decide +kernel
theorem dX6_allStalls_21 : decode cX6_allStalls 21 = .ok (.iadd, 1) := by decide +kernel
theorem dX6_allStalls_22 : decode cX6_allStalls 22 = .ok (.istore_n 2, 1) := by decide +kernel
theorem dX6_allStalls_23 : decode cX6_allStalls 23 = .ok (.iinc 3 1, 3) := by decide +kernel
theorem dX6_allStalls_26 : decode cX6_allStalls 26 = .ok (.goto (-22), 3) := by decide +kernel
theorem dX6_allStalls_29 : decode cX6_allStalls 29 = .ok (.iload_n 2, 1) := by decide +kernel
theorem dX6_allStalls_30 : decode cX6_allStalls 30 = .ok (.ireturn, 1) := by decide +kernel
theorem dX6_allBreakers_0 : decode cX6_allBreakers 0 = .ok (.iconst 0, 1) := by decide +kernel
theorem dX6_allBreakers_1 : decode cX6_allBreakers 1 = .ok (.istore_n 2, 1) := by decide +kernel
theorem dX6_allBreakers_2 : decode cX6_allBreakers 2 = .ok (.iconst 0, 1) := by decide +kernel
theorem dX6_allBreakers_3 : decode cX6_allBreakers 3 = .ok (.istore_n 3, 1) := by decide +kernel
theorem dX6_allBreakers_4 : decode cX6_allBreakers 4 = .ok (.iload_n 3, 1) := by decide +kernel
theorem dX6_allBreakers_5 : decode cX6_allBreakers 5 = .ok (.iconst 4, 1) := by decide +kernel
theorem dX6_allBreakers_6 : decode cX6_allBreakers 6 = .ok (.if_icmp .ge 18, 3) := by decide +kernel
theorem dX6_allBreakers_9 : decode cX6_allBreakers 9 = .ok (.iload_n 2, 1) := by decide +kernel
theorem dX6_allBreakers_10 : decode cX6_allBreakers 10 = .ok (.aload_n 0, 1) := by decide +kernel
theorem dX6_allBreakers_11 : decode cX6_allBreakers 11 = .ok (.iload_n 3, 1) := by decide +kernel
theorem dX6_allBreakers_12 : decode cX6_allBreakers 12 = .ok (.iload_n 1, 1) := by decide +kernel
theorem dX6_allBreakers_13 : decode cX6_allBreakers 13 = .ok (.invokevirtual 59, 3) := by decide +kernel
theorem dX6_allBreakers_16 : decode cX6_allBreakers 16 = .ok (.iadd, 1) := by decide +kernel
theorem dX6_allBreakers_17 : decode cX6_allBreakers 17 = .ok (.istore_n 2, 1) := by decide +kernel
theorem dX6_allBreakers_18 : decode cX6_allBreakers 18 = .ok (.iinc 3 1, 3) := by decide +kernel
theorem dX6_allBreakers_21 : decode cX6_allBreakers 21 = .ok (.goto (-17), 3) := by decide +kernel
theorem dX6_allBreakers_24 : decode cX6_allBreakers 24 = .ok (.iload_n 2, 1) := by decide +kernel
theorem dX6_allBreakers_25 : decode cX6_allBreakers 25 = .ok (.ireturn, 1) := by decide +kernel
theorem dX6_plugged_0 : decode cX6_plugged 0 = .ok (.iconst 0, 1) := by decide +kernel
theorem dX6_plugged_1 : decode cX6_plugged 1 = .ok (.istore_n 1, 1) := by decide +kernel
theorem dX6_plugged_2 : decode cX6_plugged 2 = .ok (.iconst 0, 1) := by decide +kernel
theorem dX6_plugged_3 : decode cX6_plugged 3 = .ok (.istore_n 2, 1) := by decide +kernel
theorem dX6_plugged_4 : decode cX6_plugged 4 = .ok (.iload_n 2, 1) := by decide +kernel
theorem dX6_plugged_5 : decode cX6_plugged 5 = .ok (.aload_n 0, 1) := by decide +kernel
theorem dX6_plugged_6 : decode cX6_plugged 6 = .ok (.getfield 7, 3) := by decide +kernel
theorem dX6_plugged_9 : decode cX6_plugged 9 = .ok (.iconst 4, 1) := by decide +kernel
theorem dX6_plugged_10 : decode cX6_plugged 10 = .ok (.iaload, 1) := by decide +kernel
theorem dX6_plugged_11 : decode cX6_plugged 11 = .ok (.if_icmp .ge 27, 3) := by decide +kernel
theorem dX6_plugged_14 : decode cX6_plugged 14 = .ok (.iload_n 1, 1) := by decide +kernel
theorem dX6_plugged_15 : decode cX6_plugged 15 = .ok (.aload_n 0, 1) := by decide +kernel
theorem dX6_plugged_16 : decode cX6_plugged 16 = .ok (.iload_n 2, 1) := by decide +kernel
theorem dX6_plugged_17 : decode cX6_plugged 17 = .ok (.iconst 4, 1) := by decide +kernel
theorem dX6_plugged_18 : decode cX6_plugged 18 = .ok (.invokevirtual 47, 3) := by decide +kernel
theorem dX6_plugged_21 : decode cX6_plugged 21 = .ok (.iconst (-1), 1) := by decide +kernel
theorem dX6_plugged_22 : decode cX6_plugged 22 = .ok (.if_icmp .ne 7, 3) := by decide +kernel
theorem dX6_plugged_25 : decode cX6_plugged 25 = .ok (.iconst 0, 1) := by decide +kernel
theorem dX6_plugged_26 : decode cX6_plugged 26 = .ok (.goto 4, 3) := by decide +kernel
theorem dX6_plugged_29 : decode cX6_plugged 29 = .ok (.iconst 1, 1) := by decide +kernel
theorem dX6_plugged_30 : decode cX6_plugged 30 = .ok (.iadd, 1) := by decide +kernel
theorem dX6_plugged_31 : decode cX6_plugged 31 = .ok (.istore_n 1, 1) := by decide +kernel
theorem dX6_plugged_32 : decode cX6_plugged 32 = .ok (.iinc 2 1, 3) := by decide +kernel
theorem dX6_plugged_35 : decode cX6_plugged 35 = .ok (.goto (-31), 3) := by decide +kernel
theorem dX6_plugged_38 : decode cX6_plugged 38 = .ok (.iload_n 1, 1) := by decide +kernel
theorem dX6_plugged_39 : decode cX6_plugged 39 = .ok (.ireturn, 1) := by decide +kernel
theorem dX6_counted_0 : decode cX6_counted 0 = .ok (.iload_n 1, 1) := by decide +kernel
theorem dX6_counted_1 : decode cX6_counted 1 = .ok (.tableswitch 125 0 10 #[59, 59, 68, 73, 79, 85, 92, 98, 104, 111, 118], 59) := by decide +kernel
theorem dX6_counted_60 : decode cX6_counted 60 = .ok (.aload_n 0, 1) := by decide +kernel
theorem dX6_counted_61 : decode cX6_counted 61 = .ok (.getfield 7, 3) := by decide +kernel
theorem dX6_counted_64 : decode cX6_counted 64 = .ok (.iconst 3, 1) := by decide +kernel
theorem dX6_counted_65 : decode cX6_counted 65 = .ok (.iload_n 1, 1) := by decide +kernel
theorem dX6_counted_66 : decode cX6_counted 66 = .ok (.iadd, 1) := by decide +kernel
theorem dX6_counted_67 : decode cX6_counted 67 = .ok (.iaload, 1) := by decide +kernel
theorem dX6_counted_68 : decode cX6_counted 68 = .ok (.ireturn, 1) := by decide +kernel
theorem dX6_counted_69 : decode cX6_counted 69 = .ok (.aload_n 0, 1) := by decide +kernel
theorem dX6_counted_70 : decode cX6_counted 70 = .ok (.invokevirtual 175, 3) := by decide +kernel
theorem dX6_counted_73 : decode cX6_counted 73 = .ok (.ireturn, 1) := by decide +kernel
theorem dX6_counted_74 : decode cX6_counted 74 = .ok (.aload_n 0, 1) := by decide +kernel
theorem dX6_counted_75 : decode cX6_counted 75 = .ok (.iconst (-1), 1) := by decide +kernel
theorem dX6_counted_76 : decode cX6_counted 76 = .ok (.invokevirtual 120, 3) := by decide +kernel
theorem dX6_counted_79 : decode cX6_counted 79 = .ok (.ireturn, 1) := by decide +kernel
theorem dX6_counted_80 : decode cX6_counted 80 = .ok (.aload_n 0, 1) := by decide +kernel
theorem dX6_counted_81 : decode cX6_counted 81 = .ok (.iconst 1, 1) := by decide +kernel
theorem dX6_counted_82 : decode cX6_counted 82 = .ok (.invokevirtual 178, 3) := by decide +kernel
theorem dX6_counted_85 : decode cX6_counted 85 = .ok (.ireturn, 1) := by decide +kernel
theorem dX6_counted_86 : decode cX6_counted 86 = .ok (.aload_n 0, 1) := by decide +kernel
theorem dX6_counted_87 : decode cX6_counted 87 = .ok (.bipush 6, 2) := by decide +kernel
theorem dX6_counted_89 : decode cX6_counted 89 = .ok (.invokevirtual 181, 3) := by decide +kernel
theorem dX6_counted_92 : decode cX6_counted 92 = .ok (.ireturn, 1) := by decide +kernel
theorem dX6_counted_93 : decode cX6_counted 93 = .ok (.aload_n 0, 1) := by decide +kernel
theorem dX6_counted_94 : decode cX6_counted 94 = .ok (.iconst 4, 1) := by decide +kernel
theorem dX6_counted_95 : decode cX6_counted 95 = .ok (.invokevirtual 178, 3) := by decide +kernel
theorem dX6_counted_98 : decode cX6_counted 98 = .ok (.ireturn, 1) := by decide +kernel
theorem dX6_counted_99 : decode cX6_counted 99 = .ok (.aload_n 0, 1) := by decide +kernel
theorem dX6_counted_100 : decode cX6_counted 100 = .ok (.iconst 3, 1) := by decide +kernel
theorem dX6_counted_101 : decode cX6_counted 101 = .ok (.invokevirtual 178, 3) := by decide +kernel
theorem dX6_counted_104 : decode cX6_counted 104 = .ok (.ireturn, 1) := by decide +kernel
theorem dX6_counted_105 : decode cX6_counted 105 = .ok (.aload_n 0, 1) := by decide +kernel
theorem dX6_counted_106 : decode cX6_counted 106 = .ok (.bipush 7, 2) := by decide +kernel
theorem dX6_counted_108 : decode cX6_counted 108 = .ok (.invokevirtual 181, 3) := by decide +kernel
theorem dX6_counted_111 : decode cX6_counted 111 = .ok (.ireturn, 1) := by decide +kernel
theorem dX6_counted_112 : decode cX6_counted 112 = .ok (.aload_n 0, 1) := by decide +kernel
theorem dX6_counted_113 : decode cX6_counted 113 = .ok (.bipush 9, 2) := by decide +kernel
theorem dX6_counted_115 : decode cX6_counted 115 = .ok (.invokevirtual 181, 3) := by decide +kernel
theorem dX6_counted_118 : decode cX6_counted 118 = .ok (.ireturn, 1) := by decide +kernel
theorem dX6_counted_119 : decode cX6_counted 119 = .ok (.aload_n 0, 1) := by decide +kernel
theorem dX6_counted_120 : decode cX6_counted 120 = .ok (.getfield 7, 3) := by decide +kernel
theorem dX6_counted_123 : decode cX6_counted 123 = .ok (.iconst 5, 1) := by decide +kernel
theorem dX6_counted_124 : decode cX6_counted 124 = .ok (.iaload, 1) := by decide +kernel
theorem dX6_counted_125 : decode cX6_counted 125 = .ok (.ireturn, 1) := by decide +kernel
theorem dX6_counted_126 : decode cX6_counted 126 = .ok (.aload_n 0, 1) := by decide +kernel
theorem dX6_counted_127 : decode cX6_counted 127 = .ok (.getfield 44, 3) := by decide +kernel
theorem dX6_counted_130 : decode cX6_counted 130 = .ok (.ireturn, 1) := by decide +kernel
theorem dX6_count_0 : decode cX6_count 0 = .ok (.aload_n 0, 1) := by decide +kernel
theorem dX6_count_1 : decode cX6_count 1 = .ok (.iload_n 1, 1) := by decide +kernel
theorem dX6_count_2 : decode cX6_count 2 = .ok (.iconst 0, 1) := by decide +kernel
theorem dX6_count_3 : decode cX6_count 3 = .ok (.bipush 11, 2) := by decide +kernel
theorem dX6_count_5 : decode cX6_count 5 = .ok (.invokestatic 40, 3) := by decide +kernel
theorem dX6_count_8 : decode cX6_count 8 = .ok (.ifCond .eq 7, 3) := by decide +kernel
theorem dX6_count_11 : decode cX6_count 11 = .ok (.iconst 0, 1) := by decide +kernel
theorem dX6_count_12 : decode cX6_count 12 = .ok (.goto 4, 3) := by decide +kernel
theorem dX6_count_15 : decode cX6_count 15 = .ok (.iconst 1, 1) := by decide +kernel
theorem dX6_count_16 : decode cX6_count 16 = .ok (.putfield 36, 3) := by decide +kernel
theorem dX6_count_19 : decode cX6_count 19 = .ok (.aload_n 0, 1) := by decide +kernel
theorem dX6_count_20 : decode cX6_count 20 = .ok (.getfield 36, 3) := by decide +kernel
theorem dX6_count_23 : decode cX6_count 23 = .ok (.ifCond .le 7, 3) := by decide +kernel
theorem dX6_count_26 : decode cX6_count 26 = .ok (.iconst 0, 1) := by decide +kernel
theorem dX6_count_27 : decode cX6_count 27 = .ok (.goto 8, 3) := by decide +kernel
theorem dX6_count_30 : decode cX6_count 30 = .ok (.aload_n 0, 1) := by decide +kernel
theorem dX6_count_31 : decode cX6_count 31 = .ok (.iload_n 1, 1) := by decide +kernel
theorem dX6_count_32 : decode cX6_count 32 = .ok (.invokevirtual 184, 3) := by decide +kernel
theorem dX6_count_35 : decode cX6_count 35 = .ok (.ireturn, 1) := by decide +kernel
theorem dX6_setting_0 : decode cX6_setting 0 = .ok (.aload_n 0, 1) := by decide +kernel
theorem dX6_setting_1 : decode cX6_setting 1 = .ok (.iload_n 1, 1) := by decide +kernel
theorem dX6_setting_2 : decode cX6_setting 2 = .ok (.iconst 0, 1) := by decide +kernel
theorem dX6_setting_3 : decode cX6_setting 3 = .ok (.iconst 2, 1) := by decide +kernel
theorem dX6_setting_4 : decode cX6_setting 4 = .ok (.invokestatic 40, 3) := by decide +kernel
theorem dX6_setting_7 : decode cX6_setting 7 = .ok (.ifCond .eq 7, 3) := by decide +kernel
theorem dX6_setting_10 : decode cX6_setting 10 = .ok (.iconst 0, 1) := by decide +kernel
theorem dX6_setting_11 : decode cX6_setting 11 = .ok (.goto 4, 3) := by decide +kernel
theorem dX6_setting_14 : decode cX6_setting 14 = .ok (.iconst 1, 1) := by decide +kernel
theorem dX6_setting_15 : decode cX6_setting 15 = .ok (.putfield 36, 3) := by decide +kernel
theorem dX6_setting_18 : decode cX6_setting 18 = .ok (.aload_n 0, 1) := by decide +kernel
theorem dX6_setting_19 : decode cX6_setting 19 = .ok (.getfield 36, 3) := by decide +kernel
theorem dX6_setting_22 : decode cX6_setting 22 = .ok (.ifCond .le 7, 3) := by decide +kernel
theorem dX6_setting_25 : decode cX6_setting 25 = .ok (.iconst 0, 1) := by decide +kernel
theorem dX6_setting_26 : decode cX6_setting 26 = .ok (.goto 11, 3) := by decide +kernel
theorem dX6_setting_29 : decode cX6_setting 29 = .ok (.aload_n 0, 1) := by decide +kernel
theorem dX6_setting_30 : decode cX6_setting 30 = .ok (.getfield 7, 3) := by decide +kernel
theorem dX6_setting_33 : decode cX6_setting 33 = .ok (.iconst 0, 1) := by decide +kernel
theorem dX6_setting_34 : decode cX6_setting 34 = .ok (.iload_n 1, 1) := by decide +kernel
theorem dX6_setting_35 : decode cX6_setting 35 = .ok (.iadd, 1) := by decide +kernel
theorem dX6_setting_36 : decode cX6_setting 36 = .ok (.iaload, 1) := by decide +kernel
theorem dX6_setting_37 : decode cX6_setting 37 = .ok (.ireturn, 1) := by decide +kernel
theorem dX6_isTaken_0 : decode cX6_isTaken 0 = .ok (.aload_n 0, 1) := by decide +kernel
theorem dX6_isTaken_1 : decode cX6_isTaken 1 = .ok (.iload_n 2, 1) := by decide +kernel
theorem dX6_isTaken_2 : decode cX6_isTaken 2 = .ok (.invokevirtual 108, 3) := by decide +kernel
theorem dX6_isTaken_5 : decode cX6_isTaken 5 = .ok (.iconst (-1), 1) := by decide +kernel
theorem dX6_isTaken_6 : decode cX6_isTaken 6 = .ok (.if_icmp .eq 16, 3) := by decide +kernel
theorem dX6_isTaken_9 : decode cX6_isTaken 9 = .ok (.aload_n 0, 1) := by decide +kernel
theorem dX6_isTaken_10 : decode cX6_isTaken 10 = .ok (.iload_n 2, 1) := by decide +kernel
theorem dX6_isTaken_11 : decode cX6_isTaken 11 = .ok (.invokevirtual 108, 3) := by decide +kernel
theorem dX6_isTaken_14 : decode cX6_isTaken 14 = .ok (.iload_n 1, 1) := by decide +kernel
theorem dX6_isTaken_15 : decode cX6_isTaken 15 = .ok (.if_icmp .eq 7, 3) := by decide +kernel
theorem dX6_isTaken_18 : decode cX6_isTaken 18 = .ok (.iconst 1, 1) := by decide +kernel
theorem dX6_isTaken_19 : decode cX6_isTaken 19 = .ok (.goto 4, 3) := by decide +kernel
theorem dX6_isTaken_22 : decode cX6_isTaken 22 = .ok (.iconst 0, 1) := by decide +kernel
theorem dX6_isTaken_23 : decode cX6_isTaken 23 = .ok (.ireturn, 1) := by decide +kernel
theorem dX6_wouldPlug_0 : decode cX6_wouldPlug 0 = .ok (.aload_n 0, 1) := by decide +kernel
theorem dX6_wouldPlug_1 : decode cX6_wouldPlug 1 = .ok (.iload_n 1, 1) := by decide +kernel
theorem dX6_wouldPlug_2 : decode cX6_wouldPlug 2 = .ok (.iload_n 2, 1) := by decide +kernel
theorem dX6_wouldPlug_3 : decode cX6_wouldPlug 3 = .ok (.invokevirtual 187, 3) := by decide +kernel
theorem dX6_wouldPlug_6 : decode cX6_wouldPlug 6 = .ok (.ifCond .eq 5, 3) := by decide +kernel
theorem dX6_wouldPlug_9 : decode cX6_wouldPlug 9 = .ok (.iconst (-1), 1) := by decide +kernel
theorem dX6_wouldPlug_10 : decode cX6_wouldPlug 10 = .ok (.ireturn, 1) := by decide +kernel
theorem dX6_wouldPlug_11 : decode cX6_wouldPlug 11 = .ok (.aload_n 0, 1) := by decide +kernel
theorem dX6_wouldPlug_12 : decode cX6_wouldPlug 12 = .ok (.invokevirtual 190, 3) := by decide +kernel
theorem dX6_wouldPlug_15 : decode cX6_wouldPlug 15 = .ok (.aload_n 0, 1) := by decide +kernel
theorem dX6_wouldPlug_16 : decode cX6_wouldPlug 16 = .ok (.iload_n 1, 1) := by decide +kernel
theorem dX6_wouldPlug_17 : decode cX6_wouldPlug 17 = .ok (.iconst 4, 1) := by decide +kernel
theorem dX6_wouldPlug_18 : decode cX6_wouldPlug 18 = .ok (.iload_n 2, 1) := by decide +kernel
theorem dX6_wouldPlug_19 : decode cX6_wouldPlug 19 = .ok (.invokevirtual 78, 3) := by decide +kernel
theorem dX6_wouldPlug_22 : decode cX6_wouldPlug 22 = .ok (.aload_n 0, 1) := by decide +kernel
theorem dX6_wouldPlug_23 : decode cX6_wouldPlug 23 = .ok (.iload_n 3, 1) := by decide +kernel
theorem dX6_wouldPlug_24 : decode cX6_wouldPlug 24 = .ok (.invokevirtual 123, 3) := by decide +kernel
theorem dX6_wouldPlug_27 : decode cX6_wouldPlug 27 = .ok (.istore 5, 2) := by decide +kernel
theorem dX6_wouldPlug_29 : decode cX6_wouldPlug 29 = .ok (.aload_n 0, 1) := by decide +kernel
theorem dX6_wouldPlug_30 : decode cX6_wouldPlug 30 = .ok (.bipush 7, 2) := by decide +kernel
theorem dX6_wouldPlug_32 : decode cX6_wouldPlug 32 = .ok (.invokevirtual 181, 3) := by decide +kernel
theorem dX6_wouldPlug_35 : decode cX6_wouldPlug 35 = .ok (.istore 6, 2) := by decide +kernel
theorem dX6_wouldPlug_37 : decode cX6_wouldPlug 37 = .ok (.aload_n 0, 1) := by decide +kernel
theorem dX6_wouldPlug_38 : decode cX6_wouldPlug 38 = .ok (.iload_n 1, 1) := by decide +kernel
theorem dX6_wouldPlug_39 : decode cX6_wouldPlug 39 = .ok (.bipush 6, 2) := by decide +kernel
theorem dX6_wouldPlug_41 : decode cX6_wouldPlug 41 = .ok (.invokevirtual 47, 3) := by decide +kernel
theorem dX6_wouldPlug_44 : decode cX6_wouldPlug 44 = .ok (.istore 7, 2) := by decide +kernel
theorem dX6_wouldPlug_46 : decode cX6_wouldPlug 46 = .ok (.aload_n 0, 1) := by decide +kernel
theorem dX6_wouldPlug_47 : decode cX6_wouldPlug 47 = .ok (.invokevirtual 193, 3) := by decide +kernel
theorem dX6_wouldPlug_50 : decode cX6_wouldPlug 50 = .ok (.iload 4, 2) := by decide +kernel
theorem dX6_wouldPlug_52 : decode cX6_wouldPlug 52 = .ok (.ifCond .ne 8, 3) := by decide +kernel
theorem dX6_wouldPlug_55 : decode cX6_wouldPlug 55 = .ok (.iload 5, 2) := by decide +kernel
theorem dX6_wouldPlug_57 : decode cX6_wouldPlug 57 = .ok (.goto 31, 3) := by decide +kernel
theorem dX6_wouldPlug_60 : decode cX6_wouldPlug 60 = .ok (.iload 4, 2) := by decide +kernel
theorem dX6_wouldPlug_62 : decode cX6_wouldPlug 62 = .ok (.iconst 1, 1) := by decide +kernel
theorem dX6_wouldPlug_63 : decode cX6_wouldPlug 63 = .ok (.if_icmp .ne 15, 3) := by decide +kernel
theorem dX6_wouldPlug_66 : decode cX6_wouldPlug 66 = .ok (.iload 6, 2) := by decide +kernel
theorem dX6_wouldPlug_68 : decode cX6_wouldPlug 68 = .ok (.aload_n 0, 1) := by decide +kernel
theorem dX6_wouldPlug_69 : decode cX6_wouldPlug 69 = .ok (.bipush 7, 2) := by decide +kernel
theorem dX6_wouldPlug_71 : decode cX6_wouldPlug 71 = .ok (.invokevirtual 181, 3) := by decide +kernel
theorem dX6_wouldPlug_74 : decode cX6_wouldPlug 74 = .ok (.isub, 1) := by decide +kernel
theorem dX6_wouldPlug_75 : decode cX6_wouldPlug 75 = .ok (.goto 13, 3) := by decide +kernel
theorem dX6_wouldPlug_78 : decode cX6_wouldPlug 78 = .ok (.iload 7, 2) := by decide +kernel
theorem dX6_wouldPlug_80 : decode cX6_wouldPlug 80 = .ok (.aload_n 0, 1) := by decide +kernel
theorem dX6_wouldPlug_81 : decode cX6_wouldPlug 81 = .ok (.iload_n 1, 1) := by decide +kernel
theorem dX6_wouldPlug_82 : decode cX6_wouldPlug 82 = .ok (.bipush 6, 2) := by decide +kernel
theorem dX6_wouldPlug_84 : decode cX6_wouldPlug 84 = .ok (.invokevirtual 47, 3) := by decide +kernel
theorem dX6_wouldPlug_87 : decode cX6_wouldPlug 87 = .ok (.isub, 1) := by decide +kernel
theorem dX6_wouldPlug_88 : decode cX6_wouldPlug 88 = .ok (.ireturn, 1) := by decide +kernel
theorem dX6_ifPlugged_0 : decode cX6_ifPlugged 0 = .ok (.aload_n 0, 1) := by decide +kernel
theorem dX6_ifPlugged_1 : decode cX6_ifPlugged 1 = .ok (.aload_n 0, 1) := by decide +kernel
theorem dX6_ifPlugged_2 : decode cX6_ifPlugged 2 = .ok (.iload_n 1, 1) := by decide +kernel
theorem dX6_ifPlugged_3 : decode cX6_ifPlugged 3 = .ok (.invokevirtual 102, 3) := by decide +kernel
theorem dX6_ifPlugged_6 : decode cX6_ifPlugged 6 = .ok (.ifCond .ne 7, 3) := by decide +kernel
theorem dX6_ifPlugged_9 : decode cX6_ifPlugged 9 = .ok (.iconst 1, 1) := by decide +kernel
theorem dX6_ifPlugged_10 : decode cX6_ifPlugged 10 = .ok (.goto 35, 3) := by decide +kernel
theorem dX6_ifPlugged_13 : decode cX6_ifPlugged 13 = .ok (.iload_n 2, 1) := by decide +kernel
theorem dX6_ifPlugged_14 : decode cX6_ifPlugged 14 = .ok (.invokestatic 105, 3) := by decide +kernel
theorem dX6_ifPlugged_17 : decode cX6_ifPlugged 17 = .ok (.ifCond .eq 27, 3) := by decide +kernel
theorem dX6_ifPlugged_20 : decode cX6_ifPlugged 20 = .ok (.iload_n 3, 1) := by decide +kernel
theorem dX6_ifPlugged_21 : decode cX6_ifPlugged 21 = .ok (.iconst 1, 1) := by decide +kernel
theorem dX6_ifPlugged_22 : decode cX6_ifPlugged 22 = .ok (.bipush 48, 2) := by decide +kernel
theorem dX6_ifPlugged_24 : decode cX6_ifPlugged 24 = .ok (.invokestatic 40, 3) := by decide +kernel
theorem dX6_ifPlugged_27 : decode cX6_ifPlugged 27 = .ok (.ifCond .eq 17, 3) := by decide +kernel
theorem dX6_ifPlugged_30 : decode cX6_ifPlugged 30 = .ok (.iload 4, 2) := by decide +kernel
theorem dX6_ifPlugged_32 : decode cX6_ifPlugged 32 = .ok (.iconst 0, 1) := by decide +kernel
theorem dX6_ifPlugged_33 : decode cX6_ifPlugged 33 = .ok (.iconst 2, 1) := by decide +kernel
theorem dX6_ifPlugged_34 : decode cX6_ifPlugged 34 = .ok (.invokestatic 40, 3) := by decide +kernel
theorem dX6_ifPlugged_37 : decode cX6_ifPlugged 37 = .ok (.ifCond .eq 7, 3) := by decide +kernel
theorem dX6_ifPlugged_40 : decode cX6_ifPlugged 40 = .ok (.iconst 0, 1) := by decide +kernel
theorem dX6_ifPlugged_41 : decode cX6_ifPlugged 41 = .ok (.goto 4, 3) := by decide +kernel
theorem dX6_ifPlugged_44 : decode cX6_ifPlugged 44 = .ok (.iconst 2, 1) := by decide +kernel
theorem dX6_ifPlugged_45 : decode cX6_ifPlugged 45 = .ok (.putfield 36, 3) := by decide +kernel
theorem dX6_ifPlugged_48 : decode cX6_ifPlugged 48 = .ok (.aload_n 0, 1) := by decide +kernel
theorem dX6_ifPlugged_49 : decode cX6_ifPlugged 49 = .ok (.getfield 36, 3) := by decide +kernel
theorem dX6_ifPlugged_52 : decode cX6_ifPlugged 52 = .ok (.ifCond .le 7, 3) := by decide +kernel
theorem dX6_ifPlugged_55 : decode cX6_ifPlugged 55 = .ok (.iconst 0, 1) := by decide +kernel
theorem dX6_ifPlugged_56 : decode cX6_ifPlugged 56 = .ok (.goto 12, 3) := by decide +kernel
theorem dX6_ifPlugged_59 : decode cX6_ifPlugged 59 = .ok (.aload_n 0, 1) := by decide +kernel
theorem dX6_ifPlugged_60 : decode cX6_ifPlugged 60 = .ok (.iload_n 1, 1) := by decide +kernel
theorem dX6_ifPlugged_61 : decode cX6_ifPlugged 61 = .ok (.iload_n 2, 1) := by decide +kernel
theorem dX6_ifPlugged_62 : decode cX6_ifPlugged 62 = .ok (.iload_n 3, 1) := by decide +kernel
theorem dX6_ifPlugged_63 : decode cX6_ifPlugged 63 = .ok (.iload 4, 2) := by decide +kernel
theorem dX6_ifPlugged_65 : decode cX6_ifPlugged 65 = .ok (.invokevirtual 196, 3) := by decide +kernel
theorem dX6_ifPlugged_68 : decode cX6_ifPlugged 68 = .ok (.ireturn, 1) := by decide +kernel
theorem dX6_hoursToTrip_0 : decode cX6_hoursToTrip 0 = .ok (.aload_n 0, 1) := by decide +kernel
theorem dX6_hoursToTrip_1 : decode cX6_hoursToTrip 1 = .ok (.invokevirtual 190, 3) := by decide +kernel
theorem dX6_hoursToTrip_4 : decode cX6_hoursToTrip 4 = .ok (.iconst 0, 1) := by decide +kernel
theorem dX6_hoursToTrip_5 : decode cX6_hoursToTrip 5 = .ok (.istore_n 2, 1) := by decide +kernel
theorem dX6_hoursToTrip_6 : decode cX6_hoursToTrip 6 = .ok (.iload_n 2, 1) := by decide +kernel
theorem dX6_hoursToTrip_7 : decode cX6_hoursToTrip 7 = .ok (.bipush 96, 2) := by decide +kernel
theorem dX6_hoursToTrip_9 : decode cX6_hoursToTrip 9 = .ok (.if_icmp .gt 24, 3) := by decide +kernel
theorem dX6_hoursToTrip_12 : decode cX6_hoursToTrip 12 = .ok (.aload_n 0, 1) := by decide +kernel
theorem dX6_hoursToTrip_13 : decode cX6_hoursToTrip 13 = .ok (.iload_n 1, 1) := by decide +kernel
theorem dX6_hoursToTrip_14 : decode cX6_hoursToTrip 14 = .ok (.iconst 1, 1) := by decide +kernel
theorem dX6_hoursToTrip_15 : decode cX6_hoursToTrip 15 = .ok (.invokevirtual 59, 3) := by decide +kernel
theorem dX6_hoursToTrip_18 : decode cX6_hoursToTrip 18 = .ok (.iconst 1, 1) := by decide +kernel
theorem dX6_hoursToTrip_19 : decode cX6_hoursToTrip 19 = .ok (.if_icmp .ne 14, 3) := by decide +kernel
theorem dX6_hoursToTrip_22 : decode cX6_hoursToTrip 22 = .ok (.aload_n 0, 1) := by decide +kernel
theorem dX6_hoursToTrip_23 : decode cX6_hoursToTrip 23 = .ok (.invokevirtual 91, 3) := by decide +kernel
theorem dX6_hoursToTrip_26 : decode cX6_hoursToTrip 26 = .ok (.pop, 1) := by decide +kernel
theorem dX6_hoursToTrip_27 : decode cX6_hoursToTrip 27 = .ok (.iinc 2 1, 3) := by decide +kernel
theorem dX6_hoursToTrip_30 : decode cX6_hoursToTrip 30 = .ok (.goto (-24), 3) := by decide +kernel
theorem dX6_hoursToTrip_33 : decode cX6_hoursToTrip 33 = .ok (.aload_n 0, 1) := by decide +kernel
theorem dX6_hoursToTrip_34 : decode cX6_hoursToTrip 34 = .ok (.invokevirtual 193, 3) := by decide +kernel
theorem dX6_hoursToTrip_37 : decode cX6_hoursToTrip 37 = .ok (.iload_n 2, 1) := by decide +kernel
theorem dX6_hoursToTrip_38 : decode cX6_hoursToTrip 38 = .ok (.bipush 96, 2) := by decide +kernel
theorem dX6_hoursToTrip_40 : decode cX6_hoursToTrip 40 = .ok (.if_icmp .gt 7, 3) := by decide +kernel
theorem dX6_hoursToTrip_43 : decode cX6_hoursToTrip 43 = .ok (.iload_n 2, 1) := by decide +kernel
theorem dX6_hoursToTrip_44 : decode cX6_hoursToTrip 44 = .ok (.goto 4, 3) := by decide +kernel
theorem dX6_hoursToTrip_47 : decode cX6_hoursToTrip 47 = .ok (.iconst (-1), 1) := by decide +kernel
theorem dX6_hoursToTrip_48 : decode cX6_hoursToTrip 48 = .ok (.ireturn, 1) := by decide +kernel
theorem dX6_tripsIn_0 : decode cX6_tripsIn 0 = .ok (.aload_n 0, 1) := by decide +kernel
theorem dX6_tripsIn_1 : decode cX6_tripsIn 1 = .ok (.iload_n 1, 1) := by decide +kernel
theorem dX6_tripsIn_2 : decode cX6_tripsIn 2 = .ok (.invokestatic 114, 3) := by decide +kernel
theorem dX6_tripsIn_5 : decode cX6_tripsIn 5 = .ok (.ifCond .eq 7, 3) := by decide +kernel
theorem dX6_tripsIn_8 : decode cX6_tripsIn 8 = .ok (.iconst 0, 1) := by decide +kernel
theorem dX6_tripsIn_9 : decode cX6_tripsIn 9 = .ok (.goto 4, 3) := by decide +kernel
theorem dX6_tripsIn_12 : decode cX6_tripsIn 12 = .ok (.iconst 1, 1) := by decide +kernel
theorem dX6_tripsIn_13 : decode cX6_tripsIn 13 = .ok (.putfield 36, 3) := by decide +kernel
theorem dX6_tripsIn_16 : decode cX6_tripsIn 16 = .ok (.aload_n 0, 1) := by decide +kernel
theorem dX6_tripsIn_17 : decode cX6_tripsIn 17 = .ok (.getfield 36, 3) := by decide +kernel
theorem dX6_tripsIn_20 : decode cX6_tripsIn 20 = .ok (.ifCond .le 7, 3) := by decide +kernel
theorem dX6_tripsIn_23 : decode cX6_tripsIn 23 = .ok (.iconst 0, 1) := by decide +kernel
theorem dX6_tripsIn_24 : decode cX6_tripsIn 24 = .ok (.goto 8, 3) := by decide +kernel
theorem dX6_tripsIn_27 : decode cX6_tripsIn 27 = .ok (.aload_n 0, 1) := by decide +kernel
theorem dX6_tripsIn_28 : decode cX6_tripsIn 28 = .ok (.iload_n 1, 1) := by decide +kernel
theorem dX6_tripsIn_29 : decode cX6_tripsIn 29 = .ok (.invokevirtual 199, 3) := by decide +kernel
theorem dX6_tripsIn_32 : decode cX6_tripsIn 32 = .ok (.ireturn, 1) := by decide +kernel
theorem dX6_bestFor_0 : decode cX6_bestFor 0 = .ok (.iconst (-1), 1) := by decide +kernel
theorem dX6_bestFor_1 : decode cX6_bestFor 1 = .ok (.istore_n 2, 1) := by decide +kernel
theorem dX6_bestFor_2 : decode cX6_bestFor 2 = .ok (.iconst 0, 1) := by decide +kernel
theorem dX6_bestFor_3 : decode cX6_bestFor 3 = .ok (.istore_n 3, 1) := by decide +kernel
theorem dX6_bestFor_4 : decode cX6_bestFor 4 = .ok (.iconst 0, 1) := by decide +kernel
theorem dX6_bestFor_5 : decode cX6_bestFor 5 = .ok (.istore 4, 2) := by decide +kernel
theorem dX6_bestFor_7 : decode cX6_bestFor 7 = .ok (.iconst 0, 1) := by decide +kernel
theorem dX6_bestFor_8 : decode cX6_bestFor 8 = .ok (.istore 5, 2) := by decide +kernel
theorem dX6_bestFor_10 : decode cX6_bestFor 10 = .ok (.iload 5, 2) := by decide +kernel
theorem dX6_bestFor_12 : decode cX6_bestFor 12 = .ok (.bipush 12, 2) := by decide +kernel
theorem dX6_bestFor_14 : decode cX6_bestFor 14 = .ok (.if_icmp .ge 112, 3) := by decide +kernel
theorem dX6_bestFor_17 : decode cX6_bestFor 17 = .ok (.aload_n 0, 1) := by decide +kernel
theorem dX6_bestFor_18 : decode cX6_bestFor 18 = .ok (.iload_n 1, 1) := by decide +kernel
theorem dX6_bestFor_19 : decode cX6_bestFor 19 = .ok (.iload 5, 2) := by decide +kernel
theorem dX6_bestFor_21 : decode cX6_bestFor 21 = .ok (.invokevirtual 187, 3) := by decide +kernel
theorem dX6_bestFor_24 : decode cX6_bestFor 24 = .ok (.ifCond .ne 96, 3) := by decide +kernel
theorem dX6_bestFor_27 : decode cX6_bestFor 27 = .ok (.aload_n 0, 1) := by decide +kernel
theorem dX6_bestFor_28 : decode cX6_bestFor 28 = .ok (.iload_n 1, 1) := by decide +kernel
theorem dX6_bestFor_29 : decode cX6_bestFor 29 = .ok (.iload 5, 2) := by decide +kernel
theorem dX6_bestFor_31 : decode cX6_bestFor 31 = .ok (.bipush 24, 2) := by decide +kernel
theorem dX6_bestFor_33 : decode cX6_bestFor 33 = .ok (.iconst 1, 1) := by decide +kernel
theorem dX6_bestFor_34 : decode cX6_bestFor 34 = .ok (.invokevirtual 196, 3) := by decide +kernel
theorem dX6_bestFor_37 : decode cX6_bestFor 37 = .ok (.istore 6, 2) := by decide +kernel
theorem dX6_bestFor_39 : decode cX6_bestFor 39 = .ok (.aload_n 0, 1) := by decide +kernel
theorem dX6_bestFor_40 : decode cX6_bestFor 40 = .ok (.iload_n 1, 1) := by decide +kernel
theorem dX6_bestFor_41 : decode cX6_bestFor 41 = .ok (.iload 5, 2) := by decide +kernel
theorem dX6_bestFor_43 : decode cX6_bestFor 43 = .ok (.bipush 24, 2) := by decide +kernel
theorem dX6_bestFor_45 : decode cX6_bestFor 45 = .ok (.iconst 0, 1) := by decide +kernel
theorem dX6_bestFor_46 : decode cX6_bestFor 46 = .ok (.invokevirtual 196, 3) := by decide +kernel
theorem dX6_bestFor_49 : decode cX6_bestFor 49 = .ok (.istore 7, 2) := by decide +kernel
theorem dX6_bestFor_51 : decode cX6_bestFor 51 = .ok (.iload_n 2, 1) := by decide +kernel
theorem dX6_bestFor_52 : decode cX6_bestFor 52 = .ok (.iconst (-1), 1) := by decide +kernel
theorem dX6_bestFor_53 : decode cX6_bestFor 53 = .ok (.if_icmp .eq 22, 3) := by decide +kernel
theorem dX6_bestFor_56 : decode cX6_bestFor 56 = .ok (.iload 6, 2) := by decide +kernel
theorem dX6_bestFor_58 : decode cX6_bestFor 58 = .ok (.iload_n 3, 1) := by decide +kernel
theorem dX6_bestFor_59 : decode cX6_bestFor 59 = .ok (.if_icmp .lt 16, 3) := by decide +kernel
theorem dX6_bestFor_62 : decode cX6_bestFor 62 = .ok (.iload 6, 2) := by decide +kernel
theorem dX6_bestFor_64 : decode cX6_bestFor 64 = .ok (.iload_n 3, 1) := by decide +kernel
theorem dX6_bestFor_65 : decode cX6_bestFor 65 = .ok (.if_icmp .ne 14, 3) := by decide +kernel
theorem dX6_bestFor_68 : decode cX6_bestFor 68 = .ok (.iload 7, 2) := by decide +kernel
theorem dX6_bestFor_70 : decode cX6_bestFor 70 = .ok (.iload 4, 2) := by decide +kernel
theorem dX6_bestFor_72 : decode cX6_bestFor 72 = .ok (.if_icmp .ge 7, 3) := by decide +kernel
theorem dX6_bestFor_75 : decode cX6_bestFor 75 = .ok (.iconst 1, 1) := by decide +kernel
theorem dX6_bestFor_76 : decode cX6_bestFor 76 = .ok (.goto 4, 3) := by decide +kernel
theorem dX6_bestFor_79 : decode cX6_bestFor 79 = .ok (.iconst 0, 1) := by decide +kernel
theorem dX6_bestFor_80 : decode cX6_bestFor 80 = .ok (.istore 8, 2) := by decide +kernel
theorem dX6_bestFor_82 : decode cX6_bestFor 82 = .ok (.iload 8, 2) := by decide +kernel
theorem dX6_bestFor_84 : decode cX6_bestFor 84 = .ok (.ifCond .eq 8, 3) := by decide +kernel
theorem dX6_bestFor_87 : decode cX6_bestFor 87 = .ok (.iload 5, 2) := by decide +kernel
theorem dX6_bestFor_89 : decode cX6_bestFor 89 = .ok (.goto 4, 3) := by decide +kernel
theorem dX6_bestFor_92 : decode cX6_bestFor 92 = .ok (.iload_n 2, 1) := by decide +kernel
theorem dX6_bestFor_93 : decode cX6_bestFor 93 = .ok (.istore_n 2, 1) := by decide +kernel
theorem dX6_bestFor_94 : decode cX6_bestFor 94 = .ok (.iload 8, 2) := by decide +kernel
theorem dX6_bestFor_96 : decode cX6_bestFor 96 = .ok (.ifCond .eq 8, 3) := by decide +kernel
theorem dX6_bestFor_99 : decode cX6_bestFor 99 = .ok (.iload 6, 2) := by decide +kernel
theorem dX6_bestFor_101 : decode cX6_bestFor 101 = .ok (.goto 4, 3) := by decide +kernel
theorem dX6_bestFor_104 : decode cX6_bestFor 104 = .ok (.iload_n 3, 1) := by decide +kernel
theorem dX6_bestFor_105 : decode cX6_bestFor 105 = .ok (.istore_n 3, 1) := by decide +kernel
theorem dX6_bestFor_106 : decode cX6_bestFor 106 = .ok (.iload 8, 2) := by decide +kernel
theorem dX6_bestFor_108 : decode cX6_bestFor 108 = .ok (.ifCond .eq 8, 3) := by decide +kernel
theorem dX6_bestFor_111 : decode cX6_bestFor 111 = .ok (.iload 7, 2) := by decide +kernel
theorem dX6_bestFor_113 : decode cX6_bestFor 113 = .ok (.goto 5, 3) := by decide +kernel
theorem dX6_bestFor_116 : decode cX6_bestFor 116 = .ok (.iload 4, 2) := by decide +kernel
theorem dX6_bestFor_118 : decode cX6_bestFor 118 = .ok (.istore 4, 2) := by decide +kernel
theorem dX6_bestFor_120 : decode cX6_bestFor 120 = .ok (.iinc 5 1, 3) := by decide +kernel
theorem dX6_bestFor_123 : decode cX6_bestFor 123 = .ok (.goto (-113), 3) := by decide +kernel
theorem dX6_bestFor_126 : decode cX6_bestFor 126 = .ok (.iload_n 2, 1) := by decide +kernel
theorem dX6_bestFor_127 : decode cX6_bestFor 127 = .ok (.ireturn, 1) := by decide +kernel
theorem dX6_bestSocket_0 : decode cX6_bestSocket 0 = .ok (.aload_n 0, 1) := by decide +kernel
theorem dX6_bestSocket_1 : decode cX6_bestSocket 1 = .ok (.aload_n 0, 1) := by decide +kernel
theorem dX6_bestSocket_2 : decode cX6_bestSocket 2 = .ok (.iload_n 1, 1) := by decide +kernel
theorem dX6_bestSocket_3 : decode cX6_bestSocket 3 = .ok (.invokevirtual 102, 3) := by decide +kernel
theorem dX6_bestSocket_6 : decode cX6_bestSocket 6 = .ok (.ifCond .eq 7, 3) := by decide +kernel
theorem dX6_bestSocket_9 : decode cX6_bestSocket 9 = .ok (.iconst 0, 1) := by decide +kernel
theorem dX6_bestSocket_10 : decode cX6_bestSocket 10 = .ok (.goto 4, 3) := by decide +kernel
theorem dX6_bestSocket_13 : decode cX6_bestSocket 13 = .ok (.iconst 1, 1) := by decide +kernel
theorem dX6_bestSocket_14 : decode cX6_bestSocket 14 = .ok (.putfield 36, 3) := by decide +kernel
theorem dX6_bestSocket_17 : decode cX6_bestSocket 17 = .ok (.aload_n 0, 1) := by decide +kernel
theorem dX6_bestSocket_18 : decode cX6_bestSocket 18 = .ok (.getfield 36, 3) := by decide +kernel
theorem dX6_bestSocket_21 : decode cX6_bestSocket 21 = .ok (.ifCond .le 7, 3) := by decide +kernel
theorem dX6_bestSocket_24 : decode cX6_bestSocket 24 = .ok (.iconst 0, 1) := by decide +kernel
theorem dX6_bestSocket_25 : decode cX6_bestSocket 25 = .ok (.goto 8, 3) := by decide +kernel
theorem dX6_bestSocket_28 : decode cX6_bestSocket 28 = .ok (.aload_n 0, 1) := by decide +kernel
theorem dX6_bestSocket_29 : decode cX6_bestSocket 29 = .ok (.iload_n 1, 1) := by decide +kernel
theorem dX6_bestSocket_30 : decode cX6_bestSocket 30 = .ok (.invokevirtual 202, 3) := by decide +kernel
theorem dX6_bestSocket_33 : decode cX6_bestSocket 33 = .ok (.ireturn, 1) := by decide +kernel
theorem dX6_least_0 : decode cX6_least 0 = .ok (.iconst (-1), 1) := by decide +kernel
theorem dX6_least_1 : decode cX6_least 1 = .ok (.istore_n 2, 1) := by decide +kernel
theorem dX6_least_2 : decode cX6_least 2 = .ok (.bipush 10, 2) := by decide +kernel
theorem dX6_least_4 : decode cX6_least 4 = .ok (.istore_n 3, 1) := by decide +kernel
theorem dX6_least_5 : decode cX6_least 5 = .ok (.iload_n 3, 1) := by decide +kernel
theorem dX6_least_6 : decode cX6_least 6 = .ok (.sipush 999, 3) := by decide +kernel
theorem dX6_least_9 : decode cX6_least 9 = .ok (.if_icmp .gt 81, 3) := by decide +kernel
theorem dX6_least_12 : decode cX6_least 12 = .ok (.iload_n 2, 1) := by decide +kernel
theorem dX6_least_13 : decode cX6_least 13 = .ok (.iconst (-1), 1) := by decide +kernel
theorem dX6_least_14 : decode cX6_least 14 = .ok (.if_icmp .ne 76, 3) := by decide +kernel
theorem dX6_least_17 : decode cX6_least 17 = .ok (.aload_n 0, 1) := by decide +kernel
theorem dX6_least_18 : decode cX6_least 18 = .ok (.invokevirtual 190, 3) := by decide +kernel
theorem dX6_least_21 : decode cX6_least 21 = .ok (.aload_n 0, 1) := by decide +kernel
theorem dX6_least_22 : decode cX6_least 22 = .ok (.iload_n 1, 1) := by decide +kernel
theorem dX6_least_23 : decode cX6_least 23 = .ok (.iconst 0, 1) := by decide +kernel
theorem dX6_least_24 : decode cX6_least 24 = .ok (.iload_n 3, 1) := by decide +kernel
theorem dX6_least_25 : decode cX6_least 25 = .ok (.invokevirtual 32, 3) := by decide +kernel
theorem dX6_least_28 : decode cX6_least 28 = .ok (.aload_n 0, 1) := by decide +kernel
theorem dX6_least_29 : decode cX6_least 29 = .ok (.iload_n 1, 1) := by decide +kernel
theorem dX6_least_30 : decode cX6_least 30 = .ok (.invokevirtual 117, 3) := by decide +kernel
theorem dX6_least_33 : decode cX6_least 33 = .ok (.iconst 0, 1) := by decide +kernel
theorem dX6_least_34 : decode cX6_least 34 = .ok (.istore 4, 2) := by decide +kernel
theorem dX6_least_36 : decode cX6_least 36 = .ok (.iload 4, 2) := by decide +kernel
theorem dX6_least_38 : decode cX6_least 38 = .ok (.bipush 48, 2) := by decide +kernel
theorem dX6_least_40 : decode cX6_least 40 = .ok (.if_icmp .ge 24, 3) := by decide +kernel
theorem dX6_least_43 : decode cX6_least 43 = .ok (.aload_n 0, 1) := by decide +kernel
theorem dX6_least_44 : decode cX6_least 44 = .ok (.iload_n 1, 1) := by decide +kernel
theorem dX6_least_45 : decode cX6_least 45 = .ok (.iconst 1, 1) := by decide +kernel
theorem dX6_least_46 : decode cX6_least 46 = .ok (.invokevirtual 59, 3) := by decide +kernel
theorem dX6_least_49 : decode cX6_least 49 = .ok (.iconst 1, 1) := by decide +kernel
theorem dX6_least_50 : decode cX6_least 50 = .ok (.if_icmp .ne 14, 3) := by decide +kernel
theorem dX6_least_53 : decode cX6_least 53 = .ok (.aload_n 0, 1) := by decide +kernel
theorem dX6_least_54 : decode cX6_least 54 = .ok (.invokevirtual 91, 3) := by decide +kernel
theorem dX6_least_57 : decode cX6_least 57 = .ok (.pop, 1) := by decide +kernel
theorem dX6_least_58 : decode cX6_least 58 = .ok (.iinc 4 1, 3) := by decide +kernel
theorem dX6_least_61 : decode cX6_least 61 = .ok (.goto (-25), 3) := by decide +kernel
theorem dX6_least_64 : decode cX6_least 64 = .ok (.aload_n 0, 1) := by decide +kernel
theorem dX6_least_65 : decode cX6_least 65 = .ok (.iload_n 1, 1) := by decide +kernel
theorem dX6_least_66 : decode cX6_least 66 = .ok (.iconst 1, 1) := by decide +kernel
theorem dX6_least_67 : decode cX6_least 67 = .ok (.invokevirtual 59, 3) := by decide +kernel
theorem dX6_least_70 : decode cX6_least 70 = .ok (.iconst 1, 1) := by decide +kernel
theorem dX6_least_71 : decode cX6_least 71 = .ok (.if_icmp .ne 7, 3) := by decide +kernel
theorem dX6_least_74 : decode cX6_least 74 = .ok (.iload_n 3, 1) := by decide +kernel
theorem dX6_least_75 : decode cX6_least 75 = .ok (.goto 4, 3) := by decide +kernel
theorem dX6_least_78 : decode cX6_least 78 = .ok (.iconst (-1), 1) := by decide +kernel
theorem dX6_least_79 : decode cX6_least 79 = .ok (.istore_n 2, 1) := by decide +kernel
theorem dX6_least_80 : decode cX6_least 80 = .ok (.aload_n 0, 1) := by decide +kernel
theorem dX6_least_81 : decode cX6_least 81 = .ok (.invokevirtual 193, 3) := by decide +kernel
theorem dX6_least_84 : decode cX6_least 84 = .ok (.iinc 3 1, 3) := by decide +kernel
theorem dX6_least_87 : decode cX6_least 87 = .ok (.goto (-82), 3) := by decide +kernel
theorem dX6_least_90 : decode cX6_least 90 = .ok (.iload_n 2, 1) := by decide +kernel
theorem dX6_least_91 : decode cX6_least 91 = .ok (.ireturn, 1) := by decide +kernel
theorem dX6_leastBound_0 : decode cX6_leastBound 0 = .ok (.aload_n 0, 1) := by decide +kernel
theorem dX6_leastBound_1 : decode cX6_leastBound 1 = .ok (.iload_n 1, 1) := by decide +kernel
theorem dX6_leastBound_2 : decode cX6_leastBound 2 = .ok (.invokestatic 114, 3) := by decide +kernel
theorem dX6_leastBound_5 : decode cX6_leastBound 5 = .ok (.ifCond .eq 7, 3) := by decide +kernel
theorem dX6_leastBound_8 : decode cX6_leastBound 8 = .ok (.iconst 0, 1) := by decide +kernel
theorem dX6_leastBound_9 : decode cX6_leastBound 9 = .ok (.goto 4, 3) := by decide +kernel
theorem dX6_leastBound_12 : decode cX6_leastBound 12 = .ok (.iconst 1, 1) := by decide +kernel
theorem dX6_leastBound_13 : decode cX6_leastBound 13 = .ok (.putfield 36, 3) := by decide +kernel
theorem dX6_leastBound_16 : decode cX6_leastBound 16 = .ok (.aload_n 0, 1) := by decide +kernel
theorem dX6_leastBound_17 : decode cX6_leastBound 17 = .ok (.getfield 36, 3) := by decide +kernel
theorem dX6_leastBound_20 : decode cX6_leastBound 20 = .ok (.ifCond .le 7, 3) := by decide +kernel
theorem dX6_leastBound_23 : decode cX6_leastBound 23 = .ok (.iconst 0, 1) := by decide +kernel
theorem dX6_leastBound_24 : decode cX6_leastBound 24 = .ok (.goto 8, 3) := by decide +kernel
theorem dX6_leastBound_27 : decode cX6_leastBound 27 = .ok (.aload_n 0, 1) := by decide +kernel
theorem dX6_leastBound_28 : decode cX6_leastBound 28 = .ok (.iload_n 1, 1) := by decide +kernel
theorem dX6_leastBound_29 : decode cX6_leastBound 29 = .ok (.invokevirtual 205, 3) := by decide +kernel
theorem dX6_leastBound_32 : decode cX6_leastBound 32 = .ok (.ireturn, 1) := by decide +kernel
theorem dX6_share_0 : decode cX6_share 0 = .ok (.aload_n 0, 1) := by decide +kernel
theorem dX6_share_1 : decode cX6_share 1 = .ok (.getfield 7, 3) := by decide +kernel
theorem dX6_share_4 : decode cX6_share 4 = .ok (.bipush 6, 2) := by decide +kernel
theorem dX6_share_6 : decode cX6_share 6 = .ok (.iaload, 1) := by decide +kernel
theorem dX6_share_7 : decode cX6_share 7 = .ok (.aload_n 0, 1) := by decide +kernel
theorem dX6_share_8 : decode cX6_share 8 = .ok (.bipush 7, 2) := by decide +kernel
theorem dX6_share_10 : decode cX6_share 10 = .ok (.invokevirtual 181, 3) := by decide +kernel
theorem dX6_share_13 : decode cX6_share 13 = .ok (.iadd, 1) := by decide +kernel
theorem dX6_share_14 : decode cX6_share 14 = .ok (.istore_n 1, 1) := by decide +kernel
theorem dX6_share_15 : decode cX6_share 15 = .ok (.iload_n 1, 1) := by decide +kernel
theorem dX6_share_16 : decode cX6_share 16 = .ok (.ifCond .ne 7, 3) := by decide +kernel
theorem dX6_share_19 : decode cX6_share 19 = .ok (.dconst 1, 1) := by decide +kernel
theorem dX6_share_20 : decode cX6_share 20 = .ok (.goto 14, 3) := by decide +kernel
theorem dX6_share_23 : decode cX6_share 23 = .ok (.aload_n 0, 1) := by decide +kernel
theorem dX6_share_24 : decode cX6_share 24 = .ok (.getfield 7, 3) := by decide +kernel
theorem dX6_share_27 : decode cX6_share 27 = .ok (.bipush 6, 2) := by decide +kernel
theorem dX6_share_29 : decode cX6_share 29 = .ok (.iaload, 1) := by decide +kernel
theorem dX6_share_30 : decode cX6_share 30 = .ok (.i2d, 1) := by decide +kernel
theorem dX6_share_31 : decode cX6_share 31 = .ok (.iload_n 1, 1) := by decide +kernel
theorem dX6_share_32 : decode cX6_share 32 = .ok (.i2d, 1) := by decide +kernel
theorem dX6_share_33 : decode cX6_share 33 = .ok (.ddiv, 1) := by decide +kernel
theorem dX6_share_34 : decode cX6_share 34 = .ok (.dreturn, 1) := by decide +kernel
theorem dX6_servedShare_0 : decode cX6_servedShare 0 = .ok (.aload_n 0, 1) := by decide +kernel
theorem dX6_servedShare_1 : decode cX6_servedShare 1 = .ok (.iconst 0, 1) := by decide +kernel
theorem dX6_servedShare_2 : decode cX6_servedShare 2 = .ok (.putfield 36, 3) := by decide +kernel
theorem dX6_servedShare_5 : decode cX6_servedShare 5 = .ok (.aload_n 0, 1) := by decide +kernel
theorem dX6_servedShare_6 : decode cX6_servedShare 6 = .ok (.invokevirtual 208, 3) := by decide +kernel
theorem dX6_servedShare_9 : decode cX6_servedShare 9 = .ok (.dreturn, 1) := by decide +kernel
theorem dX6_bitsOf_0 : decode cX6_bitsOf 0 = .ok (.dload_n 0, 1) := by decide +kernel
theorem dX6_bitsOf_1 : decode cX6_bitsOf 1 = .ok (.dconst 0, 1) := by decide +kernel
theorem dX6_bitsOf_2 : decode cX6_bitsOf 2 = .ok (.dcmp .l, 1) := by decide +kernel
theorem dX6_bitsOf_3 : decode cX6_bitsOf 3 = .ok (.ifCond .ne 5, 3) := by decide +kernel
theorem dX6_bitsOf_6 : decode cX6_bitsOf 6 = .ok (.lconst 0, 1) := by decide +kernel
theorem dX6_bitsOf_7 : decode cX6_bitsOf 7 = .ok (.lreturn, 1) := by decide +kernel
theorem dX6_bitsOf_8 : decode cX6_bitsOf 8 = .ok (.dload_n 0, 1) := by decide +kernel
theorem dX6_bitsOf_9 : decode cX6_bitsOf 9 = .ok (.dstore_n 2, 1) := by decide +kernel
theorem dX6_bitsOf_10 : decode cX6_bitsOf 10 = .ok (.ldc2_w 212, 3) := by decide +kernel
theorem dX6_bitsOf_13 : decode cX6_bitsOf 13 = .ok (.lstore 4, 2) := by decide +kernel
theorem dX6_bitsOf_15 : decode cX6_bitsOf 15 = .ok (.dload_n 2, 1) := by decide +kernel
theorem dX6_bitsOf_16 : decode cX6_bitsOf 16 = .ok (.ldc2_w 214, 3) := by decide +kernel
theorem dX6_bitsOf_19 : decode cX6_bitsOf 19 = .ok (.dcmp .l, 1) := by decide +kernel
theorem dX6_bitsOf_20 : decode cX6_bitsOf 20 = .ok (.ifCond .lt 18, 3) := by decide +kernel
theorem dX6_bitsOf_23 : decode cX6_bitsOf 23 = .ok (.dload_n 2, 1) := by decide +kernel
theorem dX6_bitsOf_24 : decode cX6_bitsOf 24 = .ok (.ldc2_w 214, 3) := by decide +kernel
theorem dX6_bitsOf_27 : decode cX6_bitsOf 27 = .ok (.ddiv, 1) := by decide +kernel
theorem dX6_bitsOf_28 : decode cX6_bitsOf 28 = .ok (.dstore_n 2, 1) := by decide +kernel
theorem dX6_bitsOf_29 : decode cX6_bitsOf 29 = .ok (.lload 4, 2) := by decide +kernel
theorem dX6_bitsOf_31 : decode cX6_bitsOf 31 = .ok (.lconst 1, 1) := by decide +kernel
theorem dX6_bitsOf_32 : decode cX6_bitsOf 32 = .ok (.ladd, 1) := by decide +kernel
theorem dX6_bitsOf_33 : decode cX6_bitsOf 33 = .ok (.lstore 4, 2) := by decide +kernel
theorem dX6_bitsOf_35 : decode cX6_bitsOf 35 = .ok (.goto (-20), 3) := by decide +kernel
theorem dX6_bitsOf_38 : decode cX6_bitsOf 38 = .ok (.dload_n 2, 1) := by decide +kernel
theorem dX6_bitsOf_39 : decode cX6_bitsOf 39 = .ok (.dconst 1, 1) := by decide +kernel
theorem dX6_bitsOf_40 : decode cX6_bitsOf 40 = .ok (.dcmp .g, 1) := by decide +kernel
theorem dX6_bitsOf_41 : decode cX6_bitsOf 41 = .ok (.ifCond .ge 18, 3) := by decide +kernel
theorem dX6_bitsOf_44 : decode cX6_bitsOf 44 = .ok (.dload_n 2, 1) := by decide +kernel
theorem dX6_bitsOf_45 : decode cX6_bitsOf 45 = .ok (.ldc2_w 214, 3) := by decide +kernel
theorem dX6_bitsOf_48 : decode cX6_bitsOf 48 = .ok (.dmul, 1) := by decide +kernel
theorem dX6_bitsOf_49 : decode cX6_bitsOf 49 = .ok (.dstore_n 2, 1) := by decide +kernel
theorem dX6_bitsOf_50 : decode cX6_bitsOf 50 = .ok (.lload 4, 2) := by decide +kernel
theorem dX6_bitsOf_52 : decode cX6_bitsOf 52 = .ok (.lconst 1, 1) := by decide +kernel
theorem dX6_bitsOf_53 : decode cX6_bitsOf 53 = .ok (.lsub, 1) := by decide +kernel
theorem dX6_bitsOf_54 : decode cX6_bitsOf 54 = .ok (.lstore 4, 2) := by decide +kernel
theorem dX6_bitsOf_56 : decode cX6_bitsOf 56 = .ok (.goto (-18), 3) := by decide +kernel
theorem dX6_bitsOf_59 : decode cX6_bitsOf 59 = .ok (.lload 4, 2) := by decide +kernel
theorem dX6_bitsOf_61 : decode cX6_bitsOf 61 = .ok (.bipush 52, 2) := by decide +kernel
theorem dX6_bitsOf_63 : decode cX6_bitsOf 63 = .ok (.lshl, 1) := by decide +kernel
theorem dX6_bitsOf_64 : decode cX6_bitsOf 64 = .ok (.dload_n 2, 1) := by decide +kernel
theorem dX6_bitsOf_65 : decode cX6_bitsOf 65 = .ok (.ldc2_w 216, 3) := by decide +kernel
theorem dX6_bitsOf_68 : decode cX6_bitsOf 68 = .ok (.dmul, 1) := by decide +kernel
theorem dX6_bitsOf_69 : decode cX6_bitsOf 69 = .ok (.d2l, 1) := by decide +kernel
theorem dX6_bitsOf_70 : decode cX6_bitsOf 70 = .ok (.ladd, 1) := by decide +kernel
theorem dX6_bitsOf_71 : decode cX6_bitsOf 71 = .ok (.ldc2_w 218, 3) := by decide +kernel
theorem dX6_bitsOf_74 : decode cX6_bitsOf 74 = .ok (.lsub, 1) := by decide +kernel
theorem dX6_bitsOf_75 : decode cX6_bitsOf 75 = .ok (.lreturn, 1) := by decide +kernel
theorem dX6_mix_0 : decode cX6_mix 0 = .ok (.aload_n 0, 1) := by decide +kernel
theorem dX6_mix_1 : decode cX6_mix 1 = .ok (.ldc2_w 220, 3) := by decide +kernel
theorem dX6_mix_4 : decode cX6_mix 4 = .ok (.aload_n 0, 1) := by decide +kernel
theorem dX6_mix_5 : decode cX6_mix 5 = .ok (.getfield 222, 3) := by decide +kernel
theorem dX6_mix_8 : decode cX6_mix 8 = .ok (.lmul, 1) := by decide +kernel
theorem dX6_mix_9 : decode cX6_mix 9 = .ok (.lload_n 1, 1) := by decide +kernel
theorem dX6_mix_10 : decode cX6_mix 10 = .ok (.ladd, 1) := by decide +kernel
theorem dX6_mix_11 : decode cX6_mix 11 = .ok (.putfield 222, 3) := by decide +kernel
theorem dX6_mix_14 : decode cX6_mix 14 = .ok (.return_, 1) := by decide +kernel
theorem dX6_mixStall_0 : decode cX6_mixStall 0 = .ok (.iconst 0, 1) := by decide +kernel
theorem dX6_mixStall_1 : decode cX6_mixStall 1 = .ok (.istore_n 2, 1) := by decide +kernel
theorem dX6_mixStall_2 : decode cX6_mixStall 2 = .ok (.iload_n 2, 1) := by decide +kernel
theorem dX6_mixStall_3 : decode cX6_mixStall 3 = .ok (.bipush 9, 2) := by decide +kernel
theorem dX6_mixStall_5 : decode cX6_mixStall 5 = .ok (.if_icmp .gt 20, 3) := by decide +kernel
theorem dX6_mixStall_8 : decode cX6_mixStall 8 = .ok (.aload_n 0, 1) := by decide +kernel
theorem dX6_mixStall_9 : decode cX6_mixStall 9 = .ok (.aload_n 0, 1) := by decide +kernel
theorem dX6_mixStall_10 : decode cX6_mixStall 10 = .ok (.iload_n 1, 1) := by decide +kernel
theorem dX6_mixStall_11 : decode cX6_mixStall 11 = .ok (.iload_n 2, 1) := by decide +kernel
theorem dX6_mixStall_12 : decode cX6_mixStall 12 = .ok (.invokevirtual 166, 3) := by decide +kernel
theorem dX6_mixStall_15 : decode cX6_mixStall 15 = .ok (.i2l, 1) := by decide +kernel
theorem dX6_mixStall_16 : decode cX6_mixStall 16 = .ok (.invokevirtual 226, 3) := by decide +kernel
theorem dX6_mixStall_19 : decode cX6_mixStall 19 = .ok (.iinc 2 1, 3) := by decide +kernel
theorem dX6_mixStall_22 : decode cX6_mixStall 22 = .ok (.goto (-20), 3) := by decide +kernel
theorem dX6_mixStall_25 : decode cX6_mixStall 25 = .ok (.iconst 0, 1) := by decide +kernel
theorem dX6_mixStall_26 : decode cX6_mixStall 26 = .ok (.istore_n 2, 1) := by decide +kernel
theorem dX6_mixStall_27 : decode cX6_mixStall 27 = .ok (.iload_n 2, 1) := by decide +kernel
theorem dX6_mixStall_28 : decode cX6_mixStall 28 = .ok (.iconst 2, 1) := by decide +kernel
theorem dX6_mixStall_29 : decode cX6_mixStall 29 = .ok (.if_icmp .gt 24, 3) := by decide +kernel
theorem dX6_mixStall_32 : decode cX6_mixStall 32 = .ok (.aload_n 0, 1) := by decide +kernel
theorem dX6_mixStall_33 : decode cX6_mixStall 33 = .ok (.aload_n 0, 1) := by decide +kernel
theorem dX6_mixStall_34 : decode cX6_mixStall 34 = .ok (.iload_n 1, 1) := by decide +kernel
theorem dX6_mixStall_35 : decode cX6_mixStall 35 = .ok (.bipush 10, 2) := by decide +kernel
theorem dX6_mixStall_37 : decode cX6_mixStall 37 = .ok (.bipush 12, 2) := by decide +kernel
theorem dX6_mixStall_39 : decode cX6_mixStall 39 = .ok (.iload_n 2, 1) := by decide +kernel
theorem dX6_mixStall_40 : decode cX6_mixStall 40 = .ok (.invokevirtual 196, 3) := by decide +kernel
theorem dX6_mixStall_43 : decode cX6_mixStall 43 = .ok (.i2l, 1) := by decide +kernel
theorem dX6_mixStall_44 : decode cX6_mixStall 44 = .ok (.invokevirtual 226, 3) := by decide +kernel
theorem dX6_mixStall_47 : decode cX6_mixStall 47 = .ok (.iinc 2 1, 3) := by decide +kernel
theorem dX6_mixStall_50 : decode cX6_mixStall 50 = .ok (.goto (-23), 3) := by decide +kernel
theorem dX6_mixStall_53 : decode cX6_mixStall 53 = .ok (.aload_n 0, 1) := by decide +kernel
theorem dX6_mixStall_54 : decode cX6_mixStall 54 = .ok (.aload_n 0, 1) := by decide +kernel
theorem dX6_mixStall_55 : decode cX6_mixStall 55 = .ok (.iload_n 1, 1) := by decide +kernel
theorem dX6_mixStall_56 : decode cX6_mixStall 56 = .ok (.invokevirtual 202, 3) := by decide +kernel
theorem dX6_mixStall_59 : decode cX6_mixStall 59 = .ok (.i2l, 1) := by decide +kernel
theorem dX6_mixStall_60 : decode cX6_mixStall 60 = .ok (.invokevirtual 226, 3) := by decide +kernel
theorem dX6_mixStall_63 : decode cX6_mixStall 63 = .ok (.return_, 1) := by decide +kernel
theorem dX6_mixBreaker_0 : decode cX6_mixBreaker 0 = .ok (.iconst 0, 1) := by decide +kernel
theorem dX6_mixBreaker_1 : decode cX6_mixBreaker 1 = .ok (.istore_n 2, 1) := by decide +kernel
theorem dX6_mixBreaker_2 : decode cX6_mixBreaker 2 = .ok (.iload_n 2, 1) := by decide +kernel
theorem dX6_mixBreaker_3 : decode cX6_mixBreaker 3 = .ok (.bipush 6, 2) := by decide +kernel
theorem dX6_mixBreaker_5 : decode cX6_mixBreaker 5 = .ok (.if_icmp .gt 20, 3) := by decide +kernel
theorem dX6_mixBreaker_8 : decode cX6_mixBreaker 8 = .ok (.aload_n 0, 1) := by decide +kernel
theorem dX6_mixBreaker_9 : decode cX6_mixBreaker 9 = .ok (.aload_n 0, 1) := by decide +kernel
theorem dX6_mixBreaker_10 : decode cX6_mixBreaker 10 = .ok (.iload_n 1, 1) := by decide +kernel
theorem dX6_mixBreaker_11 : decode cX6_mixBreaker 11 = .ok (.iload_n 2, 1) := by decide +kernel
theorem dX6_mixBreaker_12 : decode cX6_mixBreaker 12 = .ok (.invokevirtual 172, 3) := by decide +kernel
theorem dX6_mixBreaker_15 : decode cX6_mixBreaker 15 = .ok (.i2l, 1) := by decide +kernel
theorem dX6_mixBreaker_16 : decode cX6_mixBreaker 16 = .ok (.invokevirtual 226, 3) := by decide +kernel
theorem dX6_mixBreaker_19 : decode cX6_mixBreaker 19 = .ok (.iinc 2 1, 3) := by decide +kernel
theorem dX6_mixBreaker_22 : decode cX6_mixBreaker 22 = .ok (.goto (-20), 3) := by decide +kernel
theorem dX6_mixBreaker_25 : decode cX6_mixBreaker 25 = .ok (.aload_n 0, 1) := by decide +kernel
theorem dX6_mixBreaker_26 : decode cX6_mixBreaker 26 = .ok (.aload_n 0, 1) := by decide +kernel
theorem dX6_mixBreaker_27 : decode cX6_mixBreaker 27 = .ok (.iload_n 1, 1) := by decide +kernel
theorem dX6_mixBreaker_28 : decode cX6_mixBreaker 28 = .ok (.invokevirtual 199, 3) := by decide +kernel
theorem dX6_mixBreaker_31 : decode cX6_mixBreaker 31 = .ok (.i2l, 1) := by decide +kernel
theorem dX6_mixBreaker_32 : decode cX6_mixBreaker 32 = .ok (.invokevirtual 226, 3) := by decide +kernel
theorem dX6_mixBreaker_35 : decode cX6_mixBreaker 35 = .ok (.return_, 1) := by decide +kernel
theorem dX6_digest_0 : decode cX6_digest 0 = .ok (.aload_n 0, 1) := by decide +kernel
theorem dX6_digest_1 : decode cX6_digest 1 = .ok (.iconst 0, 1) := by decide +kernel
theorem dX6_digest_2 : decode cX6_digest 2 = .ok (.putfield 36, 3) := by decide +kernel
theorem dX6_digest_5 : decode cX6_digest 5 = .ok (.aload_n 0, 1) := by decide +kernel
theorem dX6_digest_6 : decode cX6_digest 6 = .ok (.ldc2_w 230, 3) := by decide +kernel
theorem dX6_digest_9 : decode cX6_digest 9 = .ok (.putfield 222, 3) := by decide +kernel
theorem dX6_digest_12 : decode cX6_digest 12 = .ok (.iconst 0, 1) := by decide +kernel
theorem dX6_digest_13 : decode cX6_digest 13 = .ok (.istore_n 1, 1) := by decide +kernel
theorem dX6_digest_14 : decode cX6_digest 14 = .ok (.iload_n 1, 1) := by decide +kernel
theorem dX6_digest_15 : decode cX6_digest 15 = .ok (.bipush 11, 2) := by decide +kernel
theorem dX6_digest_17 : decode cX6_digest 17 = .ok (.if_icmp .gt 19, 3) := by decide +kernel
theorem dX6_digest_20 : decode cX6_digest 20 = .ok (.aload_n 0, 1) := by decide +kernel
theorem dX6_digest_21 : decode cX6_digest 21 = .ok (.aload_n 0, 1) := by decide +kernel
theorem dX6_digest_22 : decode cX6_digest 22 = .ok (.iload_n 1, 1) := by decide +kernel
theorem dX6_digest_23 : decode cX6_digest 23 = .ok (.invokevirtual 184, 3) := by decide +kernel
theorem dX6_digest_26 : decode cX6_digest 26 = .ok (.i2l, 1) := by decide +kernel
theorem dX6_digest_27 : decode cX6_digest 27 = .ok (.invokevirtual 226, 3) := by decide +kernel
theorem dX6_digest_30 : decode cX6_digest 30 = .ok (.iinc 1 1, 3) := by decide +kernel
theorem dX6_digest_33 : decode cX6_digest 33 = .ok (.goto (-19), 3) := by decide +kernel
theorem dX6_digest_36 : decode cX6_digest 36 = .ok (.iconst 0, 1) := by decide +kernel
theorem dX6_digest_37 : decode cX6_digest 37 = .ok (.istore_n 1, 1) := by decide +kernel
theorem dX6_digest_38 : decode cX6_digest 38 = .ok (.iload_n 1, 1) := by decide +kernel
theorem dX6_digest_39 : decode cX6_digest 39 = .ok (.iconst 3, 1) := by decide +kernel
theorem dX6_digest_40 : decode cX6_digest 40 = .ok (.if_icmp .ge 22, 3) := by decide +kernel
theorem dX6_digest_43 : decode cX6_digest 43 = .ok (.aload_n 0, 1) := by decide +kernel
theorem dX6_digest_44 : decode cX6_digest 44 = .ok (.aload_n 0, 1) := by decide +kernel
theorem dX6_digest_45 : decode cX6_digest 45 = .ok (.getfield 7, 3) := by decide +kernel
theorem dX6_digest_48 : decode cX6_digest 48 = .ok (.iconst 0, 1) := by decide +kernel
theorem dX6_digest_49 : decode cX6_digest 49 = .ok (.iload_n 1, 1) := by decide +kernel
theorem dX6_digest_50 : decode cX6_digest 50 = .ok (.iadd, 1) := by decide +kernel
theorem dX6_digest_51 : decode cX6_digest 51 = .ok (.iaload, 1) := by decide +kernel
theorem dX6_digest_52 : decode cX6_digest 52 = .ok (.i2l, 1) := by decide +kernel
theorem dX6_digest_53 : decode cX6_digest 53 = .ok (.invokevirtual 226, 3) := by decide +kernel
theorem dX6_digest_56 : decode cX6_digest 56 = .ok (.iinc 1 1, 3) := by decide +kernel
theorem dX6_digest_59 : decode cX6_digest 59 = .ok (.goto (-21), 3) := by decide +kernel
theorem dX6_digest_62 : decode cX6_digest 62 = .ok (.iconst 0, 1) := by decide +kernel
theorem dX6_digest_63 : decode cX6_digest 63 = .ok (.istore_n 1, 1) := by decide +kernel
theorem dX6_digest_64 : decode cX6_digest 64 = .ok (.iload_n 1, 1) := by decide +kernel
theorem dX6_digest_65 : decode cX6_digest 65 = .ok (.aload_n 0, 1) := by decide +kernel
theorem dX6_digest_66 : decode cX6_digest 66 = .ok (.getfield 7, 3) := by decide +kernel
theorem dX6_digest_69 : decode cX6_digest 69 = .ok (.iconst 4, 1) := by decide +kernel
theorem dX6_digest_70 : decode cX6_digest 70 = .ok (.iaload, 1) := by decide +kernel
theorem dX6_digest_71 : decode cX6_digest 71 = .ok (.if_icmp .ge 14, 3) := by decide +kernel
theorem dX6_digest_74 : decode cX6_digest 74 = .ok (.aload_n 0, 1) := by decide +kernel
theorem dX6_digest_75 : decode cX6_digest 75 = .ok (.iload_n 1, 1) := by decide +kernel
theorem dX6_digest_76 : decode cX6_digest 76 = .ok (.invokevirtual 232, 3) := by decide +kernel
theorem dX6_digest_79 : decode cX6_digest 79 = .ok (.iinc 1 1, 3) := by decide +kernel
theorem dX6_digest_82 : decode cX6_digest 82 = .ok (.goto (-18), 3) := by decide +kernel
theorem dX6_digest_85 : decode cX6_digest 85 = .ok (.iconst 0, 1) := by decide +kernel
theorem dX6_digest_86 : decode cX6_digest 86 = .ok (.istore_n 1, 1) := by decide +kernel
theorem dX6_digest_87 : decode cX6_digest 87 = .ok (.iload_n 1, 1) := by decide +kernel
theorem dX6_digest_88 : decode cX6_digest 88 = .ok (.iconst 4, 1) := by decide +kernel
theorem dX6_digest_89 : decode cX6_digest 89 = .ok (.if_icmp .ge 14, 3) := by decide +kernel
theorem dX6_digest_92 : decode cX6_digest 92 = .ok (.aload_n 0, 1) := by decide +kernel
theorem dX6_digest_93 : decode cX6_digest 93 = .ok (.iload_n 1, 1) := by decide +kernel
theorem dX6_digest_94 : decode cX6_digest 94 = .ok (.invokevirtual 235, 3) := by decide +kernel
theorem dX6_digest_97 : decode cX6_digest 97 = .ok (.iinc 1 1, 3) := by decide +kernel
theorem dX6_digest_100 : decode cX6_digest 100 = .ok (.goto (-13), 3) := by decide +kernel
theorem dX6_digest_103 : decode cX6_digest 103 = .ok (.iconst 0, 1) := by decide +kernel
theorem dX6_digest_104 : decode cX6_digest 104 = .ok (.istore_n 1, 1) := by decide +kernel
theorem dX6_digest_105 : decode cX6_digest 105 = .ok (.iload_n 1, 1) := by decide +kernel
theorem dX6_digest_106 : decode cX6_digest 106 = .ok (.bipush 12, 2) := by decide +kernel
theorem dX6_digest_108 : decode cX6_digest 108 = .ok (.if_icmp .ge 29, 3) := by decide +kernel
theorem dX6_digest_111 : decode cX6_digest 111 = .ok (.aload_n 0, 1) := by decide +kernel
theorem dX6_digest_112 : decode cX6_digest 112 = .ok (.aload_n 0, 1) := by decide +kernel
theorem dX6_digest_113 : decode cX6_digest 113 = .ok (.iload_n 1, 1) := by decide +kernel
theorem dX6_digest_114 : decode cX6_digest 114 = .ok (.invokevirtual 55, 3) := by decide +kernel
theorem dX6_digest_117 : decode cX6_digest 117 = .ok (.i2l, 1) := by decide +kernel
theorem dX6_digest_118 : decode cX6_digest 118 = .ok (.invokevirtual 226, 3) := by decide +kernel
theorem dX6_digest_121 : decode cX6_digest 121 = .ok (.aload_n 0, 1) := by decide +kernel
theorem dX6_digest_122 : decode cX6_digest 122 = .ok (.aload_n 0, 1) := by decide +kernel
theorem dX6_digest_123 : decode cX6_digest 123 = .ok (.iload_n 1, 1) := by decide +kernel
theorem dX6_digest_124 : decode cX6_digest 124 = .ok (.invokevirtual 108, 3) := by decide +kernel
theorem dX6_digest_127 : decode cX6_digest 127 = .ok (.i2l, 1) := by decide +kernel
theorem dX6_digest_128 : decode cX6_digest 128 = .ok (.invokevirtual 226, 3) := by decide +kernel
theorem dX6_digest_131 : decode cX6_digest 131 = .ok (.iinc 1 1, 3) := by decide +kernel
theorem dX6_digest_134 : decode cX6_digest 134 = .ok (.goto (-29), 3) := by decide +kernel
theorem dX6_digest_137 : decode cX6_digest 137 = .ok (.aload_n 0, 1) := by decide +kernel
theorem dX6_digest_138 : decode cX6_digest 138 = .ok (.aload_n 0, 1) := by decide +kernel
theorem dX6_digest_139 : decode cX6_digest 139 = .ok (.iconst 0, 1) := by decide +kernel
theorem dX6_digest_140 : decode cX6_digest 140 = .ok (.invokevirtual 205, 3) := by decide +kernel
theorem dX6_digest_143 : decode cX6_digest 143 = .ok (.i2l, 1) := by decide +kernel
theorem dX6_digest_144 : decode cX6_digest 144 = .ok (.invokevirtual 226, 3) := by decide +kernel
theorem dX6_digest_147 : decode cX6_digest 147 = .ok (.aload_n 0, 1) := by decide +kernel
theorem dX6_digest_148 : decode cX6_digest 148 = .ok (.aload_n 0, 1) := by decide +kernel
theorem dX6_digest_149 : decode cX6_digest 149 = .ok (.invokevirtual 208, 3) := by decide +kernel
theorem dX6_digest_152 : decode cX6_digest 152 = .ok (.invokestatic 238, 3) := by decide +kernel
theorem dX6_digest_155 : decode cX6_digest 155 = .ok (.invokevirtual 226, 3) := by decide +kernel
theorem dX6_digest_158 : decode cX6_digest 158 = .ok (.aload_n 0, 1) := by decide +kernel
theorem dX6_digest_159 : decode cX6_digest 159 = .ok (.aload_n 0, 1) := by decide +kernel
theorem dX6_digest_160 : decode cX6_digest 160 = .ok (.getfield 19, 3) := by decide +kernel
theorem dX6_digest_163 : decode cX6_digest 163 = .ok (.iconst 0, 1) := by decide +kernel
theorem dX6_digest_164 : decode cX6_digest 164 = .ok (.baload, 1) := by decide +kernel
theorem dX6_digest_165 : decode cX6_digest 165 = .ok (.ifCond .eq 7, 3) := by decide +kernel
theorem dX6_digest_168 : decode cX6_digest 168 = .ok (.lconst 1, 1) := by decide +kernel
theorem dX6_digest_169 : decode cX6_digest 169 = .ok (.goto 4, 3) := by decide +kernel
theorem dX6_digest_172 : decode cX6_digest 172 = .ok (.lconst 0, 1) := by decide +kernel
theorem dX6_digest_173 : decode cX6_digest 173 = .ok (.invokevirtual 226, 3) := by decide +kernel
theorem dX6_digest_176 : decode cX6_digest 176 = .ok (.aload_n 0, 1) := by decide +kernel
theorem dX6_digest_177 : decode cX6_digest 177 = .ok (.aload_n 0, 1) := by decide +kernel
theorem dX6_digest_178 : decode cX6_digest 178 = .ok (.getfield 19, 3) := by decide +kernel
theorem dX6_digest_181 : decode cX6_digest 181 = .ok (.iconst 1, 1) := by decide +kernel
theorem dX6_digest_182 : decode cX6_digest 182 = .ok (.baload, 1) := by decide +kernel
theorem dX6_digest_183 : decode cX6_digest 183 = .ok (.ifCond .eq 7, 3) := by decide +kernel
theorem dX6_digest_186 : decode cX6_digest 186 = .ok (.lconst 1, 1) := by decide +kernel
theorem dX6_digest_187 : decode cX6_digest 187 = .ok (.goto 4, 3) := by decide +kernel
theorem dX6_digest_190 : decode cX6_digest 190 = .ok (.lconst 0, 1) := by decide +kernel
theorem dX6_digest_191 : decode cX6_digest 191 = .ok (.invokevirtual 226, 3) := by decide +kernel
theorem dX6_digest_194 : decode cX6_digest 194 = .ok (.aload_n 0, 1) := by decide +kernel
theorem dX6_digest_195 : decode cX6_digest 195 = .ok (.aload_n 0, 1) := by decide +kernel
theorem dX6_digest_196 : decode cX6_digest 196 = .ok (.getfield 129, 3) := by decide +kernel
theorem dX6_digest_199 : decode cX6_digest 199 = .ok (.i2l, 1) := by decide +kernel
theorem dX6_digest_200 : decode cX6_digest 200 = .ok (.invokevirtual 226, 3) := by decide +kernel
theorem dX6_digest_203 : decode cX6_digest 203 = .ok (.iconst 0, 1) := by decide +kernel
theorem dX6_digest_204 : decode cX6_digest 204 = .ok (.istore_n 1, 1) := by decide +kernel
theorem dX6_digest_205 : decode cX6_digest 205 = .ok (.iload_n 1, 1) := by decide +kernel
theorem dX6_digest_206 : decode cX6_digest 206 = .ok (.aload_n 0, 1) := by decide +kernel
theorem dX6_digest_207 : decode cX6_digest 207 = .ok (.getfield 129, 3) := by decide +kernel
theorem dX6_digest_210 : decode cX6_digest 210 = .ok (.if_icmp .ge 20, 3) := by decide +kernel
theorem dX6_digest_213 : decode cX6_digest 213 = .ok (.aload_n 0, 1) := by decide +kernel
theorem dX6_digest_214 : decode cX6_digest 214 = .ok (.aload_n 0, 1) := by decide +kernel
theorem dX6_digest_215 : decode cX6_digest 215 = .ok (.getfield 26, 3) := by decide +kernel
theorem dX6_digest_218 : decode cX6_digest 218 = .ok (.iload_n 1, 1) := by decide +kernel
theorem dX6_digest_219 : decode cX6_digest 219 = .ok (.iaload, 1) := by decide +kernel
theorem dX6_digest_220 : decode cX6_digest 220 = .ok (.i2l, 1) := by decide +kernel
theorem dX6_digest_221 : decode cX6_digest 221 = .ok (.invokevirtual 226, 3) := by decide +kernel
theorem dX6_digest_224 : decode cX6_digest 224 = .ok (.iinc 1 1, 3) := by decide +kernel
theorem dX6_digest_227 : decode cX6_digest 227 = .ok (.goto (-22), 3) := by decide +kernel
theorem dX6_digest_230 : decode cX6_digest 230 = .ok (.aload_n 0, 1) := by decide +kernel
theorem dX6_digest_231 : decode cX6_digest 231 = .ok (.getfield 222, 3) := by decide +kernel
theorem dX6_digest_234 : decode cX6_digest 234 = .ok (.lreturn, 1) := by decide +kernel
