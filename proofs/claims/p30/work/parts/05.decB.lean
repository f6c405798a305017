theorem dX5_init_0 : decode cX5_init 0 = .ok (.aload_n 0, 1) := by decide +kernel
theorem dX5_init_1 : decode cX5_init 1 = .ok (.invokespecial 1, 3) := by decide +kernel
theorem dX5_init_4 : decode cX5_init 4 = .ok (.aload_n 0, 1) := by decide +kernel
theorem dX5_init_5 : decode cX5_init 5 = .ok (.new 7, 3) := by decide +kernel
theorem dX5_init_8 : decode cX5_init 8 = .ok (.dup, 1) := by decide +kernel
theorem dX5_init_9 : decode cX5_init 9 = .ok (.invokespecial 9, 3) := by decide +kernel
theorem dX5_init_12 : decode cX5_init 12 = .ok (.putfield 10, 3) := by decide +kernel
theorem dX5_init_15 : decode cX5_init 15 = .ok (.aload_n 0, 1) := by decide +kernel
theorem dX5_init_16 : decode cX5_init 16 = .ok (.new 7, 3) := by decide +kernel
theorem dX5_init_19 : decode cX5_init 19 = .ok (.dup, 1) := by decide +kernel
theorem dX5_init_20 : decode cX5_init 20 = .ok (.invokespecial 9, 3) := by decide +kernel
theorem dX5_init_23 : decode cX5_init 23 = .ok (.putfield 16, 3) := by decide +kernel
theorem dX5_init_26 : decode cX5_init 26 = .ok (.aload_n 0, 1) := by decide +kernel
theorem dX5_init_27 : decode cX5_init 27 = .ok (.iconst 2, 1) := by decide +kernel
theorem dX5_init_28 : decode cX5_init 28 = .ok (.anewarray 7, 3) := by decide +kernel
theorem dX5_init_31 : decode cX5_init 31 = .ok (.putfield 19, 3) := by decide +kernel
theorem dX5_init_34 : decode cX5_init 34 = .ok (.iconst 0, 1) := by decide +kernel
theorem dX5_init_35 : decode cX5_init 35 = .ok (.istore_n 1, 1) := by decide +kernel
theorem dX5_init_36 : decode cX5_init 36 = .ok (.iload_n 1, 1) := by decide +kernel
theorem dX5_init_37 : decode cX5_init 37 = .ok (.iconst 2, 1) := by decide +kernel
theorem dX5_init_38 : decode cX5_init 38 = .ok (.if_icmp .ge 22, 3) := by decide +kernel
theorem dX5_init_41 : decode cX5_init 41 = .ok (.aload_n 0, 1) := by decide +kernel
theorem dX5_init_42 : decode cX5_init 42 = .ok (.getfield 19, 3) := by decide +kernel
theorem dX5_init_45 : decode cX5_init 45 = .ok (.iload_n 1, 1) := by decide +kernel
theorem dX5_init_46 : decode cX5_init 46 = .ok (.new 7, 3) := by decide +kernel
theorem dX5_init_49 : decode cX5_init 49 = .ok (.dup, 1) := by decide +kernel
theorem dX5_init_50 : decode cX5_init 50 = .ok (.invokespecial 9, 3) := by decide +kernel
theorem dX5_init_53 : decode cX5_init 53 = .ok (.aastore, 1) := by decide +kernel
theorem dX5_init_54 : decode cX5_init 54 = .ok (.iinc 1 1, 3) := by decide +kernel
theorem dX5_init_57 : decode cX5_init 57 = .ok (.goto (-21), 3) := by decide +kernel
theorem dX5_init_60 : decode cX5_init 60 = .ok (.aload_n 0, 1) := by decide +kernel
theorem dX5_init_61 : decode cX5_init 61 = .ok (.iconst 2, 1) := by decide +kernel
theorem dX5_init_62 : decode cX5_init 62 = .ok (.newarray .boolean, 2) := by decide +kernel
theorem dX5_init_64 : decode cX5_init 64 = .ok (.putfield 23, 3) := by decide +kernel
theorem dX5_init_67 : decode cX5_init 67 = .ok (.aload_n 0, 1) := by decide +kernel
theorem dX5_init_68 : decode cX5_init 68 = .ok (.new 27, 3) := by decide +kernel
theorem dX5_init_71 : decode cX5_init 71 = .ok (.dup, 1) := by decide +kernel
theorem dX5_init_72 : decode cX5_init 72 = .ok (.invokespecial 29, 3) := by decide +kernel
theorem dX5_init_75 : decode cX5_init 75 = .ok (.putfield 30, 3) := by decide +kernel
theorem dX5_init_78 : decode cX5_init 78 = .ok (.aload_n 0, 1) := by decide +kernel
theorem dX5_init_79 : decode cX5_init 79 = .ok (.new 34, 3) := by decide +kernel
theorem dX5_init_82 : decode cX5_init 82 = .ok (.dup, 1) := by decide +kernel
theorem dX5_init_83 : decode cX5_init 83 = .ok (.invokespecial 36, 3) := by decide +kernel
theorem dX5_init_86 : decode cX5_init 86 = .ok (.putfield 37, 3) := by decide +kernel
theorem dX5_init_89 : decode cX5_init 89 = .ok (.return_, 1) := by decide +kernel
theorem dX5_stall_0 : decode cX5_stall 0 = .ok (.iload_n 1, 1) := by decide +kernel
theorem dX5_stall_1 : decode cX5_stall 1 = .ok (.iconst 1, 1) := by decide +kernel
theorem dX5_stall_2 : decode cX5_stall 2 = .ok (.if_icmp .lt 23, 3) := by decide +kernel
theorem dX5_stall_5 : decode cX5_stall 5 = .ok (.iload_n 1, 1) := by decide +kernel
theorem dX5_stall_6 : decode cX5_stall 6 = .ok (.sipush 500, 3) := by decide +kernel
theorem dX5_stall_9 : decode cX5_stall 9 = .ok (.if_icmp .gt 16, 3) := by decide +kernel
theorem dX5_stall_12 : decode cX5_stall 12 = .ok (.iload 4, 2) := by decide +kernel
theorem dX5_stall_14 : decode cX5_stall 14 = .ok (.iconst 1, 1) := by decide +kernel
theorem dX5_stall_15 : decode cX5_stall 15 = .ok (.if_icmp .lt 10, 3) := by decide +kernel
theorem dX5_stall_18 : decode cX5_stall 18 = .ok (.iload 4, 2) := by decide +kernel
theorem dX5_stall_20 : decode cX5_stall 20 = .ok (.bipush 9, 2) := by decide +kernel
theorem dX5_stall_22 : decode cX5_stall 22 = .ok (.if_icmp .le 13, 3) := by decide +kernel
theorem dX5_stall_25 : decode cX5_stall 25 = .ok (.new 41, 3) := by decide +kernel
theorem dX5_stall_28 : decode cX5_stall 28 = .ok (.dup, 1) := by decide +kernel
theorem dX5_stall_29 : decode cX5_stall 29 = .ok (.ldc 43, 2) := by decide +kernel
theorem dX5_stall_31 : decode cX5_stall 31 = .ok (.invokespecial 45, 3) := by decide +kernel
theorem dX5_stall_34 : decode cX5_stall 34 = .ok (.athrow, 1) := by decide +kernel
theorem dX5_stall_35 : decode cX5_stall 35 = .ok (.iload_n 2, 1) := by decide +kernel
theorem dX5_stall_36 : decode cX5_stall 36 = .ok (.ifCond .lt 19, 3) := by decide +kernel
theorem dX5_stall_39 : decode cX5_stall 39 = .ok (.iload_n 2, 1) := by decide +kernel
theorem dX5_stall_40 : decode cX5_stall 40 = .ok (.bipush 24, 2) := by decide +kernel
theorem dX5_stall_42 : decode cX5_stall 42 = .ok (.if_icmp .ge 13, 3) := by decide +kernel
theorem dX5_stall_45 : decode cX5_stall 45 = .ok (.iload_n 3, 1) := by decide +kernel
theorem dX5_stall_46 : decode cX5_stall 46 = .ok (.ifCond .lt 9, 3) := by decide +kernel
theorem dX5_stall_49 : decode cX5_stall 49 = .ok (.iload_n 3, 1) := by decide +kernel
theorem dX5_stall_50 : decode cX5_stall 50 = .ok (.bipush 24, 2) := by decide +kernel
theorem dX5_stall_52 : decode cX5_stall 52 = .ok (.if_icmp .lt 13, 3) := by decide +kernel
theorem dX5_stall_55 : decode cX5_stall 55 = .ok (.new 41, 3) := by decide +kernel
theorem dX5_stall_58 : decode cX5_stall 58 = .ok (.dup, 1) := by decide +kernel
theorem dX5_stall_59 : decode cX5_stall 59 = .ok (.ldc 48, 2) := by decide +kernel
theorem dX5_stall_61 : decode cX5_stall 61 = .ok (.invokespecial 45, 3) := by decide +kernel
theorem dX5_stall_64 : decode cX5_stall 64 = .ok (.athrow, 1) := by decide +kernel
theorem dX5_stall_65 : decode cX5_stall 65 = .ok (.aload_n 0, 1) := by decide +kernel
theorem dX5_stall_66 : decode cX5_stall 66 = .ok (.getfield 10, 3) := by decide +kernel
theorem dX5_stall_69 : decode cX5_stall 69 = .ok (.invokevirtual 50, 3) := by decide +kernel
theorem dX5_stall_72 : decode cX5_stall 72 = .ok (.ifCond .eq 13, 3) := by decide +kernel
theorem dX5_stall_75 : decode cX5_stall 75 = .ok (.new 54, 3) := by decide +kernel
theorem dX5_stall_78 : decode cX5_stall 78 = .ok (.dup, 1) := by decide +kernel
theorem dX5_stall_79 : decode cX5_stall 79 = .ok (.ldc 56, 2) := by decide +kernel
theorem dX5_stall_81 : decode cX5_stall 81 = .ok (.invokespecial 58, 3) := by decide +kernel
theorem dX5_stall_84 : decode cX5_stall 84 = .ok (.athrow, 1) := by decide +kernel
theorem dX5_stall_85 : decode cX5_stall 85 = .ok (.aload_n 0, 1) := by decide +kernel
theorem dX5_stall_86 : decode cX5_stall 86 = .ok (.getfield 30, 3) := by decide +kernel
theorem dX5_stall_89 : decode cX5_stall 89 = .ok (.aload_n 0, 1) := by decide +kernel
theorem dX5_stall_90 : decode cX5_stall 90 = .ok (.getfield 10, 3) := by decide +kernel
theorem dX5_stall_93 : decode cX5_stall 93 = .ok (.invokevirtual 59, 3) := by decide +kernel
theorem dX5_stall_96 : decode cX5_stall 96 = .ok (.aload_n 0, 1) := by decide +kernel
theorem dX5_stall_97 : decode cX5_stall 97 = .ok (.getfield 10, 3) := by decide +kernel
theorem dX5_stall_100 : decode cX5_stall 100 = .ok (.iload_n 1, 1) := by decide +kernel
theorem dX5_stall_101 : decode cX5_stall 101 = .ok (.iload_n 2, 1) := by decide +kernel
theorem dX5_stall_102 : decode cX5_stall 102 = .ok (.iload_n 3, 1) := by decide +kernel
theorem dX5_stall_103 : decode cX5_stall 103 = .ok (.iload 4, 2) := by decide +kernel
theorem dX5_stall_105 : decode cX5_stall 105 = .ok (.invokevirtual 63, 3) := by decide +kernel
theorem dX5_stall_108 : decode cX5_stall 108 = .ok (.ireturn, 1) := by decide +kernel
theorem dX5_plug_0 : decode cX5_plug 0 = .ok (.aload_n 0, 1) := by decide +kernel
theorem dX5_plug_1 : decode cX5_plug 1 = .ok (.iload_n 1, 1) := by decide +kernel
theorem dX5_plug_2 : decode cX5_plug 2 = .ok (.invokevirtual 67, 3) := by decide +kernel
theorem dX5_plug_5 : decode cX5_plug 5 = .ok (.iload_n 2, 1) := by decide +kernel
theorem dX5_plug_6 : decode cX5_plug 6 = .ok (.iconst 0, 1) := by decide +kernel
theorem dX5_plug_7 : decode cX5_plug 7 = .ok (.bipush 11, 2) := by decide +kernel
theorem dX5_plug_9 : decode cX5_plug 9 = .ok (.invokestatic 71, 3) := by decide +kernel
theorem dX5_plug_12 : decode cX5_plug 12 = .ok (.aload_n 0, 1) := by decide +kernel
theorem dX5_plug_13 : decode cX5_plug 13 = .ok (.getfield 10, 3) := by decide +kernel
theorem dX5_plug_16 : decode cX5_plug 16 = .ok (.iload_n 2, 1) := by decide +kernel
theorem dX5_plug_17 : decode cX5_plug 17 = .ok (.invokevirtual 75, 3) := by decide +kernel
theorem dX5_plug_20 : decode cX5_plug 20 = .ok (.iconst (-1), 1) := by decide +kernel
theorem dX5_plug_21 : decode cX5_plug 21 = .ok (.if_icmp .eq 13, 3) := by decide +kernel
theorem dX5_plug_24 : decode cX5_plug 24 = .ok (.new 54, 3) := by decide +kernel
theorem dX5_plug_27 : decode cX5_plug 27 = .ok (.dup, 1) := by decide +kernel
theorem dX5_plug_28 : decode cX5_plug 28 = .ok (.ldc 79, 2) := by decide +kernel
theorem dX5_plug_30 : decode cX5_plug 30 = .ok (.invokespecial 58, 3) := by decide +kernel
theorem dX5_plug_33 : decode cX5_plug 33 = .ok (.athrow, 1) := by decide +kernel
theorem dX5_plug_34 : decode cX5_plug 34 = .ok (.aload_n 0, 1) := by decide +kernel
theorem dX5_plug_35 : decode cX5_plug 35 = .ok (.getfield 30, 3) := by decide +kernel
theorem dX5_plug_38 : decode cX5_plug 38 = .ok (.aload_n 0, 1) := by decide +kernel
theorem dX5_plug_39 : decode cX5_plug 39 = .ok (.getfield 10, 3) := by decide +kernel
theorem dX5_plug_42 : decode cX5_plug 42 = .ok (.invokevirtual 59, 3) := by decide +kernel
theorem dX5_plug_45 : decode cX5_plug 45 = .ok (.aload_n 0, 1) := by decide +kernel
theorem dX5_plug_46 : decode cX5_plug 46 = .ok (.getfield 10, 3) := by decide +kernel
theorem dX5_plug_49 : decode cX5_plug 49 = .ok (.iload_n 1, 1) := by decide +kernel
theorem dX5_plug_50 : decode cX5_plug 50 = .ok (.iload_n 2, 1) := by decide +kernel
theorem dX5_plug_51 : decode cX5_plug 51 = .ok (.invokevirtual 81, 3) := by decide +kernel
theorem dX5_plug_54 : decode cX5_plug 54 = .ok (.ireturn, 1) := by decide +kernel
theorem dX5_pull_0 : decode cX5_pull 0 = .ok (.aload_n 0, 1) := by decide +kernel
theorem dX5_pull_1 : decode cX5_pull 1 = .ok (.iload_n 1, 1) := by decide +kernel
theorem dX5_pull_2 : decode cX5_pull 2 = .ok (.invokevirtual 67, 3) := by decide +kernel
theorem dX5_pull_5 : decode cX5_pull 5 = .ok (.aload_n 0, 1) := by decide +kernel
theorem dX5_pull_6 : decode cX5_pull 6 = .ok (.getfield 10, 3) := by decide +kernel
theorem dX5_pull_9 : decode cX5_pull 9 = .ok (.getfield 85, 3) := by decide +kernel
theorem dX5_pull_12 : decode cX5_pull 12 = .ok (.iload_n 1, 1) := by decide +kernel
theorem dX5_pull_13 : decode cX5_pull 13 = .ok (.aaload, 1) := by decide +kernel
theorem dX5_pull_14 : decode cX5_pull 14 = .ok (.getfield 89, 3) := by decide +kernel
theorem dX5_pull_17 : decode cX5_pull 17 = .ok (.iconst (-1), 1) := by decide +kernel
theorem dX5_pull_18 : decode cX5_pull 18 = .ok (.if_icmp .ne 13, 3) := by decide +kernel
theorem dX5_pull_21 : decode cX5_pull 21 = .ok (.new 54, 3) := by decide +kernel
theorem dX5_pull_24 : decode cX5_pull 24 = .ok (.dup, 1) := by decide +kernel
theorem dX5_pull_25 : decode cX5_pull 25 = .ok (.ldc 95, 2) := by decide +kernel
theorem dX5_pull_27 : decode cX5_pull 27 = .ok (.invokespecial 58, 3) := by decide +kernel
theorem dX5_pull_30 : decode cX5_pull 30 = .ok (.athrow, 1) := by decide +kernel
theorem dX5_pull_31 : decode cX5_pull 31 = .ok (.aload_n 0, 1) := by decide +kernel
theorem dX5_pull_32 : decode cX5_pull 32 = .ok (.getfield 30, 3) := by decide +kernel
theorem dX5_pull_35 : decode cX5_pull 35 = .ok (.aload_n 0, 1) := by decide +kernel
theorem dX5_pull_36 : decode cX5_pull 36 = .ok (.getfield 10, 3) := by decide +kernel
theorem dX5_pull_39 : decode cX5_pull 39 = .ok (.invokevirtual 59, 3) := by decide +kernel
theorem dX5_pull_42 : decode cX5_pull 42 = .ok (.aload_n 0, 1) := by decide +kernel
theorem dX5_pull_43 : decode cX5_pull 43 = .ok (.getfield 10, 3) := by decide +kernel
theorem dX5_pull_46 : decode cX5_pull 46 = .ok (.iload_n 1, 1) := by decide +kernel
theorem dX5_pull_47 : decode cX5_pull 47 = .ok (.iconst (-1), 1) := by decide +kernel
theorem dX5_pull_48 : decode cX5_pull 48 = .ok (.invokevirtual 81, 3) := by decide +kernel
theorem dX5_pull_51 : decode cX5_pull 51 = .ok (.ireturn, 1) := by decide +kernel
theorem dX5_shed_0 : decode cX5_shed 0 = .ok (.aload_n 0, 1) := by decide +kernel
theorem dX5_shed_1 : decode cX5_shed 1 = .ok (.iload_n 1, 1) := by decide +kernel
theorem dX5_shed_2 : decode cX5_shed 2 = .ok (.invokevirtual 67, 3) := by decide +kernel
theorem dX5_shed_5 : decode cX5_shed 5 = .ok (.aload_n 0, 1) := by decide +kernel
theorem dX5_shed_6 : decode cX5_shed 6 = .ok (.getfield 30, 3) := by decide +kernel
theorem dX5_shed_9 : decode cX5_shed 9 = .ok (.aload_n 0, 1) := by decide +kernel
theorem dX5_shed_10 : decode cX5_shed 10 = .ok (.getfield 10, 3) := by decide +kernel
theorem dX5_shed_13 : decode cX5_shed 13 = .ok (.invokevirtual 59, 3) := by decide +kernel
theorem dX5_shed_16 : decode cX5_shed 16 = .ok (.aload_n 0, 1) := by decide +kernel
theorem dX5_shed_17 : decode cX5_shed 17 = .ok (.getfield 10, 3) := by decide +kernel
theorem dX5_shed_20 : decode cX5_shed 20 = .ok (.getfield 85, 3) := by decide +kernel
theorem dX5_shed_23 : decode cX5_shed 23 = .ok (.iload_n 1, 1) := by decide +kernel
theorem dX5_shed_24 : decode cX5_shed 24 = .ok (.aaload, 1) := by decide +kernel
theorem dX5_shed_25 : decode cX5_shed 25 = .ok (.astore_n 2, 1) := by decide +kernel
theorem dX5_shed_26 : decode cX5_shed 26 = .ok (.aload_n 2, 1) := by decide +kernel
theorem dX5_shed_27 : decode cX5_shed 27 = .ok (.aload_n 2, 1) := by decide +kernel
theorem dX5_shed_28 : decode cX5_shed 28 = .ok (.getfield 97, 3) := by decide +kernel
theorem dX5_shed_31 : decode cX5_shed 31 = .ok (.ifCond .ne 7, 3) := by decide +kernel
theorem dX5_shed_34 : decode cX5_shed 34 = .ok (.iconst 1, 1) := by decide +kernel
theorem dX5_shed_35 : decode cX5_shed 35 = .ok (.goto 4, 3) := by decide +kernel
theorem dX5_shed_38 : decode cX5_shed 38 = .ok (.iconst 0, 1) := by decide +kernel
theorem dX5_shed_39 : decode cX5_shed 39 = .ok (.putfield 97, 3) := by decide +kernel
theorem dX5_shed_42 : decode cX5_shed 42 = .ok (.aload_n 2, 1) := by decide +kernel
theorem dX5_shed_43 : decode cX5_shed 43 = .ok (.getfield 97, 3) := by decide +kernel
theorem dX5_shed_46 : decode cX5_shed 46 = .ok (.ifCond .eq 7, 3) := by decide +kernel
theorem dX5_shed_49 : decode cX5_shed 49 = .ok (.iconst 1, 1) := by decide +kernel
theorem dX5_shed_50 : decode cX5_shed 50 = .ok (.goto 4, 3) := by decide +kernel
theorem dX5_shed_53 : decode cX5_shed 53 = .ok (.iconst 0, 1) := by decide +kernel
theorem dX5_shed_54 : decode cX5_shed 54 = .ok (.ireturn, 1) := by decide +kernel
theorem dX5_bound_0 : decode cX5_bound 0 = .ok (.iload_n 1, 1) := by decide +kernel
theorem dX5_bound_1 : decode cX5_bound 1 = .ok (.iconst 0, 1) := by decide +kernel
theorem dX5_bound_2 : decode cX5_bound 2 = .ok (.iconst 3, 1) := by decide +kernel
theorem dX5_bound_3 : decode cX5_bound 3 = .ok (.invokestatic 71, 3) := by decide +kernel
theorem dX5_bound_6 : decode cX5_bound 6 = .ok (.iload_n 2, 1) := by decide +kernel
theorem dX5_bound_7 : decode cX5_bound 7 = .ok (.bipush 10, 2) := by decide +kernel
theorem dX5_bound_9 : decode cX5_bound 9 = .ok (.sipush 999, 3) := by decide +kernel
theorem dX5_bound_12 : decode cX5_bound 12 = .ok (.invokestatic 71, 3) := by decide +kernel
theorem dX5_bound_15 : decode cX5_bound 15 = .ok (.aload_n 0, 1) := by decide +kernel
theorem dX5_bound_16 : decode cX5_bound 16 = .ok (.getfield 30, 3) := by decide +kernel
theorem dX5_bound_19 : decode cX5_bound 19 = .ok (.aload_n 0, 1) := by decide +kernel
theorem dX5_bound_20 : decode cX5_bound 20 = .ok (.getfield 10, 3) := by decide +kernel
theorem dX5_bound_23 : decode cX5_bound 23 = .ok (.invokevirtual 59, 3) := by decide +kernel
theorem dX5_bound_26 : decode cX5_bound 26 = .ok (.aload_n 0, 1) := by decide +kernel
theorem dX5_bound_27 : decode cX5_bound 27 = .ok (.getfield 10, 3) := by decide +kernel
theorem dX5_bound_30 : decode cX5_bound 30 = .ok (.getfield 101, 3) := by decide +kernel
theorem dX5_bound_33 : decode cX5_bound 33 = .ok (.iload_n 1, 1) := by decide +kernel
theorem dX5_bound_34 : decode cX5_bound 34 = .ok (.aaload, 1) := by decide +kernel
theorem dX5_bound_35 : decode cX5_bound 35 = .ok (.astore_n 3, 1) := by decide +kernel
theorem dX5_bound_36 : decode cX5_bound 36 = .ok (.aload_n 3, 1) := by decide +kernel
theorem dX5_bound_37 : decode cX5_bound 37 = .ok (.getfield 105, 3) := by decide +kernel
theorem dX5_bound_40 : decode cX5_bound 40 = .ok (.istore 4, 2) := by decide +kernel
theorem dX5_bound_42 : decode cX5_bound 42 = .ok (.aload_n 3, 1) := by decide +kernel
theorem dX5_bound_43 : decode cX5_bound 43 = .ok (.iload_n 2, 1) := by decide +kernel
theorem dX5_bound_44 : decode cX5_bound 44 = .ok (.putfield 105, 3) := by decide +kernel
theorem dX5_bound_47 : decode cX5_bound 47 = .ok (.iload 4, 2) := by decide +kernel
theorem dX5_bound_49 : decode cX5_bound 49 = .ok (.ireturn, 1) := by decide +kernel
theorem dX5_reset_0 : decode cX5_reset 0 = .ok (.iload_n 1, 1) := by decide +kernel
theorem dX5_reset_1 : decode cX5_reset 1 = .ok (.iconst 0, 1) := by decide +kernel
theorem dX5_reset_2 : decode cX5_reset 2 = .ok (.iconst 3, 1) := by decide +kernel
theorem dX5_reset_3 : decode cX5_reset 3 = .ok (.invokestatic 71, 3) := by decide +kernel
theorem dX5_reset_6 : decode cX5_reset 6 = .ok (.aload_n 0, 1) := by decide +kernel
theorem dX5_reset_7 : decode cX5_reset 7 = .ok (.getfield 10, 3) := by decide +kernel
theorem dX5_reset_10 : decode cX5_reset 10 = .ok (.getfield 101, 3) := by decide +kernel
theorem dX5_reset_13 : decode cX5_reset 13 = .ok (.iload_n 1, 1) := by decide +kernel
theorem dX5_reset_14 : decode cX5_reset 14 = .ok (.aaload, 1) := by decide +kernel
theorem dX5_reset_15 : decode cX5_reset 15 = .ok (.getfield 110, 3) := by decide +kernel
theorem dX5_reset_18 : decode cX5_reset 18 = .ok (.ifCond .eq 13, 3) := by decide +kernel
theorem dX5_reset_21 : decode cX5_reset 21 = .ok (.new 54, 3) := by decide +kernel
theorem dX5_reset_24 : decode cX5_reset 24 = .ok (.dup, 1) := by decide +kernel
theorem dX5_reset_25 : decode cX5_reset 25 = .ok (.ldc 113, 2) := by decide +kernel
theorem dX5_reset_27 : decode cX5_reset 27 = .ok (.invokespecial 58, 3) := by decide +kernel
theorem dX5_reset_30 : decode cX5_reset 30 = .ok (.athrow, 1) := by decide +kernel
theorem dX5_reset_31 : decode cX5_reset 31 = .ok (.aload_n 0, 1) := by decide +kernel
theorem dX5_reset_32 : decode cX5_reset 32 = .ok (.getfield 30, 3) := by decide +kernel
theorem dX5_reset_35 : decode cX5_reset 35 = .ok (.aload_n 0, 1) := by decide +kernel
theorem dX5_reset_36 : decode cX5_reset 36 = .ok (.getfield 10, 3) := by decide +kernel
theorem dX5_reset_39 : decode cX5_reset 39 = .ok (.invokevirtual 59, 3) := by decide +kernel
theorem dX5_reset_42 : decode cX5_reset 42 = .ok (.aload_n 0, 1) := by decide +kernel
theorem dX5_reset_43 : decode cX5_reset 43 = .ok (.getfield 10, 3) := by decide +kernel
theorem dX5_reset_46 : decode cX5_reset 46 = .ok (.getfield 101, 3) := by decide +kernel
theorem dX5_reset_49 : decode cX5_reset 49 = .ok (.iload_n 1, 1) := by decide +kernel
theorem dX5_reset_50 : decode cX5_reset 50 = .ok (.aaload, 1) := by decide +kernel
theorem dX5_reset_51 : decode cX5_reset 51 = .ok (.invokevirtual 115, 3) := by decide +kernel
theorem dX5_reset_54 : decode cX5_reset 54 = .ok (.aload_n 0, 1) := by decide +kernel
theorem dX5_reset_55 : decode cX5_reset 55 = .ok (.getfield 10, 3) := by decide +kernel
theorem dX5_reset_58 : decode cX5_reset 58 = .ok (.iload_n 1, 1) := by decide +kernel
theorem dX5_reset_59 : decode cX5_reset 59 = .ok (.invokevirtual 118, 3) := by decide +kernel
theorem dX5_reset_62 : decode cX5_reset 62 = .ok (.ireturn, 1) := by decide +kernel
theorem dX5_over_0 : decode cX5_over 0 = .ok (.iload_n 1, 1) := by decide +kernel
theorem dX5_over_1 : decode cX5_over 1 = .ok (.iconst 0, 1) := by decide +kernel
theorem dX5_over_2 : decode cX5_over 2 = .ok (.bipush 8, 2) := by decide +kernel
theorem dX5_over_4 : decode cX5_over 4 = .ok (.invokestatic 71, 3) := by decide +kernel
theorem dX5_over_7 : decode cX5_over 7 = .ok (.aload_n 0, 1) := by decide +kernel
theorem dX5_over_8 : decode cX5_over 8 = .ok (.getfield 30, 3) := by decide +kernel
theorem dX5_over_11 : decode cX5_over 11 = .ok (.aload_n 0, 1) := by decide +kernel
theorem dX5_over_12 : decode cX5_over 12 = .ok (.getfield 10, 3) := by decide +kernel
theorem dX5_over_15 : decode cX5_over 15 = .ok (.invokevirtual 59, 3) := by decide +kernel
theorem dX5_over_18 : decode cX5_over 18 = .ok (.aload_n 0, 1) := by decide +kernel
theorem dX5_over_19 : decode cX5_over 19 = .ok (.getfield 10, 3) := by decide +kernel
theorem dX5_over_22 : decode cX5_over 22 = .ok (.getfield 121, 3) := by decide +kernel
theorem dX5_over_25 : decode cX5_over 25 = .ok (.iload_n 1, 1) := by decide +kernel
theorem dX5_over_26 : decode cX5_over 26 = .ok (.aload_n 0, 1) := by decide +kernel
theorem dX5_over_27 : decode cX5_over 27 = .ok (.getfield 10, 3) := by decide +kernel
theorem dX5_over_30 : decode cX5_over 30 = .ok (.getfield 121, 3) := by decide +kernel
theorem dX5_over_33 : decode cX5_over 33 = .ok (.iload_n 1, 1) := by decide +kernel
theorem dX5_over_34 : decode cX5_over 34 = .ok (.baload, 1) := by decide +kernel
theorem dX5_over_35 : decode cX5_over 35 = .ok (.ifCond .ne 7, 3) := by decide +kernel
theorem dX5_over_38 : decode cX5_over 38 = .ok (.iconst 1, 1) := by decide +kernel
theorem dX5_over_39 : decode cX5_over 39 = .ok (.goto 4, 3) := by decide +kernel
theorem dX5_over_42 : decode cX5_over 42 = .ok (.iconst 0, 1) := by decide +kernel
theorem dX5_over_43 : decode cX5_over 43 = .ok (.bastore, 1) := by decide +kernel
theorem dX5_over_44 : decode cX5_over 44 = .ok (.aload_n 0, 1) := by decide +kernel
theorem dX5_over_45 : decode cX5_over 45 = .ok (.getfield 10, 3) := by decide +kernel
theorem dX5_over_48 : decode cX5_over 48 = .ok (.iload_n 1, 1) := by decide +kernel
theorem dX5_over_49 : decode cX5_over 49 = .ok (.invokevirtual 124, 3) := by decide +kernel
theorem dX5_over_52 : decode cX5_over 52 = .ok (.ireturn, 1) := by decide +kernel
theorem dX5_pass_0 : decode cX5_pass 0 = .ok (.iload_n 1, 1) := by decide +kernel
theorem dX5_pass_1 : decode cX5_pass 1 = .ok (.iconst 1, 1) := by decide +kernel
theorem dX5_pass_2 : decode cX5_pass 2 = .ok (.bipush 48, 2) := by decide +kernel
theorem dX5_pass_4 : decode cX5_pass 4 = .ok (.invokestatic 71, 3) := by decide +kernel
theorem dX5_pass_7 : decode cX5_pass 7 = .ok (.aload_n 0, 1) := by decide +kernel
theorem dX5_pass_8 : decode cX5_pass 8 = .ok (.getfield 10, 3) := by decide +kernel
theorem dX5_pass_11 : decode cX5_pass 11 = .ok (.iload_n 1, 1) := by decide +kernel
theorem dX5_pass_12 : decode cX5_pass 12 = .ok (.invokevirtual 127, 3) := by decide +kernel
theorem dX5_pass_15 : decode cX5_pass 15 = .ok (.ifCond .ne 13, 3) := by decide +kernel
theorem dX5_pass_18 : decode cX5_pass 18 = .ok (.new 54, 3) := by decide +kernel
theorem dX5_pass_21 : decode cX5_pass 21 = .ok (.dup, 1) := by decide +kernel
theorem dX5_pass_22 : decode cX5_pass 22 = .ok (.ldc 131, 2) := by decide +kernel
theorem dX5_pass_24 : decode cX5_pass 24 = .ok (.invokespecial 58, 3) := by decide +kernel
theorem dX5_pass_27 : decode cX5_pass 27 = .ok (.athrow, 1) := by decide +kernel
theorem dX5_pass_28 : decode cX5_pass 28 = .ok (.aload_n 0, 1) := by decide +kernel
theorem dX5_pass_29 : decode cX5_pass 29 = .ok (.getfield 30, 3) := by decide +kernel
theorem dX5_pass_32 : decode cX5_pass 32 = .ok (.aload_n 0, 1) := by decide +kernel
theorem dX5_pass_33 : decode cX5_pass 33 = .ok (.getfield 10, 3) := by decide +kernel
theorem dX5_pass_36 : decode cX5_pass 36 = .ok (.invokevirtual 59, 3) := by decide +kernel
theorem dX5_pass_39 : decode cX5_pass 39 = .ok (.aload_n 0, 1) := by decide +kernel
theorem dX5_pass_40 : decode cX5_pass 40 = .ok (.getfield 10, 3) := by decide +kernel
theorem dX5_pass_43 : decode cX5_pass 43 = .ok (.invokevirtual 133, 3) := by decide +kernel
theorem dX5_pass_46 : decode cX5_pass 46 = .ok (.istore_n 2, 1) := by decide +kernel
theorem dX5_pass_47 : decode cX5_pass 47 = .ok (.aload_n 0, 1) := by decide +kernel
theorem dX5_pass_48 : decode cX5_pass 48 = .ok (.getfield 10, 3) := by decide +kernel
theorem dX5_pass_51 : decode cX5_pass 51 = .ok (.iload_n 1, 1) := by decide +kernel
theorem dX5_pass_52 : decode cX5_pass 52 = .ok (.invokevirtual 137, 3) := by decide +kernel
theorem dX5_pass_55 : decode cX5_pass 55 = .ok (.aload_n 0, 1) := by decide +kernel
theorem dX5_pass_56 : decode cX5_pass 56 = .ok (.getfield 10, 3) := by decide +kernel
theorem dX5_pass_59 : decode cX5_pass 59 = .ok (.invokevirtual 133, 3) := by decide +kernel
theorem dX5_pass_62 : decode cX5_pass 62 = .ok (.iload_n 2, 1) := by decide +kernel
theorem dX5_pass_63 : decode cX5_pass 63 = .ok (.isub, 1) := by decide +kernel
theorem dX5_pass_64 : decode cX5_pass 64 = .ok (.ireturn, 1) := by decide +kernel
theorem dX5_set_0 : decode cX5_set 0 = .ok (.iload_n 1, 1) := by decide +kernel
theorem dX5_set_1 : decode cX5_set 1 = .ok (.invokestatic 140, 3) := by decide +kernel
theorem dX5_set_4 : decode cX5_set 4 = .ok (.iload_n 2, 1) := by decide +kernel
theorem dX5_set_5 : decode cX5_set 5 = .ok (.getstatic 143, 3) := by decide +kernel
theorem dX5_set_8 : decode cX5_set 8 = .ok (.iload_n 1, 1) := by decide +kernel
theorem dX5_set_9 : decode cX5_set 9 = .ok (.iaload, 1) := by decide +kernel
theorem dX5_set_10 : decode cX5_set 10 = .ok (.getstatic 147, 3) := by decide +kernel
theorem dX5_set_13 : decode cX5_set 13 = .ok (.iload_n 1, 1) := by decide +kernel
theorem dX5_set_14 : decode cX5_set 14 = .ok (.iaload, 1) := by decide +kernel
theorem dX5_set_15 : decode cX5_set 15 = .ok (.invokestatic 71, 3) := by decide +kernel
theorem dX5_set_18 : decode cX5_set 18 = .ok (.aload_n 0, 1) := by decide +kernel
theorem dX5_set_19 : decode cX5_set 19 = .ok (.getfield 30, 3) := by decide +kernel
theorem dX5_set_22 : decode cX5_set 22 = .ok (.aload_n 0, 1) := by decide +kernel
theorem dX5_set_23 : decode cX5_set 23 = .ok (.getfield 10, 3) := by decide +kernel
theorem dX5_set_26 : decode cX5_set 26 = .ok (.invokevirtual 59, 3) := by decide +kernel
theorem dX5_set_29 : decode cX5_set 29 = .ok (.aload_n 0, 1) := by decide +kernel
theorem dX5_set_30 : decode cX5_set 30 = .ok (.getfield 10, 3) := by decide +kernel
theorem dX5_set_33 : decode cX5_set 33 = .ok (.getfield 150, 3) := by decide +kernel
theorem dX5_set_36 : decode cX5_set 36 = .ok (.iload_n 1, 1) := by decide +kernel
theorem dX5_set_37 : decode cX5_set 37 = .ok (.iaload, 1) := by decide +kernel
theorem dX5_set_38 : decode cX5_set 38 = .ok (.istore_n 3, 1) := by decide +kernel
theorem dX5_set_39 : decode cX5_set 39 = .ok (.aload_n 0, 1) := by decide +kernel
theorem dX5_set_40 : decode cX5_set 40 = .ok (.getfield 10, 3) := by decide +kernel
theorem dX5_set_43 : decode cX5_set 43 = .ok (.getfield 150, 3) := by decide +kernel
theorem dX5_set_46 : decode cX5_set 46 = .ok (.iload_n 1, 1) := by decide +kernel
theorem dX5_set_47 : decode cX5_set 47 = .ok (.iload_n 2, 1) := by decide +kernel
theorem dX5_set_48 : decode cX5_set 48 = .ok (.iastore, 1) := by decide +kernel
theorem dX5_set_49 : decode cX5_set 49 = .ok (.iload_n 3, 1) := by decide +kernel
theorem dX5_set_50 : decode cX5_set 50 = .ok (.ireturn, 1) := by decide +kernel
theorem dX5_stallOf_0 : decode cX5_stallOf 0 = .ok (.aload_n 0, 1) := by decide +kernel
theorem dX5_stallOf_1 : decode cX5_stallOf 1 = .ok (.iload_n 1, 1) := by decide +kernel
theorem dX5_stallOf_2 : decode cX5_stallOf 2 = .ok (.invokevirtual 67, 3) := by decide +kernel
theorem dX5_stallOf_5 : decode cX5_stallOf 5 = .ok (.iload_n 2, 1) := by decide +kernel
theorem dX5_stallOf_6 : decode cX5_stallOf 6 = .ok (.iconst 0, 1) := by decide +kernel
theorem dX5_stallOf_7 : decode cX5_stallOf 7 = .ok (.bipush 9, 2) := by decide +kernel
theorem dX5_stallOf_9 : decode cX5_stallOf 9 = .ok (.invokestatic 71, 3) := by decide +kernel
theorem dX5_stallOf_12 : decode cX5_stallOf 12 = .ok (.aload_n 0, 1) := by decide +kernel
theorem dX5_stallOf_13 : decode cX5_stallOf 13 = .ok (.getfield 10, 3) := by decide +kernel
theorem dX5_stallOf_16 : decode cX5_stallOf 16 = .ok (.getfield 85, 3) := by decide +kernel
theorem dX5_stallOf_19 : decode cX5_stallOf 19 = .ok (.iload_n 1, 1) := by decide +kernel
theorem dX5_stallOf_20 : decode cX5_stallOf 20 = .ok (.aaload, 1) := by decide +kernel
theorem dX5_stallOf_21 : decode cX5_stallOf 21 = .ok (.astore_n 3, 1) := by decide +kernel
theorem dX5_stallOf_22 : decode cX5_stallOf 22 = .ok (.iload_n 2, 1) := by decide +kernel
theorem dX5_stallOf_23 : decode cX5_stallOf 23 = .ok (.tableswitch 106 0 8 #[49, 54, 59, 64, 69, 74, 87, 92, 97], 49) := by decide +kernel
theorem dX5_stallOf_72 : decode cX5_stallOf 72 = .ok (.aload_n 3, 1) := by decide +kernel
theorem dX5_stallOf_73 : decode cX5_stallOf 73 = .ok (.getfield 189, 3) := by decide +kernel
theorem dX5_stallOf_76 : decode cX5_stallOf 76 = .ok (.ireturn, 1) := by decide +kernel
theorem dX5_stallOf_77 : decode cX5_stallOf 77 = .ok (.aload_n 3, 1) := by decide +kernel
theorem dX5_stallOf_78 : decode cX5_stallOf 78 = .ok (.getfield 192, 3) := by decide +kernel
theorem dX5_stallOf_81 : decode cX5_stallOf 81 = .ok (.ireturn, 1) := by decide +kernel
theorem dX5_stallOf_82 : decode cX5_stallOf 82 = .ok (.aload_n 3, 1) := by decide +kernel
theorem dX5_stallOf_83 : decode cX5_stallOf 83 = .ok (.getfield 195, 3) := by decide +kernel
theorem dX5_stallOf_86 : decode cX5_stallOf 86 = .ok (.ireturn, 1) := by decide +kernel
theorem dX5_stallOf_87 : decode cX5_stallOf 87 = .ok (.aload_n 3, 1) := by decide +kernel
theorem dX5_stallOf_88 : decode cX5_stallOf 88 = .ok (.getfield 198, 3) := by decide +kernel
theorem dX5_stallOf_91 : decode cX5_stallOf 91 = .ok (.ireturn, 1) := by decide +kernel
theorem dX5_stallOf_92 : decode cX5_stallOf 92 = .ok (.aload_n 3, 1) := by decide +kernel
theorem dX5_stallOf_93 : decode cX5_stallOf 93 = .ok (.getfield 89, 3) := by decide +kernel
theorem dX5_stallOf_96 : decode cX5_stallOf 96 = .ok (.ireturn, 1) := by decide +kernel
theorem dX5_stallOf_97 : decode cX5_stallOf 97 = .ok (.aload_n 3, 1) := by decide +kernel
theorem dX5_stallOf_98 : decode cX5_stallOf 98 = .ok (.getfield 97, 3) := by decide +kernel
theorem dX5_stallOf_101 : decode cX5_stallOf 101 = .ok (.ifCond .eq 7, 3) := by decide +kernel
theorem dX5_stallOf_104 : decode cX5_stallOf 104 = .ok (.iconst 1, 1) := by decide +kernel
theorem dX5_stallOf_105 : decode cX5_stallOf 105 = .ok (.goto 4, 3) := by decide +kernel
theorem dX5_stallOf_108 : decode cX5_stallOf 108 = .ok (.iconst 0, 1) := by decide +kernel
theorem dX5_stallOf_109 : decode cX5_stallOf 109 = .ok (.ireturn, 1) := by decide +kernel
theorem dX5_stallOf_110 : decode cX5_stallOf 110 = .ok (.aload_n 3, 1) := by decide +kernel
theorem dX5_stallOf_111 : decode cX5_stallOf 111 = .ok (.getfield 201, 3) := by decide +kernel
theorem dX5_stallOf_114 : decode cX5_stallOf 114 = .ok (.ireturn, 1) := by decide +kernel
theorem dX5_stallOf_115 : decode cX5_stallOf 115 = .ok (.aload_n 3, 1) := by decide +kernel
theorem dX5_stallOf_116 : decode cX5_stallOf 116 = .ok (.getfield 204, 3) := by decide +kernel
theorem dX5_stallOf_119 : decode cX5_stallOf 119 = .ok (.ireturn, 1) := by decide +kernel
theorem dX5_stallOf_120 : decode cX5_stallOf 120 = .ok (.aload_n 0, 1) := by decide +kernel
theorem dX5_stallOf_121 : decode cX5_stallOf 121 = .ok (.getfield 10, 3) := by decide +kernel
theorem dX5_stallOf_124 : decode cX5_stallOf 124 = .ok (.aload_n 3, 1) := by decide +kernel
theorem dX5_stallOf_125 : decode cX5_stallOf 125 = .ok (.invokevirtual 207, 3) := by decide +kernel
theorem dX5_stallOf_128 : decode cX5_stallOf 128 = .ok (.ireturn, 1) := by decide +kernel
theorem dX5_stallOf_129 : decode cX5_stallOf 129 = .ok (.aload_n 0, 1) := by decide +kernel
theorem dX5_stallOf_130 : decode cX5_stallOf 130 = .ok (.getfield 10, 3) := by decide +kernel
theorem dX5_stallOf_133 : decode cX5_stallOf 133 = .ok (.aload_n 3, 1) := by decide +kernel
theorem dX5_stallOf_134 : decode cX5_stallOf 134 = .ok (.invokevirtual 211, 3) := by decide +kernel
theorem dX5_stallOf_137 : decode cX5_stallOf 137 = .ok (.ireturn, 1) := by decide +kernel
theorem dX5_breaker_0 : decode cX5_breaker 0 = .ok (.iload_n 1, 1) := by decide +kernel
theorem dX5_breaker_1 : decode cX5_breaker 1 = .ok (.iconst 0, 1) := by decide +kernel
theorem dX5_breaker_2 : decode cX5_breaker 2 = .ok (.iconst 3, 1) := by decide +kernel
theorem dX5_breaker_3 : decode cX5_breaker 3 = .ok (.invokestatic 71, 3) := by decide +kernel
theorem dX5_breaker_6 : decode cX5_breaker 6 = .ok (.iload_n 2, 1) := by decide +kernel
theorem dX5_breaker_7 : decode cX5_breaker 7 = .ok (.iconst 0, 1) := by decide +kernel
theorem dX5_breaker_8 : decode cX5_breaker 8 = .ok (.bipush 6, 2) := by decide +kernel
theorem dX5_breaker_10 : decode cX5_breaker 10 = .ok (.invokestatic 71, 3) := by decide +kernel
theorem dX5_breaker_13 : decode cX5_breaker 13 = .ok (.aload_n 0, 1) := by decide +kernel
theorem dX5_breaker_14 : decode cX5_breaker 14 = .ok (.getfield 10, 3) := by decide +kernel
theorem dX5_breaker_17 : decode cX5_breaker 17 = .ok (.getfield 101, 3) := by decide +kernel
theorem dX5_breaker_20 : decode cX5_breaker 20 = .ok (.iload_n 1, 1) := by decide +kernel
theorem dX5_breaker_21 : decode cX5_breaker 21 = .ok (.aaload, 1) := by decide +kernel
theorem dX5_breaker_22 : decode cX5_breaker 22 = .ok (.astore_n 3, 1) := by decide +kernel
theorem dX5_breaker_23 : decode cX5_breaker 23 = .ok (.iload_n 2, 1) := by decide +kernel
theorem dX5_breaker_24 : decode cX5_breaker 24 = .ok (.tableswitch 86 0 5 #[40, 45, 58, 63, 72, 81], 40) := by decide +kernel
theorem dX5_breaker_64 : decode cX5_breaker 64 = .ok (.aload_n 3, 1) := by decide +kernel
theorem dX5_breaker_65 : decode cX5_breaker 65 = .ok (.getfield 105, 3) := by decide +kernel
theorem dX5_breaker_68 : decode cX5_breaker 68 = .ok (.ireturn, 1) := by decide +kernel
theorem dX5_breaker_69 : decode cX5_breaker 69 = .ok (.aload_n 3, 1) := by decide +kernel
theorem dX5_breaker_70 : decode cX5_breaker 70 = .ok (.getfield 110, 3) := by decide +kernel
theorem dX5_breaker_73 : decode cX5_breaker 73 = .ok (.ifCond .eq 7, 3) := by decide +kernel
theorem dX5_breaker_76 : decode cX5_breaker 76 = .ok (.iconst 1, 1) := by decide +kernel
theorem dX5_breaker_77 : decode cX5_breaker 77 = .ok (.goto 4, 3) := by decide +kernel
theorem dX5_breaker_80 : decode cX5_breaker 80 = .ok (.iconst 0, 1) := by decide +kernel
theorem dX5_breaker_81 : decode cX5_breaker 81 = .ok (.ireturn, 1) := by decide +kernel
theorem dX5_breaker_82 : decode cX5_breaker 82 = .ok (.aload_n 3, 1) := by decide +kernel
theorem dX5_breaker_83 : decode cX5_breaker 83 = .ok (.getfield 214, 3) := by decide +kernel
theorem dX5_breaker_86 : decode cX5_breaker 86 = .ok (.ireturn, 1) := by decide +kernel
theorem dX5_breaker_87 : decode cX5_breaker 87 = .ok (.aload_n 0, 1) := by decide +kernel
theorem dX5_breaker_88 : decode cX5_breaker 88 = .ok (.getfield 10, 3) := by decide +kernel
theorem dX5_breaker_91 : decode cX5_breaker 91 = .ok (.iload_n 1, 1) := by decide +kernel
theorem dX5_breaker_92 : decode cX5_breaker 92 = .ok (.invokevirtual 217, 3) := by decide +kernel
theorem dX5_breaker_95 : decode cX5_breaker 95 = .ok (.ireturn, 1) := by decide +kernel
theorem dX5_breaker_96 : decode cX5_breaker 96 = .ok (.aload_n 0, 1) := by decide +kernel
theorem dX5_breaker_97 : decode cX5_breaker 97 = .ok (.getfield 10, 3) := by decide +kernel
theorem dX5_breaker_100 : decode cX5_breaker 100 = .ok (.iload_n 1, 1) := by decide +kernel
theorem dX5_breaker_101 : decode cX5_breaker 101 = .ok (.invokevirtual 220, 3) := by decide +kernel
theorem dX5_breaker_104 : decode cX5_breaker 104 = .ok (.ireturn, 1) := by decide +kernel
theorem dX5_breaker_105 : decode cX5_breaker 105 = .ok (.aload_n 3, 1) := by decide +kernel
theorem dX5_breaker_106 : decode cX5_breaker 106 = .ok (.getfield 223, 3) := by decide +kernel
theorem dX5_breaker_109 : decode cX5_breaker 109 = .ok (.ireturn, 1) := by decide +kernel
theorem dX5_breaker_110 : decode cX5_breaker 110 = .ok (.aload_n 3, 1) := by decide +kernel
theorem dX5_breaker_111 : decode cX5_breaker 111 = .ok (.getfield 225, 3) := by decide +kernel
theorem dX5_breaker_114 : decode cX5_breaker 114 = .ok (.ireturn, 1) := by decide +kernel
theorem dX5_socket_0 : decode cX5_socket 0 = .ok (.iload_n 1, 1) := by decide +kernel
theorem dX5_socket_1 : decode cX5_socket 1 = .ok (.iconst 0, 1) := by decide +kernel
theorem dX5_socket_2 : decode cX5_socket 2 = .ok (.bipush 11, 2) := by decide +kernel
theorem dX5_socket_4 : decode cX5_socket 4 = .ok (.invokestatic 71, 3) := by decide +kernel
theorem dX5_socket_7 : decode cX5_socket 7 = .ok (.iload_n 2, 1) := by decide +kernel
theorem dX5_socket_8 : decode cX5_socket 8 = .ok (.iconst 0, 1) := by decide +kernel
theorem dX5_socket_9 : decode cX5_socket 9 = .ok (.iconst 1, 1) := by decide +kernel
theorem dX5_socket_10 : decode cX5_socket 10 = .ok (.invokestatic 71, 3) := by decide +kernel
theorem dX5_socket_13 : decode cX5_socket 13 = .ok (.iload_n 2, 1) := by decide +kernel
theorem dX5_socket_14 : decode cX5_socket 14 = .ok (.ifCond .ne 14, 3) := by decide +kernel
theorem dX5_socket_17 : decode cX5_socket 17 = .ok (.aload_n 0, 1) := by decide +kernel
theorem dX5_socket_18 : decode cX5_socket 18 = .ok (.getfield 10, 3) := by decide +kernel
theorem dX5_socket_21 : decode cX5_socket 21 = .ok (.iload_n 1, 1) := by decide +kernel
theorem dX5_socket_22 : decode cX5_socket 22 = .ok (.invokevirtual 124, 3) := by decide +kernel
theorem dX5_socket_25 : decode cX5_socket 25 = .ok (.goto 11, 3) := by decide +kernel
theorem dX5_socket_28 : decode cX5_socket 28 = .ok (.aload_n 0, 1) := by decide +kernel
theorem dX5_socket_29 : decode cX5_socket 29 = .ok (.getfield 10, 3) := by decide +kernel
theorem dX5_socket_32 : decode cX5_socket 32 = .ok (.iload_n 1, 1) := by decide +kernel
theorem dX5_socket_33 : decode cX5_socket 33 = .ok (.invokevirtual 75, 3) := by decide +kernel
theorem dX5_socket_36 : decode cX5_socket 36 = .ok (.ireturn, 1) := by decide +kernel
theorem dX5_count_0 : decode cX5_count 0 = .ok (.iload_n 1, 1) := by decide +kernel
theorem dX5_count_1 : decode cX5_count 1 = .ok (.iconst 0, 1) := by decide +kernel
theorem dX5_count_2 : decode cX5_count 2 = .ok (.bipush 11, 2) := by decide +kernel
theorem dX5_count_4 : decode cX5_count 4 = .ok (.invokestatic 71, 3) := by decide +kernel
theorem dX5_count_7 : decode cX5_count 7 = .ok (.iload_n 1, 1) := by decide +kernel
theorem dX5_count_8 : decode cX5_count 8 = .ok (.tableswitch 148 0 10 #[60, 68, 76, 84, 92, 100, 108, 116, 124, 132, 140], 60) := by decide +kernel
theorem dX5_count_68 : decode cX5_count 68 = .ok (.aload_n 0, 1) := by decide +kernel
theorem dX5_count_69 : decode cX5_count 69 = .ok (.getfield 10, 3) := by decide +kernel
theorem dX5_count_72 : decode cX5_count 72 = .ok (.getfield 176, 3) := by decide +kernel
theorem dX5_count_75 : decode cX5_count 75 = .ok (.ireturn, 1) := by decide +kernel
theorem dX5_count_76 : decode cX5_count 76 = .ok (.aload_n 0, 1) := by decide +kernel
theorem dX5_count_77 : decode cX5_count 77 = .ok (.getfield 10, 3) := by decide +kernel
theorem dX5_count_80 : decode cX5_count 80 = .ok (.getfield 228, 3) := by decide +kernel
theorem dX5_count_83 : decode cX5_count 83 = .ok (.ireturn, 1) := by decide +kernel
theorem dX5_count_84 : decode cX5_count 84 = .ok (.aload_n 0, 1) := by decide +kernel
theorem dX5_count_85 : decode cX5_count 85 = .ok (.getfield 10, 3) := by decide +kernel
theorem dX5_count_88 : decode cX5_count 88 = .ok (.invokevirtual 231, 3) := by decide +kernel
theorem dX5_count_91 : decode cX5_count 91 = .ok (.ireturn, 1) := by decide +kernel
theorem dX5_count_92 : decode cX5_count 92 = .ok (.aload_n 0, 1) := by decide +kernel
theorem dX5_count_93 : decode cX5_count 93 = .ok (.getfield 10, 3) := by decide +kernel
theorem dX5_count_96 : decode cX5_count 96 = .ok (.invokevirtual 234, 3) := by decide +kernel
theorem dX5_count_99 : decode cX5_count 99 = .ok (.ireturn, 1) := by decide +kernel
theorem dX5_count_100 : decode cX5_count 100 = .ok (.aload_n 0, 1) := by decide +kernel
theorem dX5_count_101 : decode cX5_count 101 = .ok (.getfield 10, 3) := by decide +kernel
theorem dX5_count_104 : decode cX5_count 104 = .ok (.invokevirtual 237, 3) := by decide +kernel
theorem dX5_count_107 : decode cX5_count 107 = .ok (.ireturn, 1) := by decide +kernel
theorem dX5_count_108 : decode cX5_count 108 = .ok (.aload_n 0, 1) := by decide +kernel
theorem dX5_count_109 : decode cX5_count 109 = .ok (.getfield 10, 3) := by decide +kernel
theorem dX5_count_112 : decode cX5_count 112 = .ok (.invokevirtual 240, 3) := by decide +kernel
theorem dX5_count_115 : decode cX5_count 115 = .ok (.ireturn, 1) := by decide +kernel
theorem dX5_count_116 : decode cX5_count 116 = .ok (.aload_n 0, 1) := by decide +kernel
theorem dX5_count_117 : decode cX5_count 117 = .ok (.getfield 10, 3) := by decide +kernel
theorem dX5_count_120 : decode cX5_count 120 = .ok (.invokevirtual 243, 3) := by decide +kernel
theorem dX5_count_123 : decode cX5_count 123 = .ok (.ireturn, 1) := by decide +kernel
theorem dX5_count_124 : decode cX5_count 124 = .ok (.aload_n 0, 1) := by decide +kernel
theorem dX5_count_125 : decode cX5_count 125 = .ok (.getfield 10, 3) := by decide +kernel
theorem dX5_count_128 : decode cX5_count 128 = .ok (.invokevirtual 133, 3) := by decide +kernel
theorem dX5_count_131 : decode cX5_count 131 = .ok (.ireturn, 1) := by decide +kernel
theorem dX5_count_132 : decode cX5_count 132 = .ok (.aload_n 0, 1) := by decide +kernel
theorem dX5_count_133 : decode cX5_count 133 = .ok (.getfield 10, 3) := by decide +kernel
theorem dX5_count_136 : decode cX5_count 136 = .ok (.invokevirtual 245, 3) := by decide +kernel
theorem dX5_count_139 : decode cX5_count 139 = .ok (.ireturn, 1) := by decide +kernel
theorem dX5_count_140 : decode cX5_count 140 = .ok (.aload_n 0, 1) := by decide +kernel
theorem dX5_count_141 : decode cX5_count 141 = .ok (.getfield 10, 3) := by decide +kernel
theorem dX5_count_144 : decode cX5_count 144 = .ok (.invokevirtual 247, 3) := by decide +kernel
theorem dX5_count_147 : decode cX5_count 147 = .ok (.ireturn, 1) := by decide +kernel
theorem dX5_count_148 : decode cX5_count 148 = .ok (.aload_n 0, 1) := by decide +kernel
theorem dX5_count_149 : decode cX5_count 149 = .ok (.getfield 10, 3) := by decide +kernel
theorem dX5_count_152 : decode cX5_count 152 = .ok (.getfield 250, 3) := by decide +kernel
theorem dX5_count_155 : decode cX5_count 155 = .ok (.ireturn, 1) := by decide +kernel
theorem dX5_count_156 : decode cX5_count 156 = .ok (.aload_n 0, 1) := by decide +kernel
theorem dX5_count_157 : decode cX5_count 157 = .ok (.getfield 30, 3) := by decide +kernel
theorem dX5_count_160 : decode cX5_count 160 = .ok (.getfield 181, 3) := by decide +kernel
theorem dX5_count_163 : decode cX5_count 163 = .ok (.ireturn, 1) := by decide +kernel
theorem dX5_setting_0 : decode cX5_setting 0 = .ok (.iload_n 1, 1) := by decide +kernel
theorem dX5_setting_1 : decode cX5_setting 1 = .ok (.invokestatic 140, 3) := by decide +kernel
theorem dX5_setting_4 : decode cX5_setting 4 = .ok (.aload_n 0, 1) := by decide +kernel
theorem dX5_setting_5 : decode cX5_setting 5 = .ok (.getfield 10, 3) := by decide +kernel
theorem dX5_setting_8 : decode cX5_setting 8 = .ok (.getfield 150, 3) := by decide +kernel
theorem dX5_setting_11 : decode cX5_setting 11 = .ok (.iload_n 1, 1) := by decide +kernel
theorem dX5_setting_12 : decode cX5_setting 12 = .ok (.iaload, 1) := by decide +kernel
theorem dX5_setting_13 : decode cX5_setting 13 = .ok (.ireturn, 1) := by decide +kernel
theorem dX5_ifPlugged_0 : decode cX5_ifPlugged 0 = .ok (.aload_n 0, 1) := by decide +kernel
theorem dX5_ifPlugged_1 : decode cX5_ifPlugged 1 = .ok (.iload_n 1, 1) := by decide +kernel
theorem dX5_ifPlugged_2 : decode cX5_ifPlugged 2 = .ok (.invokevirtual 67, 3) := by decide +kernel
theorem dX5_ifPlugged_5 : decode cX5_ifPlugged 5 = .ok (.iload_n 2, 1) := by decide +kernel
theorem dX5_ifPlugged_6 : decode cX5_ifPlugged 6 = .ok (.iconst 0, 1) := by decide +kernel
theorem dX5_ifPlugged_7 : decode cX5_ifPlugged 7 = .ok (.bipush 11, 2) := by decide +kernel
theorem dX5_ifPlugged_9 : decode cX5_ifPlugged 9 = .ok (.invokestatic 71, 3) := by decide +kernel
theorem dX5_ifPlugged_12 : decode cX5_ifPlugged 12 = .ok (.iload_n 3, 1) := by decide +kernel
theorem dX5_ifPlugged_13 : decode cX5_ifPlugged 13 = .ok (.iconst 1, 1) := by decide +kernel
theorem dX5_ifPlugged_14 : decode cX5_ifPlugged 14 = .ok (.bipush 48, 2) := by decide +kernel
theorem dX5_ifPlugged_16 : decode cX5_ifPlugged 16 = .ok (.invokestatic 71, 3) := by decide +kernel
theorem dX5_ifPlugged_19 : decode cX5_ifPlugged 19 = .ok (.iload 4, 2) := by decide +kernel
theorem dX5_ifPlugged_21 : decode cX5_ifPlugged 21 = .ok (.iconst 0, 1) := by decide +kernel
theorem dX5_ifPlugged_22 : decode cX5_ifPlugged 22 = .ok (.iconst 2, 1) := by decide +kernel
theorem dX5_ifPlugged_23 : decode cX5_ifPlugged 23 = .ok (.invokestatic 71, 3) := by decide +kernel
theorem dX5_ifPlugged_26 : decode cX5_ifPlugged 26 = .ok (.aload_n 0, 1) := by decide +kernel
theorem dX5_ifPlugged_27 : decode cX5_ifPlugged 27 = .ok (.iload_n 1, 1) := by decide +kernel
theorem dX5_ifPlugged_28 : decode cX5_ifPlugged 28 = .ok (.iload_n 2, 1) := by decide +kernel
theorem dX5_ifPlugged_29 : decode cX5_ifPlugged 29 = .ok (.invokevirtual 253, 3) := by decide +kernel
theorem dX5_ifPlugged_32 : decode cX5_ifPlugged 32 = .ok (.ifCond .eq 5, 3) := by decide +kernel
theorem dX5_ifPlugged_35 : decode cX5_ifPlugged 35 = .ok (.iconst (-1), 1) := by decide +kernel
theorem dX5_ifPlugged_36 : decode cX5_ifPlugged 36 = .ok (.ireturn, 1) := by decide +kernel
theorem dX5_ifPlugged_37 : decode cX5_ifPlugged 37 = .ok (.aload_n 0, 1) := by decide +kernel
theorem dX5_ifPlugged_38 : decode cX5_ifPlugged 38 = .ok (.iload_n 1, 1) := by decide +kernel
theorem dX5_ifPlugged_39 : decode cX5_ifPlugged 39 = .ok (.iload_n 2, 1) := by decide +kernel
theorem dX5_ifPlugged_40 : decode cX5_ifPlugged 40 = .ok (.iload_n 3, 1) := by decide +kernel
theorem dX5_ifPlugged_41 : decode cX5_ifPlugged 41 = .ok (.invokevirtual 257, 3) := by decide +kernel
theorem dX5_ifPlugged_44 : decode cX5_ifPlugged 44 = .ok (.iload 4, 2) := by decide +kernel
theorem dX5_ifPlugged_46 : decode cX5_ifPlugged 46 = .ok (.lookupswitch 58 #[(0, 26), (1, 42)], 26) := by decide +kernel
theorem dX5_ifPlugged_72 : decode cX5_ifPlugged 72 = .ok (.aload_n 0, 1) := by decide +kernel
theorem dX5_ifPlugged_73 : decode cX5_ifPlugged 73 = .ok (.getfield 16, 3) := by decide +kernel
theorem dX5_ifPlugged_76 : decode cX5_ifPlugged 76 = .ok (.invokevirtual 133, 3) := by decide +kernel
theorem dX5_ifPlugged_79 : decode cX5_ifPlugged 79 = .ok (.aload_n 0, 1) := by decide +kernel
theorem dX5_ifPlugged_80 : decode cX5_ifPlugged 80 = .ok (.getfield 10, 3) := by decide +kernel
theorem dX5_ifPlugged_83 : decode cX5_ifPlugged 83 = .ok (.invokevirtual 133, 3) := by decide +kernel
theorem dX5_ifPlugged_86 : decode cX5_ifPlugged 86 = .ok (.isub, 1) := by decide +kernel
theorem dX5_ifPlugged_87 : decode cX5_ifPlugged 87 = .ok (.ireturn, 1) := by decide +kernel
theorem dX5_ifPlugged_88 : decode cX5_ifPlugged 88 = .ok (.aload_n 0, 1) := by decide +kernel
theorem dX5_ifPlugged_89 : decode cX5_ifPlugged 89 = .ok (.getfield 16, 3) := by decide +kernel
theorem dX5_ifPlugged_92 : decode cX5_ifPlugged 92 = .ok (.invokevirtual 245, 3) := by decide +kernel
theorem dX5_ifPlugged_95 : decode cX5_ifPlugged 95 = .ok (.aload_n 0, 1) := by decide +kernel
theorem dX5_ifPlugged_96 : decode cX5_ifPlugged 96 = .ok (.getfield 10, 3) := by decide +kernel
theorem dX5_ifPlugged_99 : decode cX5_ifPlugged 99 = .ok (.invokevirtual 245, 3) := by decide +kernel
theorem dX5_ifPlugged_102 : decode cX5_ifPlugged 102 = .ok (.isub, 1) := by decide +kernel
theorem dX5_ifPlugged_103 : decode cX5_ifPlugged 103 = .ok (.ireturn, 1) := by decide +kernel
theorem dX5_ifPlugged_104 : decode cX5_ifPlugged 104 = .ok (.aload_n 0, 1) := by decide +kernel
theorem dX5_ifPlugged_105 : decode cX5_ifPlugged 105 = .ok (.getfield 16, 3) := by decide +kernel
theorem dX5_ifPlugged_108 : decode cX5_ifPlugged 108 = .ok (.getfield 85, 3) := by decide +kernel
theorem dX5_ifPlugged_111 : decode cX5_ifPlugged 111 = .ok (.iload_n 1, 1) := by decide +kernel
theorem dX5_ifPlugged_112 : decode cX5_ifPlugged 112 = .ok (.aaload, 1) := by decide +kernel
theorem dX5_ifPlugged_113 : decode cX5_ifPlugged 113 = .ok (.getfield 201, 3) := by decide +kernel
theorem dX5_ifPlugged_116 : decode cX5_ifPlugged 116 = .ok (.aload_n 0, 1) := by decide +kernel
theorem dX5_ifPlugged_117 : decode cX5_ifPlugged 117 = .ok (.getfield 10, 3) := by decide +kernel
theorem dX5_ifPlugged_120 : decode cX5_ifPlugged 120 = .ok (.getfield 85, 3) := by decide +kernel
theorem dX5_ifPlugged_123 : decode cX5_ifPlugged 123 = .ok (.iload_n 1, 1) := by decide +kernel
theorem dX5_ifPlugged_124 : decode cX5_ifPlugged 124 = .ok (.aaload, 1) := by decide +kernel
theorem dX5_ifPlugged_125 : decode cX5_ifPlugged 125 = .ok (.getfield 201, 3) := by decide +kernel
theorem dX5_ifPlugged_128 : decode cX5_ifPlugged 128 = .ok (.isub, 1) := by decide +kernel
theorem dX5_ifPlugged_129 : decode cX5_ifPlugged 129 = .ok (.ireturn, 1) := by decide +kernel
theorem dX5_tripsIn_0 : decode cX5_tripsIn 0 = .ok (.iload_n 1, 1) := by decide +kernel
theorem dX5_tripsIn_1 : decode cX5_tripsIn 1 = .ok (.iconst 0, 1) := by decide +kernel
theorem dX5_tripsIn_2 : decode cX5_tripsIn 2 = .ok (.iconst 3, 1) := by decide +kernel
theorem dX5_tripsIn_3 : decode cX5_tripsIn 3 = .ok (.invokestatic 71, 3) := by decide +kernel
theorem dX5_tripsIn_6 : decode cX5_tripsIn 6 = .ok (.aload_n 0, 1) := by decide +kernel
theorem dX5_tripsIn_7 : decode cX5_tripsIn 7 = .ok (.getfield 16, 3) := by decide +kernel
theorem dX5_tripsIn_10 : decode cX5_tripsIn 10 = .ok (.aload_n 0, 1) := by decide +kernel
theorem dX5_tripsIn_11 : decode cX5_tripsIn 11 = .ok (.getfield 10, 3) := by decide +kernel
theorem dX5_tripsIn_14 : decode cX5_tripsIn 14 = .ok (.invokevirtual 173, 3) := by decide +kernel
theorem dX5_tripsIn_17 : decode cX5_tripsIn 17 = .ok (.iconst 0, 1) := by decide +kernel
theorem dX5_tripsIn_18 : decode cX5_tripsIn 18 = .ok (.istore_n 2, 1) := by decide +kernel
theorem dX5_tripsIn_19 : decode cX5_tripsIn 19 = .ok (.iload_n 2, 1) := by decide +kernel
theorem dX5_tripsIn_20 : decode cX5_tripsIn 20 = .ok (.bipush 96, 2) := by decide +kernel
theorem dX5_tripsIn_22 : decode cX5_tripsIn 22 = .ok (.if_icmp .gt 33, 3) := by decide +kernel
theorem dX5_tripsIn_25 : decode cX5_tripsIn 25 = .ok (.aload_n 0, 1) := by decide +kernel
theorem dX5_tripsIn_26 : decode cX5_tripsIn 26 = .ok (.getfield 16, 3) := by decide +kernel
theorem dX5_tripsIn_29 : decode cX5_tripsIn 29 = .ok (.getfield 101, 3) := by decide +kernel
theorem dX5_tripsIn_32 : decode cX5_tripsIn 32 = .ok (.iload_n 1, 1) := by decide +kernel
theorem dX5_tripsIn_33 : decode cX5_tripsIn 33 = .ok (.aaload, 1) := by decide +kernel
theorem dX5_tripsIn_34 : decode cX5_tripsIn 34 = .ok (.getfield 110, 3) := by decide +kernel
theorem dX5_tripsIn_37 : decode cX5_tripsIn 37 = .ok (.ifCond .ne 5, 3) := by decide +kernel
theorem dX5_tripsIn_40 : decode cX5_tripsIn 40 = .ok (.iload_n 2, 1) := by decide +kernel
theorem dX5_tripsIn_41 : decode cX5_tripsIn 41 = .ok (.ireturn, 1) := by decide +kernel
theorem dX5_tripsIn_42 : decode cX5_tripsIn 42 = .ok (.aload_n 0, 1) := by decide +kernel
theorem dX5_tripsIn_43 : decode cX5_tripsIn 43 = .ok (.getfield 16, 3) := by decide +kernel
theorem dX5_tripsIn_46 : decode cX5_tripsIn 46 = .ok (.invokevirtual 260, 3) := by decide +kernel
theorem dX5_tripsIn_49 : decode cX5_tripsIn 49 = .ok (.iinc 2 1, 3) := by decide +kernel
theorem dX5_tripsIn_52 : decode cX5_tripsIn 52 = .ok (.goto (-33), 3) := by decide +kernel
theorem dX5_tripsIn_55 : decode cX5_tripsIn 55 = .ok (.iconst (-1), 1) := by decide +kernel
theorem dX5_tripsIn_56 : decode cX5_tripsIn 56 = .ok (.ireturn, 1) := by decide +kernel
theorem dX5_bestSocket_0 : decode cX5_bestSocket 0 = .ok (.aload_n 0, 1) := by decide +kernel
theorem dX5_bestSocket_1 : decode cX5_bestSocket 1 = .ok (.iload_n 1, 1) := by decide +kernel
theorem dX5_bestSocket_2 : decode cX5_bestSocket 2 = .ok (.invokevirtual 67, 3) := by decide +kernel
theorem dX5_bestSocket_5 : decode cX5_bestSocket 5 = .ok (.iconst (-1), 1) := by decide +kernel
theorem dX5_bestSocket_6 : decode cX5_bestSocket 6 = .ok (.istore_n 2, 1) := by decide +kernel
theorem dX5_bestSocket_7 : decode cX5_bestSocket 7 = .ok (.iconst 0, 1) := by decide +kernel
theorem dX5_bestSocket_8 : decode cX5_bestSocket 8 = .ok (.istore_n 3, 1) := by decide +kernel
theorem dX5_bestSocket_9 : decode cX5_bestSocket 9 = .ok (.iconst 0, 1) := by decide +kernel
theorem dX5_bestSocket_10 : decode cX5_bestSocket 10 = .ok (.istore 4, 2) := by decide +kernel
theorem dX5_bestSocket_12 : decode cX5_bestSocket 12 = .ok (.iconst 0, 1) := by decide +kernel
theorem dX5_bestSocket_13 : decode cX5_bestSocket 13 = .ok (.istore 5, 2) := by decide +kernel
theorem dX5_bestSocket_15 : decode cX5_bestSocket 15 = .ok (.iconst 0, 1) := by decide +kernel
theorem dX5_bestSocket_16 : decode cX5_bestSocket 16 = .ok (.istore 6, 2) := by decide +kernel
theorem dX5_bestSocket_18 : decode cX5_bestSocket 18 = .ok (.iload 6, 2) := by decide +kernel
theorem dX5_bestSocket_20 : decode cX5_bestSocket 20 = .ok (.bipush 12, 2) := by decide +kernel
theorem dX5_bestSocket_22 : decode cX5_bestSocket 22 = .ok (.if_icmp .ge 111, 3) := by decide +kernel
theorem dX5_bestSocket_25 : decode cX5_bestSocket 25 = .ok (.iconst 1, 1) := by decide +kernel
theorem dX5_bestSocket_26 : decode cX5_bestSocket 26 = .ok (.aload_n 0, 1) := by decide +kernel
theorem dX5_bestSocket_27 : decode cX5_bestSocket 27 = .ok (.getfield 10, 3) := by decide +kernel
theorem dX5_bestSocket_30 : decode cX5_bestSocket 30 = .ok (.iload 6, 2) := by decide +kernel
theorem dX5_bestSocket_32 : decode cX5_bestSocket 32 = .ok (.invokevirtual 124, 3) := by decide +kernel
theorem dX5_bestSocket_35 : decode cX5_bestSocket 35 = .ok (.ishl, 1) := by decide +kernel
theorem dX5_bestSocket_36 : decode cX5_bestSocket 36 = .ok (.istore 7, 2) := by decide +kernel
theorem dX5_bestSocket_38 : decode cX5_bestSocket 38 = .ok (.aload_n 0, 1) := by decide +kernel
theorem dX5_bestSocket_39 : decode cX5_bestSocket 39 = .ok (.iload_n 1, 1) := by decide +kernel
theorem dX5_bestSocket_40 : decode cX5_bestSocket 40 = .ok (.iload 6, 2) := by decide +kernel
theorem dX5_bestSocket_42 : decode cX5_bestSocket 42 = .ok (.invokevirtual 253, 3) := by decide +kernel
theorem dX5_bestSocket_45 : decode cX5_bestSocket 45 = .ok (.ifCond .ne 82, 3) := by decide +kernel
theorem dX5_bestSocket_48 : decode cX5_bestSocket 48 = .ok (.iload 5, 2) := by decide +kernel
theorem dX5_bestSocket_50 : decode cX5_bestSocket 50 = .ok (.iload 7, 2) := by decide +kernel
theorem dX5_bestSocket_52 : decode cX5_bestSocket 52 = .ok (.iand, 1) := by decide +kernel
theorem dX5_bestSocket_53 : decode cX5_bestSocket 53 = .ok (.ifCond .eq 6, 3) := by decide +kernel
theorem dX5_bestSocket_56 : decode cX5_bestSocket 56 = .ok (.goto 71, 3) := by decide +kernel
theorem dX5_bestSocket_59 : decode cX5_bestSocket 59 = .ok (.iload 5, 2) := by decide +kernel
theorem dX5_bestSocket_61 : decode cX5_bestSocket 61 = .ok (.iload 7, 2) := by decide +kernel
theorem dX5_bestSocket_63 : decode cX5_bestSocket 63 = .ok (.ior, 1) := by decide +kernel
theorem dX5_bestSocket_64 : decode cX5_bestSocket 64 = .ok (.istore 5, 2) := by decide +kernel
theorem dX5_bestSocket_66 : decode cX5_bestSocket 66 = .ok (.aload_n 0, 1) := by decide +kernel
theorem dX5_bestSocket_67 : decode cX5_bestSocket 67 = .ok (.iload_n 1, 1) := by decide +kernel
theorem dX5_bestSocket_68 : decode cX5_bestSocket 68 = .ok (.iload 6, 2) := by decide +kernel
theorem dX5_bestSocket_70 : decode cX5_bestSocket 70 = .ok (.bipush 24, 2) := by decide +kernel
theorem dX5_bestSocket_72 : decode cX5_bestSocket 72 = .ok (.invokevirtual 257, 3) := by decide +kernel
theorem dX5_bestSocket_75 : decode cX5_bestSocket 75 = .ok (.aload_n 0, 1) := by decide +kernel
theorem dX5_bestSocket_76 : decode cX5_bestSocket 76 = .ok (.getfield 16, 3) := by decide +kernel
theorem dX5_bestSocket_79 : decode cX5_bestSocket 79 = .ok (.invokevirtual 245, 3) := by decide +kernel
theorem dX5_bestSocket_82 : decode cX5_bestSocket 82 = .ok (.istore 8, 2) := by decide +kernel
theorem dX5_bestSocket_84 : decode cX5_bestSocket 84 = .ok (.aload_n 0, 1) := by decide +kernel
theorem dX5_bestSocket_85 : decode cX5_bestSocket 85 = .ok (.getfield 16, 3) := by decide +kernel
theorem dX5_bestSocket_88 : decode cX5_bestSocket 88 = .ok (.invokevirtual 133, 3) := by decide +kernel
theorem dX5_bestSocket_91 : decode cX5_bestSocket 91 = .ok (.istore 9, 2) := by decide +kernel
theorem dX5_bestSocket_93 : decode cX5_bestSocket 93 = .ok (.iload_n 2, 1) := by decide +kernel
theorem dX5_bestSocket_94 : decode cX5_bestSocket 94 = .ok (.iconst (-1), 1) := by decide +kernel
theorem dX5_bestSocket_95 : decode cX5_bestSocket 95 = .ok (.if_icmp .eq 22, 3) := by decide +kernel
theorem dX5_bestSocket_98 : decode cX5_bestSocket 98 = .ok (.iload 8, 2) := by decide +kernel
theorem dX5_bestSocket_100 : decode cX5_bestSocket 100 = .ok (.iload_n 3, 1) := by decide +kernel
theorem dX5_bestSocket_101 : decode cX5_bestSocket 101 = .ok (.if_icmp .lt 16, 3) := by decide +kernel
theorem dX5_bestSocket_104 : decode cX5_bestSocket 104 = .ok (.iload 8, 2) := by decide +kernel
theorem dX5_bestSocket_106 : decode cX5_bestSocket 106 = .ok (.iload_n 3, 1) := by decide +kernel
theorem dX5_bestSocket_107 : decode cX5_bestSocket 107 = .ok (.if_icmp .ne 20, 3) := by decide +kernel
theorem dX5_bestSocket_110 : decode cX5_bestSocket 110 = .ok (.iload 9, 2) := by decide +kernel
theorem dX5_bestSocket_112 : decode cX5_bestSocket 112 = .ok (.iload 4, 2) := by decide +kernel
theorem dX5_bestSocket_114 : decode cX5_bestSocket 114 = .ok (.if_icmp .ge 13, 3) := by decide +kernel
theorem dX5_bestSocket_117 : decode cX5_bestSocket 117 = .ok (.iload 6, 2) := by decide +kernel
theorem dX5_bestSocket_119 : decode cX5_bestSocket 119 = .ok (.istore_n 2, 1) := by decide +kernel
theorem dX5_bestSocket_120 : decode cX5_bestSocket 120 = .ok (.iload 8, 2) := by decide +kernel
theorem dX5_bestSocket_122 : decode cX5_bestSocket 122 = .ok (.istore_n 3, 1) := by decide +kernel
theorem dX5_bestSocket_123 : decode cX5_bestSocket 123 = .ok (.iload 9, 2) := by decide +kernel
theorem dX5_bestSocket_125 : decode cX5_bestSocket 125 = .ok (.istore 4, 2) := by decide +kernel
theorem dX5_bestSocket_127 : decode cX5_bestSocket 127 = .ok (.iinc 6 1, 3) := by decide +kernel
theorem dX5_bestSocket_130 : decode cX5_bestSocket 130 = .ok (.goto (-112), 3) := by decide +kernel
theorem dX5_bestSocket_133 : decode cX5_bestSocket 133 = .ok (.iload_n 2, 1) := by decide +kernel
theorem dX5_bestSocket_134 : decode cX5_bestSocket 134 = .ok (.ireturn, 1) := by decide +kernel
theorem dX5_leastBound_0 : decode cX5_leastBound 0 = .ok (.iload_n 1, 1) := by decide +kernel
theorem dX5_leastBound_1 : decode cX5_leastBound 1 = .ok (.iconst 0, 1) := by decide +kernel
theorem dX5_leastBound_2 : decode cX5_leastBound 2 = .ok (.iconst 3, 1) := by decide +kernel
theorem dX5_leastBound_3 : decode cX5_leastBound 3 = .ok (.invokestatic 71, 3) := by decide +kernel
theorem dX5_leastBound_6 : decode cX5_leastBound 6 = .ok (.bipush 9, 2) := by decide +kernel
theorem dX5_leastBound_8 : decode cX5_leastBound 8 = .ok (.istore_n 2, 1) := by decide +kernel
theorem dX5_leastBound_9 : decode cX5_leastBound 9 = .ok (.sipush 512, 3) := by decide +kernel
theorem dX5_leastBound_12 : decode cX5_leastBound 12 = .ok (.istore_n 3, 1) := by decide +kernel
theorem dX5_leastBound_13 : decode cX5_leastBound 13 = .ok (.iload_n 3, 1) := by decide +kernel
theorem dX5_leastBound_14 : decode cX5_leastBound 14 = .ok (.ifCond .le 34, 3) := by decide +kernel
theorem dX5_leastBound_17 : decode cX5_leastBound 17 = .ok (.iload_n 2, 1) := by decide +kernel
theorem dX5_leastBound_18 : decode cX5_leastBound 18 = .ok (.iload_n 3, 1) := by decide +kernel
theorem dX5_leastBound_19 : decode cX5_leastBound 19 = .ok (.iadd, 1) := by decide +kernel
theorem dX5_leastBound_20 : decode cX5_leastBound 20 = .ok (.sipush 999, 3) := by decide +kernel
theorem dX5_leastBound_23 : decode cX5_leastBound 23 = .ok (.if_icmp .gt 18, 3) := by decide +kernel
theorem dX5_leastBound_26 : decode cX5_leastBound 26 = .ok (.aload_n 0, 1) := by decide +kernel
theorem dX5_leastBound_27 : decode cX5_leastBound 27 = .ok (.iload_n 1, 1) := by decide +kernel
theorem dX5_leastBound_28 : decode cX5_leastBound 28 = .ok (.iload_n 2, 1) := by decide +kernel
theorem dX5_leastBound_29 : decode cX5_leastBound 29 = .ok (.iload_n 3, 1) := by decide +kernel
theorem dX5_leastBound_30 : decode cX5_leastBound 30 = .ok (.iadd, 1) := by decide +kernel
theorem dX5_leastBound_31 : decode cX5_leastBound 31 = .ok (.invokevirtual 263, 3) := by decide +kernel
theorem dX5_leastBound_34 : decode cX5_leastBound 34 = .ok (.ifCond .eq 7, 3) := by decide +kernel
theorem dX5_leastBound_37 : decode cX5_leastBound 37 = .ok (.iload_n 2, 1) := by decide +kernel
theorem dX5_leastBound_38 : decode cX5_leastBound 38 = .ok (.iload_n 3, 1) := by decide +kernel
theorem dX5_leastBound_39 : decode cX5_leastBound 39 = .ok (.iadd, 1) := by decide +kernel
theorem dX5_leastBound_40 : decode cX5_leastBound 40 = .ok (.istore_n 2, 1) := by decide +kernel
theorem dX5_leastBound_41 : decode cX5_leastBound 41 = .ok (.iload_n 3, 1) := by decide +kernel
theorem dX5_leastBound_42 : decode cX5_leastBound 42 = .ok (.iconst 2, 1) := by decide +kernel
theorem dX5_leastBound_43 : decode cX5_leastBound 43 = .ok (.idiv, 1) := by decide +kernel
theorem dX5_leastBound_44 : decode cX5_leastBound 44 = .ok (.istore_n 3, 1) := by decide +kernel
theorem dX5_leastBound_45 : decode cX5_leastBound 45 = .ok (.goto (-32), 3) := by decide +kernel
theorem dX5_leastBound_48 : decode cX5_leastBound 48 = .ok (.iload_n 2, 1) := by decide +kernel
theorem dX5_leastBound_49 : decode cX5_leastBound 49 = .ok (.sipush 999, 3) := by decide +kernel
theorem dX5_leastBound_52 : decode cX5_leastBound 52 = .ok (.if_icmp .ne 7, 3) := by decide +kernel
theorem dX5_leastBound_55 : decode cX5_leastBound 55 = .ok (.iconst (-1), 1) := by decide +kernel
theorem dX5_leastBound_56 : decode cX5_leastBound 56 = .ok (.goto 6, 3) := by decide +kernel
theorem dX5_leastBound_59 : decode cX5_leastBound 59 = .ok (.iload_n 2, 1) := by decide +kernel
theorem dX5_leastBound_60 : decode cX5_leastBound 60 = .ok (.iconst 1, 1) := by decide +kernel
theorem dX5_leastBound_61 : decode cX5_leastBound 61 = .ok (.iadd, 1) := by decide +kernel
theorem dX5_leastBound_62 : decode cX5_leastBound 62 = .ok (.ireturn, 1) := by decide +kernel
theorem dX5_servedShare_0 : decode cX5_servedShare 0 = .ok (.aload_n 0, 1) := by decide +kernel
theorem dX5_servedShare_1 : decode cX5_servedShare 1 = .ok (.getfield 10, 3) := by decide +kernel
theorem dX5_servedShare_4 : decode cX5_servedShare 4 = .ok (.getfield 266, 3) := by decide +kernel
theorem dX5_servedShare_7 : decode cX5_servedShare 7 = .ok (.aload_n 0, 1) := by decide +kernel
theorem dX5_servedShare_8 : decode cX5_servedShare 8 = .ok (.getfield 10, 3) := by decide +kernel
theorem dX5_servedShare_11 : decode cX5_servedShare 11 = .ok (.invokevirtual 245, 3) := by decide +kernel
theorem dX5_servedShare_14 : decode cX5_servedShare 14 = .ok (.iadd, 1) := by decide +kernel
theorem dX5_servedShare_15 : decode cX5_servedShare 15 = .ok (.istore_n 1, 1) := by decide +kernel
theorem dX5_servedShare_16 : decode cX5_servedShare 16 = .ok (.iload_n 1, 1) := by decide +kernel
theorem dX5_servedShare_17 : decode cX5_servedShare 17 = .ok (.ifCond .ne 7, 3) := by decide +kernel
theorem dX5_servedShare_20 : decode cX5_servedShare 20 = .ok (.dconst 1, 1) := by decide +kernel
theorem dX5_servedShare_21 : decode cX5_servedShare 21 = .ok (.goto 14, 3) := by decide +kernel
theorem dX5_servedShare_24 : decode cX5_servedShare 24 = .ok (.aload_n 0, 1) := by decide +kernel
theorem dX5_servedShare_25 : decode cX5_servedShare 25 = .ok (.getfield 10, 3) := by decide +kernel
theorem dX5_servedShare_28 : decode cX5_servedShare 28 = .ok (.getfield 266, 3) := by decide +kernel
theorem dX5_servedShare_31 : decode cX5_servedShare 31 = .ok (.i2d, 1) := by decide +kernel
theorem dX5_servedShare_32 : decode cX5_servedShare 32 = .ok (.iload_n 1, 1) := by decide +kernel
theorem dX5_servedShare_33 : decode cX5_servedShare 33 = .ok (.i2d, 1) := by decide +kernel
theorem dX5_servedShare_34 : decode cX5_servedShare 34 = .ok (.ddiv, 1) := by decide +kernel
theorem dX5_servedShare_35 : decode cX5_servedShare 35 = .ok (.dreturn, 1) := by decide +kernel
theorem dX5_checkStall_0 : decode cX5_checkStall 0 = .ok (.iload_n 1, 1) := by decide +kernel
theorem dX5_checkStall_1 : decode cX5_checkStall 1 = .ok (.ifCond .lt 14, 3) := by decide +kernel
theorem dX5_checkStall_4 : decode cX5_checkStall 4 = .ok (.iload_n 1, 1) := by decide +kernel
theorem dX5_checkStall_5 : decode cX5_checkStall 5 = .ok (.aload_n 0, 1) := by decide +kernel
theorem dX5_checkStall_6 : decode cX5_checkStall 6 = .ok (.getfield 10, 3) := by decide +kernel
theorem dX5_checkStall_9 : decode cX5_checkStall 9 = .ok (.getfield 228, 3) := by decide +kernel
theorem dX5_checkStall_12 : decode cX5_checkStall 12 = .ok (.if_icmp .lt 14, 3) := by decide +kernel
theorem dX5_checkStall_15 : decode cX5_checkStall 15 = .ok (.new 313, 3) := by decide +kernel
theorem dX5_checkStall_18 : decode cX5_checkStall 18 = .ok (.dup, 1) := by decide +kernel
theorem dX5_checkStall_19 : decode cX5_checkStall 19 = .ok (.ldc_w 315, 3) := by decide +kernel
theorem dX5_checkStall_22 : decode cX5_checkStall 22 = .ok (.invokespecial 317, 3) := by decide +kernel
theorem dX5_checkStall_25 : decode cX5_checkStall 25 = .ok (.athrow, 1) := by decide +kernel
theorem dX5_checkStall_26 : decode cX5_checkStall 26 = .ok (.return_, 1) := by decide +kernel
theorem dX5_checkSetting_0 : decode cX5_checkSetting 0 = .ok (.iload_n 0, 1) := by decide +kernel
theorem dX5_checkSetting_1 : decode cX5_checkSetting 1 = .ok (.ifCond .lt 8, 3) := by decide +kernel
theorem dX5_checkSetting_4 : decode cX5_checkSetting 4 = .ok (.iload_n 0, 1) := by decide +kernel
theorem dX5_checkSetting_5 : decode cX5_checkSetting 5 = .ok (.iconst 3, 1) := by decide +kernel
theorem dX5_checkSetting_6 : decode cX5_checkSetting 6 = .ok (.if_icmp .lt 14, 3) := by decide +kernel
theorem dX5_checkSetting_9 : decode cX5_checkSetting 9 = .ok (.new 313, 3) := by decide +kernel
theorem dX5_checkSetting_12 : decode cX5_checkSetting 12 = .ok (.dup, 1) := by decide +kernel
theorem dX5_checkSetting_13 : decode cX5_checkSetting 13 = .ok (.ldc_w 318, 3) := by decide +kernel
theorem dX5_checkSetting_16 : decode cX5_checkSetting 16 = .ok (.invokespecial 317, 3) := by decide +kernel
theorem dX5_checkSetting_19 : decode cX5_checkSetting 19 = .ok (.athrow, 1) := by decide +kernel
theorem dX5_checkSetting_20 : decode cX5_checkSetting 20 = .ok (.return_, 1) := by decide +kernel
theorem dX5_checkArgument_0 : decode cX5_checkArgument 0 = .ok (.iload_n 0, 1) := by decide +kernel
theorem dX5_checkArgument_1 : decode cX5_checkArgument 1 = .ok (.iload_n 1, 1) := by decide +kernel
theorem dX5_checkArgument_2 : decode cX5_checkArgument 2 = .ok (.if_icmp .lt 8, 3) := by decide +kernel
theorem dX5_checkArgument_5 : decode cX5_checkArgument 5 = .ok (.iload_n 0, 1) := by decide +kernel
theorem dX5_checkArgument_6 : decode cX5_checkArgument 6 = .ok (.iload_n 2, 1) := by decide +kernel
theorem dX5_checkArgument_7 : decode cX5_checkArgument 7 = .ok (.if_icmp .le 14, 3) := by decide +kernel
theorem dX5_checkArgument_10 : decode cX5_checkArgument 10 = .ok (.new 41, 3) := by decide +kernel
theorem dX5_checkArgument_13 : decode cX5_checkArgument 13 = .ok (.dup, 1) := by decide +kernel
theorem dX5_checkArgument_14 : decode cX5_checkArgument 14 = .ok (.ldc_w 320, 3) := by decide +kernel
theorem dX5_checkArgument_17 : decode cX5_checkArgument 17 = .ok (.invokespecial 45, 3) := by decide +kernel
theorem dX5_checkArgument_20 : decode cX5_checkArgument 20 = .ok (.athrow, 1) := by decide +kernel
theorem dX5_checkArgument_21 : decode cX5_checkArgument 21 = .ok (.return_, 1) := by decide +kernel
theorem dX5_isTakenFor_0 : decode cX5_isTakenFor 0 = .ok (.aload_n 0, 1) := by decide +kernel
theorem dX5_isTakenFor_1 : decode cX5_isTakenFor 1 = .ok (.getfield 10, 3) := by decide +kernel
theorem dX5_isTakenFor_4 : decode cX5_isTakenFor 4 = .ok (.iload_n 2, 1) := by decide +kernel
theorem dX5_isTakenFor_5 : decode cX5_isTakenFor 5 = .ok (.invokevirtual 75, 3) := by decide +kernel
theorem dX5_isTakenFor_8 : decode cX5_isTakenFor 8 = .ok (.istore_n 3, 1) := by decide +kernel
theorem dX5_isTakenFor_9 : decode cX5_isTakenFor 9 = .ok (.iload_n 3, 1) := by decide +kernel
theorem dX5_isTakenFor_10 : decode cX5_isTakenFor 10 = .ok (.iconst (-1), 1) := by decide +kernel
theorem dX5_isTakenFor_11 : decode cX5_isTakenFor 11 = .ok (.if_icmp .eq 12, 3) := by decide +kernel
theorem dX5_isTakenFor_14 : decode cX5_isTakenFor 14 = .ok (.iload_n 3, 1) := by decide +kernel
theorem dX5_isTakenFor_15 : decode cX5_isTakenFor 15 = .ok (.iload_n 1, 1) := by decide +kernel
theorem dX5_isTakenFor_16 : decode cX5_isTakenFor 16 = .ok (.if_icmp .eq 7, 3) := by decide +kernel
theorem dX5_isTakenFor_19 : decode cX5_isTakenFor 19 = .ok (.iconst 1, 1) := by decide +kernel
theorem dX5_isTakenFor_20 : decode cX5_isTakenFor 20 = .ok (.goto 4, 3) := by decide +kernel
theorem dX5_isTakenFor_23 : decode cX5_isTakenFor 23 = .ok (.iconst 0, 1) := by decide +kernel
theorem dX5_isTakenFor_24 : decode cX5_isTakenFor 24 = .ok (.ireturn, 1) := by decide +kernel
theorem dX5_tryAt_0 : decode cX5_tryAt 0 = .ok (.aload_n 0, 1) := by decide +kernel
theorem dX5_tryAt_1 : decode cX5_tryAt 1 = .ok (.getfield 16, 3) := by decide +kernel
theorem dX5_tryAt_4 : decode cX5_tryAt 4 = .ok (.aload_n 0, 1) := by decide +kernel
theorem dX5_tryAt_5 : decode cX5_tryAt 5 = .ok (.getfield 10, 3) := by decide +kernel
theorem dX5_tryAt_8 : decode cX5_tryAt 8 = .ok (.invokevirtual 173, 3) := by decide +kernel
theorem dX5_tryAt_11 : decode cX5_tryAt 11 = .ok (.aload_n 0, 1) := by decide +kernel
theorem dX5_tryAt_12 : decode cX5_tryAt 12 = .ok (.getfield 16, 3) := by decide +kernel
theorem dX5_tryAt_15 : decode cX5_tryAt 15 = .ok (.iload_n 1, 1) := by decide +kernel
theorem dX5_tryAt_16 : decode cX5_tryAt 16 = .ok (.iload_n 2, 1) := by decide +kernel
theorem dX5_tryAt_17 : decode cX5_tryAt 17 = .ok (.invokevirtual 81, 3) := by decide +kernel
theorem dX5_tryAt_20 : decode cX5_tryAt 20 = .ok (.pop, 1) := by decide +kernel
theorem dX5_tryAt_21 : decode cX5_tryAt 21 = .ok (.aload_n 0, 1) := by decide +kernel
theorem dX5_tryAt_22 : decode cX5_tryAt 22 = .ok (.getfield 16, 3) := by decide +kernel
theorem dX5_tryAt_25 : decode cX5_tryAt 25 = .ok (.iload_n 3, 1) := by decide +kernel
theorem dX5_tryAt_26 : decode cX5_tryAt 26 = .ok (.invokevirtual 137, 3) := by decide +kernel
theorem dX5_tryAt_29 : decode cX5_tryAt 29 = .ok (.return_, 1) := by decide +kernel
theorem dX5_wouldTripWith_0 : decode cX5_wouldTripWith 0 = .ok (.aload_n 0, 1) := by decide +kernel
theorem dX5_wouldTripWith_1 : decode cX5_wouldTripWith 1 = .ok (.getfield 16, 3) := by decide +kernel
theorem dX5_wouldTripWith_4 : decode cX5_wouldTripWith 4 = .ok (.aload_n 0, 1) := by decide +kernel
theorem dX5_wouldTripWith_5 : decode cX5_wouldTripWith 5 = .ok (.getfield 10, 3) := by decide +kernel
theorem dX5_wouldTripWith_8 : decode cX5_wouldTripWith 8 = .ok (.invokevirtual 173, 3) := by decide +kernel
theorem dX5_wouldTripWith_11 : decode cX5_wouldTripWith 11 = .ok (.aload_n 0, 1) := by decide +kernel
theorem dX5_wouldTripWith_12 : decode cX5_wouldTripWith 12 = .ok (.getfield 16, 3) := by decide +kernel
theorem dX5_wouldTripWith_15 : decode cX5_wouldTripWith 15 = .ok (.getfield 101, 3) := by decide +kernel
theorem dX5_wouldTripWith_18 : decode cX5_wouldTripWith 18 = .ok (.iload_n 1, 1) := by decide +kernel
theorem dX5_wouldTripWith_19 : decode cX5_wouldTripWith 19 = .ok (.aaload, 1) := by decide +kernel
theorem dX5_wouldTripWith_20 : decode cX5_wouldTripWith 20 = .ok (.astore_n 3, 1) := by decide +kernel
theorem dX5_wouldTripWith_21 : decode cX5_wouldTripWith 21 = .ok (.aload_n 3, 1) := by decide +kernel
theorem dX5_wouldTripWith_22 : decode cX5_wouldTripWith 22 = .ok (.invokevirtual 115, 3) := by decide +kernel
theorem dX5_wouldTripWith_25 : decode cX5_wouldTripWith 25 = .ok (.aload_n 3, 1) := by decide +kernel
theorem dX5_wouldTripWith_26 : decode cX5_wouldTripWith 26 = .ok (.iload_n 2, 1) := by decide +kernel
theorem dX5_wouldTripWith_27 : decode cX5_wouldTripWith 27 = .ok (.putfield 105, 3) := by decide +kernel
theorem dX5_wouldTripWith_30 : decode cX5_wouldTripWith 30 = .ok (.iconst 0, 1) := by decide +kernel
theorem dX5_wouldTripWith_31 : decode cX5_wouldTripWith 31 = .ok (.istore 4, 2) := by decide +kernel
theorem dX5_wouldTripWith_33 : decode cX5_wouldTripWith 33 = .ok (.iload 4, 2) := by decide +kernel
theorem dX5_wouldTripWith_35 : decode cX5_wouldTripWith 35 = .ok (.bipush 48, 2) := by decide +kernel
theorem dX5_wouldTripWith_37 : decode cX5_wouldTripWith 37 = .ok (.if_icmp .ge 23, 3) := by decide +kernel
theorem dX5_wouldTripWith_40 : decode cX5_wouldTripWith 40 = .ok (.aload_n 3, 1) := by decide +kernel
theorem dX5_wouldTripWith_41 : decode cX5_wouldTripWith 41 = .ok (.getfield 110, 3) := by decide +kernel
theorem dX5_wouldTripWith_44 : decode cX5_wouldTripWith 44 = .ok (.ifCond .eq 16, 3) := by decide +kernel
theorem dX5_wouldTripWith_47 : decode cX5_wouldTripWith 47 = .ok (.aload_n 0, 1) := by decide +kernel
theorem dX5_wouldTripWith_48 : decode cX5_wouldTripWith 48 = .ok (.getfield 16, 3) := by decide +kernel
theorem dX5_wouldTripWith_51 : decode cX5_wouldTripWith 51 = .ok (.invokevirtual 260, 3) := by decide +kernel
theorem dX5_wouldTripWith_54 : decode cX5_wouldTripWith 54 = .ok (.iinc 4 1, 3) := by decide +kernel
theorem dX5_wouldTripWith_57 : decode cX5_wouldTripWith 57 = .ok (.goto (-24), 3) := by decide +kernel
theorem dX5_wouldTripWith_60 : decode cX5_wouldTripWith 60 = .ok (.aload_n 3, 1) := by decide +kernel
theorem dX5_wouldTripWith_61 : decode cX5_wouldTripWith 61 = .ok (.getfield 110, 3) := by decide +kernel
theorem dX5_wouldTripWith_64 : decode cX5_wouldTripWith 64 = .ok (.ifCond .ne 7, 3) := by decide +kernel
theorem dX5_wouldTripWith_67 : decode cX5_wouldTripWith 67 = .ok (.iconst 1, 1) := by decide +kernel
theorem dX5_wouldTripWith_68 : decode cX5_wouldTripWith 68 = .ok (.goto 4, 3) := by decide +kernel
theorem dX5_wouldTripWith_71 : decode cX5_wouldTripWith 71 = .ok (.iconst 0, 1) := by decide +kernel
theorem dX5_wouldTripWith_72 : decode cX5_wouldTripWith 72 = .ok (.ireturn, 1) := by decide +kernel
