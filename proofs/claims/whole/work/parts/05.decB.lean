theorem dX5_init_0 : decode cX5_init 0 = .ok (.aload_n 0, 1) := by decide +kernel
theorem dX5_init_1 : decode cX5_init 1 = .ok (.invokespecial 1, 3) := by decide +kernel
theorem dX5_init_4 : decode cX5_init 4 = .ok (.aload_n 0, 1) := by decide +kernel
theorem dX5_init_5 : decode cX5_init 5 = .ok (.new 7, 3) := by decide +kernel
theorem dX5_init_8 : decode cX5_init 8 = .ok (.dup, 1) := by decide +kernel
theorem dX5_init_9 : decode cX5_init 9 = .ok (.invokespecial 9, 3) := by decide +kernel
theorem dX5_init_12 : decode cX5_init 12 = .ok (.putfield 10, 3) := by decide +kernel
theorem dX5_init_15 : decode cX5_init 15 = .ok (.aload_n 0, 1) := by decide +kernel
theorem dX5_init_16 : decode cX5_init 16 = .ok (.new 7, 3) := by decide +kernel
theorem dX5_init_19 : decode cX5_init 19 = .ok (.dup, 1) := by decide +kernel
theorem dX5_init_20 : decode cX5_init 20 = .ok (.invokespecial 9, 3) := by decide +kernel
theorem dX5_init_23 : decode cX5_init 23 = .ok (.putfield 16, 3) := by decide +kernel
theorem dX5_init_26 : decode cX5_init 26 = .ok (.aload_n 0, 1) := by decide +kernel
theorem dX5_init_27 : decode cX5_init 27 = .ok (.iconst 2, 1) := by decide +kernel
theorem dX5_init_28 : decode cX5_init 28 = .ok (.anewarray 7, 3) := by decide +kernel
theorem dX5_init_31 : decode cX5_init 31 = .ok (.putfield 19, 3) := by decide +kernel
theorem dX5_init_34 : decode cX5_init 34 = .ok (.iconst 0, 1) := by decide +kernel
theorem dX5_init_35 : decode cX5_init 35 = .ok (.istore_n 1, 1) := by decide +kernel
theorem dX5_init_36 : decode cX5_init 36 = .ok (.iload_n 1, 1) := by decide +kernel
theorem dX5_init_37 : decode cX5_init 37 = .ok (.iconst 2, 1) := by decide +kernel
theorem dX5_init_38 : decode cX5_init 38 = .ok (.if_icmp .ge 22, 3) := by decide +kernel
theorem dX5_init_41 : decode cX5_init 41 = .ok (.aload_n 0, 1) := by decide +kernel
theorem dX5_init_42 : decode cX5_init 42 = .ok (.getfield 19, 3) := by decide +kernel
theorem dX5_init_45 : decode cX5_init 45 = .ok (.iload_n 1, 1) := by decide +kernel
theorem dX5_init_46 : decode cX5_init 46 = .ok (.new 7, 3) := by decide +kernel
theorem dX5_init_49 : decode cX5_init 49 = .ok (.dup, 1) := by decide +kernel
theorem dX5_init_50 : decode cX5_init 50 = .ok (.invokespecial 9, 3) := by decide +kernel
theorem dX5_init_53 : decode cX5_init 53 = .ok (.aastore, 1) := by decide +kernel
theorem dX5_init_54 : decode cX5_init 54 = .ok (.iinc 1 1, 3) := by decide +kernel
theorem dX5_init_57 : decode cX5_init 57 = .ok (.goto (-21), 3) := by decide +kernel
theorem dX5_init_60 : decode cX5_init 60 = .ok (.aload_n 0, 1) := by decide +kernel
theorem dX5_init_61 : decode cX5_init 61 = .ok (.iconst 2, 1) := by decide +kernel
theorem dX5_init_62 : decode cX5_init 62 = .ok (.newarray .boolean, 2) := by decide +kernel
theorem dX5_init_64 : decode cX5_init 64 = .ok (.putfield 23, 3) := by decide +kernel
theorem dX5_init_67 : decode cX5_init 67 = .ok (.aload_n 0, 1) := by decide +kernel
theorem dX5_init_68 : decode cX5_init 68 = .ok (.new 27, 3) := by decide +kernel
theorem dX5_init_71 : decode cX5_init 71 = .ok (.dup, 1) := by decide +kernel
theorem dX5_init_72 : decode cX5_init 72 = .ok (.invokespecial 29, 3) := by decide +kernel
theorem dX5_init_75 : decode cX5_init 75 = .ok (.putfield 30, 3) := by decide +kernel
theorem dX5_init_78 : decode cX5_init 78 = .ok (.aload_n 0, 1) := by decide +kernel
theorem dX5_init_79 : decode cX5_init 79 = .ok (.new 34, 3) := by decide +kernel
theorem dX5_init_82 : decode cX5_init 82 = .ok (.dup, 1) := by decide +kernel
theorem dX5_init_83 : decode cX5_init 83 = .ok (.invokespecial 36, 3) := by decide +kernel
theorem dX5_init_86 : decode cX5_init 86 = .ok (.putfield 37, 3) := by decide +kernel
theorem dX5_init_89 : decode cX5_init 89 = .ok (.return_, 1) := by decide +kernel
theorem dX5_stall_0 : decode cX5_stall 0 = .ok (.iload_n 1, 1) := by decide +kernel
theorem dX5_stall_1 : decode cX5_stall 1 = .ok (.iconst 1, 1) := by decide +kernel
theorem dX5_stall_2 : decode cX5_stall 2 = .ok (.if_icmp .lt 23, 3) := by decide +kernel
theorem dX5_stall_5 : decode cX5_stall 5 = .ok (.iload_n 1, 1) := by decide +kernel
theorem dX5_stall_6 : decode cX5_stall 6 = .ok (.sipush 500, 3) := by decide +kernel
theorem dX5_stall_9 : decode cX5_stall 9 = .ok (.if_icmp .gt 16, 3) := by decide +kernel
theorem dX5_stall_12 : decode cX5_stall 12 = .ok (.iload 4, 2) := by decide +kernel
theorem dX5_stall_14 : decode cX5_stall 14 = .ok (.iconst 1, 1) := by decide +kernel
theorem dX5_stall_15 : decode cX5_stall 15 = .ok (.if_icmp .lt 10, 3) := by decide +kernel
theorem dX5_stall_18 : decode cX5_stall 18 = .ok (.iload 4, 2) := by decide +kernel
theorem dX5_stall_20 : decode cX5_stall 20 = .ok (.bipush 9, 2) := by decide +kernel
theorem dX5_stall_22 : decode cX5_stall 22 = .ok (.if_icmp .le 13, 3) := by decide +kernel
theorem dX5_stall_25 : decode cX5_stall 25 = .ok (.new 41, 3) := by decide +kernel
theorem dX5_stall_28 : decode cX5_stall 28 = .ok (.dup, 1) := by decide +kernel
theorem dX5_stall_29 : decode cX5_stall 29 = .ok (.ldc 43, 2) := by decide +kernel
theorem dX5_stall_31 : decode cX5_stall 31 = .ok (.invokespecial 45, 3) := by decide +kernel
theorem dX5_stall_34 : decode cX5_stall 34 = .ok (.athrow, 1) := by decide +kernel
theorem dX5_stall_35 : decode cX5_stall 35 = .ok (.iload_n 2, 1) := by decide +kernel
theorem dX5_stall_36 : decode cX5_stall 36 = .ok (.ifCond .lt 19, 3) := by decide +kernel
theorem dX5_stall_39 : decode cX5_stall 39 = .ok (.iload_n 2, 1) := by decide +kernel
theorem dX5_stall_40 : decode cX5_stall 40 = .ok (.bipush 24, 2) := by decide +kernel
theorem dX5_stall_42 : decode cX5_stall 42 = .ok (.if_icmp .ge 13, 3) := by decide +kernel
theorem dX5_stall_45 : decode cX5_stall 45 = .ok (.iload_n 3, 1) := by decide +kernel
theorem dX5_stall_46 : decode cX5_stall 46 = .ok (.ifCond .lt 9, 3) := by decide +kernel
theorem dX5_stall_49 : decode cX5_stall 49 = .ok (.iload_n 3, 1) := by decide +kernel
theorem dX5_stall_50 : decode cX5_stall 50 = .ok (.bipush 24, 2) := by decide +kernel
theorem dX5_stall_52 : decode cX5_stall 52 = .ok (.if_icmp .lt 13, 3) := by decide +kernel
theorem dX5_stall_55 : decode cX5_stall 55 = .ok (.new 41, 3) := by decide +kernel
theorem dX5_stall_58 : decode cX5_stall 58 = .ok (.dup, 1) := by decide +kernel
theorem dX5_stall_59 : decode cX5_stall 59 = .ok (.ldc 48, 2) := by decide +kernel
theorem dX5_stall_61 : decode cX5_stall 61 = .ok (.invokespecial 45, 3) := by decide +kernel
theorem dX5_stall_64 : decode cX5_stall 64 = .ok (.athrow, 1) := by decide +kernel
theorem dX5_stall_65 : decode cX5_stall 65 = .ok (.aload_n 0, 1) := by decide +kernel
theorem dX5_stall_66 : decode cX5_stall 66 = .ok (.getfield 10, 3) := by decide +kernel
theorem dX5_stall_69 : decode cX5_stall 69 = .ok (.invokevirtual 50, 3) := by decide +kernel
theorem dX5_stall_72 : decode cX5_stall 72 = .ok (.ifCond .eq 13, 3) := by decide +kernel
theorem dX5_stall_75 : decode cX5_stall 75 = .ok (.new 54, 3) := by decide +kernel
theorem dX5_stall_78 : decode cX5_stall 78 = .ok (.dup, 1) := by decide +kernel
theorem dX5_stall_79 : decode cX5_stall 79 = .ok (.ldc 56, 2) := by decide +kernel
theorem dX5_stall_81 : decode cX5_stall 81 = .ok (.invokespecial 58, 3) := by decide +kernel
theorem dX5_stall_84 : decode cX5_stall 84 = .ok (.athrow, 1) := by decide +kernel
theorem dX5_stall_85 : decode cX5_stall 85 = .ok (.aload_n 0, 1) := by decide +kernel
theorem dX5_stall_86 : decode cX5_stall 86 = .ok (.getfield 30, 3) := by decide +kernel
theorem dX5_stall_89 : decode cX5_stall 89 = .ok (.aload_n 0, 1) := by decide +kernel
theorem dX5_stall_90 : decode cX5_stall 90 = .ok (.getfield 10, 3) := by decide +kernel
theorem dX5_stall_93 : decode cX5_stall 93 = .ok (.invokevirtual 59, 3) := by decide +kernel
theorem dX5_stall_96 : decode cX5_stall 96 = .ok (.aload_n 0, 1) := by decide +kernel
theorem dX5_stall_97 : decode cX5_stall 97 = .ok (.getfield 10, 3) := by decide +kernel
theorem dX5_stall_100 : decode cX5_stall 100 = .ok (.iload_n 1, 1) := by decide +kernel
theorem dX5_stall_101 : decode cX5_stall 101 = .ok (.iload_n 2, 1) := by decide +kernel
theorem dX5_stall_102 : decode cX5_stall 102 = .ok (.iload_n 3, 1) := by decide +kernel
theorem dX5_stall_103 : decode cX5_stall 103 = .ok (.iload 4, 2) := by decide +kernel
theorem dX5_stall_105 : decode cX5_stall 105 = .ok (.invokevirtual 63, 3) := by decide +kernel
theorem dX5_stall_108 : decode cX5_stall 108 = .ok (.ireturn, 1) := by decide +kernel
theorem dX5_plug_0 : decode cX5_plug 0 = .ok (.aload_n 0, 1) := by decide +kernel
theorem dX5_plug_1 : decode cX5_plug 1 = .ok (.iload_n 1, 1) := by decide +kernel
theorem dX5_plug_2 : decode cX5_plug 2 = .ok (.invokevirtual 67, 3) := by decide +kernel
theorem dX5_plug_5 : decode cX5_plug 5 = .ok (.iload_n 2, 1) := by decide +kernel
theorem dX5_plug_6 : decode cX5_plug 6 = .ok (.iconst 0, 1) := by decide +kernel
theorem dX5_plug_7 : decode cX5_plug 7 = .ok (.bipush 11, 2) := by decide +kernel
theorem dX5_plug_9 : decode cX5_plug 9 = .ok (.invokestatic 71, 3) := by decide +kernel
theorem dX5_plug_12 : decode cX5_plug 12 = .ok (.aload_n 0, 1) := by decide +kernel
theorem dX5_plug_13 : decode cX5_plug 13 = .ok (.getfield 10, 3) := by decide +kernel
theorem dX5_plug_16 : decode cX5_plug 16 = .ok (.iload_n 2, 1) := by decide +kernel
theorem dX5_plug_17 : decode cX5_plug 17 = .ok (.invokevirtual 75, 3) := by decide +kernel
theorem dX5_plug_20 : decode cX5_plug 20 = .ok (.iconst (-1), 1) := by decide +kernel
theorem dX5_plug_21 : decode cX5_plug 21 = .ok (.if_icmp .eq 13, 3) := by decide +kernel
theorem dX5_plug_24 : decode cX5_plug 24 = .ok (.new 54, 3) := by decide +kernel
theorem dX5_plug_27 : decode cX5_plug 27 = .ok (.dup, 1) := by decide +kernel
theorem dX5_plug_28 : decode cX5_plug 28 = .ok (.ldc 79, 2) := by decide +kernel
theorem dX5_plug_30 : decode cX5_plug 30 = .ok (.invokespecial 58, 3) := by decide +kernel
theorem dX5_plug_33 : decode cX5_plug 33 = .ok (.athrow, 1) := by decide +kernel
theorem dX5_plug_34 : decode cX5_plug 34 = .ok (.aload_n 0, 1) := by decide +kernel
theorem dX5_plug_35 : decode cX5_plug 35 = .ok (.getfield 30, 3) := by decide +kernel
theorem dX5_plug_38 : decode cX5_plug 38 = .ok (.aload_n 0, 1) := by decide +kernel
theorem dX5_plug_39 : decode cX5_plug 39 = .ok (.getfield 10, 3) := by decide +kernel
theorem dX5_plug_42 : decode cX5_plug 42 = .ok (.invokevirtual 59, 3) := by decide +kernel
theorem dX5_plug_45 : decode cX5_plug 45 = .ok (.aload_n 0, 1) := by decide +kernel
theorem dX5_plug_46 : decode cX5_plug 46 = .ok (.getfield 10, 3) := by decide +kernel
theorem dX5_plug_49 : decode cX5_plug 49 = .ok (.iload_n 1, 1) := by decide +kernel
theorem dX5_plug_50 : decode cX5_plug 50 = .ok (.iload_n 2, 1) := by decide +kernel
theorem dX5_plug_51 : decode cX5_plug 51 = .ok (.invokevirtual 81, 3) := by decide +kernel
theorem dX5_plug_54 : decode cX5_plug 54 = .ok (.ireturn, 1) := by decide +kernel
theorem dX5_pull_0 : decode cX5_pull 0 = .ok (.aload_n 0, 1) := by decide +kernel
theorem dX5_pull_1 : decode cX5_pull 1 = .ok (.iload_n 1, 1) := by decide +kernel
theorem dX5_pull_2 : decode cX5_pull 2 = .ok (.invokevirtual 67, 3) := by decide +kernel
theorem dX5_pull_5 : decode cX5_pull 5 = .ok (.aload_n 0, 1) := by decide +kernel
theorem dX5_pull_6 : decode cX5_pull 6 = .ok (.getfield 10, 3) := by decide +kernel
theorem dX5_pull_9 : decode cX5_pull 9 = .ok (.getfield 85, 3) := by decide +kernel
theorem dX5_pull_12 : decode cX5_pull 12 = .ok (.iload_n 1, 1) := by decide +kernel
theorem dX5_pull_13 : decode cX5_pull 13 = .ok (.aaload, 1) := by decide +kernel
theorem dX5_pull_14 : decode cX5_pull 14 = .ok (.getfield 89, 3) := by decide +kernel
theorem dX5_pull_17 : decode cX5_pull 17 = .ok (.iconst (-1), 1) := by decide +kernel
theorem dX5_pull_18 : decode cX5_pull 18 = .ok (.if_icmp .ne 13, 3) := by decide +kernel
theorem dX5_pull_21 : decode cX5_pull 21 = .ok (.new 54, 3) := by decide +kernel
theorem dX5_pull_24 : decode cX5_pull 24 = .ok (.dup, 1) := by decide +kernel
theorem dX5_pull_25 : decode cX5_pull 25 = .ok (.ldc 95, 2) := by decide +kernel
theorem dX5_pull_27 : decode cX5_pull 27 = .ok (.invokespecial 58, 3) := by decide +kernel
theorem dX5_pull_30 : decode cX5_pull 30 = .ok (.athrow, 1) := by decide +kernel
theorem dX5_pull_31 : decode cX5_pull 31 = .ok (.aload_n 0, 1) := by decide +kernel
theorem dX5_pull_32 : decode cX5_pull 32 = .ok (.getfield 30, 3) := by decide +kernel
theorem dX5_pull_35 : decode cX5_pull 35 = .ok (.aload_n 0, 1) := by decide +kernel
theorem dX5_pull_36 : decode cX5_pull 36 = .ok (.getfield 10, 3) := by decide +kernel
theorem dX5_pull_39 : decode cX5_pull 39 = .ok (.invokevirtual 59, 3) := by decide +kernel
theorem dX5_pull_42 : decode cX5_pull 42 = .ok (.aload_n 0, 1) := by decide +kernel
theorem dX5_pull_43 : decode cX5_pull 43 = .ok (.getfield 10, 3) := by decide +kernel
theorem dX5_pull_46 : decode cX5_pull 46 = .ok (.iload_n 1, 1) := by decide +kernel
theorem dX5_pull_47 : decode cX5_pull 47 = .ok (.iconst (-1), 1) := by decide +kernel
theorem dX5_pull_48 : decode cX5_pull 48 = .ok (.invokevirtual 81, 3) := by decide +kernel
theorem dX5_pull_51 : decode cX5_pull 51 = .ok (.ireturn, 1) := by decide +kernel
theorem dX5_shed_0 : decode cX5_shed 0 = .ok (.aload_n 0, 1) := by decide +kernel
theorem dX5_shed_1 : decode cX5_shed 1 = .ok (.iload_n 1, 1) := by decide +kernel
theorem dX5_shed_2 : decode cX5_shed 2 = .ok (.invokevirtual 67, 3) := by decide +kernel
theorem dX5_shed_5 : decode cX5_shed 5 = .ok (.aload_n 0, 1) := by decide +kernel
theorem dX5_shed_6 : decode cX5_shed 6 = .ok (.getfield 30, 3) := by decide +kernel
theorem dX5_shed_9 : decode cX5_shed 9 = .ok (.aload_n 0, 1) := by decide +kernel
theorem dX5_shed_10 : decode cX5_shed 10 = .ok (.getfield 10, 3) := by decide +kernel
theorem dX5_shed_13 : decode cX5_shed 13 = .ok (.invokevirtual 59, 3) := by decide +kernel
theorem dX5_shed_16 : decode cX5_shed 16 = .ok (.aload_n 0, 1) := by decide +kernel
theorem dX5_shed_17 : decode cX5_shed 17 = .ok (.getfield 10, 3) := by decide +kernel
theorem dX5_shed_20 : decode cX5_shed 20 = .ok (.getfield 85, 3) := by decide +kernel
theorem dX5_shed_23 : decode cX5_shed 23 = .ok (.iload_n 1, 1) := by decide +kernel
theorem dX5_shed_24 : decode cX5_shed 24 = .ok (.aaload, 1) := by decide +kernel
theorem dX5_shed_25 : decode cX5_shed 25 = .ok (.astore_n 2, 1) := by decide +kernel
theorem dX5_shed_26 : decode cX5_shed 26 = .ok (.aload_n 2, 1) := by decide +kernel
theorem dX5_shed_27 : decode cX5_shed 27 = .ok (.aload_n 2, 1) := by decide +kernel
theorem dX5_shed_28 : decode cX5_shed 28 = .ok (.getfield 97, 3) := by decide +kernel
theorem dX5_shed_31 : decode cX5_shed 31 = .ok (.ifCond .ne 7, 3) := by decide +kernel
theorem dX5_shed_34 : decode cX5_shed 34 = .ok (.iconst 1, 1) := by decide +kernel
theorem dX5_shed_35 : decode cX5_shed 35 = .ok (.goto 4, 3) := by decide +kernel
theorem dX5_shed_38 : decode cX5_shed 38 = .ok (.iconst 0, 1) := by decide +kernel
theorem dX5_shed_39 : decode cX5_shed 39 = .ok (.putfield 97, 3) := by decide +kernel
theorem dX5_shed_42 : decode cX5_shed 42 = .ok (.aload_n 2, 1) := by decide +kernel
theorem dX5_shed_43 : decode cX5_shed 43 = .ok (.getfield 97, 3) := by decide +kernel
theorem dX5_shed_46 : decode cX5_shed 46 = .ok (.ifCond .eq 7, 3) := by decide +kernel
theorem dX5_shed_49 : decode cX5_shed 49 = .ok (.iconst 1, 1) := by decide +kernel
theorem dX5_shed_50 : decode cX5_shed 50 = .ok (.goto 4, 3) := by decide +kernel
theorem dX5_shed_53 : decode cX5_shed 53 = .ok (.iconst 0, 1) := by decide +kernel
theorem dX5_shed_54 : decode cX5_shed 54 = .ok (.ireturn, 1) := by decide +kernel
theorem dX5_bound_0 : decode cX5_bound 0 = .ok (.iload_n 1, 1) := by decide +kernel
theorem dX5_bound_1 : decode cX5_bound 1 = .ok (.iconst 0, 1) := by decide +kernel
theorem dX5_bound_2 : decode cX5_bound 2 = .ok (.iconst 3, 1) := by decide +kernel
theorem dX5_bound_3 : decode cX5_bound 3 = .ok (.invokestatic 71, 3) := by decide +kernel
theorem dX5_bound_6 : decode cX5_bound 6 = .ok (.iload_n 2, 1) := by decide +kernel
theorem dX5_bound_7 : decode cX5_bound 7 = .ok (.bipush 10, 2) := by decide +kernel
theorem dX5_bound_9 : decode cX5_bound 9 = .ok (.sipush 999, 3) := by decide +kernel
theorem dX5_bound_12 : decode cX5_bound 12 = .ok (.invokestatic 71, 3) := by decide +kernel
theorem dX5_bound_15 : decode cX5_bound 15 = .ok (.aload_n 0, 1) := by decide +kernel
theorem dX5_bound_16 : decode cX5_bound 16 = .ok (.getfield 30, 3) := by decide +kernel
theorem dX5_bound_19 : decode cX5_bound 19 = .ok (.aload_n 0, 1) := by decide +kernel
theorem dX5_bound_20 : decode cX5_bound 20 = .ok (.getfield 10, 3) := by decide +kernel
theorem dX5_bound_23 : decode cX5_bound 23 = .ok (.invokevirtual 59, 3) := by decide +kernel
theorem dX5_bound_26 : decode cX5_bound 26 = .ok (.aload_n 0, 1) := by decide +kernel
theorem dX5_bound_27 : decode cX5_bound 27 = .ok (.getfield 10, 3) := by decide +kernel
theorem dX5_bound_30 : decode cX5_bound 30 = .ok (.getfield 101, 3) := by decide +kernel
theorem dX5_bound_33 : decode cX5_bound 33 = .ok (.iload_n 1, 1) := by decide +kernel
theorem dX5_bound_34 : decode cX5_bound 34 = .ok (.aaload, 1) := by decide +kernel
theorem dX5_bound_35 : decode cX5_bound 35 = .ok (.astore_n 3, 1) := by decide +kernel
theorem dX5_bound_36 : decode cX5_bound 36 = .ok (.aload_n 3, 1) := by decide +kernel
theorem dX5_bound_37 : decode cX5_bound 37 = .ok (.getfield 105, 3) := by decide +kernel
theorem dX5_bound_40 : decode cX5_bound 40 = .ok (.istore 4, 2) := by decide +kernel
theorem dX5_bound_42 : decode cX5_bound 42 = .ok (.aload_n 3, 1) := by decide +kernel
theorem dX5_bound_43 : decode cX5_bound 43 = .ok (.iload_n 2, 1) := by decide +kernel
theorem dX5_bound_44 : decode cX5_bound 44 = .ok (.putfield 105, 3) := by decide +kernel
theorem dX5_bound_47 : decode cX5_bound 47 = .ok (.iload 4, 2) := by decide +kernel
theorem dX5_bound_49 : decode cX5_bound 49 = .ok (.ireturn, 1) := by decide +kernel
theorem dX5_reset_0 : decode cX5_reset 0 = .ok (.iload_n 1, 1) := by decide +kernel
theorem dX5_reset_1 : decode cX5_reset 1 = .ok (.iconst 0, 1) := by decide +kernel
theorem dX5_reset_2 : decode cX5_reset 2 = .ok (.iconst 3, 1) := by decide +kernel
theorem dX5_reset_3 : decode cX5_reset 3 = .ok (.invokestatic 71, 3) := by decide +kernel
theorem dX5_reset_6 : decode cX5_reset 6 = .ok (.aload_n 0, 1) := by decide +kernel
theorem dX5_reset_7 : decode cX5_reset 7 = .ok (.getfield 10, 3) := by decide +kernel
theorem dX5_reset_10 : decode cX5_reset 10 = .ok (.getfield 101, 3) := by decide +kernel
theorem dX5_reset_13 : decode cX5_reset 13 = .ok (.iload_n 1, 1) := by decide +kernel
theorem dX5_reset_14 : decode cX5_reset 14 = .ok (.aaload, 1) := by decide +kernel
theorem dX5_reset_15 : decode cX5_reset 15 = .ok (.getfield 110, 3) := by decide +kernel
theorem dX5_reset_18 : decode cX5_reset 18 = .ok (.ifCond .eq 13, 3) := by decide +kernel
theorem dX5_reset_21 : decode cX5_reset 21 = .ok (.new 54, 3) := by decide +kernel
theorem dX5_reset_24 : decode cX5_reset 24 = .ok (.dup, 1) := by decide +kernel
theorem dX5_reset_25 : decode cX5_reset 25 = .ok (.ldc 113, 2) := by decide +kernel
theorem dX5_reset_27 : decode cX5_reset 27 = .ok (.invokespecial 58, 3) := by decide +kernel
theorem dX5_reset_30 : decode cX5_reset 30 = .ok (.athrow, 1) := by decide +kernel
theorem dX5_reset_31 : decode cX5_reset 31 = .ok (.aload_n 0, 1) := by decide +kernel
theorem dX5_reset_32 : decode cX5_reset 32 = .ok (.getfield 30, 3) := by decide +kernel
theorem dX5_reset_35 : decode cX5_reset 35 = .ok (.aload_n 0, 1) := by decide +kernel
theorem dX5_reset_36 : decode cX5_reset 36 = .ok (.getfield 10, 3) := by decide +kernel
theorem dX5_reset_39 : decode cX5_reset 39 = .ok (.invokevirtual 59, 3) := by decide +kernel
theorem dX5_reset_42 : decode cX5_reset 42 = .ok (.aload_n 0, 1) := by decide +kernel
theorem dX5_reset_43 : decode cX5_reset 43 = .ok (.getfield 10, 3) := by decide +kernel
theorem dX5_reset_46 : decode cX5_reset 46 = .ok (.getfield 101, 3) := by decide +kernel
theorem dX5_reset_49 : decode cX5_reset 49 = .ok (.iload_n 1, 1) := by decide +kernel
theorem dX5_reset_50 : decode cX5_reset 50 = .ok (.aaload, 1) := by decide +kernel
theorem dX5_reset_51 : decode cX5_reset 51 = .ok (.invokevirtual 115, 3) := by decide +kernel
theorem dX5_reset_54 : decode cX5_reset 54 = .ok (.aload_n 0, 1) := by decide +kernel
theorem dX5_reset_55 : decode cX5_reset 55 = .ok (.getfield 10, 3) := by decide +kernel
theorem dX5_reset_58 : decode cX5_reset 58 = .ok (.iload_n 1, 1) := by decide +kernel
theorem dX5_reset_59 : decode cX5_reset 59 = .ok (.invokevirtual 118, 3) := by decide +kernel
theorem dX5_reset_62 : decode cX5_reset 62 = .ok (.ireturn, 1) := by decide +kernel
theorem dX5_over_0 : decode cX5_over 0 = .ok (.iload_n 1, 1) := by decide +kernel
theorem dX5_over_1 : decode cX5_over 1 = .ok (.iconst 0, 1) := by decide +kernel
theorem dX5_over_2 : decode cX5_over 2 = .ok (.bipush 8, 2) := by decide +kernel
theorem dX5_over_4 : decode cX5_over 4 = .ok (.invokestatic 71, 3) := by decide +kernel
theorem dX5_over_7 : decode cX5_over 7 = .ok (.aload_n 0, 1) := by decide +kernel
theorem dX5_over_8 : decode cX5_over 8 = .ok (.getfield 30, 3) := by decide +kernel
theorem dX5_over_11 : decode cX5_over 11 = .ok (.aload_n 0, 1) := by decide +kernel
theorem dX5_over_12 : decode cX5_over 12 = .ok (.getfield 10, 3) := by decide +kernel
theorem dX5_over_15 : decode cX5_over 15 = .ok (.invokevirtual 59, 3) := by decide +kernel
theorem dX5_over_18 : decode cX5_over 18 = .ok (.aload_n 0, 1) := by decide +kernel
theorem dX5_over_19 : decode cX5_over 19 = .ok (.getfield 10, 3) := by decide +kernel
theorem dX5_over_22 : decode cX5_over 22 = .ok (.getfield 121, 3) := by decide +kernel
theorem dX5_over_25 : decode cX5_over 25 = .ok (.iload_n 1, 1) := by decide +kernel
theorem dX5_over_26 : decode cX5_over 26 = .ok (.aload_n 0, 1) := by decide +kernel
theorem dX5_over_27 : decode cX5_over 27 = .ok (.getfield 10, 3) := by decide +kernel
theorem dX5_over_30 : decode cX5_over 30 = .ok (.getfield 121, 3) := by decide +kernel
theorem dX5_over_33 : decode cX5_over 33 = .ok (.iload_n 1, 1) := by decide +kernel
theorem dX5_over_34 : decode cX5_over 34 = .ok (.baload, 1) := by decide +kernel
theorem dX5_over_35 : decode cX5_over 35 = .ok (.ifCond .ne 7, 3) := by decide +kernel
theorem dX5_over_38 : decode cX5_over 38 = .ok (.iconst 1, 1) := by decide +kernel
theorem dX5_over_39 : decode cX5_over 39 = .ok (.goto 4, 3) := by decide +kernel
theorem dX5_over_42 : decode cX5_over 42 = .ok (.iconst 0, 1) := by decide +kernel
theorem dX5_over_43 : decode cX5_over 43 = .ok (.bastore, 1) := by decide +kernel
theorem dX5_over_44 : decode cX5_over 44 = .ok (.aload_n 0, 1) := by decide +kernel
theorem dX5_over_45 : decode cX5_over 45 = .ok (.getfield 10, 3) := by decide +kernel
theorem dX5_over_48 : decode cX5_over 48 = .ok (.iload_n 1, 1) := by decide +kernel
theorem dX5_over_49 : decode cX5_over 49 = .ok (.invokevirtual 124, 3) := by decide +kernel
theorem dX5_over_52 : decode cX5_over 52 = .ok (.ireturn, 1) := by decide +kernel
theorem dX5_pass_0 : decode cX5_pass 0 = .ok (.iload_n 1, 1) := by decide +kernel
theorem dX5_pass_1 : decode cX5_pass 1 = .ok (.iconst 1, 1) := by decide +kernel
theorem dX5_pass_2 : decode cX5_pass 2 = .ok (.bipush 48, 2) := by decide +kernel
theorem dX5_pass_4 : decode cX5_pass 4 = .ok (.invokestatic 71, 3) := by decide +kernel
theorem dX5_pass_7 : decode cX5_pass 7 = .ok (.aload_n 0, 1) := by decide +kernel
theorem dX5_pass_8 : decode cX5_pass 8 = .ok (.getfield 10, 3) := by decide +kernel
theorem dX5_pass_11 : decode cX5_pass 11 = .ok (.iload_n 1, 1) := by decide +kernel
theorem dX5_pass_12 : decode cX5_pass 12 = .ok (.invokevirtual 127, 3) := by decide +kernel
theorem dX5_pass_15 : decode cX5_pass 15 = .ok (.ifCond .ne 13, 3) := by decide +kernel
theorem dX5_pass_18 : decode cX5_pass 18 = .ok (.new 54, 3) := by decide +kernel
theorem dX5_pass_21 : decode cX5_pass 21 = .ok (.dup, 1) := by decide +kernel
theorem dX5_pass_22 : decode cX5_pass 22 = .ok (.ldc 131, 2) := by decide +kernel
theorem dX5_pass_24 : decode cX5_pass 24 = .ok (.invokespecial 58, 3) := by decide +kernel
theorem dX5_pass_27 : decode cX5_pass 27 = .ok (.athrow, 1) := by decide +kernel
theorem dX5_pass_28 : decode cX5_pass 28 = .ok (.aload_n 0, 1) := by decide +kernel
theorem dX5_pass_29 : decode cX5_pass 29 = .ok (.getfield 30, 3) := by decide +kernel
theorem dX5_pass_32 : decode cX5_pass 32 = .ok (.aload_n 0, 1) := by decide +kernel
theorem dX5_pass_33 : decode cX5_pass 33 = .ok (.getfield 10, 3) := by decide +kernel
theorem dX5_pass_36 : decode cX5_pass 36 = .ok (.invokevirtual 59, 3) := by decide +kernel
theorem dX5_pass_39 : decode cX5_pass 39 = .ok (.aload_n 0, 1) := by decide +kernel
theorem dX5_pass_40 : decode cX5_pass 40 = .ok (.getfield 10, 3) := by decide +kernel
theorem dX5_pass_43 : decode cX5_pass 43 = .ok (.invokevirtual 133, 3) := by decide +kernel
theorem dX5_pass_46 : decode cX5_pass 46 = .ok (.istore_n 2, 1) := by decide +kernel
theorem dX5_pass_47 : decode cX5_pass 47 = .ok (.aload_n 0, 1) := by decide +kernel
theorem dX5_pass_48 : decode cX5_pass 48 = .ok (.getfield 10, 3) := by decide +kernel
theorem dX5_pass_51 : decode cX5_pass 51 = .ok (.iload_n 1, 1) := by decide +kernel
theorem dX5_pass_52 : decode cX5_pass 52 = .ok (.invokevirtual 137, 3) := by decide +kernel
theorem dX5_pass_55 : decode cX5_pass 55 = .ok (.aload_n 0, 1) := by decide +kernel
theorem dX5_pass_56 : decode cX5_pass 56 = .ok (.getfield 10, 3) := by decide +kernel
theorem dX5_pass_59 : decode cX5_pass 59 = .ok (.invokevirtual 133, 3) := by decide +kernel
theorem dX5_pass_62 : decode cX5_pass 62 = .ok (.iload_n 2, 1) := by decide +kernel
theorem dX5_pass_63 : decode cX5_pass 63 = .ok (.isub, 1) := by decide +kernel
theorem dX5_pass_64 : decode cX5_pass 64 = .ok (.ireturn, 1) := by decide +kernel
theorem dX5_set_0 : decode cX5_set 0 = .ok (.iload_n 1, 1) := by decide +kernel
theorem dX5_set_1 : decode cX5_set 1 = .ok (.invokestatic 140, 3) := by decide +kernel
theorem dX5_set_4 : decode cX5_set 4 = .ok (.iload_n 2, 1) := by decide +kernel
theorem dX5_set_5 : decode cX5_set 5 = .ok (.getstatic 143, 3) := by decide +kernel
theorem dX5_set_8 : decode cX5_set 8 = .ok (.iload_n 1, 1) := by decide +kernel
theorem dX5_set_9 : decode cX5_set 9 = .ok (.iaload, 1) := by decide +kernel
theorem dX5_set_10 : decode cX5_set 10 = .ok (.getstatic 147, 3) := by decide +kernel
theorem dX5_set_13 : decode cX5_set 13 = .ok (.iload_n 1, 1) := by decide +kernel
theorem dX5_set_14 : decode cX5_set 14 = .ok (.iaload, 1) := by decide +kernel
theorem dX5_set_15 : decode cX5_set 15 = .ok (.invokestatic 71, 3) := by decide +kernel
theorem dX5_set_18 : decode cX5_set 18 = .ok (.aload_n 0, 1) := by decide +kernel
theorem dX5_set_19 : decode cX5_set 19 = .ok (.getfield 30, 3) := by decide +kernel
theorem dX5_set_22 : decode cX5_set 22 = .ok (.aload_n 0, 1) := by decide +kernel
theorem dX5_set_23 : decode cX5_set 23 = .ok (.getfield 10, 3) := by decide +kernel
theorem dX5_set_26 : decode cX5_set 26 = .ok (.invokevirtual 59, 3) := by decide +kernel
theorem dX5_set_29 : decode cX5_set 29 = .ok (.aload_n 0, 1) := by decide +kernel
theorem dX5_set_30 : decode cX5_set 30 = .ok (.getfield 10, 3) := by decide +kernel
theorem dX5_set_33 : decode cX5_set 33 = .ok (.getfield 150, 3) := by decide +kernel
theorem dX5_set_36 : decode cX5_set 36 = .ok (.iload_n 1, 1) := by decide +kernel
theorem dX5_set_37 : decode cX5_set 37 = .ok (.iaload, 1) := by decide +kernel
theorem dX5_set_38 : decode cX5_set 38 = .ok (.istore_n 3, 1) := by decide +kernel
theorem dX5_set_39 : decode cX5_set 39 = .ok (.aload_n 0, 1) := by decide +kernel
theorem dX5_set_40 : decode cX5_set 40 = .ok (.getfield 10, 3) := by decide +kernel
theorem dX5_set_43 : decode cX5_set 43 = .ok (.getfield 150, 3) := by decide +kernel
theorem dX5_set_46 : decode cX5_set 46 = .ok (.iload_n 1, 1) := by decide +kernel
theorem dX5_set_47 : decode cX5_set 47 = .ok (.iload_n 2, 1) := by decide +kernel
theorem dX5_set_48 : decode cX5_set 48 = .ok (.iastore, 1) := by decide +kernel
theorem dX5_set_49 : decode cX5_set 49 = .ok (.iload_n 3, 1) := by decide +kernel
theorem dX5_set_50 : decode cX5_set 50 = .ok (.ireturn, 1) := by decide +kernel
theorem dX5_append_0 : decode cX5_append 0 = .ok (.iload_n 1, 1) := by decide +kernel
theorem dX5_append_1 : decode cX5_append 1 = .ok (.bipush 33, 2) := by decide +kernel
theorem dX5_append_3 : decode cX5_append 3 = .ok (.bipush 126, 2) := by decide +kernel
theorem dX5_append_5 : decode cX5_append 5 = .ok (.invokestatic 71, 3) := by decide +kernel
theorem dX5_append_8 : decode cX5_append 8 = .ok (.aload_n 0, 1) := by decide +kernel
theorem dX5_append_9 : decode cX5_append 9 = .ok (.getfield 37, 3) := by decide +kernel
theorem dX5_append_12 : decode cX5_append 12 = .ok (.getfield 153, 3) := by decide +kernel
theorem dX5_append_15 : decode cX5_append 15 = .ok (.bipush 60, 2) := by decide +kernel
theorem dX5_append_17 : decode cX5_append 17 = .ok (.if_icmp .lt 13, 3) := by decide +kernel
theorem dX5_append_20 : decode cX5_append 20 = .ok (.new 54, 3) := by decide +kernel
theorem dX5_append_23 : decode cX5_append 23 = .ok (.dup, 1) := by decide +kernel
theorem dX5_append_24 : decode cX5_append 24 = .ok (.ldc 156, 2) := by decide +kernel
theorem dX5_append_26 : decode cX5_append 26 = .ok (.invokespecial 58, 3) := by decide +kernel
theorem dX5_append_29 : decode cX5_append 29 = .ok (.athrow, 1) := by decide +kernel
theorem dX5_append_30 : decode cX5_append 30 = .ok (.aload_n 0, 1) := by decide +kernel
theorem dX5_append_31 : decode cX5_append 31 = .ok (.getfield 37, 3) := by decide +kernel
theorem dX5_append_34 : decode cX5_append 34 = .ok (.getfield 158, 3) := by decide +kernel
theorem dX5_append_37 : decode cX5_append 37 = .ok (.aload_n 0, 1) := by decide +kernel
theorem dX5_append_38 : decode cX5_append 38 = .ok (.getfield 37, 3) := by decide +kernel
theorem dX5_append_41 : decode cX5_append 41 = .ok (.getfield 153, 3) := by decide +kernel
theorem dX5_append_44 : decode cX5_append 44 = .ok (.iload_n 1, 1) := by decide +kernel
theorem dX5_append_45 : decode cX5_append 45 = .ok (.i2c, 1) := by decide +kernel
theorem dX5_append_46 : decode cX5_append 46 = .ok (.castore, 1) := by decide +kernel
theorem dX5_append_47 : decode cX5_append 47 = .ok (.aload_n 0, 1) := by decide +kernel
theorem dX5_append_48 : decode cX5_append 48 = .ok (.getfield 37, 3) := by decide +kernel
theorem dX5_append_51 : decode cX5_append 51 = .ok (.dup, 1) := by decide +kernel
theorem dX5_append_52 : decode cX5_append 52 = .ok (.getfield 153, 3) := by decide +kernel
theorem dX5_append_55 : decode cX5_append 55 = .ok (.iconst 1, 1) := by decide +kernel
theorem dX5_append_56 : decode cX5_append 56 = .ok (.iadd, 1) := by decide +kernel
theorem dX5_append_57 : decode cX5_append 57 = .ok (.putfield 153, 3) := by decide +kernel
theorem dX5_append_60 : decode cX5_append 60 = .ok (.aload_n 0, 1) := by decide +kernel
theorem dX5_append_61 : decode cX5_append 61 = .ok (.getfield 37, 3) := by decide +kernel
theorem dX5_append_64 : decode cX5_append 64 = .ok (.getfield 153, 3) := by decide +kernel
theorem dX5_append_67 : decode cX5_append 67 = .ok (.ireturn, 1) := by decide +kernel
theorem dX5_clearBuffer_0 : decode cX5_clearBuffer 0 = .ok (.aload_n 0, 1) := by decide +kernel
theorem dX5_clearBuffer_1 : decode cX5_clearBuffer 1 = .ok (.getfield 37, 3) := by decide +kernel
theorem dX5_clearBuffer_4 : decode cX5_clearBuffer 4 = .ok (.getfield 153, 3) := by decide +kernel
theorem dX5_clearBuffer_7 : decode cX5_clearBuffer 7 = .ok (.istore_n 1, 1) := by decide +kernel
theorem dX5_clearBuffer_8 : decode cX5_clearBuffer 8 = .ok (.aload_n 0, 1) := by decide +kernel
theorem dX5_clearBuffer_9 : decode cX5_clearBuffer 9 = .ok (.getfield 37, 3) := by decide +kernel
theorem dX5_clearBuffer_12 : decode cX5_clearBuffer 12 = .ok (.iconst 0, 1) := by decide +kernel
theorem dX5_clearBuffer_13 : decode cX5_clearBuffer 13 = .ok (.putfield 153, 3) := by decide +kernel
theorem dX5_clearBuffer_16 : decode cX5_clearBuffer 16 = .ok (.iload_n 1, 1) := by decide +kernel
theorem dX5_clearBuffer_17 : decode cX5_clearBuffer 17 = .ok (.ireturn, 1) := by decide +kernel
theorem dX5_firstError_0 : decode cX5_firstError 0 = .ok (.aload_n 0, 1) := by decide +kernel
theorem dX5_firstError_1 : decode cX5_firstError 1 = .ok (.getfield 37, 3) := by decide +kernel
theorem dX5_firstError_4 : decode cX5_firstError 4 = .ok (.invokevirtual 162, 3) := by decide +kernel
theorem dX5_firstError_7 : decode cX5_firstError 7 = .ok (.pop, 1) := by decide +kernel
theorem dX5_firstError_8 : decode cX5_firstError 8 = .ok (.aload_n 0, 1) := by decide +kernel
theorem dX5_firstError_9 : decode cX5_firstError 9 = .ok (.getfield 37, 3) := by decide +kernel
theorem dX5_firstError_12 : decode cX5_firstError 12 = .ok (.getfield 165, 3) := by decide +kernel
theorem dX5_firstError_15 : decode cX5_firstError 15 = .ok (.ireturn, 1) := by decide +kernel
theorem dX5_open_0 : decode cX5_open 0 = .ok (.aload_n 0, 1) := by decide +kernel
theorem dX5_open_1 : decode cX5_open 1 = .ok (.getfield 37, 3) := by decide +kernel
theorem dX5_open_4 : decode cX5_open 4 = .ok (.invokevirtual 162, 3) := by decide +kernel
theorem dX5_open_7 : decode cX5_open 7 = .ok (.ifCond .ne 13, 3) := by decide +kernel
theorem dX5_open_10 : decode cX5_open 10 = .ok (.new 41, 3) := by decide +kernel
theorem dX5_open_13 : decode cX5_open 13 = .ok (.dup, 1) := by decide +kernel
theorem dX5_open_14 : decode cX5_open 14 = .ok (.ldc 168, 2) := by decide +kernel
theorem dX5_open_16 : decode cX5_open 16 = .ok (.invokespecial 45, 3) := by decide +kernel
theorem dX5_open_19 : decode cX5_open 19 = .ok (.athrow, 1) := by decide +kernel
theorem dX5_open_20 : decode cX5_open 20 = .ok (.aload_n 0, 1) := by decide +kernel
theorem dX5_open_21 : decode cX5_open 21 = .ok (.getfield 30, 3) := by decide +kernel
theorem dX5_open_24 : decode cX5_open 24 = .ok (.aload_n 0, 1) := by decide +kernel
theorem dX5_open_25 : decode cX5_open 25 = .ok (.getfield 10, 3) := by decide +kernel
theorem dX5_open_28 : decode cX5_open 28 = .ok (.invokevirtual 59, 3) := by decide +kernel
theorem dX5_open_31 : decode cX5_open 31 = .ok (.aload_n 0, 1) := by decide +kernel
theorem dX5_open_32 : decode cX5_open 32 = .ok (.invokevirtual 170, 3) := by decide +kernel
theorem dX5_open_35 : decode cX5_open 35 = .ok (.istore_n 1, 1) := by decide +kernel
theorem dX5_open_36 : decode cX5_open 36 = .ok (.aload_n 0, 1) := by decide +kernel
theorem dX5_open_37 : decode cX5_open 37 = .ok (.getfield 37, 3) := by decide +kernel
theorem dX5_open_40 : decode cX5_open 40 = .ok (.iconst 0, 1) := by decide +kernel
theorem dX5_open_41 : decode cX5_open 41 = .ok (.putfield 153, 3) := by decide +kernel
theorem dX5_open_44 : decode cX5_open 44 = .ok (.iload_n 1, 1) := by decide +kernel
theorem dX5_open_45 : decode cX5_open 45 = .ok (.ireturn, 1) := by decide +kernel
theorem dX5_keep_0 : decode cX5_keep 0 = .ok (.iload_n 1, 1) := by decide +kernel
theorem dX5_keep_1 : decode cX5_keep 1 = .ok (.iconst 0, 1) := by decide +kernel
theorem dX5_keep_2 : decode cX5_keep 2 = .ok (.iconst 1, 1) := by decide +kernel
theorem dX5_keep_3 : decode cX5_keep 3 = .ok (.invokestatic 71, 3) := by decide +kernel
theorem dX5_keep_6 : decode cX5_keep 6 = .ok (.aload_n 0, 1) := by decide +kernel
theorem dX5_keep_7 : decode cX5_keep 7 = .ok (.getfield 19, 3) := by decide +kernel
theorem dX5_keep_10 : decode cX5_keep 10 = .ok (.iload_n 1, 1) := by decide +kernel
theorem dX5_keep_11 : decode cX5_keep 11 = .ok (.aaload, 1) := by decide +kernel
theorem dX5_keep_12 : decode cX5_keep 12 = .ok (.aload_n 0, 1) := by decide +kernel
theorem dX5_keep_13 : decode cX5_keep 13 = .ok (.getfield 10, 3) := by decide +kernel
theorem dX5_keep_16 : decode cX5_keep 16 = .ok (.invokevirtual 173, 3) := by decide +kernel
theorem dX5_keep_19 : decode cX5_keep 19 = .ok (.aload_n 0, 1) := by decide +kernel
theorem dX5_keep_20 : decode cX5_keep 20 = .ok (.getfield 23, 3) := by decide +kernel
theorem dX5_keep_23 : decode cX5_keep 23 = .ok (.iload_n 1, 1) := by decide +kernel
theorem dX5_keep_24 : decode cX5_keep 24 = .ok (.iconst 1, 1) := by decide +kernel
theorem dX5_keep_25 : decode cX5_keep 25 = .ok (.bastore, 1) := by decide +kernel
theorem dX5_keep_26 : decode cX5_keep 26 = .ok (.aload_n 0, 1) := by decide +kernel
theorem dX5_keep_27 : decode cX5_keep 27 = .ok (.getfield 10, 3) := by decide +kernel
theorem dX5_keep_30 : decode cX5_keep 30 = .ok (.getfield 176, 3) := by decide +kernel
theorem dX5_keep_33 : decode cX5_keep 33 = .ok (.ireturn, 1) := by decide +kernel
theorem dX5_goBack_0 : decode cX5_goBack 0 = .ok (.iload_n 1, 1) := by decide +kernel
theorem dX5_goBack_1 : decode cX5_goBack 1 = .ok (.iconst 0, 1) := by decide +kernel
theorem dX5_goBack_2 : decode cX5_goBack 2 = .ok (.iconst 1, 1) := by decide +kernel
theorem dX5_goBack_3 : decode cX5_goBack 3 = .ok (.invokestatic 71, 3) := by decide +kernel
theorem dX5_goBack_6 : decode cX5_goBack 6 = .ok (.aload_n 0, 1) := by decide +kernel
theorem dX5_goBack_7 : decode cX5_goBack 7 = .ok (.getfield 23, 3) := by decide +kernel
theorem dX5_goBack_10 : decode cX5_goBack 10 = .ok (.iload_n 1, 1) := by decide +kernel
theorem dX5_goBack_11 : decode cX5_goBack 11 = .ok (.baload, 1) := by decide +kernel
theorem dX5_goBack_12 : decode cX5_goBack 12 = .ok (.ifCond .ne 13, 3) := by decide +kernel
theorem dX5_goBack_15 : decode cX5_goBack 15 = .ok (.new 54, 3) := by decide +kernel
theorem dX5_goBack_18 : decode cX5_goBack 18 = .ok (.dup, 1) := by decide +kernel
theorem dX5_goBack_19 : decode cX5_goBack 19 = .ok (.ldc 179, 2) := by decide +kernel
theorem dX5_goBack_21 : decode cX5_goBack 21 = .ok (.invokespecial 58, 3) := by decide +kernel
theorem dX5_goBack_24 : decode cX5_goBack 24 = .ok (.athrow, 1) := by decide +kernel
theorem dX5_goBack_25 : decode cX5_goBack 25 = .ok (.aload_n 0, 1) := by decide +kernel
theorem dX5_goBack_26 : decode cX5_goBack 26 = .ok (.getfield 30, 3) := by decide +kernel
theorem dX5_goBack_29 : decode cX5_goBack 29 = .ok (.aload_n 0, 1) := by decide +kernel
theorem dX5_goBack_30 : decode cX5_goBack 30 = .ok (.getfield 10, 3) := by decide +kernel
theorem dX5_goBack_33 : decode cX5_goBack 33 = .ok (.invokevirtual 59, 3) := by decide +kernel
theorem dX5_goBack_36 : decode cX5_goBack 36 = .ok (.aload_n 0, 1) := by decide +kernel
theorem dX5_goBack_37 : decode cX5_goBack 37 = .ok (.getfield 10, 3) := by decide +kernel
theorem dX5_goBack_40 : decode cX5_goBack 40 = .ok (.aload_n 0, 1) := by decide +kernel
theorem dX5_goBack_41 : decode cX5_goBack 41 = .ok (.getfield 19, 3) := by decide +kernel
theorem dX5_goBack_44 : decode cX5_goBack 44 = .ok (.iload_n 1, 1) := by decide +kernel
theorem dX5_goBack_45 : decode cX5_goBack 45 = .ok (.aaload, 1) := by decide +kernel
theorem dX5_goBack_46 : decode cX5_goBack 46 = .ok (.invokevirtual 173, 3) := by decide +kernel
theorem dX5_goBack_49 : decode cX5_goBack 49 = .ok (.aload_n 0, 1) := by decide +kernel
theorem dX5_goBack_50 : decode cX5_goBack 50 = .ok (.getfield 10, 3) := by decide +kernel
theorem dX5_goBack_53 : decode cX5_goBack 53 = .ok (.getfield 176, 3) := by decide +kernel
theorem dX5_goBack_56 : decode cX5_goBack 56 = .ok (.ireturn, 1) := by decide +kernel
theorem dX5_undo_0 : decode cX5_undo 0 = .ok (.aload_n 0, 1) := by decide +kernel
theorem dX5_undo_1 : decode cX5_undo 1 = .ok (.getfield 30, 3) := by decide +kernel
theorem dX5_undo_4 : decode cX5_undo 4 = .ok (.getfield 181, 3) := by decide +kernel
theorem dX5_undo_7 : decode cX5_undo 7 = .ok (.ifCond .ne 13, 3) := by decide +kernel
theorem dX5_undo_10 : decode cX5_undo 10 = .ok (.new 54, 3) := by decide +kernel
theorem dX5_undo_13 : decode cX5_undo 13 = .ok (.dup, 1) := by decide +kernel
theorem dX5_undo_14 : decode cX5_undo 14 = .ok (.ldc 184, 2) := by decide +kernel
theorem dX5_undo_16 : decode cX5_undo 16 = .ok (.invokespecial 58, 3) := by decide +kernel
theorem dX5_undo_19 : decode cX5_undo 19 = .ok (.athrow, 1) := by decide +kernel
theorem dX5_undo_20 : decode cX5_undo 20 = .ok (.aload_n 0, 1) := by decide +kernel
theorem dX5_undo_21 : decode cX5_undo 21 = .ok (.getfield 30, 3) := by decide +kernel
theorem dX5_undo_24 : decode cX5_undo 24 = .ok (.aload_n 0, 1) := by decide +kernel
theorem dX5_undo_25 : decode cX5_undo 25 = .ok (.getfield 10, 3) := by decide +kernel
theorem dX5_undo_28 : decode cX5_undo 28 = .ok (.invokevirtual 186, 3) := by decide +kernel
theorem dX5_undo_31 : decode cX5_undo 31 = .ok (.aload_n 0, 1) := by decide +kernel
theorem dX5_undo_32 : decode cX5_undo 32 = .ok (.getfield 30, 3) := by decide +kernel
theorem dX5_undo_35 : decode cX5_undo 35 = .ok (.getfield 181, 3) := by decide +kernel
theorem dX5_undo_38 : decode cX5_undo 38 = .ok (.ireturn, 1) := by decide +kernel
theorem dX5_stallOf_0 : decode cX5_stallOf 0 = .ok (.aload_n 0, 1) := by decide +kernel
theorem dX5_stallOf_1 : decode cX5_stallOf 1 = .ok (.iload_n 1, 1) := by decide +kernel
theorem dX5_stallOf_2 : decode cX5_stallOf 2 = .ok (.invokevirtual 67, 3) := by decide +kernel
theorem dX5_stallOf_5 : decode cX5_stallOf 5 = .ok (.iload_n 2, 1) := by decide +kernel
theorem dX5_stallOf_6 : decode cX5_stallOf 6 = .ok (.iconst 0, 1) := by decide +kernel
theorem dX5_stallOf_7 : decode cX5_stallOf 7 = .ok (.bipush 9, 2) := by decide +kernel
theorem dX5_stallOf_9 : decode cX5_stallOf 9 = .ok (.invokestatic 71, 3) := by decide +kernel
theorem dX5_stallOf_12 : decode cX5_stallOf 12 = .ok (.aload_n 0, 1) := by decide +kernel
theorem dX5_stallOf_13 : decode cX5_stallOf 13 = .ok (.getfield 10, 3) := by decide +kernel
theorem dX5_stallOf_16 : decode cX5_stallOf 16 = .ok (.getfield 85, 3) := by decide +kernel
theorem dX5_stallOf_19 : decode cX5_stallOf 19 = .ok (.iload_n 1, 1) := by decide +kernel
theorem dX5_stallOf_20 : decode cX5_stallOf 20 = .ok (.aaload, 1) := by decide +kernel
theorem dX5_stallOf_21 : decode cX5_stallOf 21 = .ok (.astore_n 3, 1) := by decide +kernel
theorem dX5_stallOf_22 : decode cX5_stallOf 22 = .ok (.iload_n 2, 1) := by decide +kernel
theorem dX5_stallOf_23 : decode cX5_stallOf 23 = .ok (.tableswitch 106 0 8 #[49, 54, 59, 64, 69, 74, 87, 92, 97], 49) := by decide +kernel
theorem dX5_stallOf_72 : decode cX5_stallOf 72 = .ok (.aload_n 3, 1) := by decide +kernel
theorem dX5_stallOf_73 : decode cX5_stallOf 73 = .ok (.getfield 189, 3) := by decide +kernel
theorem dX5_stallOf_76 : decode cX5_stallOf 76 = .ok (.ireturn, 1) := by decide +kernel
theorem dX5_stallOf_77 : decode cX5_stallOf 77 = .ok (.aload_n 3, 1) := by decide +kernel
theorem dX5_stallOf_78 : decode cX5_stallOf 78 = .ok (.getfield 192, 3) := by decide +kernel
theorem dX5_stallOf_81 : decode cX5_stallOf 81 = .ok (.ireturn, 1) := by decide +kernel
theorem dX5_stallOf_82 : decode cX5_stallOf 82 = .ok (.aload_n 3, 1) := by decide +kernel
theorem dX5_stallOf_83 : decode cX5_stallOf 83 = .ok (.getfield 195, 3) := by decide +kernel
theorem dX5_stallOf_86 : decode cX5_stallOf 86 = .ok (.ireturn, 1) := by decide +kernel
theorem dX5_stallOf_87 : decode cX5_stallOf 87 = .ok (.aload_n 3, 1) := by decide +kernel
theorem dX5_stallOf_88 : decode cX5_stallOf 88 = .ok (.getfield 198, 3) := by decide +kernel
theorem dX5_stallOf_91 : decode cX5_stallOf 91 = .ok (.ireturn, 1) := by decide +kernel
theorem dX5_stallOf_92 : decode cX5_stallOf 92 = .ok (.aload_n 3, 1) := by decide +kernel
theorem dX5_stallOf_93 : decode cX5_stallOf 93 = .ok (.getfield 89, 3) := by decide +kernel
theorem dX5_stallOf_96 : decode cX5_stallOf 96 = .ok (.ireturn, 1) := by decide +kernel
theorem dX5_stallOf_97 : decode cX5_stallOf 97 = .ok (.aload_n 3, 1) := by decide +kernel
theorem dX5_stallOf_98 : decode cX5_stallOf 98 = .ok (.getfield 97, 3) := by decide +kernel
theorem dX5_stallOf_101 : decode cX5_stallOf 101 = .ok (.ifCond .eq 7, 3) := by decide +kernel
theorem dX5_stallOf_104 : decode cX5_stallOf 104 = .ok (.iconst 1, 1) := by decide +kernel
theorem dX5_stallOf_105 : decode cX5_stallOf 105 = .ok (.goto 4, 3) := by decide +kernel
theorem dX5_stallOf_108 : decode cX5_stallOf 108 = .ok (.iconst 0, 1) := by decide +kernel
theorem dX5_stallOf_109 : decode cX5_stallOf 109 = .ok (.ireturn, 1) := by decide +kernel
theorem dX5_stallOf_110 : decode cX5_stallOf 110 = .ok (.aload_n 3, 1) := by decide +kernel
theorem dX5_stallOf_111 : decode cX5_stallOf 111 = .ok (.getfield 201, 3) := by decide +kernel
theorem dX5_stallOf_114 : decode cX5_stallOf 114 = .ok (.ireturn, 1) := by decide +kernel
theorem dX5_stallOf_115 : decode cX5_stallOf 115 = .ok (.aload_n 3, 1) := by decide +kernel
theorem dX5_stallOf_116 : decode cX5_stallOf 116 = .ok (.getfield 204, 3) := by decide +kernel
theorem dX5_stallOf_119 : decode cX5_stallOf 119 = .ok (.ireturn, 1) := by decide +kernel
theorem dX5_stallOf_120 : decode cX5_stallOf 120 = .ok (.aload_n 0, 1) := by decide +kernel
theorem dX5_stallOf_121 : decode cX5_stallOf 121 = .ok (.getfield 10, 3) := by decide +kernel
theorem dX5_stallOf_124 : decode cX5_stallOf 124 = .ok (.aload_n 3, 1) := by decide +kernel
theorem dX5_stallOf_125 : decode cX5_stallOf 125 = .ok (.invokevirtual 207, 3) := by decide +kernel
theorem dX5_stallOf_128 : decode cX5_stallOf 128 = .ok (.ireturn, 1) := by decide +kernel
theorem dX5_stallOf_129 : decode cX5_stallOf 129 = .ok (.aload_n 0, 1) := by decide +kernel
theorem dX5_stallOf_130 : decode cX5_stallOf 130 = .ok (.getfield 10, 3) := by decide +kernel
theorem dX5_stallOf_133 : decode cX5_stallOf 133 = .ok (.aload_n 3, 1) := by decide +kernel
theorem dX5_stallOf_134 : decode cX5_stallOf 134 = .ok (.invokevirtual 211, 3) := by decide +kernel
theorem dX5_stallOf_137 : decode cX5_stallOf 137 = .ok (.ireturn, 1) := by decide +kernel
theorem dX5_breaker_0 : decode cX5_breaker 0 = .ok (.iload_n 1, 1) := by decide +kernel
theorem dX5_breaker_1 : decode cX5_breaker 1 = .ok (.iconst 0, 1) := by decide +kernel
theorem dX5_breaker_2 : decode cX5_breaker 2 = .ok (.iconst 3, 1) := by decide +kernel
theorem dX5_breaker_3 : decode cX5_breaker 3 = .ok (.invokestatic 71, 3) := by decide +kernel
theorem dX5_breaker_6 : decode cX5_breaker 6 = .ok (.iload_n 2, 1) := by decide +kernel
theorem dX5_breaker_7 : decode cX5_breaker 7 = .ok (.iconst 0, 1) := by decide +kernel
theorem dX5_breaker_8 : decode cX5_breaker 8 = .ok (.bipush 6, 2) := by decide +kernel
theorem dX5_breaker_10 : decode cX5_breaker 10 = .ok (.invokestatic 71, 3) := by decide +kernel
theorem dX5_breaker_13 : decode cX5_breaker 13 = .ok (.aload_n 0, 1) := by decide +kernel
theorem dX5_breaker_14 : decode cX5_breaker 14 = .ok (.getfield 10, 3) := by decide +kernel
theorem dX5_breaker_17 : decode cX5_breaker 17 = .ok (.getfield 101, 3) := by decide +kernel
theorem dX5_breaker_20 : decode cX5_breaker 20 = .ok (.iload_n 1, 1) := by decide +kernel
theorem dX5_breaker_21 : decode cX5_breaker 21 = .ok (.aaload, 1) := by decide +kernel
theorem dX5_breaker_22 : decode cX5_breaker 22 = .ok (.astore_n 3, 1) := by decide +kernel
theorem dX5_breaker_23 : decode cX5_breaker 23 = .ok (.iload_n 2, 1) := by decide +kernel
theorem dX5_breaker_24 : decode cX5_breaker 24 = .ok (.tableswitch 86 0 5 #[40, 45, 58, 63, 72, 81], 40) := by decide +kernel
theorem dX5_breaker_64 : decode cX5_breaker 64 = .ok (.aload_n 3, 1) := by decide +kernel
theorem dX5_breaker_65 : decode cX5_breaker 65 = .ok (.getfield 105, 3) := by decide +kernel
theorem dX5_breaker_68 : decode cX5_breaker 68 = .ok (.ireturn, 1) := by decide +kernel
theorem dX5_breaker_69 : decode cX5_breaker 69 = .ok (.aload_n 3, 1) := by decide +kernel
theorem dX5_breaker_70 : decode cX5_breaker 70 = .ok (.getfield 110, 3) := by decide +kernel
theorem dX5_breaker_73 : decode cX5_breaker 73 = .ok (.ifCond .eq 7, 3) := by decide +kernel
theorem dX5_breaker_76 : decode cX5_breaker 76 = .ok (.iconst 1, 1) := by decide +kernel
theorem dX5_breaker_77 : decode cX5_breaker 77 = .ok (.goto 4, 3) := by decide +kernel
theorem dX5_breaker_80 : decode cX5_breaker 80 = .ok (.iconst 0, 1) := by decide +kernel
theorem dX5_breaker_81 : decode cX5_breaker 81 = .ok (.ireturn, 1) := by decide +kernel
theorem dX5_breaker_82 : decode cX5_breaker 82 = .ok (.aload_n 3, 1) := by decide +kernel
theorem dX5_breaker_83 : decode cX5_breaker 83 = .ok (.getfield 214, 3) := by decide +kernel
theorem dX5_breaker_86 : decode cX5_breaker 86 = .ok (.ireturn, 1) := by decide +kernel
theorem dX5_breaker_87 : decode cX5_breaker 87 = .ok (.aload_n 0, 1) := by decide +kernel
theorem dX5_breaker_88 : decode cX5_breaker 88 = .ok (.getfield 10, 3) := by decide +kernel
theorem dX5_breaker_91 : decode cX5_breaker 91 = .ok (.iload_n 1, 1) := by decide +kernel
theorem dX5_breaker_92 : decode cX5_breaker 92 = .ok (.invokevirtual 217, 3) := by decide +kernel
theorem dX5_breaker_95 : decode cX5_breaker 95 = .ok (.ireturn, 1) := by decide +kernel
theorem dX5_breaker_96 : decode cX5_breaker 96 = .ok (.aload_n 0, 1) := by decide +kernel
theorem dX5_breaker_97 : decode cX5_breaker 97 = .ok (.getfield 10, 3) := by decide +kernel
theorem dX5_breaker_100 : decode cX5_breaker 100 = .ok (.iload_n 1, 1) := by decide +kernel
theorem dX5_breaker_101 : decode cX5_breaker 101 = .ok (.invokevirtual 220, 3) := by decide +kernel
theorem dX5_breaker_104 : decode cX5_breaker 104 = .ok (.ireturn, 1) := by decide +kernel
theorem dX5_breaker_105 : decode cX5_breaker 105 = .ok (.aload_n 3, 1) := by decide +kernel
theorem dX5_breaker_106 : decode cX5_breaker 106 = .ok (.getfield 223, 3) := by decide +kernel
theorem dX5_breaker_109 : decode cX5_breaker 109 = .ok (.ireturn, 1) := by decide +kernel
theorem dX5_breaker_110 : decode cX5_breaker 110 = .ok (.aload_n 3, 1) := by decide +kernel
theorem dX5_breaker_111 : decode cX5_breaker 111 = .ok (.getfield 225, 3) := by decide +kernel
theorem dX5_breaker_114 : decode cX5_breaker 114 = .ok (.ireturn, 1) := by decide +kernel
theorem dX5_socket_0 : decode cX5_socket 0 = .ok (.iload_n 1, 1) := by decide +kernel
theorem dX5_socket_1 : decode cX5_socket 1 = .ok (.iconst 0, 1) := by decide +kernel
theorem dX5_socket_2 : decode cX5_socket 2 = .ok (.bipush 11, 2) := by decide +kernel
theorem dX5_socket_4 : decode cX5_socket 4 = .ok (.invokestatic 71, 3) := by decide +kernel
theorem dX5_socket_7 : decode cX5_socket 7 = .ok (.iload_n 2, 1) := by decide +kernel
theorem dX5_socket_8 : decode cX5_socket 8 = .ok (.iconst 0, 1) := by decide +kernel
theorem dX5_socket_9 : decode cX5_socket 9 = .ok (.iconst 1, 1) := by decide +kernel
theorem dX5_socket_10 : decode cX5_socket 10 = .ok (.invokestatic 71, 3) := by decide +kernel
theorem dX5_socket_13 : decode cX5_socket 13 = .ok (.iload_n 2, 1) := by decide +kernel
theorem dX5_socket_14 : decode cX5_socket 14 = .ok (.ifCond .ne 14, 3) := by decide +kernel
theorem dX5_socket_17 : decode cX5_socket 17 = .ok (.aload_n 0, 1) := by decide +kernel
theorem dX5_socket_18 : decode cX5_socket 18 = .ok (.getfield 10, 3) := by decide +kernel
theorem dX5_socket_21 : decode cX5_socket 21 = .ok (.iload_n 1, 1) := by decide +kernel
theorem dX5_socket_22 : decode cX5_socket 22 = .ok (.invokevirtual 124, 3) := by decide +kernel
theorem dX5_socket_25 : decode cX5_socket 25 = .ok (.goto 11, 3) := by decide +kernel
theorem dX5_socket_28 : decode cX5_socket 28 = .ok (.aload_n 0, 1) := by decide +kernel
theorem dX5_socket_29 : decode cX5_socket 29 = .ok (.getfield 10, 3) := by decide +kernel
theorem dX5_socket_32 : decode cX5_socket 32 = .ok (.iload_n 1, 1) := by decide +kernel
theorem dX5_socket_33 : decode cX5_socket 33 = .ok (.invokevirtual 75, 3) := by decide +kernel
theorem dX5_socket_36 : decode cX5_socket 36 = .ok (.ireturn, 1) := by decide +kernel
theorem dX5_count_0 : decode cX5_count 0 = .ok (.iload_n 1, 1) := by decide +kernel
theorem dX5_count_1 : decode cX5_count 1 = .ok (.iconst 0, 1) := by decide +kernel
theorem dX5_count_2 : decode cX5_count 2 = .ok (.bipush 11, 2) := by decide +kernel
theorem dX5_count_4 : decode cX5_count 4 = .ok (.invokestatic 71, 3) := by decide +kernel
theorem dX5_count_7 : decode cX5_count 7 = .ok (.iload_n 1, 1) := by decide +kernel
theorem dX5_count_8 : decode cX5_count 8 = .ok (.tableswitch 148 0 10 #[60, 68, 76, 84, 92, 100, 108, 116, 124, 132, 140], 60) := by decide +kernel
theorem dX5_count_68 : decode cX5_count 68 = .ok (.aload_n 0, 1) := by decide +kernel
theorem dX5_count_69 : decode cX5_count 69 = .ok (.getfield 10, 3) := by decide +kernel
theorem dX5_count_72 : decode cX5_count 72 = .ok (.getfield 176, 3) := by decide +kernel
theorem dX5_count_75 : decode cX5_count 75 = .ok (.ireturn, 1) := by decide +kernel
theorem dX5_count_76 : decode cX5_count 76 = .ok (.aload_n 0, 1) := by decide +kernel
theorem dX5_count_77 : decode cX5_count 77 = .ok (.getfield 10, 3) := by decide +kernel
theorem dX5_count_80 : decode cX5_count 80 = .ok (.getfield 228, 3) := by decide +kernel
theorem dX5_count_83 : decode cX5_count 83 = .ok (.ireturn, 1) := by decide +kernel
theorem dX5_count_84 : decode cX5_count 84 = .ok (.aload_n 0, 1) := by decide +kernel
theorem dX5_count_85 : decode cX5_count 85 = .ok (.getfield 10, 3) := by decide +kernel
theorem dX5_count_88 : decode cX5_count 88 = .ok (.invokevirtual 231, 3) := by decide +kernel
theorem dX5_count_91 : decode cX5_count 91 = .ok (.ireturn, 1) := by decide +kernel
theorem dX5_count_92 : decode cX5_count 92 = .ok (.aload_n 0, 1) := by decide +kernel
theorem dX5_count_93 : decode cX5_count 93 = .ok (.getfield 10, 3) := by decide +kernel
theorem dX5_count_96 : decode cX5_count 96 = .ok (.invokevirtual 234, 3) := by decide +kernel
theorem dX5_count_99 : decode cX5_count 99 = .ok (.ireturn, 1) := by decide +kernel
theorem dX5_count_100 : decode cX5_count 100 = .ok (.aload_n 0, 1) := by decide +kernel
theorem dX5_count_101 : decode cX5_count 101 = .ok (.getfield 10, 3) := by decide +kernel
theorem dX5_count_104 : decode cX5_count 104 = .ok (.invokevirtual 237, 3) := by decide +kernel
theorem dX5_count_107 : decode cX5_count 107 = .ok (.ireturn, 1) := by decide +kernel
theorem dX5_count_108 : decode cX5_count 108 = .ok (.aload_n 0, 1) := by decide +kernel
theorem dX5_count_109 : decode cX5_count 109 = .ok (.getfield 10, 3) := by decide +kernel
theorem dX5_count_112 : decode cX5_count 112 = .ok (.invokevirtual 240, 3) := by decide +kernel
theorem dX5_count_115 : decode cX5_count 115 = .ok (.ireturn, 1) := by decide +kernel
theorem dX5_count_116 : decode cX5_count 116 = .ok (.aload_n 0, 1) := by decide +kernel
theorem dX5_count_117 : decode cX5_count 117 = .ok (.getfield 10, 3) := by decide +kernel
theorem dX5_count_120 : decode cX5_count 120 = .ok (.invokevirtual 243, 3) := by decide +kernel
theorem dX5_count_123 : decode cX5_count 123 = .ok (.ireturn, 1) := by decide +kernel
theorem dX5_count_124 : decode cX5_count 124 = .ok (.aload_n 0, 1) := by decide +kernel
theorem dX5_count_125 : decode cX5_count 125 = .ok (.getfield 10, 3) := by decide +kernel
theorem dX5_count_128 : decode cX5_count 128 = .ok (.invokevirtual 133, 3) := by decide +kernel
theorem dX5_count_131 : decode cX5_count 131 = .ok (.ireturn, 1) := by decide +kernel
theorem dX5_count_132 : decode cX5_count 132 = .ok (.aload_n 0, 1) := by decide +kernel
theorem dX5_count_133 : decode cX5_count 133 = .ok (.getfield 10, 3) := by decide +kernel
theorem dX5_count_136 : decode cX5_count 136 = .ok (.invokevirtual 245, 3) := by decide +kernel
theorem dX5_count_139 : decode cX5_count 139 = .ok (.ireturn, 1) := by decide +kernel
theorem dX5_count_140 : decode cX5_count 140 = .ok (.aload_n 0, 1) := by decide +kernel
theorem dX5_count_141 : decode cX5_count 141 = .ok (.getfield 10, 3) := by decide +kernel
theorem dX5_count_144 : decode cX5_count 144 = .ok (.invokevirtual 247, 3) := by decide +kernel
theorem dX5_count_147 : decode cX5_count 147 = .ok (.ireturn, 1) := by decide +kernel
theorem dX5_count_148 : decode cX5_count 148 = .ok (.aload_n 0, 1) := by decide +kernel
theorem dX5_count_149 : decode cX5_count 149 = .ok (.getfield 10, 3) := by decide +kernel
theorem dX5_count_152 : decode cX5_count 152 = .ok (.getfield 250, 3) := by decide +kernel
theorem dX5_count_155 : decode cX5_count 155 = .ok (.ireturn, 1) := by decide +kernel
theorem dX5_count_156 : decode cX5_count 156 = .ok (.aload_n 0, 1) := by decide +kernel
theorem dX5_count_157 : decode cX5_count 157 = .ok (.getfield 30, 3) := by decide +kernel
theorem dX5_count_160 : decode cX5_count 160 = .ok (.getfield 181, 3) := by decide +kernel
theorem dX5_count_163 : decode cX5_count 163 = .ok (.ireturn, 1) := by decide +kernel
theorem dX5_setting_0 : decode cX5_setting 0 = .ok (.iload_n 1, 1) := by decide +kernel
theorem dX5_setting_1 : decode cX5_setting 1 = .ok (.invokestatic 140, 3) := by decide +kernel
theorem dX5_setting_4 : decode cX5_setting 4 = .ok (.aload_n 0, 1) := by decide +kernel
theorem dX5_setting_5 : decode cX5_setting 5 = .ok (.getfield 10, 3) := by decide +kernel
theorem dX5_setting_8 : decode cX5_setting 8 = .ok (.getfield 150, 3) := by decide +kernel
theorem dX5_setting_11 : decode cX5_setting 11 = .ok (.iload_n 1, 1) := by decide +kernel
theorem dX5_setting_12 : decode cX5_setting 12 = .ok (.iaload, 1) := by decide +kernel
theorem dX5_setting_13 : decode cX5_setting 13 = .ok (.ireturn, 1) := by decide +kernel
theorem dX5_ifPlugged_0 : decode cX5_ifPlugged 0 = .ok (.aload_n 0, 1) := by decide +kernel
theorem dX5_ifPlugged_1 : decode cX5_ifPlugged 1 = .ok (.iload_n 1, 1) := by decide +kernel
theorem dX5_ifPlugged_2 : decode cX5_ifPlugged 2 = .ok (.invokevirtual 67, 3) := by decide +kernel
theorem dX5_ifPlugged_5 : decode cX5_ifPlugged 5 = .ok (.iload_n 2, 1) := by decide +kernel
theorem dX5_ifPlugged_6 : decode cX5_ifPlugged 6 = .ok (.iconst 0, 1) := by decide +kernel
theorem dX5_ifPlugged_7 : decode cX5_ifPlugged 7 = .ok (.bipush 11, 2) := by decide +kernel
theorem dX5_ifPlugged_9 : decode cX5_ifPlugged 9 = .ok (.invokestatic 71, 3) := by decide +kernel
theorem dX5_ifPlugged_12 : decode cX5_ifPlugged 12 = .ok (.iload_n 3, 1) := by decide +kernel
theorem dX5_ifPlugged_13 : decode cX5_ifPlugged 13 = .ok (.iconst 1, 1) := by decide +kernel
theorem dX5_ifPlugged_14 : decode cX5_ifPlugged 14 = .ok (.bipush 48, 2) := by decide +kernel
theorem dX5_ifPlugged_16 : decode cX5_ifPlugged 16 = .ok (.invokestatic 71, 3) := by decide +kernel
theorem dX5_ifPlugged_19 : decode cX5_ifPlugged 19 = .ok (.iload 4, 2) := by decide +kernel
theorem dX5_ifPlugged_21 : decode cX5_ifPlugged 21 = .ok (.iconst 0, 1) := by decide +kernel
theorem dX5_ifPlugged_22 : decode cX5_ifPlugged 22 = .ok (.iconst 2, 1) := by decide +kernel
theorem dX5_ifPlugged_23 : decode cX5_ifPlugged 23 = .ok (.invokestatic 71, 3) := by decide +kernel
theorem dX5_ifPlugged_26 : decode cX5_ifPlugged 26 = .ok (.aload_n 0, 1) := by decide +kernel
theorem dX5_ifPlugged_27 : decode cX5_ifPlugged 27 = .ok (.iload_n 1, 1) := by decide +kernel
theorem dX5_ifPlugged_28 : decode cX5_ifPlugged 28 = .ok (.iload_n 2, 1) := by decide +kernel
theorem dX5_ifPlugged_29 : decode cX5_ifPlugged 29 = .ok (.invokevirtual 253, 3) := by decide +kernel
theorem dX5_ifPlugged_32 : decode cX5_ifPlugged 32 = .ok (.ifCond .eq 5, 3) := by decide +kernel
theorem dX5_ifPlugged_35 : decode cX5_ifPlugged 35 = .ok (.iconst (-1), 1) := by decide +kernel
theorem dX5_ifPlugged_36 : decode cX5_ifPlugged 36 = .ok (.ireturn, 1) := by decide +kernel
theorem dX5_ifPlugged_37 : decode cX5_ifPlugged 37 = .ok (.aload_n 0, 1) := by decide +kernel
theorem dX5_ifPlugged_38 : decode cX5_ifPlugged 38 = .ok (.iload_n 1, 1) := by decide +kernel
theorem dX5_ifPlugged_39 : decode cX5_ifPlugged 39 = .ok (.iload_n 2, 1) := by decide +kernel
theorem dX5_ifPlugged_40 : decode cX5_ifPlugged 40 = .ok (.iload_n 3, 1) := by decide +kernel
theorem dX5_ifPlugged_41 : decode cX5_ifPlugged 41 = .ok (.invokevirtual 257, 3) := by decide +kernel
theorem dX5_ifPlugged_44 : decode cX5_ifPlugged 44 = .ok (.iload 4, 2) := by decide +kernel
theorem dX5_ifPlugged_46 : decode cX5_ifPlugged 46 = .ok (.lookupswitch 58 #[(0, 26), (1, 42)], 26) := by decide +kernel
theorem dX5_ifPlugged_72 : decode cX5_ifPlugged 72 = .ok (.aload_n 0, 1) := by decide +kernel
theorem dX5_ifPlugged_73 : decode cX5_ifPlugged 73 = .ok (.getfield 16, 3) := by decide +kernel
theorem dX5_ifPlugged_76 : decode cX5_ifPlugged 76 = .ok (.invokevirtual 133, 3) := by decide +kernel
theorem dX5_ifPlugged_79 : decode cX5_ifPlugged 79 = .ok (.aload_n 0, 1) := by decide +kernel
theorem dX5_ifPlugged_80 : decode cX5_ifPlugged 80 = .ok (.getfield 10, 3) := by decide +kernel
theorem dX5_ifPlugged_83 : decode cX5_ifPlugged 83 = .ok (.invokevirtual 133, 3) := by decide +kernel
theorem dX5_ifPlugged_86 : decode cX5_ifPlugged 86 = .ok (.isub, 1) := by decide +kernel
theorem dX5_ifPlugged_87 : decode cX5_ifPlugged 87 = .ok (.ireturn, 1) := by decide +kernel
theorem dX5_ifPlugged_88 : decode cX5_ifPlugged 88 = .ok (.aload_n 0, 1) := by decide +kernel
theorem dX5_ifPlugged_89 : decode cX5_ifPlugged 89 = .ok (.getfield 16, 3) := by decide +kernel
theorem dX5_ifPlugged_92 : decode cX5_ifPlugged 92 = .ok (.invokevirtual 245, 3) := by decide +kernel
theorem dX5_ifPlugged_95 : decode cX5_ifPlugged 95 = .ok (.aload_n 0, 1) := by decide +kernel
theorem dX5_ifPlugged_96 : decode cX5_ifPlugged 96 = .ok (.getfield 10, 3) := by decide +kernel
theorem dX5_ifPlugged_99 : decode cX5_ifPlugged 99 = .ok (.invokevirtual 245, 3) := by decide +kernel
theorem dX5_ifPlugged_102 : decode cX5_ifPlugged 102 = .ok (.isub, 1) := by decide +kernel
theorem dX5_ifPlugged_103 : decode cX5_ifPlugged 103 = .ok (.ireturn, 1) := by decide +kernel
theorem dX5_ifPlugged_104 : decode cX5_ifPlugged 104 = .ok (.aload_n 0, 1) := by decide +kernel
theorem dX5_ifPlugged_105 : decode cX5_ifPlugged 105 = .ok (.getfield 16, 3) := by decide +kernel
theorem dX5_ifPlugged_108 : decode cX5_ifPlugged 108 = .ok (.getfield 85, 3) := by decide +kernel
theorem dX5_ifPlugged_111 : decode cX5_ifPlugged 111 = .ok (.iload_n 1, 1) := by decide +kernel
theorem dX5_ifPlugged_112 : decode cX5_ifPlugged 112 = .ok (.aaload, 1) := by decide +kernel
theorem dX5_ifPlugged_113 : decode cX5_ifPlugged 113 = .ok (.getfield 201, 3) := by decide +kernel
theorem dX5_ifPlugged_116 : decode cX5_ifPlugged 116 = .ok (.aload_n 0, 1) := by decide +kernel
theorem dX5_ifPlugged_117 : decode cX5_ifPlugged 117 = .ok (.getfield 10, 3) := by decide +kernel
theorem dX5_ifPlugged_120 : decode cX5_ifPlugged 120 = .ok (.getfield 85, 3) := by decide +kernel
theorem dX5_ifPlugged_123 : decode cX5_ifPlugged 123 = .ok (.iload_n 1, 1) := by decide +kernel
theorem dX5_ifPlugged_124 : decode cX5_ifPlugged 124 = .ok (.aaload, 1) := by decide +kernel
theorem dX5_ifPlugged_125 : decode cX5_ifPlugged 125 = .ok (.getfield 201, 3) := by decide +kernel
theorem dX5_ifPlugged_128 : decode cX5_ifPlugged 128 = .ok (.isub, 1) := by decide +kernel
theorem dX5_ifPlugged_129 : decode cX5_ifPlugged 129 = .ok (.ireturn, 1) := by decide +kernel
theorem dX5_tripsIn_0 : decode cX5_tripsIn 0 = .ok (.iload_n 1, 1) := by decide +kernel
theorem dX5_tripsIn_1 : decode cX5_tripsIn 1 = .ok (.iconst 0, 1) := by decide +kernel
theorem dX5_tripsIn_2 : decode cX5_tripsIn 2 = .ok (.iconst 3, 1) := by decide +kernel
theorem dX5_tripsIn_3 : decode cX5_tripsIn 3 = .ok (.invokestatic 71, 3) := by decide +kernel
theorem dX5_tripsIn_6 : decode cX5_tripsIn 6 = .ok (.aload_n 0, 1) := by decide +kernel
theorem dX5_tripsIn_7 : decode cX5_tripsIn 7 = .ok (.getfield 16, 3) := by decide +kernel
theorem dX5_tripsIn_10 : decode cX5_tripsIn 10 = .ok (.aload_n 0, 1) := by decide +kernel
theorem dX5_tripsIn_11 : decode cX5_tripsIn 11 = .ok (.getfield 10, 3) := by decide +kernel
theorem dX5_tripsIn_14 : decode cX5_tripsIn 14 = .ok (.invokevirtual 173, 3) := by decide +kernel
theorem dX5_tripsIn_17 : decode cX5_tripsIn 17 = .ok (.iconst 0, 1) := by decide +kernel
theorem dX5_tripsIn_18 : decode cX5_tripsIn 18 = .ok (.istore_n 2, 1) := by decide +kernel
theorem dX5_tripsIn_19 : decode cX5_tripsIn 19 = .ok (.iload_n 2, 1) := by decide +kernel
theorem dX5_tripsIn_20 : decode cX5_tripsIn 20 = .ok (.bipush 96, 2) := by decide +kernel
theorem dX5_tripsIn_22 : decode cX5_tripsIn 22 = .ok (.if_icmp .gt 33, 3) := by decide +kernel
theorem dX5_tripsIn_25 : decode cX5_tripsIn 25 = .ok (.aload_n 0, 1) := by decide +kernel
theorem dX5_tripsIn_26 : decode cX5_tripsIn 26 = .ok (.getfield 16, 3) := by decide +kernel
theorem dX5_tripsIn_29 : decode cX5_tripsIn 29 = .ok (.getfield 101, 3) := by decide +kernel
theorem dX5_tripsIn_32 : decode cX5_tripsIn 32 = .ok (.iload_n 1, 1) := by decide +kernel
theorem dX5_tripsIn_33 : decode cX5_tripsIn 33 = .ok (.aaload, 1) := by decide +kernel
theorem dX5_tripsIn_34 : decode cX5_tripsIn 34 = .ok (.getfield 110, 3) := by decide +kernel
theorem dX5_tripsIn_37 : decode cX5_tripsIn 37 = .ok (.ifCond .ne 5, 3) := by decide +kernel
theorem dX5_tripsIn_40 : decode cX5_tripsIn 40 = .ok (.iload_n 2, 1) := by decide +kernel
theorem dX5_tripsIn_41 : decode cX5_tripsIn 41 = .ok (.ireturn, 1) := by decide +kernel
theorem dX5_tripsIn_42 : decode cX5_tripsIn 42 = .ok (.aload_n 0, 1) := by decide +kernel
theorem dX5_tripsIn_43 : decode cX5_tripsIn 43 = .ok (.getfield 16, 3) := by decide +kernel
theorem dX5_tripsIn_46 : decode cX5_tripsIn 46 = .ok (.invokevirtual 260, 3) := by decide +kernel
theorem dX5_tripsIn_49 : decode cX5_tripsIn 49 = .ok (.iinc 2 1, 3) := by decide +kernel
theorem dX5_tripsIn_52 : decode cX5_tripsIn 52 = .ok (.goto (-33), 3) := by decide +kernel
theorem dX5_tripsIn_55 : decode cX5_tripsIn 55 = .ok (.iconst (-1), 1) := by decide +kernel
theorem dX5_tripsIn_56 : decode cX5_tripsIn 56 = .ok (.ireturn, 1) := by decide +kernel
theorem dX5_bestSocket_0 : decode cX5_bestSocket 0 = .ok (.aload_n 0, 1) := by decide +kernel
theorem dX5_bestSocket_1 : decode cX5_bestSocket 1 = .ok (.iload_n 1, 1) := by decide +kernel
theorem dX5_bestSocket_2 : decode cX5_bestSocket 2 = .ok (.invokevirtual 67, 3) := by decide +kernel
theorem dX5_bestSocket_5 : decode cX5_bestSocket 5 = .ok (.iconst (-1), 1) := by decide +kernel
theorem dX5_bestSocket_6 : decode cX5_bestSocket 6 = .ok (.istore_n 2, 1) := by decide +kernel
theorem dX5_bestSocket_7 : decode cX5_bestSocket 7 = .ok (.iconst 0, 1) := by decide +kernel
theorem dX5_bestSocket_8 : decode cX5_bestSocket 8 = .ok (.istore_n 3, 1) := by decide +kernel
theorem dX5_bestSocket_9 : decode cX5_bestSocket 9 = .ok (.iconst 0, 1) := by decide +kernel
theorem dX5_bestSocket_10 : decode cX5_bestSocket 10 = .ok (.istore 4, 2) := by decide +kernel
theorem dX5_bestSocket_12 : decode cX5_bestSocket 12 = .ok (.iconst 0, 1) := by decide +kernel
theorem dX5_bestSocket_13 : decode cX5_bestSocket 13 = .ok (.istore 5, 2) := by decide +kernel
theorem dX5_bestSocket_15 : decode cX5_bestSocket 15 = .ok (.iconst 0, 1) := by decide +kernel
theorem dX5_bestSocket_16 : decode cX5_bestSocket 16 = .ok (.istore 6, 2) := by decide +kernel
theorem dX5_bestSocket_18 : decode cX5_bestSocket 18 = .ok (.iload 6, 2) := by decide +kernel
theorem dX5_bestSocket_20 : decode cX5_bestSocket 20 = .ok (.bipush 12, 2) := by decide +kernel
theorem dX5_bestSocket_22 : decode cX5_bestSocket 22 = .ok (.if_icmp .ge 111, 3) := by decide +kernel
theorem dX5_bestSocket_25 : decode cX5_bestSocket 25 = .ok (.iconst 1, 1) := by decide +kernel
theorem dX5_bestSocket_26 : decode cX5_bestSocket 26 = .ok (.aload_n 0, 1) := by decide +kernel
theorem dX5_bestSocket_27 : decode cX5_bestSocket 27 = .ok (.getfield 10, 3) := by decide +kernel
theorem dX5_bestSocket_30 : decode cX5_bestSocket 30 = .ok (.iload 6, 2) := by decide +kernel
theorem dX5_bestSocket_32 : decode cX5_bestSocket 32 = .ok (.invokevirtual 124, 3) := by decide +kernel
theorem dX5_bestSocket_35 : decode cX5_bestSocket 35 = .ok (.ishl, 1) := by decide +kernel
theorem dX5_bestSocket_36 : decode cX5_bestSocket 36 = .ok (.istore 7, 2) := by decide +kernel
theorem dX5_bestSocket_38 : decode cX5_bestSocket 38 = .ok (.aload_n 0, 1) := by decide +kernel
theorem dX5_bestSocket_39 : decode cX5_bestSocket 39 = .ok (.iload_n 1, 1) := by decide +kernel
theorem dX5_bestSocket_40 : decode cX5_bestSocket 40 = .ok (.iload 6, 2) := by decide +kernel
theorem dX5_bestSocket_42 : decode cX5_bestSocket 42 = .ok (.invokevirtual 253, 3) := by decide +kernel
theorem dX5_bestSocket_45 : decode cX5_bestSocket 45 = .ok (.ifCond .ne 82, 3) := by decide +kernel
theorem dX5_bestSocket_48 : decode cX5_bestSocket 48 = .ok (.iload 5, 2) := by decide +kernel
theorem dX5_bestSocket_50 : decode cX5_bestSocket 50 = .ok (.iload 7, 2) := by decide +kernel
theorem dX5_bestSocket_52 : decode cX5_bestSocket 52 = .ok (.iand, 1) := by decide +kernel
theorem dX5_bestSocket_53 : decode cX5_bestSocket 53 = .ok (.ifCond .eq 6, 3) := by decide +kernel
theorem dX5_bestSocket_56 : decode cX5_bestSocket 56 = .ok (.goto 71, 3) := by decide +kernel
theorem dX5_bestSocket_59 : decode cX5_bestSocket 59 = .ok (.iload 5, 2) := by decide +kernel
theorem dX5_bestSocket_61 : decode cX5_bestSocket 61 = .ok (.iload 7, 2) := by decide +kernel
theorem dX5_bestSocket_63 : decode cX5_bestSocket 63 = .ok (.ior, 1) := by decide +kernel
theorem dX5_bestSocket_64 : decode cX5_bestSocket 64 = .ok (.istore 5, 2) := by decide +kernel
theorem dX5_bestSocket_66 : decode cX5_bestSocket 66 = .ok (.aload_n 0, 1) := by decide +kernel
theorem dX5_bestSocket_67 : decode cX5_bestSocket 67 = .ok (.iload_n 1, 1) := by decide +kernel
theorem dX5_bestSocket_68 : decode cX5_bestSocket 68 = .ok (.iload 6, 2) := by decide +kernel
theorem dX5_bestSocket_70 : decode cX5_bestSocket 70 = .ok (.bipush 24, 2) := by decide +kernel
theorem dX5_bestSocket_72 : decode cX5_bestSocket 72 = .ok (.invokevirtual 257, 3) := by decide +kernel
theorem dX5_bestSocket_75 : decode cX5_bestSocket 75 = .ok (.aload_n 0, 1) := by decide +kernel
theorem dX5_bestSocket_76 : decode cX5_bestSocket 76 = .ok (.getfield 16, 3) := by decide +kernel
theorem dX5_bestSocket_79 : decode cX5_bestSocket 79 = .ok (.invokevirtual 245, 3) := by decide +kernel
theorem dX5_bestSocket_82 : decode cX5_bestSocket 82 = .ok (.istore 8, 2) := by decide +kernel
theorem dX5_bestSocket_84 : decode cX5_bestSocket 84 = .ok (.aload_n 0, 1) := by decide +kernel
theorem dX5_bestSocket_85 : decode cX5_bestSocket 85 = .ok (.getfield 16, 3) := by decide +kernel
theorem dX5_bestSocket_88 : decode cX5_bestSocket 88 = .ok (.invokevirtual 133, 3) := by decide +kernel
theorem dX5_bestSocket_91 : decode cX5_bestSocket 91 = .ok (.istore 9, 2) := by decide +kernel
theorem dX5_bestSocket_93 : decode cX5_bestSocket 93 = .ok (.iload_n 2, 1) := by decide +kernel
theorem dX5_bestSocket_94 : decode cX5_bestSocket 94 = .ok (.iconst (-1), 1) := by decide +kernel
theorem dX5_bestSocket_95 : decode cX5_bestSocket 95 = .ok (.if_icmp .eq 22, 3) := by decide +kernel
theorem dX5_bestSocket_98 : decode cX5_bestSocket 98 = .ok (.iload 8, 2) := by decide +kernel
theorem dX5_bestSocket_100 : decode cX5_bestSocket 100 = .ok (.iload_n 3, 1) := by decide +kernel
theorem dX5_bestSocket_101 : decode cX5_bestSocket 101 = .ok (.if_icmp .lt 16, 3) := by decide +kernel
theorem dX5_bestSocket_104 : decode cX5_bestSocket 104 = .ok (.iload 8, 2) := by decide +kernel
theorem dX5_bestSocket_106 : decode cX5_bestSocket 106 = .ok (.iload_n 3, 1) := by decide +kernel
theorem dX5_bestSocket_107 : decode cX5_bestSocket 107 = .ok (.if_icmp .ne 20, 3) := by decide +kernel
theorem dX5_bestSocket_110 : decode cX5_bestSocket 110 = .ok (.iload 9, 2) := by decide +kernel
theorem dX5_bestSocket_112 : decode cX5_bestSocket 112 = .ok (.iload 4, 2) := by decide +kernel
theorem dX5_bestSocket_114 : decode cX5_bestSocket 114 = .ok (.if_icmp .ge 13, 3) := by decide +kernel
theorem dX5_bestSocket_117 : decode cX5_bestSocket 117 = .ok (.iload 6, 2) := by decide +kernel
theorem dX5_bestSocket_119 : decode cX5_bestSocket 119 = .ok (.istore_n 2, 1) := by decide +kernel
theorem dX5_bestSocket_120 : decode cX5_bestSocket 120 = .ok (.iload 8, 2) := by decide +kernel
theorem dX5_bestSocket_122 : decode cX5_bestSocket 122 = .ok (.istore_n 3, 1) := by decide +kernel
theorem dX5_bestSocket_123 : decode cX5_bestSocket 123 = .ok (.iload 9, 2) := by decide +kernel
theorem dX5_bestSocket_125 : decode cX5_bestSocket 125 = .ok (.istore 4, 2) := by decide +kernel
theorem dX5_bestSocket_127 : decode cX5_bestSocket 127 = .ok (.iinc 6 1, 3) := by decide +kernel
theorem dX5_bestSocket_130 : decode cX5_bestSocket 130 = .ok (.goto (-112), 3) := by decide +kernel
theorem dX5_bestSocket_133 : decode cX5_bestSocket 133 = .ok (.iload_n 2, 1) := by decide +kernel
theorem dX5_bestSocket_134 : decode cX5_bestSocket 134 = .ok (.ireturn, 1) := by decide +kernel
theorem dX5_leastBound_0 : decode cX5_leastBound 0 = .ok (.iload_n 1, 1) := by decide +kernel
theorem dX5_leastBound_1 : decode cX5_leastBound 1 = .ok (.iconst 0, 1) := by decide +kernel
theorem dX5_leastBound_2 : decode cX5_leastBound 2 = .ok (.iconst 3, 1) := by decide +kernel
theorem dX5_leastBound_3 : decode cX5_leastBound 3 = .ok (.invokestatic 71, 3) := by decide +kernel
theorem dX5_leastBound_6 : decode cX5_leastBound 6 = .ok (.bipush 9, 2) := by decide +kernel
theorem dX5_leastBound_8 : decode cX5_leastBound 8 = .ok (.istore_n 2, 1) := by decide +kernel
theorem dX5_leastBound_9 : decode cX5_leastBound 9 = .ok (.sipush 512, 3) := by decide +kernel
theorem dX5_leastBound_12 : decode cX5_leastBound 12 = .ok (.istore_n 3, 1) := by decide +kernel
theorem dX5_leastBound_13 : decode cX5_leastBound 13 = .ok (.iload_n 3, 1) := by decide +kernel
theorem dX5_leastBound_14 : decode cX5_leastBound 14 = .ok (.ifCond .le 34, 3) := by decide +kernel
theorem dX5_leastBound_17 : decode cX5_leastBound 17 = .ok (.iload_n 2, 1) := by decide +kernel
theorem dX5_leastBound_18 : decode cX5_leastBound 18 = .ok (.iload_n 3, 1) := by decide +kernel
theorem dX5_leastBound_19 : decode cX5_leastBound 19 = .ok (.iadd, 1) := by decide +kernel
theorem dX5_leastBound_20 : decode cX5_leastBound 20 = .ok (.sipush 999, 3) := by decide +kernel
theorem dX5_leastBound_23 : decode cX5_leastBound 23 = .ok (.if_icmp .gt 18, 3) := by decide +kernel
theorem dX5_leastBound_26 : decode cX5_leastBound 26 = .ok (.aload_n 0, 1) := by decide +kernel
theorem dX5_leastBound_27 : decode cX5_leastBound 27 = .ok (.iload_n 1, 1) := by decide +kernel
theorem dX5_leastBound_28 : decode cX5_leastBound 28 = .ok (.iload_n 2, 1) := by decide +kernel
theorem dX5_leastBound_29 : decode cX5_leastBound 29 = .ok (.iload_n 3, 1) := by decide +kernel
theorem dX5_leastBound_30 : decode cX5_leastBound 30 = .ok (.iadd, 1) := by decide +kernel
theorem dX5_leastBound_31 : decode cX5_leastBound 31 = .ok (.invokevirtual 263, 3) := by decide +kernel
theorem dX5_leastBound_34 : decode cX5_leastBound 34 = .ok (.ifCond .eq 7, 3) := by decide +kernel
theorem dX5_leastBound_37 : decode cX5_leastBound 37 = .ok (.iload_n 2, 1) := by decide +kernel
theorem dX5_leastBound_38 : decode cX5_leastBound 38 = .ok (.iload_n 3, 1) := by decide +kernel
theorem dX5_leastBound_39 : decode cX5_leastBound 39 = .ok (.iadd, 1) := by decide +kernel
theorem dX5_leastBound_40 : decode cX5_leastBound 40 = .ok (.istore_n 2, 1) := by decide +kernel
theorem dX5_leastBound_41 : decode cX5_leastBound 41 = .ok (.iload_n 3, 1) := by decide +kernel
theorem dX5_leastBound_42 : decode cX5_leastBound 42 = .ok (.iconst 2, 1) := by decide +kernel
theorem dX5_leastBound_43 : decode cX5_leastBound 43 = .ok (.idiv, 1) := by decide +kernel
theorem dX5_leastBound_44 : decode cX5_leastBound 44 = .ok (.istore_n 3, 1) := by decide +kernel
theorem dX5_leastBound_45 : decode cX5_leastBound 45 = .ok (.goto (-32), 3) := by decide +kernel
theorem dX5_leastBound_48 : decode cX5_leastBound 48 = .ok (.iload_n 2, 1) := by decide +kernel
theorem dX5_leastBound_49 : decode cX5_leastBound 49 = .ok (.sipush 999, 3) := by decide +kernel
theorem dX5_leastBound_52 : decode cX5_leastBound 52 = .ok (.if_icmp .ne 7, 3) := by decide +kernel
theorem dX5_leastBound_55 : decode cX5_leastBound 55 = .ok (.iconst (-1), 1) := by decide +kernel
theorem dX5_leastBound_56 : decode cX5_leastBound 56 = .ok (.goto 6, 3) := by decide +kernel
theorem dX5_leastBound_59 : decode cX5_leastBound 59 = .ok (.iload_n 2, 1) := by decide +kernel
theorem dX5_leastBound_60 : decode cX5_leastBound 60 = .ok (.iconst 1, 1) := by decide +kernel
theorem dX5_leastBound_61 : decode cX5_leastBound 61 = .ok (.iadd, 1) := by decide +kernel
theorem dX5_leastBound_62 : decode cX5_leastBound 62 = .ok (.ireturn, 1) := by decide +kernel
theorem dX5_servedShare_0 : decode cX5_servedShare 0 = .ok (.aload_n 0, 1) := by decide +kernel
theorem dX5_servedShare_1 : decode cX5_servedShare 1 = .ok (.getfield 10, 3) := by decide +kernel
theorem dX5_servedShare_4 : decode cX5_servedShare 4 = .ok (.getfield 266, 3) := by decide +kernel
theorem dX5_servedShare_7 : decode cX5_servedShare 7 = .ok (.aload_n 0, 1) := by decide +kernel
theorem dX5_servedShare_8 : decode cX5_servedShare 8 = .ok (.getfield 10, 3) := by decide +kernel
theorem dX5_servedShare_11 : decode cX5_servedShare 11 = .ok (.invokevirtual 245, 3) := by decide +kernel
theorem dX5_servedShare_14 : decode cX5_servedShare 14 = .ok (.iadd, 1) := by decide +kernel
theorem dX5_servedShare_15 : decode cX5_servedShare 15 = .ok (.istore_n 1, 1) := by decide +kernel
theorem dX5_servedShare_16 : decode cX5_servedShare 16 = .ok (.iload_n 1, 1) := by decide +kernel
theorem dX5_servedShare_17 : decode cX5_servedShare 17 = .ok (.ifCond .ne 7, 3) := by decide +kernel
theorem dX5_servedShare_20 : decode cX5_servedShare 20 = .ok (.dconst 1, 1) := by decide +kernel
theorem dX5_servedShare_21 : decode cX5_servedShare 21 = .ok (.goto 14, 3) := by decide +kernel
theorem dX5_servedShare_24 : decode cX5_servedShare 24 = .ok (.aload_n 0, 1) := by decide +kernel
theorem dX5_servedShare_25 : decode cX5_servedShare 25 = .ok (.getfield 10, 3) := by decide +kernel
theorem dX5_servedShare_28 : decode cX5_servedShare 28 = .ok (.getfield 266, 3) := by decide +kernel
theorem dX5_servedShare_31 : decode cX5_servedShare 31 = .ok (.i2d, 1) := by decide +kernel
theorem dX5_servedShare_32 : decode cX5_servedShare 32 = .ok (.iload_n 1, 1) := by decide +kernel
theorem dX5_servedShare_33 : decode cX5_servedShare 33 = .ok (.i2d, 1) := by decide +kernel
theorem dX5_servedShare_34 : decode cX5_servedShare 34 = .ok (.ddiv, 1) := by decide +kernel
theorem dX5_servedShare_35 : decode cX5_servedShare 35 = .ok (.dreturn, 1) := by decide +kernel
theorem dX5_digest_0 : decode cX5_digest 0 = .ok (.ldc2_w 269, 3) := by decide +kernel
theorem dX5_digest_3 : decode cX5_digest 3 = .ok (.lstore_n 1, 1) := by decide +kernel
theorem dX5_digest_4 : decode cX5_digest 4 = .ok (.iconst 0, 1) := by decide +kernel
theorem dX5_digest_5 : decode cX5_digest 5 = .ok (.istore_n 3, 1) := by decide +kernel
theorem dX5_digest_6 : decode cX5_digest 6 = .ok (.iload_n 3, 1) := by decide +kernel
theorem dX5_digest_7 : decode cX5_digest 7 = .ok (.bipush 12, 2) := by decide +kernel
theorem dX5_digest_9 : decode cX5_digest 9 = .ok (.if_icmp .ge 20, 3) := by decide +kernel
theorem dX5_digest_12 : decode cX5_digest 12 = .ok (.lload_n 1, 1) := by decide +kernel
theorem dX5_digest_13 : decode cX5_digest 13 = .ok (.aload_n 0, 1) := by decide +kernel
theorem dX5_digest_14 : decode cX5_digest 14 = .ok (.iload_n 3, 1) := by decide +kernel
theorem dX5_digest_15 : decode cX5_digest 15 = .ok (.invokevirtual 271, 3) := by decide +kernel
theorem dX5_digest_18 : decode cX5_digest 18 = .ok (.i2l, 1) := by decide +kernel
theorem dX5_digest_19 : decode cX5_digest 19 = .ok (.invokestatic 274, 3) := by decide +kernel
theorem dX5_digest_22 : decode cX5_digest 22 = .ok (.lstore_n 1, 1) := by decide +kernel
theorem dX5_digest_23 : decode cX5_digest 23 = .ok (.iinc 3 1, 3) := by decide +kernel
theorem dX5_digest_26 : decode cX5_digest 26 = .ok (.goto (-20), 3) := by decide +kernel
theorem dX5_digest_29 : decode cX5_digest 29 = .ok (.iconst 0, 1) := by decide +kernel
theorem dX5_digest_30 : decode cX5_digest 30 = .ok (.istore_n 3, 1) := by decide +kernel
theorem dX5_digest_31 : decode cX5_digest 31 = .ok (.iload_n 3, 1) := by decide +kernel
theorem dX5_digest_32 : decode cX5_digest 32 = .ok (.iconst 3, 1) := by decide +kernel
theorem dX5_digest_33 : decode cX5_digest 33 = .ok (.if_icmp .ge 20, 3) := by decide +kernel
theorem dX5_digest_36 : decode cX5_digest 36 = .ok (.lload_n 1, 1) := by decide +kernel
theorem dX5_digest_37 : decode cX5_digest 37 = .ok (.aload_n 0, 1) := by decide +kernel
theorem dX5_digest_38 : decode cX5_digest 38 = .ok (.iload_n 3, 1) := by decide +kernel
theorem dX5_digest_39 : decode cX5_digest 39 = .ok (.invokevirtual 278, 3) := by decide +kernel
theorem dX5_digest_42 : decode cX5_digest 42 = .ok (.i2l, 1) := by decide +kernel
theorem dX5_digest_43 : decode cX5_digest 43 = .ok (.invokestatic 274, 3) := by decide +kernel
theorem dX5_digest_46 : decode cX5_digest 46 = .ok (.lstore_n 1, 1) := by decide +kernel
theorem dX5_digest_47 : decode cX5_digest 47 = .ok (.iinc 3 1, 3) := by decide +kernel
theorem dX5_digest_50 : decode cX5_digest 50 = .ok (.goto (-19), 3) := by decide +kernel
theorem dX5_digest_53 : decode cX5_digest 53 = .ok (.iconst 0, 1) := by decide +kernel
theorem dX5_digest_54 : decode cX5_digest 54 = .ok (.istore_n 3, 1) := by decide +kernel
theorem dX5_digest_55 : decode cX5_digest 55 = .ok (.iload_n 3, 1) := by decide +kernel
theorem dX5_digest_56 : decode cX5_digest 56 = .ok (.aload_n 0, 1) := by decide +kernel
theorem dX5_digest_57 : decode cX5_digest 57 = .ok (.getfield 10, 3) := by decide +kernel
theorem dX5_digest_60 : decode cX5_digest 60 = .ok (.getfield 228, 3) := by decide +kernel
theorem dX5_digest_63 : decode cX5_digest 63 = .ok (.if_icmp .ge 81, 3) := by decide +kernel
theorem dX5_digest_66 : decode cX5_digest 66 = .ok (.iconst 0, 1) := by decide +kernel
theorem dX5_digest_67 : decode cX5_digest 67 = .ok (.istore 4, 2) := by decide +kernel
theorem dX5_digest_69 : decode cX5_digest 69 = .ok (.iload 4, 2) := by decide +kernel
theorem dX5_digest_71 : decode cX5_digest 71 = .ok (.bipush 10, 2) := by decide +kernel
theorem dX5_digest_73 : decode cX5_digest 73 = .ok (.if_icmp .ge 22, 3) := by decide +kernel
theorem dX5_digest_76 : decode cX5_digest 76 = .ok (.lload_n 1, 1) := by decide +kernel
theorem dX5_digest_77 : decode cX5_digest 77 = .ok (.aload_n 0, 1) := by decide +kernel
theorem dX5_digest_78 : decode cX5_digest 78 = .ok (.iload_n 3, 1) := by decide +kernel
theorem dX5_digest_79 : decode cX5_digest 79 = .ok (.iload 4, 2) := by decide +kernel
theorem dX5_digest_81 : decode cX5_digest 81 = .ok (.invokevirtual 281, 3) := by decide +kernel
theorem dX5_digest_84 : decode cX5_digest 84 = .ok (.i2l, 1) := by decide +kernel
theorem dX5_digest_85 : decode cX5_digest 85 = .ok (.invokestatic 274, 3) := by decide +kernel
theorem dX5_digest_88 : decode cX5_digest 88 = .ok (.lstore_n 1, 1) := by decide +kernel
theorem dX5_digest_89 : decode cX5_digest 89 = .ok (.iinc 4 1, 3) := by decide +kernel
theorem dX5_digest_92 : decode cX5_digest 92 = .ok (.goto (-23), 3) := by decide +kernel
theorem dX5_digest_95 : decode cX5_digest 95 = .ok (.iconst 0, 1) := by decide +kernel
theorem dX5_digest_96 : decode cX5_digest 96 = .ok (.istore 4, 2) := by decide +kernel
theorem dX5_digest_98 : decode cX5_digest 98 = .ok (.iload 4, 2) := by decide +kernel
theorem dX5_digest_100 : decode cX5_digest 100 = .ok (.iconst 3, 1) := by decide +kernel
theorem dX5_digest_101 : decode cX5_digest 101 = .ok (.if_icmp .ge 26, 3) := by decide +kernel
theorem dX5_digest_104 : decode cX5_digest 104 = .ok (.lload_n 1, 1) := by decide +kernel
theorem dX5_digest_105 : decode cX5_digest 105 = .ok (.aload_n 0, 1) := by decide +kernel
theorem dX5_digest_106 : decode cX5_digest 106 = .ok (.iload_n 3, 1) := by decide +kernel
theorem dX5_digest_107 : decode cX5_digest 107 = .ok (.bipush 10, 2) := by decide +kernel
theorem dX5_digest_109 : decode cX5_digest 109 = .ok (.bipush 12, 2) := by decide +kernel
theorem dX5_digest_111 : decode cX5_digest 111 = .ok (.iload 4, 2) := by decide +kernel
theorem dX5_digest_113 : decode cX5_digest 113 = .ok (.invokevirtual 284, 3) := by decide +kernel
theorem dX5_digest_116 : decode cX5_digest 116 = .ok (.i2l, 1) := by decide +kernel
theorem dX5_digest_117 : decode cX5_digest 117 = .ok (.invokestatic 274, 3) := by decide +kernel
theorem dX5_digest_120 : decode cX5_digest 120 = .ok (.lstore_n 1, 1) := by decide +kernel
theorem dX5_digest_121 : decode cX5_digest 121 = .ok (.iinc 4 1, 3) := by decide +kernel
theorem dX5_digest_124 : decode cX5_digest 124 = .ok (.goto (-26), 3) := by decide +kernel
theorem dX5_digest_127 : decode cX5_digest 127 = .ok (.lload_n 1, 1) := by decide +kernel
theorem dX5_digest_128 : decode cX5_digest 128 = .ok (.aload_n 0, 1) := by decide +kernel
theorem dX5_digest_129 : decode cX5_digest 129 = .ok (.iload_n 3, 1) := by decide +kernel
theorem dX5_digest_130 : decode cX5_digest 130 = .ok (.invokevirtual 287, 3) := by decide +kernel
theorem dX5_digest_133 : decode cX5_digest 133 = .ok (.i2l, 1) := by decide +kernel
theorem dX5_digest_134 : decode cX5_digest 134 = .ok (.invokestatic 274, 3) := by decide +kernel
theorem dX5_digest_137 : decode cX5_digest 137 = .ok (.lstore_n 1, 1) := by decide +kernel
theorem dX5_digest_138 : decode cX5_digest 138 = .ok (.iinc 3 1, 3) := by decide +kernel
theorem dX5_digest_141 : decode cX5_digest 141 = .ok (.goto (-86), 3) := by decide +kernel
theorem dX5_digest_144 : decode cX5_digest 144 = .ok (.iconst 0, 1) := by decide +kernel
theorem dX5_digest_145 : decode cX5_digest 145 = .ok (.istore_n 3, 1) := by decide +kernel
theorem dX5_digest_146 : decode cX5_digest 146 = .ok (.iload_n 3, 1) := by decide +kernel
theorem dX5_digest_147 : decode cX5_digest 147 = .ok (.iconst 4, 1) := by decide +kernel
theorem dX5_digest_148 : decode cX5_digest 148 = .ok (.if_icmp .ge 49, 3) := by decide +kernel
theorem dX5_digest_151 : decode cX5_digest 151 = .ok (.iconst 0, 1) := by decide +kernel
theorem dX5_digest_152 : decode cX5_digest 152 = .ok (.istore 4, 2) := by decide +kernel
theorem dX5_digest_154 : decode cX5_digest 154 = .ok (.iload 4, 2) := by decide +kernel
theorem dX5_digest_156 : decode cX5_digest 156 = .ok (.bipush 7, 2) := by decide +kernel
theorem dX5_digest_158 : decode cX5_digest 158 = .ok (.if_icmp .ge 22, 3) := by decide +kernel
theorem dX5_digest_161 : decode cX5_digest 161 = .ok (.lload_n 1, 1) := by decide +kernel
theorem dX5_digest_162 : decode cX5_digest 162 = .ok (.aload_n 0, 1) := by decide +kernel
theorem dX5_digest_163 : decode cX5_digest 163 = .ok (.iload_n 3, 1) := by decide +kernel
theorem dX5_digest_164 : decode cX5_digest 164 = .ok (.iload 4, 2) := by decide +kernel
theorem dX5_digest_166 : decode cX5_digest 166 = .ok (.invokevirtual 290, 3) := by decide +kernel
theorem dX5_digest_169 : decode cX5_digest 169 = .ok (.i2l, 1) := by decide +kernel
theorem dX5_digest_170 : decode cX5_digest 170 = .ok (.invokestatic 274, 3) := by decide +kernel
theorem dX5_digest_173 : decode cX5_digest 173 = .ok (.lstore_n 1, 1) := by decide +kernel
theorem dX5_digest_174 : decode cX5_digest 174 = .ok (.iinc 4 1, 3) := by decide +kernel
theorem dX5_digest_177 : decode cX5_digest 177 = .ok (.goto (-23), 3) := by decide +kernel
theorem dX5_digest_180 : decode cX5_digest 180 = .ok (.lload_n 1, 1) := by decide +kernel
theorem dX5_digest_181 : decode cX5_digest 181 = .ok (.aload_n 0, 1) := by decide +kernel
theorem dX5_digest_182 : decode cX5_digest 182 = .ok (.iload_n 3, 1) := by decide +kernel
theorem dX5_digest_183 : decode cX5_digest 183 = .ok (.invokevirtual 293, 3) := by decide +kernel
theorem dX5_digest_186 : decode cX5_digest 186 = .ok (.i2l, 1) := by decide +kernel
theorem dX5_digest_187 : decode cX5_digest 187 = .ok (.invokestatic 274, 3) := by decide +kernel
theorem dX5_digest_190 : decode cX5_digest 190 = .ok (.lstore_n 1, 1) := by decide +kernel
theorem dX5_digest_191 : decode cX5_digest 191 = .ok (.iinc 3 1, 3) := by decide +kernel
theorem dX5_digest_194 : decode cX5_digest 194 = .ok (.goto (-48), 3) := by decide +kernel
theorem dX5_digest_197 : decode cX5_digest 197 = .ok (.iconst 0, 1) := by decide +kernel
theorem dX5_digest_198 : decode cX5_digest 198 = .ok (.istore_n 3, 1) := by decide +kernel
theorem dX5_digest_199 : decode cX5_digest 199 = .ok (.iload_n 3, 1) := by decide +kernel
theorem dX5_digest_200 : decode cX5_digest 200 = .ok (.bipush 12, 2) := by decide +kernel
theorem dX5_digest_202 : decode cX5_digest 202 = .ok (.if_icmp .ge 37, 3) := by decide +kernel
theorem dX5_digest_205 : decode cX5_digest 205 = .ok (.iconst 0, 1) := by decide +kernel
theorem dX5_digest_206 : decode cX5_digest 206 = .ok (.istore 4, 2) := by decide +kernel
theorem dX5_digest_208 : decode cX5_digest 208 = .ok (.iload 4, 2) := by decide +kernel
theorem dX5_digest_210 : decode cX5_digest 210 = .ok (.iconst 2, 1) := by decide +kernel
theorem dX5_digest_211 : decode cX5_digest 211 = .ok (.if_icmp .ge 22, 3) := by decide +kernel
theorem dX5_digest_214 : decode cX5_digest 214 = .ok (.lload_n 1, 1) := by decide +kernel
theorem dX5_digest_215 : decode cX5_digest 215 = .ok (.aload_n 0, 1) := by decide +kernel
theorem dX5_digest_216 : decode cX5_digest 216 = .ok (.iload_n 3, 1) := by decide +kernel
theorem dX5_digest_217 : decode cX5_digest 217 = .ok (.iload 4, 2) := by decide +kernel
theorem dX5_digest_219 : decode cX5_digest 219 = .ok (.invokevirtual 296, 3) := by decide +kernel
theorem dX5_digest_222 : decode cX5_digest 222 = .ok (.i2l, 1) := by decide +kernel
theorem dX5_digest_223 : decode cX5_digest 223 = .ok (.invokestatic 274, 3) := by decide +kernel
theorem dX5_digest_226 : decode cX5_digest 226 = .ok (.lstore_n 1, 1) := by decide +kernel
theorem dX5_digest_227 : decode cX5_digest 227 = .ok (.iinc 4 1, 3) := by decide +kernel
theorem dX5_digest_230 : decode cX5_digest 230 = .ok (.goto (-22), 3) := by decide +kernel
theorem dX5_digest_233 : decode cX5_digest 233 = .ok (.iinc 3 1, 3) := by decide +kernel
theorem dX5_digest_236 : decode cX5_digest 236 = .ok (.goto (-37), 3) := by decide +kernel
theorem dX5_digest_239 : decode cX5_digest 239 = .ok (.lload_n 1, 1) := by decide +kernel
theorem dX5_digest_240 : decode cX5_digest 240 = .ok (.aload_n 0, 1) := by decide +kernel
theorem dX5_digest_241 : decode cX5_digest 241 = .ok (.iconst 0, 1) := by decide +kernel
theorem dX5_digest_242 : decode cX5_digest 242 = .ok (.invokevirtual 298, 3) := by decide +kernel
theorem dX5_digest_245 : decode cX5_digest 245 = .ok (.i2l, 1) := by decide +kernel
theorem dX5_digest_246 : decode cX5_digest 246 = .ok (.invokestatic 274, 3) := by decide +kernel
theorem dX5_digest_249 : decode cX5_digest 249 = .ok (.lstore_n 1, 1) := by decide +kernel
theorem dX5_digest_250 : decode cX5_digest 250 = .ok (.lload_n 1, 1) := by decide +kernel
theorem dX5_digest_251 : decode cX5_digest 251 = .ok (.aload_n 0, 1) := by decide +kernel
theorem dX5_digest_252 : decode cX5_digest 252 = .ok (.invokevirtual 301, 3) := by decide +kernel
theorem dX5_digest_255 : decode cX5_digest 255 = .ok (.invokestatic 305, 3) := by decide +kernel
theorem dX5_digest_258 : decode cX5_digest 258 = .ok (.invokestatic 274, 3) := by decide +kernel
theorem dX5_digest_261 : decode cX5_digest 261 = .ok (.lstore_n 1, 1) := by decide +kernel
theorem dX5_digest_262 : decode cX5_digest 262 = .ok (.iconst 0, 1) := by decide +kernel
theorem dX5_digest_263 : decode cX5_digest 263 = .ok (.istore_n 3, 1) := by decide +kernel
theorem dX5_digest_264 : decode cX5_digest 264 = .ok (.iload_n 3, 1) := by decide +kernel
theorem dX5_digest_265 : decode cX5_digest 265 = .ok (.iconst 2, 1) := by decide +kernel
theorem dX5_digest_266 : decode cX5_digest 266 = .ok (.if_icmp .ge 28, 3) := by decide +kernel
theorem dX5_digest_269 : decode cX5_digest 269 = .ok (.lload_n 1, 1) := by decide +kernel
theorem dX5_digest_270 : decode cX5_digest 270 = .ok (.aload_n 0, 1) := by decide +kernel
theorem dX5_digest_271 : decode cX5_digest 271 = .ok (.getfield 23, 3) := by decide +kernel
theorem dX5_digest_274 : decode cX5_digest 274 = .ok (.iload_n 3, 1) := by decide +kernel
theorem dX5_digest_275 : decode cX5_digest 275 = .ok (.baload, 1) := by decide +kernel
theorem dX5_digest_276 : decode cX5_digest 276 = .ok (.ifCond .eq 7, 3) := by decide +kernel
theorem dX5_digest_279 : decode cX5_digest 279 = .ok (.lconst 1, 1) := by decide +kernel
theorem dX5_digest_280 : decode cX5_digest 280 = .ok (.goto 4, 3) := by decide +kernel
theorem dX5_digest_283 : decode cX5_digest 283 = .ok (.lconst 0, 1) := by decide +kernel
theorem dX5_digest_284 : decode cX5_digest 284 = .ok (.invokestatic 274, 3) := by decide +kernel
theorem dX5_digest_287 : decode cX5_digest 287 = .ok (.lstore_n 1, 1) := by decide +kernel
theorem dX5_digest_288 : decode cX5_digest 288 = .ok (.iinc 3 1, 3) := by decide +kernel
theorem dX5_digest_291 : decode cX5_digest 291 = .ok (.goto (-27), 3) := by decide +kernel
theorem dX5_digest_294 : decode cX5_digest 294 = .ok (.aload_n 0, 1) := by decide +kernel
theorem dX5_digest_295 : decode cX5_digest 295 = .ok (.lload_n 1, 1) := by decide +kernel
theorem dX5_digest_296 : decode cX5_digest 296 = .ok (.invokevirtual 309, 3) := by decide +kernel
theorem dX5_digest_299 : decode cX5_digest 299 = .ok (.lreturn, 1) := by decide +kernel
theorem dX5_checkStall_0 : decode cX5_checkStall 0 = .ok (.iload_n 1, 1) := by decide +kernel
theorem dX5_checkStall_1 : decode cX5_checkStall 1 = .ok (.ifCond .lt 14, 3) := by decide +kernel
theorem dX5_checkStall_4 : decode cX5_checkStall 4 = .ok (.iload_n 1, 1) := by decide +kernel
theorem dX5_checkStall_5 : decode cX5_checkStall 5 = .ok (.aload_n 0, 1) := by decide +kernel
theorem dX5_checkStall_6 : decode cX5_checkStall 6 = .ok (.getfield 10, 3) := by decide +kernel
theorem dX5_checkStall_9 : decode cX5_checkStall 9 = .ok (.getfield 228, 3) := by decide +kernel
theorem dX5_checkStall_12 : decode cX5_checkStall 12 = .ok (.if_icmp .lt 14, 3) := by decide +kernel
theorem dX5_checkStall_15 : decode cX5_checkStall 15 = .ok (.new 313, 3) := by decide +kernel
theorem dX5_checkStall_18 : decode cX5_checkStall 18 = .ok (.dup, 1) := by decide +kernel
theorem dX5_checkStall_19 : decode cX5_checkStall 19 = .ok (.ldc_w 315, 3) := by decide +kernel
theorem dX5_checkStall_22 : decode cX5_checkStall 22 = .ok (.invokespecial 317, 3) := by decide +kernel
theorem dX5_checkStall_25 : decode cX5_checkStall 25 = .ok (.athrow, 1) := by decide +kernel
theorem dX5_checkStall_26 : decode cX5_checkStall 26 = .ok (.return_, 1) := by decide +kernel
theorem dX5_checkSetting_0 : decode cX5_checkSetting 0 = .ok (.iload_n 0, 1) := by decide +kernel
theorem dX5_checkSetting_1 : decode cX5_checkSetting 1 = .ok (.ifCond .lt 8, 3) := by decide +kernel
theorem dX5_checkSetting_4 : decode cX5_checkSetting 4 = .ok (.iload_n 0, 1) := by decide +kernel
theorem dX5_checkSetting_5 : decode cX5_checkSetting 5 = .ok (.iconst 3, 1) := by decide +kernel
theorem dX5_checkSetting_6 : decode cX5_checkSetting 6 = .ok (.if_icmp .lt 14, 3) := by decide +kernel
theorem dX5_checkSetting_9 : decode cX5_checkSetting 9 = .ok (.new 313, 3) := by decide +kernel
theorem dX5_checkSetting_12 : decode cX5_checkSetting 12 = .ok (.dup, 1) := by decide +kernel
theorem dX5_checkSetting_13 : decode cX5_checkSetting 13 = .ok (.ldc_w 318, 3) := by decide +kernel
theorem dX5_checkSetting_16 : decode cX5_checkSetting 16 = .ok (.invokespecial 317, 3) := by decide +kernel
theorem dX5_checkSetting_19 : decode cX5_checkSetting 19 = .ok (.athrow, 1) := by decide +kernel
theorem dX5_checkSetting_20 : decode cX5_checkSetting 20 = .ok (.return_, 1) := by decide +kernel
theorem dX5_checkArgument_0 : decode cX5_checkArgument 0 = .ok (.iload_n 0, 1) := by decide +kernel
theorem dX5_checkArgument_1 : decode cX5_checkArgument 1 = .ok (.iload_n 1, 1) := by decide +kernel
theorem dX5_checkArgument_2 : decode cX5_checkArgument 2 = .ok (.if_icmp .lt 8, 3) := by decide +kernel
theorem dX5_checkArgument_5 : decode cX5_checkArgument 5 = .ok (.iload_n 0, 1) := by decide +kernel
theorem dX5_checkArgument_6 : decode cX5_checkArgument 6 = .ok (.iload_n 2, 1) := by decide +kernel
theorem dX5_checkArgument_7 : decode cX5_checkArgument 7 = .ok (.if_icmp .le 14, 3) := by decide +kernel
theorem dX5_checkArgument_10 : decode cX5_checkArgument 10 = .ok (.new 41, 3) := by decide +kernel
theorem dX5_checkArgument_13 : decode cX5_checkArgument 13 = .ok (.dup, 1) := by decide +kernel
theorem dX5_checkArgument_14 : decode cX5_checkArgument 14 = .ok (.ldc_w 320, 3) := by decide +kernel
theorem dX5_checkArgument_17 : decode cX5_checkArgument 17 = .ok (.invokespecial 45, 3) := by decide +kernel
theorem dX5_checkArgument_20 : decode cX5_checkArgument 20 = .ok (.athrow, 1) := by decide +kernel
theorem dX5_checkArgument_21 : decode cX5_checkArgument 21 = .ok (.return_, 1) := by decide +kernel
theorem dX5_doOrders_0 : decode cX5_doOrders 0 = .ok (.aload_n 0, 1) := by decide +kernel
theorem dX5_doOrders_1 : decode cX5_doOrders 1 = .ok (.getfield 37, 3) := by decide +kernel
theorem dX5_doOrders_4 : decode cX5_doOrders 4 = .ok (.iconst 0, 1) := by decide +kernel
theorem dX5_doOrders_5 : decode cX5_doOrders 5 = .ok (.putfield 165, 3) := by decide +kernel
theorem dX5_doOrders_8 : decode cX5_doOrders 8 = .ok (.iconst 0, 1) := by decide +kernel
theorem dX5_doOrders_9 : decode cX5_doOrders 9 = .ok (.istore_n 1, 1) := by decide +kernel
theorem dX5_doOrders_10 : decode cX5_doOrders 10 = .ok (.iload_n 1, 1) := by decide +kernel
theorem dX5_doOrders_11 : decode cX5_doOrders 11 = .ok (.bipush 60, 2) := by decide +kernel
theorem dX5_doOrders_13 : decode cX5_doOrders 13 = .ok (.if_icmp .ge 38, 3) := by decide +kernel
theorem dX5_doOrders_16 : decode cX5_doOrders 16 = .ok (.aload_n 0, 1) := by decide +kernel
theorem dX5_doOrders_17 : decode cX5_doOrders 17 = .ok (.getfield 37, 3) := by decide +kernel
theorem dX5_doOrders_20 : decode cX5_doOrders 20 = .ok (.invokevirtual 322, 3) := by decide +kernel
theorem dX5_doOrders_23 : decode cX5_doOrders 23 = .ok (.ifCond .eq 10, 3) := by decide +kernel
theorem dX5_doOrders_26 : decode cX5_doOrders 26 = .ok (.aload_n 0, 1) := by decide +kernel
theorem dX5_doOrders_27 : decode cX5_doOrders 27 = .ok (.invokevirtual 325, 3) := by decide +kernel
theorem dX5_doOrders_30 : decode cX5_doOrders 30 = .ok (.ifCond .ne 5, 3) := by decide +kernel
theorem dX5_doOrders_33 : decode cX5_doOrders 33 = .ok (.iload_n 1, 1) := by decide +kernel
theorem dX5_doOrders_34 : decode cX5_doOrders 34 = .ok (.ireturn, 1) := by decide +kernel
theorem dX5_doOrders_35 : decode cX5_doOrders 35 = .ok (.aload_n 0, 1) := by decide +kernel
theorem dX5_doOrders_36 : decode cX5_doOrders 36 = .ok (.getfield 37, 3) := by decide +kernel
theorem dX5_doOrders_39 : decode cX5_doOrders 39 = .ok (.bipush 59, 2) := by decide +kernel
theorem dX5_doOrders_41 : decode cX5_doOrders 41 = .ok (.invokevirtual 328, 3) := by decide +kernel
theorem dX5_doOrders_44 : decode cX5_doOrders 44 = .ok (.pop, 1) := by decide +kernel
theorem dX5_doOrders_45 : decode cX5_doOrders 45 = .ok (.iinc 1 1, 3) := by decide +kernel
theorem dX5_doOrders_48 : decode cX5_doOrders 48 = .ok (.goto (-38), 3) := by decide +kernel
theorem dX5_doOrders_51 : decode cX5_doOrders 51 = .ok (.bipush 60, 2) := by decide +kernel
theorem dX5_doOrders_53 : decode cX5_doOrders 53 = .ok (.ireturn, 1) := by decide +kernel
theorem dX5_doOrder_0 : decode cX5_doOrder 0 = .ok (.aload_n 0, 1) := by decide +kernel
theorem dX5_doOrder_1 : decode cX5_doOrder 1 = .ok (.getfield 37, 3) := by decide +kernel
theorem dX5_doOrder_4 : decode cX5_doOrder 4 = .ok (.getfield 332, 3) := by decide +kernel
theorem dX5_doOrder_7 : decode cX5_doOrder 7 = .ok (.iconst 0, 1) := by decide +kernel
theorem dX5_doOrder_8 : decode cX5_doOrder 8 = .ok (.iaload, 1) := by decide +kernel
theorem dX5_doOrder_9 : decode cX5_doOrder 9 = .ok (.istore_n 1, 1) := by decide +kernel
theorem dX5_doOrder_10 : decode cX5_doOrder 10 = .ok (.aload_n 0, 1) := by decide +kernel
theorem dX5_doOrder_11 : decode cX5_doOrder 11 = .ok (.getfield 37, 3) := by decide +kernel
theorem dX5_doOrder_14 : decode cX5_doOrder 14 = .ok (.getfield 332, 3) := by decide +kernel
theorem dX5_doOrder_17 : decode cX5_doOrder 17 = .ok (.iconst 1, 1) := by decide +kernel
theorem dX5_doOrder_18 : decode cX5_doOrder 18 = .ok (.iaload, 1) := by decide +kernel
theorem dX5_doOrder_19 : decode cX5_doOrder 19 = .ok (.istore_n 2, 1) := by decide +kernel
theorem dX5_doOrder_20 : decode cX5_doOrder 20 = .ok (.aload_n 0, 1) := by decide +kernel
theorem dX5_doOrder_21 : decode cX5_doOrder 21 = .ok (.getfield 37, 3) := by decide +kernel
theorem dX5_doOrder_24 : decode cX5_doOrder 24 = .ok (.getfield 335, 3) := by decide +kernel
theorem dX5_doOrder_27 : decode cX5_doOrder 27 = .ok (.bipush 115, 2) := by decide +kernel
theorem dX5_doOrder_29 : decode cX5_doOrder 29 = .ok (.if_icmp .ne 46, 3) := by decide +kernel
theorem dX5_doOrder_32 : decode cX5_doOrder 32 = .ok (.aload_n 0, 1) := by decide +kernel
theorem dX5_doOrder_33 : decode cX5_doOrder 33 = .ok (.getfield 10, 3) := by decide +kernel
theorem dX5_doOrder_36 : decode cX5_doOrder 36 = .ok (.invokevirtual 50, 3) := by decide +kernel
theorem dX5_doOrder_39 : decode cX5_doOrder 39 = .ok (.ifCond .eq 5, 3) := by decide +kernel
theorem dX5_doOrder_42 : decode cX5_doOrder 42 = .ok (.iconst 0, 1) := by decide +kernel
theorem dX5_doOrder_43 : decode cX5_doOrder 43 = .ok (.ireturn, 1) := by decide +kernel
theorem dX5_doOrder_44 : decode cX5_doOrder 44 = .ok (.aload_n 0, 1) := by decide +kernel
theorem dX5_doOrder_45 : decode cX5_doOrder 45 = .ok (.getfield 10, 3) := by decide +kernel
theorem dX5_doOrder_48 : decode cX5_doOrder 48 = .ok (.iload_n 1, 1) := by decide +kernel
theorem dX5_doOrder_49 : decode cX5_doOrder 49 = .ok (.iload_n 2, 1) := by decide +kernel
theorem dX5_doOrder_50 : decode cX5_doOrder 50 = .ok (.aload_n 0, 1) := by decide +kernel
theorem dX5_doOrder_51 : decode cX5_doOrder 51 = .ok (.getfield 37, 3) := by decide +kernel
theorem dX5_doOrder_54 : decode cX5_doOrder 54 = .ok (.getfield 332, 3) := by decide +kernel
theorem dX5_doOrder_57 : decode cX5_doOrder 57 = .ok (.iconst 2, 1) := by decide +kernel
theorem dX5_doOrder_58 : decode cX5_doOrder 58 = .ok (.iaload, 1) := by decide +kernel
theorem dX5_doOrder_59 : decode cX5_doOrder 59 = .ok (.aload_n 0, 1) := by decide +kernel
theorem dX5_doOrder_60 : decode cX5_doOrder 60 = .ok (.getfield 37, 3) := by decide +kernel
theorem dX5_doOrder_63 : decode cX5_doOrder 63 = .ok (.getfield 332, 3) := by decide +kernel
theorem dX5_doOrder_66 : decode cX5_doOrder 66 = .ok (.iconst 3, 1) := by decide +kernel
theorem dX5_doOrder_67 : decode cX5_doOrder 67 = .ok (.iaload, 1) := by decide +kernel
theorem dX5_doOrder_68 : decode cX5_doOrder 68 = .ok (.invokevirtual 63, 3) := by decide +kernel
theorem dX5_doOrder_71 : decode cX5_doOrder 71 = .ok (.pop, 1) := by decide +kernel
theorem dX5_doOrder_72 : decode cX5_doOrder 72 = .ok (.goto 74, 3) := by decide +kernel
theorem dX5_doOrder_75 : decode cX5_doOrder 75 = .ok (.aload_n 0, 1) := by decide +kernel
theorem dX5_doOrder_76 : decode cX5_doOrder 76 = .ok (.getfield 37, 3) := by decide +kernel
theorem dX5_doOrder_79 : decode cX5_doOrder 79 = .ok (.getfield 335, 3) := by decide +kernel
theorem dX5_doOrder_82 : decode cX5_doOrder 82 = .ok (.bipush 112, 2) := by decide +kernel
theorem dX5_doOrder_84 : decode cX5_doOrder 84 = .ok (.if_icmp .ne 41, 3) := by decide +kernel
theorem dX5_doOrder_87 : decode cX5_doOrder 87 = .ok (.iload_n 1, 1) := by decide +kernel
theorem dX5_doOrder_88 : decode cX5_doOrder 88 = .ok (.aload_n 0, 1) := by decide +kernel
theorem dX5_doOrder_89 : decode cX5_doOrder 89 = .ok (.getfield 10, 3) := by decide +kernel
theorem dX5_doOrder_92 : decode cX5_doOrder 92 = .ok (.getfield 228, 3) := by decide +kernel
theorem dX5_doOrder_95 : decode cX5_doOrder 95 = .ok (.if_icmp .ge 15, 3) := by decide +kernel
theorem dX5_doOrder_98 : decode cX5_doOrder 98 = .ok (.aload_n 0, 1) := by decide +kernel
theorem dX5_doOrder_99 : decode cX5_doOrder 99 = .ok (.getfield 10, 3) := by decide +kernel
theorem dX5_doOrder_102 : decode cX5_doOrder 102 = .ok (.iload_n 2, 1) := by decide +kernel
theorem dX5_doOrder_103 : decode cX5_doOrder 103 = .ok (.invokevirtual 75, 3) := by decide +kernel
theorem dX5_doOrder_106 : decode cX5_doOrder 106 = .ok (.iconst (-1), 1) := by decide +kernel
theorem dX5_doOrder_107 : decode cX5_doOrder 107 = .ok (.if_icmp .eq 5, 3) := by decide +kernel
theorem dX5_doOrder_110 : decode cX5_doOrder 110 = .ok (.iconst 0, 1) := by decide +kernel
theorem dX5_doOrder_111 : decode cX5_doOrder 111 = .ok (.ireturn, 1) := by decide +kernel
theorem dX5_doOrder_112 : decode cX5_doOrder 112 = .ok (.aload_n 0, 1) := by decide +kernel
theorem dX5_doOrder_113 : decode cX5_doOrder 113 = .ok (.getfield 10, 3) := by decide +kernel
theorem dX5_doOrder_116 : decode cX5_doOrder 116 = .ok (.iload_n 1, 1) := by decide +kernel
theorem dX5_doOrder_117 : decode cX5_doOrder 117 = .ok (.iload_n 2, 1) := by decide +kernel
theorem dX5_doOrder_118 : decode cX5_doOrder 118 = .ok (.invokevirtual 81, 3) := by decide +kernel
theorem dX5_doOrder_121 : decode cX5_doOrder 121 = .ok (.pop, 1) := by decide +kernel
theorem dX5_doOrder_122 : decode cX5_doOrder 122 = .ok (.goto 24, 3) := by decide +kernel
theorem dX5_doOrder_125 : decode cX5_doOrder 125 = .ok (.aload_n 0, 1) := by decide +kernel
theorem dX5_doOrder_126 : decode cX5_doOrder 126 = .ok (.getfield 10, 3) := by decide +kernel
theorem dX5_doOrder_129 : decode cX5_doOrder 129 = .ok (.iload_n 1, 1) := by decide +kernel
theorem dX5_doOrder_130 : decode cX5_doOrder 130 = .ok (.invokevirtual 127, 3) := by decide +kernel
theorem dX5_doOrder_133 : decode cX5_doOrder 133 = .ok (.ifCond .ne 5, 3) := by decide +kernel
theorem dX5_doOrder_136 : decode cX5_doOrder 136 = .ok (.iconst 0, 1) := by decide +kernel
theorem dX5_doOrder_137 : decode cX5_doOrder 137 = .ok (.ireturn, 1) := by decide +kernel
theorem dX5_doOrder_138 : decode cX5_doOrder 138 = .ok (.aload_n 0, 1) := by decide +kernel
theorem dX5_doOrder_139 : decode cX5_doOrder 139 = .ok (.getfield 10, 3) := by decide +kernel
theorem dX5_doOrder_142 : decode cX5_doOrder 142 = .ok (.iload_n 1, 1) := by decide +kernel
theorem dX5_doOrder_143 : decode cX5_doOrder 143 = .ok (.invokevirtual 137, 3) := by decide +kernel
theorem dX5_doOrder_146 : decode cX5_doOrder 146 = .ok (.iconst 1, 1) := by decide +kernel
theorem dX5_doOrder_147 : decode cX5_doOrder 147 = .ok (.ireturn, 1) := by decide +kernel
theorem dX5_isTakenFor_0 : decode cX5_isTakenFor 0 = .ok (.aload_n 0, 1) := by decide +kernel
theorem dX5_isTakenFor_1 : decode cX5_isTakenFor 1 = .ok (.getfield 10, 3) := by decide +kernel
theorem dX5_isTakenFor_4 : decode cX5_isTakenFor 4 = .ok (.iload_n 2, 1) := by decide +kernel
theorem dX5_isTakenFor_5 : decode cX5_isTakenFor 5 = .ok (.invokevirtual 75, 3) := by decide +kernel
theorem dX5_isTakenFor_8 : decode cX5_isTakenFor 8 = .ok (.istore_n 3, 1) := by decide +kernel
theorem dX5_isTakenFor_9 : decode cX5_isTakenFor 9 = .ok (.iload_n 3, 1) := by decide +kernel
theorem dX5_isTakenFor_10 : decode cX5_isTakenFor 10 = .ok (.iconst (-1), 1) := by decide +kernel
theorem dX5_isTakenFor_11 : decode cX5_isTakenFor 11 = .ok (.if_icmp .eq 12, 3) := by decide +kernel
theorem dX5_isTakenFor_14 : decode cX5_isTakenFor 14 = .ok (.iload_n 3, 1) := by decide +kernel
theorem dX5_isTakenFor_15 : decode cX5_isTakenFor 15 = .ok (.iload_n 1, 1) := by decide +kernel
theorem dX5_isTakenFor_16 : decode cX5_isTakenFor 16 = .ok (.if_icmp .eq 7, 3) := by decide +kernel
theorem dX5_isTakenFor_19 : decode cX5_isTakenFor 19 = .ok (.iconst 1, 1) := by decide +kernel
theorem dX5_isTakenFor_20 : decode cX5_isTakenFor 20 = .ok (.goto 4, 3) := by decide +kernel
theorem dX5_isTakenFor_23 : decode cX5_isTakenFor 23 = .ok (.iconst 0, 1) := by decide +kernel
theorem dX5_isTakenFor_24 : decode cX5_isTakenFor 24 = .ok (.ireturn, 1) := by decide +kernel
theorem dX5_tryAt_0 : decode cX5_tryAt 0 = .ok (.aload_n 0, 1) := by decide +kernel
theorem dX5_tryAt_1 : decode cX5_tryAt 1 = .ok (.getfield 16, 3) := by decide +kernel
theorem dX5_tryAt_4 : decode cX5_tryAt 4 = .ok (.aload_n 0, 1) := by decide +kernel
theorem dX5_tryAt_5 : decode cX5_tryAt 5 = .ok (.getfield 10, 3) := by decide +kernel
theorem dX5_tryAt_8 : decode cX5_tryAt 8 = .ok (.invokevirtual 173, 3) := by decide +kernel
theorem dX5_tryAt_11 : decode cX5_tryAt 11 = .ok (.aload_n 0, 1) := by decide +kernel
theorem dX5_tryAt_12 : decode cX5_tryAt 12 = .ok (.getfield 16, 3) := by decide +kernel
theorem dX5_tryAt_15 : decode cX5_tryAt 15 = .ok (.iload_n 1, 1) := by decide +kernel
theorem dX5_tryAt_16 : decode cX5_tryAt 16 = .ok (.iload_n 2, 1) := by decide +kernel
theorem dX5_tryAt_17 : decode cX5_tryAt 17 = .ok (.invokevirtual 81, 3) := by decide +kernel
theorem dX5_tryAt_20 : decode cX5_tryAt 20 = .ok (.pop, 1) := by decide +kernel
theorem dX5_tryAt_21 : decode cX5_tryAt 21 = .ok (.aload_n 0, 1) := by decide +kernel
theorem dX5_tryAt_22 : decode cX5_tryAt 22 = .ok (.getfield 16, 3) := by decide +kernel
theorem dX5_tryAt_25 : decode cX5_tryAt 25 = .ok (.iload_n 3, 1) := by decide +kernel
theorem dX5_tryAt_26 : decode cX5_tryAt 26 = .ok (.invokevirtual 137, 3) := by decide +kernel
theorem dX5_tryAt_29 : decode cX5_tryAt 29 = .ok (.return_, 1) := by decide +kernel
theorem dX5_wouldTripWith_0 : decode cX5_wouldTripWith 0 = .ok (.aload_n 0, 1) := by decide +kernel
theorem dX5_wouldTripWith_1 : decode cX5_wouldTripWith 1 = .ok (.getfield 16, 3) := by decide +kernel
theorem dX5_wouldTripWith_4 : decode cX5_wouldTripWith 4 = .ok (.aload_n 0, 1) := by decide +kernel
theorem dX5_wouldTripWith_5 : decode cX5_wouldTripWith 5 = .ok (.getfield 10, 3) := by decide +kernel
theorem dX5_wouldTripWith_8 : decode cX5_wouldTripWith 8 = .ok (.invokevirtual 173, 3) := by decide +kernel
theorem dX5_wouldTripWith_11 : decode cX5_wouldTripWith 11 = .ok (.aload_n 0, 1) := by decide +kernel
theorem dX5_wouldTripWith_12 : decode cX5_wouldTripWith 12 = .ok (.getfield 16, 3) := by decide +kernel
theorem dX5_wouldTripWith_15 : decode cX5_wouldTripWith 15 = .ok (.getfield 101, 3) := by decide +kernel
theorem dX5_wouldTripWith_18 : decode cX5_wouldTripWith 18 = .ok (.iload_n 1, 1) := by decide +kernel
theorem dX5_wouldTripWith_19 : decode cX5_wouldTripWith 19 = .ok (.aaload, 1) := by decide +kernel
theorem dX5_wouldTripWith_20 : decode cX5_wouldTripWith 20 = .ok (.astore_n 3, 1) := by decide +kernel
theorem dX5_wouldTripWith_21 : decode cX5_wouldTripWith 21 = .ok (.aload_n 3, 1) := by decide +kernel
theorem dX5_wouldTripWith_22 : decode cX5_wouldTripWith 22 = .ok (.invokevirtual 115, 3) := by decide +kernel
theorem dX5_wouldTripWith_25 : decode cX5_wouldTripWith 25 = .ok (.aload_n 3, 1) := by decide +kernel
theorem dX5_wouldTripWith_26 : decode cX5_wouldTripWith 26 = .ok (.iload_n 2, 1) := by decide +kernel
theorem dX5_wouldTripWith_27 : decode cX5_wouldTripWith 27 = .ok (.putfield 105, 3) := by decide +kernel
theorem dX5_wouldTripWith_30 : decode cX5_wouldTripWith 30 = .ok (.iconst 0, 1) := by decide +kernel
theorem dX5_wouldTripWith_31 : decode cX5_wouldTripWith 31 = .ok (.istore 4, 2) := by decide +kernel
theorem dX5_wouldTripWith_33 : decode cX5_wouldTripWith 33 = .ok (.iload 4, 2) := by decide +kernel
theorem dX5_wouldTripWith_35 : decode cX5_wouldTripWith 35 = .ok (.bipush 48, 2) := by decide +kernel
theorem dX5_wouldTripWith_37 : decode cX5_wouldTripWith 37 = .ok (.if_icmp .ge 23, 3) := by decide +kernel
theorem dX5_wouldTripWith_40 : decode cX5_wouldTripWith 40 = .ok (.aload_n 3, 1) := by decide +kernel
theorem dX5_wouldTripWith_41 : decode cX5_wouldTripWith 41 = .ok (.getfield 110, 3) := by decide +kernel
theorem dX5_wouldTripWith_44 : decode cX5_wouldTripWith 44 = .ok (.ifCond .eq 16, 3) := by decide +kernel
theorem dX5_wouldTripWith_47 : decode cX5_wouldTripWith 47 = .ok (.aload_n 0, 1) := by decide +kernel
theorem dX5_wouldTripWith_48 : decode cX5_wouldTripWith 48 = .ok (.getfield 16, 3) := by decide +kernel
theorem dX5_wouldTripWith_51 : decode cX5_wouldTripWith 51 = .ok (.invokevirtual 260, 3) := by decide +kernel
theorem dX5_wouldTripWith_54 : decode cX5_wouldTripWith 54 = .ok (.iinc 4 1, 3) := by decide +kernel
theorem dX5_wouldTripWith_57 : decode cX5_wouldTripWith 57 = .ok (.goto (-24), 3) := by decide +kernel
theorem dX5_wouldTripWith_60 : decode cX5_wouldTripWith 60 = .ok (.aload_n 3, 1) := by decide +kernel
theorem dX5_wouldTripWith_61 : decode cX5_wouldTripWith 61 = .ok (.getfield 110, 3) := by decide +kernel
theorem dX5_wouldTripWith_64 : decode cX5_wouldTripWith 64 = .ok (.ifCond .ne 7, 3) := by decide +kernel
theorem dX5_wouldTripWith_67 : decode cX5_wouldTripWith 67 = .ok (.iconst 1, 1) := by decide +kernel
theorem dX5_wouldTripWith_68 : decode cX5_wouldTripWith 68 = .ok (.goto 4, 3) := by decide +kernel
theorem dX5_wouldTripWith_71 : decode cX5_wouldTripWith 71 = .ok (.iconst 0, 1) := by decide +kernel
theorem dX5_wouldTripWith_72 : decode cX5_wouldTripWith 72 = .ok (.ireturn, 1) := by decide +kernel
theorem dX5_mix_0 : decode cX5_mix 0 = .ok (.ldc2_w 339, 3) := by decide +kernel
theorem dX5_mix_3 : decode cX5_mix 3 = .ok (.lload_n 0, 1) := by decide +kernel
theorem dX5_mix_4 : decode cX5_mix 4 = .ok (.lmul, 1) := by decide +kernel
theorem dX5_mix_5 : decode cX5_mix 5 = .ok (.lload_n 2, 1) := by decide +kernel
theorem dX5_mix_6 : decode cX5_mix 6 = .ok (.ladd, 1) := by decide +kernel
theorem dX5_mix_7 : decode cX5_mix 7 = .ok (.lreturn, 1) := by decide +kernel
theorem dX5_mixBuffer_0 : decode cX5_mixBuffer 0 = .ok (.lload_n 1, 1) := by decide +kernel
theorem dX5_mixBuffer_1 : decode cX5_mixBuffer 1 = .ok (.aload_n 0, 1) := by decide +kernel
theorem dX5_mixBuffer_2 : decode cX5_mixBuffer 2 = .ok (.getfield 37, 3) := by decide +kernel
theorem dX5_mixBuffer_5 : decode cX5_mixBuffer 5 = .ok (.getfield 153, 3) := by decide +kernel
theorem dX5_mixBuffer_8 : decode cX5_mixBuffer 8 = .ok (.i2l, 1) := by decide +kernel
theorem dX5_mixBuffer_9 : decode cX5_mixBuffer 9 = .ok (.invokestatic 274, 3) := by decide +kernel
theorem dX5_mixBuffer_12 : decode cX5_mixBuffer 12 = .ok (.lstore_n 3, 1) := by decide +kernel
theorem dX5_mixBuffer_13 : decode cX5_mixBuffer 13 = .ok (.iconst 0, 1) := by decide +kernel
theorem dX5_mixBuffer_14 : decode cX5_mixBuffer 14 = .ok (.istore 5, 2) := by decide +kernel
theorem dX5_mixBuffer_16 : decode cX5_mixBuffer 16 = .ok (.iload 5, 2) := by decide +kernel
theorem dX5_mixBuffer_18 : decode cX5_mixBuffer 18 = .ok (.aload_n 0, 1) := by decide +kernel
theorem dX5_mixBuffer_19 : decode cX5_mixBuffer 19 = .ok (.getfield 37, 3) := by decide +kernel
theorem dX5_mixBuffer_22 : decode cX5_mixBuffer 22 = .ok (.getfield 153, 3) := by decide +kernel
theorem dX5_mixBuffer_25 : decode cX5_mixBuffer 25 = .ok (.if_icmp .ge 25, 3) := by decide +kernel
theorem dX5_mixBuffer_28 : decode cX5_mixBuffer 28 = .ok (.lload_n 3, 1) := by decide +kernel
theorem dX5_mixBuffer_29 : decode cX5_mixBuffer 29 = .ok (.aload_n 0, 1) := by decide +kernel
theorem dX5_mixBuffer_30 : decode cX5_mixBuffer 30 = .ok (.getfield 37, 3) := by decide +kernel
theorem dX5_mixBuffer_33 : decode cX5_mixBuffer 33 = .ok (.getfield 158, 3) := by decide +kernel
theorem dX5_mixBuffer_36 : decode cX5_mixBuffer 36 = .ok (.iload 5, 2) := by decide +kernel
theorem dX5_mixBuffer_38 : decode cX5_mixBuffer 38 = .ok (.caload, 1) := by decide +kernel
theorem dX5_mixBuffer_39 : decode cX5_mixBuffer 39 = .ok (.i2l, 1) := by decide +kernel
theorem dX5_mixBuffer_40 : decode cX5_mixBuffer 40 = .ok (.invokestatic 274, 3) := by decide +kernel
theorem dX5_mixBuffer_43 : decode cX5_mixBuffer 43 = .ok (.lstore_n 3, 1) := by decide +kernel
theorem dX5_mixBuffer_44 : decode cX5_mixBuffer 44 = .ok (.iinc 5 1, 3) := by decide +kernel
theorem dX5_mixBuffer_47 : decode cX5_mixBuffer 47 = .ok (.goto (-31), 3) := by decide +kernel
theorem dX5_mixBuffer_50 : decode cX5_mixBuffer 50 = .ok (.lload_n 3, 1) := by decide +kernel
theorem dX5_mixBuffer_51 : decode cX5_mixBuffer 51 = .ok (.lreturn, 1) := by decide +kernel
theorem dX5_bitsOf_0 : decode cX5_bitsOf 0 = .ok (.dload_n 0, 1) := by decide +kernel
theorem dX5_bitsOf_1 : decode cX5_bitsOf 1 = .ok (.dconst 0, 1) := by decide +kernel
theorem dX5_bitsOf_2 : decode cX5_bitsOf 2 = .ok (.dcmp .g, 1) := by decide +kernel
theorem dX5_bitsOf_3 : decode cX5_bitsOf 3 = .ok (.ifCond .gt 5, 3) := by decide +kernel
theorem dX5_bitsOf_6 : decode cX5_bitsOf 6 = .ok (.lconst 0, 1) := by decide +kernel
theorem dX5_bitsOf_7 : decode cX5_bitsOf 7 = .ok (.lreturn, 1) := by decide +kernel
theorem dX5_bitsOf_8 : decode cX5_bitsOf 8 = .ok (.dload_n 0, 1) := by decide +kernel
theorem dX5_bitsOf_9 : decode cX5_bitsOf 9 = .ok (.dstore_n 2, 1) := by decide +kernel
theorem dX5_bitsOf_10 : decode cX5_bitsOf 10 = .ok (.ldc2_w 341, 3) := by decide +kernel
theorem dX5_bitsOf_13 : decode cX5_bitsOf 13 = .ok (.lstore 4, 2) := by decide +kernel
theorem dX5_bitsOf_15 : decode cX5_bitsOf 15 = .ok (.dload_n 2, 1) := by decide +kernel
theorem dX5_bitsOf_16 : decode cX5_bitsOf 16 = .ok (.dconst 1, 1) := by decide +kernel
theorem dX5_bitsOf_17 : decode cX5_bitsOf 17 = .ok (.dcmp .g, 1) := by decide +kernel
theorem dX5_bitsOf_18 : decode cX5_bitsOf 18 = .ok (.ifCond .ge 25, 3) := by decide +kernel
theorem dX5_bitsOf_21 : decode cX5_bitsOf 21 = .ok (.lload 4, 2) := by decide +kernel
theorem dX5_bitsOf_23 : decode cX5_bitsOf 23 = .ok (.lconst 1, 1) := by decide +kernel
theorem dX5_bitsOf_24 : decode cX5_bitsOf 24 = .ok (.lcmp, 1) := by decide +kernel
theorem dX5_bitsOf_25 : decode cX5_bitsOf 25 = .ok (.ifCond .le 18, 3) := by decide +kernel
theorem dX5_bitsOf_28 : decode cX5_bitsOf 28 = .ok (.dload_n 2, 1) := by decide +kernel
theorem dX5_bitsOf_29 : decode cX5_bitsOf 29 = .ok (.ldc2_w 343, 3) := by decide +kernel
theorem dX5_bitsOf_32 : decode cX5_bitsOf 32 = .ok (.dmul, 1) := by decide +kernel
theorem dX5_bitsOf_33 : decode cX5_bitsOf 33 = .ok (.dstore_n 2, 1) := by decide +kernel
theorem dX5_bitsOf_34 : decode cX5_bitsOf 34 = .ok (.lload 4, 2) := by decide +kernel
theorem dX5_bitsOf_36 : decode cX5_bitsOf 36 = .ok (.lconst 1, 1) := by decide +kernel
theorem dX5_bitsOf_37 : decode cX5_bitsOf 37 = .ok (.lsub, 1) := by decide +kernel
theorem dX5_bitsOf_38 : decode cX5_bitsOf 38 = .ok (.lstore 4, 2) := by decide +kernel
theorem dX5_bitsOf_40 : decode cX5_bitsOf 40 = .ok (.goto (-25), 3) := by decide +kernel
theorem dX5_bitsOf_43 : decode cX5_bitsOf 43 = .ok (.dload_n 2, 1) := by decide +kernel
theorem dX5_bitsOf_44 : decode cX5_bitsOf 44 = .ok (.dconst 1, 1) := by decide +kernel
theorem dX5_bitsOf_45 : decode cX5_bitsOf 45 = .ok (.dsub, 1) := by decide +kernel
theorem dX5_bitsOf_46 : decode cX5_bitsOf 46 = .ok (.ldc2_w 345, 3) := by decide +kernel
theorem dX5_bitsOf_49 : decode cX5_bitsOf 49 = .ok (.dmul, 1) := by decide +kernel
theorem dX5_bitsOf_50 : decode cX5_bitsOf 50 = .ok (.d2l, 1) := by decide +kernel
theorem dX5_bitsOf_51 : decode cX5_bitsOf 51 = .ok (.lstore 6, 2) := by decide +kernel
theorem dX5_bitsOf_53 : decode cX5_bitsOf 53 = .ok (.lload 4, 2) := by decide +kernel
theorem dX5_bitsOf_55 : decode cX5_bitsOf 55 = .ok (.bipush 52, 2) := by decide +kernel
theorem dX5_bitsOf_57 : decode cX5_bitsOf 57 = .ok (.lshl, 1) := by decide +kernel
theorem dX5_bitsOf_58 : decode cX5_bitsOf 58 = .ok (.lload 6, 2) := by decide +kernel
theorem dX5_bitsOf_60 : decode cX5_bitsOf 60 = .ok (.ladd, 1) := by decide +kernel
theorem dX5_bitsOf_61 : decode cX5_bitsOf 61 = .ok (.lreturn, 1) := by decide +kernel
