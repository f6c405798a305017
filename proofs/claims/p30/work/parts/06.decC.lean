theorem dL_cell_0 : decode cL_cell 0 = .ok (.iload_n 1, 1) := by decide +kernel
theorem dL_cell_1 : decode cL_cell 1 = .ok (.aload_n 0, 1) := by decide +kernel
theorem dL_cell_2 : decode cL_cell 2 = .ok (.arraylength, 1) := by decide +kernel
theorem dL_cell_3 : decode cL_cell 3 = .ok (.if_icmp .ge 9, 3) := by decide +kernel
theorem dL_cell_6 : decode cL_cell 6 = .ok (.aload_n 0, 1) := by decide +kernel
theorem dL_cell_7 : decode cL_cell 7 = .ok (.iload_n 1, 1) := by decide +kernel
theorem dL_cell_8 : decode cL_cell 8 = .ok (.iaload, 1) := by decide +kernel
theorem dL_cell_9 : decode cL_cell 9 = .ok (.goto 10, 3) := by decide +kernel
theorem dL_cell_12 : decode cL_cell 12 = .ok (.ldc 7, 2) := by decide +kernel
theorem dL_cell_14 : decode cL_cell 14 = .ok (.iload_n 1, 1) := by decide +kernel
theorem dL_cell_15 : decode cL_cell 15 = .ok (.imul, 1) := by decide +kernel
theorem dL_cell_16 : decode cL_cell 16 = .ok (.ldc 8, 2) := by decide +kernel
theorem dL_cell_18 : decode cL_cell 18 = .ok (.iadd, 1) := by decide +kernel
theorem dL_cell_19 : decode cL_cell 19 = .ok (.ireturn, 1) := by decide +kernel
theorem dL_low_0 : decode cL_low 0 = .ok (.iload_n 0, 1) := by decide +kernel
theorem dL_low_1 : decode cL_low 1 = .ok (.ldc 9, 2) := by decide +kernel
theorem dL_low_3 : decode cL_low 3 = .ok (.iand, 1) := by decide +kernel
theorem dL_low_4 : decode cL_low 4 = .ok (.iload_n 1, 1) := by decide +kernel
theorem dL_low_5 : decode cL_low 5 = .ok (.irem, 1) := by decide +kernel
theorem dL_low_6 : decode cL_low 6 = .ok (.ireturn, 1) := by decide +kernel
theorem dL_breaker_0 : decode cL_breaker 0 = .ok (.aload_n 0, 1) := by decide +kernel
theorem dL_breaker_1 : decode cL_breaker 1 = .ok (.iconst 0, 1) := by decide +kernel
theorem dL_breaker_2 : decode cL_breaker 2 = .ok (.iaload, 1) := by decide +kernel
theorem dL_breaker_3 : decode cL_breaker 3 = .ok (.iload_n 1, 1) := by decide +kernel
theorem dL_breaker_4 : decode cL_breaker 4 = .ok (.ishr, 1) := by decide +kernel
theorem dL_breaker_5 : decode cL_breaker 5 = .ok (.iconst 1, 1) := by decide +kernel
theorem dL_breaker_6 : decode cL_breaker 6 = .ok (.iand, 1) := by decide +kernel
theorem dL_breaker_7 : decode cL_breaker 7 = .ok (.iconst 1, 1) := by decide +kernel
theorem dL_breaker_8 : decode cL_breaker 8 = .ok (.if_icmp .ne 7, 3) := by decide +kernel
theorem dL_breaker_11 : decode cL_breaker 11 = .ok (.iconst 3, 1) := by decide +kernel
theorem dL_breaker_12 : decode cL_breaker 12 = .ok (.goto 6, 3) := by decide +kernel
theorem dL_breaker_15 : decode cL_breaker 15 = .ok (.iload_n 1, 1) := by decide +kernel
theorem dL_breaker_16 : decode cL_breaker 16 = .ok (.iconst 3, 1) := by decide +kernel
theorem dL_breaker_17 : decode cL_breaker 17 = .ok (.idiv, 1) := by decide +kernel
theorem dL_breaker_18 : decode cL_breaker 18 = .ok (.ireturn, 1) := by decide +kernel
theorem dL_wants_0 : decode cL_wants 0 = .ok (.aload_n 0, 1) := by decide +kernel
theorem dL_wants_1 : decode cL_wants 1 = .ok (.bipush 6, 2) := by decide +kernel
theorem dL_wants_3 : decode cL_wants 3 = .ok (.iload_n 2, 1) := by decide +kernel
theorem dL_wants_4 : decode cL_wants 4 = .ok (.imul, 1) := by decide +kernel
theorem dL_wants_5 : decode cL_wants 5 = .ok (.iconst 2, 1) := by decide +kernel
theorem dL_wants_6 : decode cL_wants 6 = .ok (.iadd, 1) := by decide +kernel
theorem dL_wants_7 : decode cL_wants 7 = .ok (.iaload, 1) := by decide +kernel
theorem dL_wants_8 : decode cL_wants 8 = .ok (.aload_n 0, 1) := by decide +kernel
theorem dL_wants_9 : decode cL_wants 9 = .ok (.bipush 6, 2) := by decide +kernel
theorem dL_wants_11 : decode cL_wants 11 = .ok (.iload_n 2, 1) := by decide +kernel
theorem dL_wants_12 : decode cL_wants 12 = .ok (.imul, 1) := by decide +kernel
theorem dL_wants_13 : decode cL_wants 13 = .ok (.iconst 1, 1) := by decide +kernel
theorem dL_wants_14 : decode cL_wants 14 = .ok (.iadd, 1) := by decide +kernel
theorem dL_wants_15 : decode cL_wants 15 = .ok (.iaload, 1) := by decide +kernel
theorem dL_wants_16 : decode cL_wants 16 = .ok (.isub, 1) := by decide +kernel
theorem dL_wants_17 : decode cL_wants 17 = .ok (.bipush 24, 2) := by decide +kernel
theorem dL_wants_19 : decode cL_wants 19 = .ok (.iadd, 1) := by decide +kernel
theorem dL_wants_20 : decode cL_wants 20 = .ok (.bipush 24, 2) := by decide +kernel
theorem dL_wants_22 : decode cL_wants 22 = .ok (.irem, 1) := by decide +kernel
theorem dL_wants_23 : decode cL_wants 23 = .ok (.istore_n 3, 1) := by decide +kernel
theorem dL_wants_24 : decode cL_wants 24 = .ok (.aload_n 1, 1) := by decide +kernel
theorem dL_wants_25 : decode cL_wants 25 = .ok (.iconst 3, 1) := by decide +kernel
theorem dL_wants_26 : decode cL_wants 26 = .ok (.iaload, 1) := by decide +kernel
theorem dL_wants_27 : decode cL_wants 27 = .ok (.bipush 24, 2) := by decide +kernel
theorem dL_wants_29 : decode cL_wants 29 = .ok (.irem, 1) := by decide +kernel
theorem dL_wants_30 : decode cL_wants 30 = .ok (.aload_n 0, 1) := by decide +kernel
theorem dL_wants_31 : decode cL_wants 31 = .ok (.bipush 6, 2) := by decide +kernel
theorem dL_wants_33 : decode cL_wants 33 = .ok (.iload_n 2, 1) := by decide +kernel
theorem dL_wants_34 : decode cL_wants 34 = .ok (.imul, 1) := by decide +kernel
theorem dL_wants_35 : decode cL_wants 35 = .ok (.iconst 1, 1) := by decide +kernel
theorem dL_wants_36 : decode cL_wants 36 = .ok (.iadd, 1) := by decide +kernel
theorem dL_wants_37 : decode cL_wants 37 = .ok (.iaload, 1) := by decide +kernel
theorem dL_wants_38 : decode cL_wants 38 = .ok (.isub, 1) := by decide +kernel
theorem dL_wants_39 : decode cL_wants 39 = .ok (.bipush 24, 2) := by decide +kernel
theorem dL_wants_41 : decode cL_wants 41 = .ok (.iadd, 1) := by decide +kernel
theorem dL_wants_42 : decode cL_wants 42 = .ok (.bipush 24, 2) := by decide +kernel
theorem dL_wants_44 : decode cL_wants 44 = .ok (.irem, 1) := by decide +kernel
theorem dL_wants_45 : decode cL_wants 45 = .ok (.iload_n 3, 1) := by decide +kernel
theorem dL_wants_46 : decode cL_wants 46 = .ok (.if_icmp .gt 7, 3) := by decide +kernel
theorem dL_wants_49 : decode cL_wants 49 = .ok (.iconst 1, 1) := by decide +kernel
theorem dL_wants_50 : decode cL_wants 50 = .ok (.goto 4, 3) := by decide +kernel
theorem dL_wants_53 : decode cL_wants 53 = .ok (.iconst 0, 1) := by decide +kernel
theorem dL_wants_54 : decode cL_wants 54 = .ok (.ireturn, 1) := by decide +kernel
theorem dL_reason_0 : decode cL_reason 0 = .ok (.aload_n 0, 1) := by decide +kernel
theorem dL_reason_1 : decode cL_reason 1 = .ok (.aload_n 3, 1) := by decide +kernel
theorem dL_reason_2 : decode cL_reason 2 = .ok (.iload 4, 2) := by decide +kernel
theorem dL_reason_4 : decode cL_reason 4 = .ok (.invokestatic 10, 3) := by decide +kernel
theorem dL_reason_7 : decode cL_reason 7 = .ok (.ifCond .ne 7, 3) := by decide +kernel
theorem dL_reason_10 : decode cL_reason 10 = .ok (.iconst 1, 1) := by decide +kernel
theorem dL_reason_11 : decode cL_reason 11 = .ok (.goto 63, 3) := by decide +kernel
theorem dL_reason_14 : decode cL_reason 14 = .ok (.aload_n 0, 1) := by decide +kernel
theorem dL_reason_15 : decode cL_reason 15 = .ok (.bipush 6, 2) := by decide +kernel
theorem dL_reason_17 : decode cL_reason 17 = .ok (.iload 4, 2) := by decide +kernel
theorem dL_reason_19 : decode cL_reason 19 = .ok (.imul, 1) := by decide +kernel
theorem dL_reason_20 : decode cL_reason 20 = .ok (.iconst 4, 1) := by decide +kernel
theorem dL_reason_21 : decode cL_reason 21 = .ok (.iadd, 1) := by decide +kernel
theorem dL_reason_22 : decode cL_reason 22 = .ok (.iaload, 1) := by decide +kernel
theorem dL_reason_23 : decode cL_reason 23 = .ok (.ifCond .ge 7, 3) := by decide +kernel
theorem dL_reason_26 : decode cL_reason 26 = .ok (.iconst 2, 1) := by decide +kernel
theorem dL_reason_27 : decode cL_reason 27 = .ok (.goto 47, 3) := by decide +kernel
theorem dL_reason_30 : decode cL_reason 30 = .ok (.aload_n 1, 1) := by decide +kernel
theorem dL_reason_31 : decode cL_reason 31 = .ok (.iconst 5, 1) := by decide +kernel
theorem dL_reason_32 : decode cL_reason 32 = .ok (.aload_n 2, 1) := by decide +kernel
theorem dL_reason_33 : decode cL_reason 33 = .ok (.aload_n 0, 1) := by decide +kernel
theorem dL_reason_34 : decode cL_reason 34 = .ok (.bipush 6, 2) := by decide +kernel
theorem dL_reason_36 : decode cL_reason 36 = .ok (.iload 4, 2) := by decide +kernel
theorem dL_reason_38 : decode cL_reason 38 = .ok (.imul, 1) := by decide +kernel
theorem dL_reason_39 : decode cL_reason 39 = .ok (.iconst 4, 1) := by decide +kernel
theorem dL_reason_40 : decode cL_reason 40 = .ok (.iadd, 1) := by decide +kernel
theorem dL_reason_41 : decode cL_reason 41 = .ok (.iaload, 1) := by decide +kernel
theorem dL_reason_42 : decode cL_reason 42 = .ok (.invokestatic 16, 3) := by decide +kernel
theorem dL_reason_45 : decode cL_reason 45 = .ok (.imul, 1) := by decide +kernel
theorem dL_reason_46 : decode cL_reason 46 = .ok (.iconst 1, 1) := by decide +kernel
theorem dL_reason_47 : decode cL_reason 47 = .ok (.iadd, 1) := by decide +kernel
theorem dL_reason_48 : decode cL_reason 48 = .ok (.iaload, 1) := by decide +kernel
theorem dL_reason_49 : decode cL_reason 49 = .ok (.ifCond .ne 7, 3) := by decide +kernel
theorem dL_reason_52 : decode cL_reason 52 = .ok (.iconst 3, 1) := by decide +kernel
theorem dL_reason_53 : decode cL_reason 53 = .ok (.goto 21, 3) := by decide +kernel
theorem dL_reason_56 : decode cL_reason 56 = .ok (.aload_n 0, 1) := by decide +kernel
theorem dL_reason_57 : decode cL_reason 57 = .ok (.bipush 6, 2) := by decide +kernel
theorem dL_reason_59 : decode cL_reason 59 = .ok (.iload 4, 2) := by decide +kernel
theorem dL_reason_61 : decode cL_reason 61 = .ok (.imul, 1) := by decide +kernel
theorem dL_reason_62 : decode cL_reason 62 = .ok (.iconst 5, 1) := by decide +kernel
theorem dL_reason_63 : decode cL_reason 63 = .ok (.iadd, 1) := by decide +kernel
theorem dL_reason_64 : decode cL_reason 64 = .ok (.iaload, 1) := by decide +kernel
theorem dL_reason_65 : decode cL_reason 65 = .ok (.iconst 1, 1) := by decide +kernel
theorem dL_reason_66 : decode cL_reason 66 = .ok (.if_icmp .ne 7, 3) := by decide +kernel
theorem dL_reason_69 : decode cL_reason 69 = .ok (.iconst 4, 1) := by decide +kernel
theorem dL_reason_70 : decode cL_reason 70 = .ok (.goto 4, 3) := by decide +kernel
theorem dL_reason_73 : decode cL_reason 73 = .ok (.iconst 0, 1) := by decide +kernel
theorem dL_reason_74 : decode cL_reason 74 = .ok (.ireturn, 1) := by decide +kernel
theorem dL_carries_0 : decode cL_carries 0 = .ok (.iconst 0, 1) := by decide +kernel
theorem dL_carries_1 : decode cL_carries 1 = .ok (.istore 5, 2) := by decide +kernel
theorem dL_carries_3 : decode cL_carries 3 = .ok (.iconst 0, 1) := by decide +kernel
theorem dL_carries_4 : decode cL_carries 4 = .ok (.istore 6, 2) := by decide +kernel
theorem dL_carries_6 : decode cL_carries 6 = .ok (.iload 6, 2) := by decide +kernel
theorem dL_carries_8 : decode cL_carries 8 = .ok (.aload_n 3, 1) := by decide +kernel
theorem dL_carries_9 : decode cL_carries 9 = .ok (.iconst 4, 1) := by decide +kernel
theorem dL_carries_10 : decode cL_carries 10 = .ok (.iaload, 1) := by decide +kernel
theorem dL_carries_11 : decode cL_carries 11 = .ok (.if_icmp .ge 55, 3) := by decide +kernel
theorem dL_carries_14 : decode cL_carries 14 = .ok (.iload 5, 2) := by decide +kernel
theorem dL_carries_16 : decode cL_carries 16 = .ok (.aload_n 0, 1) := by decide +kernel
theorem dL_carries_17 : decode cL_carries 17 = .ok (.aload_n 1, 1) := by decide +kernel
theorem dL_carries_18 : decode cL_carries 18 = .ok (.aload_n 2, 1) := by decide +kernel
theorem dL_carries_19 : decode cL_carries 19 = .ok (.aload_n 3, 1) := by decide +kernel
theorem dL_carries_20 : decode cL_carries 20 = .ok (.iload 6, 2) := by decide +kernel
theorem dL_carries_22 : decode cL_carries 22 = .ok (.invokestatic 20, 3) := by decide +kernel
theorem dL_carries_25 : decode cL_carries 25 = .ok (.ifCond .ne 31, 3) := by decide +kernel
theorem dL_carries_28 : decode cL_carries 28 = .ok (.aload_n 2, 1) := by decide +kernel
theorem dL_carries_29 : decode cL_carries 29 = .ok (.aload_n 0, 1) := by decide +kernel
theorem dL_carries_30 : decode cL_carries 30 = .ok (.bipush 6, 2) := by decide +kernel
theorem dL_carries_32 : decode cL_carries 32 = .ok (.iload 6, 2) := by decide +kernel
theorem dL_carries_34 : decode cL_carries 34 = .ok (.imul, 1) := by decide +kernel
theorem dL_carries_35 : decode cL_carries 35 = .ok (.iconst 4, 1) := by decide +kernel
theorem dL_carries_36 : decode cL_carries 36 = .ok (.iadd, 1) := by decide +kernel
theorem dL_carries_37 : decode cL_carries 37 = .ok (.iaload, 1) := by decide +kernel
theorem dL_carries_38 : decode cL_carries 38 = .ok (.invokestatic 16, 3) := by decide +kernel
theorem dL_carries_41 : decode cL_carries 41 = .ok (.iload 4, 2) := by decide +kernel
theorem dL_carries_43 : decode cL_carries 43 = .ok (.if_icmp .ne 13, 3) := by decide +kernel
theorem dL_carries_46 : decode cL_carries 46 = .ok (.aload_n 0, 1) := by decide +kernel
theorem dL_carries_47 : decode cL_carries 47 = .ok (.bipush 6, 2) := by decide +kernel
theorem dL_carries_49 : decode cL_carries 49 = .ok (.iload 6, 2) := by decide +kernel
theorem dL_carries_51 : decode cL_carries 51 = .ok (.imul, 1) := by decide +kernel
theorem dL_carries_52 : decode cL_carries 52 = .ok (.iaload, 1) := by decide +kernel
theorem dL_carries_53 : decode cL_carries 53 = .ok (.goto 4, 3) := by decide +kernel
theorem dL_carries_56 : decode cL_carries 56 = .ok (.iconst 0, 1) := by decide +kernel
theorem dL_carries_57 : decode cL_carries 57 = .ok (.iadd, 1) := by decide +kernel
theorem dL_carries_58 : decode cL_carries 58 = .ok (.istore 5, 2) := by decide +kernel
theorem dL_carries_60 : decode cL_carries 60 = .ok (.iinc 6 1, 3) := by decide +kernel
theorem dL_carries_63 : decode cL_carries 63 = .ok (.goto (-57), 3) := by decide +kernel
theorem dL_carries_66 : decode cL_carries 66 = .ok (.iload 5, 2) := by decide +kernel
theorem dL_carries_68 : decode cL_carries 68 = .ok (.ireturn, 1) := by decide +kernel
theorem dL_hour_0 : decode cL_hour 0 = .ok (.iconst 0, 1) := by decide +kernel
theorem dL_hour_1 : decode cL_hour 1 = .ok (.istore 5, 2) := by decide +kernel
theorem dL_hour_3 : decode cL_hour 3 = .ok (.iload 5, 2) := by decide +kernel
theorem dL_hour_5 : decode cL_hour 5 = .ok (.iconst 4, 1) := by decide +kernel
theorem dL_hour_6 : decode cL_hour 6 = .ok (.if_icmp .ge 189, 3) := by decide +kernel
theorem dL_hour_9 : decode cL_hour 9 = .ok (.aload 4, 2) := by decide +kernel
theorem dL_hour_11 : decode cL_hour 11 = .ok (.iconst 1, 1) := by decide +kernel
theorem dL_hour_12 : decode cL_hour 12 = .ok (.iaload, 1) := by decide +kernel
theorem dL_hour_13 : decode cL_hour 13 = .ok (.iconst 1, 1) := by decide +kernel
theorem dL_hour_14 : decode cL_hour 14 = .ok (.if_icmp .ne 175, 3) := by decide +kernel
theorem dL_hour_17 : decode cL_hour 17 = .ok (.aload_n 2, 1) := by decide +kernel
theorem dL_hour_18 : decode cL_hour 18 = .ok (.iconst 5, 1) := by decide +kernel
theorem dL_hour_19 : decode cL_hour 19 = .ok (.iload 5, 2) := by decide +kernel
theorem dL_hour_21 : decode cL_hour 21 = .ok (.imul, 1) := by decide +kernel
theorem dL_hour_22 : decode cL_hour 22 = .ok (.iconst 1, 1) := by decide +kernel
theorem dL_hour_23 : decode cL_hour 23 = .ok (.iadd, 1) := by decide +kernel
theorem dL_hour_24 : decode cL_hour 24 = .ok (.iaload, 1) := by decide +kernel
theorem dL_hour_25 : decode cL_hour 25 = .ok (.iconst 1, 1) := by decide +kernel
theorem dL_hour_26 : decode cL_hour 26 = .ok (.if_icmp .ne 163, 3) := by decide +kernel
theorem dL_hour_29 : decode cL_hour 29 = .ok (.aload_n 0, 1) := by decide +kernel
theorem dL_hour_30 : decode cL_hour 30 = .ok (.aload_n 2, 1) := by decide +kernel
theorem dL_hour_31 : decode cL_hour 31 = .ok (.aload_n 3, 1) := by decide +kernel
theorem dL_hour_32 : decode cL_hour 32 = .ok (.aload 4, 2) := by decide +kernel
theorem dL_hour_34 : decode cL_hour 34 = .ok (.iload 5, 2) := by decide +kernel
theorem dL_hour_36 : decode cL_hour 36 = .ok (.invokestatic 24, 3) := by decide +kernel
theorem dL_hour_39 : decode cL_hour 39 = .ok (.aload_n 2, 1) := by decide +kernel
theorem dL_hour_40 : decode cL_hour 40 = .ok (.iconst 5, 1) := by decide +kernel
theorem dL_hour_41 : decode cL_hour 41 = .ok (.iload 5, 2) := by decide +kernel
theorem dL_hour_43 : decode cL_hour 43 = .ok (.imul, 1) := by decide +kernel
theorem dL_hour_44 : decode cL_hour 44 = .ok (.iaload, 1) := by decide +kernel
theorem dL_hour_45 : decode cL_hour 45 = .ok (.if_icmp .le 144, 3) := by decide +kernel
theorem dL_hour_48 : decode cL_hour 48 = .ok (.iconst (-1), 1) := by decide +kernel
theorem dL_hour_49 : decode cL_hour 49 = .ok (.istore 6, 2) := by decide +kernel
theorem dL_hour_51 : decode cL_hour 51 = .ok (.iconst (-1), 1) := by decide +kernel
theorem dL_hour_52 : decode cL_hour 52 = .ok (.istore 7, 2) := by decide +kernel
theorem dL_hour_54 : decode cL_hour 54 = .ok (.iconst 0, 1) := by decide +kernel
theorem dL_hour_55 : decode cL_hour 55 = .ok (.istore 8, 2) := by decide +kernel
theorem dL_hour_57 : decode cL_hour 57 = .ok (.iload 8, 2) := by decide +kernel
theorem dL_hour_59 : decode cL_hour 59 = .ok (.aload 4, 2) := by decide +kernel
theorem dL_hour_61 : decode cL_hour 61 = .ok (.iconst 4, 1) := by decide +kernel
theorem dL_hour_62 : decode cL_hour 62 = .ok (.iaload, 1) := by decide +kernel
theorem dL_hour_63 : decode cL_hour 63 = .ok (.if_icmp .ge 105, 3) := by decide +kernel
theorem dL_hour_66 : decode cL_hour 66 = .ok (.sipush 1000, 3) := by decide +kernel
theorem dL_hour_69 : decode cL_hour 69 = .ok (.aload_n 0, 1) := by decide +kernel
theorem dL_hour_70 : decode cL_hour 70 = .ok (.bipush 6, 2) := by decide +kernel
theorem dL_hour_72 : decode cL_hour 72 = .ok (.iload 8, 2) := by decide +kernel
theorem dL_hour_74 : decode cL_hour 74 = .ok (.imul, 1) := by decide +kernel
theorem dL_hour_75 : decode cL_hour 75 = .ok (.iconst 3, 1) := by decide +kernel
theorem dL_hour_76 : decode cL_hour 76 = .ok (.iadd, 1) := by decide +kernel
theorem dL_hour_77 : decode cL_hour 77 = .ok (.iaload, 1) := by decide +kernel
theorem dL_hour_78 : decode cL_hour 78 = .ok (.imul, 1) := by decide +kernel
theorem dL_hour_79 : decode cL_hour 79 = .ok (.aload_n 0, 1) := by decide +kernel
theorem dL_hour_80 : decode cL_hour 80 = .ok (.bipush 6, 2) := by decide +kernel
theorem dL_hour_82 : decode cL_hour 82 = .ok (.iload 8, 2) := by decide +kernel
theorem dL_hour_84 : decode cL_hour 84 = .ok (.imul, 1) := by decide +kernel
theorem dL_hour_85 : decode cL_hour 85 = .ok (.iaload, 1) := by decide +kernel
theorem dL_hour_86 : decode cL_hour 86 = .ok (.iadd, 1) := by decide +kernel
theorem dL_hour_87 : decode cL_hour 87 = .ok (.istore 9, 2) := by decide +kernel
theorem dL_hour_89 : decode cL_hour 89 = .ok (.aload_n 0, 1) := by decide +kernel
theorem dL_hour_90 : decode cL_hour 90 = .ok (.aload_n 2, 1) := by decide +kernel
theorem dL_hour_91 : decode cL_hour 91 = .ok (.aload_n 3, 1) := by decide +kernel
theorem dL_hour_92 : decode cL_hour 92 = .ok (.aload 4, 2) := by decide +kernel
theorem dL_hour_94 : decode cL_hour 94 = .ok (.iload 8, 2) := by decide +kernel
theorem dL_hour_96 : decode cL_hour 96 = .ok (.invokestatic 20, 3) := by decide +kernel
theorem dL_hour_99 : decode cL_hour 99 = .ok (.ifCond .ne 32, 3) := by decide +kernel
theorem dL_hour_102 : decode cL_hour 102 = .ok (.aload_n 3, 1) := by decide +kernel
theorem dL_hour_103 : decode cL_hour 103 = .ok (.aload_n 0, 1) := by decide +kernel
theorem dL_hour_104 : decode cL_hour 104 = .ok (.bipush 6, 2) := by decide +kernel
theorem dL_hour_106 : decode cL_hour 106 = .ok (.iload 8, 2) := by decide +kernel
theorem dL_hour_108 : decode cL_hour 108 = .ok (.imul, 1) := by decide +kernel
theorem dL_hour_109 : decode cL_hour 109 = .ok (.iconst 4, 1) := by decide +kernel
theorem dL_hour_110 : decode cL_hour 110 = .ok (.iadd, 1) := by decide +kernel
theorem dL_hour_111 : decode cL_hour 111 = .ok (.iaload, 1) := by decide +kernel
theorem dL_hour_112 : decode cL_hour 112 = .ok (.invokestatic 16, 3) := by decide +kernel
theorem dL_hour_115 : decode cL_hour 115 = .ok (.iload 5, 2) := by decide +kernel
theorem dL_hour_117 : decode cL_hour 117 = .ok (.if_icmp .ne 14, 3) := by decide +kernel
theorem dL_hour_120 : decode cL_hour 120 = .ok (.iload 9, 2) := by decide +kernel
theorem dL_hour_122 : decode cL_hour 122 = .ok (.iload 7, 2) := by decide +kernel
theorem dL_hour_124 : decode cL_hour 124 = .ok (.if_icmp .le 7, 3) := by decide +kernel
theorem dL_hour_127 : decode cL_hour 127 = .ok (.iconst 1, 1) := by decide +kernel
theorem dL_hour_128 : decode cL_hour 128 = .ok (.goto 4, 3) := by decide +kernel
theorem dL_hour_131 : decode cL_hour 131 = .ok (.iconst 0, 1) := by decide +kernel
theorem dL_hour_132 : decode cL_hour 132 = .ok (.istore 10, 2) := by decide +kernel
theorem dL_hour_134 : decode cL_hour 134 = .ok (.iload 10, 2) := by decide +kernel
theorem dL_hour_136 : decode cL_hour 136 = .ok (.ifCond .eq 8, 3) := by decide +kernel
theorem dL_hour_139 : decode cL_hour 139 = .ok (.iload 8, 2) := by decide +kernel
theorem dL_hour_141 : decode cL_hour 141 = .ok (.goto 5, 3) := by decide +kernel
theorem dL_hour_144 : decode cL_hour 144 = .ok (.iload 6, 2) := by decide +kernel
theorem dL_hour_146 : decode cL_hour 146 = .ok (.istore 6, 2) := by decide +kernel
theorem dL_hour_148 : decode cL_hour 148 = .ok (.iload 10, 2) := by decide +kernel
theorem dL_hour_150 : decode cL_hour 150 = .ok (.ifCond .eq 8, 3) := by decide +kernel
theorem dL_hour_153 : decode cL_hour 153 = .ok (.iload 9, 2) := by decide +kernel
theorem dL_hour_155 : decode cL_hour 155 = .ok (.goto 5, 3) := by decide +kernel
theorem dL_hour_158 : decode cL_hour 158 = .ok (.iload 7, 2) := by decide +kernel
theorem dL_hour_160 : decode cL_hour 160 = .ok (.istore 7, 2) := by decide +kernel
theorem dL_hour_162 : decode cL_hour 162 = .ok (.iinc 8 1, 3) := by decide +kernel
theorem dL_hour_165 : decode cL_hour 165 = .ok (.goto (-108), 3) := by decide +kernel
theorem dL_hour_168 : decode cL_hour 168 = .ok (.aload_n 0, 1) := by decide +kernel
theorem dL_hour_169 : decode cL_hour 169 = .ok (.bipush 6, 2) := by decide +kernel
theorem dL_hour_171 : decode cL_hour 171 = .ok (.iload 6, 2) := by decide +kernel
theorem dL_hour_173 : decode cL_hour 173 = .ok (.imul, 1) := by decide +kernel
theorem dL_hour_174 : decode cL_hour 174 = .ok (.iconst 5, 1) := by decide +kernel
theorem dL_hour_175 : decode cL_hour 175 = .ok (.iadd, 1) := by decide +kernel
theorem dL_hour_176 : decode cL_hour 176 = .ok (.iconst 1, 1) := by decide +kernel
theorem dL_hour_177 : decode cL_hour 177 = .ok (.iastore, 1) := by decide +kernel
theorem dL_hour_178 : decode cL_hour 178 = .ok (.aload 4, 2) := by decide +kernel
theorem dL_hour_180 : decode cL_hour 180 = .ok (.iconst 5, 1) := by decide +kernel
theorem dL_hour_181 : decode cL_hour 181 = .ok (.dup2, 1) := by decide +kernel
theorem dL_hour_182 : decode cL_hour 182 = .ok (.iaload, 1) := by decide +kernel
theorem dL_hour_183 : decode cL_hour 183 = .ok (.iconst 1, 1) := by decide +kernel
theorem dL_hour_184 : decode cL_hour 184 = .ok (.iadd, 1) := by decide +kernel
theorem dL_hour_185 : decode cL_hour 185 = .ok (.iastore, 1) := by decide +kernel
theorem dL_hour_186 : decode cL_hour 186 = .ok (.goto (-177), 3) := by decide +kernel
theorem dL_hour_189 : decode cL_hour 189 = .ok (.iinc 5 1, 3) := by decide +kernel
theorem dL_hour_192 : decode cL_hour 192 = .ok (.goto (-189), 3) := by decide +kernel
theorem dL_hour_195 : decode cL_hour 195 = .ok (.iconst 0, 1) := by decide +kernel
theorem dL_hour_196 : decode cL_hour 196 = .ok (.istore 5, 2) := by decide +kernel
theorem dL_hour_198 : decode cL_hour 198 = .ok (.iload 5, 2) := by decide +kernel
theorem dL_hour_200 : decode cL_hour 200 = .ok (.iconst 4, 1) := by decide +kernel
theorem dL_hour_201 : decode cL_hour 201 = .ok (.if_icmp .ge 139, 3) := by decide +kernel
theorem dL_hour_204 : decode cL_hour 204 = .ok (.aload_n 0, 1) := by decide +kernel
theorem dL_hour_205 : decode cL_hour 205 = .ok (.aload_n 2, 1) := by decide +kernel
theorem dL_hour_206 : decode cL_hour 206 = .ok (.aload_n 3, 1) := by decide +kernel
theorem dL_hour_207 : decode cL_hour 207 = .ok (.aload 4, 2) := by decide +kernel
theorem dL_hour_209 : decode cL_hour 209 = .ok (.iload 5, 2) := by decide +kernel
theorem dL_hour_211 : decode cL_hour 211 = .ok (.invokestatic 24, 3) := by decide +kernel
theorem dL_hour_214 : decode cL_hour 214 = .ok (.istore 6, 2) := by decide +kernel
theorem dL_hour_216 : decode cL_hour 216 = .ok (.aload_n 2, 1) := by decide +kernel
theorem dL_hour_217 : decode cL_hour 217 = .ok (.iconst 5, 1) := by decide +kernel
theorem dL_hour_218 : decode cL_hour 218 = .ok (.iload 5, 2) := by decide +kernel
theorem dL_hour_220 : decode cL_hour 220 = .ok (.imul, 1) := by decide +kernel
theorem dL_hour_221 : decode cL_hour 221 = .ok (.iconst 1, 1) := by decide +kernel
theorem dL_hour_222 : decode cL_hour 222 = .ok (.iadd, 1) := by decide +kernel
theorem dL_hour_223 : decode cL_hour 223 = .ok (.iaload, 1) := by decide +kernel
theorem dL_hour_224 : decode cL_hour 224 = .ok (.iconst 1, 1) := by decide +kernel
theorem dL_hour_225 : decode cL_hour 225 = .ok (.if_icmp .ne 18, 3) := by decide +kernel
theorem dL_hour_228 : decode cL_hour 228 = .ok (.iload 6, 2) := by decide +kernel
theorem dL_hour_230 : decode cL_hour 230 = .ok (.aload_n 2, 1) := by decide +kernel
theorem dL_hour_231 : decode cL_hour 231 = .ok (.iconst 5, 1) := by decide +kernel
theorem dL_hour_232 : decode cL_hour 232 = .ok (.iload 5, 2) := by decide +kernel
theorem dL_hour_234 : decode cL_hour 234 = .ok (.imul, 1) := by decide +kernel
theorem dL_hour_235 : decode cL_hour 235 = .ok (.iaload, 1) := by decide +kernel
theorem dL_hour_236 : decode cL_hour 236 = .ok (.if_icmp .le 7, 3) := by decide +kernel
theorem dL_hour_239 : decode cL_hour 239 = .ok (.iconst 1, 1) := by decide +kernel
theorem dL_hour_240 : decode cL_hour 240 = .ok (.goto 4, 3) := by decide +kernel
theorem dL_hour_243 : decode cL_hour 243 = .ok (.iconst 0, 1) := by decide +kernel
theorem dL_hour_244 : decode cL_hour 244 = .ok (.istore 7, 2) := by decide +kernel
theorem dL_hour_246 : decode cL_hour 246 = .ok (.aload_n 2, 1) := by decide +kernel
theorem dL_hour_247 : decode cL_hour 247 = .ok (.iconst 5, 1) := by decide +kernel
theorem dL_hour_248 : decode cL_hour 248 = .ok (.iload 5, 2) := by decide +kernel
theorem dL_hour_250 : decode cL_hour 250 = .ok (.imul, 1) := by decide +kernel
theorem dL_hour_251 : decode cL_hour 251 = .ok (.iconst 2, 1) := by decide +kernel
theorem dL_hour_252 : decode cL_hour 252 = .ok (.iadd, 1) := by decide +kernel
theorem dL_hour_253 : decode cL_hour 253 = .ok (.iaload, 1) := by decide +kernel
theorem dL_hour_254 : decode cL_hour 254 = .ok (.aload 4, 2) := by decide +kernel
theorem dL_hour_256 : decode cL_hour 256 = .ok (.iconst 0, 1) := by decide +kernel
theorem dL_hour_257 : decode cL_hour 257 = .ok (.iaload, 1) := by decide +kernel
theorem dL_hour_258 : decode cL_hour 258 = .ok (.if_icmp .le 19, 3) := by decide +kernel
theorem dL_hour_261 : decode cL_hour 261 = .ok (.aload_n 2, 1) := by decide +kernel
theorem dL_hour_262 : decode cL_hour 262 = .ok (.iconst 5, 1) := by decide +kernel
theorem dL_hour_263 : decode cL_hour 263 = .ok (.iload 5, 2) := by decide +kernel
theorem dL_hour_265 : decode cL_hour 265 = .ok (.imul, 1) := by decide +kernel
theorem dL_hour_266 : decode cL_hour 266 = .ok (.iconst 2, 1) := by decide +kernel
theorem dL_hour_267 : decode cL_hour 267 = .ok (.iadd, 1) := by decide +kernel
theorem dL_hour_268 : decode cL_hour 268 = .ok (.iaload, 1) := by decide +kernel
theorem dL_hour_269 : decode cL_hour 269 = .ok (.aload 4, 2) := by decide +kernel
theorem dL_hour_271 : decode cL_hour 271 = .ok (.iconst 0, 1) := by decide +kernel
theorem dL_hour_272 : decode cL_hour 272 = .ok (.iaload, 1) := by decide +kernel
theorem dL_hour_273 : decode cL_hour 273 = .ok (.isub, 1) := by decide +kernel
theorem dL_hour_274 : decode cL_hour 274 = .ok (.goto 4, 3) := by decide +kernel
theorem dL_hour_277 : decode cL_hour 277 = .ok (.iconst 0, 1) := by decide +kernel
theorem dL_hour_278 : decode cL_hour 278 = .ok (.istore 8, 2) := by decide +kernel
theorem dL_hour_280 : decode cL_hour 280 = .ok (.aload_n 2, 1) := by decide +kernel
theorem dL_hour_281 : decode cL_hour 281 = .ok (.iconst 5, 1) := by decide +kernel
theorem dL_hour_282 : decode cL_hour 282 = .ok (.iload 5, 2) := by decide +kernel
theorem dL_hour_284 : decode cL_hour 284 = .ok (.imul, 1) := by decide +kernel
theorem dL_hour_285 : decode cL_hour 285 = .ok (.iconst 2, 1) := by decide +kernel
theorem dL_hour_286 : decode cL_hour 286 = .ok (.iadd, 1) := by decide +kernel
theorem dL_hour_287 : decode cL_hour 287 = .ok (.iload 7, 2) := by decide +kernel
theorem dL_hour_289 : decode cL_hour 289 = .ok (.ifCond .eq 29, 3) := by decide +kernel
theorem dL_hour_292 : decode cL_hour 292 = .ok (.aload_n 2, 1) := by decide +kernel
theorem dL_hour_293 : decode cL_hour 293 = .ok (.iconst 5, 1) := by decide +kernel
theorem dL_hour_294 : decode cL_hour 294 = .ok (.iload 5, 2) := by decide +kernel
theorem dL_hour_296 : decode cL_hour 296 = .ok (.imul, 1) := by decide +kernel
theorem dL_hour_297 : decode cL_hour 297 = .ok (.iconst 2, 1) := by decide +kernel
theorem dL_hour_298 : decode cL_hour 298 = .ok (.iadd, 1) := by decide +kernel
theorem dL_hour_299 : decode cL_hour 299 = .ok (.iaload, 1) := by decide +kernel
theorem dL_hour_300 : decode cL_hour 300 = .ok (.iload 6, 2) := by decide +kernel
theorem dL_hour_302 : decode cL_hour 302 = .ok (.aload_n 2, 1) := by decide +kernel
theorem dL_hour_303 : decode cL_hour 303 = .ok (.iconst 5, 1) := by decide +kernel
theorem dL_hour_304 : decode cL_hour 304 = .ok (.iload 5, 2) := by decide +kernel
theorem dL_hour_306 : decode cL_hour 306 = .ok (.imul, 1) := by decide +kernel
theorem dL_hour_307 : decode cL_hour 307 = .ok (.iaload, 1) := by decide +kernel
theorem dL_hour_308 : decode cL_hour 308 = .ok (.isub, 1) := by decide +kernel
theorem dL_hour_309 : decode cL_hour 309 = .ok (.bipush 10, 2) := by decide +kernel
theorem dL_hour_311 : decode cL_hour 311 = .ok (.idiv, 1) := by decide +kernel
theorem dL_hour_312 : decode cL_hour 312 = .ok (.iadd, 1) := by decide +kernel
theorem dL_hour_313 : decode cL_hour 313 = .ok (.iconst 1, 1) := by decide +kernel
theorem dL_hour_314 : decode cL_hour 314 = .ok (.iadd, 1) := by decide +kernel
theorem dL_hour_315 : decode cL_hour 315 = .ok (.goto 5, 3) := by decide +kernel
theorem dL_hour_318 : decode cL_hour 318 = .ok (.iload 8, 2) := by decide +kernel
theorem dL_hour_320 : decode cL_hour 320 = .ok (.iastore, 1) := by decide +kernel
theorem dL_hour_321 : decode cL_hour 321 = .ok (.aload_n 2, 1) := by decide +kernel
theorem dL_hour_322 : decode cL_hour 322 = .ok (.iconst 5, 1) := by decide +kernel
theorem dL_hour_323 : decode cL_hour 323 = .ok (.iload 5, 2) := by decide +kernel
theorem dL_hour_325 : decode cL_hour 325 = .ok (.imul, 1) := by decide +kernel
theorem dL_hour_326 : decode cL_hour 326 = .ok (.iconst 4, 1) := by decide +kernel
theorem dL_hour_327 : decode cL_hour 327 = .ok (.iadd, 1) := by decide +kernel
theorem dL_hour_328 : decode cL_hour 328 = .ok (.dup2, 1) := by decide +kernel
theorem dL_hour_329 : decode cL_hour 329 = .ok (.iaload, 1) := by decide +kernel
theorem dL_hour_330 : decode cL_hour 330 = .ok (.iload 6, 2) := by decide +kernel
theorem dL_hour_332 : decode cL_hour 332 = .ok (.iadd, 1) := by decide +kernel
theorem dL_hour_333 : decode cL_hour 333 = .ok (.iastore, 1) := by decide +kernel
theorem dL_hour_334 : decode cL_hour 334 = .ok (.iinc 5 1, 3) := by decide +kernel
theorem dL_hour_337 : decode cL_hour 337 = .ok (.goto (-139), 3) := by decide +kernel
theorem dL_hour_340 : decode cL_hour 340 = .ok (.iconst 0, 1) := by decide +kernel
theorem dL_hour_341 : decode cL_hour 341 = .ok (.istore 5, 2) := by decide +kernel
theorem dL_hour_343 : decode cL_hour 343 = .ok (.iload 5, 2) := by decide +kernel
theorem dL_hour_345 : decode cL_hour 345 = .ok (.aload 4, 2) := by decide +kernel
theorem dL_hour_347 : decode cL_hour 347 = .ok (.iconst 4, 1) := by decide +kernel
theorem dL_hour_348 : decode cL_hour 348 = .ok (.iaload, 1) := by decide +kernel
theorem dL_hour_349 : decode cL_hour 349 = .ok (.if_icmp .ge 86, 3) := by decide +kernel
theorem dL_hour_352 : decode cL_hour 352 = .ok (.aload_n 0, 1) := by decide +kernel
theorem dL_hour_353 : decode cL_hour 353 = .ok (.aload_n 2, 1) := by decide +kernel
theorem dL_hour_354 : decode cL_hour 354 = .ok (.aload_n 3, 1) := by decide +kernel
theorem dL_hour_355 : decode cL_hour 355 = .ok (.aload 4, 2) := by decide +kernel
theorem dL_hour_357 : decode cL_hour 357 = .ok (.iload 5, 2) := by decide +kernel
theorem dL_hour_359 : decode cL_hour 359 = .ok (.invokestatic 20, 3) := by decide +kernel
theorem dL_hour_362 : decode cL_hour 362 = .ok (.istore 6, 2) := by decide +kernel
theorem dL_hour_364 : decode cL_hour 364 = .ok (.aload_n 1, 1) := by decide +kernel
theorem dL_hour_365 : decode cL_hour 365 = .ok (.iconst 2, 1) := by decide +kernel
theorem dL_hour_366 : decode cL_hour 366 = .ok (.iload 5, 2) := by decide +kernel
theorem dL_hour_368 : decode cL_hour 368 = .ok (.imul, 1) := by decide +kernel
theorem dL_hour_369 : decode cL_hour 369 = .ok (.dup2, 1) := by decide +kernel
theorem dL_hour_370 : decode cL_hour 370 = .ok (.iaload, 1) := by decide +kernel
theorem dL_hour_371 : decode cL_hour 371 = .ok (.iload 6, 2) := by decide +kernel
theorem dL_hour_373 : decode cL_hour 373 = .ok (.ifCond .ne 13, 3) := by decide +kernel
theorem dL_hour_376 : decode cL_hour 376 = .ok (.aload_n 0, 1) := by decide +kernel
theorem dL_hour_377 : decode cL_hour 377 = .ok (.bipush 6, 2) := by decide +kernel
theorem dL_hour_379 : decode cL_hour 379 = .ok (.iload 5, 2) := by decide +kernel
theorem dL_hour_381 : decode cL_hour 381 = .ok (.imul, 1) := by decide +kernel
theorem dL_hour_382 : decode cL_hour 382 = .ok (.iaload, 1) := by decide +kernel
theorem dL_hour_383 : decode cL_hour 383 = .ok (.goto 4, 3) := by decide +kernel
theorem dL_hour_386 : decode cL_hour 386 = .ok (.iconst 0, 1) := by decide +kernel
theorem dL_hour_387 : decode cL_hour 387 = .ok (.iadd, 1) := by decide +kernel
theorem dL_hour_388 : decode cL_hour 388 = .ok (.iastore, 1) := by decide +kernel
theorem dL_hour_389 : decode cL_hour 389 = .ok (.aload_n 1, 1) := by decide +kernel
theorem dL_hour_390 : decode cL_hour 390 = .ok (.iconst 2, 1) := by decide +kernel
theorem dL_hour_391 : decode cL_hour 391 = .ok (.iload 5, 2) := by decide +kernel
theorem dL_hour_393 : decode cL_hour 393 = .ok (.imul, 1) := by decide +kernel
theorem dL_hour_394 : decode cL_hour 394 = .ok (.iconst 1, 1) := by decide +kernel
theorem dL_hour_395 : decode cL_hour 395 = .ok (.iadd, 1) := by decide +kernel
theorem dL_hour_396 : decode cL_hour 396 = .ok (.dup2, 1) := by decide +kernel
theorem dL_hour_397 : decode cL_hour 397 = .ok (.iaload, 1) := by decide +kernel
theorem dL_hour_398 : decode cL_hour 398 = .ok (.iload 6, 2) := by decide +kernel
theorem dL_hour_400 : decode cL_hour 400 = .ok (.iconst 1, 1) := by decide +kernel
theorem dL_hour_401 : decode cL_hour 401 = .ok (.if_icmp .le 7, 3) := by decide +kernel
theorem dL_hour_404 : decode cL_hour 404 = .ok (.iconst 1, 1) := by decide +kernel
theorem dL_hour_405 : decode cL_hour 405 = .ok (.goto 4, 3) := by decide +kernel
theorem dL_hour_408 : decode cL_hour 408 = .ok (.iconst 0, 1) := by decide +kernel
theorem dL_hour_409 : decode cL_hour 409 = .ok (.iadd, 1) := by decide +kernel
theorem dL_hour_410 : decode cL_hour 410 = .ok (.iastore, 1) := by decide +kernel
theorem dL_hour_411 : decode cL_hour 411 = .ok (.aload 4, 2) := by decide +kernel
theorem dL_hour_413 : decode cL_hour 413 = .ok (.bipush 6, 2) := by decide +kernel
theorem dL_hour_415 : decode cL_hour 415 = .ok (.dup2, 1) := by decide +kernel
theorem dL_hour_416 : decode cL_hour 416 = .ok (.iaload, 1) := by decide +kernel
theorem dL_hour_417 : decode cL_hour 417 = .ok (.iload 6, 2) := by decide +kernel
theorem dL_hour_419 : decode cL_hour 419 = .ok (.ifCond .ne 7, 3) := by decide +kernel
theorem dL_hour_422 : decode cL_hour 422 = .ok (.iconst 1, 1) := by decide +kernel
theorem dL_hour_423 : decode cL_hour 423 = .ok (.goto 4, 3) := by decide +kernel
theorem dL_hour_426 : decode cL_hour 426 = .ok (.iconst 0, 1) := by decide +kernel
theorem dL_hour_427 : decode cL_hour 427 = .ok (.iadd, 1) := by decide +kernel
theorem dL_hour_428 : decode cL_hour 428 = .ok (.iastore, 1) := by decide +kernel
theorem dL_hour_429 : decode cL_hour 429 = .ok (.iinc 5 1, 3) := by decide +kernel
theorem dL_hour_432 : decode cL_hour 432 = .ok (.goto (-89), 3) := by decide +kernel
theorem dL_hour_435 : decode cL_hour 435 = .ok (.iconst 0, 1) := by decide +kernel
theorem dL_hour_436 : decode cL_hour 436 = .ok (.istore 5, 2) := by decide +kernel
theorem dL_hour_438 : decode cL_hour 438 = .ok (.iconst 0, 1) := by decide +kernel
theorem dL_hour_439 : decode cL_hour 439 = .ok (.istore 6, 2) := by decide +kernel
theorem dL_hour_441 : decode cL_hour 441 = .ok (.iload 6, 2) := by decide +kernel
theorem dL_hour_443 : decode cL_hour 443 = .ok (.iconst 4, 1) := by decide +kernel
theorem dL_hour_444 : decode cL_hour 444 = .ok (.if_icmp .ge 102, 3) := by decide +kernel
theorem dL_hour_447 : decode cL_hour 447 = .ok (.aload_n 2, 1) := by decide +kernel
theorem dL_hour_448 : decode cL_hour 448 = .ok (.iconst 5, 1) := by decide +kernel
theorem dL_hour_449 : decode cL_hour 449 = .ok (.iload 6, 2) := by decide +kernel
theorem dL_hour_451 : decode cL_hour 451 = .ok (.imul, 1) := by decide +kernel
theorem dL_hour_452 : decode cL_hour 452 = .ok (.iconst 1, 1) := by decide +kernel
theorem dL_hour_453 : decode cL_hour 453 = .ok (.iadd, 1) := by decide +kernel
theorem dL_hour_454 : decode cL_hour 454 = .ok (.iaload, 1) := by decide +kernel
theorem dL_hour_455 : decode cL_hour 455 = .ok (.iconst 1, 1) := by decide +kernel
theorem dL_hour_456 : decode cL_hour 456 = .ok (.if_icmp .ne 20, 3) := by decide +kernel
theorem dL_hour_459 : decode cL_hour 459 = .ok (.aload_n 2, 1) := by decide +kernel
theorem dL_hour_460 : decode cL_hour 460 = .ok (.iconst 5, 1) := by decide +kernel
theorem dL_hour_461 : decode cL_hour 461 = .ok (.iload 6, 2) := by decide +kernel
theorem dL_hour_463 : decode cL_hour 463 = .ok (.imul, 1) := by decide +kernel
theorem dL_hour_464 : decode cL_hour 464 = .ok (.iconst 2, 1) := by decide +kernel
theorem dL_hour_465 : decode cL_hour 465 = .ok (.iadd, 1) := by decide +kernel
theorem dL_hour_466 : decode cL_hour 466 = .ok (.iaload, 1) := by decide +kernel
theorem dL_hour_467 : decode cL_hour 467 = .ok (.bipush 10, 2) := by decide +kernel
theorem dL_hour_469 : decode cL_hour 469 = .ok (.if_icmp .lt 7, 3) := by decide +kernel
theorem dL_hour_472 : decode cL_hour 472 = .ok (.iconst 1, 1) := by decide +kernel
theorem dL_hour_473 : decode cL_hour 473 = .ok (.goto 4, 3) := by decide +kernel
theorem dL_hour_476 : decode cL_hour 476 = .ok (.iconst 0, 1) := by decide +kernel
theorem dL_hour_477 : decode cL_hour 477 = .ok (.istore 7, 2) := by decide +kernel
theorem dL_hour_479 : decode cL_hour 479 = .ok (.aload_n 2, 1) := by decide +kernel
theorem dL_hour_480 : decode cL_hour 480 = .ok (.iconst 5, 1) := by decide +kernel
theorem dL_hour_481 : decode cL_hour 481 = .ok (.iload 6, 2) := by decide +kernel
theorem dL_hour_483 : decode cL_hour 483 = .ok (.imul, 1) := by decide +kernel
theorem dL_hour_484 : decode cL_hour 484 = .ok (.iconst 1, 1) := by decide +kernel
theorem dL_hour_485 : decode cL_hour 485 = .ok (.iadd, 1) := by decide +kernel
theorem dL_hour_486 : decode cL_hour 486 = .ok (.iload 7, 2) := by decide +kernel
theorem dL_hour_488 : decode cL_hour 488 = .ok (.ifCond .eq 7, 3) := by decide +kernel
theorem dL_hour_491 : decode cL_hour 491 = .ok (.iconst 0, 1) := by decide +kernel
theorem dL_hour_492 : decode cL_hour 492 = .ok (.goto 11, 3) := by decide +kernel
theorem dL_hour_495 : decode cL_hour 495 = .ok (.aload_n 2, 1) := by decide +kernel
theorem dL_hour_496 : decode cL_hour 496 = .ok (.iconst 5, 1) := by decide +kernel
theorem dL_hour_497 : decode cL_hour 497 = .ok (.iload 6, 2) := by decide +kernel
theorem dL_hour_499 : decode cL_hour 499 = .ok (.imul, 1) := by decide +kernel
theorem dL_hour_500 : decode cL_hour 500 = .ok (.iconst 1, 1) := by decide +kernel
theorem dL_hour_501 : decode cL_hour 501 = .ok (.iadd, 1) := by decide +kernel
theorem dL_hour_502 : decode cL_hour 502 = .ok (.iaload, 1) := by decide +kernel
theorem dL_hour_503 : decode cL_hour 503 = .ok (.iastore, 1) := by decide +kernel
theorem dL_hour_504 : decode cL_hour 504 = .ok (.aload_n 2, 1) := by decide +kernel
theorem dL_hour_505 : decode cL_hour 505 = .ok (.iconst 5, 1) := by decide +kernel
theorem dL_hour_506 : decode cL_hour 506 = .ok (.iload 6, 2) := by decide +kernel
theorem dL_hour_508 : decode cL_hour 508 = .ok (.imul, 1) := by decide +kernel
theorem dL_hour_509 : decode cL_hour 509 = .ok (.iconst 3, 1) := by decide +kernel
theorem dL_hour_510 : decode cL_hour 510 = .ok (.iadd, 1) := by decide +kernel
theorem dL_hour_511 : decode cL_hour 511 = .ok (.dup2, 1) := by decide +kernel
theorem dL_hour_512 : decode cL_hour 512 = .ok (.iaload, 1) := by decide +kernel
theorem dL_hour_513 : decode cL_hour 513 = .ok (.iload 7, 2) := by decide +kernel
theorem dL_hour_515 : decode cL_hour 515 = .ok (.ifCond .eq 7, 3) := by decide +kernel
theorem dL_hour_518 : decode cL_hour 518 = .ok (.iconst 1, 1) := by decide +kernel
theorem dL_hour_519 : decode cL_hour 519 = .ok (.goto 4, 3) := by decide +kernel
theorem dL_hour_522 : decode cL_hour 522 = .ok (.iconst 0, 1) := by decide +kernel
theorem dL_hour_523 : decode cL_hour 523 = .ok (.iadd, 1) := by decide +kernel
theorem dL_hour_524 : decode cL_hour 524 = .ok (.iastore, 1) := by decide +kernel
theorem dL_hour_525 : decode cL_hour 525 = .ok (.iload 5, 2) := by decide +kernel
theorem dL_hour_527 : decode cL_hour 527 = .ok (.iload 7, 2) := by decide +kernel
theorem dL_hour_529 : decode cL_hour 529 = .ok (.ifCond .eq 7, 3) := by decide +kernel
theorem dL_hour_532 : decode cL_hour 532 = .ok (.iconst 1, 1) := by decide +kernel
theorem dL_hour_533 : decode cL_hour 533 = .ok (.goto 4, 3) := by decide +kernel
theorem dL_hour_536 : decode cL_hour 536 = .ok (.iconst 0, 1) := by decide +kernel
theorem dL_hour_537 : decode cL_hour 537 = .ok (.iadd, 1) := by decide +kernel
theorem dL_hour_538 : decode cL_hour 538 = .ok (.istore 5, 2) := by decide +kernel
theorem dL_hour_540 : decode cL_hour 540 = .ok (.iinc 6 1, 3) := by decide +kernel
theorem dL_hour_543 : decode cL_hour 543 = .ok (.goto (-102), 3) := by decide +kernel
theorem dL_hour_546 : decode cL_hour 546 = .ok (.aload 4, 2) := by decide +kernel
theorem dL_hour_548 : decode cL_hour 548 = .ok (.iconst 3, 1) := by decide +kernel
theorem dL_hour_549 : decode cL_hour 549 = .ok (.dup2, 1) := by decide +kernel
theorem dL_hour_550 : decode cL_hour 550 = .ok (.iaload, 1) := by decide +kernel
theorem dL_hour_551 : decode cL_hour 551 = .ok (.iconst 1, 1) := by decide +kernel
theorem dL_hour_552 : decode cL_hour 552 = .ok (.iadd, 1) := by decide +kernel
theorem dL_hour_553 : decode cL_hour 553 = .ok (.iastore, 1) := by decide +kernel
theorem dL_hour_554 : decode cL_hour 554 = .ok (.iload 5, 2) := by decide +kernel
theorem dL_hour_556 : decode cL_hour 556 = .ok (.ireturn, 1) := by decide +kernel
theorem dL_at_0 : decode cL_at 0 = .ok (.iconst (-1), 1) := by decide +kernel
theorem dL_at_1 : decode cL_at 1 = .ok (.istore_n 3, 1) := by decide +kernel
theorem dL_at_2 : decode cL_at 2 = .ok (.iconst 0, 1) := by decide +kernel
theorem dL_at_3 : decode cL_at 3 = .ok (.istore 4, 2) := by decide +kernel
theorem dL_at_5 : decode cL_at 5 = .ok (.iload 4, 2) := by decide +kernel
theorem dL_at_7 : decode cL_at 7 = .ok (.aload_n 1, 1) := by decide +kernel
theorem dL_at_8 : decode cL_at 8 = .ok (.iconst 4, 1) := by decide +kernel
theorem dL_at_9 : decode cL_at 9 = .ok (.iaload, 1) := by decide +kernel
theorem dL_at_10 : decode cL_at 10 = .ok (.if_icmp .ge 29, 3) := by decide +kernel
theorem dL_at_13 : decode cL_at 13 = .ok (.aload_n 0, 1) := by decide +kernel
theorem dL_at_14 : decode cL_at 14 = .ok (.bipush 6, 2) := by decide +kernel
theorem dL_at_16 : decode cL_at 16 = .ok (.iload 4, 2) := by decide +kernel
theorem dL_at_18 : decode cL_at 18 = .ok (.imul, 1) := by decide +kernel
theorem dL_at_19 : decode cL_at 19 = .ok (.iconst 4, 1) := by decide +kernel
theorem dL_at_20 : decode cL_at 20 = .ok (.iadd, 1) := by decide +kernel
theorem dL_at_21 : decode cL_at 21 = .ok (.iaload, 1) := by decide +kernel
theorem dL_at_22 : decode cL_at 22 = .ok (.iload_n 2, 1) := by decide +kernel
theorem dL_at_23 : decode cL_at 23 = .ok (.if_icmp .ne 8, 3) := by decide +kernel
theorem dL_at_26 : decode cL_at 26 = .ok (.iload 4, 2) := by decide +kernel
theorem dL_at_28 : decode cL_at 28 = .ok (.goto 4, 3) := by decide +kernel
theorem dL_at_31 : decode cL_at 31 = .ok (.iload_n 3, 1) := by decide +kernel
theorem dL_at_32 : decode cL_at 32 = .ok (.istore_n 3, 1) := by decide +kernel
theorem dL_at_33 : decode cL_at 33 = .ok (.iinc 4 1, 3) := by decide +kernel
theorem dL_at_36 : decode cL_at 36 = .ok (.goto (-31), 3) := by decide +kernel
theorem dL_at_39 : decode cL_at 39 = .ok (.iload_n 3, 1) := by decide +kernel
theorem dL_at_40 : decode cL_at 40 = .ok (.ireturn, 1) := by decide +kernel
theorem dL_tells_0 : decode cL_tells 0 = .ok (.iconst 0, 1) := by decide +kernel
theorem dL_tells_1 : decode cL_tells 1 = .ok (.istore 6, 2) := by decide +kernel
theorem dL_tells_3 : decode cL_tells 3 = .ok (.iconst 0, 1) := by decide +kernel
theorem dL_tells_4 : decode cL_tells 4 = .ok (.istore 7, 2) := by decide +kernel
theorem dL_tells_6 : decode cL_tells 6 = .ok (.iconst 0, 1) := by decide +kernel
theorem dL_tells_7 : decode cL_tells 7 = .ok (.istore 8, 2) := by decide +kernel
theorem dL_tells_9 : decode cL_tells 9 = .ok (.iconst 0, 1) := by decide +kernel
theorem dL_tells_10 : decode cL_tells 10 = .ok (.istore 9, 2) := by decide +kernel
theorem dL_tells_12 : decode cL_tells 12 = .ok (.iconst 0, 1) := by decide +kernel
theorem dL_tells_13 : decode cL_tells 13 = .ok (.istore 10, 2) := by decide +kernel
theorem dL_tells_15 : decode cL_tells 15 = .ok (.iconst 0, 1) := by decide +kernel
theorem dL_tells_16 : decode cL_tells 16 = .ok (.istore 11, 2) := by decide +kernel
theorem dL_tells_18 : decode cL_tells 18 = .ok (.iload 11, 2) := by decide +kernel
theorem dL_tells_20 : decode cL_tells 20 = .ok (.aload 5, 2) := by decide +kernel
theorem dL_tells_22 : decode cL_tells 22 = .ok (.iconst 4, 1) := by decide +kernel
theorem dL_tells_23 : decode cL_tells 23 = .ok (.iaload, 1) := by decide +kernel
theorem dL_tells_24 : decode cL_tells 24 = .ok (.if_icmp .ge 297, 3) := by decide +kernel
theorem dL_tells_27 : decode cL_tells 27 = .ok (.aload_n 0, 1) := by decide +kernel
theorem dL_tells_28 : decode cL_tells 28 = .ok (.iload 11, 2) := by decide +kernel
theorem dL_tells_30 : decode cL_tells 30 = .ok (.iconst 4, 1) := by decide +kernel
theorem dL_tells_31 : decode cL_tells 31 = .ok (.invokevirtual 29, 3) := by decide +kernel
theorem dL_tells_34 : decode cL_tells 34 = .ok (.aload_n 1, 1) := by decide +kernel
theorem dL_tells_35 : decode cL_tells 35 = .ok (.bipush 6, 2) := by decide +kernel
theorem dL_tells_37 : decode cL_tells 37 = .ok (.iload 11, 2) := by decide +kernel
theorem dL_tells_39 : decode cL_tells 39 = .ok (.imul, 1) := by decide +kernel
theorem dL_tells_40 : decode cL_tells 40 = .ok (.iconst 4, 1) := by decide +kernel
theorem dL_tells_41 : decode cL_tells 41 = .ok (.iadd, 1) := by decide +kernel
theorem dL_tells_42 : decode cL_tells 42 = .ok (.iaload, 1) := by decide +kernel
theorem dL_tells_43 : decode cL_tells 43 = .ok (.ifCond .ge 7, 3) := by decide +kernel
theorem dL_tells_46 : decode cL_tells 46 = .ok (.iconst (-1), 1) := by decide +kernel
theorem dL_tells_47 : decode cL_tells 47 = .ok (.goto 12, 3) := by decide +kernel
theorem dL_tells_50 : decode cL_tells 50 = .ok (.aload_n 1, 1) := by decide +kernel
theorem dL_tells_51 : decode cL_tells 51 = .ok (.bipush 6, 2) := by decide +kernel
theorem dL_tells_53 : decode cL_tells 53 = .ok (.iload 11, 2) := by decide +kernel
theorem dL_tells_55 : decode cL_tells 55 = .ok (.imul, 1) := by decide +kernel
theorem dL_tells_56 : decode cL_tells 56 = .ok (.iconst 4, 1) := by decide +kernel
theorem dL_tells_57 : decode cL_tells 57 = .ok (.iadd, 1) := by decide +kernel
theorem dL_tells_58 : decode cL_tells 58 = .ok (.iaload, 1) := by decide +kernel
theorem dL_tells_59 : decode cL_tells 59 = .ok (.if_icmp .ne 109, 3) := by decide +kernel
theorem dL_tells_62 : decode cL_tells 62 = .ok (.aload_n 0, 1) := by decide +kernel
theorem dL_tells_63 : decode cL_tells 63 = .ok (.iload 11, 2) := by decide +kernel
theorem dL_tells_65 : decode cL_tells 65 = .ok (.iconst 5, 1) := by decide +kernel
theorem dL_tells_66 : decode cL_tells 66 = .ok (.invokevirtual 29, 3) := by decide +kernel
theorem dL_tells_69 : decode cL_tells 69 = .ok (.aload_n 1, 1) := by decide +kernel
theorem dL_tells_70 : decode cL_tells 70 = .ok (.bipush 6, 2) := by decide +kernel
theorem dL_tells_72 : decode cL_tells 72 = .ok (.iload 11, 2) := by decide +kernel
theorem dL_tells_74 : decode cL_tells 74 = .ok (.imul, 1) := by decide +kernel
theorem dL_tells_75 : decode cL_tells 75 = .ok (.iconst 5, 1) := by decide +kernel
theorem dL_tells_76 : decode cL_tells 76 = .ok (.iadd, 1) := by decide +kernel
theorem dL_tells_77 : decode cL_tells 77 = .ok (.iaload, 1) := by decide +kernel
theorem dL_tells_78 : decode cL_tells 78 = .ok (.if_icmp .ne 90, 3) := by decide +kernel
theorem dL_tells_81 : decode cL_tells 81 = .ok (.aload_n 0, 1) := by decide +kernel
theorem dL_tells_82 : decode cL_tells 82 = .ok (.iload 11, 2) := by decide +kernel
theorem dL_tells_84 : decode cL_tells 84 = .ok (.bipush 6, 2) := by decide +kernel
theorem dL_tells_86 : decode cL_tells 86 = .ok (.invokevirtual 29, 3) := by decide +kernel
theorem dL_tells_89 : decode cL_tells 89 = .ok (.aload_n 2, 1) := by decide +kernel
theorem dL_tells_90 : decode cL_tells 90 = .ok (.iconst 2, 1) := by decide +kernel
theorem dL_tells_91 : decode cL_tells 91 = .ok (.iload 11, 2) := by decide +kernel
theorem dL_tells_93 : decode cL_tells 93 = .ok (.imul, 1) := by decide +kernel
theorem dL_tells_94 : decode cL_tells 94 = .ok (.iaload, 1) := by decide +kernel
theorem dL_tells_95 : decode cL_tells 95 = .ok (.if_icmp .ne 73, 3) := by decide +kernel
theorem dL_tells_98 : decode cL_tells 98 = .ok (.aload_n 0, 1) := by decide +kernel
theorem dL_tells_99 : decode cL_tells 99 = .ok (.iload 11, 2) := by decide +kernel
theorem dL_tells_101 : decode cL_tells 101 = .ok (.bipush 7, 2) := by decide +kernel
theorem dL_tells_103 : decode cL_tells 103 = .ok (.invokevirtual 29, 3) := by decide +kernel
theorem dL_tells_106 : decode cL_tells 106 = .ok (.aload_n 2, 1) := by decide +kernel
theorem dL_tells_107 : decode cL_tells 107 = .ok (.iconst 2, 1) := by decide +kernel
theorem dL_tells_108 : decode cL_tells 108 = .ok (.iload 11, 2) := by decide +kernel
theorem dL_tells_110 : decode cL_tells 110 = .ok (.imul, 1) := by decide +kernel
theorem dL_tells_111 : decode cL_tells 111 = .ok (.iconst 1, 1) := by decide +kernel
theorem dL_tells_112 : decode cL_tells 112 = .ok (.iadd, 1) := by decide +kernel
theorem dL_tells_113 : decode cL_tells 113 = .ok (.iaload, 1) := by decide +kernel
theorem dL_tells_114 : decode cL_tells 114 = .ok (.if_icmp .ne 54, 3) := by decide +kernel
theorem dL_tells_117 : decode cL_tells 117 = .ok (.aload_n 0, 1) := by decide +kernel
theorem dL_tells_118 : decode cL_tells 118 = .ok (.iload 11, 2) := by decide +kernel
theorem dL_tells_120 : decode cL_tells 120 = .ok (.bipush 8, 2) := by decide +kernel
theorem dL_tells_122 : decode cL_tells 122 = .ok (.invokevirtual 29, 3) := by decide +kernel
theorem dL_tells_125 : decode cL_tells 125 = .ok (.aload_n 1, 1) := by decide +kernel
theorem dL_tells_126 : decode cL_tells 126 = .ok (.aload_n 3, 1) := by decide +kernel
theorem dL_tells_127 : decode cL_tells 127 = .ok (.aload 4, 2) := by decide +kernel
theorem dL_tells_129 : decode cL_tells 129 = .ok (.aload 5, 2) := by decide +kernel
theorem dL_tells_131 : decode cL_tells 131 = .ok (.iload 11, 2) := by decide +kernel
theorem dL_tells_133 : decode cL_tells 133 = .ok (.invokestatic 20, 3) := by decide +kernel
theorem dL_tells_136 : decode cL_tells 136 = .ok (.if_icmp .ne 32, 3) := by decide +kernel
theorem dL_tells_139 : decode cL_tells 139 = .ok (.aload_n 0, 1) := by decide +kernel
theorem dL_tells_140 : decode cL_tells 140 = .ok (.iload 11, 2) := by decide +kernel
theorem dL_tells_142 : decode cL_tells 142 = .ok (.bipush 9, 2) := by decide +kernel
theorem dL_tells_144 : decode cL_tells 144 = .ok (.invokevirtual 29, 3) := by decide +kernel
theorem dL_tells_147 : decode cL_tells 147 = .ok (.aload_n 2, 1) := by decide +kernel
theorem dL_tells_148 : decode cL_tells 148 = .ok (.iconst 2, 1) := by decide +kernel
theorem dL_tells_149 : decode cL_tells 149 = .ok (.iload 11, 2) := by decide +kernel
theorem dL_tells_151 : decode cL_tells 151 = .ok (.imul, 1) := by decide +kernel
theorem dL_tells_152 : decode cL_tells 152 = .ok (.iaload, 1) := by decide +kernel
theorem dL_tells_153 : decode cL_tells 153 = .ok (.aload 5, 2) := by decide +kernel
theorem dL_tells_155 : decode cL_tells 155 = .ok (.iconst 2, 1) := by decide +kernel
theorem dL_tells_156 : decode cL_tells 156 = .ok (.iaload, 1) := by decide +kernel
theorem dL_tells_157 : decode cL_tells 157 = .ok (.imul, 1) := by decide +kernel
theorem dL_tells_158 : decode cL_tells 158 = .ok (.bipush 10, 2) := by decide +kernel
theorem dL_tells_160 : decode cL_tells 160 = .ok (.idiv, 1) := by decide +kernel
theorem dL_tells_161 : decode cL_tells 161 = .ok (.if_icmp .ne 7, 3) := by decide +kernel
theorem dL_tells_164 : decode cL_tells 164 = .ok (.iconst 1, 1) := by decide +kernel
theorem dL_tells_165 : decode cL_tells 165 = .ok (.goto 4, 3) := by decide +kernel
theorem dL_tells_168 : decode cL_tells 168 = .ok (.iconst 0, 1) := by decide +kernel
theorem dL_tells_169 : decode cL_tells 169 = .ok (.istore 12, 2) := by decide +kernel
theorem dL_tells_171 : decode cL_tells 171 = .ok (.iconst 0, 1) := by decide +kernel
theorem dL_tells_172 : decode cL_tells 172 = .ok (.istore 13, 2) := by decide +kernel
theorem dL_tells_174 : decode cL_tells 174 = .ok (.iload 13, 2) := by decide +kernel
theorem dL_tells_176 : decode cL_tells 176 = .ok (.iconst 4, 1) := by decide +kernel
theorem dL_tells_177 : decode cL_tells 177 = .ok (.if_icmp .ge 42, 3) := by decide +kernel
theorem dL_tells_180 : decode cL_tells 180 = .ok (.iload 12, 2) := by decide +kernel
theorem dL_tells_182 : decode cL_tells 182 = .ok (.ifCond .eq 28, 3) := by decide +kernel
theorem dL_tells_185 : decode cL_tells 185 = .ok (.aload_n 0, 1) := by decide +kernel
theorem dL_tells_186 : decode cL_tells 186 = .ok (.iload 11, 2) := by decide +kernel
theorem dL_tells_188 : decode cL_tells 188 = .ok (.iload 13, 2) := by decide +kernel
theorem dL_tells_190 : decode cL_tells 190 = .ok (.invokevirtual 29, 3) := by decide +kernel
theorem dL_tells_193 : decode cL_tells 193 = .ok (.aload_n 1, 1) := by decide +kernel
theorem dL_tells_194 : decode cL_tells 194 = .ok (.bipush 6, 2) := by decide +kernel
theorem dL_tells_196 : decode cL_tells 196 = .ok (.iload 11, 2) := by decide +kernel
theorem dL_tells_198 : decode cL_tells 198 = .ok (.imul, 1) := by decide +kernel
theorem dL_tells_199 : decode cL_tells 199 = .ok (.iload 13, 2) := by decide +kernel
theorem dL_tells_201 : decode cL_tells 201 = .ok (.iadd, 1) := by decide +kernel
theorem dL_tells_202 : decode cL_tells 202 = .ok (.iaload, 1) := by decide +kernel
theorem dL_tells_203 : decode cL_tells 203 = .ok (.if_icmp .ne 7, 3) := by decide +kernel
theorem dL_tells_206 : decode cL_tells 206 = .ok (.iconst 1, 1) := by decide +kernel
theorem dL_tells_207 : decode cL_tells 207 = .ok (.goto 4, 3) := by decide +kernel
theorem dL_tells_210 : decode cL_tells 210 = .ok (.iconst 0, 1) := by decide +kernel
theorem dL_tells_211 : decode cL_tells 211 = .ok (.istore 12, 2) := by decide +kernel
theorem dL_tells_213 : decode cL_tells 213 = .ok (.iinc 13 1, 3) := by decide +kernel
theorem dL_tells_216 : decode cL_tells 216 = .ok (.goto (-42), 3) := by decide +kernel
theorem dL_tells_219 : decode cL_tells 219 = .ok (.iload 12, 2) := by decide +kernel
theorem dL_tells_221 : decode cL_tells 221 = .ok (.ifCond .ne 5, 3) := by decide +kernel
theorem dL_tells_224 : decode cL_tells 224 = .ok (.iconst 0, 1) := by decide +kernel
theorem dL_tells_225 : decode cL_tells 225 = .ok (.ireturn, 1) := by decide +kernel
theorem dL_tells_226 : decode cL_tells 226 = .ok (.iload 6, 2) := by decide +kernel
theorem dL_tells_228 : decode cL_tells 228 = .ok (.aload_n 1, 1) := by decide +kernel
theorem dL_tells_229 : decode cL_tells 229 = .ok (.aload_n 3, 1) := by decide +kernel
theorem dL_tells_230 : decode cL_tells 230 = .ok (.aload 4, 2) := by decide +kernel
theorem dL_tells_232 : decode cL_tells 232 = .ok (.aload 5, 2) := by decide +kernel
theorem dL_tells_234 : decode cL_tells 234 = .ok (.iload 11, 2) := by decide +kernel
theorem dL_tells_236 : decode cL_tells 236 = .ok (.invokestatic 20, 3) := by decide +kernel
theorem dL_tells_239 : decode cL_tells 239 = .ok (.ifCond .ne 7, 3) := by decide +kernel
theorem dL_tells_242 : decode cL_tells 242 = .ok (.iconst 1, 1) := by decide +kernel
theorem dL_tells_243 : decode cL_tells 243 = .ok (.goto 4, 3) := by decide +kernel
theorem dL_tells_246 : decode cL_tells 246 = .ok (.iconst 0, 1) := by decide +kernel
theorem dL_tells_247 : decode cL_tells 247 = .ok (.iadd, 1) := by decide +kernel
theorem dL_tells_248 : decode cL_tells 248 = .ok (.istore 6, 2) := by decide +kernel
theorem dL_tells_250 : decode cL_tells 250 = .ok (.iload 7, 2) := by decide +kernel
theorem dL_tells_252 : decode cL_tells 252 = .ok (.aload_n 2, 1) := by decide +kernel
theorem dL_tells_253 : decode cL_tells 253 = .ok (.iconst 2, 1) := by decide +kernel
theorem dL_tells_254 : decode cL_tells 254 = .ok (.iload 11, 2) := by decide +kernel
theorem dL_tells_256 : decode cL_tells 256 = .ok (.imul, 1) := by decide +kernel
theorem dL_tells_257 : decode cL_tells 257 = .ok (.iaload, 1) := by decide +kernel
theorem dL_tells_258 : decode cL_tells 258 = .ok (.iadd, 1) := by decide +kernel
theorem dL_tells_259 : decode cL_tells 259 = .ok (.istore 7, 2) := by decide +kernel
theorem dL_tells_261 : decode cL_tells 261 = .ok (.iload 8, 2) := by decide +kernel
theorem dL_tells_263 : decode cL_tells 263 = .ok (.aload_n 2, 1) := by decide +kernel
theorem dL_tells_264 : decode cL_tells 264 = .ok (.iconst 2, 1) := by decide +kernel
theorem dL_tells_265 : decode cL_tells 265 = .ok (.iload 11, 2) := by decide +kernel
theorem dL_tells_267 : decode cL_tells 267 = .ok (.imul, 1) := by decide +kernel
theorem dL_tells_268 : decode cL_tells 268 = .ok (.iconst 1, 1) := by decide +kernel
theorem dL_tells_269 : decode cL_tells 269 = .ok (.iadd, 1) := by decide +kernel
theorem dL_tells_270 : decode cL_tells 270 = .ok (.iaload, 1) := by decide +kernel
theorem dL_tells_271 : decode cL_tells 271 = .ok (.iadd, 1) := by decide +kernel
theorem dL_tells_272 : decode cL_tells 272 = .ok (.istore 8, 2) := by decide +kernel
theorem dL_tells_274 : decode cL_tells 274 = .ok (.iload 9, 2) := by decide +kernel
theorem dL_tells_276 : decode cL_tells 276 = .ok (.aload_n 2, 1) := by decide +kernel
theorem dL_tells_277 : decode cL_tells 277 = .ok (.iconst 2, 1) := by decide +kernel
theorem dL_tells_278 : decode cL_tells 278 = .ok (.iload 11, 2) := by decide +kernel
theorem dL_tells_280 : decode cL_tells 280 = .ok (.imul, 1) := by decide +kernel
theorem dL_tells_281 : decode cL_tells 281 = .ok (.iaload, 1) := by decide +kernel
theorem dL_tells_282 : decode cL_tells 282 = .ok (.aload 5, 2) := by decide +kernel
theorem dL_tells_284 : decode cL_tells 284 = .ok (.iconst 2, 1) := by decide +kernel
theorem dL_tells_285 : decode cL_tells 285 = .ok (.iaload, 1) := by decide +kernel
theorem dL_tells_286 : decode cL_tells 286 = .ok (.imul, 1) := by decide +kernel
theorem dL_tells_287 : decode cL_tells 287 = .ok (.bipush 10, 2) := by decide +kernel
theorem dL_tells_289 : decode cL_tells 289 = .ok (.idiv, 1) := by decide +kernel
theorem dL_tells_290 : decode cL_tells 290 = .ok (.iadd, 1) := by decide +kernel
theorem dL_tells_291 : decode cL_tells 291 = .ok (.istore 9, 2) := by decide +kernel
theorem dL_tells_293 : decode cL_tells 293 = .ok (.iload 10, 2) := by decide +kernel
theorem dL_tells_295 : decode cL_tells 295 = .ok (.aload_n 1, 1) := by decide +kernel
theorem dL_tells_296 : decode cL_tells 296 = .ok (.bipush 6, 2) := by decide +kernel
theorem dL_tells_298 : decode cL_tells 298 = .ok (.iload 11, 2) := by decide +kernel
theorem dL_tells_300 : decode cL_tells 300 = .ok (.imul, 1) := by decide +kernel
theorem dL_tells_301 : decode cL_tells 301 = .ok (.iconst 4, 1) := by decide +kernel
theorem dL_tells_302 : decode cL_tells 302 = .ok (.iadd, 1) := by decide +kernel
theorem dL_tells_303 : decode cL_tells 303 = .ok (.iaload, 1) := by decide +kernel
theorem dL_tells_304 : decode cL_tells 304 = .ok (.ifCond .ge 7, 3) := by decide +kernel
theorem dL_tells_307 : decode cL_tells 307 = .ok (.iconst 0, 1) := by decide +kernel
theorem dL_tells_308 : decode cL_tells 308 = .ok (.goto 4, 3) := by decide +kernel
theorem dL_tells_311 : decode cL_tells 311 = .ok (.iconst 1, 1) := by decide +kernel
theorem dL_tells_312 : decode cL_tells 312 = .ok (.iadd, 1) := by decide +kernel
theorem dL_tells_313 : decode cL_tells 313 = .ok (.istore 10, 2) := by decide +kernel
theorem dL_tells_315 : decode cL_tells 315 = .ok (.iinc 11 1, 3) := by decide +kernel
theorem dL_tells_318 : decode cL_tells 318 = .ok (.goto (-300), 3) := by decide +kernel
theorem dL_tells_321 : decode cL_tells 321 = .ok (.iconst 0, 1) := by decide +kernel
theorem dL_tells_322 : decode cL_tells 322 = .ok (.istore 11, 2) := by decide +kernel
theorem dL_tells_324 : decode cL_tells 324 = .ok (.iconst 0, 1) := by decide +kernel
theorem dL_tells_325 : decode cL_tells 325 = .ok (.istore 12, 2) := by decide +kernel
theorem dL_tells_327 : decode cL_tells 327 = .ok (.iconst 0, 1) := by decide +kernel
theorem dL_tells_328 : decode cL_tells 328 = .ok (.istore 13, 2) := by decide +kernel
theorem dL_tells_330 : decode cL_tells 330 = .ok (.iconst 0, 1) := by decide +kernel
theorem dL_tells_331 : decode cL_tells 331 = .ok (.istore 14, 2) := by decide +kernel
theorem dL_tells_333 : decode cL_tells 333 = .ok (.iload 14, 2) := by decide +kernel
theorem dL_tells_335 : decode cL_tells 335 = .ok (.iconst 4, 1) := by decide +kernel
theorem dL_tells_336 : decode cL_tells 336 = .ok (.if_icmp .ge 334, 3) := by decide +kernel
theorem dL_tells_339 : decode cL_tells 339 = .ok (.iconst 0, 1) := by decide +kernel
theorem dL_tells_340 : decode cL_tells 340 = .ok (.istore 15, 2) := by decide +kernel
theorem dL_tells_342 : decode cL_tells 342 = .ok (.iconst 0, 1) := by decide +kernel
theorem dL_tells_343 : decode cL_tells 343 = .ok (.istore 16, 2) := by decide +kernel
theorem dL_tells_345 : decode cL_tells 345 = .ok (.iload 16, 2) := by decide +kernel
theorem dL_tells_347 : decode cL_tells 347 = .ok (.aload 5, 2) := by decide +kernel
