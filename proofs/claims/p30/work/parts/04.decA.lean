theorem dX0_init_0 : decode cX0_init 0 = .ok (.aload_n 0, 1) := by decide +kernel
theorem dX0_init_1 : decode cX0_init 1 = .ok (.invokespecial 3, 3) := by decide +kernel
theorem dX0_init_4 : decode cX0_init 4 = .ok (.aload_n 0, 1) := by decide +kernel
theorem dX0_init_5 : decode cX0_init 5 = .ok (.sipush 200, 3) := by decide +kernel
theorem dX0_init_8 : decode cX0_init 8 = .ok (.putfield 9, 3) := by decide +kernel
theorem dX0_init_11 : decode cX0_init 11 = .ok (.aload_n 0, 1) := by decide +kernel
theorem dX0_init_12 : decode cX0_init 12 = .ok (.iconst 1, 1) := by decide +kernel
theorem dX0_init_13 : decode cX0_init 13 = .ok (.putfield 15, 3) := by decide +kernel
theorem dX0_init_16 : decode cX0_init 16 = .ok (.return_, 1) := by decide +kernel
theorem dX0_putOn_0 : decode cX0_putOn 0 = .ok (.aload_n 0, 1) := by decide +kernel
theorem dX0_putOn_1 : decode cX0_putOn 1 = .ok (.iconst 1, 1) := by decide +kernel
theorem dX0_putOn_2 : decode cX0_putOn 2 = .ok (.putfield 15, 3) := by decide +kernel
theorem dX0_putOn_5 : decode cX0_putOn 5 = .ok (.aload_n 0, 1) := by decide +kernel
theorem dX0_putOn_6 : decode cX0_putOn 6 = .ok (.iconst 0, 1) := by decide +kernel
theorem dX0_putOn_7 : decode cX0_putOn 7 = .ok (.putfield 19, 3) := by decide +kernel
theorem dX0_putOn_10 : decode cX0_putOn 10 = .ok (.return_, 1) := by decide +kernel
theorem dX0_carriesTooMuch_0 : decode cX0_carriesTooMuch 0 = .ok (.aload_n 0, 1) := by decide +kernel
theorem dX0_carriesTooMuch_1 : decode cX0_carriesTooMuch 1 = .ok (.getfield 15, 3) := by decide +kernel
theorem dX0_carriesTooMuch_4 : decode cX0_carriesTooMuch 4 = .ok (.ifCond .eq 18, 3) := by decide +kernel
theorem dX0_carriesTooMuch_7 : decode cX0_carriesTooMuch 7 = .ok (.aload_n 0, 1) := by decide +kernel
theorem dX0_carriesTooMuch_8 : decode cX0_carriesTooMuch 8 = .ok (.getfield 22, 3) := by decide +kernel
theorem dX0_carriesTooMuch_11 : decode cX0_carriesTooMuch 11 = .ok (.aload_n 0, 1) := by decide +kernel
theorem dX0_carriesTooMuch_12 : decode cX0_carriesTooMuch 12 = .ok (.getfield 9, 3) := by decide +kernel
theorem dX0_carriesTooMuch_15 : decode cX0_carriesTooMuch 15 = .ok (.if_icmp .le 7, 3) := by decide +kernel
theorem dX0_carriesTooMuch_18 : decode cX0_carriesTooMuch 18 = .ok (.iconst 1, 1) := by decide +kernel
theorem dX0_carriesTooMuch_19 : decode cX0_carriesTooMuch 19 = .ok (.goto 4, 3) := by decide +kernel
theorem dX0_carriesTooMuch_22 : decode cX0_carriesTooMuch 22 = .ok (.iconst 0, 1) := by decide +kernel
theorem dX0_carriesTooMuch_23 : decode cX0_carriesTooMuch 23 = .ok (.ireturn, 1) := by decide +kernel
theorem dX0_heatOrCool_0 : decode cX0_heatOrCool 0 = .ok (.aload_n 0, 1) := by decide +kernel
theorem dX0_heatOrCool_1 : decode cX0_heatOrCool 1 = .ok (.invokevirtual 25, 3) := by decide +kernel
theorem dX0_heatOrCool_4 : decode cX0_heatOrCool 4 = .ok (.ifCond .eq 29, 3) := by decide +kernel
theorem dX0_heatOrCool_7 : decode cX0_heatOrCool 7 = .ok (.aload_n 0, 1) := by decide +kernel
theorem dX0_heatOrCool_8 : decode cX0_heatOrCool 8 = .ok (.dup, 1) := by decide +kernel
theorem dX0_heatOrCool_9 : decode cX0_heatOrCool 9 = .ok (.getfield 19, 3) := by decide +kernel
theorem dX0_heatOrCool_12 : decode cX0_heatOrCool 12 = .ok (.aload_n 0, 1) := by decide +kernel
theorem dX0_heatOrCool_13 : decode cX0_heatOrCool 13 = .ok (.getfield 22, 3) := by decide +kernel
theorem dX0_heatOrCool_16 : decode cX0_heatOrCool 16 = .ok (.aload_n 0, 1) := by decide +kernel
theorem dX0_heatOrCool_17 : decode cX0_heatOrCool 17 = .ok (.getfield 9, 3) := by decide +kernel
theorem dX0_heatOrCool_20 : decode cX0_heatOrCool 20 = .ok (.isub, 1) := by decide +kernel
theorem dX0_heatOrCool_21 : decode cX0_heatOrCool 21 = .ok (.bipush 10, 2) := by decide +kernel
theorem dX0_heatOrCool_23 : decode cX0_heatOrCool 23 = .ok (.idiv, 1) := by decide +kernel
theorem dX0_heatOrCool_24 : decode cX0_heatOrCool 24 = .ok (.iconst 1, 1) := by decide +kernel
theorem dX0_heatOrCool_25 : decode cX0_heatOrCool 25 = .ok (.iadd, 1) := by decide +kernel
theorem dX0_heatOrCool_26 : decode cX0_heatOrCool 26 = .ok (.iadd, 1) := by decide +kernel
theorem dX0_heatOrCool_27 : decode cX0_heatOrCool 27 = .ok (.putfield 19, 3) := by decide +kernel
theorem dX0_heatOrCool_30 : decode cX0_heatOrCool 30 = .ok (.goto 17, 3) := by decide +kernel
theorem dX0_heatOrCool_33 : decode cX0_heatOrCool 33 = .ok (.aload_n 0, 1) := by decide +kernel
theorem dX0_heatOrCool_34 : decode cX0_heatOrCool 34 = .ok (.iconst 0, 1) := by decide +kernel
theorem dX0_heatOrCool_35 : decode cX0_heatOrCool 35 = .ok (.aload_n 0, 1) := by decide +kernel
theorem dX0_heatOrCool_36 : decode cX0_heatOrCool 36 = .ok (.getfield 19, 3) := by decide +kernel
theorem dX0_heatOrCool_39 : decode cX0_heatOrCool 39 = .ok (.iload_n 1, 1) := by decide +kernel
theorem dX0_heatOrCool_40 : decode cX0_heatOrCool 40 = .ok (.isub, 1) := by decide +kernel
theorem dX0_heatOrCool_41 : decode cX0_heatOrCool 41 = .ok (.invokestatic 29, 3) := by decide +kernel
theorem dX0_heatOrCool_44 : decode cX0_heatOrCool 44 = .ok (.putfield 19, 3) := by decide +kernel
theorem dX0_heatOrCool_47 : decode cX0_heatOrCool 47 = .ok (.return_, 1) := by decide +kernel
theorem dX0_tripIfHot_0 : decode cX0_tripIfHot 0 = .ok (.aload_n 0, 1) := by decide +kernel
theorem dX0_tripIfHot_1 : decode cX0_tripIfHot 1 = .ok (.getfield 15, 3) := by decide +kernel
theorem dX0_tripIfHot_4 : decode cX0_tripIfHot 4 = .ok (.ifCond .eq 27, 3) := by decide +kernel
theorem dX0_tripIfHot_7 : decode cX0_tripIfHot 7 = .ok (.aload_n 0, 1) := by decide +kernel
theorem dX0_tripIfHot_8 : decode cX0_tripIfHot 8 = .ok (.getfield 19, 3) := by decide +kernel
theorem dX0_tripIfHot_11 : decode cX0_tripIfHot 11 = .ok (.bipush 9, 2) := by decide +kernel
theorem dX0_tripIfHot_13 : decode cX0_tripIfHot 13 = .ok (.if_icmp .le 18, 3) := by decide +kernel
theorem dX0_tripIfHot_16 : decode cX0_tripIfHot 16 = .ok (.aload_n 0, 1) := by decide +kernel
theorem dX0_tripIfHot_17 : decode cX0_tripIfHot 17 = .ok (.iconst 0, 1) := by decide +kernel
theorem dX0_tripIfHot_18 : decode cX0_tripIfHot 18 = .ok (.putfield 15, 3) := by decide +kernel
theorem dX0_tripIfHot_21 : decode cX0_tripIfHot 21 = .ok (.aload_n 0, 1) := by decide +kernel
theorem dX0_tripIfHot_22 : decode cX0_tripIfHot 22 = .ok (.dup, 1) := by decide +kernel
theorem dX0_tripIfHot_23 : decode cX0_tripIfHot 23 = .ok (.getfield 35, 3) := by decide +kernel
theorem dX0_tripIfHot_26 : decode cX0_tripIfHot 26 = .ok (.iconst 1, 1) := by decide +kernel
theorem dX0_tripIfHot_27 : decode cX0_tripIfHot 27 = .ok (.iadd, 1) := by decide +kernel
theorem dX0_tripIfHot_28 : decode cX0_tripIfHot 28 = .ok (.putfield 35, 3) := by decide +kernel
theorem dX0_tripIfHot_31 : decode cX0_tripIfHot 31 = .ok (.return_, 1) := by decide +kernel
theorem dX0_copyFrom_0 : decode cX0_copyFrom 0 = .ok (.aload_n 0, 1) := by decide +kernel
theorem dX0_copyFrom_1 : decode cX0_copyFrom 1 = .ok (.aload_n 1, 1) := by decide +kernel
theorem dX0_copyFrom_2 : decode cX0_copyFrom 2 = .ok (.getfield 9, 3) := by decide +kernel
theorem dX0_copyFrom_5 : decode cX0_copyFrom 5 = .ok (.putfield 9, 3) := by decide +kernel
theorem dX0_copyFrom_8 : decode cX0_copyFrom 8 = .ok (.aload_n 0, 1) := by decide +kernel
theorem dX0_copyFrom_9 : decode cX0_copyFrom 9 = .ok (.aload_n 1, 1) := by decide +kernel
theorem dX0_copyFrom_10 : decode cX0_copyFrom 10 = .ok (.getfield 15, 3) := by decide +kernel
theorem dX0_copyFrom_13 : decode cX0_copyFrom 13 = .ok (.putfield 15, 3) := by decide +kernel
theorem dX0_copyFrom_16 : decode cX0_copyFrom 16 = .ok (.aload_n 0, 1) := by decide +kernel
theorem dX0_copyFrom_17 : decode cX0_copyFrom 17 = .ok (.aload_n 1, 1) := by decide +kernel
theorem dX0_copyFrom_18 : decode cX0_copyFrom 18 = .ok (.getfield 19, 3) := by decide +kernel
theorem dX0_copyFrom_21 : decode cX0_copyFrom 21 = .ok (.putfield 19, 3) := by decide +kernel
theorem dX0_copyFrom_24 : decode cX0_copyFrom 24 = .ok (.aload_n 0, 1) := by decide +kernel
theorem dX0_copyFrom_25 : decode cX0_copyFrom 25 = .ok (.aload_n 1, 1) := by decide +kernel
theorem dX0_copyFrom_26 : decode cX0_copyFrom 26 = .ok (.getfield 35, 3) := by decide +kernel
theorem dX0_copyFrom_29 : decode cX0_copyFrom 29 = .ok (.putfield 35, 3) := by decide +kernel
theorem dX0_copyFrom_32 : decode cX0_copyFrom 32 = .ok (.aload_n 0, 1) := by decide +kernel
theorem dX0_copyFrom_33 : decode cX0_copyFrom 33 = .ok (.aload_n 1, 1) := by decide +kernel
theorem dX0_copyFrom_34 : decode cX0_copyFrom 34 = .ok (.getfield 38, 3) := by decide +kernel
theorem dX0_copyFrom_37 : decode cX0_copyFrom 37 = .ok (.putfield 38, 3) := by decide +kernel
theorem dX0_copyFrom_40 : decode cX0_copyFrom 40 = .ok (.return_, 1) := by decide +kernel
theorem dX1_init_0 : decode cX1_init 0 = .ok (.aload_n 0, 1) := by decide +kernel
theorem dX1_init_1 : decode cX1_init 1 = .ok (.invokespecial 3, 3) := by decide +kernel
theorem dX1_init_4 : decode cX1_init 4 = .ok (.aload_n 0, 1) := by decide +kernel
theorem dX1_init_5 : decode cX1_init 5 = .ok (.bipush 6, 2) := by decide +kernel
theorem dX1_init_7 : decode cX1_init 7 = .ok (.anewarray 9, 3) := by decide +kernel
theorem dX1_init_10 : decode cX1_init 10 = .ok (.putfield 11, 3) := by decide +kernel
theorem dX1_init_13 : decode cX1_init 13 = .ok (.iconst 0, 1) := by decide +kernel
theorem dX1_init_14 : decode cX1_init 14 = .ok (.istore_n 1, 1) := by decide +kernel
theorem dX1_init_15 : decode cX1_init 15 = .ok (.iload_n 1, 1) := by decide +kernel
theorem dX1_init_16 : decode cX1_init 16 = .ok (.bipush 6, 2) := by decide +kernel
theorem dX1_init_18 : decode cX1_init 18 = .ok (.if_icmp .ge 22, 3) := by decide +kernel
theorem dX1_init_21 : decode cX1_init 21 = .ok (.aload_n 0, 1) := by decide +kernel
theorem dX1_init_22 : decode cX1_init 22 = .ok (.getfield 11, 3) := by decide +kernel
theorem dX1_init_25 : decode cX1_init 25 = .ok (.iload_n 1, 1) := by decide +kernel
theorem dX1_init_26 : decode cX1_init 26 = .ok (.new 9, 3) := by decide +kernel
theorem dX1_init_29 : decode cX1_init 29 = .ok (.dup, 1) := by decide +kernel
theorem dX1_init_30 : decode cX1_init 30 = .ok (.invokespecial 17, 3) := by decide +kernel
theorem dX1_init_33 : decode cX1_init 33 = .ok (.aastore, 1) := by decide +kernel
theorem dX1_init_34 : decode cX1_init 34 = .ok (.iinc 1 1, 3) := by decide +kernel
theorem dX1_init_37 : decode cX1_init 37 = .ok (.goto (-22), 3) := by decide +kernel
theorem dX1_init_40 : decode cX1_init 40 = .ok (.return_, 1) := by decide +kernel
theorem dX1_save_0 : decode cX1_save 0 = .ok (.aload_n 0, 1) := by decide +kernel
theorem dX1_save_1 : decode cX1_save 1 = .ok (.getfield 11, 3) := by decide +kernel
theorem dX1_save_4 : decode cX1_save 4 = .ok (.aload_n 0, 1) := by decide +kernel
theorem dX1_save_5 : decode cX1_save 5 = .ok (.getfield 18, 3) := by decide +kernel
theorem dX1_save_8 : decode cX1_save 8 = .ok (.aaload, 1) := by decide +kernel
theorem dX1_save_9 : decode cX1_save 9 = .ok (.aload_n 1, 1) := by decide +kernel
theorem dX1_save_10 : decode cX1_save 10 = .ok (.invokevirtual 22, 3) := by decide +kernel
theorem dX1_save_13 : decode cX1_save 13 = .ok (.aload_n 0, 1) := by decide +kernel
theorem dX1_save_14 : decode cX1_save 14 = .ok (.aload_n 0, 1) := by decide +kernel
theorem dX1_save_15 : decode cX1_save 15 = .ok (.getfield 18, 3) := by decide +kernel
theorem dX1_save_18 : decode cX1_save 18 = .ok (.iconst 1, 1) := by decide +kernel
theorem dX1_save_19 : decode cX1_save 19 = .ok (.iadd, 1) := by decide +kernel
theorem dX1_save_20 : decode cX1_save 20 = .ok (.bipush 6, 2) := by decide +kernel
theorem dX1_save_22 : decode cX1_save 22 = .ok (.irem, 1) := by decide +kernel
theorem dX1_save_23 : decode cX1_save 23 = .ok (.putfield 18, 3) := by decide +kernel
theorem dX1_save_26 : decode cX1_save 26 = .ok (.aload_n 0, 1) := by decide +kernel
theorem dX1_save_27 : decode cX1_save 27 = .ok (.aload_n 0, 1) := by decide +kernel
theorem dX1_save_28 : decode cX1_save 28 = .ok (.getfield 26, 3) := by decide +kernel
theorem dX1_save_31 : decode cX1_save 31 = .ok (.iconst 1, 1) := by decide +kernel
theorem dX1_save_32 : decode cX1_save 32 = .ok (.iadd, 1) := by decide +kernel
theorem dX1_save_33 : decode cX1_save 33 = .ok (.bipush 6, 2) := by decide +kernel
theorem dX1_save_35 : decode cX1_save 35 = .ok (.invokestatic 29, 3) := by decide +kernel
theorem dX1_save_38 : decode cX1_save 38 = .ok (.putfield 26, 3) := by decide +kernel
theorem dX1_save_41 : decode cX1_save 41 = .ok (.return_, 1) := by decide +kernel
theorem dX2_init_0 : decode cX2_init 0 = .ok (.aload_n 0, 1) := by decide +kernel
theorem dX2_init_1 : decode cX2_init 1 = .ok (.invokespecial 3, 3) := by decide +kernel
theorem dX2_init_4 : decode cX2_init 4 = .ok (.aload_n 0, 1) := by decide +kernel
theorem dX2_init_5 : decode cX2_init 5 = .ok (.bipush 10, 2) := by decide +kernel
theorem dX2_init_7 : decode cX2_init 7 = .ok (.anewarray 9, 3) := by decide +kernel
theorem dX2_init_10 : decode cX2_init 10 = .ok (.putfield 11, 3) := by decide +kernel
theorem dX2_init_13 : decode cX2_init 13 = .ok (.aload_n 0, 1) := by decide +kernel
theorem dX2_init_14 : decode cX2_init 14 = .ok (.iconst 4, 1) := by decide +kernel
theorem dX2_init_15 : decode cX2_init 15 = .ok (.anewarray 17, 3) := by decide +kernel
theorem dX2_init_18 : decode cX2_init 18 = .ok (.putfield 19, 3) := by decide +kernel
theorem dX2_init_21 : decode cX2_init 21 = .ok (.aload_n 0, 1) := by decide +kernel
theorem dX2_init_22 : decode cX2_init 22 = .ok (.bipush 12, 2) := by decide +kernel
theorem dX2_init_24 : decode cX2_init 24 = .ok (.newarray .boolean, 2) := by decide +kernel
theorem dX2_init_26 : decode cX2_init 26 = .ok (.putfield 23, 3) := by decide +kernel
theorem dX2_init_29 : decode cX2_init 29 = .ok (.aload_n 0, 1) := by decide +kernel
theorem dX2_init_30 : decode cX2_init 30 = .ok (.getstatic 27, 3) := by decide +kernel
theorem dX2_init_33 : decode cX2_init 33 = .ok (.invokevirtual 31, 3) := by decide +kernel
theorem dX2_init_36 : decode cX2_init 36 = .ok (.checkcast 32, 3) := by decide +kernel
theorem dX2_init_39 : decode cX2_init 39 = .ok (.putfield 36, 3) := by decide +kernel
theorem dX2_init_42 : decode cX2_init 42 = .ok (.iconst 0, 1) := by decide +kernel
theorem dX2_init_43 : decode cX2_init 43 = .ok (.istore_n 1, 1) := by decide +kernel
theorem dX2_init_44 : decode cX2_init 44 = .ok (.iload_n 1, 1) := by decide +kernel
theorem dX2_init_45 : decode cX2_init 45 = .ok (.bipush 10, 2) := by decide +kernel
theorem dX2_init_47 : decode cX2_init 47 = .ok (.if_icmp .ge 22, 3) := by decide +kernel
theorem dX2_init_50 : decode cX2_init 50 = .ok (.aload_n 0, 1) := by decide +kernel
theorem dX2_init_51 : decode cX2_init 51 = .ok (.getfield 11, 3) := by decide +kernel
theorem dX2_init_54 : decode cX2_init 54 = .ok (.iload_n 1, 1) := by decide +kernel
theorem dX2_init_55 : decode cX2_init 55 = .ok (.new 9, 3) := by decide +kernel
theorem dX2_init_58 : decode cX2_init 58 = .ok (.dup, 1) := by decide +kernel
theorem dX2_init_59 : decode cX2_init 59 = .ok (.invokespecial 39, 3) := by decide +kernel
theorem dX2_init_62 : decode cX2_init 62 = .ok (.aastore, 1) := by decide +kernel
theorem dX2_init_63 : decode cX2_init 63 = .ok (.iinc 1 1, 3) := by decide +kernel
theorem dX2_init_66 : decode cX2_init 66 = .ok (.goto (-22), 3) := by decide +kernel
theorem dX2_init_69 : decode cX2_init 69 = .ok (.iconst 0, 1) := by decide +kernel
theorem dX2_init_70 : decode cX2_init 70 = .ok (.istore_n 1, 1) := by decide +kernel
theorem dX2_init_71 : decode cX2_init 71 = .ok (.iload_n 1, 1) := by decide +kernel
theorem dX2_init_72 : decode cX2_init 72 = .ok (.iconst 4, 1) := by decide +kernel
theorem dX2_init_73 : decode cX2_init 73 = .ok (.if_icmp .ge 22, 3) := by decide +kernel
theorem dX2_init_76 : decode cX2_init 76 = .ok (.aload_n 0, 1) := by decide +kernel
theorem dX2_init_77 : decode cX2_init 77 = .ok (.getfield 19, 3) := by decide +kernel
theorem dX2_init_80 : decode cX2_init 80 = .ok (.iload_n 1, 1) := by decide +kernel
theorem dX2_init_81 : decode cX2_init 81 = .ok (.new 17, 3) := by decide +kernel
theorem dX2_init_84 : decode cX2_init 84 = .ok (.dup, 1) := by decide +kernel
theorem dX2_init_85 : decode cX2_init 85 = .ok (.invokespecial 40, 3) := by decide +kernel
theorem dX2_init_88 : decode cX2_init 88 = .ok (.aastore, 1) := by decide +kernel
theorem dX2_init_89 : decode cX2_init 89 = .ok (.iinc 1 1, 3) := by decide +kernel
theorem dX2_init_92 : decode cX2_init 92 = .ok (.goto (-21), 3) := by decide +kernel
theorem dX2_init_95 : decode cX2_init 95 = .ok (.return_, 1) := by decide +kernel
theorem dX2_copyFrom_0 : decode cX2_copyFrom 0 = .ok (.aload_n 0, 1) := by decide +kernel
theorem dX2_copyFrom_1 : decode cX2_copyFrom 1 = .ok (.aload_n 1, 1) := by decide +kernel
theorem dX2_copyFrom_2 : decode cX2_copyFrom 2 = .ok (.getfield 41, 3) := by decide +kernel
theorem dX2_copyFrom_5 : decode cX2_copyFrom 5 = .ok (.putfield 41, 3) := by decide +kernel
theorem dX2_copyFrom_8 : decode cX2_copyFrom 8 = .ok (.iconst 0, 1) := by decide +kernel
theorem dX2_copyFrom_9 : decode cX2_copyFrom 9 = .ok (.istore_n 2, 1) := by decide +kernel
theorem dX2_copyFrom_10 : decode cX2_copyFrom 10 = .ok (.iload_n 2, 1) := by decide +kernel
theorem dX2_copyFrom_11 : decode cX2_copyFrom 11 = .ok (.aload_n 0, 1) := by decide +kernel
theorem dX2_copyFrom_12 : decode cX2_copyFrom 12 = .ok (.getfield 41, 3) := by decide +kernel
theorem dX2_copyFrom_15 : decode cX2_copyFrom 15 = .ok (.if_icmp .ge 24, 3) := by decide +kernel
theorem dX2_copyFrom_18 : decode cX2_copyFrom 18 = .ok (.aload_n 0, 1) := by decide +kernel
theorem dX2_copyFrom_19 : decode cX2_copyFrom 19 = .ok (.getfield 11, 3) := by decide +kernel
theorem dX2_copyFrom_22 : decode cX2_copyFrom 22 = .ok (.iload_n 2, 1) := by decide +kernel
theorem dX2_copyFrom_23 : decode cX2_copyFrom 23 = .ok (.aaload, 1) := by decide +kernel
theorem dX2_copyFrom_24 : decode cX2_copyFrom 24 = .ok (.aload_n 1, 1) := by decide +kernel
theorem dX2_copyFrom_25 : decode cX2_copyFrom 25 = .ok (.getfield 11, 3) := by decide +kernel
theorem dX2_copyFrom_28 : decode cX2_copyFrom 28 = .ok (.iload_n 2, 1) := by decide +kernel
theorem dX2_copyFrom_29 : decode cX2_copyFrom 29 = .ok (.aaload, 1) := by decide +kernel
theorem dX2_copyFrom_30 : decode cX2_copyFrom 30 = .ok (.invokevirtual 45, 3) := by decide +kernel
theorem dX2_copyFrom_33 : decode cX2_copyFrom 33 = .ok (.iinc 2 1, 3) := by decide +kernel
theorem dX2_copyFrom_36 : decode cX2_copyFrom 36 = .ok (.goto (-26), 3) := by decide +kernel
theorem dX2_copyFrom_39 : decode cX2_copyFrom 39 = .ok (.iconst 0, 1) := by decide +kernel
theorem dX2_copyFrom_40 : decode cX2_copyFrom 40 = .ok (.istore_n 2, 1) := by decide +kernel
theorem dX2_copyFrom_41 : decode cX2_copyFrom 41 = .ok (.iload_n 2, 1) := by decide +kernel
theorem dX2_copyFrom_42 : decode cX2_copyFrom 42 = .ok (.iconst 4, 1) := by decide +kernel
theorem dX2_copyFrom_43 : decode cX2_copyFrom 43 = .ok (.if_icmp .ge 24, 3) := by decide +kernel
theorem dX2_copyFrom_46 : decode cX2_copyFrom 46 = .ok (.aload_n 0, 1) := by decide +kernel
theorem dX2_copyFrom_47 : decode cX2_copyFrom 47 = .ok (.getfield 19, 3) := by decide +kernel
theorem dX2_copyFrom_50 : decode cX2_copyFrom 50 = .ok (.iload_n 2, 1) := by decide +kernel
theorem dX2_copyFrom_51 : decode cX2_copyFrom 51 = .ok (.aaload, 1) := by decide +kernel
theorem dX2_copyFrom_52 : decode cX2_copyFrom 52 = .ok (.aload_n 1, 1) := by decide +kernel
theorem dX2_copyFrom_53 : decode cX2_copyFrom 53 = .ok (.getfield 19, 3) := by decide +kernel
theorem dX2_copyFrom_56 : decode cX2_copyFrom 56 = .ok (.iload_n 2, 1) := by decide +kernel
theorem dX2_copyFrom_57 : decode cX2_copyFrom 57 = .ok (.aaload, 1) := by decide +kernel
theorem dX2_copyFrom_58 : decode cX2_copyFrom 58 = .ok (.invokevirtual 49, 3) := by decide +kernel
theorem dX2_copyFrom_61 : decode cX2_copyFrom 61 = .ok (.iinc 2 1, 3) := by decide +kernel
theorem dX2_copyFrom_64 : decode cX2_copyFrom 64 = .ok (.goto (-23), 3) := by decide +kernel
theorem dX2_copyFrom_67 : decode cX2_copyFrom 67 = .ok (.iconst 0, 1) := by decide +kernel
theorem dX2_copyFrom_68 : decode cX2_copyFrom 68 = .ok (.istore_n 2, 1) := by decide +kernel
theorem dX2_copyFrom_69 : decode cX2_copyFrom 69 = .ok (.iload_n 2, 1) := by decide +kernel
theorem dX2_copyFrom_70 : decode cX2_copyFrom 70 = .ok (.bipush 12, 2) := by decide +kernel
theorem dX2_copyFrom_72 : decode cX2_copyFrom 72 = .ok (.if_icmp .ge 21, 3) := by decide +kernel
theorem dX2_copyFrom_75 : decode cX2_copyFrom 75 = .ok (.aload_n 0, 1) := by decide +kernel
theorem dX2_copyFrom_76 : decode cX2_copyFrom 76 = .ok (.getfield 23, 3) := by decide +kernel
theorem dX2_copyFrom_79 : decode cX2_copyFrom 79 = .ok (.iload_n 2, 1) := by decide +kernel
theorem dX2_copyFrom_80 : decode cX2_copyFrom 80 = .ok (.aload_n 1, 1) := by decide +kernel
theorem dX2_copyFrom_81 : decode cX2_copyFrom 81 = .ok (.getfield 23, 3) := by decide +kernel
theorem dX2_copyFrom_84 : decode cX2_copyFrom 84 = .ok (.iload_n 2, 1) := by decide +kernel
theorem dX2_copyFrom_85 : decode cX2_copyFrom 85 = .ok (.baload, 1) := by decide +kernel
theorem dX2_copyFrom_86 : decode cX2_copyFrom 86 = .ok (.bastore, 1) := by decide +kernel
theorem dX2_copyFrom_87 : decode cX2_copyFrom 87 = .ok (.iinc 2 1, 3) := by decide +kernel
theorem dX2_copyFrom_90 : decode cX2_copyFrom 90 = .ok (.goto (-21), 3) := by decide +kernel
theorem dX2_copyFrom_93 : decode cX2_copyFrom 93 = .ok (.aload_n 1, 1) := by decide +kernel
theorem dX2_copyFrom_94 : decode cX2_copyFrom 94 = .ok (.getfield 36, 3) := by decide +kernel
theorem dX2_copyFrom_97 : decode cX2_copyFrom 97 = .ok (.iconst 0, 1) := by decide +kernel
theorem dX2_copyFrom_98 : decode cX2_copyFrom 98 = .ok (.aload_n 0, 1) := by decide +kernel
theorem dX2_copyFrom_99 : decode cX2_copyFrom 99 = .ok (.getfield 36, 3) := by decide +kernel
theorem dX2_copyFrom_102 : decode cX2_copyFrom 102 = .ok (.iconst 0, 1) := by decide +kernel
theorem dX2_copyFrom_103 : decode cX2_copyFrom 103 = .ok (.iconst 3, 1) := by decide +kernel
theorem dX2_copyFrom_104 : decode cX2_copyFrom 104 = .ok (.invokestatic 52, 3) := by decide +kernel
theorem dX2_copyFrom_107 : decode cX2_copyFrom 107 = .ok (.aload_n 0, 1) := by decide +kernel
theorem dX2_copyFrom_108 : decode cX2_copyFrom 108 = .ok (.aload_n 1, 1) := by decide +kernel
theorem dX2_copyFrom_109 : decode cX2_copyFrom 109 = .ok (.getfield 58, 3) := by decide +kernel
theorem dX2_copyFrom_112 : decode cX2_copyFrom 112 = .ok (.putfield 58, 3) := by decide +kernel
theorem dX2_copyFrom_115 : decode cX2_copyFrom 115 = .ok (.aload_n 0, 1) := by decide +kernel
theorem dX2_copyFrom_116 : decode cX2_copyFrom 116 = .ok (.aload_n 1, 1) := by decide +kernel
theorem dX2_copyFrom_117 : decode cX2_copyFrom 117 = .ok (.getfield 61, 3) := by decide +kernel
theorem dX2_copyFrom_120 : decode cX2_copyFrom 120 = .ok (.putfield 61, 3) := by decide +kernel
theorem dX2_copyFrom_123 : decode cX2_copyFrom 123 = .ok (.aload_n 0, 1) := by decide +kernel
theorem dX2_copyFrom_124 : decode cX2_copyFrom 124 = .ok (.aload_n 1, 1) := by decide +kernel
theorem dX2_copyFrom_125 : decode cX2_copyFrom 125 = .ok (.getfield 64, 3) := by decide +kernel
theorem dX2_copyFrom_128 : decode cX2_copyFrom 128 = .ok (.putfield 64, 3) := by decide +kernel
theorem dX2_copyFrom_131 : decode cX2_copyFrom 131 = .ok (.return_, 1) := by decide +kernel
theorem dX2_isFull_0 : decode cX2_isFull 0 = .ok (.aload_n 0, 1) := by decide +kernel
theorem dX2_isFull_1 : decode cX2_isFull 1 = .ok (.getfield 41, 3) := by decide +kernel
theorem dX2_isFull_4 : decode cX2_isFull 4 = .ok (.bipush 10, 2) := by decide +kernel
theorem dX2_isFull_6 : decode cX2_isFull 6 = .ok (.if_icmp .lt 7, 3) := by decide +kernel
theorem dX2_isFull_9 : decode cX2_isFull 9 = .ok (.iconst 1, 1) := by decide +kernel
theorem dX2_isFull_10 : decode cX2_isFull 10 = .ok (.goto 4, 3) := by decide +kernel
theorem dX2_isFull_13 : decode cX2_isFull 13 = .ok (.iconst 0, 1) := by decide +kernel
theorem dX2_isFull_14 : decode cX2_isFull 14 = .ok (.ireturn, 1) := by decide +kernel
theorem dX2_add_0 : decode cX2_add 0 = .ok (.aload_n 0, 1) := by decide +kernel
theorem dX2_add_1 : decode cX2_add 1 = .ok (.getfield 41, 3) := by decide +kernel
theorem dX2_add_4 : decode cX2_add 4 = .ok (.istore 5, 2) := by decide +kernel
theorem dX2_add_6 : decode cX2_add 6 = .ok (.aload_n 0, 1) := by decide +kernel
theorem dX2_add_7 : decode cX2_add 7 = .ok (.getfield 11, 3) := by decide +kernel
theorem dX2_add_10 : decode cX2_add 10 = .ok (.iload 5, 2) := by decide +kernel
theorem dX2_add_12 : decode cX2_add 12 = .ok (.aaload, 1) := by decide +kernel
theorem dX2_add_13 : decode cX2_add 13 = .ok (.iload_n 1, 1) := by decide +kernel
theorem dX2_add_14 : decode cX2_add 14 = .ok (.iload_n 2, 1) := by decide +kernel
theorem dX2_add_15 : decode cX2_add 15 = .ok (.iload_n 3, 1) := by decide +kernel
theorem dX2_add_16 : decode cX2_add 16 = .ok (.iload 4, 2) := by decide +kernel
theorem dX2_add_18 : decode cX2_add 18 = .ok (.invokevirtual 67, 3) := by decide +kernel
theorem dX2_add_21 : decode cX2_add 21 = .ok (.aload_n 0, 1) := by decide +kernel
theorem dX2_add_22 : decode cX2_add 22 = .ok (.dup, 1) := by decide +kernel
theorem dX2_add_23 : decode cX2_add 23 = .ok (.getfield 41, 3) := by decide +kernel
theorem dX2_add_26 : decode cX2_add 26 = .ok (.iconst 1, 1) := by decide +kernel
theorem dX2_add_27 : decode cX2_add 27 = .ok (.iadd, 1) := by decide +kernel
theorem dX2_add_28 : decode cX2_add 28 = .ok (.putfield 41, 3) := by decide +kernel
theorem dX2_add_31 : decode cX2_add 31 = .ok (.iload 5, 2) := by decide +kernel
theorem dX2_add_33 : decode cX2_add 33 = .ok (.ireturn, 1) := by decide +kernel
theorem dX2_move_0 : decode cX2_move 0 = .ok (.aload_n 0, 1) := by decide +kernel
theorem dX2_move_1 : decode cX2_move 1 = .ok (.getfield 11, 3) := by decide +kernel
theorem dX2_move_4 : decode cX2_move 4 = .ok (.iload_n 1, 1) := by decide +kernel
theorem dX2_move_5 : decode cX2_move 5 = .ok (.aaload, 1) := by decide +kernel
theorem dX2_move_6 : decode cX2_move 6 = .ok (.getfield 71, 3) := by decide +kernel
theorem dX2_move_9 : decode cX2_move 9 = .ok (.istore_n 3, 1) := by decide +kernel
theorem dX2_move_10 : decode cX2_move 10 = .ok (.aload_n 0, 1) := by decide +kernel
theorem dX2_move_11 : decode cX2_move 11 = .ok (.getfield 11, 3) := by decide +kernel
theorem dX2_move_14 : decode cX2_move 14 = .ok (.iload_n 1, 1) := by decide +kernel
theorem dX2_move_15 : decode cX2_move 15 = .ok (.aaload, 1) := by decide +kernel
theorem dX2_move_16 : decode cX2_move 16 = .ok (.iload_n 2, 1) := by decide +kernel
theorem dX2_move_17 : decode cX2_move 17 = .ok (.putfield 71, 3) := by decide +kernel
theorem dX2_move_20 : decode cX2_move 20 = .ok (.iload_n 3, 1) := by decide +kernel
theorem dX2_move_21 : decode cX2_move 21 = .ok (.ireturn, 1) := by decide +kernel
theorem dX2_hasRoomFor_0 : decode cX2_hasRoomFor 0 = .ok (.aload_n 0, 1) := by decide +kernel
theorem dX2_hasRoomFor_1 : decode cX2_hasRoomFor 1 = .ok (.getfield 58, 3) := by decide +kernel
theorem dX2_hasRoomFor_4 : decode cX2_hasRoomFor 4 = .ok (.iload_n 1, 1) := by decide +kernel
theorem dX2_hasRoomFor_5 : decode cX2_hasRoomFor 5 = .ok (.iadd, 1) := by decide +kernel
theorem dX2_hasRoomFor_6 : decode cX2_hasRoomFor 6 = .ok (.sipush 9999, 3) := by decide +kernel
theorem dX2_hasRoomFor_9 : decode cX2_hasRoomFor 9 = .ok (.if_icmp .gt 7, 3) := by decide +kernel
theorem dX2_hasRoomFor_12 : decode cX2_hasRoomFor 12 = .ok (.iconst 1, 1) := by decide +kernel
theorem dX2_hasRoomFor_13 : decode cX2_hasRoomFor 13 = .ok (.goto 4, 3) := by decide +kernel
theorem dX2_hasRoomFor_16 : decode cX2_hasRoomFor 16 = .ok (.iconst 0, 1) := by decide +kernel
theorem dX2_hasRoomFor_17 : decode cX2_hasRoomFor 17 = .ok (.ireturn, 1) := by decide +kernel
theorem dX2_goHours_0 : decode cX2_goHours 0 = .ok (.iconst 0, 1) := by decide +kernel
theorem dX2_goHours_1 : decode cX2_goHours 1 = .ok (.istore_n 2, 1) := by decide +kernel
theorem dX2_goHours_2 : decode cX2_goHours 2 = .ok (.iload_n 2, 1) := by decide +kernel
theorem dX2_goHours_3 : decode cX2_goHours 3 = .ok (.iload_n 1, 1) := by decide +kernel
theorem dX2_goHours_4 : decode cX2_goHours 4 = .ok (.if_icmp .ge 13, 3) := by decide +kernel
theorem dX2_goHours_7 : decode cX2_goHours 7 = .ok (.aload_n 0, 1) := by decide +kernel
theorem dX2_goHours_8 : decode cX2_goHours 8 = .ok (.invokevirtual 74, 3) := by decide +kernel
theorem dX2_goHours_11 : decode cX2_goHours 11 = .ok (.iinc 2 1, 3) := by decide +kernel
theorem dX2_goHours_14 : decode cX2_goHours 14 = .ok (.goto (-12), 3) := by decide +kernel
theorem dX2_goHours_17 : decode cX2_goHours 17 = .ok (.return_, 1) := by decide +kernel
theorem dX2_goOneHour_0 : decode cX2_goOneHour 0 = .ok (.aload_n 0, 1) := by decide +kernel
theorem dX2_goOneHour_1 : decode cX2_goOneHour 1 = .ok (.invokevirtual 77, 3) := by decide +kernel
theorem dX2_goOneHour_4 : decode cX2_goOneHour 4 = .ok (.aload_n 0, 1) := by decide +kernel
theorem dX2_goOneHour_5 : decode cX2_goOneHour 5 = .ok (.getfield 36, 3) := by decide +kernel
theorem dX2_goOneHour_8 : decode cX2_goOneHour 8 = .ok (.iconst 1, 1) := by decide +kernel
theorem dX2_goOneHour_9 : decode cX2_goOneHour 9 = .ok (.iaload, 1) := by decide +kernel
theorem dX2_goOneHour_10 : decode cX2_goOneHour 10 = .ok (.iconst 1, 1) := by decide +kernel
theorem dX2_goOneHour_11 : decode cX2_goOneHour 11 = .ok (.if_icmp .ne 21, 3) := by decide +kernel
theorem dX2_goOneHour_14 : decode cX2_goOneHour 14 = .ok (.iconst 0, 1) := by decide +kernel
theorem dX2_goOneHour_15 : decode cX2_goOneHour 15 = .ok (.istore_n 1, 1) := by decide +kernel
theorem dX2_goOneHour_16 : decode cX2_goOneHour 16 = .ok (.iload_n 1, 1) := by decide +kernel
theorem dX2_goOneHour_17 : decode cX2_goOneHour 17 = .ok (.iconst 4, 1) := by decide +kernel
theorem dX2_goOneHour_18 : decode cX2_goOneHour 18 = .ok (.if_icmp .ge 14, 3) := by decide +kernel
theorem dX2_goOneHour_21 : decode cX2_goOneHour 21 = .ok (.aload_n 0, 1) := by decide +kernel
theorem dX2_goOneHour_22 : decode cX2_goOneHour 22 = .ok (.iload_n 1, 1) := by decide +kernel
theorem dX2_goOneHour_23 : decode cX2_goOneHour 23 = .ok (.invokevirtual 80, 3) := by decide +kernel
theorem dX2_goOneHour_26 : decode cX2_goOneHour 26 = .ok (.iinc 1 1, 3) := by decide +kernel
theorem dX2_goOneHour_29 : decode cX2_goOneHour 29 = .ok (.goto (-13), 3) := by decide +kernel
theorem dX2_goOneHour_32 : decode cX2_goOneHour 32 = .ok (.iconst 0, 1) := by decide +kernel
theorem dX2_goOneHour_33 : decode cX2_goOneHour 33 = .ok (.istore_n 1, 1) := by decide +kernel
theorem dX2_goOneHour_34 : decode cX2_goOneHour 34 = .ok (.iload_n 1, 1) := by decide +kernel
theorem dX2_goOneHour_35 : decode cX2_goOneHour 35 = .ok (.iconst 4, 1) := by decide +kernel
theorem dX2_goOneHour_36 : decode cX2_goOneHour 36 = .ok (.if_icmp .ge 24, 3) := by decide +kernel
theorem dX2_goOneHour_39 : decode cX2_goOneHour 39 = .ok (.aload_n 0, 1) := by decide +kernel
theorem dX2_goOneHour_40 : decode cX2_goOneHour 40 = .ok (.getfield 19, 3) := by decide +kernel
theorem dX2_goOneHour_43 : decode cX2_goOneHour 43 = .ok (.iload_n 1, 1) := by decide +kernel
theorem dX2_goOneHour_44 : decode cX2_goOneHour 44 = .ok (.aaload, 1) := by decide +kernel
theorem dX2_goOneHour_45 : decode cX2_goOneHour 45 = .ok (.aload_n 0, 1) := by decide +kernel
theorem dX2_goOneHour_46 : decode cX2_goOneHour 46 = .ok (.getfield 36, 3) := by decide +kernel
theorem dX2_goOneHour_49 : decode cX2_goOneHour 49 = .ok (.iconst 0, 1) := by decide +kernel
theorem dX2_goOneHour_50 : decode cX2_goOneHour 50 = .ok (.iaload, 1) := by decide +kernel
theorem dX2_goOneHour_51 : decode cX2_goOneHour 51 = .ok (.invokevirtual 84, 3) := by decide +kernel
theorem dX2_goOneHour_54 : decode cX2_goOneHour 54 = .ok (.iinc 1 1, 3) := by decide +kernel
theorem dX2_goOneHour_57 : decode cX2_goOneHour 57 = .ok (.goto (-23), 3) := by decide +kernel
theorem dX2_goOneHour_60 : decode cX2_goOneHour 60 = .ok (.aload_n 0, 1) := by decide +kernel
theorem dX2_goOneHour_61 : decode cX2_goOneHour 61 = .ok (.invokevirtual 87, 3) := by decide +kernel
theorem dX2_goOneHour_64 : decode cX2_goOneHour 64 = .ok (.iconst 0, 1) := by decide +kernel
theorem dX2_goOneHour_65 : decode cX2_goOneHour 65 = .ok (.istore_n 1, 1) := by decide +kernel
theorem dX2_goOneHour_66 : decode cX2_goOneHour 66 = .ok (.iload_n 1, 1) := by decide +kernel
theorem dX2_goOneHour_67 : decode cX2_goOneHour 67 = .ok (.iconst 4, 1) := by decide +kernel
theorem dX2_goOneHour_68 : decode cX2_goOneHour 68 = .ok (.if_icmp .ge 18, 3) := by decide +kernel
theorem dX2_goOneHour_71 : decode cX2_goOneHour 71 = .ok (.aload_n 0, 1) := by decide +kernel
theorem dX2_goOneHour_72 : decode cX2_goOneHour 72 = .ok (.getfield 19, 3) := by decide +kernel
theorem dX2_goOneHour_75 : decode cX2_goOneHour 75 = .ok (.iload_n 1, 1) := by decide +kernel
theorem dX2_goOneHour_76 : decode cX2_goOneHour 76 = .ok (.aaload, 1) := by decide +kernel
theorem dX2_goOneHour_77 : decode cX2_goOneHour 77 = .ok (.invokevirtual 90, 3) := by decide +kernel
theorem dX2_goOneHour_80 : decode cX2_goOneHour 80 = .ok (.iinc 1 1, 3) := by decide +kernel
theorem dX2_goOneHour_83 : decode cX2_goOneHour 83 = .ok (.goto (-17), 3) := by decide +kernel
theorem dX2_goOneHour_86 : decode cX2_goOneHour 86 = .ok (.aload_n 0, 1) := by decide +kernel
theorem dX2_goOneHour_87 : decode cX2_goOneHour 87 = .ok (.dup, 1) := by decide +kernel
theorem dX2_goOneHour_88 : decode cX2_goOneHour 88 = .ok (.getfield 58, 3) := by decide +kernel
theorem dX2_goOneHour_91 : decode cX2_goOneHour 91 = .ok (.iconst 1, 1) := by decide +kernel
theorem dX2_goOneHour_92 : decode cX2_goOneHour 92 = .ok (.iadd, 1) := by decide +kernel
theorem dX2_goOneHour_93 : decode cX2_goOneHour 93 = .ok (.putfield 58, 3) := by decide +kernel
theorem dX2_goOneHour_96 : decode cX2_goOneHour 96 = .ok (.return_, 1) := by decide +kernel
theorem dX2_findSources_0 : decode cX2_findSources 0 = .ok (.iconst 0, 1) := by decide +kernel
theorem dX2_findSources_1 : decode cX2_findSources 1 = .ok (.istore_n 1, 1) := by decide +kernel
theorem dX2_findSources_2 : decode cX2_findSources 2 = .ok (.iload_n 1, 1) := by decide +kernel
theorem dX2_findSources_3 : decode cX2_findSources 3 = .ok (.iconst 4, 1) := by decide +kernel
theorem dX2_findSources_4 : decode cX2_findSources 4 = .ok (.if_icmp .ge 19, 3) := by decide +kernel
theorem dX2_findSources_7 : decode cX2_findSources 7 = .ok (.aload_n 0, 1) := by decide +kernel
theorem dX2_findSources_8 : decode cX2_findSources 8 = .ok (.getfield 19, 3) := by decide +kernel
theorem dX2_findSources_11 : decode cX2_findSources 11 = .ok (.iload_n 1, 1) := by decide +kernel
theorem dX2_findSources_12 : decode cX2_findSources 12 = .ok (.aaload, 1) := by decide +kernel
theorem dX2_findSources_13 : decode cX2_findSources 13 = .ok (.iconst 0, 1) := by decide +kernel
theorem dX2_findSources_14 : decode cX2_findSources 14 = .ok (.putfield 93, 3) := by decide +kernel
theorem dX2_findSources_17 : decode cX2_findSources 17 = .ok (.iinc 1 1, 3) := by decide +kernel
theorem dX2_findSources_20 : decode cX2_findSources 20 = .ok (.goto (-18), 3) := by decide +kernel
theorem dX2_findSources_23 : decode cX2_findSources 23 = .ok (.iconst 0, 1) := by decide +kernel
theorem dX2_findSources_24 : decode cX2_findSources 24 = .ok (.istore_n 1, 1) := by decide +kernel
theorem dX2_findSources_25 : decode cX2_findSources 25 = .ok (.iload_n 1, 1) := by decide +kernel
theorem dX2_findSources_26 : decode cX2_findSources 26 = .ok (.aload_n 0, 1) := by decide +kernel
theorem dX2_findSources_27 : decode cX2_findSources 27 = .ok (.getfield 41, 3) := by decide +kernel
theorem dX2_findSources_30 : decode cX2_findSources 30 = .ok (.if_icmp .ge 54, 3) := by decide +kernel
theorem dX2_findSources_33 : decode cX2_findSources 33 = .ok (.aload_n 0, 1) := by decide +kernel
theorem dX2_findSources_34 : decode cX2_findSources 34 = .ok (.getfield 11, 3) := by decide +kernel
theorem dX2_findSources_37 : decode cX2_findSources 37 = .ok (.iload_n 1, 1) := by decide +kernel
theorem dX2_findSources_38 : decode cX2_findSources 38 = .ok (.aaload, 1) := by decide +kernel
theorem dX2_findSources_39 : decode cX2_findSources 39 = .ok (.astore_n 2, 1) := by decide +kernel
theorem dX2_findSources_40 : decode cX2_findSources 40 = .ok (.aload_n 2, 1) := by decide +kernel
theorem dX2_findSources_41 : decode cX2_findSources 41 = .ok (.aload_n 0, 1) := by decide +kernel
theorem dX2_findSources_42 : decode cX2_findSources 42 = .ok (.aload_n 2, 1) := by decide +kernel
theorem dX2_findSources_43 : decode cX2_findSources 43 = .ok (.invokevirtual 96, 3) := by decide +kernel
theorem dX2_findSources_46 : decode cX2_findSources 46 = .ok (.putfield 100, 3) := by decide +kernel
theorem dX2_findSources_49 : decode cX2_findSources 49 = .ok (.aload_n 2, 1) := by decide +kernel
theorem dX2_findSources_50 : decode cX2_findSources 50 = .ok (.getfield 100, 3) := by decide +kernel
theorem dX2_findSources_53 : decode cX2_findSources 53 = .ok (.iconst (-1), 1) := by decide +kernel
theorem dX2_findSources_54 : decode cX2_findSources 54 = .ok (.if_icmp .eq 24, 3) := by decide +kernel
theorem dX2_findSources_57 : decode cX2_findSources 57 = .ok (.aload_n 0, 1) := by decide +kernel
theorem dX2_findSources_58 : decode cX2_findSources 58 = .ok (.getfield 19, 3) := by decide +kernel
theorem dX2_findSources_61 : decode cX2_findSources 61 = .ok (.aload_n 2, 1) := by decide +kernel
theorem dX2_findSources_62 : decode cX2_findSources 62 = .ok (.getfield 100, 3) := by decide +kernel
theorem dX2_findSources_65 : decode cX2_findSources 65 = .ok (.aaload, 1) := by decide +kernel
theorem dX2_findSources_66 : decode cX2_findSources 66 = .ok (.dup, 1) := by decide +kernel
theorem dX2_findSources_67 : decode cX2_findSources 67 = .ok (.getfield 93, 3) := by decide +kernel
theorem dX2_findSources_70 : decode cX2_findSources 70 = .ok (.aload_n 2, 1) := by decide +kernel
theorem dX2_findSources_71 : decode cX2_findSources 71 = .ok (.getfield 103, 3) := by decide +kernel
theorem dX2_findSources_74 : decode cX2_findSources 74 = .ok (.iadd, 1) := by decide +kernel
theorem dX2_findSources_75 : decode cX2_findSources 75 = .ok (.putfield 93, 3) := by decide +kernel
theorem dX2_findSources_78 : decode cX2_findSources 78 = .ok (.iinc 1 1, 3) := by decide +kernel
theorem dX2_findSources_81 : decode cX2_findSources 81 = .ok (.goto (-56), 3) := by decide +kernel
theorem dX2_findSources_84 : decode cX2_findSources 84 = .ok (.return_, 1) := by decide +kernel
theorem dX2_shedTooMuch_0 : decode cX2_shedTooMuch 0 = .ok (.iconst 0, 1) := by decide +kernel
theorem dX2_shedTooMuch_1 : decode cX2_shedTooMuch 1 = .ok (.istore_n 2, 1) := by decide +kernel
theorem dX2_shedTooMuch_2 : decode cX2_shedTooMuch 2 = .ok (.iload_n 2, 1) := by decide +kernel
theorem dX2_shedTooMuch_3 : decode cX2_shedTooMuch 3 = .ok (.aload_n 0, 1) := by decide +kernel
theorem dX2_shedTooMuch_4 : decode cX2_shedTooMuch 4 = .ok (.getfield 41, 3) := by decide +kernel
theorem dX2_shedTooMuch_7 : decode cX2_shedTooMuch 7 = .ok (.if_icmp .ge 82, 3) := by decide +kernel
theorem dX2_shedTooMuch_10 : decode cX2_shedTooMuch 10 = .ok (.aload_n 0, 1) := by decide +kernel
theorem dX2_shedTooMuch_11 : decode cX2_shedTooMuch 11 = .ok (.getfield 19, 3) := by decide +kernel
theorem dX2_shedTooMuch_14 : decode cX2_shedTooMuch 14 = .ok (.iload_n 1, 1) := by decide +kernel
theorem dX2_shedTooMuch_15 : decode cX2_shedTooMuch 15 = .ok (.aaload, 1) := by decide +kernel
theorem dX2_shedTooMuch_16 : decode cX2_shedTooMuch 16 = .ok (.invokevirtual 106, 3) := by decide +kernel
theorem dX2_shedTooMuch_19 : decode cX2_shedTooMuch 19 = .ok (.ifCond .eq 70, 3) := by decide +kernel
theorem dX2_shedTooMuch_22 : decode cX2_shedTooMuch 22 = .ok (.aload_n 0, 1) := by decide +kernel
theorem dX2_shedTooMuch_23 : decode cX2_shedTooMuch 23 = .ok (.iload_n 1, 1) := by decide +kernel
theorem dX2_shedTooMuch_24 : decode cX2_shedTooMuch 24 = .ok (.invokevirtual 110, 3) := by decide +kernel
theorem dX2_shedTooMuch_27 : decode cX2_shedTooMuch 27 = .ok (.istore_n 3, 1) := by decide +kernel
theorem dX2_shedTooMuch_28 : decode cX2_shedTooMuch 28 = .ok (.iload_n 3, 1) := by decide +kernel
theorem dX2_shedTooMuch_29 : decode cX2_shedTooMuch 29 = .ok (.iconst (-1), 1) := by decide +kernel
theorem dX2_shedTooMuch_30 : decode cX2_shedTooMuch 30 = .ok (.if_icmp .ne 4, 3) := by decide +kernel
theorem dX2_shedTooMuch_33 : decode cX2_shedTooMuch 33 = .ok (.return_, 1) := by decide +kernel
theorem dX2_shedTooMuch_34 : decode cX2_shedTooMuch 34 = .ok (.aload_n 0, 1) := by decide +kernel
theorem dX2_shedTooMuch_35 : decode cX2_shedTooMuch 35 = .ok (.getfield 11, 3) := by decide +kernel
theorem dX2_shedTooMuch_38 : decode cX2_shedTooMuch 38 = .ok (.iload_n 3, 1) := by decide +kernel
theorem dX2_shedTooMuch_39 : decode cX2_shedTooMuch 39 = .ok (.aaload, 1) := by decide +kernel
theorem dX2_shedTooMuch_40 : decode cX2_shedTooMuch 40 = .ok (.astore 4, 2) := by decide +kernel
theorem dX2_shedTooMuch_42 : decode cX2_shedTooMuch 42 = .ok (.aload 4, 2) := by decide +kernel
theorem dX2_shedTooMuch_44 : decode cX2_shedTooMuch 44 = .ok (.iconst 1, 1) := by decide +kernel
theorem dX2_shedTooMuch_45 : decode cX2_shedTooMuch 45 = .ok (.putfield 114, 3) := by decide +kernel
theorem dX2_shedTooMuch_48 : decode cX2_shedTooMuch 48 = .ok (.aload 4, 2) := by decide +kernel
theorem dX2_shedTooMuch_50 : decode cX2_shedTooMuch 50 = .ok (.iconst (-1), 1) := by decide +kernel
theorem dX2_shedTooMuch_51 : decode cX2_shedTooMuch 51 = .ok (.putfield 100, 3) := by decide +kernel
theorem dX2_shedTooMuch_54 : decode cX2_shedTooMuch 54 = .ok (.aload_n 0, 1) := by decide +kernel
theorem dX2_shedTooMuch_55 : decode cX2_shedTooMuch 55 = .ok (.getfield 19, 3) := by decide +kernel
theorem dX2_shedTooMuch_58 : decode cX2_shedTooMuch 58 = .ok (.iload_n 1, 1) := by decide +kernel
theorem dX2_shedTooMuch_59 : decode cX2_shedTooMuch 59 = .ok (.aaload, 1) := by decide +kernel
theorem dX2_shedTooMuch_60 : decode cX2_shedTooMuch 60 = .ok (.dup, 1) := by decide +kernel
theorem dX2_shedTooMuch_61 : decode cX2_shedTooMuch 61 = .ok (.getfield 93, 3) := by decide +kernel
theorem dX2_shedTooMuch_64 : decode cX2_shedTooMuch 64 = .ok (.aload 4, 2) := by decide +kernel
theorem dX2_shedTooMuch_66 : decode cX2_shedTooMuch 66 = .ok (.getfield 103, 3) := by decide +kernel
theorem dX2_shedTooMuch_69 : decode cX2_shedTooMuch 69 = .ok (.isub, 1) := by decide +kernel
theorem dX2_shedTooMuch_70 : decode cX2_shedTooMuch 70 = .ok (.putfield 93, 3) := by decide +kernel
theorem dX2_shedTooMuch_73 : decode cX2_shedTooMuch 73 = .ok (.aload_n 0, 1) := by decide +kernel
theorem dX2_shedTooMuch_74 : decode cX2_shedTooMuch 74 = .ok (.dup, 1) := by decide +kernel
theorem dX2_shedTooMuch_75 : decode cX2_shedTooMuch 75 = .ok (.getfield 64, 3) := by decide +kernel
theorem dX2_shedTooMuch_78 : decode cX2_shedTooMuch 78 = .ok (.iconst 1, 1) := by decide +kernel
theorem dX2_shedTooMuch_79 : decode cX2_shedTooMuch 79 = .ok (.iadd, 1) := by decide +kernel
theorem dX2_shedTooMuch_80 : decode cX2_shedTooMuch 80 = .ok (.putfield 64, 3) := by decide +kernel
theorem dX2_shedTooMuch_83 : decode cX2_shedTooMuch 83 = .ok (.iinc 2 1, 3) := by decide +kernel
theorem dX2_shedTooMuch_86 : decode cX2_shedTooMuch 86 = .ok (.goto (-84), 3) := by decide +kernel
theorem dX2_shedTooMuch_89 : decode cX2_shedTooMuch 89 = .ok (.return_, 1) := by decide +kernel
theorem dX2_firstToShed_0 : decode cX2_firstToShed 0 = .ok (.iconst (-1), 1) := by decide +kernel
theorem dX2_firstToShed_1 : decode cX2_firstToShed 1 = .ok (.istore_n 2, 1) := by decide +kernel
theorem dX2_firstToShed_2 : decode cX2_firstToShed 2 = .ok (.iconst 0, 1) := by decide +kernel
theorem dX2_firstToShed_3 : decode cX2_firstToShed 3 = .ok (.istore_n 3, 1) := by decide +kernel
theorem dX2_firstToShed_4 : decode cX2_firstToShed 4 = .ok (.iconst 0, 1) := by decide +kernel
theorem dX2_firstToShed_5 : decode cX2_firstToShed 5 = .ok (.istore 4, 2) := by decide +kernel
theorem dX2_firstToShed_7 : decode cX2_firstToShed 7 = .ok (.iconst 0, 1) := by decide +kernel
theorem dX2_firstToShed_8 : decode cX2_firstToShed 8 = .ok (.istore 5, 2) := by decide +kernel
theorem dX2_firstToShed_10 : decode cX2_firstToShed 10 = .ok (.iload 5, 2) := by decide +kernel
theorem dX2_firstToShed_12 : decode cX2_firstToShed 12 = .ok (.aload_n 0, 1) := by decide +kernel
theorem dX2_firstToShed_13 : decode cX2_firstToShed 13 = .ok (.getfield 41, 3) := by decide +kernel
theorem dX2_firstToShed_16 : decode cX2_firstToShed 16 = .ok (.if_icmp .ge 71, 3) := by decide +kernel
theorem dX2_firstToShed_19 : decode cX2_firstToShed 19 = .ok (.aload_n 0, 1) := by decide +kernel
theorem dX2_firstToShed_20 : decode cX2_firstToShed 20 = .ok (.getfield 11, 3) := by decide +kernel
theorem dX2_firstToShed_23 : decode cX2_firstToShed 23 = .ok (.iload 5, 2) := by decide +kernel
theorem dX2_firstToShed_25 : decode cX2_firstToShed 25 = .ok (.aaload, 1) := by decide +kernel
theorem dX2_firstToShed_26 : decode cX2_firstToShed 26 = .ok (.astore 6, 2) := by decide +kernel
theorem dX2_firstToShed_28 : decode cX2_firstToShed 28 = .ok (.aload 6, 2) := by decide +kernel
theorem dX2_firstToShed_30 : decode cX2_firstToShed 30 = .ok (.getfield 100, 3) := by decide +kernel
theorem dX2_firstToShed_33 : decode cX2_firstToShed 33 = .ok (.iload_n 1, 1) := by decide +kernel
theorem dX2_firstToShed_34 : decode cX2_firstToShed 34 = .ok (.if_icmp .ne 47, 3) := by decide +kernel
theorem dX2_firstToShed_37 : decode cX2_firstToShed 37 = .ok (.aload 6, 2) := by decide +kernel
theorem dX2_firstToShed_39 : decode cX2_firstToShed 39 = .ok (.getfield 118, 3) := by decide +kernel
theorem dX2_firstToShed_42 : decode cX2_firstToShed 42 = .ok (.iload_n 3, 1) := by decide +kernel
theorem dX2_firstToShed_43 : decode cX2_firstToShed 43 = .ok (.if_icmp .gt 22, 3) := by decide +kernel
theorem dX2_firstToShed_46 : decode cX2_firstToShed 46 = .ok (.aload 6, 2) := by decide +kernel
theorem dX2_firstToShed_48 : decode cX2_firstToShed 48 = .ok (.getfield 118, 3) := by decide +kernel
theorem dX2_firstToShed_51 : decode cX2_firstToShed 51 = .ok (.iload_n 3, 1) := by decide +kernel
theorem dX2_firstToShed_52 : decode cX2_firstToShed 52 = .ok (.if_icmp .ne 29, 3) := by decide +kernel
theorem dX2_firstToShed_55 : decode cX2_firstToShed 55 = .ok (.aload 6, 2) := by decide +kernel
theorem dX2_firstToShed_57 : decode cX2_firstToShed 57 = .ok (.getfield 103, 3) := by decide +kernel
theorem dX2_firstToShed_60 : decode cX2_firstToShed 60 = .ok (.iload 4, 2) := by decide +kernel
theorem dX2_firstToShed_62 : decode cX2_firstToShed 62 = .ok (.if_icmp .le 19, 3) := by decide +kernel
theorem dX2_firstToShed_65 : decode cX2_firstToShed 65 = .ok (.iload 5, 2) := by decide +kernel
theorem dX2_firstToShed_67 : decode cX2_firstToShed 67 = .ok (.istore_n 2, 1) := by decide +kernel
theorem dX2_firstToShed_68 : decode cX2_firstToShed 68 = .ok (.aload 6, 2) := by decide +kernel
theorem dX2_firstToShed_70 : decode cX2_firstToShed 70 = .ok (.getfield 118, 3) := by decide +kernel
theorem dX2_firstToShed_73 : decode cX2_firstToShed 73 = .ok (.istore_n 3, 1) := by decide +kernel
theorem dX2_firstToShed_74 : decode cX2_firstToShed 74 = .ok (.aload 6, 2) := by decide +kernel
theorem dX2_firstToShed_76 : decode cX2_firstToShed 76 = .ok (.getfield 103, 3) := by decide +kernel
theorem dX2_firstToShed_79 : decode cX2_firstToShed 79 = .ok (.istore 4, 2) := by decide +kernel
theorem dX2_firstToShed_81 : decode cX2_firstToShed 81 = .ok (.iinc 5 1, 3) := by decide +kernel
theorem dX2_firstToShed_84 : decode cX2_firstToShed 84 = .ok (.goto (-74), 3) := by decide +kernel
theorem dX2_firstToShed_87 : decode cX2_firstToShed 87 = .ok (.iload_n 2, 1) := by decide +kernel
theorem dX2_firstToShed_88 : decode cX2_firstToShed 88 = .ok (.ireturn, 1) := by decide +kernel
theorem dX2_runMeters_0 : decode cX2_runMeters 0 = .ok (.aload_n 0, 1) := by decide +kernel
theorem dX2_runMeters_1 : decode cX2_runMeters 1 = .ok (.getfield 58, 3) := by decide +kernel
theorem dX2_runMeters_4 : decode cX2_runMeters 4 = .ok (.bipush 24, 2) := by decide +kernel
theorem dX2_runMeters_6 : decode cX2_runMeters 6 = .ok (.irem, 1) := by decide +kernel
theorem dX2_runMeters_7 : decode cX2_runMeters 7 = .ok (.istore_n 1, 1) := by decide +kernel
theorem dX2_runMeters_8 : decode cX2_runMeters 8 = .ok (.iconst 0, 1) := by decide +kernel
theorem dX2_runMeters_9 : decode cX2_runMeters 9 = .ok (.istore_n 2, 1) := by decide +kernel
theorem dX2_runMeters_10 : decode cX2_runMeters 10 = .ok (.iload_n 2, 1) := by decide +kernel
theorem dX2_runMeters_11 : decode cX2_runMeters 11 = .ok (.aload_n 0, 1) := by decide +kernel
theorem dX2_runMeters_12 : decode cX2_runMeters 12 = .ok (.getfield 41, 3) := by decide +kernel
theorem dX2_runMeters_15 : decode cX2_runMeters 15 = .ok (.if_icmp .ge 89, 3) := by decide +kernel
theorem dX2_runMeters_18 : decode cX2_runMeters 18 = .ok (.aload_n 0, 1) := by decide +kernel
theorem dX2_runMeters_19 : decode cX2_runMeters 19 = .ok (.getfield 11, 3) := by decide +kernel
theorem dX2_runMeters_22 : decode cX2_runMeters 22 = .ok (.iload_n 2, 1) := by decide +kernel
theorem dX2_runMeters_23 : decode cX2_runMeters 23 = .ok (.aaload, 1) := by decide +kernel
theorem dX2_runMeters_24 : decode cX2_runMeters 24 = .ok (.astore_n 3, 1) := by decide +kernel
theorem dX2_runMeters_25 : decode cX2_runMeters 25 = .ok (.aload_n 3, 1) := by decide +kernel
theorem dX2_runMeters_26 : decode cX2_runMeters 26 = .ok (.getfield 100, 3) := by decide +kernel
theorem dX2_runMeters_29 : decode cX2_runMeters 29 = .ok (.iconst (-1), 1) := by decide +kernel
theorem dX2_runMeters_30 : decode cX2_runMeters 30 = .ok (.if_icmp .eq 50, 3) := by decide +kernel
theorem dX2_runMeters_33 : decode cX2_runMeters 33 = .ok (.aload_n 3, 1) := by decide +kernel
theorem dX2_runMeters_34 : decode cX2_runMeters 34 = .ok (.dup, 1) := by decide +kernel
theorem dX2_runMeters_35 : decode cX2_runMeters 35 = .ok (.getfield 121, 3) := by decide +kernel
theorem dX2_runMeters_38 : decode cX2_runMeters 38 = .ok (.aload_n 3, 1) := by decide +kernel
theorem dX2_runMeters_39 : decode cX2_runMeters 39 = .ok (.getfield 103, 3) := by decide +kernel
theorem dX2_runMeters_42 : decode cX2_runMeters 42 = .ok (.iadd, 1) := by decide +kernel
theorem dX2_runMeters_43 : decode cX2_runMeters 43 = .ok (.putfield 121, 3) := by decide +kernel
theorem dX2_runMeters_46 : decode cX2_runMeters 46 = .ok (.aload_n 0, 1) := by decide +kernel
theorem dX2_runMeters_47 : decode cX2_runMeters 47 = .ok (.getfield 19, 3) := by decide +kernel
theorem dX2_runMeters_50 : decode cX2_runMeters 50 = .ok (.aload_n 3, 1) := by decide +kernel
theorem dX2_runMeters_51 : decode cX2_runMeters 51 = .ok (.getfield 100, 3) := by decide +kernel
theorem dX2_runMeters_54 : decode cX2_runMeters 54 = .ok (.aaload, 1) := by decide +kernel
theorem dX2_runMeters_55 : decode cX2_runMeters 55 = .ok (.dup, 1) := by decide +kernel
theorem dX2_runMeters_56 : decode cX2_runMeters 56 = .ok (.getfield 124, 3) := by decide +kernel
theorem dX2_runMeters_59 : decode cX2_runMeters 59 = .ok (.aload_n 3, 1) := by decide +kernel
theorem dX2_runMeters_60 : decode cX2_runMeters 60 = .ok (.getfield 103, 3) := by decide +kernel
theorem dX2_runMeters_63 : decode cX2_runMeters 63 = .ok (.iadd, 1) := by decide +kernel
theorem dX2_runMeters_64 : decode cX2_runMeters 64 = .ok (.putfield 124, 3) := by decide +kernel
theorem dX2_runMeters_67 : decode cX2_runMeters 67 = .ok (.aload_n 0, 1) := by decide +kernel
theorem dX2_runMeters_68 : decode cX2_runMeters 68 = .ok (.dup, 1) := by decide +kernel
theorem dX2_runMeters_69 : decode cX2_runMeters 69 = .ok (.getfield 61, 3) := by decide +kernel
theorem dX2_runMeters_72 : decode cX2_runMeters 72 = .ok (.iconst 1, 1) := by decide +kernel
theorem dX2_runMeters_73 : decode cX2_runMeters 73 = .ok (.iadd, 1) := by decide +kernel
theorem dX2_runMeters_74 : decode cX2_runMeters 74 = .ok (.putfield 61, 3) := by decide +kernel
theorem dX2_runMeters_77 : decode cX2_runMeters 77 = .ok (.goto 21, 3) := by decide +kernel
theorem dX2_runMeters_80 : decode cX2_runMeters 80 = .ok (.aload_n 3, 1) := by decide +kernel
theorem dX2_runMeters_81 : decode cX2_runMeters 81 = .ok (.iload_n 1, 1) := by decide +kernel
theorem dX2_runMeters_82 : decode cX2_runMeters 82 = .ok (.invokevirtual 127, 3) := by decide +kernel
theorem dX2_runMeters_85 : decode cX2_runMeters 85 = .ok (.ifCond .eq 13, 3) := by decide +kernel
theorem dX2_runMeters_88 : decode cX2_runMeters 88 = .ok (.aload_n 3, 1) := by decide +kernel
theorem dX2_runMeters_89 : decode cX2_runMeters 89 = .ok (.dup, 1) := by decide +kernel
theorem dX2_runMeters_90 : decode cX2_runMeters 90 = .ok (.getfield 131, 3) := by decide +kernel
theorem dX2_runMeters_93 : decode cX2_runMeters 93 = .ok (.iconst 1, 1) := by decide +kernel
theorem dX2_runMeters_94 : decode cX2_runMeters 94 = .ok (.iadd, 1) := by decide +kernel
theorem dX2_runMeters_95 : decode cX2_runMeters 95 = .ok (.putfield 131, 3) := by decide +kernel
theorem dX2_runMeters_98 : decode cX2_runMeters 98 = .ok (.iinc 2 1, 3) := by decide +kernel
theorem dX2_runMeters_101 : decode cX2_runMeters 101 = .ok (.goto (-91), 3) := by decide +kernel
theorem dX2_runMeters_104 : decode cX2_runMeters 104 = .ok (.return_, 1) := by decide +kernel
theorem dX2_breakerOf_0 : decode cX2_breakerOf 0 = .ok (.iload_n 1, 1) := by decide +kernel
theorem dX2_breakerOf_1 : decode cX2_breakerOf 1 = .ok (.ifCond .lt 9, 3) := by decide +kernel
theorem dX2_breakerOf_4 : decode cX2_breakerOf 4 = .ok (.iload_n 1, 1) := by decide +kernel
theorem dX2_breakerOf_5 : decode cX2_breakerOf 5 = .ok (.bipush 12, 2) := by decide +kernel
theorem dX2_breakerOf_7 : decode cX2_breakerOf 7 = .ok (.if_icmp .lt 5, 3) := by decide +kernel
theorem dX2_breakerOf_10 : decode cX2_breakerOf 10 = .ok (.iconst (-1), 1) := by decide +kernel
theorem dX2_breakerOf_11 : decode cX2_breakerOf 11 = .ok (.ireturn, 1) := by decide +kernel
theorem dX2_breakerOf_12 : decode cX2_breakerOf 12 = .ok (.aload_n 0, 1) := by decide +kernel
theorem dX2_breakerOf_13 : decode cX2_breakerOf 13 = .ok (.getfield 23, 3) := by decide +kernel
theorem dX2_breakerOf_16 : decode cX2_breakerOf 16 = .ok (.iload_n 1, 1) := by decide +kernel
theorem dX2_breakerOf_17 : decode cX2_breakerOf 17 = .ok (.baload, 1) := by decide +kernel
theorem dX2_breakerOf_18 : decode cX2_breakerOf 18 = .ok (.ifCond .eq 7, 3) := by decide +kernel
theorem dX2_breakerOf_21 : decode cX2_breakerOf 21 = .ok (.iconst 3, 1) := by decide +kernel
theorem dX2_breakerOf_22 : decode cX2_breakerOf 22 = .ok (.goto 6, 3) := by decide +kernel
theorem dX2_breakerOf_25 : decode cX2_breakerOf 25 = .ok (.iload_n 1, 1) := by decide +kernel
theorem dX2_breakerOf_26 : decode cX2_breakerOf 26 = .ok (.iconst 3, 1) := by decide +kernel
theorem dX2_breakerOf_27 : decode cX2_breakerOf 27 = .ok (.idiv, 1) := by decide +kernel
theorem dX2_breakerOf_28 : decode cX2_breakerOf 28 = .ok (.ireturn, 1) := by decide +kernel
theorem dX2_stallAt_0 : decode cX2_stallAt 0 = .ok (.iconst 0, 1) := by decide +kernel
theorem dX2_stallAt_1 : decode cX2_stallAt 1 = .ok (.istore_n 2, 1) := by decide +kernel
theorem dX2_stallAt_2 : decode cX2_stallAt 2 = .ok (.iload_n 2, 1) := by decide +kernel
theorem dX2_stallAt_3 : decode cX2_stallAt 3 = .ok (.aload_n 0, 1) := by decide +kernel
theorem dX2_stallAt_4 : decode cX2_stallAt 4 = .ok (.getfield 41, 3) := by decide +kernel
theorem dX2_stallAt_7 : decode cX2_stallAt 7 = .ok (.if_icmp .ge 24, 3) := by decide +kernel
theorem dX2_stallAt_10 : decode cX2_stallAt 10 = .ok (.aload_n 0, 1) := by decide +kernel
theorem dX2_stallAt_11 : decode cX2_stallAt 11 = .ok (.getfield 11, 3) := by decide +kernel
theorem dX2_stallAt_14 : decode cX2_stallAt 14 = .ok (.iload_n 2, 1) := by decide +kernel
theorem dX2_stallAt_15 : decode cX2_stallAt 15 = .ok (.aaload, 1) := by decide +kernel
theorem dX2_stallAt_16 : decode cX2_stallAt 16 = .ok (.getfield 71, 3) := by decide +kernel
theorem dX2_stallAt_19 : decode cX2_stallAt 19 = .ok (.iload_n 1, 1) := by decide +kernel
theorem dX2_stallAt_20 : decode cX2_stallAt 20 = .ok (.if_icmp .ne 5, 3) := by decide +kernel
theorem dX2_stallAt_23 : decode cX2_stallAt 23 = .ok (.iload_n 2, 1) := by decide +kernel
theorem dX2_stallAt_24 : decode cX2_stallAt 24 = .ok (.ireturn, 1) := by decide +kernel
theorem dX2_stallAt_25 : decode cX2_stallAt 25 = .ok (.iinc 2 1, 3) := by decide +kernel
theorem dX2_stallAt_28 : decode cX2_stallAt 28 = .ok (.goto (-26), 3) := by decide +kernel
theorem dX2_stallAt_31 : decode cX2_stallAt 31 = .ok (.iconst (-1), 1) := by decide +kernel
theorem dX2_stallAt_32 : decode cX2_stallAt 32 = .ok (.ireturn, 1) := by decide +kernel
theorem dX2_sourceOf_0 : decode cX2_sourceOf 0 = .ok (.aload_n 0, 1) := by decide +kernel
theorem dX2_sourceOf_1 : decode cX2_sourceOf 1 = .ok (.aload_n 1, 1) := by decide +kernel
theorem dX2_sourceOf_2 : decode cX2_sourceOf 2 = .ok (.getfield 71, 3) := by decide +kernel
theorem dX2_sourceOf_5 : decode cX2_sourceOf 5 = .ok (.invokevirtual 134, 3) := by decide +kernel
theorem dX2_sourceOf_8 : decode cX2_sourceOf 8 = .ok (.istore_n 2, 1) := by decide +kernel
theorem dX2_sourceOf_9 : decode cX2_sourceOf 9 = .ok (.iload_n 2, 1) := by decide +kernel
theorem dX2_sourceOf_10 : decode cX2_sourceOf 10 = .ok (.iconst (-1), 1) := by decide +kernel
theorem dX2_sourceOf_11 : decode cX2_sourceOf 11 = .ok (.if_icmp .eq 36, 3) := by decide +kernel
theorem dX2_sourceOf_14 : decode cX2_sourceOf 14 = .ok (.aload_n 1, 1) := by decide +kernel
theorem dX2_sourceOf_15 : decode cX2_sourceOf 15 = .ok (.getfield 114, 3) := by decide +kernel
theorem dX2_sourceOf_18 : decode cX2_sourceOf 18 = .ok (.ifCond .ne 29, 3) := by decide +kernel
theorem dX2_sourceOf_21 : decode cX2_sourceOf 21 = .ok (.aload_n 0, 1) := by decide +kernel
theorem dX2_sourceOf_22 : decode cX2_sourceOf 22 = .ok (.getfield 19, 3) := by decide +kernel
theorem dX2_sourceOf_25 : decode cX2_sourceOf 25 = .ok (.iload_n 2, 1) := by decide +kernel
theorem dX2_sourceOf_26 : decode cX2_sourceOf 26 = .ok (.aaload, 1) := by decide +kernel
theorem dX2_sourceOf_27 : decode cX2_sourceOf 27 = .ok (.getfield 137, 3) := by decide +kernel
theorem dX2_sourceOf_30 : decode cX2_sourceOf 30 = .ok (.ifCond .eq 17, 3) := by decide +kernel
theorem dX2_sourceOf_33 : decode cX2_sourceOf 33 = .ok (.aload_n 1, 1) := by decide +kernel
theorem dX2_sourceOf_34 : decode cX2_sourceOf 34 = .ok (.aload_n 0, 1) := by decide +kernel
theorem dX2_sourceOf_35 : decode cX2_sourceOf 35 = .ok (.getfield 58, 3) := by decide +kernel
theorem dX2_sourceOf_38 : decode cX2_sourceOf 38 = .ok (.bipush 24, 2) := by decide +kernel
theorem dX2_sourceOf_40 : decode cX2_sourceOf 40 = .ok (.irem, 1) := by decide +kernel
theorem dX2_sourceOf_41 : decode cX2_sourceOf 41 = .ok (.invokevirtual 127, 3) := by decide +kernel
theorem dX2_sourceOf_44 : decode cX2_sourceOf 44 = .ok (.ifCond .ne 5, 3) := by decide +kernel
theorem dX2_sourceOf_47 : decode cX2_sourceOf 47 = .ok (.iconst (-1), 1) := by decide +kernel
theorem dX2_sourceOf_48 : decode cX2_sourceOf 48 = .ok (.ireturn, 1) := by decide +kernel
theorem dX2_sourceOf_49 : decode cX2_sourceOf 49 = .ok (.iload_n 2, 1) := by decide +kernel
theorem dX2_sourceOf_50 : decode cX2_sourceOf 50 = .ok (.ireturn, 1) := by decide +kernel
theorem dX2_reasonOf_0 : decode cX2_reasonOf 0 = .ok (.aload_n 1, 1) := by decide +kernel
theorem dX2_reasonOf_1 : decode cX2_reasonOf 1 = .ok (.aload_n 0, 1) := by decide +kernel
theorem dX2_reasonOf_2 : decode cX2_reasonOf 2 = .ok (.getfield 58, 3) := by decide +kernel
theorem dX2_reasonOf_5 : decode cX2_reasonOf 5 = .ok (.bipush 24, 2) := by decide +kernel
theorem dX2_reasonOf_7 : decode cX2_reasonOf 7 = .ok (.irem, 1) := by decide +kernel
theorem dX2_reasonOf_8 : decode cX2_reasonOf 8 = .ok (.invokevirtual 127, 3) := by decide +kernel
theorem dX2_reasonOf_11 : decode cX2_reasonOf 11 = .ok (.ifCond .ne 5, 3) := by decide +kernel
theorem dX2_reasonOf_14 : decode cX2_reasonOf 14 = .ok (.iconst 1, 1) := by decide +kernel
theorem dX2_reasonOf_15 : decode cX2_reasonOf 15 = .ok (.ireturn, 1) := by decide +kernel
theorem dX2_reasonOf_16 : decode cX2_reasonOf 16 = .ok (.aload_n 0, 1) := by decide +kernel
theorem dX2_reasonOf_17 : decode cX2_reasonOf 17 = .ok (.aload_n 1, 1) := by decide +kernel
theorem dX2_reasonOf_18 : decode cX2_reasonOf 18 = .ok (.getfield 71, 3) := by decide +kernel
theorem dX2_reasonOf_21 : decode cX2_reasonOf 21 = .ok (.invokevirtual 134, 3) := by decide +kernel
theorem dX2_reasonOf_24 : decode cX2_reasonOf 24 = .ok (.istore_n 2, 1) := by decide +kernel
theorem dX2_reasonOf_25 : decode cX2_reasonOf 25 = .ok (.iload_n 2, 1) := by decide +kernel
theorem dX2_reasonOf_26 : decode cX2_reasonOf 26 = .ok (.iconst (-1), 1) := by decide +kernel
theorem dX2_reasonOf_27 : decode cX2_reasonOf 27 = .ok (.if_icmp .ne 5, 3) := by decide +kernel
theorem dX2_reasonOf_30 : decode cX2_reasonOf 30 = .ok (.iconst 2, 1) := by decide +kernel
theorem dX2_reasonOf_31 : decode cX2_reasonOf 31 = .ok (.ireturn, 1) := by decide +kernel
theorem dX2_reasonOf_32 : decode cX2_reasonOf 32 = .ok (.aload_n 0, 1) := by decide +kernel
theorem dX2_reasonOf_33 : decode cX2_reasonOf 33 = .ok (.getfield 19, 3) := by decide +kernel
theorem dX2_reasonOf_36 : decode cX2_reasonOf 36 = .ok (.iload_n 2, 1) := by decide +kernel
theorem dX2_reasonOf_37 : decode cX2_reasonOf 37 = .ok (.aaload, 1) := by decide +kernel
theorem dX2_reasonOf_38 : decode cX2_reasonOf 38 = .ok (.getfield 137, 3) := by decide +kernel
theorem dX2_reasonOf_41 : decode cX2_reasonOf 41 = .ok (.ifCond .ne 5, 3) := by decide +kernel
theorem dX2_reasonOf_44 : decode cX2_reasonOf 44 = .ok (.iconst 3, 1) := by decide +kernel
theorem dX2_reasonOf_45 : decode cX2_reasonOf 45 = .ok (.ireturn, 1) := by decide +kernel
theorem dX2_reasonOf_46 : decode cX2_reasonOf 46 = .ok (.aload_n 1, 1) := by decide +kernel
theorem dX2_reasonOf_47 : decode cX2_reasonOf 47 = .ok (.getfield 114, 3) := by decide +kernel
theorem dX2_reasonOf_50 : decode cX2_reasonOf 50 = .ok (.ifCond .eq 7, 3) := by decide +kernel
theorem dX2_reasonOf_53 : decode cX2_reasonOf 53 = .ok (.iconst 4, 1) := by decide +kernel
theorem dX2_reasonOf_54 : decode cX2_reasonOf 54 = .ok (.goto 4, 3) := by decide +kernel
theorem dX2_reasonOf_57 : decode cX2_reasonOf 57 = .ok (.iconst 0, 1) := by decide +kernel
theorem dX2_reasonOf_58 : decode cX2_reasonOf 58 = .ok (.ireturn, 1) := by decide +kernel
theorem dX2_feeOf_0 : decode cX2_feeOf 0 = .ok (.aload_n 1, 1) := by decide +kernel
theorem dX2_feeOf_1 : decode cX2_feeOf 1 = .ok (.getfield 121, 3) := by decide +kernel
theorem dX2_feeOf_4 : decode cX2_feeOf 4 = .ok (.aload_n 0, 1) := by decide +kernel
theorem dX2_feeOf_5 : decode cX2_feeOf 5 = .ok (.getfield 36, 3) := by decide +kernel
theorem dX2_feeOf_8 : decode cX2_feeOf 8 = .ok (.iconst 2, 1) := by decide +kernel
theorem dX2_feeOf_9 : decode cX2_feeOf 9 = .ok (.iaload, 1) := by decide +kernel
theorem dX2_feeOf_10 : decode cX2_feeOf 10 = .ok (.imul, 1) := by decide +kernel
theorem dX2_feeOf_11 : decode cX2_feeOf 11 = .ok (.bipush 10, 2) := by decide +kernel
theorem dX2_feeOf_13 : decode cX2_feeOf 13 = .ok (.idiv, 1) := by decide +kernel
theorem dX2_feeOf_14 : decode cX2_feeOf 14 = .ok (.ireturn, 1) := by decide +kernel
theorem dX2_loadOn_0 : decode cX2_loadOn 0 = .ok (.iconst 0, 1) := by decide +kernel
theorem dX2_loadOn_1 : decode cX2_loadOn 1 = .ok (.istore_n 2, 1) := by decide +kernel
theorem dX2_loadOn_2 : decode cX2_loadOn 2 = .ok (.iconst 0, 1) := by decide +kernel
theorem dX2_loadOn_3 : decode cX2_loadOn 3 = .ok (.istore_n 3, 1) := by decide +kernel
theorem dX2_loadOn_4 : decode cX2_loadOn 4 = .ok (.iload_n 3, 1) := by decide +kernel
theorem dX2_loadOn_5 : decode cX2_loadOn 5 = .ok (.aload_n 0, 1) := by decide +kernel
theorem dX2_loadOn_6 : decode cX2_loadOn 6 = .ok (.getfield 41, 3) := by decide +kernel
theorem dX2_loadOn_9 : decode cX2_loadOn 9 = .ok (.if_icmp .ge 35, 3) := by decide +kernel
theorem dX2_loadOn_12 : decode cX2_loadOn 12 = .ok (.aload_n 0, 1) := by decide +kernel
theorem dX2_loadOn_13 : decode cX2_loadOn 13 = .ok (.aload_n 0, 1) := by decide +kernel
theorem dX2_loadOn_14 : decode cX2_loadOn 14 = .ok (.getfield 11, 3) := by decide +kernel
theorem dX2_loadOn_17 : decode cX2_loadOn 17 = .ok (.iload_n 3, 1) := by decide +kernel
theorem dX2_loadOn_18 : decode cX2_loadOn 18 = .ok (.aaload, 1) := by decide +kernel
theorem dX2_loadOn_19 : decode cX2_loadOn 19 = .ok (.invokevirtual 96, 3) := by decide +kernel
theorem dX2_loadOn_22 : decode cX2_loadOn 22 = .ok (.iload_n 1, 1) := by decide +kernel
theorem dX2_loadOn_23 : decode cX2_loadOn 23 = .ok (.if_icmp .ne 15, 3) := by decide +kernel
theorem dX2_loadOn_26 : decode cX2_loadOn 26 = .ok (.iload_n 2, 1) := by decide +kernel
theorem dX2_loadOn_27 : decode cX2_loadOn 27 = .ok (.aload_n 0, 1) := by decide +kernel
theorem dX2_loadOn_28 : decode cX2_loadOn 28 = .ok (.getfield 11, 3) := by decide +kernel
theorem dX2_loadOn_31 : decode cX2_loadOn 31 = .ok (.iload_n 3, 1) := by decide +kernel
theorem dX2_loadOn_32 : decode cX2_loadOn 32 = .ok (.aaload, 1) := by decide +kernel
theorem dX2_loadOn_33 : decode cX2_loadOn 33 = .ok (.getfield 103, 3) := by decide +kernel
theorem dX2_loadOn_36 : decode cX2_loadOn 36 = .ok (.iadd, 1) := by decide +kernel
theorem dX2_loadOn_37 : decode cX2_loadOn 37 = .ok (.istore_n 2, 1) := by decide +kernel
theorem dX2_loadOn_38 : decode cX2_loadOn 38 = .ok (.iinc 3 1, 3) := by decide +kernel
theorem dX2_loadOn_41 : decode cX2_loadOn 41 = .ok (.goto (-37), 3) := by decide +kernel
theorem dX2_loadOn_44 : decode cX2_loadOn 44 = .ok (.iload_n 2, 1) := by decide +kernel
theorem dX2_loadOn_45 : decode cX2_loadOn 45 = .ok (.ireturn, 1) := by decide +kernel
theorem dX2_loadPluggedInto_0 : decode cX2_loadPluggedInto 0 = .ok (.iconst 0, 1) := by decide +kernel
theorem dX2_loadPluggedInto_1 : decode cX2_loadPluggedInto 1 = .ok (.istore_n 2, 1) := by decide +kernel
theorem dX2_loadPluggedInto_2 : decode cX2_loadPluggedInto 2 = .ok (.iconst 0, 1) := by decide +kernel
theorem dX2_loadPluggedInto_3 : decode cX2_loadPluggedInto 3 = .ok (.istore_n 3, 1) := by decide +kernel
theorem dX2_loadPluggedInto_4 : decode cX2_loadPluggedInto 4 = .ok (.iload_n 3, 1) := by decide +kernel
theorem dX2_loadPluggedInto_5 : decode cX2_loadPluggedInto 5 = .ok (.aload_n 0, 1) := by decide +kernel
theorem dX2_loadPluggedInto_6 : decode cX2_loadPluggedInto 6 = .ok (.getfield 41, 3) := by decide +kernel
theorem dX2_loadPluggedInto_9 : decode cX2_loadPluggedInto 9 = .ok (.if_icmp .ge 46, 3) := by decide +kernel
theorem dX2_loadPluggedInto_12 : decode cX2_loadPluggedInto 12 = .ok (.aload_n 0, 1) := by decide +kernel
theorem dX2_loadPluggedInto_13 : decode cX2_loadPluggedInto 13 = .ok (.getfield 11, 3) := by decide +kernel
theorem dX2_loadPluggedInto_16 : decode cX2_loadPluggedInto 16 = .ok (.iload_n 3, 1) := by decide +kernel
theorem dX2_loadPluggedInto_17 : decode cX2_loadPluggedInto 17 = .ok (.aaload, 1) := by decide +kernel
theorem dX2_loadPluggedInto_18 : decode cX2_loadPluggedInto 18 = .ok (.astore 4, 2) := by decide +kernel
theorem dX2_loadPluggedInto_20 : decode cX2_loadPluggedInto 20 = .ok (.aload 4, 2) := by decide +kernel
theorem dX2_loadPluggedInto_22 : decode cX2_loadPluggedInto 22 = .ok (.getfield 114, 3) := by decide +kernel
theorem dX2_loadPluggedInto_25 : decode cX2_loadPluggedInto 25 = .ok (.ifCond .ne 24, 3) := by decide +kernel
theorem dX2_loadPluggedInto_28 : decode cX2_loadPluggedInto 28 = .ok (.aload_n 0, 1) := by decide +kernel
theorem dX2_loadPluggedInto_29 : decode cX2_loadPluggedInto 29 = .ok (.aload 4, 2) := by decide +kernel
theorem dX2_loadPluggedInto_31 : decode cX2_loadPluggedInto 31 = .ok (.getfield 71, 3) := by decide +kernel
theorem dX2_loadPluggedInto_34 : decode cX2_loadPluggedInto 34 = .ok (.invokevirtual 134, 3) := by decide +kernel
theorem dX2_loadPluggedInto_37 : decode cX2_loadPluggedInto 37 = .ok (.iload_n 1, 1) := by decide +kernel
theorem dX2_loadPluggedInto_38 : decode cX2_loadPluggedInto 38 = .ok (.if_icmp .ne 11, 3) := by decide +kernel
theorem dX2_loadPluggedInto_41 : decode cX2_loadPluggedInto 41 = .ok (.iload_n 2, 1) := by decide +kernel
theorem dX2_loadPluggedInto_42 : decode cX2_loadPluggedInto 42 = .ok (.aload 4, 2) := by decide +kernel
theorem dX2_loadPluggedInto_44 : decode cX2_loadPluggedInto 44 = .ok (.getfield 103, 3) := by decide +kernel
theorem dX2_loadPluggedInto_47 : decode cX2_loadPluggedInto 47 = .ok (.iadd, 1) := by decide +kernel
theorem dX2_loadPluggedInto_48 : decode cX2_loadPluggedInto 48 = .ok (.istore_n 2, 1) := by decide +kernel
theorem dX2_loadPluggedInto_49 : decode cX2_loadPluggedInto 49 = .ok (.iinc 3 1, 3) := by decide +kernel
theorem dX2_loadPluggedInto_52 : decode cX2_loadPluggedInto 52 = .ok (.goto (-48), 3) := by decide +kernel
theorem dX2_loadPluggedInto_55 : decode cX2_loadPluggedInto 55 = .ok (.iload_n 2, 1) := by decide +kernel
theorem dX2_loadPluggedInto_56 : decode cX2_loadPluggedInto 56 = .ok (.ireturn, 1) := by decide +kernel
theorem dX2_drawersOn_0 : decode cX2_drawersOn 0 = .ok (.iconst 0, 1) := by decide +kernel
theorem dX2_drawersOn_1 : decode cX2_drawersOn 1 = .ok (.istore_n 2, 1) := by decide +kernel
theorem dX2_drawersOn_2 : decode cX2_drawersOn 2 = .ok (.iconst 0, 1) := by decide +kernel
theorem dX2_drawersOn_3 : decode cX2_drawersOn 3 = .ok (.istore_n 3, 1) := by decide +kernel
theorem dX2_drawersOn_4 : decode cX2_drawersOn 4 = .ok (.iload_n 3, 1) := by decide +kernel
theorem dX2_drawersOn_5 : decode cX2_drawersOn 5 = .ok (.aload_n 0, 1) := by decide +kernel
theorem dX2_drawersOn_6 : decode cX2_drawersOn 6 = .ok (.getfield 41, 3) := by decide +kernel
theorem dX2_drawersOn_9 : decode cX2_drawersOn 9 = .ok (.if_icmp .ge 26, 3) := by decide +kernel
theorem dX2_drawersOn_12 : decode cX2_drawersOn 12 = .ok (.aload_n 0, 1) := by decide +kernel
theorem dX2_drawersOn_13 : decode cX2_drawersOn 13 = .ok (.aload_n 0, 1) := by decide +kernel
theorem dX2_drawersOn_14 : decode cX2_drawersOn 14 = .ok (.getfield 11, 3) := by decide +kernel
theorem dX2_drawersOn_17 : decode cX2_drawersOn 17 = .ok (.iload_n 3, 1) := by decide +kernel
theorem dX2_drawersOn_18 : decode cX2_drawersOn 18 = .ok (.aaload, 1) := by decide +kernel
theorem dX2_drawersOn_19 : decode cX2_drawersOn 19 = .ok (.invokevirtual 96, 3) := by decide +kernel
theorem dX2_drawersOn_22 : decode cX2_drawersOn 22 = .ok (.iload_n 1, 1) := by decide +kernel
theorem dX2_drawersOn_23 : decode cX2_drawersOn 23 = .ok (.if_icmp .ne 6, 3) := by decide +kernel
theorem dX2_drawersOn_26 : decode cX2_drawersOn 26 = .ok (.iinc 2 1, 3) := by decide +kernel
theorem dX2_drawersOn_29 : decode cX2_drawersOn 29 = .ok (.iinc 3 1, 3) := by decide +kernel
theorem dX2_drawersOn_32 : decode cX2_drawersOn 32 = .ok (.goto (-28), 3) := by decide +kernel
theorem dX2_drawersOn_35 : decode cX2_drawersOn 35 = .ok (.iload_n 2, 1) := by decide +kernel
theorem dX2_drawersOn_36 : decode cX2_drawersOn 36 = .ok (.ireturn, 1) := by decide +kernel
theorem dX2_pluggedStalls_0 : decode cX2_pluggedStalls 0 = .ok (.iconst 0, 1) := by decide +kernel
theorem dX2_pluggedStalls_1 : decode cX2_pluggedStalls 1 = .ok (.istore_n 1, 1) := by decide +kernel
theorem dX2_pluggedStalls_2 : decode cX2_pluggedStalls 2 = .ok (.iconst 0, 1) := by decide +kernel
theorem dX2_pluggedStalls_3 : decode cX2_pluggedStalls 3 = .ok (.istore_n 2, 1) := by decide +kernel
theorem dX2_pluggedStalls_4 : decode cX2_pluggedStalls 4 = .ok (.iload_n 2, 1) := by decide +kernel
theorem dX2_pluggedStalls_5 : decode cX2_pluggedStalls 5 = .ok (.aload_n 0, 1) := by decide +kernel
theorem dX2_pluggedStalls_6 : decode cX2_pluggedStalls 6 = .ok (.getfield 41, 3) := by decide +kernel
theorem dX2_pluggedStalls_9 : decode cX2_pluggedStalls 9 = .ok (.if_icmp .ge 25, 3) := by decide +kernel
theorem dX2_pluggedStalls_12 : decode cX2_pluggedStalls 12 = .ok (.aload_n 0, 1) := by decide +kernel
theorem dX2_pluggedStalls_13 : decode cX2_pluggedStalls 13 = .ok (.getfield 11, 3) := by decide +kernel
theorem dX2_pluggedStalls_16 : decode cX2_pluggedStalls 16 = .ok (.iload_n 2, 1) := by decide +kernel
theorem dX2_pluggedStalls_17 : decode cX2_pluggedStalls 17 = .ok (.aaload, 1) := by decide +kernel
theorem dX2_pluggedStalls_18 : decode cX2_pluggedStalls 18 = .ok (.getfield 71, 3) := by decide +kernel
theorem dX2_pluggedStalls_21 : decode cX2_pluggedStalls 21 = .ok (.iconst (-1), 1) := by decide +kernel
theorem dX2_pluggedStalls_22 : decode cX2_pluggedStalls 22 = .ok (.if_icmp .eq 6, 3) := by decide +kernel
theorem dX2_pluggedStalls_25 : decode cX2_pluggedStalls 25 = .ok (.iinc 1 1, 3) := by decide +kernel
theorem dX2_pluggedStalls_28 : decode cX2_pluggedStalls 28 = .ok (.iinc 2 1, 3) := by decide +kernel
theorem dX2_pluggedStalls_31 : decode cX2_pluggedStalls 31 = .ok (.goto (-27), 3) := by decide +kernel
theorem dX2_pluggedStalls_34 : decode cX2_pluggedStalls 34 = .ok (.iload_n 1, 1) := by decide +kernel
theorem dX2_pluggedStalls_35 : decode cX2_pluggedStalls 35 = .ok (.ireturn, 1) := by decide +kernel
theorem dX2_drawingStalls_0 : decode cX2_drawingStalls 0 = .ok (.iconst 0, 1) := by decide +kernel
theorem dX2_drawingStalls_1 : decode cX2_drawingStalls 1 = .ok (.istore_n 1, 1) := by decide +kernel
theorem dX2_drawingStalls_2 : decode cX2_drawingStalls 2 = .ok (.iconst 0, 1) := by decide +kernel
theorem dX2_drawingStalls_3 : decode cX2_drawingStalls 3 = .ok (.istore_n 2, 1) := by decide +kernel
theorem dX2_drawingStalls_4 : decode cX2_drawingStalls 4 = .ok (.iload_n 2, 1) := by decide +kernel
theorem dX2_drawingStalls_5 : decode cX2_drawingStalls 5 = .ok (.iconst 4, 1) := by decide +kernel
theorem dX2_drawingStalls_6 : decode cX2_drawingStalls 6 = .ok (.if_icmp .ge 17, 3) := by decide +kernel
theorem dX2_drawingStalls_9 : decode cX2_drawingStalls 9 = .ok (.iload_n 1, 1) := by decide +kernel
theorem dX2_drawingStalls_10 : decode cX2_drawingStalls 10 = .ok (.aload_n 0, 1) := by decide +kernel
theorem dX2_drawingStalls_11 : decode cX2_drawingStalls 11 = .ok (.iload_n 2, 1) := by decide +kernel
theorem dX2_drawingStalls_12 : decode cX2_drawingStalls 12 = .ok (.invokevirtual 140, 3) := by decide +kernel
theorem dX2_drawingStalls_15 : decode cX2_drawingStalls 15 = .ok (.iadd, 1) := by decide +kernel
theorem dX2_drawingStalls_16 : decode cX2_drawingStalls 16 = .ok (.istore_n 1, 1) := by decide +kernel
theorem dX2_drawingStalls_17 : decode cX2_drawingStalls 17 = .ok (.iinc 2 1, 3) := by decide +kernel
theorem dX2_drawingStalls_20 : decode cX2_drawingStalls 20 = .ok (.goto (-16), 3) := by decide +kernel
theorem dX2_drawingStalls_23 : decode cX2_drawingStalls 23 = .ok (.iload_n 1, 1) := by decide +kernel
theorem dX2_drawingStalls_24 : decode cX2_drawingStalls 24 = .ok (.ireturn, 1) := by decide +kernel
theorem dX2_breakersOn_0 : decode cX2_breakersOn 0 = .ok (.iconst 0, 1) := by decide +kernel
theorem dX2_breakersOn_1 : decode cX2_breakersOn 1 = .ok (.istore_n 1, 1) := by decide +kernel
theorem dX2_breakersOn_2 : decode cX2_breakersOn 2 = .ok (.iconst 0, 1) := by decide +kernel
theorem dX2_breakersOn_3 : decode cX2_breakersOn 3 = .ok (.istore_n 2, 1) := by decide +kernel
theorem dX2_breakersOn_4 : decode cX2_breakersOn 4 = .ok (.iload_n 2, 1) := by decide +kernel
theorem dX2_breakersOn_5 : decode cX2_breakersOn 5 = .ok (.iconst 4, 1) := by decide +kernel
theorem dX2_breakersOn_6 : decode cX2_breakersOn 6 = .ok (.if_icmp .ge 24, 3) := by decide +kernel
theorem dX2_breakersOn_9 : decode cX2_breakersOn 9 = .ok (.aload_n 0, 1) := by decide +kernel
theorem dX2_breakersOn_10 : decode cX2_breakersOn 10 = .ok (.getfield 19, 3) := by decide +kernel
theorem dX2_breakersOn_13 : decode cX2_breakersOn 13 = .ok (.iload_n 2, 1) := by decide +kernel
theorem dX2_breakersOn_14 : decode cX2_breakersOn 14 = .ok (.aaload, 1) := by decide +kernel
theorem dX2_breakersOn_15 : decode cX2_breakersOn 15 = .ok (.getfield 137, 3) := by decide +kernel
theorem dX2_breakersOn_18 : decode cX2_breakersOn 18 = .ok (.ifCond .eq 6, 3) := by decide +kernel
theorem dX2_breakersOn_21 : decode cX2_breakersOn 21 = .ok (.iinc 1 1, 3) := by decide +kernel
theorem dX2_breakersOn_24 : decode cX2_breakersOn 24 = .ok (.iinc 2 1, 3) := by decide +kernel
theorem dX2_breakersOn_27 : decode cX2_breakersOn 27 = .ok (.goto (-23), 3) := by decide +kernel
theorem dX2_breakersOn_30 : decode cX2_breakersOn 30 = .ok (.iload_n 1, 1) := by decide +kernel
theorem dX2_breakersOn_31 : decode cX2_breakersOn 31 = .ok (.ireturn, 1) := by decide +kernel
theorem dX2_meters_0 : decode cX2_meters 0 = .ok (.iconst 0, 1) := by decide +kernel
theorem dX2_meters_1 : decode cX2_meters 1 = .ok (.istore_n 1, 1) := by decide +kernel
theorem dX2_meters_2 : decode cX2_meters 2 = .ok (.iconst 0, 1) := by decide +kernel
theorem dX2_meters_3 : decode cX2_meters 3 = .ok (.istore_n 2, 1) := by decide +kernel
theorem dX2_meters_4 : decode cX2_meters 4 = .ok (.iload_n 2, 1) := by decide +kernel
theorem dX2_meters_5 : decode cX2_meters 5 = .ok (.aload_n 0, 1) := by decide +kernel
theorem dX2_meters_6 : decode cX2_meters 6 = .ok (.getfield 41, 3) := by decide +kernel
theorem dX2_meters_9 : decode cX2_meters 9 = .ok (.if_icmp .ge 21, 3) := by decide +kernel
theorem dX2_meters_12 : decode cX2_meters 12 = .ok (.iload_n 1, 1) := by decide +kernel
theorem dX2_meters_13 : decode cX2_meters 13 = .ok (.aload_n 0, 1) := by decide +kernel
theorem dX2_meters_14 : decode cX2_meters 14 = .ok (.getfield 11, 3) := by decide +kernel
theorem dX2_meters_17 : decode cX2_meters 17 = .ok (.iload_n 2, 1) := by decide +kernel
theorem dX2_meters_18 : decode cX2_meters 18 = .ok (.aaload, 1) := by decide +kernel
theorem dX2_meters_19 : decode cX2_meters 19 = .ok (.getfield 121, 3) := by decide +kernel
theorem dX2_meters_22 : decode cX2_meters 22 = .ok (.iadd, 1) := by decide +kernel
theorem dX2_meters_23 : decode cX2_meters 23 = .ok (.istore_n 1, 1) := by decide +kernel
theorem dX2_meters_24 : decode cX2_meters 24 = .ok (.iinc 2 1, 3) := by decide +kernel
theorem dX2_meters_27 : decode cX2_meters 27 = .ok (.goto (-23), 3) := by decide +kernel
theorem dX2_meters_30 : decode cX2_meters 30 = .ok (.iload_n 1, 1) := by decide +kernel
theorem dX2_meters_31 : decode cX2_meters 31 = .ok (.ireturn, 1) := by decide +kernel
theorem dX2_through_0 : decode cX2_through 0 = .ok (.iconst 0, 1) := by decide +kernel
theorem dX2_through_1 : decode cX2_through 1 = .ok (.istore_n 1, 1) := by decide +kernel
theorem dX2_through_2 : decode cX2_through 2 = .ok (.iconst 0, 1) := by decide +kernel
theorem dX2_through_3 : decode cX2_through 3 = .ok (.istore_n 2, 1) := by decide +kernel
theorem dX2_through_4 : decode cX2_through 4 = .ok (.iload_n 2, 1) := by decide +kernel
theorem dX2_through_5 : decode cX2_through 5 = .ok (.iconst 4, 1) := by decide +kernel
theorem dX2_through_6 : decode cX2_through 6 = .ok (.if_icmp .ge 21, 3) := by decide +kernel
theorem dX2_through_9 : decode cX2_through 9 = .ok (.iload_n 1, 1) := by decide +kernel
theorem dX2_through_10 : decode cX2_through 10 = .ok (.aload_n 0, 1) := by decide +kernel
theorem dX2_through_11 : decode cX2_through 11 = .ok (.getfield 19, 3) := by decide +kernel
theorem dX2_through_14 : decode cX2_through 14 = .ok (.iload_n 2, 1) := by decide +kernel
theorem dX2_through_15 : decode cX2_through 15 = .ok (.aaload, 1) := by decide +kernel
theorem dX2_through_16 : decode cX2_through 16 = .ok (.getfield 124, 3) := by decide +kernel
theorem dX2_through_19 : decode cX2_through 19 = .ok (.iadd, 1) := by decide +kernel
theorem dX2_through_20 : decode cX2_through 20 = .ok (.istore_n 1, 1) := by decide +kernel
theorem dX2_through_21 : decode cX2_through 21 = .ok (.iinc 2 1, 3) := by decide +kernel
theorem dX2_through_24 : decode cX2_through 24 = .ok (.goto (-20), 3) := by decide +kernel
theorem dX2_through_27 : decode cX2_through 27 = .ok (.iload_n 1, 1) := by decide +kernel
theorem dX2_through_28 : decode cX2_through 28 = .ok (.ireturn, 1) := by decide +kernel
theorem dX2_trips_0 : decode cX2_trips 0 = .ok (.iconst 0, 1) := by decide +kernel
theorem dX2_trips_1 : decode cX2_trips 1 = .ok (.istore_n 1, 1) := by decide +kernel
theorem dX2_trips_2 : decode cX2_trips 2 = .ok (.iconst 0, 1) := by decide +kernel
theorem dX2_trips_3 : decode cX2_trips 3 = .ok (.istore_n 2, 1) := by decide +kernel
theorem dX2_trips_4 : decode cX2_trips 4 = .ok (.iload_n 2, 1) := by decide +kernel
theorem dX2_trips_5 : decode cX2_trips 5 = .ok (.iconst 4, 1) := by decide +kernel
theorem dX2_trips_6 : decode cX2_trips 6 = .ok (.if_icmp .ge 21, 3) := by decide +kernel
theorem dX2_trips_9 : decode cX2_trips 9 = .ok (.iload_n 1, 1) := by decide +kernel
theorem dX2_trips_10 : decode cX2_trips 10 = .ok (.aload_n 0, 1) := by decide +kernel
theorem dX2_trips_11 : decode cX2_trips 11 = .ok (.getfield 19, 3) := by decide +kernel
theorem dX2_trips_14 : decode cX2_trips 14 = .ok (.iload_n 2, 1) := by decide +kernel
theorem dX2_trips_15 : decode cX2_trips 15 = .ok (.aaload, 1) := by decide +kernel
theorem dX2_trips_16 : decode cX2_trips 16 = .ok (.getfield 143, 3) := by decide +kernel
theorem dX2_trips_19 : decode cX2_trips 19 = .ok (.iadd, 1) := by decide +kernel
theorem dX2_trips_20 : decode cX2_trips 20 = .ok (.istore_n 1, 1) := by decide +kernel
theorem dX2_trips_21 : decode cX2_trips 21 = .ok (.iinc 2 1, 3) := by decide +kernel
theorem dX2_trips_24 : decode cX2_trips 24 = .ok (.goto (-20), 3) := by decide +kernel
theorem dX2_trips_27 : decode cX2_trips 27 = .ok (.iload_n 1, 1) := by decide +kernel
theorem dX2_trips_28 : decode cX2_trips 28 = .ok (.ireturn, 1) := by decide +kernel
theorem dX2_darkHours_0 : decode cX2_darkHours 0 = .ok (.iconst 0, 1) := by decide +kernel
theorem dX2_darkHours_1 : decode cX2_darkHours 1 = .ok (.istore_n 1, 1) := by decide +kernel
theorem dX2_darkHours_2 : decode cX2_darkHours 2 = .ok (.iconst 0, 1) := by decide +kernel
theorem dX2_darkHours_3 : decode cX2_darkHours 3 = .ok (.istore_n 2, 1) := by decide +kernel
theorem dX2_darkHours_4 : decode cX2_darkHours 4 = .ok (.iload_n 2, 1) := by decide +kernel
theorem dX2_darkHours_5 : decode cX2_darkHours 5 = .ok (.aload_n 0, 1) := by decide +kernel
theorem dX2_darkHours_6 : decode cX2_darkHours 6 = .ok (.getfield 41, 3) := by decide +kernel
theorem dX2_darkHours_9 : decode cX2_darkHours 9 = .ok (.if_icmp .ge 21, 3) := by decide +kernel
theorem dX2_darkHours_12 : decode cX2_darkHours 12 = .ok (.iload_n 1, 1) := by decide +kernel
theorem dX2_darkHours_13 : decode cX2_darkHours 13 = .ok (.aload_n 0, 1) := by decide +kernel
theorem dX2_darkHours_14 : decode cX2_darkHours 14 = .ok (.getfield 11, 3) := by decide +kernel
theorem dX2_darkHours_17 : decode cX2_darkHours 17 = .ok (.iload_n 2, 1) := by decide +kernel
theorem dX2_darkHours_18 : decode cX2_darkHours 18 = .ok (.aaload, 1) := by decide +kernel
theorem dX2_darkHours_19 : decode cX2_darkHours 19 = .ok (.getfield 131, 3) := by decide +kernel
theorem dX2_darkHours_22 : decode cX2_darkHours 22 = .ok (.iadd, 1) := by decide +kernel
theorem dX2_darkHours_23 : decode cX2_darkHours 23 = .ok (.istore_n 1, 1) := by decide +kernel
theorem dX2_darkHours_24 : decode cX2_darkHours 24 = .ok (.iinc 2 1, 3) := by decide +kernel
theorem dX2_darkHours_27 : decode cX2_darkHours 27 = .ok (.goto (-23), 3) := by decide +kernel
theorem dX2_darkHours_30 : decode cX2_darkHours 30 = .ok (.iload_n 1, 1) := by decide +kernel
theorem dX2_darkHours_31 : decode cX2_darkHours 31 = .ok (.ireturn, 1) := by decide +kernel
theorem dX2_fees_0 : decode cX2_fees 0 = .ok (.iconst 0, 1) := by decide +kernel
theorem dX2_fees_1 : decode cX2_fees 1 = .ok (.istore_n 1, 1) := by decide +kernel
theorem dX2_fees_2 : decode cX2_fees 2 = .ok (.iconst 0, 1) := by decide +kernel
theorem dX2_fees_3 : decode cX2_fees 3 = .ok (.istore_n 2, 1) := by decide +kernel
theorem dX2_fees_4 : decode cX2_fees 4 = .ok (.iload_n 2, 1) := by decide +kernel
theorem dX2_fees_5 : decode cX2_fees 5 = .ok (.aload_n 0, 1) := by decide +kernel
theorem dX2_fees_6 : decode cX2_fees 6 = .ok (.getfield 41, 3) := by decide +kernel
theorem dX2_fees_9 : decode cX2_fees 9 = .ok (.if_icmp .ge 22, 3) := by decide +kernel
theorem dX2_fees_12 : decode cX2_fees 12 = .ok (.iload_n 1, 1) := by decide +kernel
theorem dX2_fees_13 : decode cX2_fees 13 = .ok (.aload_n 0, 1) := by decide +kernel
theorem dX2_fees_14 : decode cX2_fees 14 = .ok (.aload_n 0, 1) := by decide +kernel
theorem dX2_fees_15 : decode cX2_fees 15 = .ok (.getfield 11, 3) := by decide +kernel
theorem dX2_fees_18 : decode cX2_fees 18 = .ok (.iload_n 2, 1) := by decide +kernel
theorem dX2_fees_19 : decode cX2_fees 19 = .ok (.aaload, 1) := by decide +kernel
theorem dX2_fees_20 : decode cX2_fees 20 = .ok (.invokevirtual 146, 3) := by decide +kernel
theorem dX2_fees_23 : decode cX2_fees 23 = .ok (.iadd, 1) := by decide +kernel
theorem dX2_fees_24 : decode cX2_fees 24 = .ok (.istore_n 1, 1) := by decide +kernel
theorem dX2_fees_25 : decode cX2_fees 25 = .ok (.iinc 2 1, 3) := by decide +kernel
theorem dX2_fees_28 : decode cX2_fees 28 = .ok (.goto (-24), 3) := by decide +kernel
theorem dX2_fees_31 : decode cX2_fees 31 = .ok (.iload_n 1, 1) := by decide +kernel
theorem dX2_fees_32 : decode cX2_fees 32 = .ok (.ireturn, 1) := by decide +kernel
theorem dX3_init_0 : decode cX3_init 0 = .ok (.aload_n 0, 1) := by decide +kernel
theorem dX3_init_1 : decode cX3_init 1 = .ok (.invokespecial 3, 3) := by decide +kernel
theorem dX3_init_4 : decode cX3_init 4 = .ok (.aload_n 0, 1) := by decide +kernel
theorem dX3_init_5 : decode cX3_init 5 = .ok (.bipush 60, 2) := by decide +kernel
theorem dX3_init_7 : decode cX3_init 7 = .ok (.newarray .char, 2) := by decide +kernel
theorem dX3_init_9 : decode cX3_init 9 = .ok (.putfield 9, 3) := by decide +kernel
theorem dX3_init_12 : decode cX3_init 12 = .ok (.aload_n 0, 1) := by decide +kernel
theorem dX3_init_13 : decode cX3_init 13 = .ok (.iconst 4, 1) := by decide +kernel
theorem dX3_init_14 : decode cX3_init 14 = .ok (.newarray .int, 2) := by decide +kernel
theorem dX3_init_16 : decode cX3_init 16 = .ok (.putfield 15, 3) := by decide +kernel
theorem dX3_init_19 : decode cX3_init 19 = .ok (.return_, 1) := by decide +kernel
theorem dX4_init_0 : decode cX4_init 0 = .ok (.aload_n 0, 1) := by decide +kernel
theorem dX4_init_1 : decode cX4_init 1 = .ok (.invokespecial 3, 3) := by decide +kernel
theorem dX4_init_4 : decode cX4_init 4 = .ok (.aload_n 0, 1) := by decide +kernel
theorem dX4_init_5 : decode cX4_init 5 = .ok (.iconst (-1), 1) := by decide +kernel
theorem dX4_init_6 : decode cX4_init 6 = .ok (.putfield 9, 3) := by decide +kernel
theorem dX4_init_9 : decode cX4_init 9 = .ok (.aload_n 0, 1) := by decide +kernel
theorem dX4_init_10 : decode cX4_init 10 = .ok (.iconst (-1), 1) := by decide +kernel
theorem dX4_init_11 : decode cX4_init 11 = .ok (.putfield 15, 3) := by decide +kernel
theorem dX4_init_14 : decode cX4_init 14 = .ok (.return_, 1) := by decide +kernel
theorem dX4_wantsAt_0 : decode cX4_wantsAt 0 = .ok (.aload_n 0, 1) := by decide +kernel
theorem dX4_wantsAt_1 : decode cX4_wantsAt 1 = .ok (.getfield 18, 3) := by decide +kernel
theorem dX4_wantsAt_4 : decode cX4_wantsAt 4 = .ok (.aload_n 0, 1) := by decide +kernel
theorem dX4_wantsAt_5 : decode cX4_wantsAt 5 = .ok (.getfield 21, 3) := by decide +kernel
theorem dX4_wantsAt_8 : decode cX4_wantsAt 8 = .ok (.if_icmp .ge 25, 3) := by decide +kernel
theorem dX4_wantsAt_11 : decode cX4_wantsAt 11 = .ok (.iload_n 1, 1) := by decide +kernel
theorem dX4_wantsAt_12 : decode cX4_wantsAt 12 = .ok (.aload_n 0, 1) := by decide +kernel
theorem dX4_wantsAt_13 : decode cX4_wantsAt 13 = .ok (.getfield 21, 3) := by decide +kernel
theorem dX4_wantsAt_16 : decode cX4_wantsAt 16 = .ok (.if_icmp .ge 11, 3) := by decide +kernel
theorem dX4_wantsAt_19 : decode cX4_wantsAt 19 = .ok (.iload_n 1, 1) := by decide +kernel
theorem dX4_wantsAt_20 : decode cX4_wantsAt 20 = .ok (.aload_n 0, 1) := by decide +kernel
theorem dX4_wantsAt_21 : decode cX4_wantsAt 21 = .ok (.getfield 18, 3) := by decide +kernel
theorem dX4_wantsAt_24 : decode cX4_wantsAt 24 = .ok (.if_icmp .gt 7, 3) := by decide +kernel
theorem dX4_wantsAt_27 : decode cX4_wantsAt 27 = .ok (.iconst 1, 1) := by decide +kernel
theorem dX4_wantsAt_28 : decode cX4_wantsAt 28 = .ok (.goto 4, 3) := by decide +kernel
theorem dX4_wantsAt_31 : decode cX4_wantsAt 31 = .ok (.iconst 0, 1) := by decide +kernel
theorem dX4_wantsAt_32 : decode cX4_wantsAt 32 = .ok (.ireturn, 1) := by decide +kernel
theorem dX4_wantsAt_33 : decode cX4_wantsAt 33 = .ok (.iload_n 1, 1) := by decide +kernel
theorem dX4_wantsAt_34 : decode cX4_wantsAt 34 = .ok (.aload_n 0, 1) := by decide +kernel
theorem dX4_wantsAt_35 : decode cX4_wantsAt 35 = .ok (.getfield 21, 3) := by decide +kernel
theorem dX4_wantsAt_38 : decode cX4_wantsAt 38 = .ok (.if_icmp .lt 15, 3) := by decide +kernel
theorem dX4_wantsAt_41 : decode cX4_wantsAt 41 = .ok (.iload_n 1, 1) := by decide +kernel
theorem dX4_wantsAt_42 : decode cX4_wantsAt 42 = .ok (.aload_n 0, 1) := by decide +kernel
theorem dX4_wantsAt_43 : decode cX4_wantsAt 43 = .ok (.getfield 18, 3) := by decide +kernel
theorem dX4_wantsAt_46 : decode cX4_wantsAt 46 = .ok (.if_icmp .gt 7, 3) := by decide +kernel
theorem dX4_wantsAt_49 : decode cX4_wantsAt 49 = .ok (.iconst 1, 1) := by decide +kernel
theorem dX4_wantsAt_50 : decode cX4_wantsAt 50 = .ok (.goto 4, 3) := by decide +kernel
theorem dX4_wantsAt_53 : decode cX4_wantsAt 53 = .ok (.iconst 0, 1) := by decide +kernel
theorem dX4_wantsAt_54 : decode cX4_wantsAt 54 = .ok (.ireturn, 1) := by decide +kernel
theorem dX4_begin_0 : decode cX4_begin 0 = .ok (.aload_n 0, 1) := by decide +kernel
theorem dX4_begin_1 : decode cX4_begin 1 = .ok (.iload_n 1, 1) := by decide +kernel
theorem dX4_begin_2 : decode cX4_begin 2 = .ok (.putfield 24, 3) := by decide +kernel
theorem dX4_begin_5 : decode cX4_begin 5 = .ok (.aload_n 0, 1) := by decide +kernel
theorem dX4_begin_6 : decode cX4_begin 6 = .ok (.iload_n 2, 1) := by decide +kernel
theorem dX4_begin_7 : decode cX4_begin 7 = .ok (.putfield 21, 3) := by decide +kernel
theorem dX4_begin_10 : decode cX4_begin 10 = .ok (.aload_n 0, 1) := by decide +kernel
theorem dX4_begin_11 : decode cX4_begin 11 = .ok (.iload_n 3, 1) := by decide +kernel
theorem dX4_begin_12 : decode cX4_begin 12 = .ok (.putfield 18, 3) := by decide +kernel
theorem dX4_begin_15 : decode cX4_begin 15 = .ok (.aload_n 0, 1) := by decide +kernel
theorem dX4_begin_16 : decode cX4_begin 16 = .ok (.iload 4, 2) := by decide +kernel
theorem dX4_begin_18 : decode cX4_begin 18 = .ok (.putfield 27, 3) := by decide +kernel
theorem dX4_begin_21 : decode cX4_begin 21 = .ok (.aload_n 0, 1) := by decide +kernel
theorem dX4_begin_22 : decode cX4_begin 22 = .ok (.iconst (-1), 1) := by decide +kernel
theorem dX4_begin_23 : decode cX4_begin 23 = .ok (.putfield 9, 3) := by decide +kernel
theorem dX4_begin_26 : decode cX4_begin 26 = .ok (.aload_n 0, 1) := by decide +kernel
theorem dX4_begin_27 : decode cX4_begin 27 = .ok (.iconst 0, 1) := by decide +kernel
theorem dX4_begin_28 : decode cX4_begin 28 = .ok (.putfield 30, 3) := by decide +kernel
theorem dX4_begin_31 : decode cX4_begin 31 = .ok (.aload_n 0, 1) := by decide +kernel
theorem dX4_begin_32 : decode cX4_begin 32 = .ok (.iconst 0, 1) := by decide +kernel
theorem dX4_begin_33 : decode cX4_begin 33 = .ok (.putfield 34, 3) := by decide +kernel
theorem dX4_begin_36 : decode cX4_begin 36 = .ok (.aload_n 0, 1) := by decide +kernel
theorem dX4_begin_37 : decode cX4_begin 37 = .ok (.iconst 0, 1) := by decide +kernel
theorem dX4_begin_38 : decode cX4_begin 38 = .ok (.putfield 37, 3) := by decide +kernel
theorem dX4_begin_41 : decode cX4_begin 41 = .ok (.return_, 1) := by decide +kernel
theorem dX4_copyFrom_0 : decode cX4_copyFrom 0 = .ok (.aload_n 0, 1) := by decide +kernel
theorem dX4_copyFrom_1 : decode cX4_copyFrom 1 = .ok (.aload_n 1, 1) := by decide +kernel
theorem dX4_copyFrom_2 : decode cX4_copyFrom 2 = .ok (.getfield 24, 3) := by decide +kernel
theorem dX4_copyFrom_5 : decode cX4_copyFrom 5 = .ok (.putfield 24, 3) := by decide +kernel
theorem dX4_copyFrom_8 : decode cX4_copyFrom 8 = .ok (.aload_n 0, 1) := by decide +kernel
theorem dX4_copyFrom_9 : decode cX4_copyFrom 9 = .ok (.aload_n 1, 1) := by decide +kernel
theorem dX4_copyFrom_10 : decode cX4_copyFrom 10 = .ok (.getfield 21, 3) := by decide +kernel
theorem dX4_copyFrom_13 : decode cX4_copyFrom 13 = .ok (.putfield 21, 3) := by decide +kernel
theorem dX4_copyFrom_16 : decode cX4_copyFrom 16 = .ok (.aload_n 0, 1) := by decide +kernel
theorem dX4_copyFrom_17 : decode cX4_copyFrom 17 = .ok (.aload_n 1, 1) := by decide +kernel
theorem dX4_copyFrom_18 : decode cX4_copyFrom 18 = .ok (.getfield 18, 3) := by decide +kernel
theorem dX4_copyFrom_21 : decode cX4_copyFrom 21 = .ok (.putfield 18, 3) := by decide +kernel
theorem dX4_copyFrom_24 : decode cX4_copyFrom 24 = .ok (.aload_n 0, 1) := by decide +kernel
theorem dX4_copyFrom_25 : decode cX4_copyFrom 25 = .ok (.aload_n 1, 1) := by decide +kernel
theorem dX4_copyFrom_26 : decode cX4_copyFrom 26 = .ok (.getfield 27, 3) := by decide +kernel
theorem dX4_copyFrom_29 : decode cX4_copyFrom 29 = .ok (.putfield 27, 3) := by decide +kernel
theorem dX4_copyFrom_32 : decode cX4_copyFrom 32 = .ok (.aload_n 0, 1) := by decide +kernel
theorem dX4_copyFrom_33 : decode cX4_copyFrom 33 = .ok (.aload_n 1, 1) := by decide +kernel
theorem dX4_copyFrom_34 : decode cX4_copyFrom 34 = .ok (.getfield 9, 3) := by decide +kernel
theorem dX4_copyFrom_37 : decode cX4_copyFrom 37 = .ok (.putfield 9, 3) := by decide +kernel
theorem dX4_copyFrom_40 : decode cX4_copyFrom 40 = .ok (.aload_n 0, 1) := by decide +kernel
theorem dX4_copyFrom_41 : decode cX4_copyFrom 41 = .ok (.aload_n 1, 1) := by decide +kernel
theorem dX4_copyFrom_42 : decode cX4_copyFrom 42 = .ok (.getfield 30, 3) := by decide +kernel
theorem dX4_copyFrom_45 : decode cX4_copyFrom 45 = .ok (.putfield 30, 3) := by decide +kernel
theorem dX4_copyFrom_48 : decode cX4_copyFrom 48 = .ok (.aload_n 0, 1) := by decide +kernel
theorem dX4_copyFrom_49 : decode cX4_copyFrom 49 = .ok (.aload_n 1, 1) := by decide +kernel
theorem dX4_copyFrom_50 : decode cX4_copyFrom 50 = .ok (.getfield 34, 3) := by decide +kernel
theorem dX4_copyFrom_53 : decode cX4_copyFrom 53 = .ok (.putfield 34, 3) := by decide +kernel
theorem dX4_copyFrom_56 : decode cX4_copyFrom 56 = .ok (.aload_n 0, 1) := by decide +kernel
theorem dX4_copyFrom_57 : decode cX4_copyFrom 57 = .ok (.aload_n 1, 1) := by decide +kernel
theorem dX4_copyFrom_58 : decode cX4_copyFrom 58 = .ok (.getfield 37, 3) := by decide +kernel
theorem dX4_copyFrom_61 : decode cX4_copyFrom 61 = .ok (.putfield 37, 3) := by decide +kernel
theorem dX4_copyFrom_64 : decode cX4_copyFrom 64 = .ok (.return_, 1) := by decide +kernel
