theorem dX3_init_0 : decode cX3_init 0 = .ok (.aload_n 0, 1) := by decide +kernel
theorem dX3_init_1 : decode cX3_init 1 = .ok (.invokespecial 1, 3) := by decide +kernel
theorem dX3_init_4 : decode cX3_init 4 = .ok (.aload_n 0, 1) := by decide +kernel
theorem dX3_init_5 : decode cX3_init 5 = .ok (.iload_n 3, 1) := by decide +kernel
theorem dX3_init_6 : decode cX3_init 6 = .ok (.sipush 400, 3) := by decide +kernel
theorem dX3_init_9 : decode cX3_init 9 = .ok (.invokestatic 9, 3) := by decide +kernel
theorem dX3_init_12 : decode cX3_init 12 = .ok (.putfield 13, 3) := by decide +kernel
theorem dX3_init_15 : decode cX3_init 15 = .ok (.aload_n 0, 1) := by decide +kernel
theorem dX3_init_16 : decode cX3_init 16 = .ok (.new 17, 3) := by decide +kernel
theorem dX3_init_19 : decode cX3_init 19 = .ok (.dup, 1) := by decide +kernel
theorem dX3_init_20 : decode cX3_init 20 = .ok (.invokespecial 19, 3) := by decide +kernel
theorem dX3_init_23 : decode cX3_init 23 = .ok (.putfield 20, 3) := by decide +kernel
theorem dX3_init_26 : decode cX3_init 26 = .ok (.aload_n 0, 1) := by decide +kernel
theorem dX3_init_27 : decode cX3_init 27 = .ok (.new 24, 3) := by decide +kernel
theorem dX3_init_30 : decode cX3_init 30 = .ok (.dup, 1) := by decide +kernel
theorem dX3_init_31 : decode cX3_init 31 = .ok (.iload_n 1, 1) := by decide +kernel
theorem dX3_init_32 : decode cX3_init 32 = .ok (.bipush 16, 2) := by decide +kernel
theorem dX3_init_34 : decode cX3_init 34 = .ok (.invokestatic 9, 3) := by decide +kernel
theorem dX3_init_37 : decode cX3_init 37 = .ok (.iload_n 2, 1) := by decide +kernel
theorem dX3_init_38 : decode cX3_init 38 = .ok (.bipush 8, 2) := by decide +kernel
theorem dX3_init_40 : decode cX3_init 40 = .ok (.invokestatic 9, 3) := by decide +kernel
theorem dX3_init_43 : decode cX3_init 43 = .ok (.invokespecial 26, 3) := by decide +kernel
theorem dX3_init_46 : decode cX3_init 46 = .ok (.putfield 29, 3) := by decide +kernel
theorem dX3_init_49 : decode cX3_init 49 = .ok (.aload_n 0, 1) := by decide +kernel
theorem dX3_init_50 : decode cX3_init 50 = .ok (.new 33, 3) := by decide +kernel
theorem dX3_init_53 : decode cX3_init 53 = .ok (.dup, 1) := by decide +kernel
theorem dX3_init_54 : decode cX3_init 54 = .ok (.invokespecial 35, 3) := by decide +kernel
theorem dX3_init_57 : decode cX3_init 57 = .ok (.putfield 36, 3) := by decide +kernel
theorem dX3_init_60 : decode cX3_init 60 = .ok (.aload_n 0, 1) := by decide +kernel
theorem dX3_init_61 : decode cX3_init 61 = .ok (.bipush 16, 2) := by decide +kernel
theorem dX3_init_63 : decode cX3_init 63 = .ok (.newarray .int, 2) := by decide +kernel
theorem dX3_init_65 : decode cX3_init 65 = .ok (.putfield 40, 3) := by decide +kernel
theorem dX3_init_68 : decode cX3_init 68 = .ok (.aload_n 0, 1) := by decide +kernel
theorem dX3_init_69 : decode cX3_init 69 = .ok (.bipush 16, 2) := by decide +kernel
theorem dX3_init_71 : decode cX3_init 71 = .ok (.newarray .int, 2) := by decide +kernel
theorem dX3_init_73 : decode cX3_init 73 = .ok (.putfield 44, 3) := by decide +kernel
theorem dX3_init_76 : decode cX3_init 76 = .ok (.return_, 1) := by decide +kernel
theorem dX3_held_0 : decode cX3_held 0 = .ok (.iconst 1, 1) := by decide +kernel
theorem dX3_held_1 : decode cX3_held 1 = .ok (.iload_n 0, 1) := by decide +kernel
theorem dX3_held_2 : decode cX3_held 2 = .ok (.iload_n 1, 1) := by decide +kernel
theorem dX3_held_3 : decode cX3_held 3 = .ok (.invokestatic 190, 3) := by decide +kernel
theorem dX3_held_6 : decode cX3_held 6 = .ok (.invokestatic 195, 3) := by decide +kernel
theorem dX3_held_9 : decode cX3_held 9 = .ok (.ireturn, 1) := by decide +kernel
theorem dX0_init_0 : decode cX0_init 0 = .ok (.aload_n 0, 1) := by decide +kernel
theorem dX0_init_1 : decode cX0_init 1 = .ok (.invokespecial 3, 3) := by decide +kernel
theorem dX0_init_4 : decode cX0_init 4 = .ok (.aload_n 0, 1) := by decide +kernel
theorem dX0_init_5 : decode cX0_init 5 = .ok (.bipush 60, 2) := by decide +kernel
theorem dX0_init_7 : decode cX0_init 7 = .ok (.newarray .int, 2) := by decide +kernel
theorem dX0_init_9 : decode cX0_init 9 = .ok (.putfield 9, 3) := by decide +kernel
theorem dX0_init_12 : decode cX0_init 12 = .ok (.aload_n 0, 1) := by decide +kernel
theorem dX0_init_13 : decode cX0_init 13 = .ok (.bipush 60, 2) := by decide +kernel
theorem dX0_init_15 : decode cX0_init 15 = .ok (.newarray .int, 2) := by decide +kernel
theorem dX0_init_17 : decode cX0_init 17 = .ok (.putfield 15, 3) := by decide +kernel
theorem dX0_init_20 : decode cX0_init 20 = .ok (.aload_n 0, 1) := by decide +kernel
theorem dX0_init_21 : decode cX0_init 21 = .ok (.bipush 60, 2) := by decide +kernel
theorem dX0_init_23 : decode cX0_init 23 = .ok (.newarray .int, 2) := by decide +kernel
theorem dX0_init_25 : decode cX0_init 25 = .ok (.putfield 18, 3) := by decide +kernel
theorem dX0_init_28 : decode cX0_init 28 = .ok (.aload_n 0, 1) := by decide +kernel
theorem dX0_init_29 : decode cX0_init 29 = .ok (.bipush 60, 2) := by decide +kernel
theorem dX0_init_31 : decode cX0_init 31 = .ok (.newarray .int, 2) := by decide +kernel
theorem dX0_init_33 : decode cX0_init 33 = .ok (.putfield 21, 3) := by decide +kernel
theorem dX0_init_36 : decode cX0_init 36 = .ok (.aload_n 0, 1) := by decide +kernel
theorem dX0_init_37 : decode cX0_init 37 = .ok (.bipush 60, 2) := by decide +kernel
theorem dX0_init_39 : decode cX0_init 39 = .ok (.newarray .int, 2) := by decide +kernel
theorem dX0_init_41 : decode cX0_init 41 = .ok (.putfield 24, 3) := by decide +kernel
theorem dX0_init_44 : decode cX0_init 44 = .ok (.return_, 1) := by decide +kernel
theorem dX2_init_0 : decode cX2_init 0 = .ok (.aload_n 0, 1) := by decide +kernel
theorem dX2_init_1 : decode cX2_init 1 = .ok (.invokespecial 3, 3) := by decide +kernel
theorem dX2_init_4 : decode cX2_init 4 = .ok (.aload_n 0, 1) := by decide +kernel
theorem dX2_init_5 : decode cX2_init 5 = .ok (.bipush 60, 2) := by decide +kernel
theorem dX2_init_7 : decode cX2_init 7 = .ok (.newarray .int, 2) := by decide +kernel
theorem dX2_init_9 : decode cX2_init 9 = .ok (.putfield 9, 3) := by decide +kernel
theorem dX2_init_12 : decode cX2_init 12 = .ok (.aload_n 0, 1) := by decide +kernel
theorem dX2_init_13 : decode cX2_init 13 = .ok (.bipush 60, 2) := by decide +kernel
theorem dX2_init_15 : decode cX2_init 15 = .ok (.newarray .int, 2) := by decide +kernel
theorem dX2_init_17 : decode cX2_init 17 = .ok (.putfield 15, 3) := by decide +kernel
theorem dX2_init_20 : decode cX2_init 20 = .ok (.aload_n 0, 1) := by decide +kernel
theorem dX2_init_21 : decode cX2_init 21 = .ok (.iload_n 1, 1) := by decide +kernel
theorem dX2_init_22 : decode cX2_init 22 = .ok (.putfield 18, 3) := by decide +kernel
theorem dX2_init_25 : decode cX2_init 25 = .ok (.aload_n 0, 1) := by decide +kernel
theorem dX2_init_26 : decode cX2_init 26 = .ok (.iload_n 2, 1) := by decide +kernel
theorem dX2_init_27 : decode cX2_init 27 = .ok (.putfield 22, 3) := by decide +kernel
theorem dX2_init_30 : decode cX2_init 30 = .ok (.aload_n 0, 1) := by decide +kernel
theorem dX2_init_31 : decode cX2_init 31 = .ok (.iload_n 1, 1) := by decide +kernel
theorem dX2_init_32 : decode cX2_init 32 = .ok (.iload_n 2, 1) := by decide +kernel
theorem dX2_init_33 : decode cX2_init 33 = .ok (.multianewarray 25 2, 4) := by decide +kernel
theorem dX2_init_37 : decode cX2_init 37 = .ok (.putfield 27, 3) := by decide +kernel
theorem dX2_init_40 : decode cX2_init 40 = .ok (.aload_n 0, 1) := by decide +kernel
theorem dX2_init_41 : decode cX2_init 41 = .ok (.iload_n 1, 1) := by decide +kernel
theorem dX2_init_42 : decode cX2_init 42 = .ok (.newarray .int, 2) := by decide +kernel
theorem dX2_init_44 : decode cX2_init 44 = .ok (.putfield 30, 3) := by decide +kernel
theorem dX2_init_47 : decode cX2_init 47 = .ok (.iconst 0, 1) := by decide +kernel
theorem dX2_init_48 : decode cX2_init 48 = .ok (.istore_n 3, 1) := by decide +kernel
theorem dX2_init_49 : decode cX2_init 49 = .ok (.iload_n 3, 1) := by decide +kernel
theorem dX2_init_50 : decode cX2_init 50 = .ok (.iload_n 1, 1) := by decide +kernel
theorem dX2_init_51 : decode cX2_init 51 = .ok (.if_icmp .ge 19, 3) := by decide +kernel
theorem dX2_init_54 : decode cX2_init 54 = .ok (.aload_n 0, 1) := by decide +kernel
theorem dX2_init_55 : decode cX2_init 55 = .ok (.getfield 27, 3) := by decide +kernel
theorem dX2_init_58 : decode cX2_init 58 = .ok (.iload_n 3, 1) := by decide +kernel
theorem dX2_init_59 : decode cX2_init 59 = .ok (.aaload, 1) := by decide +kernel
theorem dX2_init_60 : decode cX2_init 60 = .ok (.iconst (-1), 1) := by decide +kernel
theorem dX2_init_61 : decode cX2_init 61 = .ok (.invokestatic 33, 3) := by decide +kernel
theorem dX2_init_64 : decode cX2_init 64 = .ok (.iinc 3 1, 3) := by decide +kernel
theorem dX2_init_67 : decode cX2_init 67 = .ok (.goto (-18), 3) := by decide +kernel
theorem dX2_init_70 : decode cX2_init 70 = .ok (.aload_n 0, 1) := by decide +kernel
theorem dX2_init_71 : decode cX2_init 71 = .ok (.getfield 9, 3) := by decide +kernel
theorem dX2_init_74 : decode cX2_init 74 = .ok (.iconst (-1), 1) := by decide +kernel
theorem dX2_init_75 : decode cX2_init 75 = .ok (.invokestatic 33, 3) := by decide +kernel
theorem dX2_init_78 : decode cX2_init 78 = .ok (.aload_n 0, 1) := by decide +kernel
theorem dX2_init_79 : decode cX2_init 79 = .ok (.getfield 15, 3) := by decide +kernel
theorem dX2_init_82 : decode cX2_init 82 = .ok (.iconst (-1), 1) := by decide +kernel
theorem dX2_init_83 : decode cX2_init 83 = .ok (.invokestatic 33, 3) := by decide +kernel
theorem dX2_init_86 : decode cX2_init 86 = .ok (.return_, 1) := by decide +kernel
theorem dJ7_fill_0 : decode cJ7_fill 0 = .ok (.iconst 0, 1) := by decide +kernel
theorem dJ7_fill_1 : decode cJ7_fill 1 = .ok (.istore_n 2, 1) := by decide +kernel
theorem dJ7_fill_2 : decode cJ7_fill 2 = .ok (.aload_n 0, 1) := by decide +kernel
theorem dJ7_fill_3 : decode cJ7_fill 3 = .ok (.arraylength, 1) := by decide +kernel
theorem dJ7_fill_4 : decode cJ7_fill 4 = .ok (.istore_n 3, 1) := by decide +kernel
theorem dJ7_fill_5 : decode cJ7_fill 5 = .ok (.iload_n 2, 1) := by decide +kernel
theorem dJ7_fill_6 : decode cJ7_fill 6 = .ok (.iload_n 3, 1) := by decide +kernel
theorem dJ7_fill_7 : decode cJ7_fill 7 = .ok (.if_icmp .ge 13, 3) := by decide +kernel
theorem dJ7_fill_10 : decode cJ7_fill 10 = .ok (.aload_n 0, 1) := by decide +kernel
theorem dJ7_fill_11 : decode cJ7_fill 11 = .ok (.iload_n 2, 1) := by decide +kernel
theorem dJ7_fill_12 : decode cJ7_fill 12 = .ok (.iload_n 1, 1) := by decide +kernel
theorem dJ7_fill_13 : decode cJ7_fill 13 = .ok (.iastore, 1) := by decide +kernel
theorem dJ7_fill_14 : decode cJ7_fill 14 = .ok (.iinc 2 1, 3) := by decide +kernel
theorem dJ7_fill_17 : decode cJ7_fill 17 = .ok (.goto (-12), 3) := by decide +kernel
theorem dJ7_fill_20 : decode cJ7_fill 20 = .ok (.return_, 1) := by decide +kernel
theorem dX1_init_0 : decode cX1_init 0 = .ok (.aload_n 0, 1) := by decide +kernel
theorem dX1_init_1 : decode cX1_init 1 = .ok (.invokespecial 3, 3) := by decide +kernel
theorem dX1_init_4 : decode cX1_init 4 = .ok (.aload_n 0, 1) := by decide +kernel
theorem dX1_init_5 : decode cX1_init 5 = .ok (.bipush 100, 2) := by decide +kernel
theorem dX1_init_7 : decode cX1_init 7 = .ok (.newarray .int, 2) := by decide +kernel
theorem dX1_init_9 : decode cX1_init 9 = .ok (.putfield 9, 3) := by decide +kernel
theorem dX1_init_12 : decode cX1_init 12 = .ok (.aload_n 0, 1) := by decide +kernel
theorem dX1_init_13 : decode cX1_init 13 = .ok (.bipush 100, 2) := by decide +kernel
theorem dX1_init_15 : decode cX1_init 15 = .ok (.newarray .int, 2) := by decide +kernel
theorem dX1_init_17 : decode cX1_init 17 = .ok (.putfield 15, 3) := by decide +kernel
theorem dX1_init_20 : decode cX1_init 20 = .ok (.return_, 1) := by decide +kernel
theorem dX3_ground_0 : decode cX3_ground 0 = .ok (.aload_n 0, 1) := by decide +kernel
theorem dX3_ground_1 : decode cX3_ground 1 = .ok (.getfield 29, 3) := by decide +kernel
theorem dX3_ground_4 : decode cX3_ground 4 = .ok (.iload_n 1, 1) := by decide +kernel
theorem dX3_ground_5 : decode cX3_ground 5 = .ok (.invokevirtual 70, 3) := by decide +kernel
theorem dX3_ground_8 : decode cX3_ground 8 = .ok (.ifCond .eq 24, 3) := by decide +kernel
theorem dX3_ground_11 : decode cX3_ground 11 = .ok (.iload_n 2, 1) := by decide +kernel
theorem dX3_ground_12 : decode cX3_ground 12 = .ok (.iconst 0, 1) := by decide +kernel
theorem dX3_ground_13 : decode cX3_ground 13 = .ok (.iconst 2, 1) := by decide +kernel
theorem dX3_ground_14 : decode cX3_ground 14 = .ok (.invokestatic 47, 3) := by decide +kernel
theorem dX3_ground_17 : decode cX3_ground 17 = .ok (.ifCond .eq 15, 3) := by decide +kernel
theorem dX3_ground_20 : decode cX3_ground 20 = .ok (.aload_n 0, 1) := by decide +kernel
theorem dX3_ground_21 : decode cX3_ground 21 = .ok (.getfield 29, 3) := by decide +kernel
theorem dX3_ground_24 : decode cX3_ground 24 = .ok (.getfield 74, 3) := by decide +kernel
theorem dX3_ground_27 : decode cX3_ground 27 = .ok (.iload_n 1, 1) := by decide +kernel
theorem dX3_ground_28 : decode cX3_ground 28 = .ok (.iaload, 1) := by decide +kernel
theorem dX3_ground_29 : decode cX3_ground 29 = .ok (.ifCond .le 5, 3) := by decide +kernel
theorem dX3_ground_32 : decode cX3_ground 32 = .ok (.iconst 0, 1) := by decide +kernel
theorem dX3_ground_33 : decode cX3_ground 33 = .ok (.ireturn, 1) := by decide +kernel
theorem dX3_ground_34 : decode cX3_ground 34 = .ok (.aload_n 0, 1) := by decide +kernel
theorem dX3_ground_35 : decode cX3_ground 35 = .ok (.getfield 40, 3) := by decide +kernel
theorem dX3_ground_38 : decode cX3_ground 38 = .ok (.iload_n 1, 1) := by decide +kernel
theorem dX3_ground_39 : decode cX3_ground 39 = .ok (.iload_n 2, 1) := by decide +kernel
theorem dX3_ground_40 : decode cX3_ground 40 = .ok (.iastore, 1) := by decide +kernel
theorem dX3_ground_41 : decode cX3_ground 41 = .ok (.iconst 1, 1) := by decide +kernel
theorem dX3_ground_42 : decode cX3_ground 42 = .ok (.ireturn, 1) := by decide +kernel
theorem dX2_hasRow_0 : decode cX2_hasRow 0 = .ok (.iload_n 1, 1) := by decide +kernel
theorem dX2_hasRow_1 : decode cX2_hasRow 1 = .ok (.ifCond .lt 15, 3) := by decide +kernel
theorem dX2_hasRow_4 : decode cX2_hasRow 4 = .ok (.iload_n 1, 1) := by decide +kernel
theorem dX2_hasRow_5 : decode cX2_hasRow 5 = .ok (.aload_n 0, 1) := by decide +kernel
theorem dX2_hasRow_6 : decode cX2_hasRow 6 = .ok (.getfield 18, 3) := by decide +kernel
theorem dX2_hasRow_9 : decode cX2_hasRow 9 = .ok (.if_icmp .ge 7, 3) := by decide +kernel
theorem dX2_hasRow_12 : decode cX2_hasRow 12 = .ok (.iconst 1, 1) := by decide +kernel
theorem dX2_hasRow_13 : decode cX2_hasRow 13 = .ok (.goto 4, 3) := by decide +kernel
theorem dX2_hasRow_16 : decode cX2_hasRow 16 = .ok (.iconst 0, 1) := by decide +kernel
theorem dX2_hasRow_17 : decode cX2_hasRow 17 = .ok (.ireturn, 1) := by decide +kernel
theorem dX3_isWithin_0 : decode cX3_isWithin 0 = .ok (.iload_n 0, 1) := by decide +kernel
theorem dX3_isWithin_1 : decode cX3_isWithin 1 = .ok (.iload_n 1, 1) := by decide +kernel
theorem dX3_isWithin_2 : decode cX3_isWithin 2 = .ok (.if_icmp .lt 12, 3) := by decide +kernel
theorem dX3_isWithin_5 : decode cX3_isWithin 5 = .ok (.iload_n 0, 1) := by decide +kernel
theorem dX3_isWithin_6 : decode cX3_isWithin 6 = .ok (.iload_n 2, 1) := by decide +kernel
theorem dX3_isWithin_7 : decode cX3_isWithin 7 = .ok (.if_icmp .gt 7, 3) := by decide +kernel
theorem dX3_isWithin_10 : decode cX3_isWithin 10 = .ok (.iconst 1, 1) := by decide +kernel
theorem dX3_isWithin_11 : decode cX3_isWithin 11 = .ok (.goto 4, 3) := by decide +kernel
theorem dX3_isWithin_14 : decode cX3_isWithin 14 = .ok (.iconst 0, 1) := by decide +kernel
theorem dX3_isWithin_15 : decode cX3_isWithin 15 = .ok (.ireturn, 1) := by decide +kernel
theorem dX3_reserve_0 : decode cX3_reserve 0 = .ok (.aload_n 0, 1) := by decide +kernel
theorem dX3_reserve_1 : decode cX3_reserve 1 = .ok (.getfield 29, 3) := by decide +kernel
theorem dX3_reserve_4 : decode cX3_reserve 4 = .ok (.iload_n 1, 1) := by decide +kernel
theorem dX3_reserve_5 : decode cX3_reserve 5 = .ok (.invokevirtual 70, 3) := by decide +kernel
theorem dX3_reserve_8 : decode cX3_reserve 8 = .ok (.ifCond .eq 13, 3) := by decide +kernel
theorem dX3_reserve_11 : decode cX3_reserve 11 = .ok (.iload_n 2, 1) := by decide +kernel
theorem dX3_reserve_12 : decode cX3_reserve 12 = .ok (.iconst 0, 1) := by decide +kernel
theorem dX3_reserve_13 : decode cX3_reserve 13 = .ok (.bipush 9, 2) := by decide +kernel
theorem dX3_reserve_15 : decode cX3_reserve 15 = .ok (.invokestatic 47, 3) := by decide +kernel
theorem dX3_reserve_18 : decode cX3_reserve 18 = .ok (.ifCond .ne 5, 3) := by decide +kernel
theorem dX3_reserve_21 : decode cX3_reserve 21 = .ok (.iconst 0, 1) := by decide +kernel
theorem dX3_reserve_22 : decode cX3_reserve 22 = .ok (.ireturn, 1) := by decide +kernel
theorem dX3_reserve_23 : decode cX3_reserve 23 = .ok (.iload_n 2, 1) := by decide +kernel
theorem dX3_reserve_24 : decode cX3_reserve 24 = .ok (.ifCond .eq 14, 3) := by decide +kernel
theorem dX3_reserve_27 : decode cX3_reserve 27 = .ok (.aload_n 0, 1) := by decide +kernel
theorem dX3_reserve_28 : decode cX3_reserve 28 = .ok (.iload_n 1, 1) := by decide +kernel
theorem dX3_reserve_29 : decode cX3_reserve 29 = .ok (.iload_n 2, 1) := by decide +kernel
theorem dX3_reserve_30 : decode cX3_reserve 30 = .ok (.invokevirtual 77, 3) := by decide +kernel
theorem dX3_reserve_33 : decode cX3_reserve 33 = .ok (.ifCond .eq 5, 3) := by decide +kernel
theorem dX3_reserve_36 : decode cX3_reserve 36 = .ok (.iconst 0, 1) := by decide +kernel
theorem dX3_reserve_37 : decode cX3_reserve 37 = .ok (.ireturn, 1) := by decide +kernel
theorem dX3_reserve_38 : decode cX3_reserve 38 = .ok (.aload_n 0, 1) := by decide +kernel
theorem dX3_reserve_39 : decode cX3_reserve 39 = .ok (.getfield 44, 3) := by decide +kernel
theorem dX3_reserve_42 : decode cX3_reserve 42 = .ok (.iload_n 1, 1) := by decide +kernel
theorem dX3_reserve_43 : decode cX3_reserve 43 = .ok (.iload_n 2, 1) := by decide +kernel
theorem dX3_reserve_44 : decode cX3_reserve 44 = .ok (.iastore, 1) := by decide +kernel
theorem dX3_reserve_45 : decode cX3_reserve 45 = .ok (.iconst 1, 1) := by decide +kernel
theorem dX3_reserve_46 : decode cX3_reserve 46 = .ok (.ireturn, 1) := by decide +kernel
theorem dX3_hasBoxOfAnotherShip_0 : decode cX3_hasBoxOfAnotherShip 0 = .ok (.iconst 0, 1) := by decide +kernel
theorem dX3_hasBoxOfAnotherShip_1 : decode cX3_hasBoxOfAnotherShip 1 = .ok (.istore_n 3, 1) := by decide +kernel
theorem dX3_hasBoxOfAnotherShip_2 : decode cX3_hasBoxOfAnotherShip 2 = .ok (.iload_n 3, 1) := by decide +kernel
theorem dX3_hasBoxOfAnotherShip_3 : decode cX3_hasBoxOfAnotherShip 3 = .ok (.aload_n 0, 1) := by decide +kernel
theorem dX3_hasBoxOfAnotherShip_4 : decode cX3_hasBoxOfAnotherShip 4 = .ok (.getfield 29, 3) := by decide +kernel
theorem dX3_hasBoxOfAnotherShip_7 : decode cX3_hasBoxOfAnotherShip 7 = .ok (.getfield 74, 3) := by decide +kernel
theorem dX3_hasBoxOfAnotherShip_10 : decode cX3_hasBoxOfAnotherShip 10 = .ok (.iload_n 1, 1) := by decide +kernel
theorem dX3_hasBoxOfAnotherShip_11 : decode cX3_hasBoxOfAnotherShip 11 = .ok (.iaload, 1) := by decide +kernel
theorem dX3_hasBoxOfAnotherShip_12 : decode cX3_hasBoxOfAnotherShip 12 = .ok (.if_icmp .ge 34, 3) := by decide +kernel
theorem dX3_hasBoxOfAnotherShip_15 : decode cX3_hasBoxOfAnotherShip 15 = .ok (.aload_n 0, 1) := by decide +kernel
theorem dX3_hasBoxOfAnotherShip_16 : decode cX3_hasBoxOfAnotherShip 16 = .ok (.getfield 20, 3) := by decide +kernel
theorem dX3_hasBoxOfAnotherShip_19 : decode cX3_hasBoxOfAnotherShip 19 = .ok (.getfield 155, 3) := by decide +kernel
theorem dX3_hasBoxOfAnotherShip_22 : decode cX3_hasBoxOfAnotherShip 22 = .ok (.aload_n 0, 1) := by decide +kernel
theorem dX3_hasBoxOfAnotherShip_23 : decode cX3_hasBoxOfAnotherShip 23 = .ok (.getfield 29, 3) := by decide +kernel
theorem dX3_hasBoxOfAnotherShip_26 : decode cX3_hasBoxOfAnotherShip 26 = .ok (.getfield 171, 3) := by decide +kernel
theorem dX3_hasBoxOfAnotherShip_29 : decode cX3_hasBoxOfAnotherShip 29 = .ok (.iload_n 1, 1) := by decide +kernel
theorem dX3_hasBoxOfAnotherShip_30 : decode cX3_hasBoxOfAnotherShip 30 = .ok (.aaload, 1) := by decide +kernel
theorem dX3_hasBoxOfAnotherShip_31 : decode cX3_hasBoxOfAnotherShip 31 = .ok (.iload_n 3, 1) := by decide +kernel
theorem dX3_hasBoxOfAnotherShip_32 : decode cX3_hasBoxOfAnotherShip 32 = .ok (.iaload, 1) := by decide +kernel
theorem dX3_hasBoxOfAnotherShip_33 : decode cX3_hasBoxOfAnotherShip 33 = .ok (.iaload, 1) := by decide +kernel
theorem dX3_hasBoxOfAnotherShip_34 : decode cX3_hasBoxOfAnotherShip 34 = .ok (.iload_n 2, 1) := by decide +kernel
theorem dX3_hasBoxOfAnotherShip_35 : decode cX3_hasBoxOfAnotherShip 35 = .ok (.if_icmp .eq 5, 3) := by decide +kernel
theorem dX3_hasBoxOfAnotherShip_38 : decode cX3_hasBoxOfAnotherShip 38 = .ok (.iconst 1, 1) := by decide +kernel
theorem dX3_hasBoxOfAnotherShip_39 : decode cX3_hasBoxOfAnotherShip 39 = .ok (.ireturn, 1) := by decide +kernel
theorem dX3_hasBoxOfAnotherShip_40 : decode cX3_hasBoxOfAnotherShip 40 = .ok (.iinc 3 1, 3) := by decide +kernel
theorem dX3_hasBoxOfAnotherShip_43 : decode cX3_hasBoxOfAnotherShip 43 = .ok (.goto (-41), 3) := by decide +kernel
theorem dX3_hasBoxOfAnotherShip_46 : decode cX3_hasBoxOfAnotherShip 46 = .ok (.iconst 0, 1) := by decide +kernel
theorem dX3_hasBoxOfAnotherShip_47 : decode cX3_hasBoxOfAnotherShip 47 = .ok (.ireturn, 1) := by decide +kernel
theorem dX3_undo_0 : decode cX3_undo 0 = .ok (.aload_n 0, 1) := by decide +kernel
theorem dX3_undo_1 : decode cX3_undo 1 = .ok (.getfield 36, 3) := by decide +kernel
theorem dX3_undo_4 : decode cX3_undo 4 = .ok (.getfield 118, 3) := by decide +kernel
theorem dX3_undo_7 : decode cX3_undo 7 = .ok (.ifCond .ne 5, 3) := by decide +kernel
theorem dX3_undo_10 : decode cX3_undo 10 = .ok (.iconst (-1), 1) := by decide +kernel
theorem dX3_undo_11 : decode cX3_undo 11 = .ok (.ireturn, 1) := by decide +kernel
theorem dX3_undo_12 : decode cX3_undo 12 = .ok (.aload_n 0, 1) := by decide +kernel
theorem dX3_undo_13 : decode cX3_undo 13 = .ok (.getfield 36, 3) := by decide +kernel
theorem dX3_undo_16 : decode cX3_undo 16 = .ok (.invokevirtual 121, 3) := by decide +kernel
theorem dX3_undo_19 : decode cX3_undo 19 = .ok (.istore_n 1, 1) := by decide +kernel
theorem dX3_undo_20 : decode cX3_undo 20 = .ok (.aload_n 0, 1) := by decide +kernel
theorem dX3_undo_21 : decode cX3_undo 21 = .ok (.getfield 36, 3) := by decide +kernel
theorem dX3_undo_24 : decode cX3_undo 24 = .ok (.getfield 125, 3) := by decide +kernel
theorem dX3_undo_27 : decode cX3_undo 27 = .ok (.iload_n 1, 1) := by decide +kernel
theorem dX3_undo_28 : decode cX3_undo 28 = .ok (.iaload, 1) := by decide +kernel
theorem dX3_undo_29 : decode cX3_undo 29 = .ok (.istore_n 2, 1) := by decide +kernel
theorem dX3_undo_30 : decode cX3_undo 30 = .ok (.aload_n 0, 1) := by decide +kernel
theorem dX3_undo_31 : decode cX3_undo 31 = .ok (.getfield 29, 3) := by decide +kernel
theorem dX3_undo_34 : decode cX3_undo 34 = .ok (.iload_n 2, 1) := by decide +kernel
theorem dX3_undo_35 : decode cX3_undo 35 = .ok (.aload_n 0, 1) := by decide +kernel
theorem dX3_undo_36 : decode cX3_undo 36 = .ok (.getfield 36, 3) := by decide +kernel
theorem dX3_undo_39 : decode cX3_undo 39 = .ok (.getfield 127, 3) := by decide +kernel
theorem dX3_undo_42 : decode cX3_undo 42 = .ok (.iload_n 1, 1) := by decide +kernel
theorem dX3_undo_43 : decode cX3_undo 43 = .ok (.iaload, 1) := by decide +kernel
theorem dX3_undo_44 : decode cX3_undo 44 = .ok (.invokevirtual 130, 3) := by decide +kernel
theorem dX3_undo_47 : decode cX3_undo 47 = .ok (.iload_n 2, 1) := by decide +kernel
theorem dX3_undo_48 : decode cX3_undo 48 = .ok (.ireturn, 1) := by decide +kernel
theorem dX1_dropLatest_0 : decode cX1_dropLatest 0 = .ok (.aload_n 0, 1) := by decide +kernel
theorem dX1_dropLatest_1 : decode cX1_dropLatest 1 = .ok (.dup, 1) := by decide +kernel
theorem dX1_dropLatest_2 : decode cX1_dropLatest 2 = .ok (.getfield 18, 3) := by decide +kernel
theorem dX1_dropLatest_5 : decode cX1_dropLatest 5 = .ok (.iconst 1, 1) := by decide +kernel
theorem dX1_dropLatest_6 : decode cX1_dropLatest 6 = .ok (.isub, 1) := by decide +kernel
theorem dX1_dropLatest_7 : decode cX1_dropLatest 7 = .ok (.putfield 18, 3) := by decide +kernel
theorem dX1_dropLatest_10 : decode cX1_dropLatest 10 = .ok (.aload_n 0, 1) := by decide +kernel
theorem dX1_dropLatest_11 : decode cX1_dropLatest 11 = .ok (.dup, 1) := by decide +kernel
theorem dX1_dropLatest_12 : decode cX1_dropLatest 12 = .ok (.getfield 22, 3) := by decide +kernel
theorem dX1_dropLatest_15 : decode cX1_dropLatest 15 = .ok (.iconst 1, 1) := by decide +kernel
theorem dX1_dropLatest_16 : decode cX1_dropLatest 16 = .ok (.isub, 1) := by decide +kernel
theorem dX1_dropLatest_17 : decode cX1_dropLatest 17 = .ok (.putfield 22, 3) := by decide +kernel
theorem dX1_dropLatest_20 : decode cX1_dropLatest 20 = .ok (.aload_n 0, 1) := by decide +kernel
theorem dX1_dropLatest_21 : decode cX1_dropLatest 21 = .ok (.getfield 18, 3) := by decide +kernel
theorem dX1_dropLatest_24 : decode cX1_dropLatest 24 = .ok (.bipush 100, 2) := by decide +kernel
theorem dX1_dropLatest_26 : decode cX1_dropLatest 26 = .ok (.irem, 1) := by decide +kernel
theorem dX1_dropLatest_27 : decode cX1_dropLatest 27 = .ok (.ireturn, 1) := by decide +kernel
theorem dX2_bring_0 : decode cX2_bring 0 = .ok (.aload_n 0, 1) := by decide +kernel
theorem dX2_bring_1 : decode cX2_bring 1 = .ok (.iload_n 1, 1) := by decide +kernel
theorem dX2_bring_2 : decode cX2_bring 2 = .ok (.invokevirtual 39, 3) := by decide +kernel
theorem dX2_bring_5 : decode cX2_bring 5 = .ok (.ifCond .eq 8, 3) := by decide +kernel
theorem dX2_bring_8 : decode cX2_bring 8 = .ok (.aload_n 0, 1) := by decide +kernel
theorem dX2_bring_9 : decode cX2_bring 9 = .ok (.iload_n 1, 1) := by decide +kernel
theorem dX2_bring_10 : decode cX2_bring 10 = .ok (.invokevirtual 47, 3) := by decide +kernel
theorem dX2_bring_13 : decode cX2_bring 13 = .ok (.iload_n 2, 1) := by decide +kernel
theorem dX2_bring_14 : decode cX2_bring 14 = .ok (.iconst (-1), 1) := by decide +kernel
theorem dX2_bring_15 : decode cX2_bring 15 = .ok (.if_icmp .eq 9, 3) := by decide +kernel
theorem dX2_bring_18 : decode cX2_bring 18 = .ok (.aload_n 0, 1) := by decide +kernel
theorem dX2_bring_19 : decode cX2_bring 19 = .ok (.iload_n 1, 1) := by decide +kernel
theorem dX2_bring_20 : decode cX2_bring 20 = .ok (.iload_n 2, 1) := by decide +kernel
theorem dX2_bring_21 : decode cX2_bring 21 = .ok (.invokevirtual 51, 3) := by decide +kernel
theorem dX2_bring_24 : decode cX2_bring 24 = .ok (.return_, 1) := by decide +kernel
theorem dX2_stands_0 : decode cX2_stands 0 = .ok (.aload_n 0, 1) := by decide +kernel
theorem dX2_stands_1 : decode cX2_stands 1 = .ok (.getfield 9, 3) := by decide +kernel
theorem dX2_stands_4 : decode cX2_stands 4 = .ok (.iload_n 1, 1) := by decide +kernel
theorem dX2_stands_5 : decode cX2_stands 5 = .ok (.iaload, 1) := by decide +kernel
theorem dX2_stands_6 : decode cX2_stands 6 = .ok (.iconst (-1), 1) := by decide +kernel
theorem dX2_stands_7 : decode cX2_stands 7 = .ok (.if_icmp .eq 7, 3) := by decide +kernel
theorem dX2_stands_10 : decode cX2_stands 10 = .ok (.iconst 1, 1) := by decide +kernel
theorem dX2_stands_11 : decode cX2_stands 11 = .ok (.goto 4, 3) := by decide +kernel
theorem dX2_stands_14 : decode cX2_stands 14 = .ok (.iconst 0, 1) := by decide +kernel
theorem dX2_stands_15 : decode cX2_stands 15 = .ok (.ireturn, 1) := by decide +kernel
theorem dX2_lift_0 : decode cX2_lift 0 = .ok (.aload_n 0, 1) := by decide +kernel
theorem dX2_lift_1 : decode cX2_lift 1 = .ok (.getfield 9, 3) := by decide +kernel
theorem dX2_lift_4 : decode cX2_lift 4 = .ok (.iload_n 1, 1) := by decide +kernel
theorem dX2_lift_5 : decode cX2_lift 5 = .ok (.iaload, 1) := by decide +kernel
theorem dX2_lift_6 : decode cX2_lift 6 = .ok (.istore_n 2, 1) := by decide +kernel
theorem dX2_lift_7 : decode cX2_lift 7 = .ok (.aload_n 0, 1) := by decide +kernel
theorem dX2_lift_8 : decode cX2_lift 8 = .ok (.getfield 30, 3) := by decide +kernel
theorem dX2_lift_11 : decode cX2_lift 11 = .ok (.iload_n 2, 1) := by decide +kernel
theorem dX2_lift_12 : decode cX2_lift 12 = .ok (.dup2, 1) := by decide +kernel
theorem dX2_lift_13 : decode cX2_lift 13 = .ok (.iaload, 1) := by decide +kernel
theorem dX2_lift_14 : decode cX2_lift 14 = .ok (.iconst 1, 1) := by decide +kernel
theorem dX2_lift_15 : decode cX2_lift 15 = .ok (.isub, 1) := by decide +kernel
theorem dX2_lift_16 : decode cX2_lift 16 = .ok (.iastore, 1) := by decide +kernel
theorem dX2_lift_17 : decode cX2_lift 17 = .ok (.aload_n 0, 1) := by decide +kernel
theorem dX2_lift_18 : decode cX2_lift 18 = .ok (.getfield 27, 3) := by decide +kernel
theorem dX2_lift_21 : decode cX2_lift 21 = .ok (.iload_n 2, 1) := by decide +kernel
theorem dX2_lift_22 : decode cX2_lift 22 = .ok (.aaload, 1) := by decide +kernel
theorem dX2_lift_23 : decode cX2_lift 23 = .ok (.aload_n 0, 1) := by decide +kernel
theorem dX2_lift_24 : decode cX2_lift 24 = .ok (.getfield 30, 3) := by decide +kernel
theorem dX2_lift_27 : decode cX2_lift 27 = .ok (.iload_n 2, 1) := by decide +kernel
theorem dX2_lift_28 : decode cX2_lift 28 = .ok (.iaload, 1) := by decide +kernel
theorem dX2_lift_29 : decode cX2_lift 29 = .ok (.iconst (-1), 1) := by decide +kernel
theorem dX2_lift_30 : decode cX2_lift 30 = .ok (.iastore, 1) := by decide +kernel
theorem dX2_lift_31 : decode cX2_lift 31 = .ok (.aload_n 0, 1) := by decide +kernel
theorem dX2_lift_32 : decode cX2_lift 32 = .ok (.getfield 9, 3) := by decide +kernel
theorem dX2_lift_35 : decode cX2_lift 35 = .ok (.iload_n 1, 1) := by decide +kernel
theorem dX2_lift_36 : decode cX2_lift 36 = .ok (.iconst (-1), 1) := by decide +kernel
theorem dX2_lift_37 : decode cX2_lift 37 = .ok (.iastore, 1) := by decide +kernel
theorem dX2_lift_38 : decode cX2_lift 38 = .ok (.aload_n 0, 1) := by decide +kernel
theorem dX2_lift_39 : decode cX2_lift 39 = .ok (.getfield 15, 3) := by decide +kernel
theorem dX2_lift_42 : decode cX2_lift 42 = .ok (.iload_n 1, 1) := by decide +kernel
theorem dX2_lift_43 : decode cX2_lift 43 = .ok (.iconst (-1), 1) := by decide +kernel
theorem dX2_lift_44 : decode cX2_lift 44 = .ok (.iastore, 1) := by decide +kernel
theorem dX2_lift_45 : decode cX2_lift 45 = .ok (.return_, 1) := by decide +kernel
theorem dX2_lay_0 : decode cX2_lay 0 = .ok (.aload_n 0, 1) := by decide +kernel
theorem dX2_lay_1 : decode cX2_lay 1 = .ok (.getfield 30, 3) := by decide +kernel
theorem dX2_lay_4 : decode cX2_lay 4 = .ok (.iload_n 2, 1) := by decide +kernel
theorem dX2_lay_5 : decode cX2_lay 5 = .ok (.iaload, 1) := by decide +kernel
theorem dX2_lay_6 : decode cX2_lay 6 = .ok (.istore_n 3, 1) := by decide +kernel
theorem dX2_lay_7 : decode cX2_lay 7 = .ok (.aload_n 0, 1) := by decide +kernel
theorem dX2_lay_8 : decode cX2_lay 8 = .ok (.getfield 27, 3) := by decide +kernel
theorem dX2_lay_11 : decode cX2_lay 11 = .ok (.iload_n 2, 1) := by decide +kernel
theorem dX2_lay_12 : decode cX2_lay 12 = .ok (.aaload, 1) := by decide +kernel
theorem dX2_lay_13 : decode cX2_lay 13 = .ok (.iload_n 3, 1) := by decide +kernel
theorem dX2_lay_14 : decode cX2_lay 14 = .ok (.iload_n 1, 1) := by decide +kernel
theorem dX2_lay_15 : decode cX2_lay 15 = .ok (.iastore, 1) := by decide +kernel
theorem dX2_lay_16 : decode cX2_lay 16 = .ok (.aload_n 0, 1) := by decide +kernel
theorem dX2_lay_17 : decode cX2_lay 17 = .ok (.getfield 9, 3) := by decide +kernel
theorem dX2_lay_20 : decode cX2_lay 20 = .ok (.iload_n 1, 1) := by decide +kernel
theorem dX2_lay_21 : decode cX2_lay 21 = .ok (.iload_n 2, 1) := by decide +kernel
theorem dX2_lay_22 : decode cX2_lay 22 = .ok (.iastore, 1) := by decide +kernel
theorem dX2_lay_23 : decode cX2_lay 23 = .ok (.aload_n 0, 1) := by decide +kernel
theorem dX2_lay_24 : decode cX2_lay 24 = .ok (.getfield 15, 3) := by decide +kernel
theorem dX2_lay_27 : decode cX2_lay 27 = .ok (.iload_n 1, 1) := by decide +kernel
theorem dX2_lay_28 : decode cX2_lay 28 = .ok (.iload_n 3, 1) := by decide +kernel
theorem dX2_lay_29 : decode cX2_lay 29 = .ok (.iastore, 1) := by decide +kernel
theorem dX2_lay_30 : decode cX2_lay 30 = .ok (.aload_n 0, 1) := by decide +kernel
theorem dX2_lay_31 : decode cX2_lay 31 = .ok (.getfield 30, 3) := by decide +kernel
theorem dX2_lay_34 : decode cX2_lay 34 = .ok (.iload_n 2, 1) := by decide +kernel
theorem dX2_lay_35 : decode cX2_lay 35 = .ok (.dup2, 1) := by decide +kernel
theorem dX2_lay_36 : decode cX2_lay 36 = .ok (.iaload, 1) := by decide +kernel
theorem dX2_lay_37 : decode cX2_lay 37 = .ok (.iconst 1, 1) := by decide +kernel
theorem dX2_lay_38 : decode cX2_lay 38 = .ok (.iadd, 1) := by decide +kernel
theorem dX2_lay_39 : decode cX2_lay 39 = .ok (.iastore, 1) := by decide +kernel
theorem dX2_lay_40 : decode cX2_lay 40 = .ok (.return_, 1) := by decide +kernel
theorem dX3_count_0 : decode cX3_count 0 = .ok (.iload_n 1, 1) := by decide +kernel
theorem dX3_count_1 : decode cX3_count 1 = .ok (.tableswitch 102 0 7 #[47, 55, 63, 68, 76, 81, 89, 94], 47) := by decide +kernel
theorem dX3_count_48 : decode cX3_count 48 = .ok (.aload_n 0, 1) := by decide +kernel
theorem dX3_count_49 : decode cX3_count 49 = .ok (.getfield 29, 3) := by decide +kernel
theorem dX3_count_52 : decode cX3_count 52 = .ok (.getfield 175, 3) := by decide +kernel
theorem dX3_count_55 : decode cX3_count 55 = .ok (.ireturn, 1) := by decide +kernel
theorem dX3_count_56 : decode cX3_count 56 = .ok (.aload_n 0, 1) := by decide +kernel
theorem dX3_count_57 : decode cX3_count 57 = .ok (.getfield 29, 3) := by decide +kernel
theorem dX3_count_60 : decode cX3_count 60 = .ok (.getfield 166, 3) := by decide +kernel
theorem dX3_count_63 : decode cX3_count 63 = .ok (.ireturn, 1) := by decide +kernel
theorem dX3_count_64 : decode cX3_count 64 = .ok (.aload_n 0, 1) := by decide +kernel
theorem dX3_count_65 : decode cX3_count 65 = .ok (.getfield 13, 3) := by decide +kernel
theorem dX3_count_68 : decode cX3_count 68 = .ok (.ireturn, 1) := by decide +kernel
theorem dX3_count_69 : decode cX3_count 69 = .ok (.aload_n 0, 1) := by decide +kernel
theorem dX3_count_70 : decode cX3_count 70 = .ok (.getfield 20, 3) := by decide +kernel
theorem dX3_count_73 : decode cX3_count 73 = .ok (.getfield 58, 3) := by decide +kernel
theorem dX3_count_76 : decode cX3_count 76 = .ok (.ireturn, 1) := by decide +kernel
theorem dX3_count_77 : decode cX3_count 77 = .ok (.aload_n 0, 1) := by decide +kernel
theorem dX3_count_78 : decode cX3_count 78 = .ok (.invokevirtual 178, 3) := by decide +kernel
theorem dX3_count_81 : decode cX3_count 81 = .ok (.ireturn, 1) := by decide +kernel
theorem dX3_count_82 : decode cX3_count 82 = .ok (.aload_n 0, 1) := by decide +kernel
theorem dX3_count_83 : decode cX3_count 83 = .ok (.getfield 36, 3) := by decide +kernel
theorem dX3_count_86 : decode cX3_count 86 = .ok (.getfield 181, 3) := by decide +kernel
theorem dX3_count_89 : decode cX3_count 89 = .ok (.ireturn, 1) := by decide +kernel
theorem dX3_count_90 : decode cX3_count 90 = .ok (.aload_n 0, 1) := by decide +kernel
theorem dX3_count_91 : decode cX3_count 91 = .ok (.invokevirtual 184, 3) := by decide +kernel
theorem dX3_count_94 : decode cX3_count 94 = .ok (.ireturn, 1) := by decide +kernel
theorem dX3_count_95 : decode cX3_count 95 = .ok (.aload_n 0, 1) := by decide +kernel
theorem dX3_count_96 : decode cX3_count 96 = .ok (.getfield 36, 3) := by decide +kernel
theorem dX3_count_99 : decode cX3_count 99 = .ok (.getfield 118, 3) := by decide +kernel
theorem dX3_count_102 : decode cX3_count 102 = .ok (.ireturn, 1) := by decide +kernel
theorem dX3_count_103 : decode cX3_count 103 = .ok (.aload_n 0, 1) := by decide +kernel
theorem dX3_count_104 : decode cX3_count 104 = .ok (.iload_n 1, 1) := by decide +kernel
theorem dX3_count_105 : decode cX3_count 105 = .ok (.invokevirtual 187, 3) := by decide +kernel
theorem dX3_count_108 : decode cX3_count 108 = .ok (.ireturn, 1) := by decide +kernel
theorem dX3_standingBoxes_0 : decode cX3_standingBoxes 0 = .ok (.iconst 0, 1) := by decide +kernel
theorem dX3_standingBoxes_1 : decode cX3_standingBoxes 1 = .ok (.istore_n 1, 1) := by decide +kernel
theorem dX3_standingBoxes_2 : decode cX3_standingBoxes 2 = .ok (.iconst 0, 1) := by decide +kernel
theorem dX3_standingBoxes_3 : decode cX3_standingBoxes 3 = .ok (.istore_n 2, 1) := by decide +kernel
theorem dX3_standingBoxes_4 : decode cX3_standingBoxes 4 = .ok (.iload_n 2, 1) := by decide +kernel
theorem dX3_standingBoxes_5 : decode cX3_standingBoxes 5 = .ok (.aload_n 0, 1) := by decide +kernel
theorem dX3_standingBoxes_6 : decode cX3_standingBoxes 6 = .ok (.getfield 29, 3) := by decide +kernel
theorem dX3_standingBoxes_9 : decode cX3_standingBoxes 9 = .ok (.getfield 175, 3) := by decide +kernel
theorem dX3_standingBoxes_12 : decode cX3_standingBoxes 12 = .ok (.if_icmp .ge 21, 3) := by decide +kernel
theorem dX3_standingBoxes_15 : decode cX3_standingBoxes 15 = .ok (.iload_n 1, 1) := by decide +kernel
theorem dX3_standingBoxes_16 : decode cX3_standingBoxes 16 = .ok (.aload_n 0, 1) := by decide +kernel
theorem dX3_standingBoxes_17 : decode cX3_standingBoxes 17 = .ok (.getfield 29, 3) := by decide +kernel
theorem dX3_standingBoxes_20 : decode cX3_standingBoxes 20 = .ok (.getfield 74, 3) := by decide +kernel
theorem dX3_standingBoxes_23 : decode cX3_standingBoxes 23 = .ok (.iload_n 2, 1) := by decide +kernel
theorem dX3_standingBoxes_24 : decode cX3_standingBoxes 24 = .ok (.iaload, 1) := by decide +kernel
theorem dX3_standingBoxes_25 : decode cX3_standingBoxes 25 = .ok (.iadd, 1) := by decide +kernel
theorem dX3_standingBoxes_26 : decode cX3_standingBoxes 26 = .ok (.istore_n 1, 1) := by decide +kernel
theorem dX3_standingBoxes_27 : decode cX3_standingBoxes 27 = .ok (.iinc 2 1, 3) := by decide +kernel
theorem dX3_standingBoxes_30 : decode cX3_standingBoxes 30 = .ok (.goto (-26), 3) := by decide +kernel
theorem dX3_standingBoxes_33 : decode cX3_standingBoxes 33 = .ok (.iload_n 1, 1) := by decide +kernel
theorem dX3_standingBoxes_34 : decode cX3_standingBoxes 34 = .ok (.ireturn, 1) := by decide +kernel
theorem dX3_boxesInTheWay_0 : decode cX3_boxesInTheWay 0 = .ok (.iconst 0, 1) := by decide +kernel
theorem dX3_boxesInTheWay_1 : decode cX3_boxesInTheWay 1 = .ok (.istore_n 1, 1) := by decide +kernel
theorem dX3_boxesInTheWay_2 : decode cX3_boxesInTheWay 2 = .ok (.iconst 0, 1) := by decide +kernel
theorem dX3_boxesInTheWay_3 : decode cX3_boxesInTheWay 3 = .ok (.istore_n 2, 1) := by decide +kernel
theorem dX3_boxesInTheWay_4 : decode cX3_boxesInTheWay 4 = .ok (.iload_n 2, 1) := by decide +kernel
theorem dX3_boxesInTheWay_5 : decode cX3_boxesInTheWay 5 = .ok (.aload_n 0, 1) := by decide +kernel
theorem dX3_boxesInTheWay_6 : decode cX3_boxesInTheWay 6 = .ok (.getfield 20, 3) := by decide +kernel
theorem dX3_boxesInTheWay_9 : decode cX3_boxesInTheWay 9 = .ok (.getfield 58, 3) := by decide +kernel
theorem dX3_boxesInTheWay_12 : decode cX3_boxesInTheWay 12 = .ok (.if_icmp .ge 20, 3) := by decide +kernel
theorem dX3_boxesInTheWay_15 : decode cX3_boxesInTheWay 15 = .ok (.aload_n 0, 1) := by decide +kernel
theorem dX3_boxesInTheWay_16 : decode cX3_boxesInTheWay 16 = .ok (.iload_n 2, 1) := by decide +kernel
theorem dX3_boxesInTheWay_17 : decode cX3_boxesInTheWay 17 = .ok (.invokevirtual 143, 3) := by decide +kernel
theorem dX3_boxesInTheWay_20 : decode cX3_boxesInTheWay 20 = .ok (.ifCond .eq 6, 3) := by decide +kernel
theorem dX3_boxesInTheWay_23 : decode cX3_boxesInTheWay 23 = .ok (.iinc 1 1, 3) := by decide +kernel
theorem dX3_boxesInTheWay_26 : decode cX3_boxesInTheWay 26 = .ok (.iinc 2 1, 3) := by decide +kernel
theorem dX3_boxesInTheWay_29 : decode cX3_boxesInTheWay 29 = .ok (.goto (-25), 3) := by decide +kernel
theorem dX3_boxesInTheWay_32 : decode cX3_boxesInTheWay 32 = .ok (.iload_n 1, 1) := by decide +kernel
theorem dX3_boxesInTheWay_33 : decode cX3_boxesInTheWay 33 = .ok (.ireturn, 1) := by decide +kernel
theorem dX3_isInTheWay_0 : decode cX3_isInTheWay 0 = .ok (.aload_n 0, 1) := by decide +kernel
theorem dX3_isInTheWay_1 : decode cX3_isInTheWay 1 = .ok (.getfield 29, 3) := by decide +kernel
theorem dX3_isInTheWay_4 : decode cX3_isInTheWay 4 = .ok (.iload_n 1, 1) := by decide +kernel
theorem dX3_isInTheWay_5 : decode cX3_isInTheWay 5 = .ok (.invokevirtual 100, 3) := by decide +kernel
theorem dX3_isInTheWay_8 : decode cX3_isInTheWay 8 = .ok (.ifCond .eq 33, 3) := by decide +kernel
theorem dX3_isInTheWay_11 : decode cX3_isInTheWay 11 = .ok (.aload_n 0, 1) := by decide +kernel
theorem dX3_isInTheWay_12 : decode cX3_isInTheWay 12 = .ok (.iload_n 1, 1) := by decide +kernel
theorem dX3_isInTheWay_13 : decode cX3_isInTheWay 13 = .ok (.aload_n 0, 1) := by decide +kernel
theorem dX3_isInTheWay_14 : decode cX3_isInTheWay 14 = .ok (.getfield 29, 3) := by decide +kernel
theorem dX3_isInTheWay_17 : decode cX3_isInTheWay 17 = .ok (.getfield 133, 3) := by decide +kernel
theorem dX3_isInTheWay_20 : decode cX3_isInTheWay 20 = .ok (.iload_n 1, 1) := by decide +kernel
theorem dX3_isInTheWay_21 : decode cX3_isInTheWay 21 = .ok (.iaload, 1) := by decide +kernel
theorem dX3_isInTheWay_22 : decode cX3_isInTheWay 22 = .ok (.aload_n 0, 1) := by decide +kernel
theorem dX3_isInTheWay_23 : decode cX3_isInTheWay 23 = .ok (.getfield 29, 3) := by decide +kernel
theorem dX3_isInTheWay_26 : decode cX3_isInTheWay 26 = .ok (.getfield 136, 3) := by decide +kernel
theorem dX3_isInTheWay_29 : decode cX3_isInTheWay 29 = .ok (.iload_n 1, 1) := by decide +kernel
theorem dX3_isInTheWay_30 : decode cX3_isInTheWay 30 = .ok (.iaload, 1) := by decide +kernel
theorem dX3_isInTheWay_31 : decode cX3_isInTheWay 31 = .ok (.invokevirtual 217, 3) := by decide +kernel
theorem dX3_isInTheWay_34 : decode cX3_isInTheWay 34 = .ok (.ifCond .le 7, 3) := by decide +kernel
theorem dX3_isInTheWay_37 : decode cX3_isInTheWay 37 = .ok (.iconst 1, 1) := by decide +kernel
theorem dX3_isInTheWay_38 : decode cX3_isInTheWay 38 = .ok (.goto 4, 3) := by decide +kernel
theorem dX3_isInTheWay_41 : decode cX3_isInTheWay 41 = .ok (.iconst 0, 1) := by decide +kernel
theorem dX3_isInTheWay_42 : decode cX3_isInTheWay 42 = .ok (.ireturn, 1) := by decide +kernel
theorem dX3_soonerBelow_0 : decode cX3_soonerBelow 0 = .ok (.iconst 0, 1) := by decide +kernel
theorem dX3_soonerBelow_1 : decode cX3_soonerBelow 1 = .ok (.istore 4, 2) := by decide +kernel
theorem dX3_soonerBelow_3 : decode cX3_soonerBelow 3 = .ok (.iconst 0, 1) := by decide +kernel
theorem dX3_soonerBelow_4 : decode cX3_soonerBelow 4 = .ok (.istore 5, 2) := by decide +kernel
theorem dX3_soonerBelow_6 : decode cX3_soonerBelow 6 = .ok (.iload 5, 2) := by decide +kernel
theorem dX3_soonerBelow_8 : decode cX3_soonerBelow 8 = .ok (.iload_n 3, 1) := by decide +kernel
theorem dX3_soonerBelow_9 : decode cX3_soonerBelow 9 = .ok (.if_icmp .ge 44, 3) := by decide +kernel
theorem dX3_soonerBelow_12 : decode cX3_soonerBelow 12 = .ok (.aload_n 0, 1) := by decide +kernel
theorem dX3_soonerBelow_13 : decode cX3_soonerBelow 13 = .ok (.getfield 20, 3) := by decide +kernel
theorem dX3_soonerBelow_16 : decode cX3_soonerBelow 16 = .ok (.getfield 152, 3) := by decide +kernel
theorem dX3_soonerBelow_19 : decode cX3_soonerBelow 19 = .ok (.aload_n 0, 1) := by decide +kernel
theorem dX3_soonerBelow_20 : decode cX3_soonerBelow 20 = .ok (.getfield 29, 3) := by decide +kernel
theorem dX3_soonerBelow_23 : decode cX3_soonerBelow 23 = .ok (.getfield 171, 3) := by decide +kernel
theorem dX3_soonerBelow_26 : decode cX3_soonerBelow 26 = .ok (.iload_n 2, 1) := by decide +kernel
theorem dX3_soonerBelow_27 : decode cX3_soonerBelow 27 = .ok (.aaload, 1) := by decide +kernel
theorem dX3_soonerBelow_28 : decode cX3_soonerBelow 28 = .ok (.iload 5, 2) := by decide +kernel
theorem dX3_soonerBelow_30 : decode cX3_soonerBelow 30 = .ok (.iaload, 1) := by decide +kernel
theorem dX3_soonerBelow_31 : decode cX3_soonerBelow 31 = .ok (.iaload, 1) := by decide +kernel
theorem dX3_soonerBelow_32 : decode cX3_soonerBelow 32 = .ok (.aload_n 0, 1) := by decide +kernel
theorem dX3_soonerBelow_33 : decode cX3_soonerBelow 33 = .ok (.getfield 20, 3) := by decide +kernel
theorem dX3_soonerBelow_36 : decode cX3_soonerBelow 36 = .ok (.getfield 152, 3) := by decide +kernel
theorem dX3_soonerBelow_39 : decode cX3_soonerBelow 39 = .ok (.iload_n 1, 1) := by decide +kernel
theorem dX3_soonerBelow_40 : decode cX3_soonerBelow 40 = .ok (.iaload, 1) := by decide +kernel
theorem dX3_soonerBelow_41 : decode cX3_soonerBelow 41 = .ok (.if_icmp .ge 6, 3) := by decide +kernel
theorem dX3_soonerBelow_44 : decode cX3_soonerBelow 44 = .ok (.iinc 4 1, 3) := by decide +kernel
theorem dX3_soonerBelow_47 : decode cX3_soonerBelow 47 = .ok (.iinc 5 1, 3) := by decide +kernel
theorem dX3_soonerBelow_50 : decode cX3_soonerBelow 50 = .ok (.goto (-44), 3) := by decide +kernel
theorem dX3_soonerBelow_53 : decode cX3_soonerBelow 53 = .ok (.iload 4, 2) := by decide +kernel
theorem dX3_soonerBelow_55 : decode cX3_soonerBelow 55 = .ok (.ireturn, 1) := by decide +kernel
theorem dX3_countOfRow_0 : decode cX3_countOfRow 0 = .ok (.iload_n 1, 1) := by decide +kernel
theorem dX3_countOfRow_1 : decode cX3_countOfRow 1 = .ok (.bipush 20, 2) := by decide +kernel
theorem dX3_countOfRow_3 : decode cX3_countOfRow 3 = .ok (.if_icmp .lt 9, 3) := by decide +kernel
theorem dX3_countOfRow_6 : decode cX3_countOfRow 6 = .ok (.iload_n 1, 1) := by decide +kernel
theorem dX3_countOfRow_7 : decode cX3_countOfRow 7 = .ok (.bipush 100, 2) := by decide +kernel
theorem dX3_countOfRow_9 : decode cX3_countOfRow 9 = .ok (.if_icmp .lt 5, 3) := by decide +kernel
theorem dX3_countOfRow_12 : decode cX3_countOfRow 12 = .ok (.iconst (-1), 1) := by decide +kernel
theorem dX3_countOfRow_13 : decode cX3_countOfRow 13 = .ok (.ireturn, 1) := by decide +kernel
theorem dX3_countOfRow_14 : decode cX3_countOfRow 14 = .ok (.iload_n 1, 1) := by decide +kernel
theorem dX3_countOfRow_15 : decode cX3_countOfRow 15 = .ok (.bipush 20, 2) := by decide +kernel
theorem dX3_countOfRow_17 : decode cX3_countOfRow 17 = .ok (.irem, 1) := by decide +kernel
theorem dX3_countOfRow_18 : decode cX3_countOfRow 18 = .ok (.istore_n 2, 1) := by decide +kernel
theorem dX3_countOfRow_19 : decode cX3_countOfRow 19 = .ok (.aload_n 0, 1) := by decide +kernel
theorem dX3_countOfRow_20 : decode cX3_countOfRow 20 = .ok (.getfield 29, 3) := by decide +kernel
theorem dX3_countOfRow_23 : decode cX3_countOfRow 23 = .ok (.iload_n 2, 1) := by decide +kernel
theorem dX3_countOfRow_24 : decode cX3_countOfRow 24 = .ok (.invokevirtual 70, 3) := by decide +kernel
theorem dX3_countOfRow_27 : decode cX3_countOfRow 27 = .ok (.ifCond .ne 5, 3) := by decide +kernel
theorem dX3_countOfRow_30 : decode cX3_countOfRow 30 = .ok (.iconst (-1), 1) := by decide +kernel
theorem dX3_countOfRow_31 : decode cX3_countOfRow 31 = .ok (.ireturn, 1) := by decide +kernel
theorem dX3_countOfRow_32 : decode cX3_countOfRow 32 = .ok (.iload_n 1, 1) := by decide +kernel
theorem dX3_countOfRow_33 : decode cX3_countOfRow 33 = .ok (.bipush 20, 2) := by decide +kernel
theorem dX3_countOfRow_35 : decode cX3_countOfRow 35 = .ok (.idiv, 1) := by decide +kernel
theorem dX3_countOfRow_36 : decode cX3_countOfRow 36 = .ok (.tableswitch 51 1 3 #[28, 38, 44], 28) := by decide +kernel
theorem dX3_countOfRow_64 : decode cX3_countOfRow 64 = .ok (.aload_n 0, 1) := by decide +kernel
theorem dX3_countOfRow_65 : decode cX3_countOfRow 65 = .ok (.getfield 29, 3) := by decide +kernel
theorem dX3_countOfRow_68 : decode cX3_countOfRow 68 = .ok (.getfield 74, 3) := by decide +kernel
theorem dX3_countOfRow_71 : decode cX3_countOfRow 71 = .ok (.iload_n 2, 1) := by decide +kernel
theorem dX3_countOfRow_72 : decode cX3_countOfRow 72 = .ok (.iaload, 1) := by decide +kernel
theorem dX3_countOfRow_73 : decode cX3_countOfRow 73 = .ok (.ireturn, 1) := by decide +kernel
theorem dX3_countOfRow_74 : decode cX3_countOfRow 74 = .ok (.aload_n 0, 1) := by decide +kernel
theorem dX3_countOfRow_75 : decode cX3_countOfRow 75 = .ok (.iload_n 2, 1) := by decide +kernel
theorem dX3_countOfRow_76 : decode cX3_countOfRow 76 = .ok (.invokevirtual 208, 3) := by decide +kernel
theorem dX3_countOfRow_79 : decode cX3_countOfRow 79 = .ok (.ireturn, 1) := by decide +kernel
theorem dX3_countOfRow_80 : decode cX3_countOfRow 80 = .ok (.aload_n 0, 1) := by decide +kernel
theorem dX3_countOfRow_81 : decode cX3_countOfRow 81 = .ok (.getfield 40, 3) := by decide +kernel
theorem dX3_countOfRow_84 : decode cX3_countOfRow 84 = .ok (.iload_n 2, 1) := by decide +kernel
theorem dX3_countOfRow_85 : decode cX3_countOfRow 85 = .ok (.iaload, 1) := by decide +kernel
theorem dX3_countOfRow_86 : decode cX3_countOfRow 86 = .ok (.ireturn, 1) := by decide +kernel
theorem dX3_countOfRow_87 : decode cX3_countOfRow 87 = .ok (.aload_n 0, 1) := by decide +kernel
theorem dX3_countOfRow_88 : decode cX3_countOfRow 88 = .ok (.getfield 44, 3) := by decide +kernel
theorem dX3_countOfRow_91 : decode cX3_countOfRow 91 = .ok (.iload_n 2, 1) := by decide +kernel
theorem dX3_countOfRow_92 : decode cX3_countOfRow 92 = .ok (.iaload, 1) := by decide +kernel
theorem dX3_countOfRow_93 : decode cX3_countOfRow 93 = .ok (.ireturn, 1) := by decide +kernel
theorem dX3_weightOn_0 : decode cX3_weightOn 0 = .ok (.iconst 0, 1) := by decide +kernel
theorem dX3_weightOn_1 : decode cX3_weightOn 1 = .ok (.istore_n 2, 1) := by decide +kernel
theorem dX3_weightOn_2 : decode cX3_weightOn 2 = .ok (.iconst 0, 1) := by decide +kernel
theorem dX3_weightOn_3 : decode cX3_weightOn 3 = .ok (.istore_n 3, 1) := by decide +kernel
theorem dX3_weightOn_4 : decode cX3_weightOn 4 = .ok (.iload_n 3, 1) := by decide +kernel
theorem dX3_weightOn_5 : decode cX3_weightOn 5 = .ok (.aload_n 0, 1) := by decide +kernel
theorem dX3_weightOn_6 : decode cX3_weightOn 6 = .ok (.getfield 29, 3) := by decide +kernel
theorem dX3_weightOn_9 : decode cX3_weightOn 9 = .ok (.getfield 74, 3) := by decide +kernel
theorem dX3_weightOn_12 : decode cX3_weightOn 12 = .ok (.iload_n 1, 1) := by decide +kernel
theorem dX3_weightOn_13 : decode cX3_weightOn 13 = .ok (.iaload, 1) := by decide +kernel
theorem dX3_weightOn_14 : decode cX3_weightOn 14 = .ok (.if_icmp .ge 31, 3) := by decide +kernel
theorem dX3_weightOn_17 : decode cX3_weightOn 17 = .ok (.iload_n 2, 1) := by decide +kernel
theorem dX3_weightOn_18 : decode cX3_weightOn 18 = .ok (.aload_n 0, 1) := by decide +kernel
theorem dX3_weightOn_19 : decode cX3_weightOn 19 = .ok (.getfield 20, 3) := by decide +kernel
theorem dX3_weightOn_22 : decode cX3_weightOn 22 = .ok (.getfield 149, 3) := by decide +kernel
theorem dX3_weightOn_25 : decode cX3_weightOn 25 = .ok (.aload_n 0, 1) := by decide +kernel
theorem dX3_weightOn_26 : decode cX3_weightOn 26 = .ok (.getfield 29, 3) := by decide +kernel
theorem dX3_weightOn_29 : decode cX3_weightOn 29 = .ok (.getfield 171, 3) := by decide +kernel
theorem dX3_weightOn_32 : decode cX3_weightOn 32 = .ok (.iload_n 1, 1) := by decide +kernel
theorem dX3_weightOn_33 : decode cX3_weightOn 33 = .ok (.aaload, 1) := by decide +kernel
theorem dX3_weightOn_34 : decode cX3_weightOn 34 = .ok (.iload_n 3, 1) := by decide +kernel
theorem dX3_weightOn_35 : decode cX3_weightOn 35 = .ok (.iaload, 1) := by decide +kernel
theorem dX3_weightOn_36 : decode cX3_weightOn 36 = .ok (.iaload, 1) := by decide +kernel
theorem dX3_weightOn_37 : decode cX3_weightOn 37 = .ok (.iadd, 1) := by decide +kernel
theorem dX3_weightOn_38 : decode cX3_weightOn 38 = .ok (.istore_n 2, 1) := by decide +kernel
theorem dX3_weightOn_39 : decode cX3_weightOn 39 = .ok (.iinc 3 1, 3) := by decide +kernel
theorem dX3_weightOn_42 : decode cX3_weightOn 42 = .ok (.goto (-38), 3) := by decide +kernel
theorem dX3_weightOn_45 : decode cX3_weightOn 45 = .ok (.iload_n 2, 1) := by decide +kernel
theorem dX3_weightOn_46 : decode cX3_weightOn 46 = .ok (.ireturn, 1) := by decide +kernel
theorem dX3_box_0 : decode cX3_box 0 = .ok (.iload_n 1, 1) := by decide +kernel
theorem dX3_box_1 : decode cX3_box 1 = .ok (.iconst 1, 1) := by decide +kernel
theorem dX3_box_2 : decode cX3_box 2 = .ok (.iconst 3, 1) := by decide +kernel
theorem dX3_box_3 : decode cX3_box 3 = .ok (.invokestatic 47, 3) := by decide +kernel
theorem dX3_box_6 : decode cX3_box 6 = .ok (.ifCond .eq 49, 3) := by decide +kernel
theorem dX3_box_9 : decode cX3_box 9 = .ok (.iload_n 2, 1) := by decide +kernel
theorem dX3_box_10 : decode cX3_box 10 = .ok (.iconst 1, 1) := by decide +kernel
theorem dX3_box_11 : decode cX3_box 11 = .ok (.bipush 40, 2) := by decide +kernel
theorem dX3_box_13 : decode cX3_box 13 = .ok (.invokestatic 47, 3) := by decide +kernel
theorem dX3_box_16 : decode cX3_box 16 = .ok (.ifCond .eq 39, 3) := by decide +kernel
theorem dX3_box_19 : decode cX3_box 19 = .ok (.iload_n 3, 1) := by decide +kernel
theorem dX3_box_20 : decode cX3_box 20 = .ok (.iconst 0, 1) := by decide +kernel
theorem dX3_box_21 : decode cX3_box 21 = .ok (.sipush 1000, 3) := by decide +kernel
theorem dX3_box_24 : decode cX3_box 24 = .ok (.invokestatic 47, 3) := by decide +kernel
theorem dX3_box_27 : decode cX3_box 27 = .ok (.ifCond .eq 28, 3) := by decide +kernel
theorem dX3_box_30 : decode cX3_box 30 = .ok (.iload 4, 2) := by decide +kernel
theorem dX3_box_32 : decode cX3_box 32 = .ok (.iconst 1, 1) := by decide +kernel
theorem dX3_box_33 : decode cX3_box 33 = .ok (.bipush 9, 2) := by decide +kernel
theorem dX3_box_35 : decode cX3_box 35 = .ok (.invokestatic 47, 3) := by decide +kernel
theorem dX3_box_38 : decode cX3_box 38 = .ok (.ifCond .eq 17, 3) := by decide +kernel
theorem dX3_box_41 : decode cX3_box 41 = .ok (.iload 5, 2) := by decide +kernel
theorem dX3_box_43 : decode cX3_box 43 = .ok (.iconst 0, 1) := by decide +kernel
theorem dX3_box_44 : decode cX3_box 44 = .ok (.iconst 2, 1) := by decide +kernel
theorem dX3_box_45 : decode cX3_box 45 = .ok (.invokestatic 47, 3) := by decide +kernel
theorem dX3_box_48 : decode cX3_box 48 = .ok (.ifCond .eq 7, 3) := by decide +kernel
theorem dX3_box_51 : decode cX3_box 51 = .ok (.iconst 1, 1) := by decide +kernel
theorem dX3_box_52 : decode cX3_box 52 = .ok (.goto 4, 3) := by decide +kernel
theorem dX3_box_55 : decode cX3_box 55 = .ok (.iconst 0, 1) := by decide +kernel
theorem dX3_box_56 : decode cX3_box 56 = .ok (.istore 6, 2) := by decide +kernel
theorem dX3_box_58 : decode cX3_box 58 = .ok (.iload 6, 2) := by decide +kernel
theorem dX3_box_60 : decode cX3_box 60 = .ok (.ifCond .ne 13, 3) := by decide +kernel
theorem dX3_box_63 : decode cX3_box 63 = .ok (.new 51, 3) := by decide +kernel
theorem dX3_box_66 : decode cX3_box 66 = .ok (.dup, 1) := by decide +kernel
theorem dX3_box_67 : decode cX3_box 67 = .ok (.ldc 53, 2) := by decide +kernel
theorem dX3_box_69 : decode cX3_box 69 = .ok (.invokespecial 55, 3) := by decide +kernel
theorem dX3_box_72 : decode cX3_box 72 = .ok (.athrow, 1) := by decide +kernel
theorem dX3_box_73 : decode cX3_box 73 = .ok (.aload_n 0, 1) := by decide +kernel
theorem dX3_box_74 : decode cX3_box 74 = .ok (.getfield 20, 3) := by decide +kernel
theorem dX3_box_77 : decode cX3_box 77 = .ok (.getfield 58, 3) := by decide +kernel
theorem dX3_box_80 : decode cX3_box 80 = .ok (.bipush 60, 2) := by decide +kernel
theorem dX3_box_82 : decode cX3_box 82 = .ok (.if_icmp .lt 13, 3) := by decide +kernel
theorem dX3_box_85 : decode cX3_box 85 = .ok (.new 61, 3) := by decide +kernel
theorem dX3_box_88 : decode cX3_box 88 = .ok (.dup, 1) := by decide +kernel
theorem dX3_box_89 : decode cX3_box 89 = .ok (.ldc 63, 2) := by decide +kernel
theorem dX3_box_91 : decode cX3_box 91 = .ok (.invokespecial 65, 3) := by decide +kernel
theorem dX3_box_94 : decode cX3_box 94 = .ok (.athrow, 1) := by decide +kernel
theorem dX3_box_95 : decode cX3_box 95 = .ok (.aload_n 0, 1) := by decide +kernel
theorem dX3_box_96 : decode cX3_box 96 = .ok (.getfield 20, 3) := by decide +kernel
theorem dX3_box_99 : decode cX3_box 99 = .ok (.iload_n 1, 1) := by decide +kernel
theorem dX3_box_100 : decode cX3_box 100 = .ok (.iload_n 2, 1) := by decide +kernel
theorem dX3_box_101 : decode cX3_box 101 = .ok (.iload_n 3, 1) := by decide +kernel
theorem dX3_box_102 : decode cX3_box 102 = .ok (.iload 4, 2) := by decide +kernel
theorem dX3_box_104 : decode cX3_box 104 = .ok (.iload 5, 2) := by decide +kernel
theorem dX3_box_106 : decode cX3_box 106 = .ok (.invokevirtual 66, 3) := by decide +kernel
theorem dX3_box_109 : decode cX3_box 109 = .ok (.ireturn, 1) := by decide +kernel
theorem dX0_tell_0 : decode cX0_tell 0 = .ok (.aload_n 0, 1) := by decide +kernel
theorem dX0_tell_1 : decode cX0_tell 1 = .ok (.getfield 27, 3) := by decide +kernel
theorem dX0_tell_4 : decode cX0_tell 4 = .ok (.istore 6, 2) := by decide +kernel
theorem dX0_tell_6 : decode cX0_tell 6 = .ok (.aload_n 0, 1) := by decide +kernel
theorem dX0_tell_7 : decode cX0_tell 7 = .ok (.getfield 9, 3) := by decide +kernel
theorem dX0_tell_10 : decode cX0_tell 10 = .ok (.iload 6, 2) := by decide +kernel
theorem dX0_tell_12 : decode cX0_tell 12 = .ok (.iload_n 1, 1) := by decide +kernel
theorem dX0_tell_13 : decode cX0_tell 13 = .ok (.iastore, 1) := by decide +kernel
theorem dX0_tell_14 : decode cX0_tell 14 = .ok (.aload_n 0, 1) := by decide +kernel
theorem dX0_tell_15 : decode cX0_tell 15 = .ok (.getfield 15, 3) := by decide +kernel
theorem dX0_tell_18 : decode cX0_tell 18 = .ok (.iload 6, 2) := by decide +kernel
theorem dX0_tell_20 : decode cX0_tell 20 = .ok (.iload_n 2, 1) := by decide +kernel
theorem dX0_tell_21 : decode cX0_tell 21 = .ok (.iastore, 1) := by decide +kernel
theorem dX0_tell_22 : decode cX0_tell 22 = .ok (.aload_n 0, 1) := by decide +kernel
theorem dX0_tell_23 : decode cX0_tell 23 = .ok (.getfield 18, 3) := by decide +kernel
theorem dX0_tell_26 : decode cX0_tell 26 = .ok (.iload 6, 2) := by decide +kernel
theorem dX0_tell_28 : decode cX0_tell 28 = .ok (.iload_n 3, 1) := by decide +kernel
theorem dX0_tell_29 : decode cX0_tell 29 = .ok (.iastore, 1) := by decide +kernel
theorem dX0_tell_30 : decode cX0_tell 30 = .ok (.aload_n 0, 1) := by decide +kernel
theorem dX0_tell_31 : decode cX0_tell 31 = .ok (.getfield 21, 3) := by decide +kernel
theorem dX0_tell_34 : decode cX0_tell 34 = .ok (.iload 6, 2) := by decide +kernel
theorem dX0_tell_36 : decode cX0_tell 36 = .ok (.iload 4, 2) := by decide +kernel
theorem dX0_tell_38 : decode cX0_tell 38 = .ok (.iastore, 1) := by decide +kernel
theorem dX0_tell_39 : decode cX0_tell 39 = .ok (.aload_n 0, 1) := by decide +kernel
theorem dX0_tell_40 : decode cX0_tell 40 = .ok (.getfield 24, 3) := by decide +kernel
theorem dX0_tell_43 : decode cX0_tell 43 = .ok (.iload 6, 2) := by decide +kernel
theorem dX0_tell_45 : decode cX0_tell 45 = .ok (.iload 5, 2) := by decide +kernel
theorem dX0_tell_47 : decode cX0_tell 47 = .ok (.iastore, 1) := by decide +kernel
theorem dX0_tell_48 : decode cX0_tell 48 = .ok (.aload_n 0, 1) := by decide +kernel
theorem dX0_tell_49 : decode cX0_tell 49 = .ok (.dup, 1) := by decide +kernel
theorem dX0_tell_50 : decode cX0_tell 50 = .ok (.getfield 27, 3) := by decide +kernel
theorem dX0_tell_53 : decode cX0_tell 53 = .ok (.iconst 1, 1) := by decide +kernel
theorem dX0_tell_54 : decode cX0_tell 54 = .ok (.iadd, 1) := by decide +kernel
theorem dX0_tell_55 : decode cX0_tell 55 = .ok (.putfield 27, 3) := by decide +kernel
theorem dX0_tell_58 : decode cX0_tell 58 = .ok (.iload 6, 2) := by decide +kernel
theorem dX0_tell_60 : decode cX0_tell 60 = .ok (.ireturn, 1) := by decide +kernel
theorem dX3_put_0 : decode cX3_put 0 = .ok (.aload_n 0, 1) := by decide +kernel
theorem dX3_put_1 : decode cX3_put 1 = .ok (.iload_n 1, 1) := by decide +kernel
theorem dX3_put_2 : decode cX3_put 2 = .ok (.invokevirtual 81, 3) := by decide +kernel
theorem dX3_put_5 : decode cX3_put 5 = .ok (.aload_n 0, 1) := by decide +kernel
theorem dX3_put_6 : decode cX3_put 6 = .ok (.iload_n 2, 1) := by decide +kernel
theorem dX3_put_7 : decode cX3_put 7 = .ok (.invokevirtual 85, 3) := by decide +kernel
theorem dX3_put_10 : decode cX3_put 10 = .ok (.aload_n 0, 1) := by decide +kernel
theorem dX3_put_11 : decode cX3_put 11 = .ok (.iload_n 1, 1) := by decide +kernel
theorem dX3_put_12 : decode cX3_put 12 = .ok (.iload_n 2, 1) := by decide +kernel
theorem dX3_put_13 : decode cX3_put 13 = .ok (.invokevirtual 88, 3) := by decide +kernel
theorem dX3_put_16 : decode cX3_put 16 = .ok (.istore_n 3, 1) := by decide +kernel
theorem dX3_put_17 : decode cX3_put 17 = .ok (.iload_n 3, 1) := by decide +kernel
theorem dX3_put_18 : decode cX3_put 18 = .ok (.ifCond .eq 6, 3) := by decide +kernel
theorem dX3_put_21 : decode cX3_put 21 = .ok (.iload_n 3, 1) := by decide +kernel
theorem dX3_put_22 : decode cX3_put 22 = .ok (.ineg, 1) := by decide +kernel
theorem dX3_put_23 : decode cX3_put 23 = .ok (.ireturn, 1) := by decide +kernel
theorem dX3_put_24 : decode cX3_put 24 = .ok (.aload_n 0, 1) := by decide +kernel
theorem dX3_put_25 : decode cX3_put 25 = .ok (.iload_n 1, 1) := by decide +kernel
theorem dX3_put_26 : decode cX3_put 26 = .ok (.iload_n 2, 1) := by decide +kernel
theorem dX3_put_27 : decode cX3_put 27 = .ok (.invokevirtual 91, 3) := by decide +kernel
theorem dX3_put_30 : decode cX3_put 30 = .ok (.iconst 1, 1) := by decide +kernel
theorem dX3_put_31 : decode cX3_put 31 = .ok (.ireturn, 1) := by decide +kernel
theorem dX3_requireBox_0 : decode cX3_requireBox 0 = .ok (.aload_n 0, 1) := by decide +kernel
theorem dX3_requireBox_1 : decode cX3_requireBox 1 = .ok (.getfield 20, 3) := by decide +kernel
theorem dX3_requireBox_4 : decode cX3_requireBox 4 = .ok (.iload_n 1, 1) := by decide +kernel
theorem dX3_requireBox_5 : decode cX3_requireBox 5 = .ok (.invokevirtual 198, 3) := by decide +kernel
theorem dX3_requireBox_8 : decode cX3_requireBox 8 = .ok (.ifCond .ne 13, 3) := by decide +kernel
theorem dX3_requireBox_11 : decode cX3_requireBox 11 = .ok (.new 161, 3) := by decide +kernel
theorem dX3_requireBox_14 : decode cX3_requireBox 14 = .ok (.dup, 1) := by decide +kernel
theorem dX3_requireBox_15 : decode cX3_requireBox 15 = .ok (.ldc 201, 2) := by decide +kernel
theorem dX3_requireBox_17 : decode cX3_requireBox 17 = .ok (.invokespecial 165, 3) := by decide +kernel
theorem dX3_requireBox_20 : decode cX3_requireBox 20 = .ok (.athrow, 1) := by decide +kernel
theorem dX3_requireBox_21 : decode cX3_requireBox 21 = .ok (.return_, 1) := by decide +kernel
theorem dX0_has_0 : decode cX0_has 0 = .ok (.iload_n 1, 1) := by decide +kernel
theorem dX0_has_1 : decode cX0_has 1 = .ok (.ifCond .lt 15, 3) := by decide +kernel
theorem dX0_has_4 : decode cX0_has 4 = .ok (.iload_n 1, 1) := by decide +kernel
theorem dX0_has_5 : decode cX0_has 5 = .ok (.aload_n 0, 1) := by decide +kernel
theorem dX0_has_6 : decode cX0_has 6 = .ok (.getfield 27, 3) := by decide +kernel
theorem dX0_has_9 : decode cX0_has 9 = .ok (.if_icmp .ge 7, 3) := by decide +kernel
theorem dX0_has_12 : decode cX0_has 12 = .ok (.iconst 1, 1) := by decide +kernel
theorem dX0_has_13 : decode cX0_has 13 = .ok (.goto 4, 3) := by decide +kernel
theorem dX0_has_16 : decode cX0_has 16 = .ok (.iconst 0, 1) := by decide +kernel
theorem dX0_has_17 : decode cX0_has 17 = .ok (.ireturn, 1) := by decide +kernel
theorem dX3_requireRow_0 : decode cX3_requireRow 0 = .ok (.aload_n 0, 1) := by decide +kernel
theorem dX3_requireRow_1 : decode cX3_requireRow 1 = .ok (.getfield 29, 3) := by decide +kernel
theorem dX3_requireRow_4 : decode cX3_requireRow 4 = .ok (.iload_n 1, 1) := by decide +kernel
theorem dX3_requireRow_5 : decode cX3_requireRow 5 = .ok (.invokevirtual 70, 3) := by decide +kernel
theorem dX3_requireRow_8 : decode cX3_requireRow 8 = .ok (.ifCond .ne 13, 3) := by decide +kernel
theorem dX3_requireRow_11 : decode cX3_requireRow 11 = .ok (.new 161, 3) := by decide +kernel
theorem dX3_requireRow_14 : decode cX3_requireRow 14 = .ok (.dup, 1) := by decide +kernel
theorem dX3_requireRow_15 : decode cX3_requireRow 15 = .ok (.ldc 203, 2) := by decide +kernel
theorem dX3_requireRow_17 : decode cX3_requireRow 17 = .ok (.invokespecial 165, 3) := by decide +kernel
theorem dX3_requireRow_20 : decode cX3_requireRow 20 = .ok (.athrow, 1) := by decide +kernel
theorem dX3_requireRow_21 : decode cX3_requireRow 21 = .ok (.return_, 1) := by decide +kernel
theorem dX3_ruleBrokenByPut_0 : decode cX3_ruleBrokenByPut 0 = .ok (.aload_n 0, 1) := by decide +kernel
theorem dX3_ruleBrokenByPut_1 : decode cX3_ruleBrokenByPut 1 = .ok (.getfield 29, 3) := by decide +kernel
theorem dX3_ruleBrokenByPut_4 : decode cX3_ruleBrokenByPut 4 = .ok (.iload_n 1, 1) := by decide +kernel
theorem dX3_ruleBrokenByPut_5 : decode cX3_ruleBrokenByPut 5 = .ok (.invokevirtual 100, 3) := by decide +kernel
theorem dX3_ruleBrokenByPut_8 : decode cX3_ruleBrokenByPut 8 = .ok (.ifCond .eq 7, 3) := by decide +kernel
theorem dX3_ruleBrokenByPut_11 : decode cX3_ruleBrokenByPut 11 = .ok (.iconst 1, 1) := by decide +kernel
theorem dX3_ruleBrokenByPut_12 : decode cX3_ruleBrokenByPut 12 = .ok (.goto 9, 3) := by decide +kernel
theorem dX3_ruleBrokenByPut_15 : decode cX3_ruleBrokenByPut 15 = .ok (.aload_n 0, 1) := by decide +kernel
theorem dX3_ruleBrokenByPut_16 : decode cX3_ruleBrokenByPut 16 = .ok (.iload_n 1, 1) := by decide +kernel
theorem dX3_ruleBrokenByPut_17 : decode cX3_ruleBrokenByPut 17 = .ok (.iload_n 2, 1) := by decide +kernel
theorem dX3_ruleBrokenByPut_18 : decode cX3_ruleBrokenByPut 18 = .ok (.invokevirtual 205, 3) := by decide +kernel
theorem dX3_ruleBrokenByPut_21 : decode cX3_ruleBrokenByPut 21 = .ok (.ireturn, 1) := by decide +kernel
theorem dX3_ruleBrokenOnTop_0 : decode cX3_ruleBrokenOnTop 0 = .ok (.aload_n 0, 1) := by decide +kernel
theorem dX3_ruleBrokenOnTop_1 : decode cX3_ruleBrokenOnTop 1 = .ok (.getfield 44, 3) := by decide +kernel
theorem dX3_ruleBrokenOnTop_4 : decode cX3_ruleBrokenOnTop 4 = .ok (.iload_n 2, 1) := by decide +kernel
theorem dX3_ruleBrokenOnTop_5 : decode cX3_ruleBrokenOnTop 5 = .ok (.iaload, 1) := by decide +kernel
theorem dX3_ruleBrokenOnTop_6 : decode cX3_ruleBrokenOnTop 6 = .ok (.ifCond .eq 23, 3) := by decide +kernel
theorem dX3_ruleBrokenOnTop_9 : decode cX3_ruleBrokenOnTop 9 = .ok (.aload_n 0, 1) := by decide +kernel
theorem dX3_ruleBrokenOnTop_10 : decode cX3_ruleBrokenOnTop 10 = .ok (.getfield 44, 3) := by decide +kernel
theorem dX3_ruleBrokenOnTop_13 : decode cX3_ruleBrokenOnTop 13 = .ok (.iload_n 2, 1) := by decide +kernel
theorem dX3_ruleBrokenOnTop_14 : decode cX3_ruleBrokenOnTop 14 = .ok (.iaload, 1) := by decide +kernel
theorem dX3_ruleBrokenOnTop_15 : decode cX3_ruleBrokenOnTop 15 = .ok (.aload_n 0, 1) := by decide +kernel
theorem dX3_ruleBrokenOnTop_16 : decode cX3_ruleBrokenOnTop 16 = .ok (.getfield 20, 3) := by decide +kernel
theorem dX3_ruleBrokenOnTop_19 : decode cX3_ruleBrokenOnTop 19 = .ok (.getfield 155, 3) := by decide +kernel
theorem dX3_ruleBrokenOnTop_22 : decode cX3_ruleBrokenOnTop 22 = .ok (.iload_n 1, 1) := by decide +kernel
theorem dX3_ruleBrokenOnTop_23 : decode cX3_ruleBrokenOnTop 23 = .ok (.iaload, 1) := by decide +kernel
theorem dX3_ruleBrokenOnTop_24 : decode cX3_ruleBrokenOnTop 24 = .ok (.if_icmp .eq 5, 3) := by decide +kernel
theorem dX3_ruleBrokenOnTop_27 : decode cX3_ruleBrokenOnTop 27 = .ok (.iconst 2, 1) := by decide +kernel
theorem dX3_ruleBrokenOnTop_28 : decode cX3_ruleBrokenOnTop 28 = .ok (.ireturn, 1) := by decide +kernel
theorem dX3_ruleBrokenOnTop_29 : decode cX3_ruleBrokenOnTop 29 = .ok (.aload_n 0, 1) := by decide +kernel
theorem dX3_ruleBrokenOnTop_30 : decode cX3_ruleBrokenOnTop 30 = .ok (.getfield 29, 3) := by decide +kernel
theorem dX3_ruleBrokenOnTop_33 : decode cX3_ruleBrokenOnTop 33 = .ok (.getfield 74, 3) := by decide +kernel
theorem dX3_ruleBrokenOnTop_36 : decode cX3_ruleBrokenOnTop 36 = .ok (.iload_n 2, 1) := by decide +kernel
theorem dX3_ruleBrokenOnTop_37 : decode cX3_ruleBrokenOnTop 37 = .ok (.iaload, 1) := by decide +kernel
theorem dX3_ruleBrokenOnTop_38 : decode cX3_ruleBrokenOnTop 38 = .ok (.aload_n 0, 1) := by decide +kernel
theorem dX3_ruleBrokenOnTop_39 : decode cX3_ruleBrokenOnTop 39 = .ok (.getfield 29, 3) := by decide +kernel
theorem dX3_ruleBrokenOnTop_42 : decode cX3_ruleBrokenOnTop 42 = .ok (.getfield 166, 3) := by decide +kernel
theorem dX3_ruleBrokenOnTop_45 : decode cX3_ruleBrokenOnTop 45 = .ok (.if_icmp .lt 5, 3) := by decide +kernel
theorem dX3_ruleBrokenOnTop_48 : decode cX3_ruleBrokenOnTop 48 = .ok (.iconst 3, 1) := by decide +kernel
theorem dX3_ruleBrokenOnTop_49 : decode cX3_ruleBrokenOnTop 49 = .ok (.ireturn, 1) := by decide +kernel
theorem dX3_ruleBrokenOnTop_50 : decode cX3_ruleBrokenOnTop 50 = .ok (.aload_n 0, 1) := by decide +kernel
theorem dX3_ruleBrokenOnTop_51 : decode cX3_ruleBrokenOnTop 51 = .ok (.iload_n 2, 1) := by decide +kernel
theorem dX3_ruleBrokenOnTop_52 : decode cX3_ruleBrokenOnTop 52 = .ok (.invokevirtual 208, 3) := by decide +kernel
theorem dX3_ruleBrokenOnTop_55 : decode cX3_ruleBrokenOnTop 55 = .ok (.aload_n 0, 1) := by decide +kernel
theorem dX3_ruleBrokenOnTop_56 : decode cX3_ruleBrokenOnTop 56 = .ok (.getfield 20, 3) := by decide +kernel
theorem dX3_ruleBrokenOnTop_59 : decode cX3_ruleBrokenOnTop 59 = .ok (.getfield 149, 3) := by decide +kernel
theorem dX3_ruleBrokenOnTop_62 : decode cX3_ruleBrokenOnTop 62 = .ok (.iload_n 1, 1) := by decide +kernel
theorem dX3_ruleBrokenOnTop_63 : decode cX3_ruleBrokenOnTop 63 = .ok (.iaload, 1) := by decide +kernel
theorem dX3_ruleBrokenOnTop_64 : decode cX3_ruleBrokenOnTop 64 = .ok (.iadd, 1) := by decide +kernel
theorem dX3_ruleBrokenOnTop_65 : decode cX3_ruleBrokenOnTop 65 = .ok (.aload_n 0, 1) := by decide +kernel
theorem dX3_ruleBrokenOnTop_66 : decode cX3_ruleBrokenOnTop 66 = .ok (.getfield 13, 3) := by decide +kernel
theorem dX3_ruleBrokenOnTop_69 : decode cX3_ruleBrokenOnTop 69 = .ok (.if_icmp .le 5, 3) := by decide +kernel
theorem dX3_ruleBrokenOnTop_72 : decode cX3_ruleBrokenOnTop 72 = .ok (.iconst 4, 1) := by decide +kernel
theorem dX3_ruleBrokenOnTop_73 : decode cX3_ruleBrokenOnTop 73 = .ok (.ireturn, 1) := by decide +kernel
theorem dX3_ruleBrokenOnTop_74 : decode cX3_ruleBrokenOnTop 74 = .ok (.aload_n 0, 1) := by decide +kernel
theorem dX3_ruleBrokenOnTop_75 : decode cX3_ruleBrokenOnTop 75 = .ok (.getfield 29, 3) := by decide +kernel
theorem dX3_ruleBrokenOnTop_78 : decode cX3_ruleBrokenOnTop 78 = .ok (.iload_n 2, 1) := by decide +kernel
theorem dX3_ruleBrokenOnTop_79 : decode cX3_ruleBrokenOnTop 79 = .ok (.invokevirtual 211, 3) := by decide +kernel
theorem dX3_ruleBrokenOnTop_82 : decode cX3_ruleBrokenOnTop 82 = .ok (.istore_n 3, 1) := by decide +kernel
theorem dX3_ruleBrokenOnTop_83 : decode cX3_ruleBrokenOnTop 83 = .ok (.iload_n 3, 1) := by decide +kernel
theorem dX3_ruleBrokenOnTop_84 : decode cX3_ruleBrokenOnTop 84 = .ok (.iconst (-1), 1) := by decide +kernel
theorem dX3_ruleBrokenOnTop_85 : decode cX3_ruleBrokenOnTop 85 = .ok (.if_icmp .eq 26, 3) := by decide +kernel
theorem dX3_ruleBrokenOnTop_88 : decode cX3_ruleBrokenOnTop 88 = .ok (.aload_n 0, 1) := by decide +kernel
theorem dX3_ruleBrokenOnTop_89 : decode cX3_ruleBrokenOnTop 89 = .ok (.getfield 20, 3) := by decide +kernel
theorem dX3_ruleBrokenOnTop_92 : decode cX3_ruleBrokenOnTop 92 = .ok (.getfield 146, 3) := by decide +kernel
theorem dX3_ruleBrokenOnTop_95 : decode cX3_ruleBrokenOnTop 95 = .ok (.iload_n 3, 1) := by decide +kernel
theorem dX3_ruleBrokenOnTop_96 : decode cX3_ruleBrokenOnTop 96 = .ok (.iaload, 1) := by decide +kernel
theorem dX3_ruleBrokenOnTop_97 : decode cX3_ruleBrokenOnTop 97 = .ok (.aload_n 0, 1) := by decide +kernel
theorem dX3_ruleBrokenOnTop_98 : decode cX3_ruleBrokenOnTop 98 = .ok (.getfield 20, 3) := by decide +kernel
theorem dX3_ruleBrokenOnTop_101 : decode cX3_ruleBrokenOnTop 101 = .ok (.getfield 146, 3) := by decide +kernel
theorem dX3_ruleBrokenOnTop_104 : decode cX3_ruleBrokenOnTop 104 = .ok (.iload_n 1, 1) := by decide +kernel
theorem dX3_ruleBrokenOnTop_105 : decode cX3_ruleBrokenOnTop 105 = .ok (.iaload, 1) := by decide +kernel
theorem dX3_ruleBrokenOnTop_106 : decode cX3_ruleBrokenOnTop 106 = .ok (.if_icmp .eq 5, 3) := by decide +kernel
theorem dX3_ruleBrokenOnTop_109 : decode cX3_ruleBrokenOnTop 109 = .ok (.iconst 5, 1) := by decide +kernel
theorem dX3_ruleBrokenOnTop_110 : decode cX3_ruleBrokenOnTop 110 = .ok (.ireturn, 1) := by decide +kernel
theorem dX3_ruleBrokenOnTop_111 : decode cX3_ruleBrokenOnTop 111 = .ok (.iload_n 3, 1) := by decide +kernel
theorem dX3_ruleBrokenOnTop_112 : decode cX3_ruleBrokenOnTop 112 = .ok (.iconst (-1), 1) := by decide +kernel
theorem dX3_ruleBrokenOnTop_113 : decode cX3_ruleBrokenOnTop 113 = .ok (.if_icmp .eq 27, 3) := by decide +kernel
theorem dX3_ruleBrokenOnTop_116 : decode cX3_ruleBrokenOnTop 116 = .ok (.aload_n 0, 1) := by decide +kernel
theorem dX3_ruleBrokenOnTop_117 : decode cX3_ruleBrokenOnTop 117 = .ok (.getfield 20, 3) := by decide +kernel
theorem dX3_ruleBrokenOnTop_120 : decode cX3_ruleBrokenOnTop 120 = .ok (.getfield 149, 3) := by decide +kernel
theorem dX3_ruleBrokenOnTop_123 : decode cX3_ruleBrokenOnTop 123 = .ok (.iload_n 3, 1) := by decide +kernel
theorem dX3_ruleBrokenOnTop_124 : decode cX3_ruleBrokenOnTop 124 = .ok (.iaload, 1) := by decide +kernel
theorem dX3_ruleBrokenOnTop_125 : decode cX3_ruleBrokenOnTop 125 = .ok (.aload_n 0, 1) := by decide +kernel
theorem dX3_ruleBrokenOnTop_126 : decode cX3_ruleBrokenOnTop 126 = .ok (.getfield 20, 3) := by decide +kernel
theorem dX3_ruleBrokenOnTop_129 : decode cX3_ruleBrokenOnTop 129 = .ok (.getfield 149, 3) := by decide +kernel
theorem dX3_ruleBrokenOnTop_132 : decode cX3_ruleBrokenOnTop 132 = .ok (.iload_n 1, 1) := by decide +kernel
theorem dX3_ruleBrokenOnTop_133 : decode cX3_ruleBrokenOnTop 133 = .ok (.iaload, 1) := by decide +kernel
theorem dX3_ruleBrokenOnTop_134 : decode cX3_ruleBrokenOnTop 134 = .ok (.if_icmp .ge 6, 3) := by decide +kernel
theorem dX3_ruleBrokenOnTop_137 : decode cX3_ruleBrokenOnTop 137 = .ok (.bipush 6, 2) := by decide +kernel
theorem dX3_ruleBrokenOnTop_139 : decode cX3_ruleBrokenOnTop 139 = .ok (.ireturn, 1) := by decide +kernel
theorem dX3_ruleBrokenOnTop_140 : decode cX3_ruleBrokenOnTop 140 = .ok (.aload_n 0, 1) := by decide +kernel
theorem dX3_ruleBrokenOnTop_141 : decode cX3_ruleBrokenOnTop 141 = .ok (.getfield 20, 3) := by decide +kernel
theorem dX3_ruleBrokenOnTop_144 : decode cX3_ruleBrokenOnTop 144 = .ok (.getfield 158, 3) := by decide +kernel
theorem dX3_ruleBrokenOnTop_147 : decode cX3_ruleBrokenOnTop 147 = .ok (.iload_n 1, 1) := by decide +kernel
theorem dX3_ruleBrokenOnTop_148 : decode cX3_ruleBrokenOnTop 148 = .ok (.iaload, 1) := by decide +kernel
theorem dX3_ruleBrokenOnTop_149 : decode cX3_ruleBrokenOnTop 149 = .ok (.aload_n 0, 1) := by decide +kernel
theorem dX3_ruleBrokenOnTop_150 : decode cX3_ruleBrokenOnTop 150 = .ok (.getfield 40, 3) := by decide +kernel
theorem dX3_ruleBrokenOnTop_153 : decode cX3_ruleBrokenOnTop 153 = .ok (.iload_n 2, 1) := by decide +kernel
theorem dX3_ruleBrokenOnTop_154 : decode cX3_ruleBrokenOnTop 154 = .ok (.iaload, 1) := by decide +kernel
theorem dX3_ruleBrokenOnTop_155 : decode cX3_ruleBrokenOnTop 155 = .ok (.invokestatic 214, 3) := by decide +kernel
theorem dX3_ruleBrokenOnTop_158 : decode cX3_ruleBrokenOnTop 158 = .ok (.ireturn, 1) := by decide +kernel
theorem dX2_top_0 : decode cX2_top 0 = .ok (.aload_n 0, 1) := by decide +kernel
theorem dX2_top_1 : decode cX2_top 1 = .ok (.getfield 30, 3) := by decide +kernel
theorem dX2_top_4 : decode cX2_top 4 = .ok (.iload_n 1, 1) := by decide +kernel
theorem dX2_top_5 : decode cX2_top 5 = .ok (.iaload, 1) := by decide +kernel
theorem dX2_top_6 : decode cX2_top 6 = .ok (.ifCond .ne 7, 3) := by decide +kernel
theorem dX2_top_9 : decode cX2_top 9 = .ok (.iconst (-1), 1) := by decide +kernel
theorem dX2_top_10 : decode cX2_top 10 = .ok (.goto 18, 3) := by decide +kernel
theorem dX2_top_13 : decode cX2_top 13 = .ok (.aload_n 0, 1) := by decide +kernel
theorem dX2_top_14 : decode cX2_top 14 = .ok (.getfield 27, 3) := by decide +kernel
theorem dX2_top_17 : decode cX2_top 17 = .ok (.iload_n 1, 1) := by decide +kernel
theorem dX2_top_18 : decode cX2_top 18 = .ok (.aaload, 1) := by decide +kernel
theorem dX2_top_19 : decode cX2_top 19 = .ok (.aload_n 0, 1) := by decide +kernel
theorem dX2_top_20 : decode cX2_top 20 = .ok (.getfield 30, 3) := by decide +kernel
theorem dX2_top_23 : decode cX2_top 23 = .ok (.iload_n 1, 1) := by decide +kernel
theorem dX2_top_24 : decode cX2_top 24 = .ok (.iaload, 1) := by decide +kernel
theorem dX2_top_25 : decode cX2_top 25 = .ok (.iconst 1, 1) := by decide +kernel
theorem dX2_top_26 : decode cX2_top 26 = .ok (.isub, 1) := by decide +kernel
theorem dX2_top_27 : decode cX2_top 27 = .ok (.iaload, 1) := by decide +kernel
theorem dX2_top_28 : decode cX2_top 28 = .ok (.ireturn, 1) := by decide +kernel
theorem dX3_ruleBrokenByGround_0 : decode cX3_ruleBrokenByGround 0 = .ok (.iload_n 0, 1) := by decide +kernel
theorem dX3_ruleBrokenByGround_1 : decode cX3_ruleBrokenByGround 1 = .ok (.iconst 1, 1) := by decide +kernel
theorem dX3_ruleBrokenByGround_2 : decode cX3_ruleBrokenByGround 2 = .ok (.if_icmp .ne 11, 3) := by decide +kernel
theorem dX3_ruleBrokenByGround_5 : decode cX3_ruleBrokenByGround 5 = .ok (.iload_n 1, 1) := by decide +kernel
theorem dX3_ruleBrokenByGround_6 : decode cX3_ruleBrokenByGround 6 = .ok (.iconst 1, 1) := by decide +kernel
theorem dX3_ruleBrokenByGround_7 : decode cX3_ruleBrokenByGround 7 = .ok (.if_icmp .eq 6, 3) := by decide +kernel
theorem dX3_ruleBrokenByGround_10 : decode cX3_ruleBrokenByGround 10 = .ok (.bipush 7, 2) := by decide +kernel
theorem dX3_ruleBrokenByGround_12 : decode cX3_ruleBrokenByGround 12 = .ok (.ireturn, 1) := by decide +kernel
theorem dX3_ruleBrokenByGround_13 : decode cX3_ruleBrokenByGround 13 = .ok (.iload_n 0, 1) := by decide +kernel
theorem dX3_ruleBrokenByGround_14 : decode cX3_ruleBrokenByGround 14 = .ok (.iconst 2, 1) := by decide +kernel
theorem dX3_ruleBrokenByGround_15 : decode cX3_ruleBrokenByGround 15 = .ok (.if_icmp .ne 7, 3) := by decide +kernel
theorem dX3_ruleBrokenByGround_18 : decode cX3_ruleBrokenByGround 18 = .ok (.iconst 1, 1) := by decide +kernel
theorem dX3_ruleBrokenByGround_19 : decode cX3_ruleBrokenByGround 19 = .ok (.goto 4, 3) := by decide +kernel
theorem dX3_ruleBrokenByGround_22 : decode cX3_ruleBrokenByGround 22 = .ok (.iconst 0, 1) := by decide +kernel
theorem dX3_ruleBrokenByGround_23 : decode cX3_ruleBrokenByGround 23 = .ok (.iload_n 1, 1) := by decide +kernel
theorem dX3_ruleBrokenByGround_24 : decode cX3_ruleBrokenByGround 24 = .ok (.iconst 2, 1) := by decide +kernel
theorem dX3_ruleBrokenByGround_25 : decode cX3_ruleBrokenByGround 25 = .ok (.if_icmp .ne 7, 3) := by decide +kernel
theorem dX3_ruleBrokenByGround_28 : decode cX3_ruleBrokenByGround 28 = .ok (.iconst 1, 1) := by decide +kernel
theorem dX3_ruleBrokenByGround_29 : decode cX3_ruleBrokenByGround 29 = .ok (.goto 4, 3) := by decide +kernel
theorem dX3_ruleBrokenByGround_32 : decode cX3_ruleBrokenByGround 32 = .ok (.iconst 0, 1) := by decide +kernel
theorem dX3_ruleBrokenByGround_33 : decode cX3_ruleBrokenByGround 33 = .ok (.if_icmp .eq 6, 3) := by decide +kernel
theorem dX3_ruleBrokenByGround_36 : decode cX3_ruleBrokenByGround 36 = .ok (.bipush 8, 2) := by decide +kernel
theorem dX3_ruleBrokenByGround_38 : decode cX3_ruleBrokenByGround 38 = .ok (.ireturn, 1) := by decide +kernel
theorem dX3_ruleBrokenByGround_39 : decode cX3_ruleBrokenByGround 39 = .ok (.iconst 0, 1) := by decide +kernel
theorem dX3_ruleBrokenByGround_40 : decode cX3_ruleBrokenByGround 40 = .ok (.ireturn, 1) := by decide +kernel
theorem dX3_move_0 : decode cX3_move 0 = .ok (.aload_n 0, 1) := by decide +kernel
theorem dX3_move_1 : decode cX3_move 1 = .ok (.getfield 36, 3) := by decide +kernel
theorem dX3_move_4 : decode cX3_move 4 = .ok (.iload_n 1, 1) := by decide +kernel
theorem dX3_move_5 : decode cX3_move 5 = .ok (.aload_n 0, 1) := by decide +kernel
theorem dX3_move_6 : decode cX3_move 6 = .ok (.getfield 29, 3) := by decide +kernel
theorem dX3_move_9 : decode cX3_move 9 = .ok (.getfield 133, 3) := by decide +kernel
theorem dX3_move_12 : decode cX3_move 12 = .ok (.iload_n 1, 1) := by decide +kernel
theorem dX3_move_13 : decode cX3_move 13 = .ok (.iaload, 1) := by decide +kernel
theorem dX3_move_14 : decode cX3_move 14 = .ok (.invokevirtual 224, 3) := by decide +kernel
theorem dX3_move_17 : decode cX3_move 17 = .ok (.aload_n 0, 1) := by decide +kernel
theorem dX3_move_18 : decode cX3_move 18 = .ok (.getfield 29, 3) := by decide +kernel
theorem dX3_move_21 : decode cX3_move 21 = .ok (.iload_n 1, 1) := by decide +kernel
theorem dX3_move_22 : decode cX3_move 22 = .ok (.iload_n 2, 1) := by decide +kernel
theorem dX3_move_23 : decode cX3_move 23 = .ok (.invokevirtual 130, 3) := by decide +kernel
theorem dX3_move_26 : decode cX3_move 26 = .ok (.return_, 1) := by decide +kernel
theorem dX1_keep_0 : decode cX1_keep 0 = .ok (.aload_n 0, 1) := by decide +kernel
theorem dX1_keep_1 : decode cX1_keep 1 = .ok (.getfield 18, 3) := by decide +kernel
theorem dX1_keep_4 : decode cX1_keep 4 = .ok (.bipush 100, 2) := by decide +kernel
theorem dX1_keep_6 : decode cX1_keep 6 = .ok (.irem, 1) := by decide +kernel
theorem dX1_keep_7 : decode cX1_keep 7 = .ok (.istore_n 3, 1) := by decide +kernel
theorem dX1_keep_8 : decode cX1_keep 8 = .ok (.aload_n 0, 1) := by decide +kernel
theorem dX1_keep_9 : decode cX1_keep 9 = .ok (.getfield 9, 3) := by decide +kernel
theorem dX1_keep_12 : decode cX1_keep 12 = .ok (.iload_n 3, 1) := by decide +kernel
theorem dX1_keep_13 : decode cX1_keep 13 = .ok (.iload_n 1, 1) := by decide +kernel
theorem dX1_keep_14 : decode cX1_keep 14 = .ok (.iastore, 1) := by decide +kernel
theorem dX1_keep_15 : decode cX1_keep 15 = .ok (.aload_n 0, 1) := by decide +kernel
theorem dX1_keep_16 : decode cX1_keep 16 = .ok (.getfield 15, 3) := by decide +kernel
theorem dX1_keep_19 : decode cX1_keep 19 = .ok (.iload_n 3, 1) := by decide +kernel
theorem dX1_keep_20 : decode cX1_keep 20 = .ok (.iload_n 2, 1) := by decide +kernel
theorem dX1_keep_21 : decode cX1_keep 21 = .ok (.iastore, 1) := by decide +kernel
theorem dX1_keep_22 : decode cX1_keep 22 = .ok (.aload_n 0, 1) := by decide +kernel
theorem dX1_keep_23 : decode cX1_keep 23 = .ok (.dup, 1) := by decide +kernel
theorem dX1_keep_24 : decode cX1_keep 24 = .ok (.getfield 18, 3) := by decide +kernel
theorem dX1_keep_27 : decode cX1_keep 27 = .ok (.iconst 1, 1) := by decide +kernel
theorem dX1_keep_28 : decode cX1_keep 28 = .ok (.iadd, 1) := by decide +kernel
theorem dX1_keep_29 : decode cX1_keep 29 = .ok (.putfield 18, 3) := by decide +kernel
theorem dX1_keep_32 : decode cX1_keep 32 = .ok (.aload_n 0, 1) := by decide +kernel
theorem dX1_keep_33 : decode cX1_keep 33 = .ok (.aload_n 0, 1) := by decide +kernel
theorem dX1_keep_34 : decode cX1_keep 34 = .ok (.getfield 22, 3) := by decide +kernel
theorem dX1_keep_37 : decode cX1_keep 37 = .ok (.iconst 1, 1) := by decide +kernel
theorem dX1_keep_38 : decode cX1_keep 38 = .ok (.iadd, 1) := by decide +kernel
theorem dX1_keep_39 : decode cX1_keep 39 = .ok (.bipush 100, 2) := by decide +kernel
theorem dX1_keep_41 : decode cX1_keep 41 = .ok (.invokestatic 25, 3) := by decide +kernel
theorem dX1_keep_44 : decode cX1_keep 44 = .ok (.putfield 22, 3) := by decide +kernel
theorem dX1_keep_47 : decode cX1_keep 47 = .ok (.return_, 1) := by decide +kernel
theorem dX3_take_0 : decode cX3_take 0 = .ok (.aload_n 0, 1) := by decide +kernel
theorem dX3_take_1 : decode cX3_take 1 = .ok (.iload_n 1, 1) := by decide +kernel
theorem dX3_take_2 : decode cX3_take 2 = .ok (.invokevirtual 81, 3) := by decide +kernel
theorem dX3_take_5 : decode cX3_take 5 = .ok (.aload_n 0, 1) := by decide +kernel
theorem dX3_take_6 : decode cX3_take 6 = .ok (.getfield 29, 3) := by decide +kernel
theorem dX3_take_9 : decode cX3_take 9 = .ok (.iload_n 1, 1) := by decide +kernel
theorem dX3_take_10 : decode cX3_take 10 = .ok (.invokevirtual 94, 3) := by decide +kernel
theorem dX3_take_13 : decode cX3_take 13 = .ok (.ifCond .ne 5, 3) := by decide +kernel
theorem dX3_take_16 : decode cX3_take 16 = .ok (.iconst 0, 1) := by decide +kernel
theorem dX3_take_17 : decode cX3_take 17 = .ok (.ireturn, 1) := by decide +kernel
theorem dX3_take_18 : decode cX3_take 18 = .ok (.aload_n 0, 1) := by decide +kernel
theorem dX3_take_19 : decode cX3_take 19 = .ok (.iload_n 1, 1) := by decide +kernel
theorem dX3_take_20 : decode cX3_take 20 = .ok (.iconst (-1), 1) := by decide +kernel
theorem dX3_take_21 : decode cX3_take 21 = .ok (.invokevirtual 91, 3) := by decide +kernel
theorem dX3_take_24 : decode cX3_take 24 = .ok (.iconst 1, 1) := by decide +kernel
theorem dX3_take_25 : decode cX3_take 25 = .ok (.ireturn, 1) := by decide +kernel
theorem dX2_isOnTop_0 : decode cX2_isOnTop 0 = .ok (.aload_n 0, 1) := by decide +kernel
theorem dX2_isOnTop_1 : decode cX2_isOnTop 1 = .ok (.iload_n 1, 1) := by decide +kernel
theorem dX2_isOnTop_2 : decode cX2_isOnTop 2 = .ok (.invokevirtual 39, 3) := by decide +kernel
theorem dX2_isOnTop_5 : decode cX2_isOnTop 5 = .ok (.ifCond .eq 15, 3) := by decide +kernel
theorem dX2_isOnTop_8 : decode cX2_isOnTop 8 = .ok (.aload_n 0, 1) := by decide +kernel
theorem dX2_isOnTop_9 : decode cX2_isOnTop 9 = .ok (.iload_n 1, 1) := by decide +kernel
theorem dX2_isOnTop_10 : decode cX2_isOnTop 10 = .ok (.invokevirtual 43, 3) := by decide +kernel
theorem dX2_isOnTop_13 : decode cX2_isOnTop 13 = .ok (.ifCond .ne 7, 3) := by decide +kernel
theorem dX2_isOnTop_16 : decode cX2_isOnTop 16 = .ok (.iconst 1, 1) := by decide +kernel
theorem dX2_isOnTop_17 : decode cX2_isOnTop 17 = .ok (.goto 4, 3) := by decide +kernel
theorem dX2_isOnTop_20 : decode cX2_isOnTop 20 = .ok (.iconst 0, 1) := by decide +kernel
theorem dX2_isOnTop_21 : decode cX2_isOnTop 21 = .ok (.ireturn, 1) := by decide +kernel
theorem dX2_above_0 : decode cX2_above 0 = .ok (.aload_n 0, 1) := by decide +kernel
theorem dX2_above_1 : decode cX2_above 1 = .ok (.iload_n 1, 1) := by decide +kernel
theorem dX2_above_2 : decode cX2_above 2 = .ok (.invokevirtual 39, 3) := by decide +kernel
theorem dX2_above_5 : decode cX2_above 5 = .ok (.ifCond .eq 26, 3) := by decide +kernel
theorem dX2_above_8 : decode cX2_above 8 = .ok (.aload_n 0, 1) := by decide +kernel
theorem dX2_above_9 : decode cX2_above 9 = .ok (.getfield 30, 3) := by decide +kernel
theorem dX2_above_12 : decode cX2_above 12 = .ok (.aload_n 0, 1) := by decide +kernel
theorem dX2_above_13 : decode cX2_above 13 = .ok (.getfield 9, 3) := by decide +kernel
theorem dX2_above_16 : decode cX2_above 16 = .ok (.iload_n 1, 1) := by decide +kernel
theorem dX2_above_17 : decode cX2_above 17 = .ok (.iaload, 1) := by decide +kernel
theorem dX2_above_18 : decode cX2_above 18 = .ok (.iaload, 1) := by decide +kernel
theorem dX2_above_19 : decode cX2_above 19 = .ok (.iconst 1, 1) := by decide +kernel
theorem dX2_above_20 : decode cX2_above 20 = .ok (.isub, 1) := by decide +kernel
theorem dX2_above_21 : decode cX2_above 21 = .ok (.aload_n 0, 1) := by decide +kernel
theorem dX2_above_22 : decode cX2_above 22 = .ok (.getfield 15, 3) := by decide +kernel
theorem dX2_above_25 : decode cX2_above 25 = .ok (.iload_n 1, 1) := by decide +kernel
theorem dX2_above_26 : decode cX2_above 26 = .ok (.iaload, 1) := by decide +kernel
theorem dX2_above_27 : decode cX2_above 27 = .ok (.isub, 1) := by decide +kernel
theorem dX2_above_28 : decode cX2_above 28 = .ok (.goto 4, 3) := by decide +kernel
theorem dX2_above_31 : decode cX2_above 31 = .ok (.iconst 0, 1) := by decide +kernel
theorem dX2_above_32 : decode cX2_above 32 = .ok (.ireturn, 1) := by decide +kernel
theorem dX3_shift_0 : decode cX3_shift 0 = .ok (.aload_n 0, 1) := by decide +kernel
theorem dX3_shift_1 : decode cX3_shift 1 = .ok (.iload_n 1, 1) := by decide +kernel
theorem dX3_shift_2 : decode cX3_shift 2 = .ok (.invokevirtual 81, 3) := by decide +kernel
theorem dX3_shift_5 : decode cX3_shift 5 = .ok (.aload_n 0, 1) := by decide +kernel
theorem dX3_shift_6 : decode cX3_shift 6 = .ok (.iload_n 2, 1) := by decide +kernel
theorem dX3_shift_7 : decode cX3_shift 7 = .ok (.invokevirtual 85, 3) := by decide +kernel
theorem dX3_shift_10 : decode cX3_shift 10 = .ok (.aload_n 0, 1) := by decide +kernel
theorem dX3_shift_11 : decode cX3_shift 11 = .ok (.getfield 29, 3) := by decide +kernel
theorem dX3_shift_14 : decode cX3_shift 14 = .ok (.iload_n 1, 1) := by decide +kernel
theorem dX3_shift_15 : decode cX3_shift 15 = .ok (.invokevirtual 94, 3) := by decide +kernel
theorem dX3_shift_18 : decode cX3_shift 18 = .ok (.ifCond .ne 5, 3) := by decide +kernel
theorem dX3_shift_21 : decode cX3_shift 21 = .ok (.iconst 0, 1) := by decide +kernel
theorem dX3_shift_22 : decode cX3_shift 22 = .ok (.ireturn, 1) := by decide +kernel
theorem dX3_shift_23 : decode cX3_shift 23 = .ok (.aload_n 0, 1) := by decide +kernel
theorem dX3_shift_24 : decode cX3_shift 24 = .ok (.iload_n 1, 1) := by decide +kernel
theorem dX3_shift_25 : decode cX3_shift 25 = .ok (.iload_n 2, 1) := by decide +kernel
theorem dX3_shift_26 : decode cX3_shift 26 = .ok (.invokevirtual 97, 3) := by decide +kernel
theorem dX3_shift_29 : decode cX3_shift 29 = .ok (.istore_n 3, 1) := by decide +kernel
theorem dX3_shift_30 : decode cX3_shift 30 = .ok (.iload_n 3, 1) := by decide +kernel
theorem dX3_shift_31 : decode cX3_shift 31 = .ok (.ifCond .eq 6, 3) := by decide +kernel
theorem dX3_shift_34 : decode cX3_shift 34 = .ok (.iload_n 3, 1) := by decide +kernel
theorem dX3_shift_35 : decode cX3_shift 35 = .ok (.ineg, 1) := by decide +kernel
theorem dX3_shift_36 : decode cX3_shift 36 = .ok (.ireturn, 1) := by decide +kernel
theorem dX3_shift_37 : decode cX3_shift 37 = .ok (.aload_n 0, 1) := by decide +kernel
theorem dX3_shift_38 : decode cX3_shift 38 = .ok (.iload_n 1, 1) := by decide +kernel
theorem dX3_shift_39 : decode cX3_shift 39 = .ok (.iload_n 2, 1) := by decide +kernel
theorem dX3_shift_40 : decode cX3_shift 40 = .ok (.invokevirtual 91, 3) := by decide +kernel
theorem dX3_shift_43 : decode cX3_shift 43 = .ok (.iconst 1, 1) := by decide +kernel
theorem dX3_shift_44 : decode cX3_shift 44 = .ok (.ireturn, 1) := by decide +kernel
theorem dX3_ruleBrokenByShift_0 : decode cX3_ruleBrokenByShift 0 = .ok (.aload_n 0, 1) := by decide +kernel
theorem dX3_ruleBrokenByShift_1 : decode cX3_ruleBrokenByShift 1 = .ok (.getfield 29, 3) := by decide +kernel
theorem dX3_ruleBrokenByShift_4 : decode cX3_ruleBrokenByShift 4 = .ok (.getfield 133, 3) := by decide +kernel
theorem dX3_ruleBrokenByShift_7 : decode cX3_ruleBrokenByShift 7 = .ok (.iload_n 1, 1) := by decide +kernel
theorem dX3_ruleBrokenByShift_8 : decode cX3_ruleBrokenByShift 8 = .ok (.iaload, 1) := by decide +kernel
theorem dX3_ruleBrokenByShift_9 : decode cX3_ruleBrokenByShift 9 = .ok (.iload_n 2, 1) := by decide +kernel
theorem dX3_ruleBrokenByShift_10 : decode cX3_ruleBrokenByShift 10 = .ok (.if_icmp .ne 7, 3) := by decide +kernel
theorem dX3_ruleBrokenByShift_13 : decode cX3_ruleBrokenByShift 13 = .ok (.iconst 1, 1) := by decide +kernel
theorem dX3_ruleBrokenByShift_14 : decode cX3_ruleBrokenByShift 14 = .ok (.goto 9, 3) := by decide +kernel
theorem dX3_ruleBrokenByShift_17 : decode cX3_ruleBrokenByShift 17 = .ok (.aload_n 0, 1) := by decide +kernel
theorem dX3_ruleBrokenByShift_18 : decode cX3_ruleBrokenByShift 18 = .ok (.iload_n 1, 1) := by decide +kernel
theorem dX3_ruleBrokenByShift_19 : decode cX3_ruleBrokenByShift 19 = .ok (.iload_n 2, 1) := by decide +kernel
theorem dX3_ruleBrokenByShift_20 : decode cX3_ruleBrokenByShift 20 = .ok (.invokevirtual 205, 3) := by decide +kernel
theorem dX3_ruleBrokenByShift_23 : decode cX3_ruleBrokenByShift 23 = .ok (.ireturn, 1) := by decide +kernel
theorem dX3_choose_0 : decode cX3_choose 0 = .ok (.aload_n 0, 1) := by decide +kernel
theorem dX3_choose_1 : decode cX3_choose 1 = .ok (.iload_n 1, 1) := by decide +kernel
theorem dX3_choose_2 : decode cX3_choose 2 = .ok (.invokevirtual 81, 3) := by decide +kernel
theorem dX3_choose_5 : decode cX3_choose 5 = .ok (.aload_n 0, 1) := by decide +kernel
theorem dX3_choose_6 : decode cX3_choose 6 = .ok (.getfield 29, 3) := by decide +kernel
theorem dX3_choose_9 : decode cX3_choose 9 = .ok (.iload_n 1, 1) := by decide +kernel
theorem dX3_choose_10 : decode cX3_choose 10 = .ok (.invokevirtual 100, 3) := by decide +kernel
theorem dX3_choose_13 : decode cX3_choose 13 = .ok (.ifCond .eq 7, 3) := by decide +kernel
theorem dX3_choose_16 : decode cX3_choose 16 = .ok (.iconst (-1), 1) := by decide +kernel
theorem dX3_choose_17 : decode cX3_choose 17 = .ok (.goto 9, 3) := by decide +kernel
theorem dX3_choose_20 : decode cX3_choose 20 = .ok (.aload_n 0, 1) := by decide +kernel
theorem dX3_choose_21 : decode cX3_choose 21 = .ok (.iload_n 1, 1) := by decide +kernel
theorem dX3_choose_22 : decode cX3_choose 22 = .ok (.iconst 0, 1) := by decide +kernel
theorem dX3_choose_23 : decode cX3_choose 23 = .ok (.invokevirtual 103, 3) := by decide +kernel
theorem dX3_choose_26 : decode cX3_choose 26 = .ok (.ireturn, 1) := by decide +kernel
theorem dX3_bestRow_0 : decode cX3_bestRow 0 = .ok (.iconst (-1), 1) := by decide +kernel
theorem dX3_bestRow_1 : decode cX3_bestRow 1 = .ok (.istore_n 3, 1) := by decide +kernel
theorem dX3_bestRow_2 : decode cX3_bestRow 2 = .ok (.iconst 0, 1) := by decide +kernel
theorem dX3_bestRow_3 : decode cX3_bestRow 3 = .ok (.istore 4, 2) := by decide +kernel
theorem dX3_bestRow_5 : decode cX3_bestRow 5 = .ok (.iconst 0, 1) := by decide +kernel
theorem dX3_bestRow_6 : decode cX3_bestRow 6 = .ok (.istore 5, 2) := by decide +kernel
theorem dX3_bestRow_8 : decode cX3_bestRow 8 = .ok (.iload 5, 2) := by decide +kernel
theorem dX3_bestRow_10 : decode cX3_bestRow 10 = .ok (.aload_n 0, 1) := by decide +kernel
theorem dX3_bestRow_11 : decode cX3_bestRow 11 = .ok (.getfield 29, 3) := by decide +kernel
theorem dX3_bestRow_14 : decode cX3_bestRow 14 = .ok (.getfield 175, 3) := by decide +kernel
theorem dX3_bestRow_17 : decode cX3_bestRow 17 = .ok (.if_icmp .ge 64, 3) := by decide +kernel
theorem dX3_bestRow_20 : decode cX3_bestRow 20 = .ok (.aload_n 0, 1) := by decide +kernel
theorem dX3_bestRow_21 : decode cX3_bestRow 21 = .ok (.iload_n 1, 1) := by decide +kernel
theorem dX3_bestRow_22 : decode cX3_bestRow 22 = .ok (.iload 5, 2) := by decide +kernel
theorem dX3_bestRow_24 : decode cX3_bestRow 24 = .ok (.invokevirtual 97, 3) := by decide +kernel
theorem dX3_bestRow_27 : decode cX3_bestRow 27 = .ok (.ifCond .ne 48, 3) := by decide +kernel
theorem dX3_bestRow_30 : decode cX3_bestRow 30 = .ok (.iload_n 2, 1) := by decide +kernel
theorem dX3_bestRow_31 : decode cX3_bestRow 31 = .ok (.ifCond .eq 16, 3) := by decide +kernel
theorem dX3_bestRow_34 : decode cX3_bestRow 34 = .ok (.aload_n 0, 1) := by decide +kernel
theorem dX3_bestRow_35 : decode cX3_bestRow 35 = .ok (.iload_n 1, 1) := by decide +kernel
theorem dX3_bestRow_36 : decode cX3_bestRow 36 = .ok (.iload 5, 2) := by decide +kernel
theorem dX3_bestRow_38 : decode cX3_bestRow 38 = .ok (.invokevirtual 221, 3) := by decide +kernel
theorem dX3_bestRow_41 : decode cX3_bestRow 41 = .ok (.ifCond .eq 6, 3) := by decide +kernel
theorem dX3_bestRow_44 : decode cX3_bestRow 44 = .ok (.goto 31, 3) := by decide +kernel
theorem dX3_bestRow_47 : decode cX3_bestRow 47 = .ok (.aload_n 0, 1) := by decide +kernel
theorem dX3_bestRow_48 : decode cX3_bestRow 48 = .ok (.iload_n 1, 1) := by decide +kernel
theorem dX3_bestRow_49 : decode cX3_bestRow 49 = .ok (.iload 5, 2) := by decide +kernel
theorem dX3_bestRow_51 : decode cX3_bestRow 51 = .ok (.invokevirtual 109, 3) := by decide +kernel
theorem dX3_bestRow_54 : decode cX3_bestRow 54 = .ok (.istore 6, 2) := by decide +kernel
theorem dX3_bestRow_56 : decode cX3_bestRow 56 = .ok (.iload_n 3, 1) := by decide +kernel
theorem dX3_bestRow_57 : decode cX3_bestRow 57 = .ok (.iconst (-1), 1) := by decide +kernel
theorem dX3_bestRow_58 : decode cX3_bestRow 58 = .ok (.if_icmp .eq 10, 3) := by decide +kernel
theorem dX3_bestRow_61 : decode cX3_bestRow 61 = .ok (.iload 6, 2) := by decide +kernel
theorem dX3_bestRow_63 : decode cX3_bestRow 63 = .ok (.iload 4, 2) := by decide +kernel
theorem dX3_bestRow_65 : decode cX3_bestRow 65 = .ok (.if_icmp .le 10, 3) := by decide +kernel
theorem dX3_bestRow_68 : decode cX3_bestRow 68 = .ok (.iload 5, 2) := by decide +kernel
theorem dX3_bestRow_70 : decode cX3_bestRow 70 = .ok (.istore_n 3, 1) := by decide +kernel
theorem dX3_bestRow_71 : decode cX3_bestRow 71 = .ok (.iload 6, 2) := by decide +kernel
theorem dX3_bestRow_73 : decode cX3_bestRow 73 = .ok (.istore 4, 2) := by decide +kernel
theorem dX3_bestRow_75 : decode cX3_bestRow 75 = .ok (.iinc 5 1, 3) := by decide +kernel
theorem dX3_bestRow_78 : decode cX3_bestRow 78 = .ok (.goto (-70), 3) := by decide +kernel
theorem dX3_bestRow_81 : decode cX3_bestRow 81 = .ok (.iload_n 3, 1) := by decide +kernel
theorem dX3_bestRow_82 : decode cX3_bestRow 82 = .ok (.ireturn, 1) := by decide +kernel
theorem dX3_wouldBeInTheWay_0 : decode cX3_wouldBeInTheWay 0 = .ok (.aload_n 0, 1) := by decide +kernel
theorem dX3_wouldBeInTheWay_1 : decode cX3_wouldBeInTheWay 1 = .ok (.iload_n 1, 1) := by decide +kernel
theorem dX3_wouldBeInTheWay_2 : decode cX3_wouldBeInTheWay 2 = .ok (.iload_n 2, 1) := by decide +kernel
theorem dX3_wouldBeInTheWay_3 : decode cX3_wouldBeInTheWay 3 = .ok (.aload_n 0, 1) := by decide +kernel
theorem dX3_wouldBeInTheWay_4 : decode cX3_wouldBeInTheWay 4 = .ok (.getfield 29, 3) := by decide +kernel
theorem dX3_wouldBeInTheWay_7 : decode cX3_wouldBeInTheWay 7 = .ok (.getfield 74, 3) := by decide +kernel
theorem dX3_wouldBeInTheWay_10 : decode cX3_wouldBeInTheWay 10 = .ok (.iload_n 2, 1) := by decide +kernel
theorem dX3_wouldBeInTheWay_11 : decode cX3_wouldBeInTheWay 11 = .ok (.iaload, 1) := by decide +kernel
theorem dX3_wouldBeInTheWay_12 : decode cX3_wouldBeInTheWay 12 = .ok (.invokevirtual 217, 3) := by decide +kernel
theorem dX3_wouldBeInTheWay_15 : decode cX3_wouldBeInTheWay 15 = .ok (.ifCond .le 7, 3) := by decide +kernel
theorem dX3_wouldBeInTheWay_18 : decode cX3_wouldBeInTheWay 18 = .ok (.iconst 1, 1) := by decide +kernel
theorem dX3_wouldBeInTheWay_19 : decode cX3_wouldBeInTheWay 19 = .ok (.goto 4, 3) := by decide +kernel
theorem dX3_wouldBeInTheWay_22 : decode cX3_wouldBeInTheWay 22 = .ok (.iconst 0, 1) := by decide +kernel
theorem dX3_wouldBeInTheWay_23 : decode cX3_wouldBeInTheWay 23 = .ok (.ireturn, 1) := by decide +kernel
theorem dX3_scoreOn_0 : decode cX3_scoreOn 0 = .ok (.aload_n 0, 1) := by decide +kernel
theorem dX3_scoreOn_1 : decode cX3_scoreOn 1 = .ok (.getfield 44, 3) := by decide +kernel
theorem dX3_scoreOn_4 : decode cX3_scoreOn 4 = .ok (.iload_n 2, 1) := by decide +kernel
theorem dX3_scoreOn_5 : decode cX3_scoreOn 5 = .ok (.iaload, 1) := by decide +kernel
theorem dX3_scoreOn_6 : decode cX3_scoreOn 6 = .ok (.ifCond .ne 7, 3) := by decide +kernel
theorem dX3_scoreOn_9 : decode cX3_scoreOn 9 = .ok (.iconst 0, 1) := by decide +kernel
theorem dX3_scoreOn_10 : decode cX3_scoreOn 10 = .ok (.goto 5, 3) := by decide +kernel
theorem dX3_scoreOn_13 : decode cX3_scoreOn 13 = .ok (.bipush 30, 2) := by decide +kernel
theorem dX3_scoreOn_15 : decode cX3_scoreOn 15 = .ok (.istore_n 3, 1) := by decide +kernel
theorem dX3_scoreOn_16 : decode cX3_scoreOn 16 = .ok (.aload_n 0, 1) := by decide +kernel
theorem dX3_scoreOn_17 : decode cX3_scoreOn 17 = .ok (.getfield 29, 3) := by decide +kernel
theorem dX3_scoreOn_20 : decode cX3_scoreOn 20 = .ok (.iload_n 2, 1) := by decide +kernel
theorem dX3_scoreOn_21 : decode cX3_scoreOn 21 = .ok (.invokevirtual 211, 3) := by decide +kernel
theorem dX3_scoreOn_24 : decode cX3_scoreOn 24 = .ok (.istore 4, 2) := by decide +kernel
theorem dX3_scoreOn_26 : decode cX3_scoreOn 26 = .ok (.iload 4, 2) := by decide +kernel
theorem dX3_scoreOn_28 : decode cX3_scoreOn 28 = .ok (.iconst (-1), 1) := by decide +kernel
theorem dX3_scoreOn_29 : decode cX3_scoreOn 29 = .ok (.if_icmp .ne 8, 3) := by decide +kernel
theorem dX3_scoreOn_32 : decode cX3_scoreOn 32 = .ok (.bipush 20, 2) := by decide +kernel
theorem dX3_scoreOn_34 : decode cX3_scoreOn 34 = .ok (.iload_n 3, 1) := by decide +kernel
theorem dX3_scoreOn_35 : decode cX3_scoreOn 35 = .ok (.iadd, 1) := by decide +kernel
theorem dX3_scoreOn_36 : decode cX3_scoreOn 36 = .ok (.ireturn, 1) := by decide +kernel
theorem dX3_scoreOn_37 : decode cX3_scoreOn 37 = .ok (.bipush 15, 2) := by decide +kernel
theorem dX3_scoreOn_39 : decode cX3_scoreOn 39 = .ok (.aload_n 0, 1) := by decide +kernel
theorem dX3_scoreOn_40 : decode cX3_scoreOn 40 = .ok (.iload_n 1, 1) := by decide +kernel
theorem dX3_scoreOn_41 : decode cX3_scoreOn 41 = .ok (.iload_n 2, 1) := by decide +kernel
theorem dX3_scoreOn_42 : decode cX3_scoreOn 42 = .ok (.aload_n 0, 1) := by decide +kernel
theorem dX3_scoreOn_43 : decode cX3_scoreOn 43 = .ok (.getfield 29, 3) := by decide +kernel
theorem dX3_scoreOn_46 : decode cX3_scoreOn 46 = .ok (.getfield 74, 3) := by decide +kernel
theorem dX3_scoreOn_49 : decode cX3_scoreOn 49 = .ok (.iload_n 2, 1) := by decide +kernel
theorem dX3_scoreOn_50 : decode cX3_scoreOn 50 = .ok (.iaload, 1) := by decide +kernel
theorem dX3_scoreOn_51 : decode cX3_scoreOn 51 = .ok (.invokevirtual 217, 3) := by decide +kernel
theorem dX3_scoreOn_54 : decode cX3_scoreOn 54 = .ok (.imul, 1) := by decide +kernel
theorem dX3_scoreOn_55 : decode cX3_scoreOn 55 = .ok (.istore 5, 2) := by decide +kernel
theorem dX3_scoreOn_57 : decode cX3_scoreOn 57 = .ok (.aload_n 0, 1) := by decide +kernel
theorem dX3_scoreOn_58 : decode cX3_scoreOn 58 = .ok (.getfield 20, 3) := by decide +kernel
theorem dX3_scoreOn_61 : decode cX3_scoreOn 61 = .ok (.getfield 155, 3) := by decide +kernel
theorem dX3_scoreOn_64 : decode cX3_scoreOn 64 = .ok (.iload 4, 2) := by decide +kernel
theorem dX3_scoreOn_66 : decode cX3_scoreOn 66 = .ok (.iaload, 1) := by decide +kernel
theorem dX3_scoreOn_67 : decode cX3_scoreOn 67 = .ok (.aload_n 0, 1) := by decide +kernel
theorem dX3_scoreOn_68 : decode cX3_scoreOn 68 = .ok (.getfield 20, 3) := by decide +kernel
theorem dX3_scoreOn_71 : decode cX3_scoreOn 71 = .ok (.getfield 155, 3) := by decide +kernel
theorem dX3_scoreOn_74 : decode cX3_scoreOn 74 = .ok (.iload_n 1, 1) := by decide +kernel
theorem dX3_scoreOn_75 : decode cX3_scoreOn 75 = .ok (.iaload, 1) := by decide +kernel
theorem dX3_scoreOn_76 : decode cX3_scoreOn 76 = .ok (.if_icmp .ne 8, 3) := by decide +kernel
theorem dX3_scoreOn_79 : decode cX3_scoreOn 79 = .ok (.bipush 12, 2) := by decide +kernel
theorem dX3_scoreOn_81 : decode cX3_scoreOn 81 = .ok (.goto 4, 3) := by decide +kernel
theorem dX3_scoreOn_84 : decode cX3_scoreOn 84 = .ok (.iconst 0, 1) := by decide +kernel
theorem dX3_scoreOn_85 : decode cX3_scoreOn 85 = .ok (.istore 6, 2) := by decide +kernel
theorem dX3_scoreOn_87 : decode cX3_scoreOn 87 = .ok (.aload_n 0, 1) := by decide +kernel
theorem dX3_scoreOn_88 : decode cX3_scoreOn 88 = .ok (.getfield 20, 3) := by decide +kernel
theorem dX3_scoreOn_91 : decode cX3_scoreOn 91 = .ok (.getfield 149, 3) := by decide +kernel
theorem dX3_scoreOn_94 : decode cX3_scoreOn 94 = .ok (.iload 4, 2) := by decide +kernel
theorem dX3_scoreOn_96 : decode cX3_scoreOn 96 = .ok (.iaload, 1) := by decide +kernel
theorem dX3_scoreOn_97 : decode cX3_scoreOn 97 = .ok (.aload_n 0, 1) := by decide +kernel
theorem dX3_scoreOn_98 : decode cX3_scoreOn 98 = .ok (.getfield 20, 3) := by decide +kernel
theorem dX3_scoreOn_101 : decode cX3_scoreOn 101 = .ok (.getfield 149, 3) := by decide +kernel
theorem dX3_scoreOn_104 : decode cX3_scoreOn 104 = .ok (.iload_n 1, 1) := by decide +kernel
theorem dX3_scoreOn_105 : decode cX3_scoreOn 105 = .ok (.iaload, 1) := by decide +kernel
theorem dX3_scoreOn_106 : decode cX3_scoreOn 106 = .ok (.isub, 1) := by decide +kernel
theorem dX3_scoreOn_107 : decode cX3_scoreOn 107 = .ok (.istore 7, 2) := by decide +kernel
theorem dX3_scoreOn_109 : decode cX3_scoreOn 109 = .ok (.iconst 3, 1) := by decide +kernel
theorem dX3_scoreOn_110 : decode cX3_scoreOn 110 = .ok (.iload 7, 2) := by decide +kernel
theorem dX3_scoreOn_112 : decode cX3_scoreOn 112 = .ok (.imul, 1) := by decide +kernel
theorem dX3_scoreOn_113 : decode cX3_scoreOn 113 = .ok (.bipush 24, 2) := by decide +kernel
theorem dX3_scoreOn_115 : decode cX3_scoreOn 115 = .ok (.invokestatic 190, 3) := by decide +kernel
theorem dX3_scoreOn_118 : decode cX3_scoreOn 118 = .ok (.istore 8, 2) := by decide +kernel
theorem dX3_scoreOn_120 : decode cX3_scoreOn 120 = .ok (.bipush 40, 2) := by decide +kernel
theorem dX3_scoreOn_122 : decode cX3_scoreOn 122 = .ok (.iload 5, 2) := by decide +kernel
theorem dX3_scoreOn_124 : decode cX3_scoreOn 124 = .ok (.isub, 1) := by decide +kernel
theorem dX3_scoreOn_125 : decode cX3_scoreOn 125 = .ok (.iload 6, 2) := by decide +kernel
theorem dX3_scoreOn_127 : decode cX3_scoreOn 127 = .ok (.iadd, 1) := by decide +kernel
theorem dX3_scoreOn_128 : decode cX3_scoreOn 128 = .ok (.iload 8, 2) := by decide +kernel
theorem dX3_scoreOn_130 : decode cX3_scoreOn 130 = .ok (.isub, 1) := by decide +kernel
theorem dX3_scoreOn_131 : decode cX3_scoreOn 131 = .ok (.iload_n 3, 1) := by decide +kernel
theorem dX3_scoreOn_132 : decode cX3_scoreOn 132 = .ok (.iadd, 1) := by decide +kernel
theorem dX3_scoreOn_133 : decode cX3_scoreOn 133 = .ok (.ireturn, 1) := by decide +kernel
theorem dX3_score_0 : decode cX3_score 0 = .ok (.aload_n 0, 1) := by decide +kernel
theorem dX3_score_1 : decode cX3_score 1 = .ok (.iload_n 1, 1) := by decide +kernel
theorem dX3_score_2 : decode cX3_score 2 = .ok (.invokevirtual 81, 3) := by decide +kernel
theorem dX3_score_5 : decode cX3_score 5 = .ok (.aload_n 0, 1) := by decide +kernel
theorem dX3_score_6 : decode cX3_score 6 = .ok (.iload_n 2, 1) := by decide +kernel
theorem dX3_score_7 : decode cX3_score 7 = .ok (.invokevirtual 85, 3) := by decide +kernel
theorem dX3_score_10 : decode cX3_score 10 = .ok (.aload_n 0, 1) := by decide +kernel
theorem dX3_score_11 : decode cX3_score 11 = .ok (.iload_n 1, 1) := by decide +kernel
theorem dX3_score_12 : decode cX3_score 12 = .ok (.iload_n 2, 1) := by decide +kernel
theorem dX3_score_13 : decode cX3_score 13 = .ok (.invokevirtual 88, 3) := by decide +kernel
theorem dX3_score_16 : decode cX3_score 16 = .ok (.ifCond .eq 13, 3) := by decide +kernel
theorem dX3_score_19 : decode cX3_score 19 = .ok (.new 61, 3) := by decide +kernel
theorem dX3_score_22 : decode cX3_score 22 = .ok (.dup, 1) := by decide +kernel
theorem dX3_score_23 : decode cX3_score 23 = .ok (.ldc 107, 2) := by decide +kernel
theorem dX3_score_25 : decode cX3_score 25 = .ok (.invokespecial 65, 3) := by decide +kernel
theorem dX3_score_28 : decode cX3_score 28 = .ok (.athrow, 1) := by decide +kernel
theorem dX3_score_29 : decode cX3_score 29 = .ok (.aload_n 0, 1) := by decide +kernel
theorem dX3_score_30 : decode cX3_score 30 = .ok (.iload_n 1, 1) := by decide +kernel
theorem dX3_score_31 : decode cX3_score 31 = .ok (.iload_n 2, 1) := by decide +kernel
theorem dX3_score_32 : decode cX3_score 32 = .ok (.invokevirtual 109, 3) := by decide +kernel
theorem dX3_score_35 : decode cX3_score 35 = .ok (.ireturn, 1) := by decide +kernel
theorem dX3_night_0 : decode cX3_night 0 = .ok (.iload_n 1, 1) := by decide +kernel
theorem dX3_night_1 : decode cX3_night 1 = .ok (.iconst 0, 1) := by decide +kernel
theorem dX3_night_2 : decode cX3_night 2 = .ok (.bipush 50, 2) := by decide +kernel
theorem dX3_night_4 : decode cX3_night 4 = .ok (.invokestatic 47, 3) := by decide +kernel
theorem dX3_night_7 : decode cX3_night 7 = .ok (.ifCond .ne 13, 3) := by decide +kernel
theorem dX3_night_10 : decode cX3_night 10 = .ok (.new 51, 3) := by decide +kernel
theorem dX3_night_13 : decode cX3_night 13 = .ok (.dup, 1) := by decide +kernel
theorem dX3_night_14 : decode cX3_night 14 = .ok (.ldc 112, 2) := by decide +kernel
theorem dX3_night_16 : decode cX3_night 16 = .ok (.invokespecial 55, 3) := by decide +kernel
theorem dX3_night_19 : decode cX3_night 19 = .ok (.athrow, 1) := by decide +kernel
theorem dX3_night_20 : decode cX3_night 20 = .ok (.iconst 0, 1) := by decide +kernel
theorem dX3_night_21 : decode cX3_night 21 = .ok (.istore_n 2, 1) := by decide +kernel
theorem dX3_night_22 : decode cX3_night 22 = .ok (.iload_n 2, 1) := by decide +kernel
theorem dX3_night_23 : decode cX3_night 23 = .ok (.iload_n 1, 1) := by decide +kernel
theorem dX3_night_24 : decode cX3_night 24 = .ok (.if_icmp .ge 18, 3) := by decide +kernel
theorem dX3_night_27 : decode cX3_night 27 = .ok (.aload_n 0, 1) := by decide +kernel
theorem dX3_night_28 : decode cX3_night 28 = .ok (.invokevirtual 114, 3) := by decide +kernel
theorem dX3_night_31 : decode cX3_night 31 = .ok (.ifCond .ne 5, 3) := by decide +kernel
theorem dX3_night_34 : decode cX3_night 34 = .ok (.iload_n 2, 1) := by decide +kernel
theorem dX3_night_35 : decode cX3_night 35 = .ok (.ireturn, 1) := by decide +kernel
theorem dX3_night_36 : decode cX3_night 36 = .ok (.iinc 2 1, 3) := by decide +kernel
theorem dX3_night_39 : decode cX3_night 39 = .ok (.goto (-17), 3) := by decide +kernel
theorem dX3_night_42 : decode cX3_night 42 = .ok (.iload_n 1, 1) := by decide +kernel
theorem dX3_night_43 : decode cX3_night 43 = .ok (.ireturn, 1) := by decide +kernel
theorem dX3_moveOneAside_0 : decode cX3_moveOneAside 0 = .ok (.iconst (-1), 1) := by decide +kernel
theorem dX3_moveOneAside_1 : decode cX3_moveOneAside 1 = .ok (.istore_n 1, 1) := by decide +kernel
theorem dX3_moveOneAside_2 : decode cX3_moveOneAside 2 = .ok (.iconst (-1), 1) := by decide +kernel
theorem dX3_moveOneAside_3 : decode cX3_moveOneAside 3 = .ok (.istore_n 2, 1) := by decide +kernel
theorem dX3_moveOneAside_4 : decode cX3_moveOneAside 4 = .ok (.iconst 0, 1) := by decide +kernel
theorem dX3_moveOneAside_5 : decode cX3_moveOneAside 5 = .ok (.istore_n 3, 1) := by decide +kernel
theorem dX3_moveOneAside_6 : decode cX3_moveOneAside 6 = .ok (.iconst 0, 1) := by decide +kernel
theorem dX3_moveOneAside_7 : decode cX3_moveOneAside 7 = .ok (.istore 4, 2) := by decide +kernel
theorem dX3_moveOneAside_9 : decode cX3_moveOneAside 9 = .ok (.iload 4, 2) := by decide +kernel
theorem dX3_moveOneAside_11 : decode cX3_moveOneAside 11 = .ok (.aload_n 0, 1) := by decide +kernel
theorem dX3_moveOneAside_12 : decode cX3_moveOneAside 12 = .ok (.getfield 29, 3) := by decide +kernel
theorem dX3_moveOneAside_15 : decode cX3_moveOneAside 15 = .ok (.getfield 175, 3) := by decide +kernel
theorem dX3_moveOneAside_18 : decode cX3_moveOneAside 18 = .ok (.if_icmp .ge 83, 3) := by decide +kernel
theorem dX3_moveOneAside_21 : decode cX3_moveOneAside 21 = .ok (.aload_n 0, 1) := by decide +kernel
theorem dX3_moveOneAside_22 : decode cX3_moveOneAside 22 = .ok (.getfield 29, 3) := by decide +kernel
theorem dX3_moveOneAside_25 : decode cX3_moveOneAside 25 = .ok (.iload 4, 2) := by decide +kernel
theorem dX3_moveOneAside_27 : decode cX3_moveOneAside 27 = .ok (.invokevirtual 211, 3) := by decide +kernel
theorem dX3_moveOneAside_30 : decode cX3_moveOneAside 30 = .ok (.istore 5, 2) := by decide +kernel
theorem dX3_moveOneAside_32 : decode cX3_moveOneAside 32 = .ok (.iload 5, 2) := by decide +kernel
theorem dX3_moveOneAside_34 : decode cX3_moveOneAside 34 = .ok (.iconst (-1), 1) := by decide +kernel
theorem dX3_moveOneAside_35 : decode cX3_moveOneAside 35 = .ok (.if_icmp .ne 6, 3) := by decide +kernel
theorem dX3_moveOneAside_38 : decode cX3_moveOneAside 38 = .ok (.goto 57, 3) := by decide +kernel
theorem dX3_moveOneAside_41 : decode cX3_moveOneAside 41 = .ok (.aload_n 0, 1) := by decide +kernel
theorem dX3_moveOneAside_42 : decode cX3_moveOneAside 42 = .ok (.iload 5, 2) := by decide +kernel
theorem dX3_moveOneAside_44 : decode cX3_moveOneAside 44 = .ok (.iload 4, 2) := by decide +kernel
theorem dX3_moveOneAside_46 : decode cX3_moveOneAside 46 = .ok (.aload_n 0, 1) := by decide +kernel
theorem dX3_moveOneAside_47 : decode cX3_moveOneAside 47 = .ok (.getfield 29, 3) := by decide +kernel
theorem dX3_moveOneAside_50 : decode cX3_moveOneAside 50 = .ok (.getfield 136, 3) := by decide +kernel
theorem dX3_moveOneAside_53 : decode cX3_moveOneAside 53 = .ok (.iload 5, 2) := by decide +kernel
theorem dX3_moveOneAside_55 : decode cX3_moveOneAside 55 = .ok (.iaload, 1) := by decide +kernel
theorem dX3_moveOneAside_56 : decode cX3_moveOneAside 56 = .ok (.invokevirtual 217, 3) := by decide +kernel
theorem dX3_moveOneAside_59 : decode cX3_moveOneAside 59 = .ok (.istore 6, 2) := by decide +kernel
theorem dX3_moveOneAside_61 : decode cX3_moveOneAside 61 = .ok (.iload 6, 2) := by decide +kernel
theorem dX3_moveOneAside_63 : decode cX3_moveOneAside 63 = .ok (.iload_n 3, 1) := by decide +kernel
theorem dX3_moveOneAside_64 : decode cX3_moveOneAside 64 = .ok (.if_icmp .le 13, 3) := by decide +kernel
theorem dX3_moveOneAside_67 : decode cX3_moveOneAside 67 = .ok (.aload_n 0, 1) := by decide +kernel
theorem dX3_moveOneAside_68 : decode cX3_moveOneAside 68 = .ok (.iload 5, 2) := by decide +kernel
theorem dX3_moveOneAside_70 : decode cX3_moveOneAside 70 = .ok (.iconst 1, 1) := by decide +kernel
theorem dX3_moveOneAside_71 : decode cX3_moveOneAside 71 = .ok (.invokevirtual 103, 3) := by decide +kernel
theorem dX3_moveOneAside_74 : decode cX3_moveOneAside 74 = .ok (.goto 4, 3) := by decide +kernel
theorem dX3_moveOneAside_77 : decode cX3_moveOneAside 77 = .ok (.iconst (-1), 1) := by decide +kernel
theorem dX3_moveOneAside_78 : decode cX3_moveOneAside 78 = .ok (.istore 7, 2) := by decide +kernel
theorem dX3_moveOneAside_80 : decode cX3_moveOneAside 80 = .ok (.iload 7, 2) := by decide +kernel
theorem dX3_moveOneAside_82 : decode cX3_moveOneAside 82 = .ok (.iconst (-1), 1) := by decide +kernel
theorem dX3_moveOneAside_83 : decode cX3_moveOneAside 83 = .ok (.if_icmp .eq 12, 3) := by decide +kernel
theorem dX3_moveOneAside_86 : decode cX3_moveOneAside 86 = .ok (.iload 5, 2) := by decide +kernel
theorem dX3_moveOneAside_88 : decode cX3_moveOneAside 88 = .ok (.istore_n 1, 1) := by decide +kernel
theorem dX3_moveOneAside_89 : decode cX3_moveOneAside 89 = .ok (.iload 7, 2) := by decide +kernel
theorem dX3_moveOneAside_91 : decode cX3_moveOneAside 91 = .ok (.istore_n 2, 1) := by decide +kernel
theorem dX3_moveOneAside_92 : decode cX3_moveOneAside 92 = .ok (.iload 6, 2) := by decide +kernel
theorem dX3_moveOneAside_94 : decode cX3_moveOneAside 94 = .ok (.istore_n 3, 1) := by decide +kernel
theorem dX3_moveOneAside_95 : decode cX3_moveOneAside 95 = .ok (.iinc 4 1, 3) := by decide +kernel
theorem dX3_moveOneAside_98 : decode cX3_moveOneAside 98 = .ok (.goto (-89), 3) := by decide +kernel
theorem dX3_moveOneAside_101 : decode cX3_moveOneAside 101 = .ok (.iload_n 1, 1) := by decide +kernel
theorem dX3_moveOneAside_102 : decode cX3_moveOneAside 102 = .ok (.iconst (-1), 1) := by decide +kernel
theorem dX3_moveOneAside_103 : decode cX3_moveOneAside 103 = .ok (.if_icmp .ne 5, 3) := by decide +kernel
theorem dX3_moveOneAside_106 : decode cX3_moveOneAside 106 = .ok (.iconst 0, 1) := by decide +kernel
theorem dX3_moveOneAside_107 : decode cX3_moveOneAside 107 = .ok (.ireturn, 1) := by decide +kernel
theorem dX3_moveOneAside_108 : decode cX3_moveOneAside 108 = .ok (.aload_n 0, 1) := by decide +kernel
theorem dX3_moveOneAside_109 : decode cX3_moveOneAside 109 = .ok (.iload_n 1, 1) := by decide +kernel
theorem dX3_moveOneAside_110 : decode cX3_moveOneAside 110 = .ok (.iload_n 2, 1) := by decide +kernel
theorem dX3_moveOneAside_111 : decode cX3_moveOneAside 111 = .ok (.invokevirtual 91, 3) := by decide +kernel
theorem dX3_moveOneAside_114 : decode cX3_moveOneAside 114 = .ok (.iconst 1, 1) := by decide +kernel
theorem dX3_moveOneAside_115 : decode cX3_moveOneAside 115 = .ok (.ireturn, 1) := by decide +kernel
theorem dX3_where_0 : decode cX3_where 0 = .ok (.aload_n 0, 1) := by decide +kernel
theorem dX3_where_1 : decode cX3_where 1 = .ok (.iload_n 1, 1) := by decide +kernel
theorem dX3_where_2 : decode cX3_where 2 = .ok (.invokevirtual 81, 3) := by decide +kernel
theorem dX3_where_5 : decode cX3_where 5 = .ok (.iload_n 2, 1) := by decide +kernel
theorem dX3_where_6 : decode cX3_where 6 = .ok (.tableswitch 143 0 8 #[50, 60, 70, 79, 93, 103, 113, 123, 133], 50) := by decide +kernel
theorem dX3_where_56 : decode cX3_where 56 = .ok (.aload_n 0, 1) := by decide +kernel
theorem dX3_where_57 : decode cX3_where 57 = .ok (.getfield 29, 3) := by decide +kernel
theorem dX3_where_60 : decode cX3_where 60 = .ok (.getfield 133, 3) := by decide +kernel
theorem dX3_where_63 : decode cX3_where 63 = .ok (.iload_n 1, 1) := by decide +kernel
theorem dX3_where_64 : decode cX3_where 64 = .ok (.iaload, 1) := by decide +kernel
theorem dX3_where_65 : decode cX3_where 65 = .ok (.ireturn, 1) := by decide +kernel
theorem dX3_where_66 : decode cX3_where 66 = .ok (.aload_n 0, 1) := by decide +kernel
theorem dX3_where_67 : decode cX3_where 67 = .ok (.getfield 29, 3) := by decide +kernel
theorem dX3_where_70 : decode cX3_where 70 = .ok (.getfield 136, 3) := by decide +kernel
theorem dX3_where_73 : decode cX3_where 73 = .ok (.iload_n 1, 1) := by decide +kernel
theorem dX3_where_74 : decode cX3_where 74 = .ok (.iaload, 1) := by decide +kernel
theorem dX3_where_75 : decode cX3_where 75 = .ok (.ireturn, 1) := by decide +kernel
theorem dX3_where_76 : decode cX3_where 76 = .ok (.aload_n 0, 1) := by decide +kernel
theorem dX3_where_77 : decode cX3_where 77 = .ok (.getfield 29, 3) := by decide +kernel
theorem dX3_where_80 : decode cX3_where 80 = .ok (.iload_n 1, 1) := by decide +kernel
theorem dX3_where_81 : decode cX3_where 81 = .ok (.invokevirtual 139, 3) := by decide +kernel
theorem dX3_where_84 : decode cX3_where 84 = .ok (.ireturn, 1) := by decide +kernel
theorem dX3_where_85 : decode cX3_where 85 = .ok (.aload_n 0, 1) := by decide +kernel
theorem dX3_where_86 : decode cX3_where 86 = .ok (.iload_n 1, 1) := by decide +kernel
theorem dX3_where_87 : decode cX3_where 87 = .ok (.invokevirtual 143, 3) := by decide +kernel
theorem dX3_where_90 : decode cX3_where 90 = .ok (.ifCond .eq 7, 3) := by decide +kernel
theorem dX3_where_93 : decode cX3_where 93 = .ok (.iconst 1, 1) := by decide +kernel
theorem dX3_where_94 : decode cX3_where 94 = .ok (.goto 4, 3) := by decide +kernel
theorem dX3_where_97 : decode cX3_where 97 = .ok (.iconst 0, 1) := by decide +kernel
theorem dX3_where_98 : decode cX3_where 98 = .ok (.ireturn, 1) := by decide +kernel
theorem dX3_where_99 : decode cX3_where 99 = .ok (.aload_n 0, 1) := by decide +kernel
theorem dX3_where_100 : decode cX3_where 100 = .ok (.getfield 20, 3) := by decide +kernel
theorem dX3_where_103 : decode cX3_where 103 = .ok (.getfield 146, 3) := by decide +kernel
theorem dX3_where_106 : decode cX3_where 106 = .ok (.iload_n 1, 1) := by decide +kernel
theorem dX3_where_107 : decode cX3_where 107 = .ok (.iaload, 1) := by decide +kernel
theorem dX3_where_108 : decode cX3_where 108 = .ok (.ireturn, 1) := by decide +kernel
theorem dX3_where_109 : decode cX3_where 109 = .ok (.aload_n 0, 1) := by decide +kernel
theorem dX3_where_110 : decode cX3_where 110 = .ok (.getfield 20, 3) := by decide +kernel
theorem dX3_where_113 : decode cX3_where 113 = .ok (.getfield 149, 3) := by decide +kernel
theorem dX3_where_116 : decode cX3_where 116 = .ok (.iload_n 1, 1) := by decide +kernel
theorem dX3_where_117 : decode cX3_where 117 = .ok (.iaload, 1) := by decide +kernel
theorem dX3_where_118 : decode cX3_where 118 = .ok (.ireturn, 1) := by decide +kernel
theorem dX3_where_119 : decode cX3_where 119 = .ok (.aload_n 0, 1) := by decide +kernel
theorem dX3_where_120 : decode cX3_where 120 = .ok (.getfield 20, 3) := by decide +kernel
theorem dX3_where_123 : decode cX3_where 123 = .ok (.getfield 152, 3) := by decide +kernel
theorem dX3_where_126 : decode cX3_where 126 = .ok (.iload_n 1, 1) := by decide +kernel
theorem dX3_where_127 : decode cX3_where 127 = .ok (.iaload, 1) := by decide +kernel
theorem dX3_where_128 : decode cX3_where 128 = .ok (.ireturn, 1) := by decide +kernel
theorem dX3_where_129 : decode cX3_where 129 = .ok (.aload_n 0, 1) := by decide +kernel
theorem dX3_where_130 : decode cX3_where 130 = .ok (.getfield 20, 3) := by decide +kernel
theorem dX3_where_133 : decode cX3_where 133 = .ok (.getfield 155, 3) := by decide +kernel
theorem dX3_where_136 : decode cX3_where 136 = .ok (.iload_n 1, 1) := by decide +kernel
theorem dX3_where_137 : decode cX3_where 137 = .ok (.iaload, 1) := by decide +kernel
theorem dX3_where_138 : decode cX3_where 138 = .ok (.ireturn, 1) := by decide +kernel
theorem dX3_where_139 : decode cX3_where 139 = .ok (.aload_n 0, 1) := by decide +kernel
theorem dX3_where_140 : decode cX3_where 140 = .ok (.getfield 20, 3) := by decide +kernel
theorem dX3_where_143 : decode cX3_where 143 = .ok (.getfield 158, 3) := by decide +kernel
theorem dX3_where_146 : decode cX3_where 146 = .ok (.iload_n 1, 1) := by decide +kernel
theorem dX3_where_147 : decode cX3_where 147 = .ok (.iaload, 1) := by decide +kernel
theorem dX3_where_148 : decode cX3_where 148 = .ok (.ireturn, 1) := by decide +kernel
theorem dX3_where_149 : decode cX3_where 149 = .ok (.new 161, 3) := by decide +kernel
theorem dX3_where_152 : decode cX3_where 152 = .ok (.dup, 1) := by decide +kernel
theorem dX3_where_153 : decode cX3_where 153 = .ok (.ldc 163, 2) := by decide +kernel
theorem dX3_where_155 : decode cX3_where 155 = .ok (.invokespecial 165, 3) := by decide +kernel
theorem dX3_where_158 : decode cX3_where 158 = .ok (.athrow, 1) := by decide +kernel
theorem dX3_at_0 : decode cX3_at 0 = .ok (.aload_n 0, 1) := by decide +kernel
theorem dX3_at_1 : decode cX3_at 1 = .ok (.iload_n 1, 1) := by decide +kernel
theorem dX3_at_2 : decode cX3_at 2 = .ok (.invokevirtual 85, 3) := by decide +kernel
theorem dX3_at_5 : decode cX3_at 5 = .ok (.iload_n 2, 1) := by decide +kernel
theorem dX3_at_6 : decode cX3_at 6 = .ok (.iconst 0, 1) := by decide +kernel
theorem dX3_at_7 : decode cX3_at 7 = .ok (.aload_n 0, 1) := by decide +kernel
theorem dX3_at_8 : decode cX3_at 8 = .ok (.getfield 29, 3) := by decide +kernel
theorem dX3_at_11 : decode cX3_at 11 = .ok (.getfield 166, 3) := by decide +kernel
theorem dX3_at_14 : decode cX3_at 14 = .ok (.iconst 1, 1) := by decide +kernel
theorem dX3_at_15 : decode cX3_at 15 = .ok (.isub, 1) := by decide +kernel
theorem dX3_at_16 : decode cX3_at 16 = .ok (.invokestatic 47, 3) := by decide +kernel
theorem dX3_at_19 : decode cX3_at 19 = .ok (.ifCond .ne 13, 3) := by decide +kernel
theorem dX3_at_22 : decode cX3_at 22 = .ok (.new 161, 3) := by decide +kernel
theorem dX3_at_25 : decode cX3_at 25 = .ok (.dup, 1) := by decide +kernel
theorem dX3_at_26 : decode cX3_at 26 = .ok (.ldc 169, 2) := by decide +kernel
theorem dX3_at_28 : decode cX3_at 28 = .ok (.invokespecial 165, 3) := by decide +kernel
theorem dX3_at_31 : decode cX3_at 31 = .ok (.athrow, 1) := by decide +kernel
theorem dX3_at_32 : decode cX3_at 32 = .ok (.aload_n 0, 1) := by decide +kernel
theorem dX3_at_33 : decode cX3_at 33 = .ok (.getfield 29, 3) := by decide +kernel
theorem dX3_at_36 : decode cX3_at 36 = .ok (.getfield 171, 3) := by decide +kernel
theorem dX3_at_39 : decode cX3_at 39 = .ok (.iload_n 1, 1) := by decide +kernel
theorem dX3_at_40 : decode cX3_at 40 = .ok (.aaload, 1) := by decide +kernel
theorem dX3_at_41 : decode cX3_at 41 = .ok (.iload_n 2, 1) := by decide +kernel
theorem dX3_at_42 : decode cX3_at 42 = .ok (.iaload, 1) := by decide +kernel
theorem dX3_at_43 : decode cX3_at 43 = .ok (.ireturn, 1) := by decide +kernel
