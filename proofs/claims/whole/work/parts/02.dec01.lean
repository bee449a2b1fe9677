theorem dX0_init_0 : decode cX0_init 0 = .ok (.aload_n 0, 1) := by decide +kernel
theorem dX0_init_1 : decode cX0_init 1 = .ok (.invokespecial 3, 3) := by decide +kernel
theorem dX0_init_4 : decode cX0_init 4 = .ok (.aload_n 0, 1) := by decide +kernel
theorem dX0_init_5 : decode cX0_init 5 = .ok (.bipush 49, 2) := by decide +kernel
theorem dX0_init_7 : decode cX0_init 7 = .ok (.newarray .long, 2) := by decide +kernel
theorem dX0_init_9 : decode cX0_init 9 = .ok (.putfield 9, 3) := by decide +kernel
theorem dX0_init_12 : decode cX0_init 12 = .ok (.return_, 1) := by decide +kernel
theorem dX0_weigh_0 : decode cX0_weigh 0 = .ok (.aload_n 0, 1) := by decide +kernel
theorem dX0_weigh_1 : decode cX0_weigh 1 = .ok (.getfield 9, 3) := by decide +kernel
theorem dX0_weigh_4 : decode cX0_weigh 4 = .ok (.lconst 0, 1) := by decide +kernel
theorem dX0_weigh_5 : decode cX0_weigh 5 = .ok (.invokestatic 15, 3) := by decide +kernel
theorem dX0_weigh_8 : decode cX0_weigh 8 = .ok (.aload_n 0, 1) := by decide +kernel
theorem dX0_weigh_9 : decode cX0_weigh 9 = .ok (.getfield 9, 3) := by decide +kernel
theorem dX0_weigh_12 : decode cX0_weigh 12 = .ok (.iconst 0, 1) := by decide +kernel
theorem dX0_weigh_13 : decode cX0_weigh 13 = .ok (.lconst 1, 1) := by decide +kernel
theorem dX0_weigh_14 : decode cX0_weigh 14 = .ok (.lastore, 1) := by decide +kernel
theorem dX0_weigh_15 : decode cX0_weigh 15 = .ok (.aload_n 1, 1) := by decide +kernel
theorem dX0_weigh_16 : decode cX0_weigh 16 = .ok (.getfield 21, 3) := by decide +kernel
theorem dX0_weigh_19 : decode cX0_weigh 19 = .ok (.iload_n 2, 1) := by decide +kernel
theorem dX0_weigh_20 : decode cX0_weigh 20 = .ok (.iaload, 1) := by decide +kernel
theorem dX0_weigh_21 : decode cX0_weigh 21 = .ok (.istore_n 3, 1) := by decide +kernel
theorem dX0_weigh_22 : decode cX0_weigh 22 = .ok (.aload_n 1, 1) := by decide +kernel
theorem dX0_weigh_23 : decode cX0_weigh 23 = .ok (.iload_n 2, 1) := by decide +kernel
theorem dX0_weigh_24 : decode cX0_weigh 24 = .ok (.invokevirtual 27, 3) := by decide +kernel
theorem dX0_weigh_27 : decode cX0_weigh 27 = .ok (.istore 4, 2) := by decide +kernel
theorem dX0_weigh_29 : decode cX0_weigh 29 = .ok (.iconst 0, 1) := by decide +kernel
theorem dX0_weigh_30 : decode cX0_weigh 30 = .ok (.istore 5, 2) := by decide +kernel
theorem dX0_weigh_32 : decode cX0_weigh 32 = .ok (.iload 5, 2) := by decide +kernel
theorem dX0_weigh_34 : decode cX0_weigh 34 = .ok (.iload 4, 2) := by decide +kernel
theorem dX0_weigh_36 : decode cX0_weigh 36 = .ok (.if_icmp .ge 42, 3) := by decide +kernel
theorem dX0_weigh_39 : decode cX0_weigh 39 = .ok (.aload_n 1, 1) := by decide +kernel
theorem dX0_weigh_40 : decode cX0_weigh 40 = .ok (.iload_n 3, 1) := by decide +kernel
theorem dX0_weigh_41 : decode cX0_weigh 41 = .ok (.iload 5, 2) := by decide +kernel
theorem dX0_weigh_43 : decode cX0_weigh 43 = .ok (.invokevirtual 31, 3) := by decide +kernel
theorem dX0_weigh_46 : decode cX0_weigh 46 = .ok (.istore 6, 2) := by decide +kernel
theorem dX0_weigh_48 : decode cX0_weigh 48 = .ok (.iload 6, 2) := by decide +kernel
theorem dX0_weigh_50 : decode cX0_weigh 50 = .ok (.iconst (-1), 1) := by decide +kernel
theorem dX0_weigh_51 : decode cX0_weigh 51 = .ok (.if_icmp .eq 21, 3) := by decide +kernel
theorem dX0_weigh_54 : decode cX0_weigh 54 = .ok (.aload_n 0, 1) := by decide +kernel
theorem dX0_weigh_55 : decode cX0_weigh 55 = .ok (.aload_n 1, 1) := by decide +kernel
theorem dX0_weigh_56 : decode cX0_weigh 56 = .ok (.getfield 35, 3) := by decide +kernel
theorem dX0_weigh_59 : decode cX0_weigh 59 = .ok (.iload 6, 2) := by decide +kernel
theorem dX0_weigh_61 : decode cX0_weigh 61 = .ok (.iaload, 1) := by decide +kernel
theorem dX0_weigh_62 : decode cX0_weigh 62 = .ok (.aload_n 1, 1) := by decide +kernel
theorem dX0_weigh_63 : decode cX0_weigh 63 = .ok (.getfield 38, 3) := by decide +kernel
theorem dX0_weigh_66 : decode cX0_weigh 66 = .ok (.iload 6, 2) := by decide +kernel
theorem dX0_weigh_68 : decode cX0_weigh 68 = .ok (.iaload, 1) := by decide +kernel
theorem dX0_weigh_69 : decode cX0_weigh 69 = .ok (.invokevirtual 41, 3) := by decide +kernel
theorem dX0_weigh_72 : decode cX0_weigh 72 = .ok (.iinc 5 1, 3) := by decide +kernel
theorem dX0_weigh_75 : decode cX0_weigh 75 = .ok (.goto (-43), 3) := by decide +kernel
theorem dX0_weigh_78 : decode cX0_weigh 78 = .ok (.return_, 1) := by decide +kernel
theorem dX0_putAhead_0 : decode cX0_putAhead 0 = .ok (.bipush 48, 2) := by decide +kernel
theorem dX0_putAhead_2 : decode cX0_putAhead 2 = .ok (.istore_n 3, 1) := by decide +kernel
theorem dX0_putAhead_3 : decode cX0_putAhead 3 = .ok (.iload_n 3, 1) := by decide +kernel
theorem dX0_putAhead_4 : decode cX0_putAhead 4 = .ok (.ifCond .lt 52, 3) := by decide +kernel
theorem dX0_putAhead_7 : decode cX0_putAhead 7 = .ok (.iload_n 3, 1) := by decide +kernel
theorem dX0_putAhead_8 : decode cX0_putAhead 8 = .ok (.iload_n 1, 1) := by decide +kernel
theorem dX0_putAhead_9 : decode cX0_putAhead 9 = .ok (.if_icmp .lt 14, 3) := by decide +kernel
theorem dX0_putAhead_12 : decode cX0_putAhead 12 = .ok (.aload_n 0, 1) := by decide +kernel
theorem dX0_putAhead_13 : decode cX0_putAhead 13 = .ok (.getfield 9, 3) := by decide +kernel
theorem dX0_putAhead_16 : decode cX0_putAhead 16 = .ok (.iload_n 3, 1) := by decide +kernel
theorem dX0_putAhead_17 : decode cX0_putAhead 17 = .ok (.iload_n 1, 1) := by decide +kernel
theorem dX0_putAhead_18 : decode cX0_putAhead 18 = .ok (.isub, 1) := by decide +kernel
theorem dX0_putAhead_19 : decode cX0_putAhead 19 = .ok (.laload, 1) := by decide +kernel
theorem dX0_putAhead_20 : decode cX0_putAhead 20 = .ok (.goto 4, 3) := by decide +kernel
theorem dX0_putAhead_23 : decode cX0_putAhead 23 = .ok (.lconst 0, 1) := by decide +kernel
theorem dX0_putAhead_24 : decode cX0_putAhead 24 = .ok (.lstore 4, 2) := by decide +kernel
theorem dX0_putAhead_26 : decode cX0_putAhead 26 = .ok (.aload_n 0, 1) := by decide +kernel
theorem dX0_putAhead_27 : decode cX0_putAhead 27 = .ok (.getfield 9, 3) := by decide +kernel
theorem dX0_putAhead_30 : decode cX0_putAhead 30 = .ok (.iload_n 3, 1) := by decide +kernel
theorem dX0_putAhead_31 : decode cX0_putAhead 31 = .ok (.aload_n 0, 1) := by decide +kernel
theorem dX0_putAhead_32 : decode cX0_putAhead 32 = .ok (.getfield 9, 3) := by decide +kernel
theorem dX0_putAhead_35 : decode cX0_putAhead 35 = .ok (.iload_n 3, 1) := by decide +kernel
theorem dX0_putAhead_36 : decode cX0_putAhead 36 = .ok (.laload, 1) := by decide +kernel
theorem dX0_putAhead_37 : decode cX0_putAhead 37 = .ok (.iload_n 2, 1) := by decide +kernel
theorem dX0_putAhead_38 : decode cX0_putAhead 38 = .ok (.i2l, 1) := by decide +kernel
theorem dX0_putAhead_39 : decode cX0_putAhead 39 = .ok (.lmul, 1) := by decide +kernel
theorem dX0_putAhead_40 : decode cX0_putAhead 40 = .ok (.lload 4, 2) := by decide +kernel
theorem dX0_putAhead_42 : decode cX0_putAhead 42 = .ok (.bipush 100, 2) := by decide +kernel
theorem dX0_putAhead_44 : decode cX0_putAhead 44 = .ok (.iload_n 2, 1) := by decide +kernel
theorem dX0_putAhead_45 : decode cX0_putAhead 45 = .ok (.isub, 1) := by decide +kernel
theorem dX0_putAhead_46 : decode cX0_putAhead 46 = .ok (.i2l, 1) := by decide +kernel
theorem dX0_putAhead_47 : decode cX0_putAhead 47 = .ok (.lmul, 1) := by decide +kernel
theorem dX0_putAhead_48 : decode cX0_putAhead 48 = .ok (.ladd, 1) := by decide +kernel
theorem dX0_putAhead_49 : decode cX0_putAhead 49 = .ok (.lastore, 1) := by decide +kernel
theorem dX0_putAhead_50 : decode cX0_putAhead 50 = .ok (.iinc 3 (-1), 3) := by decide +kernel
theorem dX0_putAhead_53 : decode cX0_putAhead 53 = .ok (.goto (-50), 3) := by decide +kernel
theorem dX0_putAhead_56 : decode cX0_putAhead 56 = .ok (.return_, 1) := by decide +kernel
theorem dX0_costAt_0 : decode cX0_costAt 0 = .ok (.lconst 0, 1) := by decide +kernel
theorem dX0_costAt_1 : decode cX0_costAt 1 = .ok (.lstore 6, 2) := by decide +kernel
theorem dX0_costAt_3 : decode cX0_costAt 3 = .ok (.iconst 0, 1) := by decide +kernel
theorem dX0_costAt_4 : decode cX0_costAt 4 = .ok (.istore 8, 2) := by decide +kernel
theorem dX0_costAt_6 : decode cX0_costAt 6 = .ok (.iload 8, 2) := by decide +kernel
theorem dX0_costAt_8 : decode cX0_costAt 8 = .ok (.bipush 48, 2) := by decide +kernel
theorem dX0_costAt_10 : decode cX0_costAt 10 = .ok (.if_icmp .gt 50, 3) := by decide +kernel
theorem dX0_costAt_13 : decode cX0_costAt 13 = .ok (.iload 8, 2) := by decide +kernel
theorem dX0_costAt_15 : decode cX0_costAt 15 = .ok (.iload_n 1, 1) := by decide +kernel
theorem dX0_costAt_16 : decode cX0_costAt 16 = .ok (.if_icmp .le 13, 3) := by decide +kernel
theorem dX0_costAt_19 : decode cX0_costAt 19 = .ok (.iload 8, 2) := by decide +kernel
theorem dX0_costAt_21 : decode cX0_costAt 21 = .ok (.iload_n 1, 1) := by decide +kernel
theorem dX0_costAt_22 : decode cX0_costAt 22 = .ok (.isub, 1) := by decide +kernel
theorem dX0_costAt_23 : decode cX0_costAt 23 = .ok (.i2l, 1) := by decide +kernel
theorem dX0_costAt_24 : decode cX0_costAt 24 = .ok (.lload_n 2, 1) := by decide +kernel
theorem dX0_costAt_25 : decode cX0_costAt 25 = .ok (.lmul, 1) := by decide +kernel
theorem dX0_costAt_26 : decode cX0_costAt 26 = .ok (.goto 11, 3) := by decide +kernel
theorem dX0_costAt_29 : decode cX0_costAt 29 = .ok (.iload_n 1, 1) := by decide +kernel
theorem dX0_costAt_30 : decode cX0_costAt 30 = .ok (.iload 8, 2) := by decide +kernel
theorem dX0_costAt_32 : decode cX0_costAt 32 = .ok (.isub, 1) := by decide +kernel
theorem dX0_costAt_33 : decode cX0_costAt 33 = .ok (.i2l, 1) := by decide +kernel
theorem dX0_costAt_34 : decode cX0_costAt 34 = .ok (.lload 4, 2) := by decide +kernel
theorem dX0_costAt_36 : decode cX0_costAt 36 = .ok (.lmul, 1) := by decide +kernel
theorem dX0_costAt_37 : decode cX0_costAt 37 = .ok (.lstore 9, 2) := by decide +kernel
theorem dX0_costAt_39 : decode cX0_costAt 39 = .ok (.lload 6, 2) := by decide +kernel
theorem dX0_costAt_41 : decode cX0_costAt 41 = .ok (.aload_n 0, 1) := by decide +kernel
theorem dX0_costAt_42 : decode cX0_costAt 42 = .ok (.getfield 9, 3) := by decide +kernel
theorem dX0_costAt_45 : decode cX0_costAt 45 = .ok (.iload 8, 2) := by decide +kernel
theorem dX0_costAt_47 : decode cX0_costAt 47 = .ok (.laload, 1) := by decide +kernel
theorem dX0_costAt_48 : decode cX0_costAt 48 = .ok (.lload 9, 2) := by decide +kernel
theorem dX0_costAt_50 : decode cX0_costAt 50 = .ok (.lmul, 1) := by decide +kernel
theorem dX0_costAt_51 : decode cX0_costAt 51 = .ok (.ladd, 1) := by decide +kernel
theorem dX0_costAt_52 : decode cX0_costAt 52 = .ok (.lstore 6, 2) := by decide +kernel
theorem dX0_costAt_54 : decode cX0_costAt 54 = .ok (.iinc 8 1, 3) := by decide +kernel
theorem dX0_costAt_57 : decode cX0_costAt 57 = .ok (.goto (-51), 3) := by decide +kernel
theorem dX0_costAt_60 : decode cX0_costAt 60 = .ok (.lload 6, 2) := by decide +kernel
theorem dX0_costAt_62 : decode cX0_costAt 62 = .ok (.lreturn, 1) := by decide +kernel
theorem dX0_cheapestFrom_0 : decode cX0_cheapestFrom 0 = .ok (.iload_n 1, 1) := by decide +kernel
theorem dX0_cheapestFrom_1 : decode cX0_cheapestFrom 1 = .ok (.istore 6, 2) := by decide +kernel
theorem dX0_cheapestFrom_3 : decode cX0_cheapestFrom 3 = .ok (.aload_n 0, 1) := by decide +kernel
theorem dX0_cheapestFrom_4 : decode cX0_cheapestFrom 4 = .ok (.iload_n 1, 1) := by decide +kernel
theorem dX0_cheapestFrom_5 : decode cX0_cheapestFrom 5 = .ok (.lload_n 2, 1) := by decide +kernel
theorem dX0_cheapestFrom_6 : decode cX0_cheapestFrom 6 = .ok (.lload 4, 2) := by decide +kernel
theorem dX0_cheapestFrom_8 : decode cX0_cheapestFrom 8 = .ok (.invokevirtual 45, 3) := by decide +kernel
theorem dX0_cheapestFrom_11 : decode cX0_cheapestFrom 11 = .ok (.lstore 7, 2) := by decide +kernel
theorem dX0_cheapestFrom_13 : decode cX0_cheapestFrom 13 = .ok (.iload_n 1, 1) := by decide +kernel
theorem dX0_cheapestFrom_14 : decode cX0_cheapestFrom 14 = .ok (.iconst 1, 1) := by decide +kernel
theorem dX0_cheapestFrom_15 : decode cX0_cheapestFrom 15 = .ok (.iadd, 1) := by decide +kernel
theorem dX0_cheapestFrom_16 : decode cX0_cheapestFrom 16 = .ok (.istore 9, 2) := by decide +kernel
theorem dX0_cheapestFrom_18 : decode cX0_cheapestFrom 18 = .ok (.iload 9, 2) := by decide +kernel
theorem dX0_cheapestFrom_20 : decode cX0_cheapestFrom 20 = .ok (.bipush 48, 2) := by decide +kernel
theorem dX0_cheapestFrom_22 : decode cX0_cheapestFrom 22 = .ok (.if_icmp .gt 36, 3) := by decide +kernel
theorem dX0_cheapestFrom_25 : decode cX0_cheapestFrom 25 = .ok (.aload_n 0, 1) := by decide +kernel
theorem dX0_cheapestFrom_26 : decode cX0_cheapestFrom 26 = .ok (.iload 9, 2) := by decide +kernel
theorem dX0_cheapestFrom_28 : decode cX0_cheapestFrom 28 = .ok (.lload_n 2, 1) := by decide +kernel
theorem dX0_cheapestFrom_29 : decode cX0_cheapestFrom 29 = .ok (.lload 4, 2) := by decide +kernel
theorem dX0_cheapestFrom_31 : decode cX0_cheapestFrom 31 = .ok (.invokevirtual 45, 3) := by decide +kernel
theorem dX0_cheapestFrom_34 : decode cX0_cheapestFrom 34 = .ok (.lstore 10, 2) := by decide +kernel
theorem dX0_cheapestFrom_36 : decode cX0_cheapestFrom 36 = .ok (.lload 10, 2) := by decide +kernel
theorem dX0_cheapestFrom_38 : decode cX0_cheapestFrom 38 = .ok (.lload 7, 2) := by decide +kernel
theorem dX0_cheapestFrom_40 : decode cX0_cheapestFrom 40 = .ok (.lcmp, 1) := by decide +kernel
theorem dX0_cheapestFrom_41 : decode cX0_cheapestFrom 41 = .ok (.ifCond .ge 11, 3) := by decide +kernel
theorem dX0_cheapestFrom_44 : decode cX0_cheapestFrom 44 = .ok (.lload 10, 2) := by decide +kernel
theorem dX0_cheapestFrom_46 : decode cX0_cheapestFrom 46 = .ok (.lstore 7, 2) := by decide +kernel
theorem dX0_cheapestFrom_48 : decode cX0_cheapestFrom 48 = .ok (.iload 9, 2) := by decide +kernel
theorem dX0_cheapestFrom_50 : decode cX0_cheapestFrom 50 = .ok (.istore 6, 2) := by decide +kernel
theorem dX0_cheapestFrom_52 : decode cX0_cheapestFrom 52 = .ok (.iinc 9 1, 3) := by decide +kernel
theorem dX0_cheapestFrom_55 : decode cX0_cheapestFrom 55 = .ok (.goto (-37), 3) := by decide +kernel
theorem dX0_cheapestFrom_58 : decode cX0_cheapestFrom 58 = .ok (.iload 6, 2) := by decide +kernel
theorem dX0_cheapestFrom_60 : decode cX0_cheapestFrom 60 = .ok (.ireturn, 1) := by decide +kernel
theorem dX1_init_0 : decode cX1_init 0 = .ok (.aload_n 0, 1) := by decide +kernel
theorem dX1_init_1 : decode cX1_init 1 = .ok (.invokespecial 3, 3) := by decide +kernel
theorem dX1_init_4 : decode cX1_init 4 = .ok (.aload_n 0, 1) := by decide +kernel
theorem dX1_init_5 : decode cX1_init 5 = .ok (.bipush 12, 2) := by decide +kernel
theorem dX1_init_7 : decode cX1_init 7 = .ok (.newarray .int, 2) := by decide +kernel
theorem dX1_init_9 : decode cX1_init 9 = .ok (.putfield 9, 3) := by decide +kernel
theorem dX1_init_12 : decode cX1_init 12 = .ok (.aload_n 0, 1) := by decide +kernel
theorem dX1_init_13 : decode cX1_init 13 = .ok (.bipush 12, 2) := by decide +kernel
theorem dX1_init_15 : decode cX1_init 15 = .ok (.newarray .int, 2) := by decide +kernel
theorem dX1_init_17 : decode cX1_init 17 = .ok (.putfield 15, 3) := by decide +kernel
theorem dX1_init_20 : decode cX1_init 20 = .ok (.aload_n 0, 1) := by decide +kernel
theorem dX1_init_21 : decode cX1_init 21 = .ok (.bipush 6, 2) := by decide +kernel
theorem dX1_init_23 : decode cX1_init 23 = .ok (.newarray .int, 2) := by decide +kernel
theorem dX1_init_25 : decode cX1_init 25 = .ok (.putfield 18, 3) := by decide +kernel
theorem dX1_init_28 : decode cX1_init 28 = .ok (.aload_n 0, 1) := by decide +kernel
theorem dX1_init_29 : decode cX1_init 29 = .ok (.iconst 3, 1) := by decide +kernel
theorem dX1_init_30 : decode cX1_init 30 = .ok (.newarray .int, 2) := by decide +kernel
theorem dX1_init_32 : decode cX1_init 32 = .ok (.putfield 21, 3) := by decide +kernel
theorem dX1_init_35 : decode cX1_init 35 = .ok (.aload_n 0, 1) := by decide +kernel
theorem dX1_init_36 : decode cX1_init 36 = .ok (.iconst 3, 1) := by decide +kernel
theorem dX1_init_37 : decode cX1_init 37 = .ok (.newarray .int, 2) := by decide +kernel
theorem dX1_init_39 : decode cX1_init 39 = .ok (.putfield 24, 3) := by decide +kernel
theorem dX1_init_42 : decode cX1_init 42 = .ok (.aload_n 0, 1) := by decide +kernel
theorem dX1_init_43 : decode cX1_init 43 = .ok (.bipush 10, 2) := by decide +kernel
theorem dX1_init_45 : decode cX1_init 45 = .ok (.newarray .int, 2) := by decide +kernel
theorem dX1_init_47 : decode cX1_init 47 = .ok (.putfield 27, 3) := by decide +kernel
theorem dX1_init_50 : decode cX1_init 50 = .ok (.return_, 1) := by decide +kernel
theorem dX1_run_0 : decode cX1_run 0 = .ok (.aload_n 0, 1) := by decide +kernel
theorem dX1_run_1 : decode cX1_run 1 = .ok (.getfield 9, 3) := by decide +kernel
theorem dX1_run_4 : decode cX1_run 4 = .ok (.iconst (-1), 1) := by decide +kernel
theorem dX1_run_5 : decode cX1_run 5 = .ok (.invokestatic 30, 3) := by decide +kernel
theorem dX1_run_8 : decode cX1_run 8 = .ok (.aload_n 0, 1) := by decide +kernel
theorem dX1_run_9 : decode cX1_run 9 = .ok (.getfield 15, 3) := by decide +kernel
theorem dX1_run_12 : decode cX1_run 12 = .ok (.iconst (-1), 1) := by decide +kernel
theorem dX1_run_13 : decode cX1_run 13 = .ok (.invokestatic 30, 3) := by decide +kernel
theorem dX1_run_16 : decode cX1_run 16 = .ok (.aload_n 0, 1) := by decide +kernel
theorem dX1_run_17 : decode cX1_run 17 = .ok (.getfield 18, 3) := by decide +kernel
theorem dX1_run_20 : decode cX1_run 20 = .ok (.iconst 0, 1) := by decide +kernel
theorem dX1_run_21 : decode cX1_run 21 = .ok (.invokestatic 30, 3) := by decide +kernel
theorem dX1_run_24 : decode cX1_run 24 = .ok (.aload_n 0, 1) := by decide +kernel
theorem dX1_run_25 : decode cX1_run 25 = .ok (.getfield 21, 3) := by decide +kernel
theorem dX1_run_28 : decode cX1_run 28 = .ok (.iconst 0, 1) := by decide +kernel
theorem dX1_run_29 : decode cX1_run 29 = .ok (.invokestatic 30, 3) := by decide +kernel
theorem dX1_run_32 : decode cX1_run 32 = .ok (.aload_n 0, 1) := by decide +kernel
theorem dX1_run_33 : decode cX1_run 33 = .ok (.getfield 24, 3) := by decide +kernel
theorem dX1_run_36 : decode cX1_run 36 = .ok (.iconst 0, 1) := by decide +kernel
theorem dX1_run_37 : decode cX1_run 37 = .ok (.invokestatic 30, 3) := by decide +kernel
theorem dX1_run_40 : decode cX1_run 40 = .ok (.aload_n 0, 1) := by decide +kernel
theorem dX1_run_41 : decode cX1_run 41 = .ok (.getfield 27, 3) := by decide +kernel
theorem dX1_run_44 : decode cX1_run 44 = .ok (.iconst 0, 1) := by decide +kernel
theorem dX1_run_45 : decode cX1_run 45 = .ok (.invokestatic 30, 3) := by decide +kernel
theorem dX1_run_48 : decode cX1_run 48 = .ok (.aload_n 0, 1) := by decide +kernel
theorem dX1_run_49 : decode cX1_run 49 = .ok (.aload_n 1, 1) := by decide +kernel
theorem dX1_run_50 : decode cX1_run 50 = .ok (.getfield 36, 3) := by decide +kernel
theorem dX1_run_53 : decode cX1_run 53 = .ok (.putfield 42, 3) := by decide +kernel
theorem dX1_run_56 : decode cX1_run 56 = .ok (.iconst 0, 1) := by decide +kernel
theorem dX1_run_57 : decode cX1_run 57 = .ok (.istore_n 2, 1) := by decide +kernel
theorem dX1_run_58 : decode cX1_run 58 = .ok (.iload_n 2, 1) := by decide +kernel
theorem dX1_run_59 : decode cX1_run 59 = .ok (.sipush 200, 3) := by decide +kernel
theorem dX1_run_62 : decode cX1_run 62 = .ok (.if_icmp .ge 36, 3) := by decide +kernel
theorem dX1_run_65 : decode cX1_run 65 = .ok (.aload_n 0, 1) := by decide +kernel
theorem dX1_run_66 : decode cX1_run 66 = .ok (.getfield 42, 3) := by decide +kernel
theorem dX1_run_69 : decode cX1_run 69 = .ok (.ifCond .le 29, 3) := by decide +kernel
theorem dX1_run_72 : decode cX1_run 72 = .ok (.iconst 0, 1) := by decide +kernel
theorem dX1_run_73 : decode cX1_run 73 = .ok (.istore_n 3, 1) := by decide +kernel
theorem dX1_run_74 : decode cX1_run 74 = .ok (.iload_n 3, 1) := by decide +kernel
theorem dX1_run_75 : decode cX1_run 75 = .ok (.iconst 3, 1) := by decide +kernel
theorem dX1_run_76 : decode cX1_run 76 = .ok (.if_icmp .ge 16, 3) := by decide +kernel
theorem dX1_run_79 : decode cX1_run 79 = .ok (.aload_n 0, 1) := by decide +kernel
theorem dX1_run_80 : decode cX1_run 80 = .ok (.aload_n 1, 1) := by decide +kernel
theorem dX1_run_81 : decode cX1_run 81 = .ok (.iload_n 3, 1) := by decide +kernel
theorem dX1_run_82 : decode cX1_run 82 = .ok (.iload_n 2, 1) := by decide +kernel
theorem dX1_run_83 : decode cX1_run 83 = .ok (.invokevirtual 45, 3) := by decide +kernel
theorem dX1_run_86 : decode cX1_run 86 = .ok (.iinc 3 1, 3) := by decide +kernel
theorem dX1_run_89 : decode cX1_run 89 = .ok (.goto (-15), 3) := by decide +kernel
theorem dX1_run_92 : decode cX1_run 92 = .ok (.iinc 2 1, 3) := by decide +kernel
theorem dX1_run_95 : decode cX1_run 95 = .ok (.goto (-37), 3) := by decide +kernel
theorem dX1_run_98 : decode cX1_run 98 = .ok (.return_, 1) := by decide +kernel
theorem dX1_passQuarter_0 : decode cX1_passQuarter 0 = .ok (.iload_n 3, 1) := by decide +kernel
theorem dX1_passQuarter_1 : decode cX1_passQuarter 1 = .ok (.aload_n 0, 1) := by decide +kernel
theorem dX1_passQuarter_2 : decode cX1_passQuarter 2 = .ok (.getfield 24, 3) := by decide +kernel
theorem dX1_passQuarter_5 : decode cX1_passQuarter 5 = .ok (.iload_n 2, 1) := by decide +kernel
theorem dX1_passQuarter_6 : decode cX1_passQuarter 6 = .ok (.iaload, 1) := by decide +kernel
theorem dX1_passQuarter_7 : decode cX1_passQuarter 7 = .ok (.if_icmp .ge 4, 3) := by decide +kernel
theorem dX1_passQuarter_10 : decode cX1_passQuarter 10 = .ok (.return_, 1) := by decide +kernel
theorem dX1_passQuarter_11 : decode cX1_passQuarter 11 = .ok (.aload_n 0, 1) := by decide +kernel
theorem dX1_passQuarter_12 : decode cX1_passQuarter 12 = .ok (.aload_n 1, 1) := by decide +kernel
theorem dX1_passQuarter_13 : decode cX1_passQuarter 13 = .ok (.iload_n 2, 1) := by decide +kernel
theorem dX1_passQuarter_14 : decode cX1_passQuarter 14 = .ok (.iload_n 3, 1) := by decide +kernel
theorem dX1_passQuarter_15 : decode cX1_passQuarter 15 = .ok (.invokevirtual 49, 3) := by decide +kernel
theorem dX1_passQuarter_18 : decode cX1_passQuarter 18 = .ok (.istore 4, 2) := by decide +kernel
theorem dX1_passQuarter_20 : decode cX1_passQuarter 20 = .ok (.iload 4, 2) := by decide +kernel
theorem dX1_passQuarter_22 : decode cX1_passQuarter 22 = .ok (.iconst (-1), 1) := by decide +kernel
theorem dX1_passQuarter_23 : decode cX1_passQuarter 23 = .ok (.if_icmp .ne 4, 3) := by decide +kernel
theorem dX1_passQuarter_26 : decode cX1_passQuarter 26 = .ok (.return_, 1) := by decide +kernel
theorem dX1_passQuarter_27 : decode cX1_passQuarter 27 = .ok (.aload_n 0, 1) := by decide +kernel
theorem dX1_passQuarter_28 : decode cX1_passQuarter 28 = .ok (.aload_n 1, 1) := by decide +kernel
theorem dX1_passQuarter_29 : decode cX1_passQuarter 29 = .ok (.iload 4, 2) := by decide +kernel
theorem dX1_passQuarter_31 : decode cX1_passQuarter 31 = .ok (.iload_n 3, 1) := by decide +kernel
theorem dX1_passQuarter_32 : decode cX1_passQuarter 32 = .ok (.invokevirtual 53, 3) := by decide +kernel
theorem dX1_passQuarter_35 : decode cX1_passQuarter 35 = .ok (.istore 5, 2) := by decide +kernel
theorem dX1_passQuarter_37 : decode cX1_passQuarter 37 = .ok (.iload 5, 2) := by decide +kernel
theorem dX1_passQuarter_39 : decode cX1_passQuarter 39 = .ok (.iconst (-1), 1) := by decide +kernel
theorem dX1_passQuarter_40 : decode cX1_passQuarter 40 = .ok (.if_icmp .ne 14, 3) := by decide +kernel
theorem dX1_passQuarter_43 : decode cX1_passQuarter 43 = .ok (.aload_n 0, 1) := by decide +kernel
theorem dX1_passQuarter_44 : decode cX1_passQuarter 44 = .ok (.aload_n 1, 1) := by decide +kernel
theorem dX1_passQuarter_45 : decode cX1_passQuarter 45 = .ok (.iload 4, 2) := by decide +kernel
theorem dX1_passQuarter_47 : decode cX1_passQuarter 47 = .ok (.iload_n 3, 1) := by decide +kernel
theorem dX1_passQuarter_48 : decode cX1_passQuarter 48 = .ok (.invokevirtual 56, 3) := by decide +kernel
theorem dX1_passQuarter_51 : decode cX1_passQuarter 51 = .ok (.goto 18, 3) := by decide +kernel
theorem dX1_passQuarter_54 : decode cX1_passQuarter 54 = .ok (.aload_n 0, 1) := by decide +kernel
theorem dX1_passQuarter_55 : decode cX1_passQuarter 55 = .ok (.getfield 18, 3) := by decide +kernel
theorem dX1_passQuarter_58 : decode cX1_passQuarter 58 = .ok (.iload_n 2, 1) := by decide +kernel
theorem dX1_passQuarter_59 : decode cX1_passQuarter 59 = .ok (.iconst 2, 1) := by decide +kernel
theorem dX1_passQuarter_60 : decode cX1_passQuarter 60 = .ok (.imul, 1) := by decide +kernel
theorem dX1_passQuarter_61 : decode cX1_passQuarter 61 = .ok (.iload 5, 2) := by decide +kernel
theorem dX1_passQuarter_63 : decode cX1_passQuarter 63 = .ok (.iadd, 1) := by decide +kernel
theorem dX1_passQuarter_64 : decode cX1_passQuarter 64 = .ok (.dup2, 1) := by decide +kernel
theorem dX1_passQuarter_65 : decode cX1_passQuarter 65 = .ok (.iaload, 1) := by decide +kernel
theorem dX1_passQuarter_66 : decode cX1_passQuarter 66 = .ok (.iconst 1, 1) := by decide +kernel
theorem dX1_passQuarter_67 : decode cX1_passQuarter 67 = .ok (.iadd, 1) := by decide +kernel
theorem dX1_passQuarter_68 : decode cX1_passQuarter 68 = .ok (.iastore, 1) := by decide +kernel
theorem dX1_passQuarter_69 : decode cX1_passQuarter 69 = .ok (.return_, 1) := by decide +kernel
theorem dX1_nextNotFolded_0 : decode cX1_nextNotFolded 0 = .ok (.aload_n 0, 1) := by decide +kernel
theorem dX1_nextNotFolded_1 : decode cX1_nextNotFolded 1 = .ok (.getfield 21, 3) := by decide +kernel
theorem dX1_nextNotFolded_4 : decode cX1_nextNotFolded 4 = .ok (.iload_n 2, 1) := by decide +kernel
theorem dX1_nextNotFolded_5 : decode cX1_nextNotFolded 5 = .ok (.iaload, 1) := by decide +kernel
theorem dX1_nextNotFolded_6 : decode cX1_nextNotFolded 6 = .ok (.istore 4, 2) := by decide +kernel
theorem dX1_nextNotFolded_8 : decode cX1_nextNotFolded 8 = .ok (.iload 4, 2) := by decide +kernel
theorem dX1_nextNotFolded_10 : decode cX1_nextNotFolded 10 = .ok (.aload_n 1, 1) := by decide +kernel
theorem dX1_nextNotFolded_11 : decode cX1_nextNotFolded 11 = .ok (.getfield 59, 3) := by decide +kernel
theorem dX1_nextNotFolded_14 : decode cX1_nextNotFolded 14 = .ok (.iload_n 2, 1) := by decide +kernel
theorem dX1_nextNotFolded_15 : decode cX1_nextNotFolded 15 = .ok (.iaload, 1) := by decide +kernel
theorem dX1_nextNotFolded_16 : decode cX1_nextNotFolded 16 = .ok (.if_icmp .ge 45, 3) := by decide +kernel
theorem dX1_nextNotFolded_19 : decode cX1_nextNotFolded 19 = .ok (.aload_n 1, 1) := by decide +kernel
theorem dX1_nextNotFolded_20 : decode cX1_nextNotFolded 20 = .ok (.iload_n 2, 1) := by decide +kernel
theorem dX1_nextNotFolded_21 : decode cX1_nextNotFolded 21 = .ok (.iload 4, 2) := by decide +kernel
theorem dX1_nextNotFolded_23 : decode cX1_nextNotFolded 23 = .ok (.invokevirtual 62, 3) := by decide +kernel
theorem dX1_nextNotFolded_26 : decode cX1_nextNotFolded 26 = .ok (.istore 5, 2) := by decide +kernel
theorem dX1_nextNotFolded_28 : decode cX1_nextNotFolded 28 = .ok (.iload 5, 2) := by decide +kernel
theorem dX1_nextNotFolded_30 : decode cX1_nextNotFolded 30 = .ok (.iconst (-1), 1) := by decide +kernel
theorem dX1_nextNotFolded_31 : decode cX1_nextNotFolded 31 = .ok (.if_icmp .eq 12, 3) := by decide +kernel
theorem dX1_nextNotFolded_34 : decode cX1_nextNotFolded 34 = .ok (.aload_n 1, 1) := by decide +kernel
theorem dX1_nextNotFolded_35 : decode cX1_nextNotFolded 35 = .ok (.iload 5, 2) := by decide +kernel
theorem dX1_nextNotFolded_37 : decode cX1_nextNotFolded 37 = .ok (.invokevirtual 66, 3) := by decide +kernel
theorem dX1_nextNotFolded_40 : decode cX1_nextNotFolded 40 = .ok (.ifCond .ne 6, 3) := by decide +kernel
theorem dX1_nextNotFolded_43 : decode cX1_nextNotFolded 43 = .ok (.iload 5, 2) := by decide +kernel
theorem dX1_nextNotFolded_45 : decode cX1_nextNotFolded 45 = .ok (.ireturn, 1) := by decide +kernel
theorem dX1_nextNotFolded_46 : decode cX1_nextNotFolded 46 = .ok (.aload_n 0, 1) := by decide +kernel
theorem dX1_nextNotFolded_47 : decode cX1_nextNotFolded 47 = .ok (.iload 5, 2) := by decide +kernel
theorem dX1_nextNotFolded_49 : decode cX1_nextNotFolded 49 = .ok (.iload_n 2, 1) := by decide +kernel
theorem dX1_nextNotFolded_50 : decode cX1_nextNotFolded 50 = .ok (.iload_n 3, 1) := by decide +kernel
theorem dX1_nextNotFolded_51 : decode cX1_nextNotFolded 51 = .ok (.iload_n 3, 1) := by decide +kernel
theorem dX1_nextNotFolded_52 : decode cX1_nextNotFolded 52 = .ok (.invokevirtual 70, 3) := by decide +kernel
theorem dX1_nextNotFolded_55 : decode cX1_nextNotFolded 55 = .ok (.iinc 4 1, 3) := by decide +kernel
theorem dX1_nextNotFolded_58 : decode cX1_nextNotFolded 58 = .ok (.goto (-50), 3) := by decide +kernel
theorem dX1_nextNotFolded_61 : decode cX1_nextNotFolded 61 = .ok (.iconst (-1), 1) := by decide +kernel
theorem dX1_nextNotFolded_62 : decode cX1_nextNotFolded 62 = .ok (.ireturn, 1) := by decide +kernel
theorem dX1_hindrance_0 : decode cX1_hindrance 0 = .ok (.iconst (-1), 1) := by decide +kernel
theorem dX1_hindrance_1 : decode cX1_hindrance 1 = .ok (.istore 4, 2) := by decide +kernel
theorem dX1_hindrance_3 : decode cX1_hindrance 3 = .ok (.iconst 0, 1) := by decide +kernel
theorem dX1_hindrance_4 : decode cX1_hindrance 4 = .ok (.istore 5, 2) := by decide +kernel
theorem dX1_hindrance_6 : decode cX1_hindrance 6 = .ok (.iload 5, 2) := by decide +kernel
theorem dX1_hindrance_8 : decode cX1_hindrance 8 = .ok (.bipush 10, 2) := by decide +kernel
theorem dX1_hindrance_10 : decode cX1_hindrance 10 = .ok (.if_icmp .ge 46, 3) := by decide +kernel
theorem dX1_hindrance_13 : decode cX1_hindrance 13 = .ok (.aload_n 1, 1) := by decide +kernel
theorem dX1_hindrance_14 : decode cX1_hindrance 14 = .ok (.iload_n 2, 1) := by decide +kernel
theorem dX1_hindrance_15 : decode cX1_hindrance 15 = .ok (.iload 5, 2) := by decide +kernel
theorem dX1_hindrance_17 : decode cX1_hindrance 17 = .ok (.invokevirtual 74, 3) := by decide +kernel
theorem dX1_hindrance_20 : decode cX1_hindrance 20 = .ok (.ifCond .eq 30, 3) := by decide +kernel
theorem dX1_hindrance_23 : decode cX1_hindrance 23 = .ok (.aload_n 1, 1) := by decide +kernel
theorem dX1_hindrance_24 : decode cX1_hindrance 24 = .ok (.iload_n 2, 1) := by decide +kernel
theorem dX1_hindrance_25 : decode cX1_hindrance 25 = .ok (.iload 5, 2) := by decide +kernel
theorem dX1_hindrance_27 : decode cX1_hindrance 27 = .ok (.invokevirtual 78, 3) := by decide +kernel
theorem dX1_hindrance_30 : decode cX1_hindrance 30 = .ok (.iload_n 3, 1) := by decide +kernel
theorem dX1_hindrance_31 : decode cX1_hindrance 31 = .ok (.if_icmp .le 5, 3) := by decide +kernel
theorem dX1_hindrance_34 : decode cX1_hindrance 34 = .ok (.iconst 0, 1) := by decide +kernel
theorem dX1_hindrance_35 : decode cX1_hindrance 35 = .ok (.ireturn, 1) := by decide +kernel
theorem dX1_hindrance_36 : decode cX1_hindrance 36 = .ok (.aload_n 0, 1) := by decide +kernel
theorem dX1_hindrance_37 : decode cX1_hindrance 37 = .ok (.getfield 27, 3) := by decide +kernel
theorem dX1_hindrance_40 : decode cX1_hindrance 40 = .ok (.iload 5, 2) := by decide +kernel
theorem dX1_hindrance_42 : decode cX1_hindrance 42 = .ok (.iaload, 1) := by decide +kernel
theorem dX1_hindrance_43 : decode cX1_hindrance 43 = .ok (.iload_n 3, 1) := by decide +kernel
theorem dX1_hindrance_44 : decode cX1_hindrance 44 = .ok (.if_icmp .le 6, 3) := by decide +kernel
theorem dX1_hindrance_47 : decode cX1_hindrance 47 = .ok (.iconst 1, 1) := by decide +kernel
theorem dX1_hindrance_48 : decode cX1_hindrance 48 = .ok (.istore 4, 2) := by decide +kernel
theorem dX1_hindrance_50 : decode cX1_hindrance 50 = .ok (.iinc 5 1, 3) := by decide +kernel
theorem dX1_hindrance_53 : decode cX1_hindrance 53 = .ok (.goto (-47), 3) := by decide +kernel
theorem dX1_hindrance_56 : decode cX1_hindrance 56 = .ok (.iload 4, 2) := by decide +kernel
theorem dX1_hindrance_58 : decode cX1_hindrance 58 = .ok (.ireturn, 1) := by decide +kernel
theorem dX1_begin_0 : decode cX1_begin 0 = .ok (.aload_n 1, 1) := by decide +kernel
theorem dX1_begin_1 : decode cX1_begin 1 = .ok (.getfield 81, 3) := by decide +kernel
theorem dX1_begin_4 : decode cX1_begin 4 = .ok (.iload_n 2, 1) := by decide +kernel
theorem dX1_begin_5 : decode cX1_begin 5 = .ok (.iaload, 1) := by decide +kernel
theorem dX1_begin_6 : decode cX1_begin 6 = .ok (.istore 4, 2) := by decide +kernel
theorem dX1_begin_8 : decode cX1_begin 8 = .ok (.iload_n 3, 1) := by decide +kernel
theorem dX1_begin_9 : decode cX1_begin 9 = .ok (.aload_n 1, 1) := by decide +kernel
theorem dX1_begin_10 : decode cX1_begin 10 = .ok (.iload_n 2, 1) := by decide +kernel
theorem dX1_begin_11 : decode cX1_begin 11 = .ok (.invokevirtual 84, 3) := by decide +kernel
theorem dX1_begin_14 : decode cX1_begin 14 = .ok (.iadd, 1) := by decide +kernel
theorem dX1_begin_15 : decode cX1_begin 15 = .ok (.istore 5, 2) := by decide +kernel
theorem dX1_begin_17 : decode cX1_begin 17 = .ok (.aload_n 0, 1) := by decide +kernel
theorem dX1_begin_18 : decode cX1_begin 18 = .ok (.iload_n 2, 1) := by decide +kernel
theorem dX1_begin_19 : decode cX1_begin 19 = .ok (.iload 4, 2) := by decide +kernel
theorem dX1_begin_21 : decode cX1_begin 21 = .ok (.iload_n 3, 1) := by decide +kernel
theorem dX1_begin_22 : decode cX1_begin 22 = .ok (.iload 5, 2) := by decide +kernel
theorem dX1_begin_24 : decode cX1_begin 24 = .ok (.invokevirtual 70, 3) := by decide +kernel
theorem dX1_begin_27 : decode cX1_begin 27 = .ok (.aload_n 0, 1) := by decide +kernel
theorem dX1_begin_28 : decode cX1_begin 28 = .ok (.getfield 24, 3) := by decide +kernel
theorem dX1_begin_31 : decode cX1_begin 31 = .ok (.iload 4, 2) := by decide +kernel
theorem dX1_begin_33 : decode cX1_begin 33 = .ok (.iload 5, 2) := by decide +kernel
theorem dX1_begin_35 : decode cX1_begin 35 = .ok (.iastore, 1) := by decide +kernel
theorem dX1_begin_36 : decode cX1_begin 36 = .ok (.iconst 0, 1) := by decide +kernel
theorem dX1_begin_37 : decode cX1_begin 37 = .ok (.istore 6, 2) := by decide +kernel
theorem dX1_begin_39 : decode cX1_begin 39 = .ok (.iload 6, 2) := by decide +kernel
theorem dX1_begin_41 : decode cX1_begin 41 = .ok (.bipush 10, 2) := by decide +kernel
theorem dX1_begin_43 : decode cX1_begin 43 = .ok (.if_icmp .ge 28, 3) := by decide +kernel
theorem dX1_begin_46 : decode cX1_begin 46 = .ok (.aload_n 1, 1) := by decide +kernel
theorem dX1_begin_47 : decode cX1_begin 47 = .ok (.iload_n 2, 1) := by decide +kernel
theorem dX1_begin_48 : decode cX1_begin 48 = .ok (.iload 6, 2) := by decide +kernel
theorem dX1_begin_50 : decode cX1_begin 50 = .ok (.invokevirtual 74, 3) := by decide +kernel
theorem dX1_begin_53 : decode cX1_begin 53 = .ok (.ifCond .eq 12, 3) := by decide +kernel
theorem dX1_begin_56 : decode cX1_begin 56 = .ok (.aload_n 0, 1) := by decide +kernel
theorem dX1_begin_57 : decode cX1_begin 57 = .ok (.getfield 27, 3) := by decide +kernel
theorem dX1_begin_60 : decode cX1_begin 60 = .ok (.iload 6, 2) := by decide +kernel
theorem dX1_begin_62 : decode cX1_begin 62 = .ok (.iload 5, 2) := by decide +kernel
theorem dX1_begin_64 : decode cX1_begin 64 = .ok (.iastore, 1) := by decide +kernel
theorem dX1_begin_65 : decode cX1_begin 65 = .ok (.iinc 6 1, 3) := by decide +kernel
theorem dX1_begin_68 : decode cX1_begin 68 = .ok (.goto (-29), 3) := by decide +kernel
theorem dX1_begin_71 : decode cX1_begin 71 = .ok (.return_, 1) := by decide +kernel
theorem dX1_close_0 : decode cX1_close 0 = .ok (.aload_n 0, 1) := by decide +kernel
theorem dX1_close_1 : decode cX1_close 1 = .ok (.getfield 9, 3) := by decide +kernel
theorem dX1_close_4 : decode cX1_close 4 = .ok (.iload_n 1, 1) := by decide +kernel
theorem dX1_close_5 : decode cX1_close 5 = .ok (.iload_n 3, 1) := by decide +kernel
theorem dX1_close_6 : decode cX1_close 6 = .ok (.iastore, 1) := by decide +kernel
theorem dX1_close_7 : decode cX1_close 7 = .ok (.aload_n 0, 1) := by decide +kernel
theorem dX1_close_8 : decode cX1_close 8 = .ok (.getfield 15, 3) := by decide +kernel
theorem dX1_close_11 : decode cX1_close 11 = .ok (.iload_n 1, 1) := by decide +kernel
theorem dX1_close_12 : decode cX1_close 12 = .ok (.iload 4, 2) := by decide +kernel
theorem dX1_close_14 : decode cX1_close 14 = .ok (.iastore, 1) := by decide +kernel
theorem dX1_close_15 : decode cX1_close 15 = .ok (.aload_n 0, 1) := by decide +kernel
theorem dX1_close_16 : decode cX1_close 16 = .ok (.getfield 21, 3) := by decide +kernel
theorem dX1_close_19 : decode cX1_close 19 = .ok (.iload_n 2, 1) := by decide +kernel
theorem dX1_close_20 : decode cX1_close 20 = .ok (.dup2, 1) := by decide +kernel
theorem dX1_close_21 : decode cX1_close 21 = .ok (.iaload, 1) := by decide +kernel
theorem dX1_close_22 : decode cX1_close 22 = .ok (.iconst 1, 1) := by decide +kernel
theorem dX1_close_23 : decode cX1_close 23 = .ok (.iadd, 1) := by decide +kernel
theorem dX1_close_24 : decode cX1_close 24 = .ok (.iastore, 1) := by decide +kernel
theorem dX1_close_25 : decode cX1_close 25 = .ok (.aload_n 0, 1) := by decide +kernel
theorem dX1_close_26 : decode cX1_close 26 = .ok (.dup, 1) := by decide +kernel
theorem dX1_close_27 : decode cX1_close 27 = .ok (.getfield 42, 3) := by decide +kernel
theorem dX1_close_30 : decode cX1_close 30 = .ok (.iconst 1, 1) := by decide +kernel
theorem dX1_close_31 : decode cX1_close 31 = .ok (.isub, 1) := by decide +kernel
theorem dX1_close_32 : decode cX1_close 32 = .ok (.putfield 42, 3) := by decide +kernel
theorem dX1_close_35 : decode cX1_close 35 = .ok (.return_, 1) := by decide +kernel
theorem dX1_waitFor_0 : decode cX1_waitFor 0 = .ok (.aload_n 1, 1) := by decide +kernel
theorem dX1_waitFor_1 : decode cX1_waitFor 1 = .ok (.iload_n 3, 1) := by decide +kernel
theorem dX1_waitFor_2 : decode cX1_waitFor 2 = .ok (.iload_n 2, 1) := by decide +kernel
theorem dX1_waitFor_3 : decode cX1_waitFor 3 = .ok (.invokevirtual 78, 3) := by decide +kernel
theorem dX1_waitFor_6 : decode cX1_waitFor 6 = .ok (.istore 4, 2) := by decide +kernel
theorem dX1_waitFor_8 : decode cX1_waitFor 8 = .ok (.aload_n 0, 1) := by decide +kernel
theorem dX1_waitFor_9 : decode cX1_waitFor 9 = .ok (.getfield 9, 3) := by decide +kernel
theorem dX1_waitFor_12 : decode cX1_waitFor 12 = .ok (.iload_n 3, 1) := by decide +kernel
theorem dX1_waitFor_13 : decode cX1_waitFor 13 = .ok (.iaload, 1) := by decide +kernel
theorem dX1_waitFor_14 : decode cX1_waitFor 14 = .ok (.iconst (-1), 1) := by decide +kernel
theorem dX1_waitFor_15 : decode cX1_waitFor 15 = .ok (.if_icmp .ne 9, 3) := by decide +kernel
theorem dX1_waitFor_18 : decode cX1_waitFor 18 = .ok (.sipush 200, 3) := by decide +kernel
theorem dX1_waitFor_21 : decode cX1_waitFor 21 = .ok (.goto 9, 3) := by decide +kernel
theorem dX1_waitFor_24 : decode cX1_waitFor 24 = .ok (.aload_n 0, 1) := by decide +kernel
theorem dX1_waitFor_25 : decode cX1_waitFor 25 = .ok (.getfield 9, 3) := by decide +kernel
theorem dX1_waitFor_28 : decode cX1_waitFor 28 = .ok (.iload_n 3, 1) := by decide +kernel
theorem dX1_waitFor_29 : decode cX1_waitFor 29 = .ok (.iaload, 1) := by decide +kernel
theorem dX1_waitFor_30 : decode cX1_waitFor 30 = .ok (.istore 5, 2) := by decide +kernel
theorem dX1_waitFor_32 : decode cX1_waitFor 32 = .ok (.iload 5, 2) := by decide +kernel
theorem dX1_waitFor_34 : decode cX1_waitFor 34 = .ok (.iload 4, 2) := by decide +kernel
theorem dX1_waitFor_36 : decode cX1_waitFor 36 = .ok (.if_icmp .gt 5, 3) := by decide +kernel
theorem dX1_waitFor_39 : decode cX1_waitFor 39 = .ok (.iconst 0, 1) := by decide +kernel
theorem dX1_waitFor_40 : decode cX1_waitFor 40 = .ok (.ireturn, 1) := by decide +kernel
theorem dX1_waitFor_41 : decode cX1_waitFor 41 = .ok (.iload 5, 2) := by decide +kernel
theorem dX1_waitFor_43 : decode cX1_waitFor 43 = .ok (.iload 4, 2) := by decide +kernel
theorem dX1_waitFor_45 : decode cX1_waitFor 45 = .ok (.isub, 1) := by decide +kernel
theorem dX1_waitFor_46 : decode cX1_waitFor 46 = .ok (.istore 6, 2) := by decide +kernel
theorem dX1_waitFor_48 : decode cX1_waitFor 48 = .ok (.iconst 0, 1) := by decide +kernel
theorem dX1_waitFor_49 : decode cX1_waitFor 49 = .ok (.istore 7, 2) := by decide +kernel
theorem dX1_waitFor_51 : decode cX1_waitFor 51 = .ok (.iload 7, 2) := by decide +kernel
theorem dX1_waitFor_53 : decode cX1_waitFor 53 = .ok (.aload_n 1, 1) := by decide +kernel
theorem dX1_waitFor_54 : decode cX1_waitFor 54 = .ok (.getfield 36, 3) := by decide +kernel
theorem dX1_waitFor_57 : decode cX1_waitFor 57 = .ok (.if_icmp .ge 70, 3) := by decide +kernel
theorem dX1_waitFor_60 : decode cX1_waitFor 60 = .ok (.iload 7, 2) := by decide +kernel
theorem dX1_waitFor_62 : decode cX1_waitFor 62 = .ok (.iload_n 3, 1) := by decide +kernel
theorem dX1_waitFor_63 : decode cX1_waitFor 63 = .ok (.if_icmp .eq 58, 3) := by decide +kernel
theorem dX1_waitFor_66 : decode cX1_waitFor 66 = .ok (.aload_n 0, 1) := by decide +kernel
theorem dX1_waitFor_67 : decode cX1_waitFor 67 = .ok (.getfield 9, 3) := by decide +kernel
theorem dX1_waitFor_70 : decode cX1_waitFor 70 = .ok (.iload 7, 2) := by decide +kernel
theorem dX1_waitFor_72 : decode cX1_waitFor 72 = .ok (.iaload, 1) := by decide +kernel
theorem dX1_waitFor_73 : decode cX1_waitFor 73 = .ok (.iconst (-1), 1) := by decide +kernel
theorem dX1_waitFor_74 : decode cX1_waitFor 74 = .ok (.if_icmp .eq 47, 3) := by decide +kernel
theorem dX1_waitFor_77 : decode cX1_waitFor 77 = .ok (.aload_n 1, 1) := by decide +kernel
theorem dX1_waitFor_78 : decode cX1_waitFor 78 = .ok (.iload 7, 2) := by decide +kernel
theorem dX1_waitFor_80 : decode cX1_waitFor 80 = .ok (.iload_n 2, 1) := by decide +kernel
theorem dX1_waitFor_81 : decode cX1_waitFor 81 = .ok (.invokevirtual 74, 3) := by decide +kernel
theorem dX1_waitFor_84 : decode cX1_waitFor 84 = .ok (.ifCond .eq 37, 3) := by decide +kernel
theorem dX1_waitFor_87 : decode cX1_waitFor 87 = .ok (.iload 6, 2) := by decide +kernel
theorem dX1_waitFor_89 : decode cX1_waitFor 89 = .ok (.iconst 0, 1) := by decide +kernel
theorem dX1_waitFor_90 : decode cX1_waitFor 90 = .ok (.iload 5, 2) := by decide +kernel
theorem dX1_waitFor_92 : decode cX1_waitFor 92 = .ok (.aload_n 0, 1) := by decide +kernel
theorem dX1_waitFor_93 : decode cX1_waitFor 93 = .ok (.getfield 15, 3) := by decide +kernel
theorem dX1_waitFor_96 : decode cX1_waitFor 96 = .ok (.iload 7, 2) := by decide +kernel
theorem dX1_waitFor_98 : decode cX1_waitFor 98 = .ok (.iaload, 1) := by decide +kernel
theorem dX1_waitFor_99 : decode cX1_waitFor 99 = .ok (.invokestatic 88, 3) := by decide +kernel
theorem dX1_waitFor_102 : decode cX1_waitFor 102 = .ok (.iload 4, 2) := by decide +kernel
theorem dX1_waitFor_104 : decode cX1_waitFor 104 = .ok (.aload_n 0, 1) := by decide +kernel
theorem dX1_waitFor_105 : decode cX1_waitFor 105 = .ok (.getfield 9, 3) := by decide +kernel
theorem dX1_waitFor_108 : decode cX1_waitFor 108 = .ok (.iload 7, 2) := by decide +kernel
theorem dX1_waitFor_110 : decode cX1_waitFor 110 = .ok (.iaload, 1) := by decide +kernel
theorem dX1_waitFor_111 : decode cX1_waitFor 111 = .ok (.invokestatic 93, 3) := by decide +kernel
theorem dX1_waitFor_114 : decode cX1_waitFor 114 = .ok (.isub, 1) := by decide +kernel
theorem dX1_waitFor_115 : decode cX1_waitFor 115 = .ok (.invokestatic 93, 3) := by decide +kernel
theorem dX1_waitFor_118 : decode cX1_waitFor 118 = .ok (.isub, 1) := by decide +kernel
theorem dX1_waitFor_119 : decode cX1_waitFor 119 = .ok (.istore 6, 2) := by decide +kernel
theorem dX1_waitFor_121 : decode cX1_waitFor 121 = .ok (.iinc 7 1, 3) := by decide +kernel
theorem dX1_waitFor_124 : decode cX1_waitFor 124 = .ok (.goto (-73), 3) := by decide +kernel
theorem dX1_waitFor_127 : decode cX1_waitFor 127 = .ok (.iload 6, 2) := by decide +kernel
theorem dX1_waitFor_129 : decode cX1_waitFor 129 = .ok (.ireturn, 1) := by decide +kernel
theorem dX1_waitOf_0 : decode cX1_waitOf 0 = .ok (.iconst 0, 1) := by decide +kernel
theorem dX1_waitOf_1 : decode cX1_waitOf 1 = .ok (.istore_n 3, 1) := by decide +kernel
theorem dX1_waitOf_2 : decode cX1_waitOf 2 = .ok (.iconst 0, 1) := by decide +kernel
theorem dX1_waitOf_3 : decode cX1_waitOf 3 = .ok (.istore 4, 2) := by decide +kernel
theorem dX1_waitOf_5 : decode cX1_waitOf 5 = .ok (.iload 4, 2) := by decide +kernel
theorem dX1_waitOf_7 : decode cX1_waitOf 7 = .ok (.aload_n 1, 1) := by decide +kernel
theorem dX1_waitOf_8 : decode cX1_waitOf 8 = .ok (.getfield 36, 3) := by decide +kernel
theorem dX1_waitOf_11 : decode cX1_waitOf 11 = .ok (.if_icmp .ge 30, 3) := by decide +kernel
theorem dX1_waitOf_14 : decode cX1_waitOf 14 = .ok (.aload_n 1, 1) := by decide +kernel
theorem dX1_waitOf_15 : decode cX1_waitOf 15 = .ok (.iload 4, 2) := by decide +kernel
theorem dX1_waitOf_17 : decode cX1_waitOf 17 = .ok (.iload_n 2, 1) := by decide +kernel
theorem dX1_waitOf_18 : decode cX1_waitOf 18 = .ok (.invokevirtual 74, 3) := by decide +kernel
theorem dX1_waitOf_21 : decode cX1_waitOf 21 = .ok (.ifCond .eq 14, 3) := by decide +kernel
theorem dX1_waitOf_24 : decode cX1_waitOf 24 = .ok (.iload_n 3, 1) := by decide +kernel
theorem dX1_waitOf_25 : decode cX1_waitOf 25 = .ok (.aload_n 0, 1) := by decide +kernel
theorem dX1_waitOf_26 : decode cX1_waitOf 26 = .ok (.aload_n 1, 1) := by decide +kernel
theorem dX1_waitOf_27 : decode cX1_waitOf 27 = .ok (.iload_n 2, 1) := by decide +kernel
theorem dX1_waitOf_28 : decode cX1_waitOf 28 = .ok (.iload 4, 2) := by decide +kernel
theorem dX1_waitOf_30 : decode cX1_waitOf 30 = .ok (.invokevirtual 96, 3) := by decide +kernel
theorem dX1_waitOf_33 : decode cX1_waitOf 33 = .ok (.iadd, 1) := by decide +kernel
theorem dX1_waitOf_34 : decode cX1_waitOf 34 = .ok (.istore_n 3, 1) := by decide +kernel
theorem dX1_waitOf_35 : decode cX1_waitOf 35 = .ok (.iinc 4 1, 3) := by decide +kernel
theorem dX1_waitOf_38 : decode cX1_waitOf 38 = .ok (.goto (-33), 3) := by decide +kernel
theorem dX1_waitOf_41 : decode cX1_waitOf 41 = .ok (.iload_n 3, 1) := by decide +kernel
theorem dX1_waitOf_42 : decode cX1_waitOf 42 = .ok (.ireturn, 1) := by decide +kernel
theorem dX1_hearingsOf_0 : decode cX1_hearingsOf 0 = .ok (.iconst 0, 1) := by decide +kernel
theorem dX1_hearingsOf_1 : decode cX1_hearingsOf 1 = .ok (.istore_n 3, 1) := by decide +kernel
theorem dX1_hearingsOf_2 : decode cX1_hearingsOf 2 = .ok (.iconst 0, 1) := by decide +kernel
theorem dX1_hearingsOf_3 : decode cX1_hearingsOf 3 = .ok (.istore 4, 2) := by decide +kernel
theorem dX1_hearingsOf_5 : decode cX1_hearingsOf 5 = .ok (.iload 4, 2) := by decide +kernel
theorem dX1_hearingsOf_7 : decode cX1_hearingsOf 7 = .ok (.aload_n 1, 1) := by decide +kernel
theorem dX1_hearingsOf_8 : decode cX1_hearingsOf 8 = .ok (.getfield 36, 3) := by decide +kernel
theorem dX1_hearingsOf_11 : decode cX1_hearingsOf 11 = .ok (.if_icmp .ge 42, 3) := by decide +kernel
theorem dX1_hearingsOf_14 : decode cX1_hearingsOf 14 = .ok (.aload_n 1, 1) := by decide +kernel
theorem dX1_hearingsOf_15 : decode cX1_hearingsOf 15 = .ok (.iload 4, 2) := by decide +kernel
theorem dX1_hearingsOf_17 : decode cX1_hearingsOf 17 = .ok (.iload_n 2, 1) := by decide +kernel
theorem dX1_hearingsOf_18 : decode cX1_hearingsOf 18 = .ok (.invokevirtual 74, 3) := by decide +kernel
theorem dX1_hearingsOf_21 : decode cX1_hearingsOf 21 = .ok (.ifCond .eq 26, 3) := by decide +kernel
theorem dX1_hearingsOf_24 : decode cX1_hearingsOf 24 = .ok (.aload_n 0, 1) := by decide +kernel
theorem dX1_hearingsOf_25 : decode cX1_hearingsOf 25 = .ok (.getfield 9, 3) := by decide +kernel
theorem dX1_hearingsOf_28 : decode cX1_hearingsOf 28 = .ok (.iload 4, 2) := by decide +kernel
theorem dX1_hearingsOf_30 : decode cX1_hearingsOf 30 = .ok (.iaload, 1) := by decide +kernel
theorem dX1_hearingsOf_31 : decode cX1_hearingsOf 31 = .ok (.iconst (-1), 1) := by decide +kernel
theorem dX1_hearingsOf_32 : decode cX1_hearingsOf 32 = .ok (.if_icmp .eq 15, 3) := by decide +kernel
theorem dX1_hearingsOf_35 : decode cX1_hearingsOf 35 = .ok (.aload_n 1, 1) := by decide +kernel
theorem dX1_hearingsOf_36 : decode cX1_hearingsOf 36 = .ok (.iload 4, 2) := by decide +kernel
theorem dX1_hearingsOf_38 : decode cX1_hearingsOf 38 = .ok (.invokevirtual 66, 3) := by decide +kernel
theorem dX1_hearingsOf_41 : decode cX1_hearingsOf 41 = .ok (.ifCond .ne 6, 3) := by decide +kernel
theorem dX1_hearingsOf_44 : decode cX1_hearingsOf 44 = .ok (.iinc 3 1, 3) := by decide +kernel
theorem dX1_hearingsOf_47 : decode cX1_hearingsOf 47 = .ok (.iinc 4 1, 3) := by decide +kernel
theorem dX1_hearingsOf_50 : decode cX1_hearingsOf 50 = .ok (.goto (-45), 3) := by decide +kernel
theorem dX1_hearingsOf_53 : decode cX1_hearingsOf 53 = .ok (.iload_n 3, 1) := by decide +kernel
theorem dX1_hearingsOf_54 : decode cX1_hearingsOf 54 = .ok (.ireturn, 1) := by decide +kernel
theorem dX2_init_0 : decode cX2_init 0 = .ok (.aload_n 0, 1) := by decide +kernel
theorem dX2_init_1 : decode cX2_init 1 = .ok (.invokespecial 3, 3) := by decide +kernel
theorem dX2_init_4 : decode cX2_init 4 = .ok (.aload_n 0, 1) := by decide +kernel
theorem dX2_init_5 : decode cX2_init 5 = .ok (.bipush 12, 2) := by decide +kernel
theorem dX2_init_7 : decode cX2_init 7 = .ok (.newarray .int, 2) := by decide +kernel
theorem dX2_init_9 : decode cX2_init 9 = .ok (.putfield 9, 3) := by decide +kernel
theorem dX2_init_12 : decode cX2_init 12 = .ok (.aload_n 0, 1) := by decide +kernel
theorem dX2_init_13 : decode cX2_init 13 = .ok (.bipush 12, 2) := by decide +kernel
theorem dX2_init_15 : decode cX2_init 15 = .ok (.newarray .int, 2) := by decide +kernel
theorem dX2_init_17 : decode cX2_init 17 = .ok (.putfield 15, 3) := by decide +kernel
theorem dX2_init_20 : decode cX2_init 20 = .ok (.aload_n 0, 1) := by decide +kernel
theorem dX2_init_21 : decode cX2_init 21 = .ok (.bipush 12, 2) := by decide +kernel
theorem dX2_init_23 : decode cX2_init 23 = .ok (.newarray .int, 2) := by decide +kernel
theorem dX2_init_25 : decode cX2_init 25 = .ok (.putfield 18, 3) := by decide +kernel
theorem dX2_init_28 : decode cX2_init 28 = .ok (.aload_n 0, 1) := by decide +kernel
theorem dX2_init_29 : decode cX2_init 29 = .ok (.bipush 12, 2) := by decide +kernel
theorem dX2_init_31 : decode cX2_init 31 = .ok (.newarray .int, 2) := by decide +kernel
theorem dX2_init_33 : decode cX2_init 33 = .ok (.putfield 21, 3) := by decide +kernel
theorem dX2_init_36 : decode cX2_init 36 = .ok (.aload_n 0, 1) := by decide +kernel
theorem dX2_init_37 : decode cX2_init 37 = .ok (.bipush 12, 2) := by decide +kernel
theorem dX2_init_39 : decode cX2_init 39 = .ok (.newarray .int, 2) := by decide +kernel
theorem dX2_init_41 : decode cX2_init 41 = .ok (.putfield 24, 3) := by decide +kernel
theorem dX2_init_44 : decode cX2_init 44 = .ok (.aload_n 0, 1) := by decide +kernel
theorem dX2_init_45 : decode cX2_init 45 = .ok (.bipush 120, 2) := by decide +kernel
theorem dX2_init_47 : decode cX2_init 47 = .ok (.newarray .int, 2) := by decide +kernel
theorem dX2_init_49 : decode cX2_init 49 = .ok (.putfield 27, 3) := by decide +kernel
theorem dX2_init_52 : decode cX2_init 52 = .ok (.aload_n 0, 1) := by decide +kernel
theorem dX2_init_53 : decode cX2_init 53 = .ok (.bipush 18, 2) := by decide +kernel
theorem dX2_init_55 : decode cX2_init 55 = .ok (.newarray .int, 2) := by decide +kernel
theorem dX2_init_57 : decode cX2_init 57 = .ok (.putfield 30, 3) := by decide +kernel
theorem dX2_init_60 : decode cX2_init 60 = .ok (.aload_n 0, 1) := by decide +kernel
theorem dX2_init_61 : decode cX2_init 61 = .ok (.iconst 3, 1) := by decide +kernel
theorem dX2_init_62 : decode cX2_init 62 = .ok (.newarray .int, 2) := by decide +kernel
theorem dX2_init_64 : decode cX2_init 64 = .ok (.putfield 33, 3) := by decide +kernel
theorem dX2_init_67 : decode cX2_init 67 = .ok (.return_, 1) := by decide +kernel
theorem dX2_has_0 : decode cX2_has 0 = .ok (.iload_n 1, 1) := by decide +kernel
theorem dX2_has_1 : decode cX2_has 1 = .ok (.ifCond .lt 15, 3) := by decide +kernel
theorem dX2_has_4 : decode cX2_has 4 = .ok (.iload_n 1, 1) := by decide +kernel
theorem dX2_has_5 : decode cX2_has 5 = .ok (.aload_n 0, 1) := by decide +kernel
theorem dX2_has_6 : decode cX2_has 6 = .ok (.getfield 36, 3) := by decide +kernel
theorem dX2_has_9 : decode cX2_has 9 = .ok (.if_icmp .ge 7, 3) := by decide +kernel
theorem dX2_has_12 : decode cX2_has 12 = .ok (.iconst 1, 1) := by decide +kernel
theorem dX2_has_13 : decode cX2_has 13 = .ok (.goto 4, 3) := by decide +kernel
theorem dX2_has_16 : decode cX2_has 16 = .ok (.iconst 0, 1) := by decide +kernel
theorem dX2_has_17 : decode cX2_has 17 = .ok (.ireturn, 1) := by decide +kernel
theorem dX2_enter_0 : decode cX2_enter 0 = .ok (.aload_n 0, 1) := by decide +kernel
theorem dX2_enter_1 : decode cX2_enter 1 = .ok (.getfield 36, 3) := by decide +kernel
theorem dX2_enter_4 : decode cX2_enter 4 = .ok (.istore 4, 2) := by decide +kernel
theorem dX2_enter_6 : decode cX2_enter 6 = .ok (.aload_n 0, 1) := by decide +kernel
theorem dX2_enter_7 : decode cX2_enter 7 = .ok (.dup, 1) := by decide +kernel
theorem dX2_enter_8 : decode cX2_enter 8 = .ok (.getfield 36, 3) := by decide +kernel
theorem dX2_enter_11 : decode cX2_enter 11 = .ok (.iconst 1, 1) := by decide +kernel
theorem dX2_enter_12 : decode cX2_enter 12 = .ok (.iadd, 1) := by decide +kernel
theorem dX2_enter_13 : decode cX2_enter 13 = .ok (.putfield 36, 3) := by decide +kernel
theorem dX2_enter_16 : decode cX2_enter 16 = .ok (.aload_n 0, 1) := by decide +kernel
theorem dX2_enter_17 : decode cX2_enter 17 = .ok (.getfield 15, 3) := by decide +kernel
theorem dX2_enter_20 : decode cX2_enter 20 = .ok (.iload 4, 2) := by decide +kernel
theorem dX2_enter_22 : decode cX2_enter 22 = .ok (.iload_n 2, 1) := by decide +kernel
theorem dX2_enter_23 : decode cX2_enter 23 = .ok (.iastore, 1) := by decide +kernel
theorem dX2_enter_24 : decode cX2_enter 24 = .ok (.aload_n 0, 1) := by decide +kernel
theorem dX2_enter_25 : decode cX2_enter 25 = .ok (.getfield 18, 3) := by decide +kernel
theorem dX2_enter_28 : decode cX2_enter 28 = .ok (.iload 4, 2) := by decide +kernel
theorem dX2_enter_30 : decode cX2_enter 30 = .ok (.iload_n 3, 1) := by decide +kernel
theorem dX2_enter_31 : decode cX2_enter 31 = .ok (.iastore, 1) := by decide +kernel
theorem dX2_enter_32 : decode cX2_enter 32 = .ok (.aload_n 0, 1) := by decide +kernel
theorem dX2_enter_33 : decode cX2_enter 33 = .ok (.getfield 24, 3) := by decide +kernel
theorem dX2_enter_36 : decode cX2_enter 36 = .ok (.iload 4, 2) := by decide +kernel
theorem dX2_enter_38 : decode cX2_enter 38 = .ok (.iconst (-1), 1) := by decide +kernel
theorem dX2_enter_39 : decode cX2_enter 39 = .ok (.iastore, 1) := by decide +kernel
theorem dX2_enter_40 : decode cX2_enter 40 = .ok (.aload_n 0, 1) := by decide +kernel
theorem dX2_enter_41 : decode cX2_enter 41 = .ok (.iload 4, 2) := by decide +kernel
theorem dX2_enter_43 : decode cX2_enter 43 = .ok (.iload_n 1, 1) := by decide +kernel
theorem dX2_enter_44 : decode cX2_enter 44 = .ok (.invokevirtual 40, 3) := by decide +kernel
theorem dX2_enter_47 : decode cX2_enter 47 = .ok (.iload 4, 2) := by decide +kernel
theorem dX2_enter_49 : decode cX2_enter 49 = .ok (.ireturn, 1) := by decide +kernel
theorem dX2_caseAt_0 : decode cX2_caseAt 0 = .ok (.iload_n 2, 1) := by decide +kernel
theorem dX2_caseAt_1 : decode cX2_caseAt 1 = .ok (.ifCond .lt 27, 3) := by decide +kernel
theorem dX2_caseAt_4 : decode cX2_caseAt 4 = .ok (.iload_n 2, 1) := by decide +kernel
theorem dX2_caseAt_5 : decode cX2_caseAt 5 = .ok (.aload_n 0, 1) := by decide +kernel
theorem dX2_caseAt_6 : decode cX2_caseAt 6 = .ok (.getfield 33, 3) := by decide +kernel
theorem dX2_caseAt_9 : decode cX2_caseAt 9 = .ok (.iload_n 1, 1) := by decide +kernel
theorem dX2_caseAt_10 : decode cX2_caseAt 10 = .ok (.iaload, 1) := by decide +kernel
theorem dX2_caseAt_11 : decode cX2_caseAt 11 = .ok (.if_icmp .ge 17, 3) := by decide +kernel
theorem dX2_caseAt_14 : decode cX2_caseAt 14 = .ok (.aload_n 0, 1) := by decide +kernel
theorem dX2_caseAt_15 : decode cX2_caseAt 15 = .ok (.getfield 30, 3) := by decide +kernel
theorem dX2_caseAt_18 : decode cX2_caseAt 18 = .ok (.iload_n 1, 1) := by decide +kernel
theorem dX2_caseAt_19 : decode cX2_caseAt 19 = .ok (.bipush 6, 2) := by decide +kernel
theorem dX2_caseAt_21 : decode cX2_caseAt 21 = .ok (.imul, 1) := by decide +kernel
theorem dX2_caseAt_22 : decode cX2_caseAt 22 = .ok (.iload_n 2, 1) := by decide +kernel
theorem dX2_caseAt_23 : decode cX2_caseAt 23 = .ok (.iadd, 1) := by decide +kernel
theorem dX2_caseAt_24 : decode cX2_caseAt 24 = .ok (.iaload, 1) := by decide +kernel
theorem dX2_caseAt_25 : decode cX2_caseAt 25 = .ok (.goto 4, 3) := by decide +kernel
theorem dX2_caseAt_28 : decode cX2_caseAt 28 = .ok (.iconst (-1), 1) := by decide +kernel
theorem dX2_caseAt_29 : decode cX2_caseAt 29 = .ok (.ireturn, 1) := by decide +kernel
theorem dX2_placeOf_0 : decode cX2_placeOf 0 = .ok (.aload_n 0, 1) := by decide +kernel
theorem dX2_placeOf_1 : decode cX2_placeOf 1 = .ok (.getfield 9, 3) := by decide +kernel
theorem dX2_placeOf_4 : decode cX2_placeOf 4 = .ok (.iload_n 1, 1) := by decide +kernel
theorem dX2_placeOf_5 : decode cX2_placeOf 5 = .ok (.iaload, 1) := by decide +kernel
theorem dX2_placeOf_6 : decode cX2_placeOf 6 = .ok (.istore_n 2, 1) := by decide +kernel
theorem dX2_placeOf_7 : decode cX2_placeOf 7 = .ok (.iconst 0, 1) := by decide +kernel
theorem dX2_placeOf_8 : decode cX2_placeOf 8 = .ok (.istore_n 3, 1) := by decide +kernel
theorem dX2_placeOf_9 : decode cX2_placeOf 9 = .ok (.iload_n 3, 1) := by decide +kernel
theorem dX2_placeOf_10 : decode cX2_placeOf 10 = .ok (.aload_n 0, 1) := by decide +kernel
theorem dX2_placeOf_11 : decode cX2_placeOf 11 = .ok (.getfield 33, 3) := by decide +kernel
theorem dX2_placeOf_14 : decode cX2_placeOf 14 = .ok (.iload_n 2, 1) := by decide +kernel
theorem dX2_placeOf_15 : decode cX2_placeOf 15 = .ok (.iaload, 1) := by decide +kernel
theorem dX2_placeOf_16 : decode cX2_placeOf 16 = .ok (.if_icmp .ge 19, 3) := by decide +kernel
theorem dX2_placeOf_19 : decode cX2_placeOf 19 = .ok (.aload_n 0, 1) := by decide +kernel
theorem dX2_placeOf_20 : decode cX2_placeOf 20 = .ok (.iload_n 2, 1) := by decide +kernel
theorem dX2_placeOf_21 : decode cX2_placeOf 21 = .ok (.iload_n 3, 1) := by decide +kernel
theorem dX2_placeOf_22 : decode cX2_placeOf 22 = .ok (.invokevirtual 44, 3) := by decide +kernel
theorem dX2_placeOf_25 : decode cX2_placeOf 25 = .ok (.iload_n 1, 1) := by decide +kernel
theorem dX2_placeOf_26 : decode cX2_placeOf 26 = .ok (.if_icmp .eq 9, 3) := by decide +kernel
theorem dX2_placeOf_29 : decode cX2_placeOf 29 = .ok (.iinc 3 1, 3) := by decide +kernel
theorem dX2_placeOf_32 : decode cX2_placeOf 32 = .ok (.goto (-23), 3) := by decide +kernel
theorem dX2_placeOf_35 : decode cX2_placeOf 35 = .ok (.iload_n 3, 1) := by decide +kernel
theorem dX2_placeOf_36 : decode cX2_placeOf 36 = .ok (.ireturn, 1) := by decide +kernel
theorem dX2_joinList_0 : decode cX2_joinList 0 = .ok (.aload_n 0, 1) := by decide +kernel
theorem dX2_joinList_1 : decode cX2_joinList 1 = .ok (.getfield 33, 3) := by decide +kernel
theorem dX2_joinList_4 : decode cX2_joinList 4 = .ok (.iload_n 2, 1) := by decide +kernel
theorem dX2_joinList_5 : decode cX2_joinList 5 = .ok (.iaload, 1) := by decide +kernel
theorem dX2_joinList_6 : decode cX2_joinList 6 = .ok (.bipush 6, 2) := by decide +kernel
theorem dX2_joinList_8 : decode cX2_joinList 8 = .ok (.if_icmp .ge 37, 3) := by decide +kernel
theorem dX2_joinList_11 : decode cX2_joinList 11 = .ok (.aload_n 0, 1) := by decide +kernel
theorem dX2_joinList_12 : decode cX2_joinList 12 = .ok (.getfield 30, 3) := by decide +kernel
theorem dX2_joinList_15 : decode cX2_joinList 15 = .ok (.iload_n 2, 1) := by decide +kernel
theorem dX2_joinList_16 : decode cX2_joinList 16 = .ok (.bipush 6, 2) := by decide +kernel
theorem dX2_joinList_18 : decode cX2_joinList 18 = .ok (.imul, 1) := by decide +kernel
theorem dX2_joinList_19 : decode cX2_joinList 19 = .ok (.aload_n 0, 1) := by decide +kernel
theorem dX2_joinList_20 : decode cX2_joinList 20 = .ok (.getfield 33, 3) := by decide +kernel
theorem dX2_joinList_23 : decode cX2_joinList 23 = .ok (.iload_n 2, 1) := by decide +kernel
theorem dX2_joinList_24 : decode cX2_joinList 24 = .ok (.iaload, 1) := by decide +kernel
theorem dX2_joinList_25 : decode cX2_joinList 25 = .ok (.iadd, 1) := by decide +kernel
theorem dX2_joinList_26 : decode cX2_joinList 26 = .ok (.iload_n 1, 1) := by decide +kernel
theorem dX2_joinList_27 : decode cX2_joinList 27 = .ok (.iastore, 1) := by decide +kernel
theorem dX2_joinList_28 : decode cX2_joinList 28 = .ok (.aload_n 0, 1) := by decide +kernel
theorem dX2_joinList_29 : decode cX2_joinList 29 = .ok (.getfield 33, 3) := by decide +kernel
theorem dX2_joinList_32 : decode cX2_joinList 32 = .ok (.iload_n 2, 1) := by decide +kernel
theorem dX2_joinList_33 : decode cX2_joinList 33 = .ok (.dup2, 1) := by decide +kernel
theorem dX2_joinList_34 : decode cX2_joinList 34 = .ok (.iaload, 1) := by decide +kernel
theorem dX2_joinList_35 : decode cX2_joinList 35 = .ok (.iconst 1, 1) := by decide +kernel
theorem dX2_joinList_36 : decode cX2_joinList 36 = .ok (.iadd, 1) := by decide +kernel
theorem dX2_joinList_37 : decode cX2_joinList 37 = .ok (.iastore, 1) := by decide +kernel
theorem dX2_joinList_38 : decode cX2_joinList 38 = .ok (.aload_n 0, 1) := by decide +kernel
theorem dX2_joinList_39 : decode cX2_joinList 39 = .ok (.getfield 9, 3) := by decide +kernel
theorem dX2_joinList_42 : decode cX2_joinList 42 = .ok (.iload_n 1, 1) := by decide +kernel
theorem dX2_joinList_43 : decode cX2_joinList 43 = .ok (.iload_n 2, 1) := by decide +kernel
theorem dX2_joinList_44 : decode cX2_joinList 44 = .ok (.iastore, 1) := by decide +kernel
theorem dX2_joinList_45 : decode cX2_joinList 45 = .ok (.return_, 1) := by decide +kernel
theorem dX2_leaveList_0 : decode cX2_leaveList 0 = .ok (.aload_n 0, 1) := by decide +kernel
theorem dX2_leaveList_1 : decode cX2_leaveList 1 = .ok (.getfield 9, 3) := by decide +kernel
theorem dX2_leaveList_4 : decode cX2_leaveList 4 = .ok (.iload_n 1, 1) := by decide +kernel
theorem dX2_leaveList_5 : decode cX2_leaveList 5 = .ok (.iaload, 1) := by decide +kernel
theorem dX2_leaveList_6 : decode cX2_leaveList 6 = .ok (.istore_n 2, 1) := by decide +kernel
theorem dX2_leaveList_7 : decode cX2_leaveList 7 = .ok (.aload_n 0, 1) := by decide +kernel
theorem dX2_leaveList_8 : decode cX2_leaveList 8 = .ok (.iload_n 1, 1) := by decide +kernel
theorem dX2_leaveList_9 : decode cX2_leaveList 9 = .ok (.invokevirtual 48, 3) := by decide +kernel
theorem dX2_leaveList_12 : decode cX2_leaveList 12 = .ok (.iconst 1, 1) := by decide +kernel
theorem dX2_leaveList_13 : decode cX2_leaveList 13 = .ok (.iadd, 1) := by decide +kernel
theorem dX2_leaveList_14 : decode cX2_leaveList 14 = .ok (.istore_n 3, 1) := by decide +kernel
theorem dX2_leaveList_15 : decode cX2_leaveList 15 = .ok (.iload_n 3, 1) := by decide +kernel
theorem dX2_leaveList_16 : decode cX2_leaveList 16 = .ok (.aload_n 0, 1) := by decide +kernel
theorem dX2_leaveList_17 : decode cX2_leaveList 17 = .ok (.getfield 33, 3) := by decide +kernel
theorem dX2_leaveList_20 : decode cX2_leaveList 20 = .ok (.iload_n 2, 1) := by decide +kernel
theorem dX2_leaveList_21 : decode cX2_leaveList 21 = .ok (.iaload, 1) := by decide +kernel
