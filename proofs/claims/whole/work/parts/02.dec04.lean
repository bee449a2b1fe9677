theorem dX7_idle_45 : decode cX7_idle 45 = .ok (.lreturn, 1) := by decide +kernel
theorem dX7_waits_0 : decode cX7_waits 0 = .ok (.aload_n 0, 1) := by decide +kernel
theorem dX7_waits_1 : decode cX7_waits 1 = .ok (.getfield 33, 3) := by decide +kernel
theorem dX7_waits_4 : decode cX7_waits 4 = .ok (.aload_n 0, 1) := by decide +kernel
theorem dX7_waits_5 : decode cX7_waits 5 = .ok (.getfield 10, 3) := by decide +kernel
theorem dX7_waits_8 : decode cX7_waits 8 = .ok (.invokevirtual 171, 3) := by decide +kernel
theorem dX7_waits_11 : decode cX7_waits 11 = .ok (.lconst 0, 1) := by decide +kernel
theorem dX7_waits_12 : decode cX7_waits 12 = .ok (.lstore_n 1, 1) := by decide +kernel
theorem dX7_waits_13 : decode cX7_waits 13 = .ok (.iconst 0, 1) := by decide +kernel
theorem dX7_waits_14 : decode cX7_waits 14 = .ok (.istore_n 3, 1) := by decide +kernel
theorem dX7_waits_15 : decode cX7_waits 15 = .ok (.iload_n 3, 1) := by decide +kernel
theorem dX7_waits_16 : decode cX7_waits 16 = .ok (.aload_n 0, 1) := by decide +kernel
theorem dX7_waits_17 : decode cX7_waits 17 = .ok (.getfield 19, 3) := by decide +kernel
theorem dX7_waits_20 : decode cX7_waits 20 = .ok (.getfield 85, 3) := by decide +kernel
theorem dX7_waits_23 : decode cX7_waits 23 = .ok (.if_icmp .ge 25, 3) := by decide +kernel
theorem dX7_waits_26 : decode cX7_waits 26 = .ok (.lload_n 1, 1) := by decide +kernel
theorem dX7_waits_27 : decode cX7_waits 27 = .ok (.aload_n 0, 1) := by decide +kernel
theorem dX7_waits_28 : decode cX7_waits 28 = .ok (.getfield 33, 3) := by decide +kernel
theorem dX7_waits_31 : decode cX7_waits 31 = .ok (.aload_n 0, 1) := by decide +kernel
theorem dX7_waits_32 : decode cX7_waits 32 = .ok (.getfield 10, 3) := by decide +kernel
theorem dX7_waits_35 : decode cX7_waits 35 = .ok (.iload_n 3, 1) := by decide +kernel
theorem dX7_waits_36 : decode cX7_waits 36 = .ok (.invokevirtual 191, 3) := by decide +kernel
theorem dX7_waits_39 : decode cX7_waits 39 = .ok (.i2l, 1) := by decide +kernel
theorem dX7_waits_40 : decode cX7_waits 40 = .ok (.ladd, 1) := by decide +kernel
theorem dX7_waits_41 : decode cX7_waits 41 = .ok (.lstore_n 1, 1) := by decide +kernel
theorem dX7_waits_42 : decode cX7_waits 42 = .ok (.iinc 3 1, 3) := by decide +kernel
theorem dX7_waits_45 : decode cX7_waits 45 = .ok (.goto (-30), 3) := by decide +kernel
theorem dX7_waits_48 : decode cX7_waits 48 = .ok (.lload_n 1, 1) := by decide +kernel
theorem dX7_waits_49 : decode cX7_waits 49 = .ok (.lreturn, 1) := by decide +kernel
theorem dX7_pay_0 : decode cX7_pay 0 = .ok (.aload_n 0, 1) := by decide +kernel
theorem dX7_pay_1 : decode cX7_pay 1 = .ok (.getfield 19, 3) := by decide +kernel
theorem dX7_pay_4 : decode cX7_pay 4 = .ok (.iload_n 1, 1) := by decide +kernel
theorem dX7_pay_5 : decode cX7_pay 5 = .ok (.invokevirtual 89, 3) := by decide +kernel
theorem dX7_pay_8 : decode cX7_pay 8 = .ok (.ifCond .ne 7, 3) := by decide +kernel
theorem dX7_pay_11 : decode cX7_pay 11 = .ok (.ldc2_w 70, 3) := by decide +kernel
theorem dX7_pay_14 : decode cX7_pay 14 = .ok (.lreturn, 1) := by decide +kernel
theorem dX7_pay_15 : decode cX7_pay 15 = .ok (.aload_n 0, 1) := by decide +kernel
theorem dX7_pay_16 : decode cX7_pay 16 = .ok (.getfield 19, 3) := by decide +kernel
theorem dX7_pay_19 : decode cX7_pay 19 = .ok (.getfield 92, 3) := by decide +kernel
theorem dX7_pay_22 : decode cX7_pay 22 = .ok (.iload_n 1, 1) := by decide +kernel
theorem dX7_pay_23 : decode cX7_pay 23 = .ok (.iaload, 1) := by decide +kernel
theorem dX7_pay_24 : decode cX7_pay 24 = .ok (.istore_n 2, 1) := by decide +kernel
theorem dX7_pay_25 : decode cX7_pay 25 = .ok (.iload_n 2, 1) := by decide +kernel
theorem dX7_pay_26 : decode cX7_pay 26 = .ok (.iconst 1, 1) := by decide +kernel
theorem dX7_pay_27 : decode cX7_pay 27 = .ok (.if_icmp .eq 14, 3) := by decide +kernel
theorem dX7_pay_30 : decode cX7_pay 30 = .ok (.aload_n 0, 1) := by decide +kernel
theorem dX7_pay_31 : decode cX7_pay 31 = .ok (.getfield 10, 3) := by decide +kernel
theorem dX7_pay_34 : decode cX7_pay 34 = .ok (.iload_n 1, 1) := by decide +kernel
theorem dX7_pay_35 : decode cX7_pay 35 = .ok (.invokevirtual 195, 3) := by decide +kernel
theorem dX7_pay_38 : decode cX7_pay 38 = .ok (.ifCond .ne 5, 3) := by decide +kernel
theorem dX7_pay_41 : decode cX7_pay 41 = .ok (.lconst 0, 1) := by decide +kernel
theorem dX7_pay_42 : decode cX7_pay 42 = .ok (.lreturn, 1) := by decide +kernel
theorem dX7_pay_43 : decode cX7_pay 43 = .ok (.ldc2_w 198, 3) := by decide +kernel
theorem dX7_pay_46 : decode cX7_pay 46 = .ok (.aload_n 0, 1) := by decide +kernel
theorem dX7_pay_47 : decode cX7_pay 47 = .ok (.getfield 19, 3) := by decide +kernel
theorem dX7_pay_50 : decode cX7_pay 50 = .ok (.getfield 107, 3) := by decide +kernel
theorem dX7_pay_53 : decode cX7_pay 53 = .ok (.iload_n 1, 1) := by decide +kernel
theorem dX7_pay_54 : decode cX7_pay 54 = .ok (.iaload, 1) := by decide +kernel
theorem dX7_pay_55 : decode cX7_pay 55 = .ok (.i2l, 1) := by decide +kernel
theorem dX7_pay_56 : decode cX7_pay 56 = .ok (.lmul, 1) := by decide +kernel
theorem dX7_pay_57 : decode cX7_pay 57 = .ok (.aload_n 0, 1) := by decide +kernel
theorem dX7_pay_58 : decode cX7_pay 58 = .ok (.getfield 58, 3) := by decide +kernel
theorem dX7_pay_61 : decode cX7_pay 61 = .ok (.iconst 3, 1) := by decide +kernel
theorem dX7_pay_62 : decode cX7_pay 62 = .ok (.iaload, 1) := by decide +kernel
theorem dX7_pay_63 : decode cX7_pay 63 = .ok (.i2l, 1) := by decide +kernel
theorem dX7_pay_64 : decode cX7_pay 64 = .ok (.lmul, 1) := by decide +kernel
theorem dX7_pay_65 : decode cX7_pay 65 = .ok (.lstore_n 3, 1) := by decide +kernel
theorem dX7_pay_66 : decode cX7_pay 66 = .ok (.iload_n 2, 1) := by decide +kernel
theorem dX7_pay_67 : decode cX7_pay 67 = .ok (.iconst 3, 1) := by decide +kernel
theorem dX7_pay_68 : decode cX7_pay 68 = .ok (.if_icmp .eq 8, 3) := by decide +kernel
theorem dX7_pay_71 : decode cX7_pay 71 = .ok (.iload_n 2, 1) := by decide +kernel
theorem dX7_pay_72 : decode cX7_pay 72 = .ok (.iconst 4, 1) := by decide +kernel
theorem dX7_pay_73 : decode cX7_pay 73 = .ok (.if_icmp .ne 5, 3) := by decide +kernel
theorem dX7_pay_76 : decode cX7_pay 76 = .ok (.lload_n 3, 1) := by decide +kernel
theorem dX7_pay_77 : decode cX7_pay 77 = .ok (.lreturn, 1) := by decide +kernel
theorem dX7_pay_78 : decode cX7_pay 78 = .ok (.aload_n 0, 1) := by decide +kernel
theorem dX7_pay_79 : decode cX7_pay 79 = .ok (.getfield 33, 3) := by decide +kernel
theorem dX7_pay_82 : decode cX7_pay 82 = .ok (.aload_n 0, 1) := by decide +kernel
theorem dX7_pay_83 : decode cX7_pay 83 = .ok (.getfield 10, 3) := by decide +kernel
theorem dX7_pay_86 : decode cX7_pay 86 = .ok (.invokevirtual 171, 3) := by decide +kernel
theorem dX7_pay_89 : decode cX7_pay 89 = .ok (.aload_n 0, 1) := by decide +kernel
theorem dX7_pay_90 : decode cX7_pay 90 = .ok (.getfield 33, 3) := by decide +kernel
theorem dX7_pay_93 : decode cX7_pay 93 = .ok (.aload_n 0, 1) := by decide +kernel
theorem dX7_pay_94 : decode cX7_pay 94 = .ok (.getfield 10, 3) := by decide +kernel
theorem dX7_pay_97 : decode cX7_pay 97 = .ok (.iload_n 1, 1) := by decide +kernel
theorem dX7_pay_98 : decode cX7_pay 98 = .ok (.invokevirtual 191, 3) := by decide +kernel
theorem dX7_pay_101 : decode cX7_pay 101 = .ok (.iconst 4, 1) := by decide +kernel
theorem dX7_pay_102 : decode cX7_pay 102 = .ok (.idiv, 1) := by decide +kernel
theorem dX7_pay_103 : decode cX7_pay 103 = .ok (.i2l, 1) := by decide +kernel
theorem dX7_pay_104 : decode cX7_pay 104 = .ok (.lstore 5, 2) := by decide +kernel
theorem dX7_pay_106 : decode cX7_pay 106 = .ok (.iload_n 2, 1) := by decide +kernel
theorem dX7_pay_107 : decode cX7_pay 107 = .ok (.iconst 2, 1) := by decide +kernel
theorem dX7_pay_108 : decode cX7_pay 108 = .ok (.if_icmp .ne 27, 3) := by decide +kernel
theorem dX7_pay_111 : decode cX7_pay 111 = .ok (.aload_n 0, 1) := by decide +kernel
theorem dX7_pay_112 : decode cX7_pay 112 = .ok (.getfield 33, 3) := by decide +kernel
theorem dX7_pay_115 : decode cX7_pay 115 = .ok (.aload_n 0, 1) := by decide +kernel
theorem dX7_pay_116 : decode cX7_pay 116 = .ok (.getfield 10, 3) := by decide +kernel
theorem dX7_pay_119 : decode cX7_pay 119 = .ok (.iload_n 1, 1) := by decide +kernel
theorem dX7_pay_120 : decode cX7_pay 120 = .ok (.invokevirtual 200, 3) := by decide +kernel
theorem dX7_pay_123 : decode cX7_pay 123 = .ok (.i2l, 1) := by decide +kernel
theorem dX7_pay_124 : decode cX7_pay 124 = .ok (.aload_n 0, 1) := by decide +kernel
theorem dX7_pay_125 : decode cX7_pay 125 = .ok (.getfield 58, 3) := by decide +kernel
theorem dX7_pay_128 : decode cX7_pay 128 = .ok (.iconst 4, 1) := by decide +kernel
theorem dX7_pay_129 : decode cX7_pay 129 = .ok (.iaload, 1) := by decide +kernel
theorem dX7_pay_130 : decode cX7_pay 130 = .ok (.i2l, 1) := by decide +kernel
theorem dX7_pay_131 : decode cX7_pay 131 = .ok (.lmul, 1) := by decide +kernel
theorem dX7_pay_132 : decode cX7_pay 132 = .ok (.goto 4, 3) := by decide +kernel
theorem dX7_pay_135 : decode cX7_pay 135 = .ok (.lconst 0, 1) := by decide +kernel
theorem dX7_pay_136 : decode cX7_pay 136 = .ok (.lstore 7, 2) := by decide +kernel
theorem dX7_pay_138 : decode cX7_pay 138 = .ok (.lload 5, 2) := by decide +kernel
theorem dX7_pay_140 : decode cX7_pay 140 = .ok (.aload_n 0, 1) := by decide +kernel
theorem dX7_pay_141 : decode cX7_pay 141 = .ok (.getfield 58, 3) := by decide +kernel
theorem dX7_pay_144 : decode cX7_pay 144 = .ok (.iconst 2, 1) := by decide +kernel
theorem dX7_pay_145 : decode cX7_pay 145 = .ok (.iaload, 1) := by decide +kernel
theorem dX7_pay_146 : decode cX7_pay 146 = .ok (.i2l, 1) := by decide +kernel
theorem dX7_pay_147 : decode cX7_pay 147 = .ok (.lmul, 1) := by decide +kernel
theorem dX7_pay_148 : decode cX7_pay 148 = .ok (.lload_n 3, 1) := by decide +kernel
theorem dX7_pay_149 : decode cX7_pay 149 = .ok (.ladd, 1) := by decide +kernel
theorem dX7_pay_150 : decode cX7_pay 150 = .ok (.lload 7, 2) := by decide +kernel
theorem dX7_pay_152 : decode cX7_pay 152 = .ok (.ladd, 1) := by decide +kernel
theorem dX7_pay_153 : decode cX7_pay 153 = .ok (.lreturn, 1) := by decide +kernel
theorem dX7_apart_0 : decode cX7_apart 0 = .ok (.aload_n 0, 1) := by decide +kernel
theorem dX7_apart_1 : decode cX7_apart 1 = .ok (.getfield 19, 3) := by decide +kernel
theorem dX7_apart_4 : decode cX7_apart 4 = .ok (.iload_n 1, 1) := by decide +kernel
theorem dX7_apart_5 : decode cX7_apart 5 = .ok (.invokevirtual 89, 3) := by decide +kernel
theorem dX7_apart_8 : decode cX7_apart 8 = .ok (.ifCond .eq 28, 3) := by decide +kernel
theorem dX7_apart_11 : decode cX7_apart 11 = .ok (.aload_n 0, 1) := by decide +kernel
theorem dX7_apart_12 : decode cX7_apart 12 = .ok (.getfield 19, 3) := by decide +kernel
theorem dX7_apart_15 : decode cX7_apart 15 = .ok (.iload_n 2, 1) := by decide +kernel
theorem dX7_apart_16 : decode cX7_apart 16 = .ok (.invokevirtual 89, 3) := by decide +kernel
theorem dX7_apart_19 : decode cX7_apart 19 = .ok (.ifCond .eq 17, 3) := by decide +kernel
theorem dX7_apart_22 : decode cX7_apart 22 = .ok (.iload_n 1, 1) := by decide +kernel
theorem dX7_apart_23 : decode cX7_apart 23 = .ok (.iload_n 2, 1) := by decide +kernel
theorem dX7_apart_24 : decode cX7_apart 24 = .ok (.if_icmp .eq 12, 3) := by decide +kernel
theorem dX7_apart_27 : decode cX7_apart 27 = .ok (.iload_n 3, 1) := by decide +kernel
theorem dX7_apart_28 : decode cX7_apart 28 = .ok (.iconst 0, 1) := by decide +kernel
theorem dX7_apart_29 : decode cX7_apart 29 = .ok (.iconst 1, 1) := by decide +kernel
theorem dX7_apart_30 : decode cX7_apart 30 = .ok (.invokestatic 66, 3) := by decide +kernel
theorem dX7_apart_33 : decode cX7_apart 33 = .ok (.ifCond .ne 7, 3) := by decide +kernel
theorem dX7_apart_36 : decode cX7_apart 36 = .ok (.ldc2_w 70, 3) := by decide +kernel
theorem dX7_apart_39 : decode cX7_apart 39 = .ok (.lreturn, 1) := by decide +kernel
theorem dX7_apart_40 : decode cX7_apart 40 = .ok (.aload_n 0, 1) := by decide +kernel
theorem dX7_apart_41 : decode cX7_apart 41 = .ok (.getfield 19, 3) := by decide +kernel
theorem dX7_apart_44 : decode cX7_apart 44 = .ok (.iload_n 1, 1) := by decide +kernel
theorem dX7_apart_45 : decode cX7_apart 45 = .ok (.iload_n 2, 1) := by decide +kernel
theorem dX7_apart_46 : decode cX7_apart 46 = .ok (.invokevirtual 203, 3) := by decide +kernel
theorem dX7_apart_49 : decode cX7_apart 49 = .ok (.istore 4, 2) := by decide +kernel
theorem dX7_apart_51 : decode cX7_apart 51 = .ok (.aload_n 0, 1) := by decide +kernel
theorem dX7_apart_52 : decode cX7_apart 52 = .ok (.getfield 19, 3) := by decide +kernel
theorem dX7_apart_55 : decode cX7_apart 55 = .ok (.iload_n 1, 1) := by decide +kernel
theorem dX7_apart_56 : decode cX7_apart 56 = .ok (.iload_n 2, 1) := by decide +kernel
theorem dX7_apart_57 : decode cX7_apart 57 = .ok (.iload_n 3, 1) := by decide +kernel
theorem dX7_apart_58 : decode cX7_apart 58 = .ok (.iconst 1, 1) := by decide +kernel
theorem dX7_apart_59 : decode cX7_apart 59 = .ok (.if_icmp .ne 7, 3) := by decide +kernel
theorem dX7_apart_62 : decode cX7_apart 62 = .ok (.iconst 1, 1) := by decide +kernel
theorem dX7_apart_63 : decode cX7_apart 63 = .ok (.goto 4, 3) := by decide +kernel
theorem dX7_apart_66 : decode cX7_apart 66 = .ok (.iconst 0, 1) := by decide +kernel
theorem dX7_apart_67 : decode cX7_apart 67 = .ok (.invokevirtual 206, 3) := by decide +kernel
theorem dX7_apart_70 : decode cX7_apart 70 = .ok (.iload 4, 2) := by decide +kernel
theorem dX7_apart_72 : decode cX7_apart 72 = .ok (.invokestatic 95, 3) := by decide +kernel
theorem dX7_apart_75 : decode cX7_apart 75 = .ok (.lreturn, 1) := by decide +kernel
theorem dX7_room_0 : decode cX7_room 0 = .ok (.aload_n 0, 1) := by decide +kernel
theorem dX7_room_1 : decode cX7_room 1 = .ok (.getfield 19, 3) := by decide +kernel
theorem dX7_room_4 : decode cX7_room 4 = .ok (.iload_n 1, 1) := by decide +kernel
theorem dX7_room_5 : decode cX7_room 5 = .ok (.invokevirtual 89, 3) := by decide +kernel
theorem dX7_room_8 : decode cX7_room 8 = .ok (.ifCond .ne 7, 3) := by decide +kernel
theorem dX7_room_11 : decode cX7_room 11 = .ok (.ldc2_w 70, 3) := by decide +kernel
theorem dX7_room_14 : decode cX7_room 14 = .ok (.lreturn, 1) := by decide +kernel
theorem dX7_room_15 : decode cX7_room 15 = .ok (.aload_n 0, 1) := by decide +kernel
theorem dX7_room_16 : decode cX7_room 16 = .ok (.getfield 33, 3) := by decide +kernel
theorem dX7_room_19 : decode cX7_room 19 = .ok (.aload_n 0, 1) := by decide +kernel
theorem dX7_room_20 : decode cX7_room 20 = .ok (.getfield 10, 3) := by decide +kernel
theorem dX7_room_23 : decode cX7_room 23 = .ok (.invokevirtual 171, 3) := by decide +kernel
theorem dX7_room_26 : decode cX7_room 26 = .ok (.aload_n 0, 1) := by decide +kernel
theorem dX7_room_27 : decode cX7_room 27 = .ok (.getfield 40, 3) := by decide +kernel
theorem dX7_room_30 : decode cX7_room 30 = .ok (.aload_n 0, 1) := by decide +kernel
theorem dX7_room_31 : decode cX7_room 31 = .ok (.getfield 19, 3) := by decide +kernel
theorem dX7_room_34 : decode cX7_room 34 = .ok (.aload_n 0, 1) := by decide +kernel
theorem dX7_room_35 : decode cX7_room 35 = .ok (.getfield 10, 3) := by decide +kernel
theorem dX7_room_38 : decode cX7_room 38 = .ok (.aload_n 0, 1) := by decide +kernel
theorem dX7_room_39 : decode cX7_room 39 = .ok (.getfield 33, 3) := by decide +kernel
theorem dX7_room_42 : decode cX7_room 42 = .ok (.invokevirtual 210, 3) := by decide +kernel
theorem dX7_room_45 : decode cX7_room 45 = .ok (.ifCond .ne 7, 3) := by decide +kernel
theorem dX7_room_48 : decode cX7_room 48 = .ok (.ldc2_w 166, 3) := by decide +kernel
theorem dX7_room_51 : decode cX7_room 51 = .ok (.lreturn, 1) := by decide +kernel
theorem dX7_room_52 : decode cX7_room 52 = .ok (.aload_n 0, 1) := by decide +kernel
theorem dX7_room_53 : decode cX7_room 53 = .ok (.getfield 40, 3) := by decide +kernel
theorem dX7_room_56 : decode cX7_room 56 = .ok (.getfield 214, 3) := by decide +kernel
theorem dX7_room_59 : decode cX7_room 59 = .ok (.iload_n 1, 1) := by decide +kernel
theorem dX7_room_60 : decode cX7_room 60 = .ok (.iaload, 1) := by decide +kernel
theorem dX7_room_61 : decode cX7_room 61 = .ok (.iconst (-1), 1) := by decide +kernel
theorem dX7_room_62 : decode cX7_room 62 = .ok (.if_icmp .ne 9, 3) := by decide +kernel
theorem dX7_room_65 : decode cX7_room 65 = .ok (.ldc2_w 130, 3) := by decide +kernel
theorem dX7_room_68 : decode cX7_room 68 = .ok (.goto 13, 3) := by decide +kernel
theorem dX7_room_71 : decode cX7_room 71 = .ok (.aload_n 0, 1) := by decide +kernel
theorem dX7_room_72 : decode cX7_room 72 = .ok (.getfield 40, 3) := by decide +kernel
theorem dX7_room_75 : decode cX7_room 75 = .ok (.getfield 214, 3) := by decide +kernel
theorem dX7_room_78 : decode cX7_room 78 = .ok (.iload_n 1, 1) := by decide +kernel
theorem dX7_room_79 : decode cX7_room 79 = .ok (.iaload, 1) := by decide +kernel
theorem dX7_room_80 : decode cX7_room 80 = .ok (.i2l, 1) := by decide +kernel
theorem dX7_room_81 : decode cX7_room 81 = .ok (.lreturn, 1) := by decide +kernel
theorem dX7_move_0 : decode cX7_move 0 = .ok (.aload_n 0, 1) := by decide +kernel
theorem dX7_move_1 : decode cX7_move 1 = .ok (.getfield 10, 3) := by decide +kernel
theorem dX7_move_4 : decode cX7_move 4 = .ok (.iload_n 1, 1) := by decide +kernel
theorem dX7_move_5 : decode cX7_move 5 = .ok (.invokevirtual 99, 3) := by decide +kernel
theorem dX7_move_8 : decode cX7_move 8 = .ok (.ifCond .eq 10, 3) := by decide +kernel
theorem dX7_move_11 : decode cX7_move 11 = .ok (.iload_n 2, 1) := by decide +kernel
theorem dX7_move_12 : decode cX7_move 12 = .ok (.invokestatic 62, 3) := by decide +kernel
theorem dX7_move_15 : decode cX7_move 15 = .ok (.ifCond .ne 7, 3) := by decide +kernel
theorem dX7_move_18 : decode cX7_move 18 = .ok (.ldc2_w 70, 3) := by decide +kernel
theorem dX7_move_21 : decode cX7_move 21 = .ok (.lreturn, 1) := by decide +kernel
theorem dX7_move_22 : decode cX7_move 22 = .ok (.aload_n 0, 1) := by decide +kernel
theorem dX7_move_23 : decode cX7_move 23 = .ok (.getfield 10, 3) := by decide +kernel
theorem dX7_move_26 : decode cX7_move 26 = .ok (.getfield 117, 3) := by decide +kernel
theorem dX7_move_29 : decode cX7_move 29 = .ok (.iload_n 1, 1) := by decide +kernel
theorem dX7_move_30 : decode cX7_move 30 = .ok (.iaload, 1) := by decide +kernel
theorem dX7_move_31 : decode cX7_move 31 = .ok (.iload_n 2, 1) := by decide +kernel
theorem dX7_move_32 : decode cX7_move 32 = .ok (.if_icmp .eq 21, 3) := by decide +kernel
theorem dX7_move_35 : decode cX7_move 35 = .ok (.aload_n 0, 1) := by decide +kernel
theorem dX7_move_36 : decode cX7_move 36 = .ok (.getfield 10, 3) := by decide +kernel
theorem dX7_move_39 : decode cX7_move 39 = .ok (.getfield 76, 3) := by decide +kernel
theorem dX7_move_42 : decode cX7_move 42 = .ok (.iload_n 2, 1) := by decide +kernel
theorem dX7_move_43 : decode cX7_move 43 = .ok (.iaload, 1) := by decide +kernel
theorem dX7_move_44 : decode cX7_move 44 = .ok (.bipush 6, 2) := by decide +kernel
theorem dX7_move_46 : decode cX7_move 46 = .ok (.if_icmp .lt 7, 3) := by decide +kernel
theorem dX7_move_49 : decode cX7_move 49 = .ok (.ldc2_w 79, 3) := by decide +kernel
theorem dX7_move_52 : decode cX7_move 52 = .ok (.lreturn, 1) := by decide +kernel
theorem dX7_move_53 : decode cX7_move 53 = .ok (.aload_n 0, 1) := by decide +kernel
theorem dX7_move_54 : decode cX7_move 54 = .ok (.getfield 10, 3) := by decide +kernel
theorem dX7_move_57 : decode cX7_move 57 = .ok (.iload_n 1, 1) := by decide +kernel
theorem dX7_move_58 : decode cX7_move 58 = .ok (.invokevirtual 217, 3) := by decide +kernel
theorem dX7_move_61 : decode cX7_move 61 = .ok (.aload_n 0, 1) := by decide +kernel
theorem dX7_move_62 : decode cX7_move 62 = .ok (.getfield 10, 3) := by decide +kernel
theorem dX7_move_65 : decode cX7_move 65 = .ok (.iload_n 1, 1) := by decide +kernel
theorem dX7_move_66 : decode cX7_move 66 = .ok (.iload_n 2, 1) := by decide +kernel
theorem dX7_move_67 : decode cX7_move 67 = .ok (.invokevirtual 221, 3) := by decide +kernel
theorem dX7_move_70 : decode cX7_move 70 = .ok (.iconst 0, 1) := by decide +kernel
theorem dX7_move_71 : decode cX7_move 71 = .ok (.istore_n 3, 1) := by decide +kernel
theorem dX7_move_72 : decode cX7_move 72 = .ok (.iload_n 3, 1) := by decide +kernel
theorem dX7_move_73 : decode cX7_move 73 = .ok (.aload_n 0, 1) := by decide +kernel
theorem dX7_move_74 : decode cX7_move 74 = .ok (.getfield 19, 3) := by decide +kernel
theorem dX7_move_77 : decode cX7_move 77 = .ok (.getfield 85, 3) := by decide +kernel
theorem dX7_move_80 : decode cX7_move 80 = .ok (.if_icmp .ge 30, 3) := by decide +kernel
theorem dX7_move_83 : decode cX7_move 83 = .ok (.aload_n 0, 1) := by decide +kernel
theorem dX7_move_84 : decode cX7_move 84 = .ok (.getfield 10, 3) := by decide +kernel
theorem dX7_move_87 : decode cX7_move 87 = .ok (.iload_n 1, 1) := by decide +kernel
theorem dX7_move_88 : decode cX7_move 88 = .ok (.iload_n 3, 1) := by decide +kernel
theorem dX7_move_89 : decode cX7_move 89 = .ok (.invokevirtual 163, 3) := by decide +kernel
theorem dX7_move_92 : decode cX7_move 92 = .ok (.ifCond .eq 12, 3) := by decide +kernel
theorem dX7_move_95 : decode cX7_move 95 = .ok (.aload_n 0, 1) := by decide +kernel
theorem dX7_move_96 : decode cX7_move 96 = .ok (.getfield 47, 3) := by decide +kernel
theorem dX7_move_99 : decode cX7_move 99 = .ok (.iload_n 3, 1) := by decide +kernel
theorem dX7_move_100 : decode cX7_move 100 = .ok (.iload_n 1, 1) := by decide +kernel
theorem dX7_move_101 : decode cX7_move 101 = .ok (.invokevirtual 225, 3) := by decide +kernel
theorem dX7_move_104 : decode cX7_move 104 = .ok (.iinc 3 1, 3) := by decide +kernel
theorem dX7_move_107 : decode cX7_move 107 = .ok (.goto (-35), 3) := by decide +kernel
theorem dX7_move_110 : decode cX7_move 110 = .ok (.aload_n 0, 1) := by decide +kernel
theorem dX7_move_111 : decode cX7_move 111 = .ok (.getfield 10, 3) := by decide +kernel
theorem dX7_move_114 : decode cX7_move 114 = .ok (.iload_n 1, 1) := by decide +kernel
theorem dX7_move_115 : decode cX7_move 115 = .ok (.invokevirtual 120, 3) := by decide +kernel
theorem dX7_move_118 : decode cX7_move 118 = .ok (.i2l, 1) := by decide +kernel
theorem dX7_move_119 : decode cX7_move 119 = .ok (.lreturn, 1) := by decide +kernel
theorem dX7_notice_0 : decode cX7_notice 0 = .ok (.iload_n 1, 1) := by decide +kernel
theorem dX7_notice_1 : decode cX7_notice 1 = .ok (.iconst 0, 1) := by decide +kernel
theorem dX7_notice_2 : decode cX7_notice 2 = .ok (.aload_n 0, 1) := by decide +kernel
theorem dX7_notice_3 : decode cX7_notice 3 = .ok (.getfield 47, 3) := by decide +kernel
theorem dX7_notice_6 : decode cX7_notice 6 = .ok (.getfield 228, 3) := by decide +kernel
theorem dX7_notice_9 : decode cX7_notice 9 = .ok (.iconst 1, 1) := by decide +kernel
theorem dX7_notice_10 : decode cX7_notice 10 = .ok (.isub, 1) := by decide +kernel
theorem dX7_notice_11 : decode cX7_notice 11 = .ok (.invokestatic 66, 3) := by decide +kernel
theorem dX7_notice_14 : decode cX7_notice 14 = .ok (.ifCond .ne 7, 3) := by decide +kernel
theorem dX7_notice_17 : decode cX7_notice 17 = .ok (.ldc2_w 70, 3) := by decide +kernel
theorem dX7_notice_20 : decode cX7_notice 20 = .ok (.lreturn, 1) := by decide +kernel
theorem dX7_notice_21 : decode cX7_notice 21 = .ok (.iload_n 2, 1) := by decide +kernel
theorem dX7_notice_22 : decode cX7_notice 22 = .ok (.tableswitch 61 0 2 #[26, 37, 48], 26) := by decide +kernel
theorem dX7_notice_48 : decode cX7_notice 48 = .ok (.aload_n 0, 1) := by decide +kernel
theorem dX7_notice_49 : decode cX7_notice 49 = .ok (.getfield 47, 3) := by decide +kernel
theorem dX7_notice_52 : decode cX7_notice 52 = .ok (.getfield 229, 3) := by decide +kernel
theorem dX7_notice_55 : decode cX7_notice 55 = .ok (.iload_n 1, 1) := by decide +kernel
theorem dX7_notice_56 : decode cX7_notice 56 = .ok (.iaload, 1) := by decide +kernel
theorem dX7_notice_57 : decode cX7_notice 57 = .ok (.i2l, 1) := by decide +kernel
theorem dX7_notice_58 : decode cX7_notice 58 = .ok (.lreturn, 1) := by decide +kernel
theorem dX7_notice_59 : decode cX7_notice 59 = .ok (.aload_n 0, 1) := by decide +kernel
theorem dX7_notice_60 : decode cX7_notice 60 = .ok (.getfield 47, 3) := by decide +kernel
theorem dX7_notice_63 : decode cX7_notice 63 = .ok (.getfield 232, 3) := by decide +kernel
theorem dX7_notice_66 : decode cX7_notice 66 = .ok (.iload_n 1, 1) := by decide +kernel
theorem dX7_notice_67 : decode cX7_notice 67 = .ok (.iaload, 1) := by decide +kernel
theorem dX7_notice_68 : decode cX7_notice 68 = .ok (.i2l, 1) := by decide +kernel
theorem dX7_notice_69 : decode cX7_notice 69 = .ok (.lreturn, 1) := by decide +kernel
theorem dX7_notice_70 : decode cX7_notice 70 = .ok (.aload_n 0, 1) := by decide +kernel
theorem dX7_notice_71 : decode cX7_notice 71 = .ok (.getfield 47, 3) := by decide +kernel
theorem dX7_notice_74 : decode cX7_notice 74 = .ok (.getfield 235, 3) := by decide +kernel
theorem dX7_notice_77 : decode cX7_notice 77 = .ok (.iload_n 1, 1) := by decide +kernel
theorem dX7_notice_78 : decode cX7_notice 78 = .ok (.baload, 1) := by decide +kernel
theorem dX7_notice_79 : decode cX7_notice 79 = .ok (.invokestatic 95, 3) := by decide +kernel
theorem dX7_notice_82 : decode cX7_notice 82 = .ok (.lreturn, 1) := by decide +kernel
theorem dX7_notice_83 : decode cX7_notice 83 = .ok (.ldc2_w 70, 3) := by decide +kernel
theorem dX7_notice_86 : decode cX7_notice 86 = .ok (.lreturn, 1) := by decide +kernel
theorem dX7_read_0 : decode cX7_read 0 = .ok (.aload_n 0, 1) := by decide +kernel
theorem dX7_read_1 : decode cX7_read 1 = .ok (.getfield 19, 3) := by decide +kernel
theorem dX7_read_4 : decode cX7_read 4 = .ok (.iload_n 1, 1) := by decide +kernel
theorem dX7_read_5 : decode cX7_read 5 = .ok (.invokevirtual 89, 3) := by decide +kernel
theorem dX7_read_8 : decode cX7_read 8 = .ok (.ifCond .ne 7, 3) := by decide +kernel
theorem dX7_read_11 : decode cX7_read 11 = .ok (.ldc2_w 70, 3) := by decide +kernel
theorem dX7_read_14 : decode cX7_read 14 = .ok (.lreturn, 1) := by decide +kernel
theorem dX7_read_15 : decode cX7_read 15 = .ok (.aload_n 0, 1) := by decide +kernel
theorem dX7_read_16 : decode cX7_read 16 = .ok (.getfield 47, 3) := by decide +kernel
theorem dX7_read_19 : decode cX7_read 19 = .ok (.iload_n 1, 1) := by decide +kernel
theorem dX7_read_20 : decode cX7_read 20 = .ok (.invokevirtual 239, 3) := by decide +kernel
theorem dX7_read_23 : decode cX7_read 23 = .ok (.i2l, 1) := by decide +kernel
theorem dX7_read_24 : decode cX7_read 24 = .ok (.lreturn, 1) := by decide +kernel
theorem dX7_sheet_0 : decode cX7_sheet 0 = .ok (.iload_n 1, 1) := by decide +kernel
theorem dX7_sheet_1 : decode cX7_sheet 1 = .ok (.invokestatic 242, 3) := by decide +kernel
theorem dX7_sheet_4 : decode cX7_sheet 4 = .ok (.ifCond .eq 9, 3) := by decide +kernel
theorem dX7_sheet_7 : decode cX7_sheet 7 = .ok (.iload_n 2, 1) := by decide +kernel
theorem dX7_sheet_8 : decode cX7_sheet 8 = .ok (.bipush 12, 2) := by decide +kernel
theorem dX7_sheet_10 : decode cX7_sheet 10 = .ok (.if_icmp .le 7, 3) := by decide +kernel
theorem dX7_sheet_13 : decode cX7_sheet 13 = .ok (.ldc2_w 70, 3) := by decide +kernel
theorem dX7_sheet_16 : decode cX7_sheet 16 = .ok (.lreturn, 1) := by decide +kernel
theorem dX7_sheet_17 : decode cX7_sheet 17 = .ok (.iload_n 2, 1) := by decide +kernel
theorem dX7_sheet_18 : decode cX7_sheet 18 = .ok (.ifCond .ge 7, 3) := by decide +kernel
theorem dX7_sheet_21 : decode cX7_sheet 21 = .ok (.ldc2_w 245, 3) := by decide +kernel
theorem dX7_sheet_24 : decode cX7_sheet 24 = .ok (.lreturn, 1) := by decide +kernel
theorem dX7_sheet_25 : decode cX7_sheet 25 = .ok (.aload_n 0, 1) := by decide +kernel
theorem dX7_sheet_26 : decode cX7_sheet 26 = .ok (.getfield 54, 3) := by decide +kernel
theorem dX7_sheet_29 : decode cX7_sheet 29 = .ok (.iload_n 1, 1) := by decide +kernel
theorem dX7_sheet_30 : decode cX7_sheet 30 = .ok (.iload_n 2, 1) := by decide +kernel
theorem dX7_sheet_31 : decode cX7_sheet 31 = .ok (.invokevirtual 247, 3) := by decide +kernel
theorem dX7_sheet_34 : decode cX7_sheet 34 = .ok (.iload_n 2, 1) := by decide +kernel
theorem dX7_sheet_35 : decode cX7_sheet 35 = .ok (.i2l, 1) := by decide +kernel
theorem dX7_sheet_36 : decode cX7_sheet 36 = .ok (.lreturn, 1) := by decide +kernel
theorem dX7_mark_0 : decode cX7_mark 0 = .ok (.iload_n 1, 1) := by decide +kernel
theorem dX7_mark_1 : decode cX7_mark 1 = .ok (.invokestatic 242, 3) := by decide +kernel
theorem dX7_mark_4 : decode cX7_mark 4 = .ok (.ifCond .ne 7, 3) := by decide +kernel
theorem dX7_mark_7 : decode cX7_mark 7 = .ok (.ldc2_w 70, 3) := by decide +kernel
theorem dX7_mark_10 : decode cX7_mark 10 = .ok (.lreturn, 1) := by decide +kernel
theorem dX7_mark_11 : decode cX7_mark 11 = .ok (.aload_n 0, 1) := by decide +kernel
theorem dX7_mark_12 : decode cX7_mark 12 = .ok (.getfield 54, 3) := by decide +kernel
theorem dX7_mark_15 : decode cX7_mark 15 = .ok (.iload_n 1, 1) := by decide +kernel
theorem dX7_mark_16 : decode cX7_mark 16 = .ok (.invokevirtual 250, 3) := by decide +kernel
theorem dX7_mark_19 : decode cX7_mark 19 = .ok (.ifCond .eq 7, 3) := by decide +kernel
theorem dX7_mark_22 : decode cX7_mark 22 = .ok (.ldc2_w 253, 3) := by decide +kernel
theorem dX7_mark_25 : decode cX7_mark 25 = .ok (.lreturn, 1) := by decide +kernel
theorem dX7_mark_26 : decode cX7_mark 26 = .ok (.aload_n 0, 1) := by decide +kernel
theorem dX7_mark_27 : decode cX7_mark 27 = .ok (.getfield 54, 3) := by decide +kernel
theorem dX7_mark_30 : decode cX7_mark 30 = .ok (.iload_n 1, 1) := by decide +kernel
theorem dX7_mark_31 : decode cX7_mark 31 = .ok (.iload_n 2, 1) := by decide +kernel
theorem dX7_mark_32 : decode cX7_mark 32 = .ok (.iconst 1, 1) := by decide +kernel
theorem dX7_mark_33 : decode cX7_mark 33 = .ok (.invokevirtual 255, 3) := by decide +kernel
theorem dX7_mark_36 : decode cX7_mark 36 = .ok (.ifCond .ne 7, 3) := by decide +kernel
theorem dX7_mark_39 : decode cX7_mark 39 = .ok (.ldc2_w 258, 3) := by decide +kernel
theorem dX7_mark_42 : decode cX7_mark 42 = .ok (.lreturn, 1) := by decide +kernel
theorem dX7_mark_43 : decode cX7_mark 43 = .ok (.aload_n 0, 1) := by decide +kernel
theorem dX7_mark_44 : decode cX7_mark 44 = .ok (.getfield 54, 3) := by decide +kernel
theorem dX7_mark_47 : decode cX7_mark 47 = .ok (.iload_n 1, 1) := by decide +kernel
theorem dX7_mark_48 : decode cX7_mark 48 = .ok (.iload_n 2, 1) := by decide +kernel
theorem dX7_mark_49 : decode cX7_mark 49 = .ok (.invokevirtual 260, 3) := by decide +kernel
theorem dX7_mark_52 : decode cX7_mark 52 = .ok (.istore 4, 2) := by decide +kernel
theorem dX7_mark_54 : decode cX7_mark 54 = .ok (.aload_n 0, 1) := by decide +kernel
theorem dX7_mark_55 : decode cX7_mark 55 = .ok (.getfield 54, 3) := by decide +kernel
theorem dX7_mark_58 : decode cX7_mark 58 = .ok (.iload_n 1, 1) := by decide +kernel
theorem dX7_mark_59 : decode cX7_mark 59 = .ok (.iload_n 2, 1) := by decide +kernel
theorem dX7_mark_60 : decode cX7_mark 60 = .ok (.iload_n 3, 1) := by decide +kernel
theorem dX7_mark_61 : decode cX7_mark 61 = .ok (.i2b, 1) := by decide +kernel
theorem dX7_mark_62 : decode cX7_mark 62 = .ok (.invokevirtual 263, 3) := by decide +kernel
theorem dX7_mark_65 : decode cX7_mark 65 = .ok (.iload 4, 2) := by decide +kernel
theorem dX7_mark_67 : decode cX7_mark 67 = .ok (.i2l, 1) := by decide +kernel
theorem dX7_mark_68 : decode cX7_mark 68 = .ok (.lreturn, 1) := by decide +kernel
theorem dX7_copy_0 : decode cX7_copy 0 = .ok (.iload_n 1, 1) := by decide +kernel
theorem dX7_copy_1 : decode cX7_copy 1 = .ok (.invokestatic 242, 3) := by decide +kernel
theorem dX7_copy_4 : decode cX7_copy 4 = .ok (.ifCond .eq 10, 3) := by decide +kernel
theorem dX7_copy_7 : decode cX7_copy 7 = .ok (.iload_n 3, 1) := by decide +kernel
theorem dX7_copy_8 : decode cX7_copy 8 = .ok (.invokestatic 242, 3) := by decide +kernel
theorem dX7_copy_11 : decode cX7_copy 11 = .ok (.ifCond .ne 7, 3) := by decide +kernel
theorem dX7_copy_14 : decode cX7_copy 14 = .ok (.ldc2_w 70, 3) := by decide +kernel
theorem dX7_copy_17 : decode cX7_copy 17 = .ok (.lreturn, 1) := by decide +kernel
theorem dX7_copy_18 : decode cX7_copy 18 = .ok (.aload_n 0, 1) := by decide +kernel
theorem dX7_copy_19 : decode cX7_copy 19 = .ok (.getfield 54, 3) := by decide +kernel
theorem dX7_copy_22 : decode cX7_copy 22 = .ok (.iload_n 1, 1) := by decide +kernel
theorem dX7_copy_23 : decode cX7_copy 23 = .ok (.invokevirtual 250, 3) := by decide +kernel
theorem dX7_copy_26 : decode cX7_copy 26 = .ok (.ifCond .ne 14, 3) := by decide +kernel
theorem dX7_copy_29 : decode cX7_copy 29 = .ok (.aload_n 0, 1) := by decide +kernel
theorem dX7_copy_30 : decode cX7_copy 30 = .ok (.getfield 54, 3) := by decide +kernel
theorem dX7_copy_33 : decode cX7_copy 33 = .ok (.iload_n 3, 1) := by decide +kernel
theorem dX7_copy_34 : decode cX7_copy 34 = .ok (.invokevirtual 250, 3) := by decide +kernel
theorem dX7_copy_37 : decode cX7_copy 37 = .ok (.ifCond .eq 7, 3) := by decide +kernel
theorem dX7_copy_40 : decode cX7_copy 40 = .ok (.ldc2_w 253, 3) := by decide +kernel
theorem dX7_copy_43 : decode cX7_copy 43 = .ok (.lreturn, 1) := by decide +kernel
theorem dX7_copy_44 : decode cX7_copy 44 = .ok (.aload_n 0, 1) := by decide +kernel
theorem dX7_copy_45 : decode cX7_copy 45 = .ok (.getfield 54, 3) := by decide +kernel
theorem dX7_copy_48 : decode cX7_copy 48 = .ok (.iload_n 1, 1) := by decide +kernel
theorem dX7_copy_49 : decode cX7_copy 49 = .ok (.iload_n 2, 1) := by decide +kernel
theorem dX7_copy_50 : decode cX7_copy 50 = .ok (.iload 5, 2) := by decide +kernel
theorem dX7_copy_52 : decode cX7_copy 52 = .ok (.invokevirtual 255, 3) := by decide +kernel
theorem dX7_copy_55 : decode cX7_copy 55 = .ok (.ifCond .eq 18, 3) := by decide +kernel
theorem dX7_copy_58 : decode cX7_copy 58 = .ok (.aload_n 0, 1) := by decide +kernel
theorem dX7_copy_59 : decode cX7_copy 59 = .ok (.getfield 54, 3) := by decide +kernel
theorem dX7_copy_62 : decode cX7_copy 62 = .ok (.iload_n 3, 1) := by decide +kernel
theorem dX7_copy_63 : decode cX7_copy 63 = .ok (.iload 4, 2) := by decide +kernel
theorem dX7_copy_65 : decode cX7_copy 65 = .ok (.iload 5, 2) := by decide +kernel
theorem dX7_copy_67 : decode cX7_copy 67 = .ok (.invokevirtual 255, 3) := by decide +kernel
theorem dX7_copy_70 : decode cX7_copy 70 = .ok (.ifCond .ne 7, 3) := by decide +kernel
theorem dX7_copy_73 : decode cX7_copy 73 = .ok (.ldc2_w 258, 3) := by decide +kernel
theorem dX7_copy_76 : decode cX7_copy 76 = .ok (.lreturn, 1) := by decide +kernel
theorem dX7_copy_77 : decode cX7_copy 77 = .ok (.aload_n 0, 1) := by decide +kernel
theorem dX7_copy_78 : decode cX7_copy 78 = .ok (.getfield 54, 3) := by decide +kernel
theorem dX7_copy_81 : decode cX7_copy 81 = .ok (.iload_n 1, 1) := by decide +kernel
theorem dX7_copy_82 : decode cX7_copy 82 = .ok (.iload_n 2, 1) := by decide +kernel
theorem dX7_copy_83 : decode cX7_copy 83 = .ok (.iload_n 3, 1) := by decide +kernel
theorem dX7_copy_84 : decode cX7_copy 84 = .ok (.iload 4, 2) := by decide +kernel
theorem dX7_copy_86 : decode cX7_copy 86 = .ok (.iload 5, 2) := by decide +kernel
theorem dX7_copy_88 : decode cX7_copy 88 = .ok (.invokevirtual 267, 3) := by decide +kernel
theorem dX7_copy_91 : decode cX7_copy 91 = .ok (.iload 5, 2) := by decide +kernel
theorem dX7_copy_93 : decode cX7_copy 93 = .ok (.i2l, 1) := by decide +kernel
theorem dX7_copy_94 : decode cX7_copy 94 = .ok (.lreturn, 1) := by decide +kernel
theorem dX7_take_0 : decode cX7_take 0 = .ok (.iload_n 1, 1) := by decide +kernel
theorem dX7_take_1 : decode cX7_take 1 = .ok (.invokestatic 242, 3) := by decide +kernel
theorem dX7_take_4 : decode cX7_take 4 = .ok (.ifCond .ne 7, 3) := by decide +kernel
theorem dX7_take_7 : decode cX7_take 7 = .ok (.ldc2_w 70, 3) := by decide +kernel
theorem dX7_take_10 : decode cX7_take 10 = .ok (.lreturn, 1) := by decide +kernel
theorem dX7_take_11 : decode cX7_take 11 = .ok (.aload_n 0, 1) := by decide +kernel
theorem dX7_take_12 : decode cX7_take 12 = .ok (.getfield 54, 3) := by decide +kernel
theorem dX7_take_15 : decode cX7_take 15 = .ok (.iload_n 1, 1) := by decide +kernel
theorem dX7_take_16 : decode cX7_take 16 = .ok (.invokevirtual 250, 3) := by decide +kernel
theorem dX7_take_19 : decode cX7_take 19 = .ok (.ifCond .eq 7, 3) := by decide +kernel
theorem dX7_take_22 : decode cX7_take 22 = .ok (.ldc2_w 253, 3) := by decide +kernel
theorem dX7_take_25 : decode cX7_take 25 = .ok (.lreturn, 1) := by decide +kernel
theorem dX7_take_26 : decode cX7_take 26 = .ok (.aload_n 0, 1) := by decide +kernel
theorem dX7_take_27 : decode cX7_take 27 = .ok (.getfield 54, 3) := by decide +kernel
theorem dX7_take_30 : decode cX7_take 30 = .ok (.getfield 271, 3) := by decide +kernel
theorem dX7_take_33 : decode cX7_take 33 = .ok (.iload_n 1, 1) := by decide +kernel
theorem dX7_take_34 : decode cX7_take 34 = .ok (.iaload, 1) := by decide +kernel
theorem dX7_take_35 : decode cX7_take 35 = .ok (.aload_n 0, 1) := by decide +kernel
theorem dX7_take_36 : decode cX7_take 36 = .ok (.getfield 10, 3) := by decide +kernel
theorem dX7_take_39 : decode cX7_take 39 = .ok (.getfield 72, 3) := by decide +kernel
theorem dX7_take_42 : decode cX7_take 42 = .ok (.invokestatic 274, 3) := by decide +kernel
theorem dX7_take_45 : decode cX7_take 45 = .ok (.istore_n 2, 1) := by decide +kernel
theorem dX7_take_46 : decode cX7_take 46 = .ok (.iconst 0, 1) := by decide +kernel
theorem dX7_take_47 : decode cX7_take 47 = .ok (.istore_n 3, 1) := by decide +kernel
theorem dX7_take_48 : decode cX7_take 48 = .ok (.iload_n 3, 1) := by decide +kernel
theorem dX7_take_49 : decode cX7_take 49 = .ok (.iload_n 2, 1) := by decide +kernel
theorem dX7_take_50 : decode cX7_take 50 = .ok (.if_icmp .ge 31, 3) := by decide +kernel
theorem dX7_take_53 : decode cX7_take 53 = .ok (.aload_n 0, 1) := by decide +kernel
theorem dX7_take_54 : decode cX7_take 54 = .ok (.getfield 54, 3) := by decide +kernel
theorem dX7_take_57 : decode cX7_take 57 = .ok (.iload_n 1, 1) := by decide +kernel
theorem dX7_take_58 : decode cX7_take 58 = .ok (.iload_n 3, 1) := by decide +kernel
theorem dX7_take_59 : decode cX7_take 59 = .ok (.invokevirtual 260, 3) := by decide +kernel
theorem dX7_take_62 : decode cX7_take 62 = .ok (.iconst 0, 1) := by decide +kernel
theorem dX7_take_63 : decode cX7_take 63 = .ok (.bipush 100, 2) := by decide +kernel
theorem dX7_take_65 : decode cX7_take 65 = .ok (.invokestatic 66, 3) := by decide +kernel
theorem dX7_take_68 : decode cX7_take 68 = .ok (.ifCond .ne 7, 3) := by decide +kernel
theorem dX7_take_71 : decode cX7_take 71 = .ok (.ldc2_w 166, 3) := by decide +kernel
theorem dX7_take_74 : decode cX7_take 74 = .ok (.lreturn, 1) := by decide +kernel
theorem dX7_take_75 : decode cX7_take 75 = .ok (.iinc 3 1, 3) := by decide +kernel
theorem dX7_take_78 : decode cX7_take 78 = .ok (.goto (-30), 3) := by decide +kernel
theorem dX7_take_81 : decode cX7_take 81 = .ok (.iconst 0, 1) := by decide +kernel
theorem dX7_take_82 : decode cX7_take 82 = .ok (.istore_n 3, 1) := by decide +kernel
theorem dX7_take_83 : decode cX7_take 83 = .ok (.iload_n 3, 1) := by decide +kernel
theorem dX7_take_84 : decode cX7_take 84 = .ok (.iload_n 2, 1) := by decide +kernel
theorem dX7_take_85 : decode cX7_take 85 = .ok (.if_icmp .ge 27, 3) := by decide +kernel
theorem dX7_take_88 : decode cX7_take 88 = .ok (.aload_n 0, 1) := by decide +kernel
theorem dX7_take_89 : decode cX7_take 89 = .ok (.getfield 10, 3) := by decide +kernel
theorem dX7_take_92 : decode cX7_take 92 = .ok (.getfield 114, 3) := by decide +kernel
theorem dX7_take_95 : decode cX7_take 95 = .ok (.iload_n 3, 1) := by decide +kernel
theorem dX7_take_96 : decode cX7_take 96 = .ok (.aload_n 0, 1) := by decide +kernel
theorem dX7_take_97 : decode cX7_take 97 = .ok (.getfield 54, 3) := by decide +kernel
theorem dX7_take_100 : decode cX7_take 100 = .ok (.iload_n 1, 1) := by decide +kernel
theorem dX7_take_101 : decode cX7_take 101 = .ok (.iload_n 3, 1) := by decide +kernel
theorem dX7_take_102 : decode cX7_take 102 = .ok (.invokevirtual 260, 3) := by decide +kernel
theorem dX7_take_105 : decode cX7_take 105 = .ok (.iastore, 1) := by decide +kernel
theorem dX7_take_106 : decode cX7_take 106 = .ok (.iinc 3 1, 3) := by decide +kernel
theorem dX7_take_109 : decode cX7_take 109 = .ok (.goto (-26), 3) := by decide +kernel
theorem dX7_take_112 : decode cX7_take 112 = .ok (.iload_n 2, 1) := by decide +kernel
theorem dX7_take_113 : decode cX7_take 113 = .ok (.i2l, 1) := by decide +kernel
theorem dX7_take_114 : decode cX7_take 114 = .ok (.lreturn, 1) := by decide +kernel
theorem dX7_count_0 : decode cX7_count 0 = .ok (.iload_n 1, 1) := by decide +kernel
theorem dX7_count_1 : decode cX7_count 1 = .ok (.tableswitch 106 0 6 #[43, 52, 61, 70, 79, 88, 97], 43) := by decide +kernel
theorem dX7_count_44 : decode cX7_count 44 = .ok (.aload_n 0, 1) := by decide +kernel
theorem dX7_count_45 : decode cX7_count 45 = .ok (.getfield 10, 3) := by decide +kernel
theorem dX7_count_48 : decode cX7_count 48 = .ok (.getfield 72, 3) := by decide +kernel
theorem dX7_count_51 : decode cX7_count 51 = .ok (.i2l, 1) := by decide +kernel
theorem dX7_count_52 : decode cX7_count 52 = .ok (.lreturn, 1) := by decide +kernel
theorem dX7_count_53 : decode cX7_count 53 = .ok (.aload_n 0, 1) := by decide +kernel
theorem dX7_count_54 : decode cX7_count 54 = .ok (.getfield 19, 3) := by decide +kernel
theorem dX7_count_57 : decode cX7_count 57 = .ok (.getfield 85, 3) := by decide +kernel
theorem dX7_count_60 : decode cX7_count 60 = .ok (.i2l, 1) := by decide +kernel
theorem dX7_count_61 : decode cX7_count 61 = .ok (.lreturn, 1) := by decide +kernel
theorem dX7_count_62 : decode cX7_count 62 = .ok (.aload_n 0, 1) := by decide +kernel
theorem dX7_count_63 : decode cX7_count 63 = .ok (.getfield 47, 3) := by decide +kernel
theorem dX7_count_66 : decode cX7_count 66 = .ok (.getfield 228, 3) := by decide +kernel
theorem dX7_count_69 : decode cX7_count 69 = .ok (.i2l, 1) := by decide +kernel
theorem dX7_count_70 : decode cX7_count 70 = .ok (.lreturn, 1) := by decide +kernel
theorem dX7_count_71 : decode cX7_count 71 = .ok (.aload_n 0, 1) := by decide +kernel
theorem dX7_count_72 : decode cX7_count 72 = .ok (.getfield 47, 3) := by decide +kernel
theorem dX7_count_75 : decode cX7_count 75 = .ok (.invokevirtual 279, 3) := by decide +kernel
theorem dX7_count_78 : decode cX7_count 78 = .ok (.i2l, 1) := by decide +kernel
theorem dX7_count_79 : decode cX7_count 79 = .ok (.lreturn, 1) := by decide +kernel
theorem dX7_count_80 : decode cX7_count 80 = .ok (.aload_n 0, 1) := by decide +kernel
theorem dX7_count_81 : decode cX7_count 81 = .ok (.getfield 19, 3) := by decide +kernel
theorem dX7_count_84 : decode cX7_count 84 = .ok (.invokevirtual 283, 3) := by decide +kernel
theorem dX7_count_87 : decode cX7_count 87 = .ok (.i2l, 1) := by decide +kernel
theorem dX7_count_88 : decode cX7_count 88 = .ok (.lreturn, 1) := by decide +kernel
theorem dX7_count_89 : decode cX7_count 89 = .ok (.aload_n 0, 1) := by decide +kernel
theorem dX7_count_90 : decode cX7_count 90 = .ok (.getfield 10, 3) := by decide +kernel
theorem dX7_count_93 : decode cX7_count 93 = .ok (.invokevirtual 286, 3) := by decide +kernel
theorem dX7_count_96 : decode cX7_count 96 = .ok (.i2l, 1) := by decide +kernel
theorem dX7_count_97 : decode cX7_count 97 = .ok (.lreturn, 1) := by decide +kernel
theorem dX7_count_98 : decode cX7_count 98 = .ok (.aload_n 0, 1) := by decide +kernel
theorem dX7_count_99 : decode cX7_count 99 = .ok (.getfield 54, 3) := by decide +kernel
theorem dX7_count_102 : decode cX7_count 102 = .ok (.invokevirtual 289, 3) := by decide +kernel
theorem dX7_count_105 : decode cX7_count 105 = .ok (.i2l, 1) := by decide +kernel
theorem dX7_count_106 : decode cX7_count 106 = .ok (.lreturn, 1) := by decide +kernel
theorem dX7_count_107 : decode cX7_count 107 = .ok (.ldc2_w 70, 3) := by decide +kernel
theorem dX7_count_110 : decode cX7_count 110 = .ok (.lreturn, 1) := by decide +kernel
theorem dX7_isWithin_0 : decode cX7_isWithin 0 = .ok (.iload_n 0, 1) := by decide +kernel
theorem dX7_isWithin_1 : decode cX7_isWithin 1 = .ok (.iload_n 1, 1) := by decide +kernel
theorem dX7_isWithin_2 : decode cX7_isWithin 2 = .ok (.if_icmp .lt 12, 3) := by decide +kernel
theorem dX7_isWithin_5 : decode cX7_isWithin 5 = .ok (.iload_n 0, 1) := by decide +kernel
theorem dX7_isWithin_6 : decode cX7_isWithin 6 = .ok (.iload_n 2, 1) := by decide +kernel
theorem dX7_isWithin_7 : decode cX7_isWithin 7 = .ok (.if_icmp .gt 7, 3) := by decide +kernel
theorem dX7_isWithin_10 : decode cX7_isWithin 10 = .ok (.iconst 1, 1) := by decide +kernel
theorem dX7_isWithin_11 : decode cX7_isWithin 11 = .ok (.goto 4, 3) := by decide +kernel
theorem dX7_isWithin_14 : decode cX7_isWithin 14 = .ok (.iconst 0, 1) := by decide +kernel
theorem dX7_isWithin_15 : decode cX7_isWithin 15 = .ok (.ireturn, 1) := by decide +kernel
theorem dX7_isCourt_0 : decode cX7_isCourt 0 = .ok (.iload_n 0, 1) := by decide +kernel
theorem dX7_isCourt_1 : decode cX7_isCourt 1 = .ok (.iconst 0, 1) := by decide +kernel
theorem dX7_isCourt_2 : decode cX7_isCourt 2 = .ok (.iconst 2, 1) := by decide +kernel
theorem dX7_isCourt_3 : decode cX7_isCourt 3 = .ok (.invokestatic 66, 3) := by decide +kernel
theorem dX7_isCourt_6 : decode cX7_isCourt 6 = .ok (.ireturn, 1) := by decide +kernel
theorem dX7_isQuarter_0 : decode cX7_isQuarter 0 = .ok (.iload_n 0, 1) := by decide +kernel
theorem dX7_isQuarter_1 : decode cX7_isQuarter 1 = .ok (.iconst 0, 1) := by decide +kernel
theorem dX7_isQuarter_2 : decode cX7_isQuarter 2 = .ok (.bipush 48, 2) := by decide +kernel
theorem dX7_isQuarter_4 : decode cX7_isQuarter 4 = .ok (.invokestatic 66, 3) := by decide +kernel
theorem dX7_isQuarter_7 : decode cX7_isQuarter 7 = .ok (.ireturn, 1) := by decide +kernel
theorem dX7_isSheet_0 : decode cX7_isSheet 0 = .ok (.iload_n 0, 1) := by decide +kernel
theorem dX7_isSheet_1 : decode cX7_isSheet 1 = .ok (.iconst 0, 1) := by decide +kernel
theorem dX7_isSheet_2 : decode cX7_isSheet 2 = .ok (.iconst 1, 1) := by decide +kernel
theorem dX7_isSheet_3 : decode cX7_isSheet 3 = .ok (.invokestatic 66, 3) := by decide +kernel
theorem dX7_isSheet_6 : decode cX7_isSheet 6 = .ok (.ireturn, 1) := by decide +kernel
theorem dX7_holds_0 : decode cX7_holds 0 = .ok (.iload_n 0, 1) := by decide +kernel
theorem dX7_holds_1 : decode cX7_holds 1 = .ok (.iload_n 1, 1) := by decide +kernel
theorem dX7_holds_2 : decode cX7_holds 2 = .ok (.ishr, 1) := by decide +kernel
theorem dX7_holds_3 : decode cX7_holds 3 = .ok (.iconst 1, 1) := by decide +kernel
theorem dX7_holds_4 : decode cX7_holds 4 = .ok (.iand, 1) := by decide +kernel
theorem dX7_holds_5 : decode cX7_holds 5 = .ok (.ifCond .eq 7, 3) := by decide +kernel
theorem dX7_holds_8 : decode cX7_holds 8 = .ok (.iconst 1, 1) := by decide +kernel
theorem dX7_holds_9 : decode cX7_holds 9 = .ok (.goto 4, 3) := by decide +kernel
theorem dX7_holds_12 : decode cX7_holds 12 = .ok (.iconst 0, 1) := by decide +kernel
theorem dX7_holds_13 : decode cX7_holds 13 = .ok (.ireturn, 1) := by decide +kernel
theorem dX7_asLong_0 : decode cX7_asLong 0 = .ok (.iload_n 0, 1) := by decide +kernel
theorem dX7_asLong_1 : decode cX7_asLong 1 = .ok (.ifCond .eq 7, 3) := by decide +kernel
theorem dX7_asLong_4 : decode cX7_asLong 4 = .ok (.lconst 1, 1) := by decide +kernel
theorem dX7_asLong_5 : decode cX7_asLong 5 = .ok (.goto 4, 3) := by decide +kernel
theorem dX7_asLong_8 : decode cX7_asLong 8 = .ok (.lconst 0, 1) := by decide +kernel
theorem dX7_asLong_9 : decode cX7_asLong 9 = .ok (.lreturn, 1) := by decide +kernel
theorem dX7_waitPrice_0 : decode cX7_waitPrice 0 = .ok (.iconst 0, 1) := by decide +kernel
theorem dX7_waitPrice_1 : decode cX7_waitPrice 1 = .ok (.istore_n 2, 1) := by decide +kernel
theorem dX7_waitPrice_2 : decode cX7_waitPrice 2 = .ok (.iconst 0, 1) := by decide +kernel
theorem dX7_waitPrice_3 : decode cX7_waitPrice 3 = .ok (.istore_n 3, 1) := by decide +kernel
theorem dX7_waitPrice_4 : decode cX7_waitPrice 4 = .ok (.iload_n 3, 1) := by decide +kernel
theorem dX7_waitPrice_5 : decode cX7_waitPrice 5 = .ok (.aload_n 0, 1) := by decide +kernel
theorem dX7_waitPrice_6 : decode cX7_waitPrice 6 = .ok (.getfield 19, 3) := by decide +kernel
theorem dX7_waitPrice_9 : decode cX7_waitPrice 9 = .ok (.getfield 85, 3) := by decide +kernel
theorem dX7_waitPrice_12 : decode cX7_waitPrice 12 = .ok (.if_icmp .ge 37, 3) := by decide +kernel
theorem dX7_waitPrice_15 : decode cX7_waitPrice 15 = .ok (.aload_n 0, 1) := by decide +kernel
theorem dX7_waitPrice_16 : decode cX7_waitPrice 16 = .ok (.getfield 10, 3) := by decide +kernel
theorem dX7_waitPrice_19 : decode cX7_waitPrice 19 = .ok (.iload_n 1, 1) := by decide +kernel
theorem dX7_waitPrice_20 : decode cX7_waitPrice 20 = .ok (.iload_n 3, 1) := by decide +kernel
theorem dX7_waitPrice_21 : decode cX7_waitPrice 21 = .ok (.invokevirtual 163, 3) := by decide +kernel
theorem dX7_waitPrice_24 : decode cX7_waitPrice 24 = .ok (.ifCond .eq 19, 3) := by decide +kernel
theorem dX7_waitPrice_27 : decode cX7_waitPrice 27 = .ok (.iload_n 2, 1) := by decide +kernel
theorem dX7_waitPrice_28 : decode cX7_waitPrice 28 = .ok (.getstatic 292, 3) := by decide +kernel
theorem dX7_waitPrice_31 : decode cX7_waitPrice 31 = .ok (.aload_n 0, 1) := by decide +kernel
theorem dX7_waitPrice_32 : decode cX7_waitPrice 32 = .ok (.getfield 19, 3) := by decide +kernel
theorem dX7_waitPrice_35 : decode cX7_waitPrice 35 = .ok (.getfield 92, 3) := by decide +kernel
theorem dX7_waitPrice_38 : decode cX7_waitPrice 38 = .ok (.iload_n 3, 1) := by decide +kernel
theorem dX7_waitPrice_39 : decode cX7_waitPrice 39 = .ok (.iaload, 1) := by decide +kernel
theorem dX7_waitPrice_40 : decode cX7_waitPrice 40 = .ok (.iaload, 1) := by decide +kernel
theorem dX7_waitPrice_41 : decode cX7_waitPrice 41 = .ok (.iadd, 1) := by decide +kernel
theorem dX7_waitPrice_42 : decode cX7_waitPrice 42 = .ok (.istore_n 2, 1) := by decide +kernel
theorem dX7_waitPrice_43 : decode cX7_waitPrice 43 = .ok (.iinc 3 1, 3) := by decide +kernel
theorem dX7_waitPrice_46 : decode cX7_waitPrice 46 = .ok (.goto (-42), 3) := by decide +kernel
theorem dX7_waitPrice_49 : decode cX7_waitPrice 49 = .ok (.iload_n 2, 1) := by decide +kernel
theorem dX7_waitPrice_50 : decode cX7_waitPrice 50 = .ok (.i2l, 1) := by decide +kernel
theorem dX7_waitPrice_51 : decode cX7_waitPrice 51 = .ok (.aload_n 0, 1) := by decide +kernel
theorem dX7_waitPrice_52 : decode cX7_waitPrice 52 = .ok (.getfield 58, 3) := by decide +kernel
theorem dX7_waitPrice_55 : decode cX7_waitPrice 55 = .ok (.iconst 0, 1) := by decide +kernel
theorem dX7_waitPrice_56 : decode cX7_waitPrice 56 = .ok (.iaload, 1) := by decide +kernel
theorem dX7_waitPrice_57 : decode cX7_waitPrice 57 = .ok (.i2l, 1) := by decide +kernel
theorem dX7_waitPrice_58 : decode cX7_waitPrice 58 = .ok (.lmul, 1) := by decide +kernel
theorem dX7_waitPrice_59 : decode cX7_waitPrice 59 = .ok (.lreturn, 1) := by decide +kernel
theorem dX7_greatestWay_0 : decode cX7_greatestWay 0 = .ok (.iconst 0, 1) := by decide +kernel
theorem dX7_greatestWay_1 : decode cX7_greatestWay 1 = .ok (.istore_n 2, 1) := by decide +kernel
theorem dX7_greatestWay_2 : decode cX7_greatestWay 2 = .ok (.iconst 0, 1) := by decide +kernel
theorem dX7_greatestWay_3 : decode cX7_greatestWay 3 = .ok (.istore_n 3, 1) := by decide +kernel
theorem dX7_greatestWay_4 : decode cX7_greatestWay 4 = .ok (.iload_n 3, 1) := by decide +kernel
theorem dX7_greatestWay_5 : decode cX7_greatestWay 5 = .ok (.aload_n 0, 1) := by decide +kernel
theorem dX7_greatestWay_6 : decode cX7_greatestWay 6 = .ok (.getfield 19, 3) := by decide +kernel
theorem dX7_greatestWay_9 : decode cX7_greatestWay 9 = .ok (.getfield 85, 3) := by decide +kernel
theorem dX7_greatestWay_12 : decode cX7_greatestWay 12 = .ok (.if_icmp .ge 35, 3) := by decide +kernel
theorem dX7_greatestWay_15 : decode cX7_greatestWay 15 = .ok (.aload_n 0, 1) := by decide +kernel
theorem dX7_greatestWay_16 : decode cX7_greatestWay 16 = .ok (.getfield 10, 3) := by decide +kernel
theorem dX7_greatestWay_19 : decode cX7_greatestWay 19 = .ok (.iload_n 1, 1) := by decide +kernel
theorem dX7_greatestWay_20 : decode cX7_greatestWay 20 = .ok (.iload_n 3, 1) := by decide +kernel
theorem dX7_greatestWay_21 : decode cX7_greatestWay 21 = .ok (.invokevirtual 163, 3) := by decide +kernel
theorem dX7_greatestWay_24 : decode cX7_greatestWay 24 = .ok (.ifCond .eq 17, 3) := by decide +kernel
theorem dX7_greatestWay_27 : decode cX7_greatestWay 27 = .ok (.iload_n 2, 1) := by decide +kernel
theorem dX7_greatestWay_28 : decode cX7_greatestWay 28 = .ok (.aload_n 0, 1) := by decide +kernel
theorem dX7_greatestWay_29 : decode cX7_greatestWay 29 = .ok (.getfield 19, 3) := by decide +kernel
theorem dX7_greatestWay_32 : decode cX7_greatestWay 32 = .ok (.getfield 107, 3) := by decide +kernel
theorem dX7_greatestWay_35 : decode cX7_greatestWay 35 = .ok (.iload_n 3, 1) := by decide +kernel
theorem dX7_greatestWay_36 : decode cX7_greatestWay 36 = .ok (.iaload, 1) := by decide +kernel
theorem dX7_greatestWay_37 : decode cX7_greatestWay 37 = .ok (.invokestatic 295, 3) := by decide +kernel
theorem dX7_greatestWay_40 : decode cX7_greatestWay 40 = .ok (.istore_n 2, 1) := by decide +kernel
theorem dX7_greatestWay_41 : decode cX7_greatestWay 41 = .ok (.iinc 3 1, 3) := by decide +kernel
theorem dX7_greatestWay_44 : decode cX7_greatestWay 44 = .ok (.goto (-40), 3) := by decide +kernel
theorem dX7_greatestWay_47 : decode cX7_greatestWay 47 = .ok (.iload_n 2, 1) := by decide +kernel
theorem dX7_greatestWay_48 : decode cX7_greatestWay 48 = .ok (.ireturn, 1) := by decide +kernel
theorem dX7_bestQuarter_0 : decode cX7_bestQuarter 0 = .ok (.aload_n 0, 1) := by decide +kernel
theorem dX7_bestQuarter_1 : decode cX7_bestQuarter 1 = .ok (.getfield 26, 3) := by decide +kernel
theorem dX7_bestQuarter_4 : decode cX7_bestQuarter 4 = .ok (.aload_n 0, 1) := by decide +kernel
theorem dX7_bestQuarter_5 : decode cX7_bestQuarter 5 = .ok (.getfield 10, 3) := by decide +kernel
theorem dX7_bestQuarter_8 : decode cX7_bestQuarter 8 = .ok (.iload_n 1, 1) := by decide +kernel
theorem dX7_bestQuarter_9 : decode cX7_bestQuarter 9 = .ok (.invokevirtual 144, 3) := by decide +kernel
theorem dX7_bestQuarter_12 : decode cX7_bestQuarter 12 = .ok (.aload_n 0, 1) := by decide +kernel
theorem dX7_bestQuarter_13 : decode cX7_bestQuarter 13 = .ok (.getfield 26, 3) := by decide +kernel
theorem dX7_bestQuarter_16 : decode cX7_bestQuarter 16 = .ok (.aload_n 0, 1) := by decide +kernel
theorem dX7_bestQuarter_17 : decode cX7_bestQuarter 17 = .ok (.iload_n 1, 1) := by decide +kernel
theorem dX7_bestQuarter_18 : decode cX7_bestQuarter 18 = .ok (.invokevirtual 298, 3) := by decide +kernel
theorem dX7_bestQuarter_21 : decode cX7_bestQuarter 21 = .ok (.aload_n 0, 1) := by decide +kernel
theorem dX7_bestQuarter_22 : decode cX7_bestQuarter 22 = .ok (.iload_n 1, 1) := by decide +kernel
theorem dX7_bestQuarter_23 : decode cX7_bestQuarter 23 = .ok (.invokevirtual 152, 3) := by decide +kernel
theorem dX7_bestQuarter_26 : decode cX7_bestQuarter 26 = .ok (.aload_n 0, 1) := by decide +kernel
theorem dX7_bestQuarter_27 : decode cX7_bestQuarter 27 = .ok (.getfield 58, 3) := by decide +kernel
theorem dX7_bestQuarter_30 : decode cX7_bestQuarter 30 = .ok (.iconst 1, 1) := by decide +kernel
theorem dX7_bestQuarter_31 : decode cX7_bestQuarter 31 = .ok (.iaload, 1) := by decide +kernel
theorem dX7_bestQuarter_32 : decode cX7_bestQuarter 32 = .ok (.i2l, 1) := by decide +kernel
theorem dX7_bestQuarter_33 : decode cX7_bestQuarter 33 = .ok (.invokevirtual 301, 3) := by decide +kernel
theorem dX7_bestQuarter_36 : decode cX7_bestQuarter 36 = .ok (.ireturn, 1) := by decide +kernel
theorem dX8_init_0 : decode cX8_init 0 = .ok (.aload_n 0, 1) := by decide +kernel
theorem dX8_init_1 : decode cX8_init 1 = .ok (.invokespecial 1, 3) := by decide +kernel
theorem dX8_init_4 : decode cX8_init 4 = .ok (.aload_n 0, 1) := by decide +kernel
theorem dX8_init_5 : decode cX8_init 5 = .ok (.iconst 3, 1) := by decide +kernel
theorem dX8_init_6 : decode cX8_init 6 = .ok (.newarray .int, 2) := by decide +kernel
theorem dX8_init_8 : decode cX8_init 8 = .ok (.putfield 7, 3) := by decide +kernel
theorem dX8_init_11 : decode cX8_init 11 = .ok (.aload_n 0, 1) := by decide +kernel
theorem dX8_init_12 : decode cX8_init 12 = .ok (.bipush 18, 2) := by decide +kernel
theorem dX8_init_14 : decode cX8_init 14 = .ok (.newarray .int, 2) := by decide +kernel
theorem dX8_init_16 : decode cX8_init 16 = .ok (.putfield 13, 3) := by decide +kernel
theorem dX8_init_19 : decode cX8_init 19 = .ok (.aload_n 0, 1) := by decide +kernel
theorem dX8_init_20 : decode cX8_init 20 = .ok (.bipush 12, 2) := by decide +kernel
theorem dX8_init_22 : decode cX8_init 22 = .ok (.newarray .int, 2) := by decide +kernel
theorem dX8_init_24 : decode cX8_init 24 = .ok (.putfield 16, 3) := by decide +kernel
theorem dX8_init_27 : decode cX8_init 27 = .ok (.aload_n 0, 1) := by decide +kernel
theorem dX8_init_28 : decode cX8_init 28 = .ok (.bipush 12, 2) := by decide +kernel
theorem dX8_init_30 : decode cX8_init 30 = .ok (.newarray .int, 2) := by decide +kernel
theorem dX8_init_32 : decode cX8_init 32 = .ok (.putfield 19, 3) := by decide +kernel
theorem dX8_init_35 : decode cX8_init 35 = .ok (.aload_n 0, 1) := by decide +kernel
theorem dX8_init_36 : decode cX8_init 36 = .ok (.bipush 12, 2) := by decide +kernel
theorem dX8_init_38 : decode cX8_init 38 = .ok (.newarray .int, 2) := by decide +kernel
theorem dX8_init_40 : decode cX8_init 40 = .ok (.putfield 22, 3) := by decide +kernel
theorem dX8_init_43 : decode cX8_init 43 = .ok (.aload_n 0, 1) := by decide +kernel
theorem dX8_init_44 : decode cX8_init 44 = .ok (.bipush 12, 2) := by decide +kernel
theorem dX8_init_46 : decode cX8_init 46 = .ok (.newarray .int, 2) := by decide +kernel
theorem dX8_init_48 : decode cX8_init 48 = .ok (.putfield 25, 3) := by decide +kernel
theorem dX8_init_51 : decode cX8_init 51 = .ok (.aload_n 0, 1) := by decide +kernel
theorem dX8_init_52 : decode cX8_init 52 = .ok (.bipush 12, 2) := by decide +kernel
theorem dX8_init_54 : decode cX8_init 54 = .ok (.newarray .int, 2) := by decide +kernel
theorem dX8_init_56 : decode cX8_init 56 = .ok (.putfield 28, 3) := by decide +kernel
theorem dX8_init_59 : decode cX8_init 59 = .ok (.aload_n 0, 1) := by decide +kernel
theorem dX8_init_60 : decode cX8_init 60 = .ok (.bipush 10, 2) := by decide +kernel
theorem dX8_init_62 : decode cX8_init 62 = .ok (.newarray .int, 2) := by decide +kernel
theorem dX8_init_64 : decode cX8_init 64 = .ok (.putfield 31, 3) := by decide +kernel
theorem dX8_init_67 : decode cX8_init 67 = .ok (.aload_n 0, 1) := by decide +kernel
theorem dX8_init_68 : decode cX8_init 68 = .ok (.bipush 10, 2) := by decide +kernel
theorem dX8_init_70 : decode cX8_init 70 = .ok (.newarray .int, 2) := by decide +kernel
theorem dX8_init_72 : decode cX8_init 72 = .ok (.putfield 34, 3) := by decide +kernel
theorem dX8_init_75 : decode cX8_init 75 = .ok (.aload_n 0, 1) := by decide +kernel
theorem dX8_init_76 : decode cX8_init 76 = .ok (.bipush 10, 2) := by decide +kernel
theorem dX8_init_78 : decode cX8_init 78 = .ok (.newarray .int, 2) := by decide +kernel
theorem dX8_init_80 : decode cX8_init 80 = .ok (.putfield 37, 3) := by decide +kernel
theorem dX8_init_83 : decode cX8_init 83 = .ok (.aload_n 0, 1) := by decide +kernel
theorem dX8_init_84 : decode cX8_init 84 = .ok (.bipush 120, 2) := by decide +kernel
theorem dX8_init_86 : decode cX8_init 86 = .ok (.newarray .int, 2) := by decide +kernel
theorem dX8_init_88 : decode cX8_init 88 = .ok (.putfield 40, 3) := by decide +kernel
theorem dX8_init_91 : decode cX8_init 91 = .ok (.aload_n 0, 1) := by decide +kernel
theorem dX8_init_92 : decode cX8_init 92 = .ok (.iconst 5, 1) := by decide +kernel
theorem dX8_init_93 : decode cX8_init 93 = .ok (.newarray .int, 2) := by decide +kernel
theorem dX8_init_95 : decode cX8_init 95 = .ok (.putfield 43, 3) := by decide +kernel
theorem dX8_init_98 : decode cX8_init 98 = .ok (.aload_n 0, 1) := by decide +kernel
theorem dX8_init_99 : decode cX8_init 99 = .ok (.bipush 60, 2) := by decide +kernel
theorem dX8_init_101 : decode cX8_init 101 = .ok (.newarray .int, 2) := by decide +kernel
theorem dX8_init_103 : decode cX8_init 103 = .ok (.putfield 46, 3) := by decide +kernel
theorem dX8_init_106 : decode cX8_init 106 = .ok (.aload_n 0, 1) := by decide +kernel
theorem dX8_init_107 : decode cX8_init 107 = .ok (.bipush 60, 2) := by decide +kernel
theorem dX8_init_109 : decode cX8_init 109 = .ok (.newarray .int, 2) := by decide +kernel
theorem dX8_init_111 : decode cX8_init 111 = .ok (.putfield 49, 3) := by decide +kernel
theorem dX8_init_114 : decode cX8_init 114 = .ok (.aload_n 0, 1) := by decide +kernel
theorem dX8_init_115 : decode cX8_init 115 = .ok (.bipush 60, 2) := by decide +kernel
theorem dX8_init_117 : decode cX8_init 117 = .ok (.newarray .int, 2) := by decide +kernel
