theorem dX8_waits_24 : decode cX8_waits 24 = .ok (.lstore_n 1, 1) := by decide +kernel
theorem dX8_waits_25 : decode cX8_waits 25 = .ok (.iinc 3 1, 3) := by decide +kernel
theorem dX8_waits_28 : decode cX8_waits 28 = .ok (.goto (-20), 3) := by decide +kernel
theorem dX8_waits_31 : decode cX8_waits 31 = .ok (.lload_n 1, 1) := by decide +kernel
theorem dX8_waits_32 : decode cX8_waits 32 = .ok (.lreturn, 1) := by decide +kernel
theorem dX8_isCalled_0 : decode cX8_isCalled 0 = .ok (.iconst 0, 1) := by decide +kernel
theorem dX8_isCalled_1 : decode cX8_isCalled 1 = .ok (.istore_n 2, 1) := by decide +kernel
theorem dX8_isCalled_2 : decode cX8_isCalled 2 = .ok (.iconst 0, 1) := by decide +kernel
theorem dX8_isCalled_3 : decode cX8_isCalled 3 = .ok (.istore_n 3, 1) := by decide +kernel
theorem dX8_isCalled_4 : decode cX8_isCalled 4 = .ok (.iload_n 3, 1) := by decide +kernel
theorem dX8_isCalled_5 : decode cX8_isCalled 5 = .ok (.aload_n 0, 1) := by decide +kernel
theorem dX8_isCalled_6 : decode cX8_isCalled 6 = .ok (.getfield 96, 3) := by decide +kernel
theorem dX8_isCalled_9 : decode cX8_isCalled 9 = .ok (.if_icmp .ge 28, 3) := by decide +kernel
theorem dX8_isCalled_12 : decode cX8_isCalled 12 = .ok (.iload_n 2, 1) := by decide +kernel
theorem dX8_isCalled_13 : decode cX8_isCalled 13 = .ok (.ifCond .ne 12, 3) := by decide +kernel
theorem dX8_isCalled_16 : decode cX8_isCalled 16 = .ok (.aload_n 0, 1) := by decide +kernel
theorem dX8_isCalled_17 : decode cX8_isCalled 17 = .ok (.iload_n 3, 1) := by decide +kernel
theorem dX8_isCalled_18 : decode cX8_isCalled 18 = .ok (.iload_n 1, 1) := by decide +kernel
theorem dX8_isCalled_19 : decode cX8_isCalled 19 = .ok (.invokevirtual 121, 3) := by decide +kernel
theorem dX8_isCalled_22 : decode cX8_isCalled 22 = .ok (.ifCond .eq 7, 3) := by decide +kernel
theorem dX8_isCalled_25 : decode cX8_isCalled 25 = .ok (.iconst 1, 1) := by decide +kernel
theorem dX8_isCalled_26 : decode cX8_isCalled 26 = .ok (.goto 4, 3) := by decide +kernel
theorem dX8_isCalled_29 : decode cX8_isCalled 29 = .ok (.iconst 0, 1) := by decide +kernel
theorem dX8_isCalled_30 : decode cX8_isCalled 30 = .ok (.istore_n 2, 1) := by decide +kernel
theorem dX8_isCalled_31 : decode cX8_isCalled 31 = .ok (.iinc 3 1, 3) := by decide +kernel
theorem dX8_isCalled_34 : decode cX8_isCalled 34 = .ok (.goto (-30), 3) := by decide +kernel
theorem dX8_isCalled_37 : decode cX8_isCalled 37 = .ok (.iload_n 2, 1) := by decide +kernel
theorem dX8_isCalled_38 : decode cX8_isCalled 38 = .ok (.ireturn, 1) := by decide +kernel
theorem dX8_pay_0 : decode cX8_pay 0 = .ok (.aload_n 0, 1) := by decide +kernel
theorem dX8_pay_1 : decode cX8_pay 1 = .ok (.iload_n 1, 1) := by decide +kernel
theorem dX8_pay_2 : decode cX8_pay 2 = .ok (.invokevirtual 115, 3) := by decide +kernel
theorem dX8_pay_5 : decode cX8_pay 5 = .ok (.ifCond .ne 7, 3) := by decide +kernel
theorem dX8_pay_8 : decode cX8_pay 8 = .ok (.ldc2_w 107, 3) := by decide +kernel
theorem dX8_pay_11 : decode cX8_pay 11 = .ok (.lreturn, 1) := by decide +kernel
theorem dX8_pay_12 : decode cX8_pay 12 = .ok (.aload_n 0, 1) := by decide +kernel
theorem dX8_pay_13 : decode cX8_pay 13 = .ok (.iload_n 1, 1) := by decide +kernel
theorem dX8_pay_14 : decode cX8_pay 14 = .ok (.invokevirtual 175, 3) := by decide +kernel
theorem dX8_pay_17 : decode cX8_pay 17 = .ok (.ifCond .eq 13, 3) := by decide +kernel
theorem dX8_pay_20 : decode cX8_pay 20 = .ok (.aload_n 0, 1) := by decide +kernel
theorem dX8_pay_21 : decode cX8_pay 21 = .ok (.getfield 31, 3) := by decide +kernel
theorem dX8_pay_24 : decode cX8_pay 24 = .ok (.iload_n 1, 1) := by decide +kernel
theorem dX8_pay_25 : decode cX8_pay 25 = .ok (.iaload, 1) := by decide +kernel
theorem dX8_pay_26 : decode cX8_pay 26 = .ok (.iconst 1, 1) := by decide +kernel
theorem dX8_pay_27 : decode cX8_pay 27 = .ok (.if_icmp .ne 5, 3) := by decide +kernel
theorem dX8_pay_30 : decode cX8_pay 30 = .ok (.lconst 0, 1) := by decide +kernel
theorem dX8_pay_31 : decode cX8_pay 31 = .ok (.lreturn, 1) := by decide +kernel
theorem dX8_pay_32 : decode cX8_pay 32 = .ok (.ldc2_w 178, 3) := by decide +kernel
theorem dX8_pay_35 : decode cX8_pay 35 = .ok (.aload_n 0, 1) := by decide +kernel
theorem dX8_pay_36 : decode cX8_pay 36 = .ok (.getfield 34, 3) := by decide +kernel
theorem dX8_pay_39 : decode cX8_pay 39 = .ok (.iload_n 1, 1) := by decide +kernel
theorem dX8_pay_40 : decode cX8_pay 40 = .ok (.iaload, 1) := by decide +kernel
theorem dX8_pay_41 : decode cX8_pay 41 = .ok (.i2l, 1) := by decide +kernel
theorem dX8_pay_42 : decode cX8_pay 42 = .ok (.lmul, 1) := by decide +kernel
theorem dX8_pay_43 : decode cX8_pay 43 = .ok (.aload_n 0, 1) := by decide +kernel
theorem dX8_pay_44 : decode cX8_pay 44 = .ok (.getfield 43, 3) := by decide +kernel
theorem dX8_pay_47 : decode cX8_pay 47 = .ok (.iconst 3, 1) := by decide +kernel
theorem dX8_pay_48 : decode cX8_pay 48 = .ok (.iaload, 1) := by decide +kernel
theorem dX8_pay_49 : decode cX8_pay 49 = .ok (.i2l, 1) := by decide +kernel
theorem dX8_pay_50 : decode cX8_pay 50 = .ok (.lmul, 1) := by decide +kernel
theorem dX8_pay_51 : decode cX8_pay 51 = .ok (.lstore_n 2, 1) := by decide +kernel
theorem dX8_pay_52 : decode cX8_pay 52 = .ok (.aload_n 0, 1) := by decide +kernel
theorem dX8_pay_53 : decode cX8_pay 53 = .ok (.getfield 31, 3) := by decide +kernel
theorem dX8_pay_56 : decode cX8_pay 56 = .ok (.iload_n 1, 1) := by decide +kernel
theorem dX8_pay_57 : decode cX8_pay 57 = .ok (.iaload, 1) := by decide +kernel
theorem dX8_pay_58 : decode cX8_pay 58 = .ok (.iconst 3, 1) := by decide +kernel
theorem dX8_pay_59 : decode cX8_pay 59 = .ok (.if_icmp .lt 5, 3) := by decide +kernel
theorem dX8_pay_62 : decode cX8_pay 62 = .ok (.lload_n 2, 1) := by decide +kernel
theorem dX8_pay_63 : decode cX8_pay 63 = .ok (.lreturn, 1) := by decide +kernel
theorem dX8_pay_64 : decode cX8_pay 64 = .ok (.aload_n 0, 1) := by decide +kernel
theorem dX8_pay_65 : decode cX8_pay 65 = .ok (.invokevirtual 166, 3) := by decide +kernel
theorem dX8_pay_68 : decode cX8_pay 68 = .ok (.lload_n 2, 1) := by decide +kernel
theorem dX8_pay_69 : decode cX8_pay 69 = .ok (.aload_n 0, 1) := by decide +kernel
theorem dX8_pay_70 : decode cX8_pay 70 = .ok (.iload_n 1, 1) := by decide +kernel
theorem dX8_pay_71 : decode cX8_pay 71 = .ok (.invokevirtual 172, 3) := by decide +kernel
theorem dX8_pay_74 : decode cX8_pay 74 = .ok (.iconst 4, 1) := by decide +kernel
theorem dX8_pay_75 : decode cX8_pay 75 = .ok (.idiv, 1) := by decide +kernel
theorem dX8_pay_76 : decode cX8_pay 76 = .ok (.i2l, 1) := by decide +kernel
theorem dX8_pay_77 : decode cX8_pay 77 = .ok (.aload_n 0, 1) := by decide +kernel
theorem dX8_pay_78 : decode cX8_pay 78 = .ok (.getfield 43, 3) := by decide +kernel
theorem dX8_pay_81 : decode cX8_pay 81 = .ok (.iconst 2, 1) := by decide +kernel
theorem dX8_pay_82 : decode cX8_pay 82 = .ok (.iaload, 1) := by decide +kernel
theorem dX8_pay_83 : decode cX8_pay 83 = .ok (.i2l, 1) := by decide +kernel
theorem dX8_pay_84 : decode cX8_pay 84 = .ok (.lmul, 1) := by decide +kernel
theorem dX8_pay_85 : decode cX8_pay 85 = .ok (.ladd, 1) := by decide +kernel
theorem dX8_pay_86 : decode cX8_pay 86 = .ok (.lstore 4, 2) := by decide +kernel
theorem dX8_pay_88 : decode cX8_pay 88 = .ok (.iconst 0, 1) := by decide +kernel
theorem dX8_pay_89 : decode cX8_pay 89 = .ok (.istore 6, 2) := by decide +kernel
theorem dX8_pay_91 : decode cX8_pay 91 = .ok (.iload 6, 2) := by decide +kernel
theorem dX8_pay_93 : decode cX8_pay 93 = .ok (.aload_n 0, 1) := by decide +kernel
theorem dX8_pay_94 : decode cX8_pay 94 = .ok (.getfield 96, 3) := by decide +kernel
theorem dX8_pay_97 : decode cX8_pay 97 = .ok (.if_icmp .ge 64, 3) := by decide +kernel
theorem dX8_pay_100 : decode cX8_pay 100 = .ok (.aload_n 0, 1) := by decide +kernel
theorem dX8_pay_101 : decode cX8_pay 101 = .ok (.getfield 31, 3) := by decide +kernel
theorem dX8_pay_104 : decode cX8_pay 104 = .ok (.iload_n 1, 1) := by decide +kernel
theorem dX8_pay_105 : decode cX8_pay 105 = .ok (.iaload, 1) := by decide +kernel
theorem dX8_pay_106 : decode cX8_pay 106 = .ok (.iconst 2, 1) := by decide +kernel
theorem dX8_pay_107 : decode cX8_pay 107 = .ok (.if_icmp .ne 54, 3) := by decide +kernel
theorem dX8_pay_110 : decode cX8_pay 110 = .ok (.lload 4, 2) := by decide +kernel
theorem dX8_pay_112 : decode cX8_pay 112 = .ok (.aload_n 0, 1) := by decide +kernel
theorem dX8_pay_113 : decode cX8_pay 113 = .ok (.iload 6, 2) := by decide +kernel
theorem dX8_pay_115 : decode cX8_pay 115 = .ok (.iload_n 1, 1) := by decide +kernel
theorem dX8_pay_116 : decode cX8_pay 116 = .ok (.invokevirtual 121, 3) := by decide +kernel
theorem dX8_pay_119 : decode cX8_pay 119 = .ok (.ifCond .eq 32, 3) := by decide +kernel
theorem dX8_pay_122 : decode cX8_pay 122 = .ok (.aload_n 0, 1) := by decide +kernel
theorem dX8_pay_123 : decode cX8_pay 123 = .ok (.getfield 68, 3) := by decide +kernel
theorem dX8_pay_126 : decode cX8_pay 126 = .ok (.iload 6, 2) := by decide +kernel
theorem dX8_pay_128 : decode cX8_pay 128 = .ok (.iaload, 1) := by decide +kernel
theorem dX8_pay_129 : decode cX8_pay 129 = .ok (.ifCond .lt 22, 3) := by decide +kernel
theorem dX8_pay_132 : decode cX8_pay 132 = .ok (.aload_n 0, 1) := by decide +kernel
theorem dX8_pay_133 : decode cX8_pay 133 = .ok (.iload 6, 2) := by decide +kernel
theorem dX8_pay_135 : decode cX8_pay 135 = .ok (.invokevirtual 153, 3) := by decide +kernel
theorem dX8_pay_138 : decode cX8_pay 138 = .ok (.ifCond .ne 13, 3) := by decide +kernel
theorem dX8_pay_141 : decode cX8_pay 141 = .ok (.aload_n 0, 1) := by decide +kernel
theorem dX8_pay_142 : decode cX8_pay 142 = .ok (.getfield 43, 3) := by decide +kernel
theorem dX8_pay_145 : decode cX8_pay 145 = .ok (.iconst 4, 1) := by decide +kernel
theorem dX8_pay_146 : decode cX8_pay 146 = .ok (.iaload, 1) := by decide +kernel
theorem dX8_pay_147 : decode cX8_pay 147 = .ok (.i2l, 1) := by decide +kernel
theorem dX8_pay_148 : decode cX8_pay 148 = .ok (.goto 4, 3) := by decide +kernel
theorem dX8_pay_151 : decode cX8_pay 151 = .ok (.lconst 0, 1) := by decide +kernel
theorem dX8_pay_152 : decode cX8_pay 152 = .ok (.ladd, 1) := by decide +kernel
theorem dX8_pay_153 : decode cX8_pay 153 = .ok (.lstore 4, 2) := by decide +kernel
theorem dX8_pay_155 : decode cX8_pay 155 = .ok (.iinc 6 1, 3) := by decide +kernel
theorem dX8_pay_158 : decode cX8_pay 158 = .ok (.goto (-67), 3) := by decide +kernel
theorem dX8_pay_161 : decode cX8_pay 161 = .ok (.lload 4, 2) := by decide +kernel
theorem dX8_pay_163 : decode cX8_pay 163 = .ok (.lreturn, 1) := by decide +kernel
theorem dX8_apart_0 : decode cX8_apart 0 = .ok (.aload_n 0, 1) := by decide +kernel
theorem dX8_apart_1 : decode cX8_apart 1 = .ok (.iload_n 1, 1) := by decide +kernel
theorem dX8_apart_2 : decode cX8_apart 2 = .ok (.invokevirtual 115, 3) := by decide +kernel
theorem dX8_apart_5 : decode cX8_apart 5 = .ok (.ifCond .eq 25, 3) := by decide +kernel
theorem dX8_apart_8 : decode cX8_apart 8 = .ok (.aload_n 0, 1) := by decide +kernel
theorem dX8_apart_9 : decode cX8_apart 9 = .ok (.iload_n 2, 1) := by decide +kernel
theorem dX8_apart_10 : decode cX8_apart 10 = .ok (.invokevirtual 115, 3) := by decide +kernel
theorem dX8_apart_13 : decode cX8_apart 13 = .ok (.ifCond .eq 17, 3) := by decide +kernel
theorem dX8_apart_16 : decode cX8_apart 16 = .ok (.iload_n 1, 1) := by decide +kernel
theorem dX8_apart_17 : decode cX8_apart 17 = .ok (.iload_n 2, 1) := by decide +kernel
theorem dX8_apart_18 : decode cX8_apart 18 = .ok (.if_icmp .eq 12, 3) := by decide +kernel
theorem dX8_apart_21 : decode cX8_apart 21 = .ok (.iload_n 3, 1) := by decide +kernel
theorem dX8_apart_22 : decode cX8_apart 22 = .ok (.iconst 0, 1) := by decide +kernel
theorem dX8_apart_23 : decode cX8_apart 23 = .ok (.iconst 1, 1) := by decide +kernel
theorem dX8_apart_24 : decode cX8_apart 24 = .ok (.invokestatic 92, 3) := by decide +kernel
theorem dX8_apart_27 : decode cX8_apart 27 = .ok (.ifCond .ne 7, 3) := by decide +kernel
theorem dX8_apart_30 : decode cX8_apart 30 = .ok (.ldc2_w 107, 3) := by decide +kernel
theorem dX8_apart_33 : decode cX8_apart 33 = .ok (.lreturn, 1) := by decide +kernel
theorem dX8_apart_34 : decode cX8_apart 34 = .ok (.aload_n 0, 1) := by decide +kernel
theorem dX8_apart_35 : decode cX8_apart 35 = .ok (.getfield 37, 3) := by decide +kernel
theorem dX8_apart_38 : decode cX8_apart 38 = .ok (.iload_n 1, 1) := by decide +kernel
theorem dX8_apart_39 : decode cX8_apart 39 = .ok (.iaload, 1) := by decide +kernel
theorem dX8_apart_40 : decode cX8_apart 40 = .ok (.iload_n 2, 1) := by decide +kernel
theorem dX8_apart_41 : decode cX8_apart 41 = .ok (.ishr, 1) := by decide +kernel
theorem dX8_apart_42 : decode cX8_apart 42 = .ok (.iconst 1, 1) := by decide +kernel
theorem dX8_apart_43 : decode cX8_apart 43 = .ok (.iand, 1) := by decide +kernel
theorem dX8_apart_44 : decode cX8_apart 44 = .ok (.istore 4, 2) := by decide +kernel
theorem dX8_apart_46 : decode cX8_apart 46 = .ok (.iload 4, 2) := by decide +kernel
theorem dX8_apart_48 : decode cX8_apart 48 = .ok (.iload_n 3, 1) := by decide +kernel
theorem dX8_apart_49 : decode cX8_apart 49 = .ok (.if_icmp .eq 27, 3) := by decide +kernel
theorem dX8_apart_52 : decode cX8_apart 52 = .ok (.aload_n 0, 1) := by decide +kernel
theorem dX8_apart_53 : decode cX8_apart 53 = .ok (.getfield 37, 3) := by decide +kernel
theorem dX8_apart_56 : decode cX8_apart 56 = .ok (.iload_n 1, 1) := by decide +kernel
theorem dX8_apart_57 : decode cX8_apart 57 = .ok (.dup2, 1) := by decide +kernel
theorem dX8_apart_58 : decode cX8_apart 58 = .ok (.iaload, 1) := by decide +kernel
theorem dX8_apart_59 : decode cX8_apart 59 = .ok (.iconst 1, 1) := by decide +kernel
theorem dX8_apart_60 : decode cX8_apart 60 = .ok (.iload_n 2, 1) := by decide +kernel
theorem dX8_apart_61 : decode cX8_apart 61 = .ok (.ishl, 1) := by decide +kernel
theorem dX8_apart_62 : decode cX8_apart 62 = .ok (.ixor, 1) := by decide +kernel
theorem dX8_apart_63 : decode cX8_apart 63 = .ok (.iastore, 1) := by decide +kernel
theorem dX8_apart_64 : decode cX8_apart 64 = .ok (.aload_n 0, 1) := by decide +kernel
theorem dX8_apart_65 : decode cX8_apart 65 = .ok (.getfield 37, 3) := by decide +kernel
theorem dX8_apart_68 : decode cX8_apart 68 = .ok (.iload_n 2, 1) := by decide +kernel
theorem dX8_apart_69 : decode cX8_apart 69 = .ok (.dup2, 1) := by decide +kernel
theorem dX8_apart_70 : decode cX8_apart 70 = .ok (.iaload, 1) := by decide +kernel
theorem dX8_apart_71 : decode cX8_apart 71 = .ok (.iconst 1, 1) := by decide +kernel
theorem dX8_apart_72 : decode cX8_apart 72 = .ok (.iload_n 1, 1) := by decide +kernel
theorem dX8_apart_73 : decode cX8_apart 73 = .ok (.ishl, 1) := by decide +kernel
theorem dX8_apart_74 : decode cX8_apart 74 = .ok (.ixor, 1) := by decide +kernel
theorem dX8_apart_75 : decode cX8_apart 75 = .ok (.iastore, 1) := by decide +kernel
theorem dX8_apart_76 : decode cX8_apart 76 = .ok (.iload 4, 2) := by decide +kernel
theorem dX8_apart_78 : decode cX8_apart 78 = .ok (.i2l, 1) := by decide +kernel
theorem dX8_apart_79 : decode cX8_apart 79 = .ok (.lreturn, 1) := by decide +kernel
theorem dX8_span_0 : decode cX8_span 0 = .ok (.aload_n 0, 1) := by decide +kernel
theorem dX8_span_1 : decode cX8_span 1 = .ok (.getfield 80, 3) := by decide +kernel
theorem dX8_span_4 : decode cX8_span 4 = .ok (.iload_n 1, 1) := by decide +kernel
theorem dX8_span_5 : decode cX8_span 5 = .ok (.iconst (-1), 1) := by decide +kernel
theorem dX8_span_6 : decode cX8_span 6 = .ok (.iastore, 1) := by decide +kernel
theorem dX8_span_7 : decode cX8_span 7 = .ok (.aload_n 0, 1) := by decide +kernel
theorem dX8_span_8 : decode cX8_span 8 = .ok (.getfield 83, 3) := by decide +kernel
theorem dX8_span_11 : decode cX8_span 11 = .ok (.iload_n 1, 1) := by decide +kernel
theorem dX8_span_12 : decode cX8_span 12 = .ok (.iconst (-1), 1) := by decide +kernel
theorem dX8_span_13 : decode cX8_span 13 = .ok (.iastore, 1) := by decide +kernel
theorem dX8_span_14 : decode cX8_span 14 = .ok (.iconst 0, 1) := by decide +kernel
theorem dX8_span_15 : decode cX8_span 15 = .ok (.istore_n 2, 1) := by decide +kernel
theorem dX8_span_16 : decode cX8_span 16 = .ok (.iload_n 2, 1) := by decide +kernel
theorem dX8_span_17 : decode cX8_span 17 = .ok (.aload_n 0, 1) := by decide +kernel
theorem dX8_span_18 : decode cX8_span 18 = .ok (.getfield 96, 3) := by decide +kernel
theorem dX8_span_21 : decode cX8_span 21 = .ok (.if_icmp .ge 119, 3) := by decide +kernel
theorem dX8_span_24 : decode cX8_span 24 = .ok (.aload_n 0, 1) := by decide +kernel
theorem dX8_span_25 : decode cX8_span 25 = .ok (.iload_n 2, 1) := by decide +kernel
theorem dX8_span_26 : decode cX8_span 26 = .ok (.iload_n 1, 1) := by decide +kernel
theorem dX8_span_27 : decode cX8_span 27 = .ok (.invokevirtual 121, 3) := by decide +kernel
theorem dX8_span_30 : decode cX8_span 30 = .ok (.ifCond .ne 6, 3) := by decide +kernel
theorem dX8_span_33 : decode cX8_span 33 = .ok (.goto 101, 3) := by decide +kernel
theorem dX8_span_36 : decode cX8_span 36 = .ok (.aload_n 0, 1) := by decide +kernel
theorem dX8_span_37 : decode cX8_span 37 = .ok (.getfield 40, 3) := by decide +kernel
theorem dX8_span_40 : decode cX8_span 40 = .ok (.bipush 10, 2) := by decide +kernel
theorem dX8_span_42 : decode cX8_span 42 = .ok (.iload_n 2, 1) := by decide +kernel
theorem dX8_span_43 : decode cX8_span 43 = .ok (.imul, 1) := by decide +kernel
theorem dX8_span_44 : decode cX8_span 44 = .ok (.iload_n 1, 1) := by decide +kernel
theorem dX8_span_45 : decode cX8_span 45 = .ok (.iadd, 1) := by decide +kernel
theorem dX8_span_46 : decode cX8_span 46 = .ok (.iaload, 1) := by decide +kernel
theorem dX8_span_47 : decode cX8_span 47 = .ok (.istore_n 3, 1) := by decide +kernel
theorem dX8_span_48 : decode cX8_span 48 = .ok (.aload_n 0, 1) := by decide +kernel
theorem dX8_span_49 : decode cX8_span 49 = .ok (.getfield 68, 3) := by decide +kernel
theorem dX8_span_52 : decode cX8_span 52 = .ok (.iload_n 2, 1) := by decide +kernel
theorem dX8_span_53 : decode cX8_span 53 = .ok (.iaload, 1) := by decide +kernel
theorem dX8_span_54 : decode cX8_span 54 = .ok (.ifCond .ge 9, 3) := by decide +kernel
theorem dX8_span_57 : decode cX8_span 57 = .ok (.sipush 200, 3) := by decide +kernel
theorem dX8_span_60 : decode cX8_span 60 = .ok (.goto 9, 3) := by decide +kernel
theorem dX8_span_63 : decode cX8_span 63 = .ok (.aload_n 0, 1) := by decide +kernel
theorem dX8_span_64 : decode cX8_span 64 = .ok (.getfield 68, 3) := by decide +kernel
theorem dX8_span_67 : decode cX8_span 67 = .ok (.iload_n 2, 1) := by decide +kernel
theorem dX8_span_68 : decode cX8_span 68 = .ok (.iaload, 1) := by decide +kernel
theorem dX8_span_69 : decode cX8_span 69 = .ok (.istore 4, 2) := by decide +kernel
theorem dX8_span_71 : decode cX8_span 71 = .ok (.aload_n 0, 1) := by decide +kernel
theorem dX8_span_72 : decode cX8_span 72 = .ok (.getfield 80, 3) := by decide +kernel
theorem dX8_span_75 : decode cX8_span 75 = .ok (.iload_n 1, 1) := by decide +kernel
theorem dX8_span_76 : decode cX8_span 76 = .ok (.aload_n 0, 1) := by decide +kernel
theorem dX8_span_77 : decode cX8_span 77 = .ok (.getfield 80, 3) := by decide +kernel
theorem dX8_span_80 : decode cX8_span 80 = .ok (.iload_n 1, 1) := by decide +kernel
theorem dX8_span_81 : decode cX8_span 81 = .ok (.iaload, 1) := by decide +kernel
theorem dX8_span_82 : decode cX8_span 82 = .ok (.ifCond .lt 13, 3) := by decide +kernel
theorem dX8_span_85 : decode cX8_span 85 = .ok (.iload_n 3, 1) := by decide +kernel
theorem dX8_span_86 : decode cX8_span 86 = .ok (.aload_n 0, 1) := by decide +kernel
theorem dX8_span_87 : decode cX8_span 87 = .ok (.getfield 80, 3) := by decide +kernel
theorem dX8_span_90 : decode cX8_span 90 = .ok (.iload_n 1, 1) := by decide +kernel
theorem dX8_span_91 : decode cX8_span 91 = .ok (.iaload, 1) := by decide +kernel
theorem dX8_span_92 : decode cX8_span 92 = .ok (.if_icmp .ge 7, 3) := by decide +kernel
theorem dX8_span_95 : decode cX8_span 95 = .ok (.iload_n 3, 1) := by decide +kernel
theorem dX8_span_96 : decode cX8_span 96 = .ok (.goto 9, 3) := by decide +kernel
theorem dX8_span_99 : decode cX8_span 99 = .ok (.aload_n 0, 1) := by decide +kernel
theorem dX8_span_100 : decode cX8_span 100 = .ok (.getfield 80, 3) := by decide +kernel
theorem dX8_span_103 : decode cX8_span 103 = .ok (.iload_n 1, 1) := by decide +kernel
theorem dX8_span_104 : decode cX8_span 104 = .ok (.iaload, 1) := by decide +kernel
theorem dX8_span_105 : decode cX8_span 105 = .ok (.iastore, 1) := by decide +kernel
theorem dX8_span_106 : decode cX8_span 106 = .ok (.aload_n 0, 1) := by decide +kernel
theorem dX8_span_107 : decode cX8_span 107 = .ok (.getfield 83, 3) := by decide +kernel
theorem dX8_span_110 : decode cX8_span 110 = .ok (.iload_n 1, 1) := by decide +kernel
theorem dX8_span_111 : decode cX8_span 111 = .ok (.iload 4, 2) := by decide +kernel
theorem dX8_span_113 : decode cX8_span 113 = .ok (.aload_n 0, 1) := by decide +kernel
theorem dX8_span_114 : decode cX8_span 114 = .ok (.getfield 83, 3) := by decide +kernel
theorem dX8_span_117 : decode cX8_span 117 = .ok (.iload_n 1, 1) := by decide +kernel
theorem dX8_span_118 : decode cX8_span 118 = .ok (.iaload, 1) := by decide +kernel
theorem dX8_span_119 : decode cX8_span 119 = .ok (.if_icmp .le 8, 3) := by decide +kernel
theorem dX8_span_122 : decode cX8_span 122 = .ok (.iload 4, 2) := by decide +kernel
theorem dX8_span_124 : decode cX8_span 124 = .ok (.goto 9, 3) := by decide +kernel
theorem dX8_span_127 : decode cX8_span 127 = .ok (.aload_n 0, 1) := by decide +kernel
theorem dX8_span_128 : decode cX8_span 128 = .ok (.getfield 83, 3) := by decide +kernel
theorem dX8_span_131 : decode cX8_span 131 = .ok (.iload_n 1, 1) := by decide +kernel
theorem dX8_span_132 : decode cX8_span 132 = .ok (.iaload, 1) := by decide +kernel
theorem dX8_span_133 : decode cX8_span 133 = .ok (.iastore, 1) := by decide +kernel
theorem dX8_span_134 : decode cX8_span 134 = .ok (.iinc 2 1, 3) := by decide +kernel
theorem dX8_span_137 : decode cX8_span 137 = .ok (.goto (-121), 3) := by decide +kernel
theorem dX8_span_140 : decode cX8_span 140 = .ok (.aload_n 0, 1) := by decide +kernel
theorem dX8_span_141 : decode cX8_span 141 = .ok (.getfield 83, 3) := by decide +kernel
theorem dX8_span_144 : decode cX8_span 144 = .ok (.iload_n 1, 1) := by decide +kernel
theorem dX8_span_145 : decode cX8_span 145 = .ok (.aload_n 0, 1) := by decide +kernel
theorem dX8_span_146 : decode cX8_span 146 = .ok (.getfield 83, 3) := by decide +kernel
theorem dX8_span_149 : decode cX8_span 149 = .ok (.iload_n 1, 1) := by decide +kernel
theorem dX8_span_150 : decode cX8_span 150 = .ok (.iaload, 1) := by decide +kernel
theorem dX8_span_151 : decode cX8_span 151 = .ok (.aload_n 0, 1) := by decide +kernel
theorem dX8_span_152 : decode cX8_span 152 = .ok (.getfield 80, 3) := by decide +kernel
theorem dX8_span_155 : decode cX8_span 155 = .ok (.iload_n 1, 1) := by decide +kernel
theorem dX8_span_156 : decode cX8_span 156 = .ok (.iaload, 1) := by decide +kernel
theorem dX8_span_157 : decode cX8_span 157 = .ok (.if_icmp .ge 12, 3) := by decide +kernel
theorem dX8_span_160 : decode cX8_span 160 = .ok (.aload_n 0, 1) := by decide +kernel
theorem dX8_span_161 : decode cX8_span 161 = .ok (.getfield 80, 3) := by decide +kernel
theorem dX8_span_164 : decode cX8_span 164 = .ok (.iload_n 1, 1) := by decide +kernel
theorem dX8_span_165 : decode cX8_span 165 = .ok (.iaload, 1) := by decide +kernel
theorem dX8_span_166 : decode cX8_span 166 = .ok (.goto 9, 3) := by decide +kernel
theorem dX8_span_169 : decode cX8_span 169 = .ok (.aload_n 0, 1) := by decide +kernel
theorem dX8_span_170 : decode cX8_span 170 = .ok (.getfield 83, 3) := by decide +kernel
theorem dX8_span_173 : decode cX8_span 173 = .ok (.iload_n 1, 1) := by decide +kernel
theorem dX8_span_174 : decode cX8_span 174 = .ok (.iaload, 1) := by decide +kernel
theorem dX8_span_175 : decode cX8_span 175 = .ok (.iastore, 1) := by decide +kernel
theorem dX8_span_176 : decode cX8_span 176 = .ok (.return_, 1) := by decide +kernel
theorem dX8_mayBe_0 : decode cX8_mayBe 0 = .ok (.aload_n 0, 1) := by decide +kernel
theorem dX8_mayBe_1 : decode cX8_mayBe 1 = .ok (.getfield 31, 3) := by decide +kernel
theorem dX8_mayBe_4 : decode cX8_mayBe 4 = .ok (.iload_n 1, 1) := by decide +kernel
theorem dX8_mayBe_5 : decode cX8_mayBe 5 = .ok (.iaload, 1) := by decide +kernel
theorem dX8_mayBe_6 : decode cX8_mayBe 6 = .ok (.iconst 4, 1) := by decide +kernel
theorem dX8_mayBe_7 : decode cX8_mayBe 7 = .ok (.if_icmp .ne 10, 3) := by decide +kernel
theorem dX8_mayBe_10 : decode cX8_mayBe 10 = .ok (.iload_n 2, 1) := by decide +kernel
theorem dX8_mayBe_11 : decode cX8_mayBe 11 = .ok (.iconst 2, 1) := by decide +kernel
theorem dX8_mayBe_12 : decode cX8_mayBe 12 = .ok (.if_icmp .eq 5, 3) := by decide +kernel
theorem dX8_mayBe_15 : decode cX8_mayBe 15 = .ok (.iconst 0, 1) := by decide +kernel
theorem dX8_mayBe_16 : decode cX8_mayBe 16 = .ok (.ireturn, 1) := by decide +kernel
theorem dX8_mayBe_17 : decode cX8_mayBe 17 = .ok (.iconst 0, 1) := by decide +kernel
theorem dX8_mayBe_18 : decode cX8_mayBe 18 = .ok (.istore_n 3, 1) := by decide +kernel
theorem dX8_mayBe_19 : decode cX8_mayBe 19 = .ok (.iload_n 3, 1) := by decide +kernel
theorem dX8_mayBe_20 : decode cX8_mayBe 20 = .ok (.iload_n 1, 1) := by decide +kernel
theorem dX8_mayBe_21 : decode cX8_mayBe 21 = .ok (.if_icmp .ge 86, 3) := by decide +kernel
theorem dX8_mayBe_24 : decode cX8_mayBe 24 = .ok (.aload_n 0, 1) := by decide +kernel
theorem dX8_mayBe_25 : decode cX8_mayBe 25 = .ok (.getfield 80, 3) := by decide +kernel
theorem dX8_mayBe_28 : decode cX8_mayBe 28 = .ok (.iload_n 3, 1) := by decide +kernel
theorem dX8_mayBe_29 : decode cX8_mayBe 29 = .ok (.iaload, 1) := by decide +kernel
theorem dX8_mayBe_30 : decode cX8_mayBe 30 = .ok (.ifCond .lt 47, 3) := by decide +kernel
theorem dX8_mayBe_33 : decode cX8_mayBe 33 = .ok (.aload_n 0, 1) := by decide +kernel
theorem dX8_mayBe_34 : decode cX8_mayBe 34 = .ok (.getfield 86, 3) := by decide +kernel
theorem dX8_mayBe_37 : decode cX8_mayBe 37 = .ok (.iload_n 3, 1) := by decide +kernel
theorem dX8_mayBe_38 : decode cX8_mayBe 38 = .ok (.iaload, 1) := by decide +kernel
theorem dX8_mayBe_39 : decode cX8_mayBe 39 = .ok (.iload_n 2, 1) := by decide +kernel
theorem dX8_mayBe_40 : decode cX8_mayBe 40 = .ok (.if_icmp .ne 37, 3) := by decide +kernel
theorem dX8_mayBe_43 : decode cX8_mayBe 43 = .ok (.aload_n 0, 1) := by decide +kernel
theorem dX8_mayBe_44 : decode cX8_mayBe 44 = .ok (.getfield 80, 3) := by decide +kernel
theorem dX8_mayBe_47 : decode cX8_mayBe 47 = .ok (.iload_n 3, 1) := by decide +kernel
theorem dX8_mayBe_48 : decode cX8_mayBe 48 = .ok (.iaload, 1) := by decide +kernel
theorem dX8_mayBe_49 : decode cX8_mayBe 49 = .ok (.aload_n 0, 1) := by decide +kernel
theorem dX8_mayBe_50 : decode cX8_mayBe 50 = .ok (.getfield 83, 3) := by decide +kernel
theorem dX8_mayBe_53 : decode cX8_mayBe 53 = .ok (.iload_n 1, 1) := by decide +kernel
theorem dX8_mayBe_54 : decode cX8_mayBe 54 = .ok (.iaload, 1) := by decide +kernel
theorem dX8_mayBe_55 : decode cX8_mayBe 55 = .ok (.if_icmp .gt 22, 3) := by decide +kernel
theorem dX8_mayBe_58 : decode cX8_mayBe 58 = .ok (.aload_n 0, 1) := by decide +kernel
theorem dX8_mayBe_59 : decode cX8_mayBe 59 = .ok (.getfield 80, 3) := by decide +kernel
theorem dX8_mayBe_62 : decode cX8_mayBe 62 = .ok (.iload_n 1, 1) := by decide +kernel
theorem dX8_mayBe_63 : decode cX8_mayBe 63 = .ok (.iaload, 1) := by decide +kernel
theorem dX8_mayBe_64 : decode cX8_mayBe 64 = .ok (.aload_n 0, 1) := by decide +kernel
theorem dX8_mayBe_65 : decode cX8_mayBe 65 = .ok (.getfield 83, 3) := by decide +kernel
theorem dX8_mayBe_68 : decode cX8_mayBe 68 = .ok (.iload_n 3, 1) := by decide +kernel
theorem dX8_mayBe_69 : decode cX8_mayBe 69 = .ok (.iaload, 1) := by decide +kernel
theorem dX8_mayBe_70 : decode cX8_mayBe 70 = .ok (.if_icmp .gt 7, 3) := by decide +kernel
theorem dX8_mayBe_73 : decode cX8_mayBe 73 = .ok (.iconst 1, 1) := by decide +kernel
theorem dX8_mayBe_74 : decode cX8_mayBe 74 = .ok (.goto 4, 3) := by decide +kernel
theorem dX8_mayBe_77 : decode cX8_mayBe 77 = .ok (.iconst 0, 1) := by decide +kernel
theorem dX8_mayBe_78 : decode cX8_mayBe 78 = .ok (.istore 4, 2) := by decide +kernel
theorem dX8_mayBe_80 : decode cX8_mayBe 80 = .ok (.iload 4, 2) := by decide +kernel
theorem dX8_mayBe_82 : decode cX8_mayBe 82 = .ok (.ifCond .eq 19, 3) := by decide +kernel
theorem dX8_mayBe_85 : decode cX8_mayBe 85 = .ok (.aload_n 0, 1) := by decide +kernel
theorem dX8_mayBe_86 : decode cX8_mayBe 86 = .ok (.getfield 37, 3) := by decide +kernel
theorem dX8_mayBe_89 : decode cX8_mayBe 89 = .ok (.iload_n 1, 1) := by decide +kernel
theorem dX8_mayBe_90 : decode cX8_mayBe 90 = .ok (.iaload, 1) := by decide +kernel
theorem dX8_mayBe_91 : decode cX8_mayBe 91 = .ok (.iload_n 3, 1) := by decide +kernel
theorem dX8_mayBe_92 : decode cX8_mayBe 92 = .ok (.ishr, 1) := by decide +kernel
theorem dX8_mayBe_93 : decode cX8_mayBe 93 = .ok (.iconst 1, 1) := by decide +kernel
theorem dX8_mayBe_94 : decode cX8_mayBe 94 = .ok (.iand, 1) := by decide +kernel
theorem dX8_mayBe_95 : decode cX8_mayBe 95 = .ok (.iconst 1, 1) := by decide +kernel
theorem dX8_mayBe_96 : decode cX8_mayBe 96 = .ok (.if_icmp .ne 5, 3) := by decide +kernel
theorem dX8_mayBe_99 : decode cX8_mayBe 99 = .ok (.iconst 0, 1) := by decide +kernel
theorem dX8_mayBe_100 : decode cX8_mayBe 100 = .ok (.ireturn, 1) := by decide +kernel
theorem dX8_mayBe_101 : decode cX8_mayBe 101 = .ok (.iinc 3 1, 3) := by decide +kernel
theorem dX8_mayBe_104 : decode cX8_mayBe 104 = .ok (.goto (-85), 3) := by decide +kernel
theorem dX8_mayBe_107 : decode cX8_mayBe 107 = .ok (.iconst 1, 1) := by decide +kernel
theorem dX8_mayBe_108 : decode cX8_mayBe 108 = .ok (.ireturn, 1) := by decide +kernel
theorem dX8_giveRooms_0 : decode cX8_giveRooms 0 = .ok (.iload_n 1, 1) := by decide +kernel
theorem dX8_giveRooms_1 : decode cX8_giveRooms 1 = .ok (.aload_n 0, 1) := by decide +kernel
theorem dX8_giveRooms_2 : decode cX8_giveRooms 2 = .ok (.getfield 100, 3) := by decide +kernel
theorem dX8_giveRooms_5 : decode cX8_giveRooms 5 = .ok (.if_icmp .ne 5, 3) := by decide +kernel
theorem dX8_giveRooms_8 : decode cX8_giveRooms 8 = .ok (.iconst 1, 1) := by decide +kernel
theorem dX8_giveRooms_9 : decode cX8_giveRooms 9 = .ok (.ireturn, 1) := by decide +kernel
theorem dX8_giveRooms_10 : decode cX8_giveRooms 10 = .ok (.aload_n 0, 1) := by decide +kernel
theorem dX8_giveRooms_11 : decode cX8_giveRooms 11 = .ok (.getfield 80, 3) := by decide +kernel
theorem dX8_giveRooms_14 : decode cX8_giveRooms 14 = .ok (.iload_n 1, 1) := by decide +kernel
theorem dX8_giveRooms_15 : decode cX8_giveRooms 15 = .ok (.iaload, 1) := by decide +kernel
theorem dX8_giveRooms_16 : decode cX8_giveRooms 16 = .ok (.ifCond .ge 11, 3) := by decide +kernel
theorem dX8_giveRooms_19 : decode cX8_giveRooms 19 = .ok (.aload_n 0, 1) := by decide +kernel
theorem dX8_giveRooms_20 : decode cX8_giveRooms 20 = .ok (.iload_n 1, 1) := by decide +kernel
theorem dX8_giveRooms_21 : decode cX8_giveRooms 21 = .ok (.iconst 1, 1) := by decide +kernel
theorem dX8_giveRooms_22 : decode cX8_giveRooms 22 = .ok (.iadd, 1) := by decide +kernel
theorem dX8_giveRooms_23 : decode cX8_giveRooms 23 = .ok (.invokevirtual 180, 3) := by decide +kernel
theorem dX8_giveRooms_26 : decode cX8_giveRooms 26 = .ok (.ireturn, 1) := by decide +kernel
theorem dX8_giveRooms_27 : decode cX8_giveRooms 27 = .ok (.iconst 0, 1) := by decide +kernel
theorem dX8_giveRooms_28 : decode cX8_giveRooms 28 = .ok (.istore_n 2, 1) := by decide +kernel
theorem dX8_giveRooms_29 : decode cX8_giveRooms 29 = .ok (.iload_n 2, 1) := by decide +kernel
theorem dX8_giveRooms_30 : decode cX8_giveRooms 30 = .ok (.iconst 3, 1) := by decide +kernel
theorem dX8_giveRooms_31 : decode cX8_giveRooms 31 = .ok (.if_icmp .ge 37, 3) := by decide +kernel
theorem dX8_giveRooms_34 : decode cX8_giveRooms 34 = .ok (.aload_n 0, 1) := by decide +kernel
theorem dX8_giveRooms_35 : decode cX8_giveRooms 35 = .ok (.iload_n 1, 1) := by decide +kernel
theorem dX8_giveRooms_36 : decode cX8_giveRooms 36 = .ok (.iload_n 2, 1) := by decide +kernel
theorem dX8_giveRooms_37 : decode cX8_giveRooms 37 = .ok (.invokevirtual 183, 3) := by decide +kernel
theorem dX8_giveRooms_40 : decode cX8_giveRooms 40 = .ok (.ifCond .eq 22, 3) := by decide +kernel
theorem dX8_giveRooms_43 : decode cX8_giveRooms 43 = .ok (.aload_n 0, 1) := by decide +kernel
theorem dX8_giveRooms_44 : decode cX8_giveRooms 44 = .ok (.getfield 86, 3) := by decide +kernel
theorem dX8_giveRooms_47 : decode cX8_giveRooms 47 = .ok (.iload_n 1, 1) := by decide +kernel
theorem dX8_giveRooms_48 : decode cX8_giveRooms 48 = .ok (.iload_n 2, 1) := by decide +kernel
theorem dX8_giveRooms_49 : decode cX8_giveRooms 49 = .ok (.iastore, 1) := by decide +kernel
theorem dX8_giveRooms_50 : decode cX8_giveRooms 50 = .ok (.aload_n 0, 1) := by decide +kernel
theorem dX8_giveRooms_51 : decode cX8_giveRooms 51 = .ok (.iload_n 1, 1) := by decide +kernel
theorem dX8_giveRooms_52 : decode cX8_giveRooms 52 = .ok (.iconst 1, 1) := by decide +kernel
theorem dX8_giveRooms_53 : decode cX8_giveRooms 53 = .ok (.iadd, 1) := by decide +kernel
theorem dX8_giveRooms_54 : decode cX8_giveRooms 54 = .ok (.invokevirtual 180, 3) := by decide +kernel
theorem dX8_giveRooms_57 : decode cX8_giveRooms 57 = .ok (.ifCond .eq 5, 3) := by decide +kernel
theorem dX8_giveRooms_60 : decode cX8_giveRooms 60 = .ok (.iconst 1, 1) := by decide +kernel
theorem dX8_giveRooms_61 : decode cX8_giveRooms 61 = .ok (.ireturn, 1) := by decide +kernel
theorem dX8_giveRooms_62 : decode cX8_giveRooms 62 = .ok (.iinc 2 1, 3) := by decide +kernel
theorem dX8_giveRooms_65 : decode cX8_giveRooms 65 = .ok (.goto (-36), 3) := by decide +kernel
theorem dX8_giveRooms_68 : decode cX8_giveRooms 68 = .ok (.iconst 0, 1) := by decide +kernel
theorem dX8_giveRooms_69 : decode cX8_giveRooms 69 = .ok (.ireturn, 1) := by decide +kernel
theorem dX8_room_0 : decode cX8_room 0 = .ok (.aload_n 0, 1) := by decide +kernel
theorem dX8_room_1 : decode cX8_room 1 = .ok (.iload_n 1, 1) := by decide +kernel
theorem dX8_room_2 : decode cX8_room 2 = .ok (.invokevirtual 115, 3) := by decide +kernel
theorem dX8_room_5 : decode cX8_room 5 = .ok (.ifCond .ne 7, 3) := by decide +kernel
theorem dX8_room_8 : decode cX8_room 8 = .ok (.ldc2_w 107, 3) := by decide +kernel
theorem dX8_room_11 : decode cX8_room 11 = .ok (.lreturn, 1) := by decide +kernel
theorem dX8_room_12 : decode cX8_room 12 = .ok (.aload_n 0, 1) := by decide +kernel
theorem dX8_room_13 : decode cX8_room 13 = .ok (.invokevirtual 166, 3) := by decide +kernel
theorem dX8_room_16 : decode cX8_room 16 = .ok (.iconst 0, 1) := by decide +kernel
theorem dX8_room_17 : decode cX8_room 17 = .ok (.istore_n 2, 1) := by decide +kernel
theorem dX8_room_18 : decode cX8_room 18 = .ok (.iload_n 2, 1) := by decide +kernel
theorem dX8_room_19 : decode cX8_room 19 = .ok (.aload_n 0, 1) := by decide +kernel
theorem dX8_room_20 : decode cX8_room 20 = .ok (.getfield 100, 3) := by decide +kernel
theorem dX8_room_23 : decode cX8_room 23 = .ok (.if_icmp .ge 14, 3) := by decide +kernel
theorem dX8_room_26 : decode cX8_room 26 = .ok (.aload_n 0, 1) := by decide +kernel
theorem dX8_room_27 : decode cX8_room 27 = .ok (.iload_n 2, 1) := by decide +kernel
theorem dX8_room_28 : decode cX8_room 28 = .ok (.invokevirtual 186, 3) := by decide +kernel
theorem dX8_room_31 : decode cX8_room 31 = .ok (.iinc 2 1, 3) := by decide +kernel
theorem dX8_room_34 : decode cX8_room 34 = .ok (.goto (-16), 3) := by decide +kernel
theorem dX8_room_37 : decode cX8_room 37 = .ok (.aload_n 0, 1) := by decide +kernel
theorem dX8_room_38 : decode cX8_room 38 = .ok (.iconst 0, 1) := by decide +kernel
theorem dX8_room_39 : decode cX8_room 39 = .ok (.invokevirtual 180, 3) := by decide +kernel
theorem dX8_room_42 : decode cX8_room 42 = .ok (.ifCond .ne 7, 3) := by decide +kernel
theorem dX8_room_45 : decode cX8_room 45 = .ok (.ldc2_w 145, 3) := by decide +kernel
theorem dX8_room_48 : decode cX8_room 48 = .ok (.lreturn, 1) := by decide +kernel
theorem dX8_room_49 : decode cX8_room 49 = .ok (.aload_n 0, 1) := by decide +kernel
theorem dX8_room_50 : decode cX8_room 50 = .ok (.getfield 80, 3) := by decide +kernel
theorem dX8_room_53 : decode cX8_room 53 = .ok (.iload_n 1, 1) := by decide +kernel
theorem dX8_room_54 : decode cX8_room 54 = .ok (.iaload, 1) := by decide +kernel
theorem dX8_room_55 : decode cX8_room 55 = .ok (.ifCond .ge 9, 3) := by decide +kernel
theorem dX8_room_58 : decode cX8_room 58 = .ok (.ldc2_w 129, 3) := by decide +kernel
theorem dX8_room_61 : decode cX8_room 61 = .ok (.goto 10, 3) := by decide +kernel
theorem dX8_room_64 : decode cX8_room 64 = .ok (.aload_n 0, 1) := by decide +kernel
theorem dX8_room_65 : decode cX8_room 65 = .ok (.getfield 86, 3) := by decide +kernel
theorem dX8_room_68 : decode cX8_room 68 = .ok (.iload_n 1, 1) := by decide +kernel
theorem dX8_room_69 : decode cX8_room 69 = .ok (.iaload, 1) := by decide +kernel
theorem dX8_room_70 : decode cX8_room 70 = .ok (.i2l, 1) := by decide +kernel
theorem dX8_room_71 : decode cX8_room 71 = .ok (.lreturn, 1) := by decide +kernel
theorem dX8_notify_0 : decode cX8_notify 0 = .ok (.iconst 0, 1) := by decide +kernel
theorem dX8_notify_1 : decode cX8_notify 1 = .ok (.istore_n 3, 1) := by decide +kernel
theorem dX8_notify_2 : decode cX8_notify 2 = .ok (.iload_n 3, 1) := by decide +kernel
theorem dX8_notify_3 : decode cX8_notify 3 = .ok (.aload_n 0, 1) := by decide +kernel
theorem dX8_notify_4 : decode cX8_notify 4 = .ok (.getfield 189, 3) := by decide +kernel
theorem dX8_notify_7 : decode cX8_notify 7 = .ok (.if_icmp .ge 39, 3) := by decide +kernel
theorem dX8_notify_10 : decode cX8_notify 10 = .ok (.aload_n 0, 1) := by decide +kernel
theorem dX8_notify_11 : decode cX8_notify 11 = .ok (.getfield 46, 3) := by decide +kernel
theorem dX8_notify_14 : decode cX8_notify 14 = .ok (.iload_n 3, 1) := by decide +kernel
theorem dX8_notify_15 : decode cX8_notify 15 = .ok (.iaload, 1) := by decide +kernel
theorem dX8_notify_16 : decode cX8_notify 16 = .ok (.iload_n 1, 1) := by decide +kernel
theorem dX8_notify_17 : decode cX8_notify 17 = .ok (.if_icmp .ne 23, 3) := by decide +kernel
theorem dX8_notify_20 : decode cX8_notify 20 = .ok (.aload_n 0, 1) := by decide +kernel
theorem dX8_notify_21 : decode cX8_notify 21 = .ok (.getfield 49, 3) := by decide +kernel
theorem dX8_notify_24 : decode cX8_notify 24 = .ok (.iload_n 3, 1) := by decide +kernel
theorem dX8_notify_25 : decode cX8_notify 25 = .ok (.iaload, 1) := by decide +kernel
theorem dX8_notify_26 : decode cX8_notify 26 = .ok (.iload_n 2, 1) := by decide +kernel
theorem dX8_notify_27 : decode cX8_notify 27 = .ok (.if_icmp .ne 13, 3) := by decide +kernel
theorem dX8_notify_30 : decode cX8_notify 30 = .ok (.aload_n 0, 1) := by decide +kernel
theorem dX8_notify_31 : decode cX8_notify 31 = .ok (.getfield 52, 3) := by decide +kernel
theorem dX8_notify_34 : decode cX8_notify 34 = .ok (.iload_n 3, 1) := by decide +kernel
theorem dX8_notify_35 : decode cX8_notify 35 = .ok (.iaload, 1) := by decide +kernel
theorem dX8_notify_36 : decode cX8_notify 36 = .ok (.ifCond .ne 4, 3) := by decide +kernel
theorem dX8_notify_39 : decode cX8_notify 39 = .ok (.return_, 1) := by decide +kernel
theorem dX8_notify_40 : decode cX8_notify 40 = .ok (.iinc 3 1, 3) := by decide +kernel
theorem dX8_notify_43 : decode cX8_notify 43 = .ok (.goto (-41), 3) := by decide +kernel
theorem dX8_notify_46 : decode cX8_notify 46 = .ok (.aload_n 0, 1) := by decide +kernel
theorem dX8_notify_47 : decode cX8_notify 47 = .ok (.getfield 189, 3) := by decide +kernel
theorem dX8_notify_50 : decode cX8_notify 50 = .ok (.bipush 60, 2) := by decide +kernel
theorem dX8_notify_52 : decode cX8_notify 52 = .ok (.if_icmp .ge 43, 3) := by decide +kernel
theorem dX8_notify_55 : decode cX8_notify 55 = .ok (.aload_n 0, 1) := by decide +kernel
theorem dX8_notify_56 : decode cX8_notify 56 = .ok (.getfield 46, 3) := by decide +kernel
theorem dX8_notify_59 : decode cX8_notify 59 = .ok (.aload_n 0, 1) := by decide +kernel
theorem dX8_notify_60 : decode cX8_notify 60 = .ok (.getfield 189, 3) := by decide +kernel
theorem dX8_notify_63 : decode cX8_notify 63 = .ok (.iload_n 1, 1) := by decide +kernel
theorem dX8_notify_64 : decode cX8_notify 64 = .ok (.iastore, 1) := by decide +kernel
theorem dX8_notify_65 : decode cX8_notify 65 = .ok (.aload_n 0, 1) := by decide +kernel
theorem dX8_notify_66 : decode cX8_notify 66 = .ok (.getfield 49, 3) := by decide +kernel
theorem dX8_notify_69 : decode cX8_notify 69 = .ok (.aload_n 0, 1) := by decide +kernel
theorem dX8_notify_70 : decode cX8_notify 70 = .ok (.getfield 189, 3) := by decide +kernel
theorem dX8_notify_73 : decode cX8_notify 73 = .ok (.iload_n 2, 1) := by decide +kernel
theorem dX8_notify_74 : decode cX8_notify 74 = .ok (.iastore, 1) := by decide +kernel
theorem dX8_notify_75 : decode cX8_notify 75 = .ok (.aload_n 0, 1) := by decide +kernel
theorem dX8_notify_76 : decode cX8_notify 76 = .ok (.getfield 52, 3) := by decide +kernel
theorem dX8_notify_79 : decode cX8_notify 79 = .ok (.aload_n 0, 1) := by decide +kernel
theorem dX8_notify_80 : decode cX8_notify 80 = .ok (.getfield 189, 3) := by decide +kernel
theorem dX8_notify_83 : decode cX8_notify 83 = .ok (.iconst 0, 1) := by decide +kernel
theorem dX8_notify_84 : decode cX8_notify 84 = .ok (.iastore, 1) := by decide +kernel
theorem dX8_notify_85 : decode cX8_notify 85 = .ok (.aload_n 0, 1) := by decide +kernel
theorem dX8_notify_86 : decode cX8_notify 86 = .ok (.dup, 1) := by decide +kernel
theorem dX8_notify_87 : decode cX8_notify 87 = .ok (.getfield 189, 3) := by decide +kernel
theorem dX8_notify_90 : decode cX8_notify 90 = .ok (.iconst 1, 1) := by decide +kernel
theorem dX8_notify_91 : decode cX8_notify 91 = .ok (.iadd, 1) := by decide +kernel
theorem dX8_notify_92 : decode cX8_notify 92 = .ok (.putfield 189, 3) := by decide +kernel
theorem dX8_notify_95 : decode cX8_notify 95 = .ok (.return_, 1) := by decide +kernel
theorem dX8_move_0 : decode cX8_move 0 = .ok (.aload_n 0, 1) := by decide +kernel
theorem dX8_move_1 : decode cX8_move 1 = .ok (.iload_n 1, 1) := by decide +kernel
theorem dX8_move_2 : decode cX8_move 2 = .ok (.invokevirtual 118, 3) := by decide +kernel
theorem dX8_move_5 : decode cX8_move 5 = .ok (.ifCond .eq 10, 3) := by decide +kernel
theorem dX8_move_8 : decode cX8_move 8 = .ok (.iload_n 2, 1) := by decide +kernel
theorem dX8_move_9 : decode cX8_move 9 = .ok (.invokestatic 103, 3) := by decide +kernel
theorem dX8_move_12 : decode cX8_move 12 = .ok (.ifCond .ne 7, 3) := by decide +kernel
theorem dX8_move_15 : decode cX8_move 15 = .ok (.ldc2_w 107, 3) := by decide +kernel
theorem dX8_move_18 : decode cX8_move 18 = .ok (.lreturn, 1) := by decide +kernel
theorem dX8_move_19 : decode cX8_move 19 = .ok (.iload_n 2, 1) := by decide +kernel
theorem dX8_move_20 : decode cX8_move 20 = .ok (.aload_n 0, 1) := by decide +kernel
theorem dX8_move_21 : decode cX8_move 21 = .ok (.getfield 16, 3) := by decide +kernel
theorem dX8_move_24 : decode cX8_move 24 = .ok (.iload_n 1, 1) := by decide +kernel
theorem dX8_move_25 : decode cX8_move 25 = .ok (.iaload, 1) := by decide +kernel
theorem dX8_move_26 : decode cX8_move 26 = .ok (.if_icmp .eq 18, 3) := by decide +kernel
theorem dX8_move_29 : decode cX8_move 29 = .ok (.aload_n 0, 1) := by decide +kernel
theorem dX8_move_30 : decode cX8_move 30 = .ok (.getfield 7, 3) := by decide +kernel
theorem dX8_move_33 : decode cX8_move 33 = .ok (.iload_n 2, 1) := by decide +kernel
theorem dX8_move_34 : decode cX8_move 34 = .ok (.iaload, 1) := by decide +kernel
theorem dX8_move_35 : decode cX8_move 35 = .ok (.bipush 6, 2) := by decide +kernel
theorem dX8_move_37 : decode cX8_move 37 = .ok (.if_icmp .ne 7, 3) := by decide +kernel
theorem dX8_move_40 : decode cX8_move 40 = .ok (.ldc2_w 109, 3) := by decide +kernel
theorem dX8_move_43 : decode cX8_move 43 = .ok (.lreturn, 1) := by decide +kernel
theorem dX8_move_44 : decode cX8_move 44 = .ok (.aload_n 0, 1) := by decide +kernel
theorem dX8_move_45 : decode cX8_move 45 = .ok (.getfield 16, 3) := by decide +kernel
theorem dX8_move_48 : decode cX8_move 48 = .ok (.iload_n 1, 1) := by decide +kernel
theorem dX8_move_49 : decode cX8_move 49 = .ok (.iaload, 1) := by decide +kernel
theorem dX8_move_50 : decode cX8_move 50 = .ok (.istore_n 3, 1) := by decide +kernel
theorem dX8_move_51 : decode cX8_move 51 = .ok (.aload_n 0, 1) := by decide +kernel
theorem dX8_move_52 : decode cX8_move 52 = .ok (.getfield 7, 3) := by decide +kernel
theorem dX8_move_55 : decode cX8_move 55 = .ok (.iload_n 3, 1) := by decide +kernel
theorem dX8_move_56 : decode cX8_move 56 = .ok (.dup2, 1) := by decide +kernel
theorem dX8_move_57 : decode cX8_move 57 = .ok (.iaload, 1) := by decide +kernel
theorem dX8_move_58 : decode cX8_move 58 = .ok (.iconst 1, 1) := by decide +kernel
theorem dX8_move_59 : decode cX8_move 59 = .ok (.isub, 1) := by decide +kernel
theorem dX8_move_60 : decode cX8_move 60 = .ok (.iastore, 1) := by decide +kernel
theorem dX8_move_61 : decode cX8_move 61 = .ok (.aload_n 0, 1) := by decide +kernel
theorem dX8_move_62 : decode cX8_move 62 = .ok (.iload_n 1, 1) := by decide +kernel
theorem dX8_move_63 : decode cX8_move 63 = .ok (.invokevirtual 125, 3) := by decide +kernel
theorem dX8_move_66 : decode cX8_move 66 = .ok (.istore 4, 2) := by decide +kernel
theorem dX8_move_68 : decode cX8_move 68 = .ok (.iload 4, 2) := by decide +kernel
theorem dX8_move_70 : decode cX8_move 70 = .ok (.aload_n 0, 1) := by decide +kernel
theorem dX8_move_71 : decode cX8_move 71 = .ok (.getfield 7, 3) := by decide +kernel
theorem dX8_move_74 : decode cX8_move 74 = .ok (.iload_n 3, 1) := by decide +kernel
theorem dX8_move_75 : decode cX8_move 75 = .ok (.iaload, 1) := by decide +kernel
theorem dX8_move_76 : decode cX8_move 76 = .ok (.if_icmp .ge 35, 3) := by decide +kernel
theorem dX8_move_79 : decode cX8_move 79 = .ok (.aload_n 0, 1) := by decide +kernel
theorem dX8_move_80 : decode cX8_move 80 = .ok (.getfield 13, 3) := by decide +kernel
theorem dX8_move_83 : decode cX8_move 83 = .ok (.bipush 6, 2) := by decide +kernel
theorem dX8_move_85 : decode cX8_move 85 = .ok (.iload_n 3, 1) := by decide +kernel
theorem dX8_move_86 : decode cX8_move 86 = .ok (.imul, 1) := by decide +kernel
theorem dX8_move_87 : decode cX8_move 87 = .ok (.iload 4, 2) := by decide +kernel
theorem dX8_move_89 : decode cX8_move 89 = .ok (.iadd, 1) := by decide +kernel
theorem dX8_move_90 : decode cX8_move 90 = .ok (.aload_n 0, 1) := by decide +kernel
theorem dX8_move_91 : decode cX8_move 91 = .ok (.getfield 13, 3) := by decide +kernel
theorem dX8_move_94 : decode cX8_move 94 = .ok (.bipush 6, 2) := by decide +kernel
theorem dX8_move_96 : decode cX8_move 96 = .ok (.iload_n 3, 1) := by decide +kernel
theorem dX8_move_97 : decode cX8_move 97 = .ok (.imul, 1) := by decide +kernel
theorem dX8_move_98 : decode cX8_move 98 = .ok (.iload 4, 2) := by decide +kernel
theorem dX8_move_100 : decode cX8_move 100 = .ok (.iadd, 1) := by decide +kernel
theorem dX8_move_101 : decode cX8_move 101 = .ok (.iconst 1, 1) := by decide +kernel
theorem dX8_move_102 : decode cX8_move 102 = .ok (.iadd, 1) := by decide +kernel
theorem dX8_move_103 : decode cX8_move 103 = .ok (.iaload, 1) := by decide +kernel
theorem dX8_move_104 : decode cX8_move 104 = .ok (.iastore, 1) := by decide +kernel
theorem dX8_move_105 : decode cX8_move 105 = .ok (.iinc 4 1, 3) := by decide +kernel
theorem dX8_move_108 : decode cX8_move 108 = .ok (.goto (-40), 3) := by decide +kernel
theorem dX8_move_111 : decode cX8_move 111 = .ok (.aload_n 0, 1) := by decide +kernel
theorem dX8_move_112 : decode cX8_move 112 = .ok (.iload_n 1, 1) := by decide +kernel
theorem dX8_move_113 : decode cX8_move 113 = .ok (.iload_n 2, 1) := by decide +kernel
theorem dX8_move_114 : decode cX8_move 114 = .ok (.invokevirtual 111, 3) := by decide +kernel
theorem dX8_move_117 : decode cX8_move 117 = .ok (.iconst 0, 1) := by decide +kernel
theorem dX8_move_118 : decode cX8_move 118 = .ok (.istore 4, 2) := by decide +kernel
theorem dX8_move_120 : decode cX8_move 120 = .ok (.iload 4, 2) := by decide +kernel
theorem dX8_move_122 : decode cX8_move 122 = .ok (.aload_n 0, 1) := by decide +kernel
theorem dX8_move_123 : decode cX8_move 123 = .ok (.getfield 100, 3) := by decide +kernel
theorem dX8_move_126 : decode cX8_move 126 = .ok (.if_icmp .ge 26, 3) := by decide +kernel
theorem dX8_move_129 : decode cX8_move 129 = .ok (.aload_n 0, 1) := by decide +kernel
theorem dX8_move_130 : decode cX8_move 130 = .ok (.iload_n 1, 1) := by decide +kernel
theorem dX8_move_131 : decode cX8_move 131 = .ok (.iload 4, 2) := by decide +kernel
theorem dX8_move_133 : decode cX8_move 133 = .ok (.invokevirtual 121, 3) := by decide +kernel
theorem dX8_move_136 : decode cX8_move 136 = .ok (.ifCond .eq 10, 3) := by decide +kernel
theorem dX8_move_139 : decode cX8_move 139 = .ok (.aload_n 0, 1) := by decide +kernel
theorem dX8_move_140 : decode cX8_move 140 = .ok (.iload 4, 2) := by decide +kernel
theorem dX8_move_142 : decode cX8_move 142 = .ok (.iload_n 1, 1) := by decide +kernel
theorem dX8_move_143 : decode cX8_move 143 = .ok (.invokevirtual 192, 3) := by decide +kernel
theorem dX8_move_146 : decode cX8_move 146 = .ok (.iinc 4 1, 3) := by decide +kernel
theorem dX8_move_149 : decode cX8_move 149 = .ok (.goto (-29), 3) := by decide +kernel
theorem dX8_move_152 : decode cX8_move 152 = .ok (.aload_n 0, 1) := by decide +kernel
theorem dX8_move_153 : decode cX8_move 153 = .ok (.getfield 7, 3) := by decide +kernel
theorem dX8_move_156 : decode cX8_move 156 = .ok (.iload_n 2, 1) := by decide +kernel
theorem dX8_move_157 : decode cX8_move 157 = .ok (.iaload, 1) := by decide +kernel
theorem dX8_move_158 : decode cX8_move 158 = .ok (.iconst 1, 1) := by decide +kernel
theorem dX8_move_159 : decode cX8_move 159 = .ok (.isub, 1) := by decide +kernel
theorem dX8_move_160 : decode cX8_move 160 = .ok (.i2l, 1) := by decide +kernel
theorem dX8_move_161 : decode cX8_move 161 = .ok (.lreturn, 1) := by decide +kernel
theorem dX8_notice_0 : decode cX8_notice 0 = .ok (.iload_n 1, 1) := by decide +kernel
theorem dX8_notice_1 : decode cX8_notice 1 = .ok (.iconst 0, 1) := by decide +kernel
theorem dX8_notice_2 : decode cX8_notice 2 = .ok (.aload_n 0, 1) := by decide +kernel
theorem dX8_notice_3 : decode cX8_notice 3 = .ok (.getfield 189, 3) := by decide +kernel
theorem dX8_notice_6 : decode cX8_notice 6 = .ok (.iconst 1, 1) := by decide +kernel
theorem dX8_notice_7 : decode cX8_notice 7 = .ok (.isub, 1) := by decide +kernel
theorem dX8_notice_8 : decode cX8_notice 8 = .ok (.invokestatic 92, 3) := by decide +kernel
theorem dX8_notice_11 : decode cX8_notice 11 = .ok (.ifCond .eq 12, 3) := by decide +kernel
theorem dX8_notice_14 : decode cX8_notice 14 = .ok (.iload_n 2, 1) := by decide +kernel
theorem dX8_notice_15 : decode cX8_notice 15 = .ok (.iconst 0, 1) := by decide +kernel
theorem dX8_notice_16 : decode cX8_notice 16 = .ok (.iconst 2, 1) := by decide +kernel
theorem dX8_notice_17 : decode cX8_notice 17 = .ok (.invokestatic 92, 3) := by decide +kernel
theorem dX8_notice_20 : decode cX8_notice 20 = .ok (.ifCond .ne 7, 3) := by decide +kernel
theorem dX8_notice_23 : decode cX8_notice 23 = .ok (.ldc2_w 107, 3) := by decide +kernel
theorem dX8_notice_26 : decode cX8_notice 26 = .ok (.lreturn, 1) := by decide +kernel
theorem dX8_notice_27 : decode cX8_notice 27 = .ok (.iload_n 2, 1) := by decide +kernel
theorem dX8_notice_28 : decode cX8_notice 28 = .ok (.ifCond .ne 13, 3) := by decide +kernel
theorem dX8_notice_31 : decode cX8_notice 31 = .ok (.aload_n 0, 1) := by decide +kernel
theorem dX8_notice_32 : decode cX8_notice 32 = .ok (.getfield 46, 3) := by decide +kernel
theorem dX8_notice_35 : decode cX8_notice 35 = .ok (.iload_n 1, 1) := by decide +kernel
theorem dX8_notice_36 : decode cX8_notice 36 = .ok (.iaload, 1) := by decide +kernel
theorem dX8_notice_37 : decode cX8_notice 37 = .ok (.i2l, 1) := by decide +kernel
theorem dX8_notice_38 : decode cX8_notice 38 = .ok (.goto 25, 3) := by decide +kernel
theorem dX8_notice_41 : decode cX8_notice 41 = .ok (.iload_n 2, 1) := by decide +kernel
theorem dX8_notice_42 : decode cX8_notice 42 = .ok (.iconst 1, 1) := by decide +kernel
theorem dX8_notice_43 : decode cX8_notice 43 = .ok (.if_icmp .ne 13, 3) := by decide +kernel
theorem dX8_notice_46 : decode cX8_notice 46 = .ok (.aload_n 0, 1) := by decide +kernel
theorem dX8_notice_47 : decode cX8_notice 47 = .ok (.getfield 49, 3) := by decide +kernel
theorem dX8_notice_50 : decode cX8_notice 50 = .ok (.iload_n 1, 1) := by decide +kernel
theorem dX8_notice_51 : decode cX8_notice 51 = .ok (.iaload, 1) := by decide +kernel
theorem dX8_notice_52 : decode cX8_notice 52 = .ok (.i2l, 1) := by decide +kernel
theorem dX8_notice_53 : decode cX8_notice 53 = .ok (.goto 10, 3) := by decide +kernel
theorem dX8_notice_56 : decode cX8_notice 56 = .ok (.aload_n 0, 1) := by decide +kernel
theorem dX8_notice_57 : decode cX8_notice 57 = .ok (.getfield 52, 3) := by decide +kernel
theorem dX8_notice_60 : decode cX8_notice 60 = .ok (.iload_n 1, 1) := by decide +kernel
theorem dX8_notice_61 : decode cX8_notice 61 = .ok (.iaload, 1) := by decide +kernel
theorem dX8_notice_62 : decode cX8_notice 62 = .ok (.i2l, 1) := by decide +kernel
theorem dX8_notice_63 : decode cX8_notice 63 = .ok (.lreturn, 1) := by decide +kernel
theorem dX8_read_0 : decode cX8_read 0 = .ok (.aload_n 0, 1) := by decide +kernel
theorem dX8_read_1 : decode cX8_read 1 = .ok (.iload_n 1, 1) := by decide +kernel
theorem dX8_read_2 : decode cX8_read 2 = .ok (.invokevirtual 115, 3) := by decide +kernel
theorem dX8_read_5 : decode cX8_read 5 = .ok (.ifCond .ne 7, 3) := by decide +kernel
theorem dX8_read_8 : decode cX8_read 8 = .ok (.ldc2_w 107, 3) := by decide +kernel
theorem dX8_read_11 : decode cX8_read 11 = .ok (.lreturn, 1) := by decide +kernel
theorem dX8_read_12 : decode cX8_read 12 = .ok (.iconst 0, 1) := by decide +kernel
theorem dX8_read_13 : decode cX8_read 13 = .ok (.istore_n 2, 1) := by decide +kernel
theorem dX8_read_14 : decode cX8_read 14 = .ok (.iconst 0, 1) := by decide +kernel
theorem dX8_read_15 : decode cX8_read 15 = .ok (.istore_n 3, 1) := by decide +kernel
theorem dX8_read_16 : decode cX8_read 16 = .ok (.iload_n 3, 1) := by decide +kernel
theorem dX8_read_17 : decode cX8_read 17 = .ok (.aload_n 0, 1) := by decide +kernel
theorem dX8_read_18 : decode cX8_read 18 = .ok (.getfield 189, 3) := by decide +kernel
theorem dX8_read_21 : decode cX8_read 21 = .ok (.if_icmp .ge 38, 3) := by decide +kernel
theorem dX8_read_24 : decode cX8_read 24 = .ok (.aload_n 0, 1) := by decide +kernel
theorem dX8_read_25 : decode cX8_read 25 = .ok (.getfield 46, 3) := by decide +kernel
theorem dX8_read_28 : decode cX8_read 28 = .ok (.iload_n 3, 1) := by decide +kernel
theorem dX8_read_29 : decode cX8_read 29 = .ok (.iaload, 1) := by decide +kernel
theorem dX8_read_30 : decode cX8_read 30 = .ok (.iload_n 1, 1) := by decide +kernel
theorem dX8_read_31 : decode cX8_read 31 = .ok (.if_icmp .ne 22, 3) := by decide +kernel
theorem dX8_read_34 : decode cX8_read 34 = .ok (.aload_n 0, 1) := by decide +kernel
theorem dX8_read_35 : decode cX8_read 35 = .ok (.getfield 52, 3) := by decide +kernel
theorem dX8_read_38 : decode cX8_read 38 = .ok (.iload_n 3, 1) := by decide +kernel
theorem dX8_read_39 : decode cX8_read 39 = .ok (.iaload, 1) := by decide +kernel
theorem dX8_read_40 : decode cX8_read 40 = .ok (.ifCond .ne 13, 3) := by decide +kernel
theorem dX8_read_43 : decode cX8_read 43 = .ok (.aload_n 0, 1) := by decide +kernel
theorem dX8_read_44 : decode cX8_read 44 = .ok (.getfield 52, 3) := by decide +kernel
theorem dX8_read_47 : decode cX8_read 47 = .ok (.iload_n 3, 1) := by decide +kernel
theorem dX8_read_48 : decode cX8_read 48 = .ok (.iconst 1, 1) := by decide +kernel
theorem dX8_read_49 : decode cX8_read 49 = .ok (.iastore, 1) := by decide +kernel
theorem dX8_read_50 : decode cX8_read 50 = .ok (.iinc 2 1, 3) := by decide +kernel
theorem dX8_read_53 : decode cX8_read 53 = .ok (.iinc 3 1, 3) := by decide +kernel
theorem dX8_read_56 : decode cX8_read 56 = .ok (.goto (-40), 3) := by decide +kernel
theorem dX8_read_59 : decode cX8_read 59 = .ok (.iload_n 2, 1) := by decide +kernel
theorem dX8_read_60 : decode cX8_read 60 = .ok (.i2l, 1) := by decide +kernel
theorem dX8_read_61 : decode cX8_read 61 = .ok (.lreturn, 1) := by decide +kernel
theorem dX8_isSheet_0 : decode cX8_isSheet 0 = .ok (.iload_n 0, 1) := by decide +kernel
theorem dX8_isSheet_1 : decode cX8_isSheet 1 = .ok (.iconst 0, 1) := by decide +kernel
theorem dX8_isSheet_2 : decode cX8_isSheet 2 = .ok (.iconst 1, 1) := by decide +kernel
theorem dX8_isSheet_3 : decode cX8_isSheet 3 = .ok (.invokestatic 92, 3) := by decide +kernel
theorem dX8_isSheet_6 : decode cX8_isSheet 6 = .ok (.ireturn, 1) := by decide +kernel
theorem dX8_sheet_0 : decode cX8_sheet 0 = .ok (.iload_n 1, 1) := by decide +kernel
theorem dX8_sheet_1 : decode cX8_sheet 1 = .ok (.invokestatic 195, 3) := by decide +kernel
theorem dX8_sheet_4 : decode cX8_sheet 4 = .ok (.ifCond .eq 9, 3) := by decide +kernel
theorem dX8_sheet_7 : decode cX8_sheet 7 = .ok (.iload_n 2, 1) := by decide +kernel
theorem dX8_sheet_8 : decode cX8_sheet 8 = .ok (.bipush 12, 2) := by decide +kernel
theorem dX8_sheet_10 : decode cX8_sheet 10 = .ok (.if_icmp .le 7, 3) := by decide +kernel
theorem dX8_sheet_13 : decode cX8_sheet 13 = .ok (.ldc2_w 107, 3) := by decide +kernel
theorem dX8_sheet_16 : decode cX8_sheet 16 = .ok (.lreturn, 1) := by decide +kernel
theorem dX8_sheet_17 : decode cX8_sheet 17 = .ok (.iload_n 2, 1) := by decide +kernel
theorem dX8_sheet_18 : decode cX8_sheet 18 = .ok (.ifCond .ge 7, 3) := by decide +kernel
theorem dX8_sheet_21 : decode cX8_sheet 21 = .ok (.ldc2_w 198, 3) := by decide +kernel
theorem dX8_sheet_24 : decode cX8_sheet 24 = .ok (.lreturn, 1) := by decide +kernel
theorem dX8_sheet_25 : decode cX8_sheet 25 = .ok (.aload_n 0, 1) := by decide +kernel
theorem dX8_sheet_26 : decode cX8_sheet 26 = .ok (.getfield 55, 3) := by decide +kernel
theorem dX8_sheet_29 : decode cX8_sheet 29 = .ok (.iload_n 1, 1) := by decide +kernel
theorem dX8_sheet_30 : decode cX8_sheet 30 = .ok (.iload_n 2, 1) := by decide +kernel
theorem dX8_sheet_31 : decode cX8_sheet 31 = .ok (.iastore, 1) := by decide +kernel
theorem dX8_sheet_32 : decode cX8_sheet 32 = .ok (.iconst 0, 1) := by decide +kernel
theorem dX8_sheet_33 : decode cX8_sheet 33 = .ok (.istore_n 3, 1) := by decide +kernel
theorem dX8_sheet_34 : decode cX8_sheet 34 = .ok (.iload_n 3, 1) := by decide +kernel
theorem dX8_sheet_35 : decode cX8_sheet 35 = .ok (.iload_n 2, 1) := by decide +kernel
theorem dX8_sheet_36 : decode cX8_sheet 36 = .ok (.if_icmp .ge 21, 3) := by decide +kernel
theorem dX8_sheet_39 : decode cX8_sheet 39 = .ok (.aload_n 0, 1) := by decide +kernel
theorem dX8_sheet_40 : decode cX8_sheet 40 = .ok (.getfield 58, 3) := by decide +kernel
theorem dX8_sheet_43 : decode cX8_sheet 43 = .ok (.bipush 12, 2) := by decide +kernel
theorem dX8_sheet_45 : decode cX8_sheet 45 = .ok (.iload_n 1, 1) := by decide +kernel
theorem dX8_sheet_46 : decode cX8_sheet 46 = .ok (.imul, 1) := by decide +kernel
theorem dX8_sheet_47 : decode cX8_sheet 47 = .ok (.iload_n 3, 1) := by decide +kernel
theorem dX8_sheet_48 : decode cX8_sheet 48 = .ok (.iadd, 1) := by decide +kernel
theorem dX8_sheet_49 : decode cX8_sheet 49 = .ok (.iconst 0, 1) := by decide +kernel
theorem dX8_sheet_50 : decode cX8_sheet 50 = .ok (.iastore, 1) := by decide +kernel
theorem dX8_sheet_51 : decode cX8_sheet 51 = .ok (.iinc 3 1, 3) := by decide +kernel
theorem dX8_sheet_54 : decode cX8_sheet 54 = .ok (.goto (-20), 3) := by decide +kernel
theorem dX8_sheet_57 : decode cX8_sheet 57 = .ok (.iload_n 2, 1) := by decide +kernel
theorem dX8_sheet_58 : decode cX8_sheet 58 = .ok (.i2l, 1) := by decide +kernel
theorem dX8_sheet_59 : decode cX8_sheet 59 = .ok (.lreturn, 1) := by decide +kernel
theorem dX8_mark_0 : decode cX8_mark 0 = .ok (.iload_n 1, 1) := by decide +kernel
theorem dX8_mark_1 : decode cX8_mark 1 = .ok (.invokestatic 195, 3) := by decide +kernel
theorem dX8_mark_4 : decode cX8_mark 4 = .ok (.ifCond .ne 7, 3) := by decide +kernel
