theorem dX8_mark_7 : decode cX8_mark 7 = .ok (.ldc2_w 107, 3) := by decide +kernel
theorem dX8_mark_10 : decode cX8_mark 10 = .ok (.lreturn, 1) := by decide +kernel
theorem dX8_mark_11 : decode cX8_mark 11 = .ok (.aload_n 0, 1) := by decide +kernel
theorem dX8_mark_12 : decode cX8_mark 12 = .ok (.getfield 55, 3) := by decide +kernel
theorem dX8_mark_15 : decode cX8_mark 15 = .ok (.iload_n 1, 1) := by decide +kernel
theorem dX8_mark_16 : decode cX8_mark 16 = .ok (.iaload, 1) := by decide +kernel
theorem dX8_mark_17 : decode cX8_mark 17 = .ok (.ifCond .ge 7, 3) := by decide +kernel
theorem dX8_mark_20 : decode cX8_mark 20 = .ok (.ldc2_w 200, 3) := by decide +kernel
theorem dX8_mark_23 : decode cX8_mark 23 = .ok (.lreturn, 1) := by decide +kernel
theorem dX8_mark_24 : decode cX8_mark 24 = .ok (.iload_n 2, 1) := by decide +kernel
theorem dX8_mark_25 : decode cX8_mark 25 = .ok (.iconst 0, 1) := by decide +kernel
theorem dX8_mark_26 : decode cX8_mark 26 = .ok (.aload_n 0, 1) := by decide +kernel
theorem dX8_mark_27 : decode cX8_mark 27 = .ok (.getfield 55, 3) := by decide +kernel
theorem dX8_mark_30 : decode cX8_mark 30 = .ok (.iload_n 1, 1) := by decide +kernel
theorem dX8_mark_31 : decode cX8_mark 31 = .ok (.iaload, 1) := by decide +kernel
theorem dX8_mark_32 : decode cX8_mark 32 = .ok (.iconst 1, 1) := by decide +kernel
theorem dX8_mark_33 : decode cX8_mark 33 = .ok (.isub, 1) := by decide +kernel
theorem dX8_mark_34 : decode cX8_mark 34 = .ok (.invokestatic 92, 3) := by decide +kernel
theorem dX8_mark_37 : decode cX8_mark 37 = .ok (.ifCond .ne 7, 3) := by decide +kernel
theorem dX8_mark_40 : decode cX8_mark 40 = .ok (.ldc2_w 202, 3) := by decide +kernel
theorem dX8_mark_43 : decode cX8_mark 43 = .ok (.lreturn, 1) := by decide +kernel
theorem dX8_mark_44 : decode cX8_mark 44 = .ok (.aload_n 0, 1) := by decide +kernel
theorem dX8_mark_45 : decode cX8_mark 45 = .ok (.getfield 58, 3) := by decide +kernel
theorem dX8_mark_48 : decode cX8_mark 48 = .ok (.bipush 12, 2) := by decide +kernel
theorem dX8_mark_50 : decode cX8_mark 50 = .ok (.iload_n 1, 1) := by decide +kernel
theorem dX8_mark_51 : decode cX8_mark 51 = .ok (.imul, 1) := by decide +kernel
theorem dX8_mark_52 : decode cX8_mark 52 = .ok (.iload_n 2, 1) := by decide +kernel
theorem dX8_mark_53 : decode cX8_mark 53 = .ok (.iadd, 1) := by decide +kernel
theorem dX8_mark_54 : decode cX8_mark 54 = .ok (.iaload, 1) := by decide +kernel
theorem dX8_mark_55 : decode cX8_mark 55 = .ok (.istore 4, 2) := by decide +kernel
theorem dX8_mark_57 : decode cX8_mark 57 = .ok (.aload_n 0, 1) := by decide +kernel
theorem dX8_mark_58 : decode cX8_mark 58 = .ok (.getfield 58, 3) := by decide +kernel
theorem dX8_mark_61 : decode cX8_mark 61 = .ok (.bipush 12, 2) := by decide +kernel
theorem dX8_mark_63 : decode cX8_mark 63 = .ok (.iload_n 1, 1) := by decide +kernel
theorem dX8_mark_64 : decode cX8_mark 64 = .ok (.imul, 1) := by decide +kernel
theorem dX8_mark_65 : decode cX8_mark 65 = .ok (.iload_n 2, 1) := by decide +kernel
theorem dX8_mark_66 : decode cX8_mark 66 = .ok (.iadd, 1) := by decide +kernel
theorem dX8_mark_67 : decode cX8_mark 67 = .ok (.iload_n 3, 1) := by decide +kernel
theorem dX8_mark_68 : decode cX8_mark 68 = .ok (.i2b, 1) := by decide +kernel
theorem dX8_mark_69 : decode cX8_mark 69 = .ok (.iastore, 1) := by decide +kernel
theorem dX8_mark_70 : decode cX8_mark 70 = .ok (.iload 4, 2) := by decide +kernel
theorem dX8_mark_72 : decode cX8_mark 72 = .ok (.i2l, 1) := by decide +kernel
theorem dX8_mark_73 : decode cX8_mark 73 = .ok (.lreturn, 1) := by decide +kernel
theorem dX8_copy_0 : decode cX8_copy 0 = .ok (.iload_n 1, 1) := by decide +kernel
theorem dX8_copy_1 : decode cX8_copy 1 = .ok (.invokestatic 195, 3) := by decide +kernel
theorem dX8_copy_4 : decode cX8_copy 4 = .ok (.ifCond .eq 10, 3) := by decide +kernel
theorem dX8_copy_7 : decode cX8_copy 7 = .ok (.iload_n 3, 1) := by decide +kernel
theorem dX8_copy_8 : decode cX8_copy 8 = .ok (.invokestatic 195, 3) := by decide +kernel
theorem dX8_copy_11 : decode cX8_copy 11 = .ok (.ifCond .ne 7, 3) := by decide +kernel
theorem dX8_copy_14 : decode cX8_copy 14 = .ok (.ldc2_w 107, 3) := by decide +kernel
theorem dX8_copy_17 : decode cX8_copy 17 = .ok (.lreturn, 1) := by decide +kernel
theorem dX8_copy_18 : decode cX8_copy 18 = .ok (.aload_n 0, 1) := by decide +kernel
theorem dX8_copy_19 : decode cX8_copy 19 = .ok (.getfield 55, 3) := by decide +kernel
theorem dX8_copy_22 : decode cX8_copy 22 = .ok (.iload_n 1, 1) := by decide +kernel
theorem dX8_copy_23 : decode cX8_copy 23 = .ok (.iaload, 1) := by decide +kernel
theorem dX8_copy_24 : decode cX8_copy 24 = .ok (.ifCond .lt 12, 3) := by decide +kernel
theorem dX8_copy_27 : decode cX8_copy 27 = .ok (.aload_n 0, 1) := by decide +kernel
theorem dX8_copy_28 : decode cX8_copy 28 = .ok (.getfield 55, 3) := by decide +kernel
theorem dX8_copy_31 : decode cX8_copy 31 = .ok (.iload_n 3, 1) := by decide +kernel
theorem dX8_copy_32 : decode cX8_copy 32 = .ok (.iaload, 1) := by decide +kernel
theorem dX8_copy_33 : decode cX8_copy 33 = .ok (.ifCond .ge 7, 3) := by decide +kernel
theorem dX8_copy_36 : decode cX8_copy 36 = .ok (.ldc2_w 200, 3) := by decide +kernel
theorem dX8_copy_39 : decode cX8_copy 39 = .ok (.lreturn, 1) := by decide +kernel
theorem dX8_copy_40 : decode cX8_copy 40 = .ok (.iload_n 2, 1) := by decide +kernel
theorem dX8_copy_41 : decode cX8_copy 41 = .ok (.ifCond .lt 48, 3) := by decide +kernel
theorem dX8_copy_44 : decode cX8_copy 44 = .ok (.iload 4, 2) := by decide +kernel
theorem dX8_copy_46 : decode cX8_copy 46 = .ok (.ifCond .lt 43, 3) := by decide +kernel
theorem dX8_copy_49 : decode cX8_copy 49 = .ok (.iload 5, 2) := by decide +kernel
theorem dX8_copy_51 : decode cX8_copy 51 = .ok (.ifCond .lt 38, 3) := by decide +kernel
theorem dX8_copy_54 : decode cX8_copy 54 = .ok (.iload_n 2, 1) := by decide +kernel
theorem dX8_copy_55 : decode cX8_copy 55 = .ok (.i2l, 1) := by decide +kernel
theorem dX8_copy_56 : decode cX8_copy 56 = .ok (.iload 5, 2) := by decide +kernel
theorem dX8_copy_58 : decode cX8_copy 58 = .ok (.i2l, 1) := by decide +kernel
theorem dX8_copy_59 : decode cX8_copy 59 = .ok (.ladd, 1) := by decide +kernel
theorem dX8_copy_60 : decode cX8_copy 60 = .ok (.aload_n 0, 1) := by decide +kernel
theorem dX8_copy_61 : decode cX8_copy 61 = .ok (.getfield 55, 3) := by decide +kernel
theorem dX8_copy_64 : decode cX8_copy 64 = .ok (.iload_n 1, 1) := by decide +kernel
theorem dX8_copy_65 : decode cX8_copy 65 = .ok (.iaload, 1) := by decide +kernel
theorem dX8_copy_66 : decode cX8_copy 66 = .ok (.i2l, 1) := by decide +kernel
theorem dX8_copy_67 : decode cX8_copy 67 = .ok (.lcmp, 1) := by decide +kernel
theorem dX8_copy_68 : decode cX8_copy 68 = .ok (.ifCond .gt 21, 3) := by decide +kernel
theorem dX8_copy_71 : decode cX8_copy 71 = .ok (.iload 4, 2) := by decide +kernel
theorem dX8_copy_73 : decode cX8_copy 73 = .ok (.i2l, 1) := by decide +kernel
theorem dX8_copy_74 : decode cX8_copy 74 = .ok (.iload 5, 2) := by decide +kernel
theorem dX8_copy_76 : decode cX8_copy 76 = .ok (.i2l, 1) := by decide +kernel
theorem dX8_copy_77 : decode cX8_copy 77 = .ok (.ladd, 1) := by decide +kernel
theorem dX8_copy_78 : decode cX8_copy 78 = .ok (.aload_n 0, 1) := by decide +kernel
theorem dX8_copy_79 : decode cX8_copy 79 = .ok (.getfield 55, 3) := by decide +kernel
theorem dX8_copy_82 : decode cX8_copy 82 = .ok (.iload_n 3, 1) := by decide +kernel
theorem dX8_copy_83 : decode cX8_copy 83 = .ok (.iaload, 1) := by decide +kernel
theorem dX8_copy_84 : decode cX8_copy 84 = .ok (.i2l, 1) := by decide +kernel
theorem dX8_copy_85 : decode cX8_copy 85 = .ok (.lcmp, 1) := by decide +kernel
theorem dX8_copy_86 : decode cX8_copy 86 = .ok (.ifCond .le 7, 3) := by decide +kernel
theorem dX8_copy_89 : decode cX8_copy 89 = .ok (.ldc2_w 202, 3) := by decide +kernel
theorem dX8_copy_92 : decode cX8_copy 92 = .ok (.lreturn, 1) := by decide +kernel
theorem dX8_copy_93 : decode cX8_copy 93 = .ok (.iconst 0, 1) := by decide +kernel
theorem dX8_copy_94 : decode cX8_copy 94 = .ok (.istore 6, 2) := by decide +kernel
theorem dX8_copy_96 : decode cX8_copy 96 = .ok (.iload 6, 2) := by decide +kernel
theorem dX8_copy_98 : decode cX8_copy 98 = .ok (.iload 5, 2) := by decide +kernel
theorem dX8_copy_100 : decode cX8_copy 100 = .ok (.if_icmp .ge 30, 3) := by decide +kernel
theorem dX8_copy_103 : decode cX8_copy 103 = .ok (.aload_n 0, 1) := by decide +kernel
theorem dX8_copy_104 : decode cX8_copy 104 = .ok (.getfield 89, 3) := by decide +kernel
theorem dX8_copy_107 : decode cX8_copy 107 = .ok (.iload 6, 2) := by decide +kernel
theorem dX8_copy_109 : decode cX8_copy 109 = .ok (.aload_n 0, 1) := by decide +kernel
theorem dX8_copy_110 : decode cX8_copy 110 = .ok (.getfield 58, 3) := by decide +kernel
theorem dX8_copy_113 : decode cX8_copy 113 = .ok (.bipush 12, 2) := by decide +kernel
theorem dX8_copy_115 : decode cX8_copy 115 = .ok (.iload_n 1, 1) := by decide +kernel
theorem dX8_copy_116 : decode cX8_copy 116 = .ok (.imul, 1) := by decide +kernel
theorem dX8_copy_117 : decode cX8_copy 117 = .ok (.iload_n 2, 1) := by decide +kernel
theorem dX8_copy_118 : decode cX8_copy 118 = .ok (.iadd, 1) := by decide +kernel
theorem dX8_copy_119 : decode cX8_copy 119 = .ok (.iload 6, 2) := by decide +kernel
theorem dX8_copy_121 : decode cX8_copy 121 = .ok (.iadd, 1) := by decide +kernel
theorem dX8_copy_122 : decode cX8_copy 122 = .ok (.iaload, 1) := by decide +kernel
theorem dX8_copy_123 : decode cX8_copy 123 = .ok (.iastore, 1) := by decide +kernel
theorem dX8_copy_124 : decode cX8_copy 124 = .ok (.iinc 6 1, 3) := by decide +kernel
theorem dX8_copy_127 : decode cX8_copy 127 = .ok (.goto (-31), 3) := by decide +kernel
theorem dX8_copy_130 : decode cX8_copy 130 = .ok (.iconst 0, 1) := by decide +kernel
theorem dX8_copy_131 : decode cX8_copy 131 = .ok (.istore 6, 2) := by decide +kernel
theorem dX8_copy_133 : decode cX8_copy 133 = .ok (.iload 6, 2) := by decide +kernel
theorem dX8_copy_135 : decode cX8_copy 135 = .ok (.iload 5, 2) := by decide +kernel
theorem dX8_copy_137 : decode cX8_copy 137 = .ok (.if_icmp .ge 31, 3) := by decide +kernel
theorem dX8_copy_140 : decode cX8_copy 140 = .ok (.aload_n 0, 1) := by decide +kernel
theorem dX8_copy_141 : decode cX8_copy 141 = .ok (.getfield 58, 3) := by decide +kernel
theorem dX8_copy_144 : decode cX8_copy 144 = .ok (.bipush 12, 2) := by decide +kernel
theorem dX8_copy_146 : decode cX8_copy 146 = .ok (.iload_n 3, 1) := by decide +kernel
theorem dX8_copy_147 : decode cX8_copy 147 = .ok (.imul, 1) := by decide +kernel
theorem dX8_copy_148 : decode cX8_copy 148 = .ok (.iload 4, 2) := by decide +kernel
theorem dX8_copy_150 : decode cX8_copy 150 = .ok (.iadd, 1) := by decide +kernel
theorem dX8_copy_151 : decode cX8_copy 151 = .ok (.iload 6, 2) := by decide +kernel
theorem dX8_copy_153 : decode cX8_copy 153 = .ok (.iadd, 1) := by decide +kernel
theorem dX8_copy_154 : decode cX8_copy 154 = .ok (.aload_n 0, 1) := by decide +kernel
theorem dX8_copy_155 : decode cX8_copy 155 = .ok (.getfield 89, 3) := by decide +kernel
theorem dX8_copy_158 : decode cX8_copy 158 = .ok (.iload 6, 2) := by decide +kernel
theorem dX8_copy_160 : decode cX8_copy 160 = .ok (.iaload, 1) := by decide +kernel
theorem dX8_copy_161 : decode cX8_copy 161 = .ok (.iastore, 1) := by decide +kernel
theorem dX8_copy_162 : decode cX8_copy 162 = .ok (.iinc 6 1, 3) := by decide +kernel
theorem dX8_copy_165 : decode cX8_copy 165 = .ok (.goto (-32), 3) := by decide +kernel
theorem dX8_copy_168 : decode cX8_copy 168 = .ok (.iload 5, 2) := by decide +kernel
theorem dX8_copy_170 : decode cX8_copy 170 = .ok (.i2l, 1) := by decide +kernel
theorem dX8_copy_171 : decode cX8_copy 171 = .ok (.lreturn, 1) := by decide +kernel
theorem dX8_take_0 : decode cX8_take 0 = .ok (.iload_n 1, 1) := by decide +kernel
theorem dX8_take_1 : decode cX8_take 1 = .ok (.invokestatic 195, 3) := by decide +kernel
theorem dX8_take_4 : decode cX8_take 4 = .ok (.ifCond .ne 7, 3) := by decide +kernel
theorem dX8_take_7 : decode cX8_take 7 = .ok (.ldc2_w 107, 3) := by decide +kernel
theorem dX8_take_10 : decode cX8_take 10 = .ok (.lreturn, 1) := by decide +kernel
theorem dX8_take_11 : decode cX8_take 11 = .ok (.aload_n 0, 1) := by decide +kernel
theorem dX8_take_12 : decode cX8_take 12 = .ok (.getfield 55, 3) := by decide +kernel
theorem dX8_take_15 : decode cX8_take 15 = .ok (.iload_n 1, 1) := by decide +kernel
theorem dX8_take_16 : decode cX8_take 16 = .ok (.iaload, 1) := by decide +kernel
theorem dX8_take_17 : decode cX8_take 17 = .ok (.ifCond .ge 7, 3) := by decide +kernel
theorem dX8_take_20 : decode cX8_take 20 = .ok (.ldc2_w 200, 3) := by decide +kernel
theorem dX8_take_23 : decode cX8_take 23 = .ok (.lreturn, 1) := by decide +kernel
theorem dX8_take_24 : decode cX8_take 24 = .ok (.aload_n 0, 1) := by decide +kernel
theorem dX8_take_25 : decode cX8_take 25 = .ok (.getfield 55, 3) := by decide +kernel
theorem dX8_take_28 : decode cX8_take 28 = .ok (.iload_n 1, 1) := by decide +kernel
theorem dX8_take_29 : decode cX8_take 29 = .ok (.iaload, 1) := by decide +kernel
theorem dX8_take_30 : decode cX8_take 30 = .ok (.aload_n 0, 1) := by decide +kernel
theorem dX8_take_31 : decode cX8_take 31 = .ok (.getfield 96, 3) := by decide +kernel
theorem dX8_take_34 : decode cX8_take 34 = .ok (.if_icmp .ge 12, 3) := by decide +kernel
theorem dX8_take_37 : decode cX8_take 37 = .ok (.aload_n 0, 1) := by decide +kernel
theorem dX8_take_38 : decode cX8_take 38 = .ok (.getfield 55, 3) := by decide +kernel
theorem dX8_take_41 : decode cX8_take 41 = .ok (.iload_n 1, 1) := by decide +kernel
theorem dX8_take_42 : decode cX8_take 42 = .ok (.iaload, 1) := by decide +kernel
theorem dX8_take_43 : decode cX8_take 43 = .ok (.goto 7, 3) := by decide +kernel
theorem dX8_take_46 : decode cX8_take 46 = .ok (.aload_n 0, 1) := by decide +kernel
theorem dX8_take_47 : decode cX8_take 47 = .ok (.getfield 96, 3) := by decide +kernel
theorem dX8_take_50 : decode cX8_take 50 = .ok (.istore_n 2, 1) := by decide +kernel
theorem dX8_take_51 : decode cX8_take 51 = .ok (.iconst 0, 1) := by decide +kernel
theorem dX8_take_52 : decode cX8_take 52 = .ok (.istore_n 3, 1) := by decide +kernel
theorem dX8_take_53 : decode cX8_take 53 = .ok (.iload_n 3, 1) := by decide +kernel
theorem dX8_take_54 : decode cX8_take 54 = .ok (.iload_n 2, 1) := by decide +kernel
theorem dX8_take_55 : decode cX8_take 55 = .ok (.if_icmp .ge 33, 3) := by decide +kernel
theorem dX8_take_58 : decode cX8_take 58 = .ok (.aload_n 0, 1) := by decide +kernel
theorem dX8_take_59 : decode cX8_take 59 = .ok (.getfield 58, 3) := by decide +kernel
theorem dX8_take_62 : decode cX8_take 62 = .ok (.bipush 12, 2) := by decide +kernel
theorem dX8_take_64 : decode cX8_take 64 = .ok (.iload_n 1, 1) := by decide +kernel
theorem dX8_take_65 : decode cX8_take 65 = .ok (.imul, 1) := by decide +kernel
theorem dX8_take_66 : decode cX8_take 66 = .ok (.iload_n 3, 1) := by decide +kernel
theorem dX8_take_67 : decode cX8_take 67 = .ok (.iadd, 1) := by decide +kernel
theorem dX8_take_68 : decode cX8_take 68 = .ok (.iaload, 1) := by decide +kernel
theorem dX8_take_69 : decode cX8_take 69 = .ok (.iconst 0, 1) := by decide +kernel
theorem dX8_take_70 : decode cX8_take 70 = .ok (.bipush 100, 2) := by decide +kernel
theorem dX8_take_72 : decode cX8_take 72 = .ok (.invokestatic 92, 3) := by decide +kernel
theorem dX8_take_75 : decode cX8_take 75 = .ok (.ifCond .ne 7, 3) := by decide +kernel
theorem dX8_take_78 : decode cX8_take 78 = .ok (.ldc2_w 145, 3) := by decide +kernel
theorem dX8_take_81 : decode cX8_take 81 = .ok (.lreturn, 1) := by decide +kernel
theorem dX8_take_82 : decode cX8_take 82 = .ok (.iinc 3 1, 3) := by decide +kernel
theorem dX8_take_85 : decode cX8_take 85 = .ok (.goto (-32), 3) := by decide +kernel
theorem dX8_take_88 : decode cX8_take 88 = .ok (.iconst 0, 1) := by decide +kernel
theorem dX8_take_89 : decode cX8_take 89 = .ok (.istore_n 3, 1) := by decide +kernel
theorem dX8_take_90 : decode cX8_take 90 = .ok (.iload_n 3, 1) := by decide +kernel
theorem dX8_take_91 : decode cX8_take 91 = .ok (.iload_n 2, 1) := by decide +kernel
theorem dX8_take_92 : decode cX8_take 92 = .ok (.if_icmp .ge 26, 3) := by decide +kernel
theorem dX8_take_95 : decode cX8_take 95 = .ok (.aload_n 0, 1) := by decide +kernel
theorem dX8_take_96 : decode cX8_take 96 = .ok (.getfield 22, 3) := by decide +kernel
theorem dX8_take_99 : decode cX8_take 99 = .ok (.iload_n 3, 1) := by decide +kernel
theorem dX8_take_100 : decode cX8_take 100 = .ok (.aload_n 0, 1) := by decide +kernel
theorem dX8_take_101 : decode cX8_take 101 = .ok (.getfield 58, 3) := by decide +kernel
theorem dX8_take_104 : decode cX8_take 104 = .ok (.bipush 12, 2) := by decide +kernel
theorem dX8_take_106 : decode cX8_take 106 = .ok (.iload_n 1, 1) := by decide +kernel
theorem dX8_take_107 : decode cX8_take 107 = .ok (.imul, 1) := by decide +kernel
theorem dX8_take_108 : decode cX8_take 108 = .ok (.iload_n 3, 1) := by decide +kernel
theorem dX8_take_109 : decode cX8_take 109 = .ok (.iadd, 1) := by decide +kernel
theorem dX8_take_110 : decode cX8_take 110 = .ok (.iaload, 1) := by decide +kernel
theorem dX8_take_111 : decode cX8_take 111 = .ok (.iastore, 1) := by decide +kernel
theorem dX8_take_112 : decode cX8_take 112 = .ok (.iinc 3 1, 3) := by decide +kernel
theorem dX8_take_115 : decode cX8_take 115 = .ok (.goto (-25), 3) := by decide +kernel
theorem dX8_take_118 : decode cX8_take 118 = .ok (.iload_n 2, 1) := by decide +kernel
theorem dX8_take_119 : decode cX8_take 119 = .ok (.i2l, 1) := by decide +kernel
theorem dX8_take_120 : decode cX8_take 120 = .ok (.lreturn, 1) := by decide +kernel
theorem dX8_count_0 : decode cX8_count 0 = .ok (.iconst 0, 1) := by decide +kernel
theorem dX8_count_1 : decode cX8_count 1 = .ok (.istore_n 2, 1) := by decide +kernel
theorem dX8_count_2 : decode cX8_count 2 = .ok (.iload_n 1, 1) := by decide +kernel
theorem dX8_count_3 : decode cX8_count 3 = .ok (.tableswitch 204 0 6 #[41, 47, 53, 59, 89, 137, 173], 41) := by decide +kernel
theorem dX8_count_44 : decode cX8_count 44 = .ok (.aload_n 0, 1) := by decide +kernel
theorem dX8_count_45 : decode cX8_count 45 = .ok (.getfield 96, 3) := by decide +kernel
theorem dX8_count_48 : decode cX8_count 48 = .ok (.i2l, 1) := by decide +kernel
theorem dX8_count_49 : decode cX8_count 49 = .ok (.lreturn, 1) := by decide +kernel
theorem dX8_count_50 : decode cX8_count 50 = .ok (.aload_n 0, 1) := by decide +kernel
theorem dX8_count_51 : decode cX8_count 51 = .ok (.getfield 100, 3) := by decide +kernel
theorem dX8_count_54 : decode cX8_count 54 = .ok (.i2l, 1) := by decide +kernel
theorem dX8_count_55 : decode cX8_count 55 = .ok (.lreturn, 1) := by decide +kernel
theorem dX8_count_56 : decode cX8_count 56 = .ok (.aload_n 0, 1) := by decide +kernel
theorem dX8_count_57 : decode cX8_count 57 = .ok (.getfield 189, 3) := by decide +kernel
theorem dX8_count_60 : decode cX8_count 60 = .ok (.i2l, 1) := by decide +kernel
theorem dX8_count_61 : decode cX8_count 61 = .ok (.lreturn, 1) := by decide +kernel
theorem dX8_count_62 : decode cX8_count 62 = .ok (.iconst 0, 1) := by decide +kernel
theorem dX8_count_63 : decode cX8_count 63 = .ok (.istore_n 3, 1) := by decide +kernel
theorem dX8_count_64 : decode cX8_count 64 = .ok (.iload_n 3, 1) := by decide +kernel
theorem dX8_count_65 : decode cX8_count 65 = .ok (.aload_n 0, 1) := by decide +kernel
theorem dX8_count_66 : decode cX8_count 66 = .ok (.getfield 189, 3) := by decide +kernel
theorem dX8_count_69 : decode cX8_count 69 = .ok (.if_icmp .ge 20, 3) := by decide +kernel
theorem dX8_count_72 : decode cX8_count 72 = .ok (.iload_n 2, 1) := by decide +kernel
theorem dX8_count_73 : decode cX8_count 73 = .ok (.iconst 1, 1) := by decide +kernel
theorem dX8_count_74 : decode cX8_count 74 = .ok (.aload_n 0, 1) := by decide +kernel
theorem dX8_count_75 : decode cX8_count 75 = .ok (.getfield 52, 3) := by decide +kernel
theorem dX8_count_78 : decode cX8_count 78 = .ok (.iload_n 3, 1) := by decide +kernel
theorem dX8_count_79 : decode cX8_count 79 = .ok (.iaload, 1) := by decide +kernel
theorem dX8_count_80 : decode cX8_count 80 = .ok (.isub, 1) := by decide +kernel
theorem dX8_count_81 : decode cX8_count 81 = .ok (.iadd, 1) := by decide +kernel
theorem dX8_count_82 : decode cX8_count 82 = .ok (.istore_n 2, 1) := by decide +kernel
theorem dX8_count_83 : decode cX8_count 83 = .ok (.iinc 3 1, 3) := by decide +kernel
theorem dX8_count_86 : decode cX8_count 86 = .ok (.goto (-22), 3) := by decide +kernel
theorem dX8_count_89 : decode cX8_count 89 = .ok (.iload_n 2, 1) := by decide +kernel
theorem dX8_count_90 : decode cX8_count 90 = .ok (.i2l, 1) := by decide +kernel
theorem dX8_count_91 : decode cX8_count 91 = .ok (.lreturn, 1) := by decide +kernel
theorem dX8_count_92 : decode cX8_count 92 = .ok (.iconst 0, 1) := by decide +kernel
theorem dX8_count_93 : decode cX8_count 93 = .ok (.istore_n 3, 1) := by decide +kernel
theorem dX8_count_94 : decode cX8_count 94 = .ok (.iload_n 3, 1) := by decide +kernel
theorem dX8_count_95 : decode cX8_count 95 = .ok (.aload_n 0, 1) := by decide +kernel
theorem dX8_count_96 : decode cX8_count 96 = .ok (.getfield 100, 3) := by decide +kernel
theorem dX8_count_99 : decode cX8_count 99 = .ok (.if_icmp .ge 38, 3) := by decide +kernel
theorem dX8_count_102 : decode cX8_count 102 = .ok (.iconst 0, 1) := by decide +kernel
theorem dX8_count_103 : decode cX8_count 103 = .ok (.istore 4, 2) := by decide +kernel
theorem dX8_count_105 : decode cX8_count 105 = .ok (.iload 4, 2) := by decide +kernel
theorem dX8_count_107 : decode cX8_count 107 = .ok (.iload_n 3, 1) := by decide +kernel
theorem dX8_count_108 : decode cX8_count 108 = .ok (.if_icmp .ge 23, 3) := by decide +kernel
theorem dX8_count_111 : decode cX8_count 111 = .ok (.iload_n 2, 1) := by decide +kernel
theorem dX8_count_112 : decode cX8_count 112 = .ok (.aload_n 0, 1) := by decide +kernel
theorem dX8_count_113 : decode cX8_count 113 = .ok (.getfield 37, 3) := by decide +kernel
theorem dX8_count_116 : decode cX8_count 116 = .ok (.iload_n 3, 1) := by decide +kernel
theorem dX8_count_117 : decode cX8_count 117 = .ok (.iaload, 1) := by decide +kernel
theorem dX8_count_118 : decode cX8_count 118 = .ok (.iload 4, 2) := by decide +kernel
theorem dX8_count_120 : decode cX8_count 120 = .ok (.ishr, 1) := by decide +kernel
theorem dX8_count_121 : decode cX8_count 121 = .ok (.iconst 1, 1) := by decide +kernel
theorem dX8_count_122 : decode cX8_count 122 = .ok (.iand, 1) := by decide +kernel
theorem dX8_count_123 : decode cX8_count 123 = .ok (.iadd, 1) := by decide +kernel
theorem dX8_count_124 : decode cX8_count 124 = .ok (.istore_n 2, 1) := by decide +kernel
theorem dX8_count_125 : decode cX8_count 125 = .ok (.iinc 4 1, 3) := by decide +kernel
theorem dX8_count_128 : decode cX8_count 128 = .ok (.goto (-23), 3) := by decide +kernel
theorem dX8_count_131 : decode cX8_count 131 = .ok (.iinc 3 1, 3) := by decide +kernel
theorem dX8_count_134 : decode cX8_count 134 = .ok (.goto (-40), 3) := by decide +kernel
theorem dX8_count_137 : decode cX8_count 137 = .ok (.iload_n 2, 1) := by decide +kernel
theorem dX8_count_138 : decode cX8_count 138 = .ok (.i2l, 1) := by decide +kernel
theorem dX8_count_139 : decode cX8_count 139 = .ok (.lreturn, 1) := by decide +kernel
theorem dX8_count_140 : decode cX8_count 140 = .ok (.iconst 0, 1) := by decide +kernel
theorem dX8_count_141 : decode cX8_count 141 = .ok (.istore_n 3, 1) := by decide +kernel
theorem dX8_count_142 : decode cX8_count 142 = .ok (.iload_n 3, 1) := by decide +kernel
theorem dX8_count_143 : decode cX8_count 143 = .ok (.aload_n 0, 1) := by decide +kernel
theorem dX8_count_144 : decode cX8_count 144 = .ok (.getfield 96, 3) := by decide +kernel
theorem dX8_count_147 : decode cX8_count 147 = .ok (.if_icmp .ge 26, 3) := by decide +kernel
theorem dX8_count_150 : decode cX8_count 150 = .ok (.iload_n 2, 1) := by decide +kernel
theorem dX8_count_151 : decode cX8_count 151 = .ok (.aload_n 0, 1) := by decide +kernel
theorem dX8_count_152 : decode cX8_count 152 = .ok (.getfield 28, 3) := by decide +kernel
theorem dX8_count_155 : decode cX8_count 155 = .ok (.iload_n 3, 1) := by decide +kernel
theorem dX8_count_156 : decode cX8_count 156 = .ok (.iaload, 1) := by decide +kernel
theorem dX8_count_157 : decode cX8_count 157 = .ok (.ifCond .lt 7, 3) := by decide +kernel
theorem dX8_count_160 : decode cX8_count 160 = .ok (.iconst 1, 1) := by decide +kernel
theorem dX8_count_161 : decode cX8_count 161 = .ok (.goto 4, 3) := by decide +kernel
theorem dX8_count_164 : decode cX8_count 164 = .ok (.iconst 0, 1) := by decide +kernel
theorem dX8_count_165 : decode cX8_count 165 = .ok (.iadd, 1) := by decide +kernel
theorem dX8_count_166 : decode cX8_count 166 = .ok (.istore_n 2, 1) := by decide +kernel
theorem dX8_count_167 : decode cX8_count 167 = .ok (.iinc 3 1, 3) := by decide +kernel
theorem dX8_count_170 : decode cX8_count 170 = .ok (.goto (-28), 3) := by decide +kernel
theorem dX8_count_173 : decode cX8_count 173 = .ok (.iload_n 2, 1) := by decide +kernel
theorem dX8_count_174 : decode cX8_count 174 = .ok (.i2l, 1) := by decide +kernel
theorem dX8_count_175 : decode cX8_count 175 = .ok (.lreturn, 1) := by decide +kernel
theorem dX8_count_176 : decode cX8_count 176 = .ok (.aload_n 0, 1) := by decide +kernel
theorem dX8_count_177 : decode cX8_count 177 = .ok (.getfield 55, 3) := by decide +kernel
theorem dX8_count_180 : decode cX8_count 180 = .ok (.iconst 0, 1) := by decide +kernel
theorem dX8_count_181 : decode cX8_count 181 = .ok (.iaload, 1) := by decide +kernel
theorem dX8_count_182 : decode cX8_count 182 = .ok (.ifCond .ge 7, 3) := by decide +kernel
theorem dX8_count_185 : decode cX8_count 185 = .ok (.iconst 0, 1) := by decide +kernel
theorem dX8_count_186 : decode cX8_count 186 = .ok (.goto 4, 3) := by decide +kernel
theorem dX8_count_189 : decode cX8_count 189 = .ok (.iconst 1, 1) := by decide +kernel
theorem dX8_count_190 : decode cX8_count 190 = .ok (.aload_n 0, 1) := by decide +kernel
theorem dX8_count_191 : decode cX8_count 191 = .ok (.getfield 55, 3) := by decide +kernel
theorem dX8_count_194 : decode cX8_count 194 = .ok (.iconst 1, 1) := by decide +kernel
theorem dX8_count_195 : decode cX8_count 195 = .ok (.iaload, 1) := by decide +kernel
theorem dX8_count_196 : decode cX8_count 196 = .ok (.ifCond .ge 7, 3) := by decide +kernel
theorem dX8_count_199 : decode cX8_count 199 = .ok (.iconst 0, 1) := by decide +kernel
theorem dX8_count_200 : decode cX8_count 200 = .ok (.goto 4, 3) := by decide +kernel
theorem dX8_count_203 : decode cX8_count 203 = .ok (.iconst 1, 1) := by decide +kernel
theorem dX8_count_204 : decode cX8_count 204 = .ok (.iadd, 1) := by decide +kernel
theorem dX8_count_205 : decode cX8_count 205 = .ok (.i2l, 1) := by decide +kernel
theorem dX8_count_206 : decode cX8_count 206 = .ok (.lreturn, 1) := by decide +kernel
theorem dX8_count_207 : decode cX8_count 207 = .ok (.ldc2_w 107, 3) := by decide +kernel
theorem dX8_count_210 : decode cX8_count 210 = .ok (.lreturn, 1) := by decide +kernel
theorem dJ6_bitCount_0f7a4_0 : decode cJ6_bitCount_0f7a4 0 = .ok (.iload_n 0, 1) := by decide +kernel
theorem dJ6_bitCount_0f7a4_1 : decode cJ6_bitCount_0f7a4 1 = .ok (.iload_n 0, 1) := by decide +kernel
theorem dJ6_bitCount_0f7a4_2 : decode cJ6_bitCount_0f7a4 2 = .ok (.iconst 1, 1) := by decide +kernel
theorem dJ6_bitCount_0f7a4_3 : decode cJ6_bitCount_0f7a4 3 = .ok (.iushr, 1) := by decide +kernel
theorem dJ6_bitCount_0f7a4_4 : decode cJ6_bitCount_0f7a4 4 = .ok (.ldc_w 265, 3) := by decide +kernel
theorem dJ6_bitCount_0f7a4_7 : decode cJ6_bitCount_0f7a4 7 = .ok (.iand, 1) := by decide +kernel
theorem dJ6_bitCount_0f7a4_8 : decode cJ6_bitCount_0f7a4 8 = .ok (.isub, 1) := by decide +kernel
theorem dJ6_bitCount_0f7a4_9 : decode cJ6_bitCount_0f7a4 9 = .ok (.istore_n 0, 1) := by decide +kernel
theorem dJ6_bitCount_0f7a4_10 : decode cJ6_bitCount_0f7a4 10 = .ok (.iload_n 0, 1) := by decide +kernel
theorem dJ6_bitCount_0f7a4_11 : decode cJ6_bitCount_0f7a4 11 = .ok (.ldc_w 266, 3) := by decide +kernel
theorem dJ6_bitCount_0f7a4_14 : decode cJ6_bitCount_0f7a4 14 = .ok (.iand, 1) := by decide +kernel
theorem dJ6_bitCount_0f7a4_15 : decode cJ6_bitCount_0f7a4 15 = .ok (.iload_n 0, 1) := by decide +kernel
theorem dJ6_bitCount_0f7a4_16 : decode cJ6_bitCount_0f7a4 16 = .ok (.iconst 2, 1) := by decide +kernel
theorem dJ6_bitCount_0f7a4_17 : decode cJ6_bitCount_0f7a4 17 = .ok (.iushr, 1) := by decide +kernel
theorem dJ6_bitCount_0f7a4_18 : decode cJ6_bitCount_0f7a4 18 = .ok (.ldc_w 266, 3) := by decide +kernel
theorem dJ6_bitCount_0f7a4_21 : decode cJ6_bitCount_0f7a4 21 = .ok (.iand, 1) := by decide +kernel
theorem dJ6_bitCount_0f7a4_22 : decode cJ6_bitCount_0f7a4 22 = .ok (.iadd, 1) := by decide +kernel
theorem dJ6_bitCount_0f7a4_23 : decode cJ6_bitCount_0f7a4 23 = .ok (.istore_n 0, 1) := by decide +kernel
theorem dJ6_bitCount_0f7a4_24 : decode cJ6_bitCount_0f7a4 24 = .ok (.iload_n 0, 1) := by decide +kernel
theorem dJ6_bitCount_0f7a4_25 : decode cJ6_bitCount_0f7a4 25 = .ok (.iload_n 0, 1) := by decide +kernel
theorem dJ6_bitCount_0f7a4_26 : decode cJ6_bitCount_0f7a4 26 = .ok (.iconst 4, 1) := by decide +kernel
theorem dJ6_bitCount_0f7a4_27 : decode cJ6_bitCount_0f7a4 27 = .ok (.iushr, 1) := by decide +kernel
theorem dJ6_bitCount_0f7a4_28 : decode cJ6_bitCount_0f7a4 28 = .ok (.iadd, 1) := by decide +kernel
theorem dJ6_bitCount_0f7a4_29 : decode cJ6_bitCount_0f7a4 29 = .ok (.ldc_w 267, 3) := by decide +kernel
theorem dJ6_bitCount_0f7a4_32 : decode cJ6_bitCount_0f7a4 32 = .ok (.iand, 1) := by decide +kernel
theorem dJ6_bitCount_0f7a4_33 : decode cJ6_bitCount_0f7a4 33 = .ok (.istore_n 0, 1) := by decide +kernel
theorem dJ6_bitCount_0f7a4_34 : decode cJ6_bitCount_0f7a4 34 = .ok (.iload_n 0, 1) := by decide +kernel
theorem dJ6_bitCount_0f7a4_35 : decode cJ6_bitCount_0f7a4 35 = .ok (.iload_n 0, 1) := by decide +kernel
theorem dJ6_bitCount_0f7a4_36 : decode cJ6_bitCount_0f7a4 36 = .ok (.bipush 8, 2) := by decide +kernel
theorem dJ6_bitCount_0f7a4_38 : decode cJ6_bitCount_0f7a4 38 = .ok (.iushr, 1) := by decide +kernel
theorem dJ6_bitCount_0f7a4_39 : decode cJ6_bitCount_0f7a4 39 = .ok (.iadd, 1) := by decide +kernel
theorem dJ6_bitCount_0f7a4_40 : decode cJ6_bitCount_0f7a4 40 = .ok (.istore_n 0, 1) := by decide +kernel
theorem dJ6_bitCount_0f7a4_41 : decode cJ6_bitCount_0f7a4 41 = .ok (.iload_n 0, 1) := by decide +kernel
theorem dJ6_bitCount_0f7a4_42 : decode cJ6_bitCount_0f7a4 42 = .ok (.iload_n 0, 1) := by decide +kernel
theorem dJ6_bitCount_0f7a4_43 : decode cJ6_bitCount_0f7a4 43 = .ok (.bipush 16, 2) := by decide +kernel
theorem dJ6_bitCount_0f7a4_45 : decode cJ6_bitCount_0f7a4 45 = .ok (.iushr, 1) := by decide +kernel
theorem dJ6_bitCount_0f7a4_46 : decode cJ6_bitCount_0f7a4 46 = .ok (.iadd, 1) := by decide +kernel
theorem dJ6_bitCount_0f7a4_47 : decode cJ6_bitCount_0f7a4 47 = .ok (.istore_n 0, 1) := by decide +kernel
theorem dJ6_bitCount_0f7a4_48 : decode cJ6_bitCount_0f7a4 48 = .ok (.iload_n 0, 1) := by decide +kernel
theorem dJ6_bitCount_0f7a4_49 : decode cJ6_bitCount_0f7a4 49 = .ok (.bipush 63, 2) := by decide +kernel
theorem dJ6_bitCount_0f7a4_51 : decode cJ6_bitCount_0f7a4 51 = .ok (.iand, 1) := by decide +kernel
theorem dJ6_bitCount_0f7a4_52 : decode cJ6_bitCount_0f7a4 52 = .ok (.ireturn, 1) := by decide +kernel
theorem dJ9_max_7cf53_0 : decode cJ9_max_7cf53 0 = .ok (.iload_n 0, 1) := by decide +kernel
theorem dJ9_max_7cf53_1 : decode cJ9_max_7cf53 1 = .ok (.iload_n 1, 1) := by decide +kernel
theorem dJ9_max_7cf53_2 : decode cJ9_max_7cf53 2 = .ok (.if_icmp .lt 7, 3) := by decide +kernel
theorem dJ9_max_7cf53_5 : decode cJ9_max_7cf53 5 = .ok (.iload_n 0, 1) := by decide +kernel
theorem dJ9_max_7cf53_6 : decode cJ9_max_7cf53 6 = .ok (.goto 4, 3) := by decide +kernel
theorem dJ9_max_7cf53_9 : decode cJ9_max_7cf53 9 = .ok (.iload_n 1, 1) := by decide +kernel
theorem dJ9_max_7cf53_10 : decode cJ9_max_7cf53 10 = .ok (.ireturn, 1) := by decide +kernel
theorem dJ9_min_7cf53_0 : decode cJ9_min_7cf53 0 = .ok (.iload_n 0, 1) := by decide +kernel
theorem dJ9_min_7cf53_1 : decode cJ9_min_7cf53 1 = .ok (.iload_n 1, 1) := by decide +kernel
theorem dJ9_min_7cf53_2 : decode cJ9_min_7cf53 2 = .ok (.if_icmp .gt 7, 3) := by decide +kernel
theorem dJ9_min_7cf53_5 : decode cJ9_min_7cf53 5 = .ok (.iload_n 0, 1) := by decide +kernel
theorem dJ9_min_7cf53_6 : decode cJ9_min_7cf53 6 = .ok (.goto 4, 3) := by decide +kernel
theorem dJ9_min_7cf53_9 : decode cJ9_min_7cf53 9 = .ok (.iload_n 1, 1) := by decide +kernel
theorem dJ9_min_7cf53_10 : decode cJ9_min_7cf53 10 = .ok (.ireturn, 1) := by decide +kernel
theorem dJ7_fill_d0a16_0 : decode cJ7_fill_d0a16 0 = .ok (.iconst 0, 1) := by decide +kernel
theorem dJ7_fill_d0a16_1 : decode cJ7_fill_d0a16 1 = .ok (.istore_n 3, 1) := by decide +kernel
theorem dJ7_fill_d0a16_2 : decode cJ7_fill_d0a16 2 = .ok (.aload_n 0, 1) := by decide +kernel
theorem dJ7_fill_d0a16_3 : decode cJ7_fill_d0a16 3 = .ok (.arraylength, 1) := by decide +kernel
theorem dJ7_fill_d0a16_4 : decode cJ7_fill_d0a16 4 = .ok (.istore 4, 2) := by decide +kernel
theorem dJ7_fill_d0a16_6 : decode cJ7_fill_d0a16 6 = .ok (.iload_n 3, 1) := by decide +kernel
theorem dJ7_fill_d0a16_7 : decode cJ7_fill_d0a16 7 = .ok (.iload 4, 2) := by decide +kernel
theorem dJ7_fill_d0a16_9 : decode cJ7_fill_d0a16 9 = .ok (.if_icmp .ge 13, 3) := by decide +kernel
theorem dJ7_fill_d0a16_12 : decode cJ7_fill_d0a16 12 = .ok (.aload_n 0, 1) := by decide +kernel
theorem dJ7_fill_d0a16_13 : decode cJ7_fill_d0a16 13 = .ok (.iload_n 3, 1) := by decide +kernel
theorem dJ7_fill_d0a16_14 : decode cJ7_fill_d0a16 14 = .ok (.lload_n 1, 1) := by decide +kernel
theorem dJ7_fill_d0a16_15 : decode cJ7_fill_d0a16 15 = .ok (.lastore, 1) := by decide +kernel
theorem dJ7_fill_d0a16_16 : decode cJ7_fill_d0a16 16 = .ok (.iinc 3 1, 3) := by decide +kernel
theorem dJ7_fill_d0a16_19 : decode cJ7_fill_d0a16 19 = .ok (.goto (-13), 3) := by decide +kernel
theorem dJ7_fill_d0a16_22 : decode cJ7_fill_d0a16 22 = .ok (.return_, 1) := by decide +kernel
theorem dJ7_fill_53178_0 : decode cJ7_fill_53178 0 = .ok (.iconst 0, 1) := by decide +kernel
theorem dJ7_fill_53178_1 : decode cJ7_fill_53178 1 = .ok (.istore_n 2, 1) := by decide +kernel
theorem dJ7_fill_53178_2 : decode cJ7_fill_53178 2 = .ok (.aload_n 0, 1) := by decide +kernel
theorem dJ7_fill_53178_3 : decode cJ7_fill_53178 3 = .ok (.arraylength, 1) := by decide +kernel
theorem dJ7_fill_53178_4 : decode cJ7_fill_53178 4 = .ok (.istore_n 3, 1) := by decide +kernel
theorem dJ7_fill_53178_5 : decode cJ7_fill_53178 5 = .ok (.iload_n 2, 1) := by decide +kernel
theorem dJ7_fill_53178_6 : decode cJ7_fill_53178 6 = .ok (.iload_n 3, 1) := by decide +kernel
theorem dJ7_fill_53178_7 : decode cJ7_fill_53178 7 = .ok (.if_icmp .ge 13, 3) := by decide +kernel
theorem dJ7_fill_53178_10 : decode cJ7_fill_53178 10 = .ok (.aload_n 0, 1) := by decide +kernel
theorem dJ7_fill_53178_11 : decode cJ7_fill_53178 11 = .ok (.iload_n 2, 1) := by decide +kernel
theorem dJ7_fill_53178_12 : decode cJ7_fill_53178 12 = .ok (.iload_n 1, 1) := by decide +kernel
theorem dJ7_fill_53178_13 : decode cJ7_fill_53178 13 = .ok (.iastore, 1) := by decide +kernel
theorem dJ7_fill_53178_14 : decode cJ7_fill_53178 14 = .ok (.iinc 2 1, 3) := by decide +kernel
theorem dJ7_fill_53178_17 : decode cJ7_fill_53178 17 = .ok (.goto (-12), 3) := by decide +kernel
theorem dJ7_fill_53178_20 : decode cJ7_fill_53178 20 = .ok (.return_, 1) := by decide +kernel
theorem dL_law_0 : decode cL_law 0 = .ok (.new 7, 3) := by decide +kernel
theorem dL_law_3 : decode cL_law 3 = .ok (.dup, 1) := by decide +kernel
theorem dL_law_4 : decode cL_law 4 = .ok (.invokespecial 9, 3) := by decide +kernel
theorem dL_law_7 : decode cL_law 7 = .ok (.astore_n 1, 1) := by decide +kernel
theorem dL_law_8 : decode cL_law 8 = .ok (.new 10, 3) := by decide +kernel
theorem dL_law_11 : decode cL_law 11 = .ok (.dup, 1) := by decide +kernel
theorem dL_law_12 : decode cL_law 12 = .ok (.invokespecial 12, 3) := by decide +kernel
theorem dL_law_15 : decode cL_law 15 = .ok (.astore_n 2, 1) := by decide +kernel
theorem dL_law_16 : decode cL_law 16 = .ok (.iconst 0, 1) := by decide +kernel
theorem dL_law_17 : decode cL_law 17 = .ok (.istore_n 3, 1) := by decide +kernel
theorem dL_law_18 : decode cL_law 18 = .ok (.iload_n 3, 1) := by decide +kernel
theorem dL_law_19 : decode cL_law 19 = .ok (.aload_n 0, 1) := by decide +kernel
theorem dL_law_20 : decode cL_law 20 = .ok (.arraylength, 1) := by decide +kernel
theorem dL_law_21 : decode cL_law 21 = .ok (.bipush 6, 2) := by decide +kernel
theorem dL_law_23 : decode cL_law 23 = .ok (.isub, 1) := by decide +kernel
theorem dL_law_24 : decode cL_law 24 = .ok (.if_icmp .gt 1150, 3) := by decide +kernel
theorem dL_law_27 : decode cL_law 27 = .ok (.aload_n 0, 1) := by decide +kernel
theorem dL_law_28 : decode cL_law 28 = .ok (.iload_n 3, 1) := by decide +kernel
theorem dL_law_29 : decode cL_law 29 = .ok (.iaload, 1) := by decide +kernel
theorem dL_law_30 : decode cL_law 30 = .ok (.bipush 31, 2) := by decide +kernel
theorem dL_law_32 : decode cL_law 32 = .ok (.iand, 1) := by decide +kernel
theorem dL_law_33 : decode cL_law 33 = .ok (.tableswitch 1135 0 29 #[135, 179, 213, 247, 281, 315, 349, 383, 417, 451, 485, 509, 553, 587, 611, 645, 679, 713, 747, 761, 785, 829, 853, 887, 921, 945, 979, 1023, 1087, 1111], 135) := by decide +kernel
theorem dL_law_168 : decode cL_law 168 = .ok (.aload_n 1, 1) := by decide +kernel
theorem dL_law_169 : decode cL_law 169 = .ok (.aload_n 0, 1) := by decide +kernel
theorem dL_law_170 : decode cL_law 170 = .ok (.iload_n 3, 1) := by decide +kernel
theorem dL_law_171 : decode cL_law 171 = .ok (.iconst 1, 1) := by decide +kernel
theorem dL_law_172 : decode cL_law 172 = .ok (.iadd, 1) := by decide +kernel
theorem dL_law_173 : decode cL_law 173 = .ok (.iaload, 1) := by decide +kernel
theorem dL_law_174 : decode cL_law 174 = .ok (.aload_n 0, 1) := by decide +kernel
theorem dL_law_175 : decode cL_law 175 = .ok (.iload_n 3, 1) := by decide +kernel
theorem dL_law_176 : decode cL_law 176 = .ok (.iconst 2, 1) := by decide +kernel
theorem dL_law_177 : decode cL_law 177 = .ok (.iadd, 1) := by decide +kernel
theorem dL_law_178 : decode cL_law 178 = .ok (.iaload, 1) := by decide +kernel
theorem dL_law_179 : decode cL_law 179 = .ok (.aload_n 0, 1) := by decide +kernel
theorem dL_law_180 : decode cL_law 180 = .ok (.iload_n 3, 1) := by decide +kernel
theorem dL_law_181 : decode cL_law 181 = .ok (.iconst 3, 1) := by decide +kernel
theorem dL_law_182 : decode cL_law 182 = .ok (.iadd, 1) := by decide +kernel
theorem dL_law_183 : decode cL_law 183 = .ok (.iaload, 1) := by decide +kernel
theorem dL_law_184 : decode cL_law 184 = .ok (.invokevirtual 13, 3) := by decide +kernel
theorem dL_law_187 : decode cL_law 187 = .ok (.aload_n 2, 1) := by decide +kernel
theorem dL_law_188 : decode cL_law 188 = .ok (.aload_n 0, 1) := by decide +kernel
theorem dL_law_189 : decode cL_law 189 = .ok (.iload_n 3, 1) := by decide +kernel
theorem dL_law_190 : decode cL_law 190 = .ok (.iconst 1, 1) := by decide +kernel
theorem dL_law_191 : decode cL_law 191 = .ok (.iadd, 1) := by decide +kernel
theorem dL_law_192 : decode cL_law 192 = .ok (.iaload, 1) := by decide +kernel
theorem dL_law_193 : decode cL_law 193 = .ok (.aload_n 0, 1) := by decide +kernel
theorem dL_law_194 : decode cL_law 194 = .ok (.iload_n 3, 1) := by decide +kernel
theorem dL_law_195 : decode cL_law 195 = .ok (.iconst 2, 1) := by decide +kernel
theorem dL_law_196 : decode cL_law 196 = .ok (.iadd, 1) := by decide +kernel
theorem dL_law_197 : decode cL_law 197 = .ok (.iaload, 1) := by decide +kernel
theorem dL_law_198 : decode cL_law 198 = .ok (.aload_n 0, 1) := by decide +kernel
theorem dL_law_199 : decode cL_law 199 = .ok (.iload_n 3, 1) := by decide +kernel
theorem dL_law_200 : decode cL_law 200 = .ok (.iconst 3, 1) := by decide +kernel
theorem dL_law_201 : decode cL_law 201 = .ok (.iadd, 1) := by decide +kernel
theorem dL_law_202 : decode cL_law 202 = .ok (.iaload, 1) := by decide +kernel
theorem dL_law_203 : decode cL_law 203 = .ok (.invokevirtual 17, 3) := by decide +kernel
theorem dL_law_206 : decode cL_law 206 = .ok (.lcmp, 1) := by decide +kernel
theorem dL_law_207 : decode cL_law 207 = .ok (.ifCond .eq 961, 3) := by decide +kernel
theorem dL_law_210 : decode cL_law 210 = .ok (.iconst 0, 1) := by decide +kernel
theorem dL_law_211 : decode cL_law 211 = .ok (.ireturn, 1) := by decide +kernel
theorem dL_law_212 : decode cL_law 212 = .ok (.aload_n 1, 1) := by decide +kernel
theorem dL_law_213 : decode cL_law 213 = .ok (.aload_n 0, 1) := by decide +kernel
theorem dL_law_214 : decode cL_law 214 = .ok (.iload_n 3, 1) := by decide +kernel
theorem dL_law_215 : decode cL_law 215 = .ok (.iconst 1, 1) := by decide +kernel
theorem dL_law_216 : decode cL_law 216 = .ok (.iadd, 1) := by decide +kernel
theorem dL_law_217 : decode cL_law 217 = .ok (.iaload, 1) := by decide +kernel
theorem dL_law_218 : decode cL_law 218 = .ok (.aload_n 0, 1) := by decide +kernel
theorem dL_law_219 : decode cL_law 219 = .ok (.iload_n 3, 1) := by decide +kernel
theorem dL_law_220 : decode cL_law 220 = .ok (.iconst 2, 1) := by decide +kernel
theorem dL_law_221 : decode cL_law 221 = .ok (.iadd, 1) := by decide +kernel
theorem dL_law_222 : decode cL_law 222 = .ok (.iaload, 1) := by decide +kernel
theorem dL_law_223 : decode cL_law 223 = .ok (.invokevirtual 18, 3) := by decide +kernel
theorem dL_law_226 : decode cL_law 226 = .ok (.aload_n 2, 1) := by decide +kernel
theorem dL_law_227 : decode cL_law 227 = .ok (.aload_n 0, 1) := by decide +kernel
theorem dL_law_228 : decode cL_law 228 = .ok (.iload_n 3, 1) := by decide +kernel
theorem dL_law_229 : decode cL_law 229 = .ok (.iconst 1, 1) := by decide +kernel
theorem dL_law_230 : decode cL_law 230 = .ok (.iadd, 1) := by decide +kernel
theorem dL_law_231 : decode cL_law 231 = .ok (.iaload, 1) := by decide +kernel
theorem dL_law_232 : decode cL_law 232 = .ok (.aload_n 0, 1) := by decide +kernel
theorem dL_law_233 : decode cL_law 233 = .ok (.iload_n 3, 1) := by decide +kernel
theorem dL_law_234 : decode cL_law 234 = .ok (.iconst 2, 1) := by decide +kernel
theorem dL_law_235 : decode cL_law 235 = .ok (.iadd, 1) := by decide +kernel
theorem dL_law_236 : decode cL_law 236 = .ok (.iaload, 1) := by decide +kernel
theorem dL_law_237 : decode cL_law 237 = .ok (.invokevirtual 22, 3) := by decide +kernel
theorem dL_law_240 : decode cL_law 240 = .ok (.lcmp, 1) := by decide +kernel
theorem dL_law_241 : decode cL_law 241 = .ok (.ifCond .eq 927, 3) := by decide +kernel
theorem dL_law_244 : decode cL_law 244 = .ok (.iconst 0, 1) := by decide +kernel
theorem dL_law_245 : decode cL_law 245 = .ok (.ireturn, 1) := by decide +kernel
theorem dL_law_246 : decode cL_law 246 = .ok (.aload_n 1, 1) := by decide +kernel
theorem dL_law_247 : decode cL_law 247 = .ok (.aload_n 0, 1) := by decide +kernel
theorem dL_law_248 : decode cL_law 248 = .ok (.iload_n 3, 1) := by decide +kernel
theorem dL_law_249 : decode cL_law 249 = .ok (.iconst 1, 1) := by decide +kernel
theorem dL_law_250 : decode cL_law 250 = .ok (.iadd, 1) := by decide +kernel
theorem dL_law_251 : decode cL_law 251 = .ok (.iaload, 1) := by decide +kernel
theorem dL_law_252 : decode cL_law 252 = .ok (.aload_n 0, 1) := by decide +kernel
theorem dL_law_253 : decode cL_law 253 = .ok (.iload_n 3, 1) := by decide +kernel
theorem dL_law_254 : decode cL_law 254 = .ok (.iconst 2, 1) := by decide +kernel
theorem dL_law_255 : decode cL_law 255 = .ok (.iadd, 1) := by decide +kernel
theorem dL_law_256 : decode cL_law 256 = .ok (.iaload, 1) := by decide +kernel
theorem dL_law_257 : decode cL_law 257 = .ok (.invokevirtual 23, 3) := by decide +kernel
theorem dL_law_260 : decode cL_law 260 = .ok (.aload_n 2, 1) := by decide +kernel
theorem dL_law_261 : decode cL_law 261 = .ok (.aload_n 0, 1) := by decide +kernel
theorem dL_law_262 : decode cL_law 262 = .ok (.iload_n 3, 1) := by decide +kernel
theorem dL_law_263 : decode cL_law 263 = .ok (.iconst 1, 1) := by decide +kernel
theorem dL_law_264 : decode cL_law 264 = .ok (.iadd, 1) := by decide +kernel
theorem dL_law_265 : decode cL_law 265 = .ok (.iaload, 1) := by decide +kernel
theorem dL_law_266 : decode cL_law 266 = .ok (.aload_n 0, 1) := by decide +kernel
theorem dL_law_267 : decode cL_law 267 = .ok (.iload_n 3, 1) := by decide +kernel
theorem dL_law_268 : decode cL_law 268 = .ok (.iconst 2, 1) := by decide +kernel
theorem dL_law_269 : decode cL_law 269 = .ok (.iadd, 1) := by decide +kernel
theorem dL_law_270 : decode cL_law 270 = .ok (.iaload, 1) := by decide +kernel
theorem dL_law_271 : decode cL_law 271 = .ok (.invokevirtual 26, 3) := by decide +kernel
theorem dL_law_274 : decode cL_law 274 = .ok (.lcmp, 1) := by decide +kernel
theorem dL_law_275 : decode cL_law 275 = .ok (.ifCond .eq 893, 3) := by decide +kernel
theorem dL_law_278 : decode cL_law 278 = .ok (.iconst 0, 1) := by decide +kernel
theorem dL_law_279 : decode cL_law 279 = .ok (.ireturn, 1) := by decide +kernel
theorem dL_law_280 : decode cL_law 280 = .ok (.aload_n 1, 1) := by decide +kernel
theorem dL_law_281 : decode cL_law 281 = .ok (.aload_n 0, 1) := by decide +kernel
theorem dL_law_282 : decode cL_law 282 = .ok (.iload_n 3, 1) := by decide +kernel
theorem dL_law_283 : decode cL_law 283 = .ok (.iconst 1, 1) := by decide +kernel
theorem dL_law_284 : decode cL_law 284 = .ok (.iadd, 1) := by decide +kernel
theorem dL_law_285 : decode cL_law 285 = .ok (.iaload, 1) := by decide +kernel
theorem dL_law_286 : decode cL_law 286 = .ok (.aload_n 0, 1) := by decide +kernel
theorem dL_law_287 : decode cL_law 287 = .ok (.iload_n 3, 1) := by decide +kernel
theorem dL_law_288 : decode cL_law 288 = .ok (.iconst 2, 1) := by decide +kernel
theorem dL_law_289 : decode cL_law 289 = .ok (.iadd, 1) := by decide +kernel
theorem dL_law_290 : decode cL_law 290 = .ok (.iaload, 1) := by decide +kernel
theorem dL_law_291 : decode cL_law 291 = .ok (.invokevirtual 27, 3) := by decide +kernel
theorem dL_law_294 : decode cL_law 294 = .ok (.aload_n 2, 1) := by decide +kernel
theorem dL_law_295 : decode cL_law 295 = .ok (.aload_n 0, 1) := by decide +kernel
theorem dL_law_296 : decode cL_law 296 = .ok (.iload_n 3, 1) := by decide +kernel
theorem dL_law_297 : decode cL_law 297 = .ok (.iconst 1, 1) := by decide +kernel
theorem dL_law_298 : decode cL_law 298 = .ok (.iadd, 1) := by decide +kernel
theorem dL_law_299 : decode cL_law 299 = .ok (.iaload, 1) := by decide +kernel
theorem dL_law_300 : decode cL_law 300 = .ok (.aload_n 0, 1) := by decide +kernel
theorem dL_law_301 : decode cL_law 301 = .ok (.iload_n 3, 1) := by decide +kernel
theorem dL_law_302 : decode cL_law 302 = .ok (.iconst 2, 1) := by decide +kernel
theorem dL_law_303 : decode cL_law 303 = .ok (.iadd, 1) := by decide +kernel
theorem dL_law_304 : decode cL_law 304 = .ok (.iaload, 1) := by decide +kernel
theorem dL_law_305 : decode cL_law 305 = .ok (.invokevirtual 30, 3) := by decide +kernel
theorem dL_law_308 : decode cL_law 308 = .ok (.lcmp, 1) := by decide +kernel
theorem dL_law_309 : decode cL_law 309 = .ok (.ifCond .eq 859, 3) := by decide +kernel
theorem dL_law_312 : decode cL_law 312 = .ok (.iconst 0, 1) := by decide +kernel
theorem dL_law_313 : decode cL_law 313 = .ok (.ireturn, 1) := by decide +kernel
theorem dL_law_314 : decode cL_law 314 = .ok (.aload_n 1, 1) := by decide +kernel
theorem dL_law_315 : decode cL_law 315 = .ok (.aload_n 0, 1) := by decide +kernel
theorem dL_law_316 : decode cL_law 316 = .ok (.iload_n 3, 1) := by decide +kernel
theorem dL_law_317 : decode cL_law 317 = .ok (.iconst 1, 1) := by decide +kernel
theorem dL_law_318 : decode cL_law 318 = .ok (.iadd, 1) := by decide +kernel
theorem dL_law_319 : decode cL_law 319 = .ok (.iaload, 1) := by decide +kernel
theorem dL_law_320 : decode cL_law 320 = .ok (.aload_n 0, 1) := by decide +kernel
theorem dL_law_321 : decode cL_law 321 = .ok (.iload_n 3, 1) := by decide +kernel
theorem dL_law_322 : decode cL_law 322 = .ok (.iconst 2, 1) := by decide +kernel
theorem dL_law_323 : decode cL_law 323 = .ok (.iadd, 1) := by decide +kernel
theorem dL_law_324 : decode cL_law 324 = .ok (.iaload, 1) := by decide +kernel
theorem dL_law_325 : decode cL_law 325 = .ok (.invokevirtual 31, 3) := by decide +kernel
theorem dL_law_328 : decode cL_law 328 = .ok (.aload_n 2, 1) := by decide +kernel
theorem dL_law_329 : decode cL_law 329 = .ok (.aload_n 0, 1) := by decide +kernel
theorem dL_law_330 : decode cL_law 330 = .ok (.iload_n 3, 1) := by decide +kernel
theorem dL_law_331 : decode cL_law 331 = .ok (.iconst 1, 1) := by decide +kernel
theorem dL_law_332 : decode cL_law 332 = .ok (.iadd, 1) := by decide +kernel
theorem dL_law_333 : decode cL_law 333 = .ok (.iaload, 1) := by decide +kernel
theorem dL_law_334 : decode cL_law 334 = .ok (.aload_n 0, 1) := by decide +kernel
theorem dL_law_335 : decode cL_law 335 = .ok (.iload_n 3, 1) := by decide +kernel
theorem dL_law_336 : decode cL_law 336 = .ok (.iconst 2, 1) := by decide +kernel
theorem dL_law_337 : decode cL_law 337 = .ok (.iadd, 1) := by decide +kernel
theorem dL_law_338 : decode cL_law 338 = .ok (.iaload, 1) := by decide +kernel
theorem dL_law_339 : decode cL_law 339 = .ok (.invokevirtual 34, 3) := by decide +kernel
theorem dL_law_342 : decode cL_law 342 = .ok (.lcmp, 1) := by decide +kernel
theorem dL_law_343 : decode cL_law 343 = .ok (.ifCond .eq 825, 3) := by decide +kernel
theorem dL_law_346 : decode cL_law 346 = .ok (.iconst 0, 1) := by decide +kernel
theorem dL_law_347 : decode cL_law 347 = .ok (.ireturn, 1) := by decide +kernel
theorem dL_law_348 : decode cL_law 348 = .ok (.aload_n 1, 1) := by decide +kernel
theorem dL_law_349 : decode cL_law 349 = .ok (.aload_n 0, 1) := by decide +kernel
theorem dL_law_350 : decode cL_law 350 = .ok (.iload_n 3, 1) := by decide +kernel
theorem dL_law_351 : decode cL_law 351 = .ok (.iconst 1, 1) := by decide +kernel
theorem dL_law_352 : decode cL_law 352 = .ok (.iadd, 1) := by decide +kernel
theorem dL_law_353 : decode cL_law 353 = .ok (.iaload, 1) := by decide +kernel
theorem dL_law_354 : decode cL_law 354 = .ok (.aload_n 0, 1) := by decide +kernel
theorem dL_law_355 : decode cL_law 355 = .ok (.iload_n 3, 1) := by decide +kernel
theorem dL_law_356 : decode cL_law 356 = .ok (.iconst 2, 1) := by decide +kernel
theorem dL_law_357 : decode cL_law 357 = .ok (.iadd, 1) := by decide +kernel
theorem dL_law_358 : decode cL_law 358 = .ok (.iaload, 1) := by decide +kernel
theorem dL_law_359 : decode cL_law 359 = .ok (.invokevirtual 35, 3) := by decide +kernel
theorem dL_law_362 : decode cL_law 362 = .ok (.aload_n 2, 1) := by decide +kernel
theorem dL_law_363 : decode cL_law 363 = .ok (.aload_n 0, 1) := by decide +kernel
theorem dL_law_364 : decode cL_law 364 = .ok (.iload_n 3, 1) := by decide +kernel
theorem dL_law_365 : decode cL_law 365 = .ok (.iconst 1, 1) := by decide +kernel
theorem dL_law_366 : decode cL_law 366 = .ok (.iadd, 1) := by decide +kernel
theorem dL_law_367 : decode cL_law 367 = .ok (.iaload, 1) := by decide +kernel
theorem dL_law_368 : decode cL_law 368 = .ok (.aload_n 0, 1) := by decide +kernel
theorem dL_law_369 : decode cL_law 369 = .ok (.iload_n 3, 1) := by decide +kernel
theorem dL_law_370 : decode cL_law 370 = .ok (.iconst 2, 1) := by decide +kernel
theorem dL_law_371 : decode cL_law 371 = .ok (.iadd, 1) := by decide +kernel
theorem dL_law_372 : decode cL_law 372 = .ok (.iaload, 1) := by decide +kernel
theorem dL_law_373 : decode cL_law 373 = .ok (.invokevirtual 38, 3) := by decide +kernel
theorem dL_law_376 : decode cL_law 376 = .ok (.lcmp, 1) := by decide +kernel
theorem dL_law_377 : decode cL_law 377 = .ok (.ifCond .eq 791, 3) := by decide +kernel
theorem dL_law_380 : decode cL_law 380 = .ok (.iconst 0, 1) := by decide +kernel
theorem dL_law_381 : decode cL_law 381 = .ok (.ireturn, 1) := by decide +kernel
theorem dL_law_382 : decode cL_law 382 = .ok (.aload_n 1, 1) := by decide +kernel
theorem dL_law_383 : decode cL_law 383 = .ok (.aload_n 0, 1) := by decide +kernel
theorem dL_law_384 : decode cL_law 384 = .ok (.iload_n 3, 1) := by decide +kernel
theorem dL_law_385 : decode cL_law 385 = .ok (.iconst 1, 1) := by decide +kernel
theorem dL_law_386 : decode cL_law 386 = .ok (.iadd, 1) := by decide +kernel
theorem dL_law_387 : decode cL_law 387 = .ok (.iaload, 1) := by decide +kernel
theorem dL_law_388 : decode cL_law 388 = .ok (.aload_n 0, 1) := by decide +kernel
theorem dL_law_389 : decode cL_law 389 = .ok (.iload_n 3, 1) := by decide +kernel
theorem dL_law_390 : decode cL_law 390 = .ok (.iconst 2, 1) := by decide +kernel
theorem dL_law_391 : decode cL_law 391 = .ok (.iadd, 1) := by decide +kernel
theorem dL_law_392 : decode cL_law 392 = .ok (.iaload, 1) := by decide +kernel
theorem dL_law_393 : decode cL_law 393 = .ok (.invokevirtual 39, 3) := by decide +kernel
theorem dL_law_396 : decode cL_law 396 = .ok (.aload_n 2, 1) := by decide +kernel
theorem dL_law_397 : decode cL_law 397 = .ok (.aload_n 0, 1) := by decide +kernel
theorem dL_law_398 : decode cL_law 398 = .ok (.iload_n 3, 1) := by decide +kernel
theorem dL_law_399 : decode cL_law 399 = .ok (.iconst 1, 1) := by decide +kernel
theorem dL_law_400 : decode cL_law 400 = .ok (.iadd, 1) := by decide +kernel
theorem dL_law_401 : decode cL_law 401 = .ok (.iaload, 1) := by decide +kernel
theorem dL_law_402 : decode cL_law 402 = .ok (.aload_n 0, 1) := by decide +kernel
theorem dL_law_403 : decode cL_law 403 = .ok (.iload_n 3, 1) := by decide +kernel
theorem dL_law_404 : decode cL_law 404 = .ok (.iconst 2, 1) := by decide +kernel
theorem dL_law_405 : decode cL_law 405 = .ok (.iadd, 1) := by decide +kernel
theorem dL_law_406 : decode cL_law 406 = .ok (.iaload, 1) := by decide +kernel
theorem dL_law_407 : decode cL_law 407 = .ok (.invokevirtual 42, 3) := by decide +kernel
theorem dL_law_410 : decode cL_law 410 = .ok (.lcmp, 1) := by decide +kernel
theorem dL_law_411 : decode cL_law 411 = .ok (.ifCond .eq 757, 3) := by decide +kernel
theorem dL_law_414 : decode cL_law 414 = .ok (.iconst 0, 1) := by decide +kernel
theorem dL_law_415 : decode cL_law 415 = .ok (.ireturn, 1) := by decide +kernel
theorem dL_law_416 : decode cL_law 416 = .ok (.aload_n 1, 1) := by decide +kernel
theorem dL_law_417 : decode cL_law 417 = .ok (.aload_n 0, 1) := by decide +kernel
theorem dL_law_418 : decode cL_law 418 = .ok (.iload_n 3, 1) := by decide +kernel
theorem dL_law_419 : decode cL_law 419 = .ok (.iconst 1, 1) := by decide +kernel
theorem dL_law_420 : decode cL_law 420 = .ok (.iadd, 1) := by decide +kernel
theorem dL_law_421 : decode cL_law 421 = .ok (.iaload, 1) := by decide +kernel
theorem dL_law_422 : decode cL_law 422 = .ok (.aload_n 0, 1) := by decide +kernel
theorem dL_law_423 : decode cL_law 423 = .ok (.iload_n 3, 1) := by decide +kernel
theorem dL_law_424 : decode cL_law 424 = .ok (.iconst 2, 1) := by decide +kernel
theorem dL_law_425 : decode cL_law 425 = .ok (.iadd, 1) := by decide +kernel
theorem dL_law_426 : decode cL_law 426 = .ok (.iaload, 1) := by decide +kernel
theorem dL_law_427 : decode cL_law 427 = .ok (.invokevirtual 43, 3) := by decide +kernel
theorem dL_law_430 : decode cL_law 430 = .ok (.aload_n 2, 1) := by decide +kernel
theorem dL_law_431 : decode cL_law 431 = .ok (.aload_n 0, 1) := by decide +kernel
theorem dL_law_432 : decode cL_law 432 = .ok (.iload_n 3, 1) := by decide +kernel
theorem dL_law_433 : decode cL_law 433 = .ok (.iconst 1, 1) := by decide +kernel
theorem dL_law_434 : decode cL_law 434 = .ok (.iadd, 1) := by decide +kernel
theorem dL_law_435 : decode cL_law 435 = .ok (.iaload, 1) := by decide +kernel
theorem dL_law_436 : decode cL_law 436 = .ok (.aload_n 0, 1) := by decide +kernel
theorem dL_law_437 : decode cL_law 437 = .ok (.iload_n 3, 1) := by decide +kernel
theorem dL_law_438 : decode cL_law 438 = .ok (.iconst 2, 1) := by decide +kernel
theorem dL_law_439 : decode cL_law 439 = .ok (.iadd, 1) := by decide +kernel
theorem dL_law_440 : decode cL_law 440 = .ok (.iaload, 1) := by decide +kernel
theorem dL_law_441 : decode cL_law 441 = .ok (.invokevirtual 46, 3) := by decide +kernel
theorem dL_law_444 : decode cL_law 444 = .ok (.lcmp, 1) := by decide +kernel
theorem dL_law_445 : decode cL_law 445 = .ok (.ifCond .eq 723, 3) := by decide +kernel
theorem dL_law_448 : decode cL_law 448 = .ok (.iconst 0, 1) := by decide +kernel
theorem dL_law_449 : decode cL_law 449 = .ok (.ireturn, 1) := by decide +kernel
theorem dL_law_450 : decode cL_law 450 = .ok (.aload_n 1, 1) := by decide +kernel
theorem dL_law_451 : decode cL_law 451 = .ok (.aload_n 0, 1) := by decide +kernel
theorem dL_law_452 : decode cL_law 452 = .ok (.iload_n 3, 1) := by decide +kernel
theorem dL_law_453 : decode cL_law 453 = .ok (.iconst 1, 1) := by decide +kernel
theorem dL_law_454 : decode cL_law 454 = .ok (.iadd, 1) := by decide +kernel
theorem dL_law_455 : decode cL_law 455 = .ok (.iaload, 1) := by decide +kernel
theorem dL_law_456 : decode cL_law 456 = .ok (.aload_n 0, 1) := by decide +kernel
theorem dL_law_457 : decode cL_law 457 = .ok (.iload_n 3, 1) := by decide +kernel
theorem dL_law_458 : decode cL_law 458 = .ok (.iconst 2, 1) := by decide +kernel
theorem dL_law_459 : decode cL_law 459 = .ok (.iadd, 1) := by decide +kernel
theorem dL_law_460 : decode cL_law 460 = .ok (.iaload, 1) := by decide +kernel
theorem dL_law_461 : decode cL_law 461 = .ok (.invokevirtual 47, 3) := by decide +kernel
theorem dL_law_464 : decode cL_law 464 = .ok (.aload_n 2, 1) := by decide +kernel
theorem dL_law_465 : decode cL_law 465 = .ok (.aload_n 0, 1) := by decide +kernel
theorem dL_law_466 : decode cL_law 466 = .ok (.iload_n 3, 1) := by decide +kernel
theorem dL_law_467 : decode cL_law 467 = .ok (.iconst 1, 1) := by decide +kernel
theorem dL_law_468 : decode cL_law 468 = .ok (.iadd, 1) := by decide +kernel
theorem dL_law_469 : decode cL_law 469 = .ok (.iaload, 1) := by decide +kernel
theorem dL_law_470 : decode cL_law 470 = .ok (.aload_n 0, 1) := by decide +kernel
theorem dL_law_471 : decode cL_law 471 = .ok (.iload_n 3, 1) := by decide +kernel
theorem dL_law_472 : decode cL_law 472 = .ok (.iconst 2, 1) := by decide +kernel
theorem dL_law_473 : decode cL_law 473 = .ok (.iadd, 1) := by decide +kernel
theorem dL_law_474 : decode cL_law 474 = .ok (.iaload, 1) := by decide +kernel
theorem dL_law_475 : decode cL_law 475 = .ok (.invokevirtual 50, 3) := by decide +kernel
theorem dL_law_478 : decode cL_law 478 = .ok (.lcmp, 1) := by decide +kernel
theorem dL_law_479 : decode cL_law 479 = .ok (.ifCond .eq 689, 3) := by decide +kernel
theorem dL_law_482 : decode cL_law 482 = .ok (.iconst 0, 1) := by decide +kernel
theorem dL_law_483 : decode cL_law 483 = .ok (.ireturn, 1) := by decide +kernel
theorem dL_law_484 : decode cL_law 484 = .ok (.aload_n 1, 1) := by decide +kernel
theorem dL_law_485 : decode cL_law 485 = .ok (.aload_n 0, 1) := by decide +kernel
theorem dL_law_486 : decode cL_law 486 = .ok (.iload_n 3, 1) := by decide +kernel
theorem dL_law_487 : decode cL_law 487 = .ok (.iconst 1, 1) := by decide +kernel
theorem dL_law_488 : decode cL_law 488 = .ok (.iadd, 1) := by decide +kernel
theorem dL_law_489 : decode cL_law 489 = .ok (.iaload, 1) := by decide +kernel
theorem dL_law_490 : decode cL_law 490 = .ok (.aload_n 0, 1) := by decide +kernel
theorem dL_law_491 : decode cL_law 491 = .ok (.iload_n 3, 1) := by decide +kernel
theorem dL_law_492 : decode cL_law 492 = .ok (.iconst 2, 1) := by decide +kernel
theorem dL_law_493 : decode cL_law 493 = .ok (.iadd, 1) := by decide +kernel
theorem dL_law_494 : decode cL_law 494 = .ok (.iaload, 1) := by decide +kernel
theorem dL_law_495 : decode cL_law 495 = .ok (.invokevirtual 51, 3) := by decide +kernel
