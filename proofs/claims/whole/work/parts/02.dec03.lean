theorem dX6_copyRun_0 : decode cX6_copyRun 0 = .ok (.aload_n 0, 1) := by decide +kernel
theorem dX6_copyRun_1 : decode cX6_copyRun 1 = .ok (.getfield 9, 3) := by decide +kernel
theorem dX6_copyRun_4 : decode cX6_copyRun 4 = .ok (.iload_n 1, 1) := by decide +kernel
theorem dX6_copyRun_5 : decode cX6_copyRun 5 = .ok (.bipush 12, 2) := by decide +kernel
theorem dX6_copyRun_7 : decode cX6_copyRun 7 = .ok (.imul, 1) := by decide +kernel
theorem dX6_copyRun_8 : decode cX6_copyRun 8 = .ok (.iload_n 2, 1) := by decide +kernel
theorem dX6_copyRun_9 : decode cX6_copyRun 9 = .ok (.iadd, 1) := by decide +kernel
theorem dX6_copyRun_10 : decode cX6_copyRun 10 = .ok (.aload_n 0, 1) := by decide +kernel
theorem dX6_copyRun_11 : decode cX6_copyRun 11 = .ok (.getfield 9, 3) := by decide +kernel
theorem dX6_copyRun_14 : decode cX6_copyRun 14 = .ok (.iload_n 3, 1) := by decide +kernel
theorem dX6_copyRun_15 : decode cX6_copyRun 15 = .ok (.bipush 12, 2) := by decide +kernel
theorem dX6_copyRun_17 : decode cX6_copyRun 17 = .ok (.imul, 1) := by decide +kernel
theorem dX6_copyRun_18 : decode cX6_copyRun 18 = .ok (.iload 4, 2) := by decide +kernel
theorem dX6_copyRun_20 : decode cX6_copyRun 20 = .ok (.iadd, 1) := by decide +kernel
theorem dX6_copyRun_21 : decode cX6_copyRun 21 = .ok (.iload 5, 2) := by decide +kernel
theorem dX6_copyRun_23 : decode cX6_copyRun 23 = .ok (.invokestatic 19, 3) := by decide +kernel
theorem dX6_copyRun_26 : decode cX6_copyRun 26 = .ok (.return_, 1) := by decide +kernel
theorem dX6_present_0 : decode cX6_present 0 = .ok (.iconst 0, 1) := by decide +kernel
theorem dX6_present_1 : decode cX6_present 1 = .ok (.istore_n 1, 1) := by decide +kernel
theorem dX6_present_2 : decode cX6_present 2 = .ok (.iconst 0, 1) := by decide +kernel
theorem dX6_present_3 : decode cX6_present 3 = .ok (.istore_n 2, 1) := by decide +kernel
theorem dX6_present_4 : decode cX6_present 4 = .ok (.iload_n 2, 1) := by decide +kernel
theorem dX6_present_5 : decode cX6_present 5 = .ok (.iconst 2, 1) := by decide +kernel
theorem dX6_present_6 : decode cX6_present 6 = .ok (.if_icmp .ge 20, 3) := by decide +kernel
theorem dX6_present_9 : decode cX6_present 9 = .ok (.aload_n 0, 1) := by decide +kernel
theorem dX6_present_10 : decode cX6_present 10 = .ok (.iload_n 2, 1) := by decide +kernel
theorem dX6_present_11 : decode cX6_present 11 = .ok (.invokevirtual 25, 3) := by decide +kernel
theorem dX6_present_14 : decode cX6_present 14 = .ok (.ifCond .ne 6, 3) := by decide +kernel
theorem dX6_present_17 : decode cX6_present 17 = .ok (.iinc 1 1, 3) := by decide +kernel
theorem dX6_present_20 : decode cX6_present 20 = .ok (.iinc 2 1, 3) := by decide +kernel
theorem dX6_present_23 : decode cX6_present 23 = .ok (.goto (-19), 3) := by decide +kernel
theorem dX6_present_26 : decode cX6_present 26 = .ok (.iload_n 1, 1) := by decide +kernel
theorem dX6_present_27 : decode cX6_present 27 = .ok (.ireturn, 1) := by decide +kernel
theorem dX7_init_0 : decode cX7_init 0 = .ok (.aload_n 0, 1) := by decide +kernel
theorem dX7_init_1 : decode cX7_init 1 = .ok (.invokespecial 1, 3) := by decide +kernel
theorem dX7_init_4 : decode cX7_init 4 = .ok (.aload_n 0, 1) := by decide +kernel
theorem dX7_init_5 : decode cX7_init 5 = .ok (.new 7, 3) := by decide +kernel
theorem dX7_init_8 : decode cX7_init 8 = .ok (.dup, 1) := by decide +kernel
theorem dX7_init_9 : decode cX7_init 9 = .ok (.invokespecial 9, 3) := by decide +kernel
theorem dX7_init_12 : decode cX7_init 12 = .ok (.putfield 10, 3) := by decide +kernel
theorem dX7_init_15 : decode cX7_init 15 = .ok (.aload_n 0, 1) := by decide +kernel
theorem dX7_init_16 : decode cX7_init 16 = .ok (.new 16, 3) := by decide +kernel
theorem dX7_init_19 : decode cX7_init 19 = .ok (.dup, 1) := by decide +kernel
theorem dX7_init_20 : decode cX7_init 20 = .ok (.invokespecial 18, 3) := by decide +kernel
theorem dX7_init_23 : decode cX7_init 23 = .ok (.putfield 19, 3) := by decide +kernel
theorem dX7_init_26 : decode cX7_init 26 = .ok (.aload_n 0, 1) := by decide +kernel
theorem dX7_init_27 : decode cX7_init 27 = .ok (.new 23, 3) := by decide +kernel
theorem dX7_init_30 : decode cX7_init 30 = .ok (.dup, 1) := by decide +kernel
theorem dX7_init_31 : decode cX7_init 31 = .ok (.invokespecial 25, 3) := by decide +kernel
theorem dX7_init_34 : decode cX7_init 34 = .ok (.putfield 26, 3) := by decide +kernel
theorem dX7_init_37 : decode cX7_init 37 = .ok (.aload_n 0, 1) := by decide +kernel
theorem dX7_init_38 : decode cX7_init 38 = .ok (.new 30, 3) := by decide +kernel
theorem dX7_init_41 : decode cX7_init 41 = .ok (.dup, 1) := by decide +kernel
theorem dX7_init_42 : decode cX7_init 42 = .ok (.invokespecial 32, 3) := by decide +kernel
theorem dX7_init_45 : decode cX7_init 45 = .ok (.putfield 33, 3) := by decide +kernel
theorem dX7_init_48 : decode cX7_init 48 = .ok (.aload_n 0, 1) := by decide +kernel
theorem dX7_init_49 : decode cX7_init 49 = .ok (.new 37, 3) := by decide +kernel
theorem dX7_init_52 : decode cX7_init 52 = .ok (.dup, 1) := by decide +kernel
theorem dX7_init_53 : decode cX7_init 53 = .ok (.invokespecial 39, 3) := by decide +kernel
theorem dX7_init_56 : decode cX7_init 56 = .ok (.putfield 40, 3) := by decide +kernel
theorem dX7_init_59 : decode cX7_init 59 = .ok (.aload_n 0, 1) := by decide +kernel
theorem dX7_init_60 : decode cX7_init 60 = .ok (.new 44, 3) := by decide +kernel
theorem dX7_init_63 : decode cX7_init 63 = .ok (.dup, 1) := by decide +kernel
theorem dX7_init_64 : decode cX7_init 64 = .ok (.invokespecial 46, 3) := by decide +kernel
theorem dX7_init_67 : decode cX7_init 67 = .ok (.putfield 47, 3) := by decide +kernel
theorem dX7_init_70 : decode cX7_init 70 = .ok (.aload_n 0, 1) := by decide +kernel
theorem dX7_init_71 : decode cX7_init 71 = .ok (.new 51, 3) := by decide +kernel
theorem dX7_init_74 : decode cX7_init 74 = .ok (.dup, 1) := by decide +kernel
theorem dX7_init_75 : decode cX7_init 75 = .ok (.invokespecial 53, 3) := by decide +kernel
theorem dX7_init_78 : decode cX7_init 78 = .ok (.putfield 54, 3) := by decide +kernel
theorem dX7_init_81 : decode cX7_init 81 = .ok (.aload_n 0, 1) := by decide +kernel
theorem dX7_init_82 : decode cX7_init 82 = .ok (.iconst 5, 1) := by decide +kernel
theorem dX7_init_83 : decode cX7_init 83 = .ok (.newarray .int, 2) := by decide +kernel
theorem dX7_init_85 : decode cX7_init 85 = .ok (.dup, 1) := by decide +kernel
theorem dX7_init_86 : decode cX7_init 86 = .ok (.iconst 0, 1) := by decide +kernel
theorem dX7_init_87 : decode cX7_init 87 = .ok (.iconst 1, 1) := by decide +kernel
theorem dX7_init_88 : decode cX7_init 88 = .ok (.iastore, 1) := by decide +kernel
theorem dX7_init_89 : decode cX7_init 89 = .ok (.dup, 1) := by decide +kernel
theorem dX7_init_90 : decode cX7_init 90 = .ok (.iconst 1, 1) := by decide +kernel
theorem dX7_init_91 : decode cX7_init 91 = .ok (.iconst 4, 1) := by decide +kernel
theorem dX7_init_92 : decode cX7_init 92 = .ok (.iastore, 1) := by decide +kernel
theorem dX7_init_93 : decode cX7_init 93 = .ok (.dup, 1) := by decide +kernel
theorem dX7_init_94 : decode cX7_init 94 = .ok (.iconst 2, 1) := by decide +kernel
theorem dX7_init_95 : decode cX7_init 95 = .ok (.iconst 0, 1) := by decide +kernel
theorem dX7_init_96 : decode cX7_init 96 = .ok (.iastore, 1) := by decide +kernel
theorem dX7_init_97 : decode cX7_init 97 = .ok (.dup, 1) := by decide +kernel
theorem dX7_init_98 : decode cX7_init 98 = .ok (.iconst 3, 1) := by decide +kernel
theorem dX7_init_99 : decode cX7_init 99 = .ok (.iconst 0, 1) := by decide +kernel
theorem dX7_init_100 : decode cX7_init 100 = .ok (.iastore, 1) := by decide +kernel
theorem dX7_init_101 : decode cX7_init 101 = .ok (.dup, 1) := by decide +kernel
theorem dX7_init_102 : decode cX7_init 102 = .ok (.iconst 4, 1) := by decide +kernel
theorem dX7_init_103 : decode cX7_init 103 = .ok (.iconst 0, 1) := by decide +kernel
theorem dX7_init_104 : decode cX7_init 104 = .ok (.iastore, 1) := by decide +kernel
theorem dX7_init_105 : decode cX7_init 105 = .ok (.putfield 58, 3) := by decide +kernel
theorem dX7_init_108 : decode cX7_init 108 = .ok (.return_, 1) := by decide +kernel
theorem dX7_newCase_0 : decode cX7_newCase 0 = .ok (.iload_n 1, 1) := by decide +kernel
theorem dX7_newCase_1 : decode cX7_newCase 1 = .ok (.invokestatic 62, 3) := by decide +kernel
theorem dX7_newCase_4 : decode cX7_newCase 4 = .ok (.ifCond .eq 23, 3) := by decide +kernel
theorem dX7_newCase_7 : decode cX7_newCase 7 = .ok (.iload_n 2, 1) := by decide +kernel
theorem dX7_newCase_8 : decode cX7_newCase 8 = .ok (.iconst 1, 1) := by decide +kernel
theorem dX7_newCase_9 : decode cX7_newCase 9 = .ok (.bipush 8, 2) := by decide +kernel
theorem dX7_newCase_11 : decode cX7_newCase 11 = .ok (.invokestatic 66, 3) := by decide +kernel
theorem dX7_newCase_14 : decode cX7_newCase 14 = .ok (.ifCond .eq 13, 3) := by decide +kernel
theorem dX7_newCase_17 : decode cX7_newCase 17 = .ok (.iload_n 3, 1) := by decide +kernel
theorem dX7_newCase_18 : decode cX7_newCase 18 = .ok (.iconst 0, 1) := by decide +kernel
theorem dX7_newCase_19 : decode cX7_newCase 19 = .ok (.bipush 100, 2) := by decide +kernel
theorem dX7_newCase_21 : decode cX7_newCase 21 = .ok (.invokestatic 66, 3) := by decide +kernel
theorem dX7_newCase_24 : decode cX7_newCase 24 = .ok (.ifCond .ne 7, 3) := by decide +kernel
theorem dX7_newCase_27 : decode cX7_newCase 27 = .ok (.ldc2_w 70, 3) := by decide +kernel
theorem dX7_newCase_30 : decode cX7_newCase 30 = .ok (.lreturn, 1) := by decide +kernel
theorem dX7_newCase_31 : decode cX7_newCase 31 = .ok (.aload_n 0, 1) := by decide +kernel
theorem dX7_newCase_32 : decode cX7_newCase 32 = .ok (.getfield 10, 3) := by decide +kernel
theorem dX7_newCase_35 : decode cX7_newCase 35 = .ok (.getfield 72, 3) := by decide +kernel
theorem dX7_newCase_38 : decode cX7_newCase 38 = .ok (.bipush 12, 2) := by decide +kernel
theorem dX7_newCase_40 : decode cX7_newCase 40 = .ok (.if_icmp .ge 17, 3) := by decide +kernel
theorem dX7_newCase_43 : decode cX7_newCase 43 = .ok (.aload_n 0, 1) := by decide +kernel
theorem dX7_newCase_44 : decode cX7_newCase 44 = .ok (.getfield 10, 3) := by decide +kernel
theorem dX7_newCase_47 : decode cX7_newCase 47 = .ok (.getfield 76, 3) := by decide +kernel
theorem dX7_newCase_50 : decode cX7_newCase 50 = .ok (.iload_n 1, 1) := by decide +kernel
theorem dX7_newCase_51 : decode cX7_newCase 51 = .ok (.iaload, 1) := by decide +kernel
theorem dX7_newCase_52 : decode cX7_newCase 52 = .ok (.bipush 6, 2) := by decide +kernel
theorem dX7_newCase_54 : decode cX7_newCase 54 = .ok (.if_icmp .lt 7, 3) := by decide +kernel
theorem dX7_newCase_57 : decode cX7_newCase 57 = .ok (.ldc2_w 79, 3) := by decide +kernel
theorem dX7_newCase_60 : decode cX7_newCase 60 = .ok (.lreturn, 1) := by decide +kernel
theorem dX7_newCase_61 : decode cX7_newCase 61 = .ok (.aload_n 0, 1) := by decide +kernel
theorem dX7_newCase_62 : decode cX7_newCase 62 = .ok (.getfield 10, 3) := by decide +kernel
theorem dX7_newCase_65 : decode cX7_newCase 65 = .ok (.iload_n 1, 1) := by decide +kernel
theorem dX7_newCase_66 : decode cX7_newCase 66 = .ok (.iload_n 2, 1) := by decide +kernel
theorem dX7_newCase_67 : decode cX7_newCase 67 = .ok (.iload_n 3, 1) := by decide +kernel
theorem dX7_newCase_68 : decode cX7_newCase 68 = .ok (.invokevirtual 81, 3) := by decide +kernel
theorem dX7_newCase_71 : decode cX7_newCase 71 = .ok (.i2l, 1) := by decide +kernel
theorem dX7_newCase_72 : decode cX7_newCase 72 = .ok (.lreturn, 1) := by decide +kernel
theorem dX7_witness_0 : decode cX7_witness 0 = .ok (.iload_n 1, 1) := by decide +kernel
theorem dX7_witness_1 : decode cX7_witness 1 = .ok (.iconst 0, 1) := by decide +kernel
theorem dX7_witness_2 : decode cX7_witness 2 = .ok (.iconst 4, 1) := by decide +kernel
theorem dX7_witness_3 : decode cX7_witness 3 = .ok (.invokestatic 66, 3) := by decide +kernel
theorem dX7_witness_6 : decode cX7_witness 6 = .ok (.ifCond .eq 13, 3) := by decide +kernel
theorem dX7_witness_9 : decode cX7_witness 9 = .ok (.iload_n 2, 1) := by decide +kernel
theorem dX7_witness_10 : decode cX7_witness 10 = .ok (.iconst 0, 1) := by decide +kernel
theorem dX7_witness_11 : decode cX7_witness 11 = .ok (.bipush 12, 2) := by decide +kernel
theorem dX7_witness_13 : decode cX7_witness 13 = .ok (.invokestatic 66, 3) := by decide +kernel
theorem dX7_witness_16 : decode cX7_witness 16 = .ok (.ifCond .ne 7, 3) := by decide +kernel
theorem dX7_witness_19 : decode cX7_witness 19 = .ok (.ldc2_w 70, 3) := by decide +kernel
theorem dX7_witness_22 : decode cX7_witness 22 = .ok (.lreturn, 1) := by decide +kernel
theorem dX7_witness_23 : decode cX7_witness 23 = .ok (.aload_n 0, 1) := by decide +kernel
theorem dX7_witness_24 : decode cX7_witness 24 = .ok (.getfield 19, 3) := by decide +kernel
theorem dX7_witness_27 : decode cX7_witness 27 = .ok (.getfield 85, 3) := by decide +kernel
theorem dX7_witness_30 : decode cX7_witness 30 = .ok (.bipush 10, 2) := by decide +kernel
theorem dX7_witness_32 : decode cX7_witness 32 = .ok (.if_icmp .lt 7, 3) := by decide +kernel
theorem dX7_witness_35 : decode cX7_witness 35 = .ok (.ldc2_w 79, 3) := by decide +kernel
theorem dX7_witness_38 : decode cX7_witness 38 = .ok (.lreturn, 1) := by decide +kernel
theorem dX7_witness_39 : decode cX7_witness 39 = .ok (.aload_n 0, 1) := by decide +kernel
theorem dX7_witness_40 : decode cX7_witness 40 = .ok (.getfield 19, 3) := by decide +kernel
theorem dX7_witness_43 : decode cX7_witness 43 = .ok (.iload_n 1, 1) := by decide +kernel
theorem dX7_witness_44 : decode cX7_witness 44 = .ok (.iload_n 2, 1) := by decide +kernel
theorem dX7_witness_45 : decode cX7_witness 45 = .ok (.invokevirtual 86, 3) := by decide +kernel
theorem dX7_witness_48 : decode cX7_witness 48 = .ok (.i2l, 1) := by decide +kernel
theorem dX7_witness_49 : decode cX7_witness 49 = .ok (.lreturn, 1) := by decide +kernel
theorem dX7_isOf_0 : decode cX7_isOf 0 = .ok (.aload_n 0, 1) := by decide +kernel
theorem dX7_isOf_1 : decode cX7_isOf 1 = .ok (.getfield 19, 3) := by decide +kernel
theorem dX7_isOf_4 : decode cX7_isOf 4 = .ok (.iload_n 1, 1) := by decide +kernel
theorem dX7_isOf_5 : decode cX7_isOf 5 = .ok (.invokevirtual 89, 3) := by decide +kernel
theorem dX7_isOf_8 : decode cX7_isOf 8 = .ok (.ifCond .eq 12, 3) := by decide +kernel
theorem dX7_isOf_11 : decode cX7_isOf 11 = .ok (.iload_n 2, 1) := by decide +kernel
theorem dX7_isOf_12 : decode cX7_isOf 12 = .ok (.iconst 0, 1) := by decide +kernel
theorem dX7_isOf_13 : decode cX7_isOf 13 = .ok (.iconst 4, 1) := by decide +kernel
theorem dX7_isOf_14 : decode cX7_isOf 14 = .ok (.invokestatic 66, 3) := by decide +kernel
theorem dX7_isOf_17 : decode cX7_isOf 17 = .ok (.ifCond .ne 7, 3) := by decide +kernel
theorem dX7_isOf_20 : decode cX7_isOf 20 = .ok (.ldc2_w 70, 3) := by decide +kernel
theorem dX7_isOf_23 : decode cX7_isOf 23 = .ok (.lreturn, 1) := by decide +kernel
theorem dX7_isOf_24 : decode cX7_isOf 24 = .ok (.aload_n 0, 1) := by decide +kernel
theorem dX7_isOf_25 : decode cX7_isOf 25 = .ok (.getfield 19, 3) := by decide +kernel
theorem dX7_isOf_28 : decode cX7_isOf 28 = .ok (.getfield 92, 3) := by decide +kernel
theorem dX7_isOf_31 : decode cX7_isOf 31 = .ok (.iload_n 1, 1) := by decide +kernel
theorem dX7_isOf_32 : decode cX7_isOf 32 = .ok (.iaload, 1) := by decide +kernel
theorem dX7_isOf_33 : decode cX7_isOf 33 = .ok (.istore_n 3, 1) := by decide +kernel
theorem dX7_isOf_34 : decode cX7_isOf 34 = .ok (.iload_n 2, 1) := by decide +kernel
theorem dX7_isOf_35 : decode cX7_isOf 35 = .ok (.iconst 3, 1) := by decide +kernel
theorem dX7_isOf_36 : decode cX7_isOf 36 = .ok (.if_icmp .ne 12, 3) := by decide +kernel
theorem dX7_isOf_39 : decode cX7_isOf 39 = .ok (.iload_n 3, 1) := by decide +kernel
theorem dX7_isOf_40 : decode cX7_isOf 40 = .ok (.iconst 4, 1) := by decide +kernel
theorem dX7_isOf_41 : decode cX7_isOf 41 = .ok (.if_icmp .ne 7, 3) := by decide +kernel
theorem dX7_isOf_44 : decode cX7_isOf 44 = .ok (.iconst 1, 1) := by decide +kernel
theorem dX7_isOf_45 : decode cX7_isOf 45 = .ok (.goto 4, 3) := by decide +kernel
theorem dX7_isOf_48 : decode cX7_isOf 48 = .ok (.iconst 0, 1) := by decide +kernel
theorem dX7_isOf_49 : decode cX7_isOf 49 = .ok (.istore 4, 2) := by decide +kernel
theorem dX7_isOf_51 : decode cX7_isOf 51 = .ok (.iload_n 2, 1) := by decide +kernel
theorem dX7_isOf_52 : decode cX7_isOf 52 = .ok (.ifCond .eq 13, 3) := by decide +kernel
theorem dX7_isOf_55 : decode cX7_isOf 55 = .ok (.iload_n 2, 1) := by decide +kernel
theorem dX7_isOf_56 : decode cX7_isOf 56 = .ok (.iload_n 3, 1) := by decide +kernel
theorem dX7_isOf_57 : decode cX7_isOf 57 = .ok (.if_icmp .eq 8, 3) := by decide +kernel
theorem dX7_isOf_60 : decode cX7_isOf 60 = .ok (.iload 4, 2) := by decide +kernel
theorem dX7_isOf_62 : decode cX7_isOf 62 = .ok (.ifCond .eq 7, 3) := by decide +kernel
theorem dX7_isOf_65 : decode cX7_isOf 65 = .ok (.iconst 1, 1) := by decide +kernel
theorem dX7_isOf_66 : decode cX7_isOf 66 = .ok (.goto 4, 3) := by decide +kernel
theorem dX7_isOf_69 : decode cX7_isOf 69 = .ok (.iconst 0, 1) := by decide +kernel
theorem dX7_isOf_70 : decode cX7_isOf 70 = .ok (.invokestatic 95, 3) := by decide +kernel
theorem dX7_isOf_73 : decode cX7_isOf 73 = .ok (.lreturn, 1) := by decide +kernel
theorem dX7_needs_0 : decode cX7_needs 0 = .ok (.aload_n 0, 1) := by decide +kernel
theorem dX7_needs_1 : decode cX7_needs 1 = .ok (.getfield 10, 3) := by decide +kernel
theorem dX7_needs_4 : decode cX7_needs 4 = .ok (.iload_n 1, 1) := by decide +kernel
theorem dX7_needs_5 : decode cX7_needs 5 = .ok (.invokevirtual 99, 3) := by decide +kernel
theorem dX7_needs_8 : decode cX7_needs 8 = .ok (.ifCond .eq 19, 3) := by decide +kernel
theorem dX7_needs_11 : decode cX7_needs 11 = .ok (.iload_n 2, 1) := by decide +kernel
theorem dX7_needs_12 : decode cX7_needs 12 = .ok (.ifCond .lt 15, 3) := by decide +kernel
theorem dX7_needs_15 : decode cX7_needs 15 = .ok (.iload_n 2, 1) := by decide +kernel
theorem dX7_needs_16 : decode cX7_needs 16 = .ok (.aload_n 0, 1) := by decide +kernel
theorem dX7_needs_17 : decode cX7_needs 17 = .ok (.getfield 19, 3) := by decide +kernel
theorem dX7_needs_20 : decode cX7_needs 20 = .ok (.getfield 85, 3) := by decide +kernel
theorem dX7_needs_23 : decode cX7_needs 23 = .ok (.ishr, 1) := by decide +kernel
theorem dX7_needs_24 : decode cX7_needs 24 = .ok (.ifCond .eq 7, 3) := by decide +kernel
theorem dX7_needs_27 : decode cX7_needs 27 = .ok (.ldc2_w 70, 3) := by decide +kernel
theorem dX7_needs_30 : decode cX7_needs 30 = .ok (.lreturn, 1) := by decide +kernel
theorem dX7_needs_31 : decode cX7_needs 31 = .ok (.aload_n 0, 1) := by decide +kernel
theorem dX7_needs_32 : decode cX7_needs 32 = .ok (.getfield 10, 3) := by decide +kernel
theorem dX7_needs_35 : decode cX7_needs 35 = .ok (.getfield 100, 3) := by decide +kernel
theorem dX7_needs_38 : decode cX7_needs 38 = .ok (.iload_n 1, 1) := by decide +kernel
theorem dX7_needs_39 : decode cX7_needs 39 = .ok (.iaload, 1) := by decide +kernel
theorem dX7_needs_40 : decode cX7_needs 40 = .ok (.istore_n 3, 1) := by decide +kernel
theorem dX7_needs_41 : decode cX7_needs 41 = .ok (.iconst 0, 1) := by decide +kernel
theorem dX7_needs_42 : decode cX7_needs 42 = .ok (.istore 4, 2) := by decide +kernel
theorem dX7_needs_44 : decode cX7_needs 44 = .ok (.iload 4, 2) := by decide +kernel
theorem dX7_needs_46 : decode cX7_needs 46 = .ok (.aload_n 0, 1) := by decide +kernel
theorem dX7_needs_47 : decode cX7_needs 47 = .ok (.getfield 19, 3) := by decide +kernel
theorem dX7_needs_50 : decode cX7_needs 50 = .ok (.getfield 85, 3) := by decide +kernel
theorem dX7_needs_53 : decode cX7_needs 53 = .ok (.if_icmp .ge 47, 3) := by decide +kernel
theorem dX7_needs_56 : decode cX7_needs 56 = .ok (.iload_n 2, 1) := by decide +kernel
theorem dX7_needs_57 : decode cX7_needs 57 = .ok (.iload 4, 2) := by decide +kernel
theorem dX7_needs_59 : decode cX7_needs 59 = .ok (.invokestatic 103, 3) := by decide +kernel
theorem dX7_needs_62 : decode cX7_needs 62 = .ok (.ifCond .eq 32, 3) := by decide +kernel
theorem dX7_needs_65 : decode cX7_needs 65 = .ok (.iload_n 3, 1) := by decide +kernel
theorem dX7_needs_66 : decode cX7_needs 66 = .ok (.iload 4, 2) := by decide +kernel
theorem dX7_needs_68 : decode cX7_needs 68 = .ok (.invokestatic 103, 3) := by decide +kernel
theorem dX7_needs_71 : decode cX7_needs 71 = .ok (.ifCond .ne 23, 3) := by decide +kernel
theorem dX7_needs_74 : decode cX7_needs 74 = .ok (.aload_n 0, 1) := by decide +kernel
theorem dX7_needs_75 : decode cX7_needs 75 = .ok (.getfield 10, 3) := by decide +kernel
theorem dX7_needs_78 : decode cX7_needs 78 = .ok (.iload_n 1, 1) := by decide +kernel
theorem dX7_needs_79 : decode cX7_needs 79 = .ok (.iload 4, 2) := by decide +kernel
theorem dX7_needs_81 : decode cX7_needs 81 = .ok (.aload_n 0, 1) := by decide +kernel
theorem dX7_needs_82 : decode cX7_needs 82 = .ok (.getfield 19, 3) := by decide +kernel
theorem dX7_needs_85 : decode cX7_needs 85 = .ok (.getfield 107, 3) := by decide +kernel
theorem dX7_needs_88 : decode cX7_needs 88 = .ok (.iload 4, 2) := by decide +kernel
theorem dX7_needs_90 : decode cX7_needs 90 = .ok (.iaload, 1) := by decide +kernel
theorem dX7_needs_91 : decode cX7_needs 91 = .ok (.invokevirtual 110, 3) := by decide +kernel
theorem dX7_needs_94 : decode cX7_needs 94 = .ok (.iinc 4 1, 3) := by decide +kernel
theorem dX7_needs_97 : decode cX7_needs 97 = .ok (.goto (-53), 3) := by decide +kernel
theorem dX7_needs_100 : decode cX7_needs 100 = .ok (.aload_n 0, 1) := by decide +kernel
theorem dX7_needs_101 : decode cX7_needs 101 = .ok (.getfield 10, 3) := by decide +kernel
theorem dX7_needs_104 : decode cX7_needs 104 = .ok (.getfield 100, 3) := by decide +kernel
theorem dX7_needs_107 : decode cX7_needs 107 = .ok (.iload_n 1, 1) := by decide +kernel
theorem dX7_needs_108 : decode cX7_needs 108 = .ok (.iload_n 2, 1) := by decide +kernel
theorem dX7_needs_109 : decode cX7_needs 109 = .ok (.iastore, 1) := by decide +kernel
theorem dX7_needs_110 : decode cX7_needs 110 = .ok (.iload_n 3, 1) := by decide +kernel
theorem dX7_needs_111 : decode cX7_needs 111 = .ok (.i2l, 1) := by decide +kernel
theorem dX7_needs_112 : decode cX7_needs 112 = .ok (.lreturn, 1) := by decide +kernel
theorem dX7_fold_0 : decode cX7_fold 0 = .ok (.aload_n 0, 1) := by decide +kernel
theorem dX7_fold_1 : decode cX7_fold 1 = .ok (.getfield 10, 3) := by decide +kernel
theorem dX7_fold_4 : decode cX7_fold 4 = .ok (.iload_n 1, 1) := by decide +kernel
theorem dX7_fold_5 : decode cX7_fold 5 = .ok (.invokevirtual 99, 3) := by decide +kernel
theorem dX7_fold_8 : decode cX7_fold 8 = .ok (.ifCond .eq 13, 3) := by decide +kernel
theorem dX7_fold_11 : decode cX7_fold 11 = .ok (.iload_n 2, 1) := by decide +kernel
theorem dX7_fold_12 : decode cX7_fold 12 = .ok (.iconst 0, 1) := by decide +kernel
theorem dX7_fold_13 : decode cX7_fold 13 = .ok (.bipush 100, 2) := by decide +kernel
theorem dX7_fold_15 : decode cX7_fold 15 = .ok (.invokestatic 66, 3) := by decide +kernel
theorem dX7_fold_18 : decode cX7_fold 18 = .ok (.ifCond .ne 7, 3) := by decide +kernel
theorem dX7_fold_21 : decode cX7_fold 21 = .ok (.ldc2_w 70, 3) := by decide +kernel
theorem dX7_fold_24 : decode cX7_fold 24 = .ok (.lreturn, 1) := by decide +kernel
theorem dX7_fold_25 : decode cX7_fold 25 = .ok (.aload_n 0, 1) := by decide +kernel
theorem dX7_fold_26 : decode cX7_fold 26 = .ok (.getfield 10, 3) := by decide +kernel
theorem dX7_fold_29 : decode cX7_fold 29 = .ok (.getfield 114, 3) := by decide +kernel
theorem dX7_fold_32 : decode cX7_fold 32 = .ok (.iload_n 1, 1) := by decide +kernel
theorem dX7_fold_33 : decode cX7_fold 33 = .ok (.iaload, 1) := by decide +kernel
theorem dX7_fold_34 : decode cX7_fold 34 = .ok (.istore_n 3, 1) := by decide +kernel
theorem dX7_fold_35 : decode cX7_fold 35 = .ok (.aload_n 0, 1) := by decide +kernel
theorem dX7_fold_36 : decode cX7_fold 36 = .ok (.getfield 10, 3) := by decide +kernel
theorem dX7_fold_39 : decode cX7_fold 39 = .ok (.getfield 114, 3) := by decide +kernel
theorem dX7_fold_42 : decode cX7_fold 42 = .ok (.iload_n 1, 1) := by decide +kernel
theorem dX7_fold_43 : decode cX7_fold 43 = .ok (.iload_n 2, 1) := by decide +kernel
theorem dX7_fold_44 : decode cX7_fold 44 = .ok (.iastore, 1) := by decide +kernel
theorem dX7_fold_45 : decode cX7_fold 45 = .ok (.iload_n 3, 1) := by decide +kernel
theorem dX7_fold_46 : decode cX7_fold 46 = .ok (.i2l, 1) := by decide +kernel
theorem dX7_fold_47 : decode cX7_fold 47 = .ok (.lreturn, 1) := by decide +kernel
theorem dX7_told_0 : decode cX7_told 0 = .ok (.aload_n 0, 1) := by decide +kernel
theorem dX7_told_1 : decode cX7_told 1 = .ok (.getfield 10, 3) := by decide +kernel
theorem dX7_told_4 : decode cX7_told 4 = .ok (.iload_n 1, 1) := by decide +kernel
theorem dX7_told_5 : decode cX7_told 5 = .ok (.invokevirtual 99, 3) := by decide +kernel
theorem dX7_told_8 : decode cX7_told 8 = .ok (.ifCond .ne 7, 3) := by decide +kernel
theorem dX7_told_11 : decode cX7_told 11 = .ok (.ldc2_w 70, 3) := by decide +kernel
theorem dX7_told_14 : decode cX7_told 14 = .ok (.lreturn, 1) := by decide +kernel
theorem dX7_told_15 : decode cX7_told 15 = .ok (.iload_n 2, 1) := by decide +kernel
theorem dX7_told_16 : decode cX7_told 16 = .ok (.tableswitch 124 0 5 #[40, 51, 61, 72, 83, 94], 40) := by decide +kernel
theorem dX7_told_56 : decode cX7_told 56 = .ok (.aload_n 0, 1) := by decide +kernel
theorem dX7_told_57 : decode cX7_told 57 = .ok (.getfield 10, 3) := by decide +kernel
theorem dX7_told_60 : decode cX7_told 60 = .ok (.getfield 117, 3) := by decide +kernel
theorem dX7_told_63 : decode cX7_told 63 = .ok (.iload_n 1, 1) := by decide +kernel
theorem dX7_told_64 : decode cX7_told 64 = .ok (.iaload, 1) := by decide +kernel
theorem dX7_told_65 : decode cX7_told 65 = .ok (.i2l, 1) := by decide +kernel
theorem dX7_told_66 : decode cX7_told 66 = .ok (.lreturn, 1) := by decide +kernel
theorem dX7_told_67 : decode cX7_told 67 = .ok (.aload_n 0, 1) := by decide +kernel
theorem dX7_told_68 : decode cX7_told 68 = .ok (.getfield 10, 3) := by decide +kernel
theorem dX7_told_71 : decode cX7_told 71 = .ok (.iload_n 1, 1) := by decide +kernel
theorem dX7_told_72 : decode cX7_told 72 = .ok (.invokevirtual 120, 3) := by decide +kernel
theorem dX7_told_75 : decode cX7_told 75 = .ok (.i2l, 1) := by decide +kernel
theorem dX7_told_76 : decode cX7_told 76 = .ok (.lreturn, 1) := by decide +kernel
theorem dX7_told_77 : decode cX7_told 77 = .ok (.aload_n 0, 1) := by decide +kernel
theorem dX7_told_78 : decode cX7_told 78 = .ok (.getfield 10, 3) := by decide +kernel
theorem dX7_told_81 : decode cX7_told 81 = .ok (.getfield 124, 3) := by decide +kernel
theorem dX7_told_84 : decode cX7_told 84 = .ok (.iload_n 1, 1) := by decide +kernel
theorem dX7_told_85 : decode cX7_told 85 = .ok (.iaload, 1) := by decide +kernel
theorem dX7_told_86 : decode cX7_told 86 = .ok (.i2l, 1) := by decide +kernel
theorem dX7_told_87 : decode cX7_told 87 = .ok (.lreturn, 1) := by decide +kernel
theorem dX7_told_88 : decode cX7_told 88 = .ok (.aload_n 0, 1) := by decide +kernel
theorem dX7_told_89 : decode cX7_told 89 = .ok (.getfield 10, 3) := by decide +kernel
theorem dX7_told_92 : decode cX7_told 92 = .ok (.getfield 114, 3) := by decide +kernel
theorem dX7_told_95 : decode cX7_told 95 = .ok (.iload_n 1, 1) := by decide +kernel
theorem dX7_told_96 : decode cX7_told 96 = .ok (.iaload, 1) := by decide +kernel
theorem dX7_told_97 : decode cX7_told 97 = .ok (.i2l, 1) := by decide +kernel
theorem dX7_told_98 : decode cX7_told 98 = .ok (.lreturn, 1) := by decide +kernel
theorem dX7_told_99 : decode cX7_told 99 = .ok (.aload_n 0, 1) := by decide +kernel
theorem dX7_told_100 : decode cX7_told 100 = .ok (.getfield 10, 3) := by decide +kernel
theorem dX7_told_103 : decode cX7_told 103 = .ok (.getfield 100, 3) := by decide +kernel
theorem dX7_told_106 : decode cX7_told 106 = .ok (.iload_n 1, 1) := by decide +kernel
theorem dX7_told_107 : decode cX7_told 107 = .ok (.iaload, 1) := by decide +kernel
theorem dX7_told_108 : decode cX7_told 108 = .ok (.i2l, 1) := by decide +kernel
theorem dX7_told_109 : decode cX7_told 109 = .ok (.lreturn, 1) := by decide +kernel
theorem dX7_told_110 : decode cX7_told 110 = .ok (.aload_n 0, 1) := by decide +kernel
theorem dX7_told_111 : decode cX7_told 111 = .ok (.getfield 10, 3) := by decide +kernel
theorem dX7_told_114 : decode cX7_told 114 = .ok (.getfield 127, 3) := by decide +kernel
theorem dX7_told_117 : decode cX7_told 117 = .ok (.iload_n 1, 1) := by decide +kernel
theorem dX7_told_118 : decode cX7_told 118 = .ok (.iaload, 1) := by decide +kernel
theorem dX7_told_119 : decode cX7_told 119 = .ok (.iconst (-1), 1) := by decide +kernel
theorem dX7_told_120 : decode cX7_told 120 = .ok (.if_icmp .ne 9, 3) := by decide +kernel
theorem dX7_told_123 : decode cX7_told 123 = .ok (.ldc2_w 130, 3) := by decide +kernel
theorem dX7_told_126 : decode cX7_told 126 = .ok (.goto 13, 3) := by decide +kernel
theorem dX7_told_129 : decode cX7_told 129 = .ok (.aload_n 0, 1) := by decide +kernel
theorem dX7_told_130 : decode cX7_told 130 = .ok (.getfield 10, 3) := by decide +kernel
theorem dX7_told_133 : decode cX7_told 133 = .ok (.getfield 127, 3) := by decide +kernel
theorem dX7_told_136 : decode cX7_told 136 = .ok (.iload_n 1, 1) := by decide +kernel
theorem dX7_told_137 : decode cX7_told 137 = .ok (.iaload, 1) := by decide +kernel
theorem dX7_told_138 : decode cX7_told 138 = .ok (.i2l, 1) := by decide +kernel
theorem dX7_told_139 : decode cX7_told 139 = .ok (.lreturn, 1) := by decide +kernel
theorem dX7_told_140 : decode cX7_told 140 = .ok (.ldc2_w 70, 3) := by decide +kernel
theorem dX7_told_143 : decode cX7_told 143 = .ok (.lreturn, 1) := by decide +kernel
theorem dX7_inList_0 : decode cX7_inList 0 = .ok (.iload_n 1, 1) := by decide +kernel
theorem dX7_inList_1 : decode cX7_inList 1 = .ok (.invokestatic 62, 3) := by decide +kernel
theorem dX7_inList_4 : decode cX7_inList 4 = .ok (.ifCond .eq 7, 3) := by decide +kernel
theorem dX7_inList_7 : decode cX7_inList 7 = .ok (.iload_n 2, 1) := by decide +kernel
theorem dX7_inList_8 : decode cX7_inList 8 = .ok (.ifCond .ge 7, 3) := by decide +kernel
theorem dX7_inList_11 : decode cX7_inList 11 = .ok (.ldc2_w 70, 3) := by decide +kernel
theorem dX7_inList_14 : decode cX7_inList 14 = .ok (.lreturn, 1) := by decide +kernel
theorem dX7_inList_15 : decode cX7_inList 15 = .ok (.aload_n 0, 1) := by decide +kernel
theorem dX7_inList_16 : decode cX7_inList 16 = .ok (.getfield 10, 3) := by decide +kernel
theorem dX7_inList_19 : decode cX7_inList 19 = .ok (.iload_n 1, 1) := by decide +kernel
theorem dX7_inList_20 : decode cX7_inList 20 = .ok (.iload_n 2, 1) := by decide +kernel
theorem dX7_inList_21 : decode cX7_inList 21 = .ok (.invokevirtual 132, 3) := by decide +kernel
theorem dX7_inList_24 : decode cX7_inList 24 = .ok (.istore_n 3, 1) := by decide +kernel
theorem dX7_inList_25 : decode cX7_inList 25 = .ok (.iload_n 3, 1) := by decide +kernel
theorem dX7_inList_26 : decode cX7_inList 26 = .ok (.iconst (-1), 1) := by decide +kernel
theorem dX7_inList_27 : decode cX7_inList 27 = .ok (.if_icmp .ne 9, 3) := by decide +kernel
theorem dX7_inList_30 : decode cX7_inList 30 = .ok (.ldc2_w 130, 3) := by decide +kernel
theorem dX7_inList_33 : decode cX7_inList 33 = .ok (.goto 5, 3) := by decide +kernel
theorem dX7_inList_36 : decode cX7_inList 36 = .ok (.iload_n 3, 1) := by decide +kernel
theorem dX7_inList_37 : decode cX7_inList 37 = .ok (.i2l, 1) := by decide +kernel
theorem dX7_inList_38 : decode cX7_inList 38 = .ok (.lreturn, 1) := by decide +kernel
theorem dX7_rule_0 : decode cX7_rule 0 = .ok (.iload_n 1, 1) := by decide +kernel
theorem dX7_rule_1 : decode cX7_rule 1 = .ok (.iconst 0, 1) := by decide +kernel
theorem dX7_rule_2 : decode cX7_rule 2 = .ok (.iconst 4, 1) := by decide +kernel
theorem dX7_rule_3 : decode cX7_rule 3 = .ok (.invokestatic 66, 3) := by decide +kernel
theorem dX7_rule_6 : decode cX7_rule 6 = .ok (.ifCond .eq 20, 3) := by decide +kernel
theorem dX7_rule_9 : decode cX7_rule 9 = .ok (.iload_n 2, 1) := by decide +kernel
theorem dX7_rule_10 : decode cX7_rule 10 = .ok (.getstatic 135, 3) := by decide +kernel
theorem dX7_rule_13 : decode cX7_rule 13 = .ok (.iload_n 1, 1) := by decide +kernel
theorem dX7_rule_14 : decode cX7_rule 14 = .ok (.iaload, 1) := by decide +kernel
theorem dX7_rule_15 : decode cX7_rule 15 = .ok (.getstatic 138, 3) := by decide +kernel
theorem dX7_rule_18 : decode cX7_rule 18 = .ok (.iload_n 1, 1) := by decide +kernel
theorem dX7_rule_19 : decode cX7_rule 19 = .ok (.iaload, 1) := by decide +kernel
theorem dX7_rule_20 : decode cX7_rule 20 = .ok (.invokestatic 66, 3) := by decide +kernel
theorem dX7_rule_23 : decode cX7_rule 23 = .ok (.ifCond .ne 7, 3) := by decide +kernel
theorem dX7_rule_26 : decode cX7_rule 26 = .ok (.ldc2_w 70, 3) := by decide +kernel
theorem dX7_rule_29 : decode cX7_rule 29 = .ok (.lreturn, 1) := by decide +kernel
theorem dX7_rule_30 : decode cX7_rule 30 = .ok (.aload_n 0, 1) := by decide +kernel
theorem dX7_rule_31 : decode cX7_rule 31 = .ok (.getfield 58, 3) := by decide +kernel
theorem dX7_rule_34 : decode cX7_rule 34 = .ok (.iload_n 1, 1) := by decide +kernel
theorem dX7_rule_35 : decode cX7_rule 35 = .ok (.iaload, 1) := by decide +kernel
theorem dX7_rule_36 : decode cX7_rule 36 = .ok (.istore_n 3, 1) := by decide +kernel
theorem dX7_rule_37 : decode cX7_rule 37 = .ok (.aload_n 0, 1) := by decide +kernel
theorem dX7_rule_38 : decode cX7_rule 38 = .ok (.getfield 58, 3) := by decide +kernel
theorem dX7_rule_41 : decode cX7_rule 41 = .ok (.iload_n 1, 1) := by decide +kernel
theorem dX7_rule_42 : decode cX7_rule 42 = .ok (.iload_n 2, 1) := by decide +kernel
theorem dX7_rule_43 : decode cX7_rule 43 = .ok (.iastore, 1) := by decide +kernel
theorem dX7_rule_44 : decode cX7_rule 44 = .ok (.iload_n 3, 1) := by decide +kernel
theorem dX7_rule_45 : decode cX7_rule 45 = .ok (.i2l, 1) := by decide +kernel
theorem dX7_rule_46 : decode cX7_rule 46 = .ok (.lreturn, 1) := by decide +kernel
theorem dX7_weight_0 : decode cX7_weight 0 = .ok (.aload_n 0, 1) := by decide +kernel
theorem dX7_weight_1 : decode cX7_weight 1 = .ok (.getfield 10, 3) := by decide +kernel
theorem dX7_weight_4 : decode cX7_weight 4 = .ok (.iload_n 1, 1) := by decide +kernel
theorem dX7_weight_5 : decode cX7_weight 5 = .ok (.invokevirtual 99, 3) := by decide +kernel
theorem dX7_weight_8 : decode cX7_weight 8 = .ok (.ifCond .eq 10, 3) := by decide +kernel
theorem dX7_weight_11 : decode cX7_weight 11 = .ok (.iload_n 2, 1) := by decide +kernel
theorem dX7_weight_12 : decode cX7_weight 12 = .ok (.invokestatic 141, 3) := by decide +kernel
theorem dX7_weight_15 : decode cX7_weight 15 = .ok (.ifCond .ne 7, 3) := by decide +kernel
theorem dX7_weight_18 : decode cX7_weight 18 = .ok (.ldc2_w 70, 3) := by decide +kernel
theorem dX7_weight_21 : decode cX7_weight 21 = .ok (.lreturn, 1) := by decide +kernel
theorem dX7_weight_22 : decode cX7_weight 22 = .ok (.aload_n 0, 1) := by decide +kernel
theorem dX7_weight_23 : decode cX7_weight 23 = .ok (.getfield 26, 3) := by decide +kernel
theorem dX7_weight_26 : decode cX7_weight 26 = .ok (.aload_n 0, 1) := by decide +kernel
theorem dX7_weight_27 : decode cX7_weight 27 = .ok (.getfield 10, 3) := by decide +kernel
theorem dX7_weight_30 : decode cX7_weight 30 = .ok (.iload_n 1, 1) := by decide +kernel
theorem dX7_weight_31 : decode cX7_weight 31 = .ok (.invokevirtual 144, 3) := by decide +kernel
theorem dX7_weight_34 : decode cX7_weight 34 = .ok (.aload_n 0, 1) := by decide +kernel
theorem dX7_weight_35 : decode cX7_weight 35 = .ok (.getfield 26, 3) := by decide +kernel
theorem dX7_weight_38 : decode cX7_weight 38 = .ok (.getfield 148, 3) := by decide +kernel
theorem dX7_weight_41 : decode cX7_weight 41 = .ok (.iload_n 2, 1) := by decide +kernel
theorem dX7_weight_42 : decode cX7_weight 42 = .ok (.laload, 1) := by decide +kernel
theorem dX7_weight_43 : decode cX7_weight 43 = .ok (.lreturn, 1) := by decide +kernel
theorem dX7_cost_0 : decode cX7_cost 0 = .ok (.aload_n 0, 1) := by decide +kernel
theorem dX7_cost_1 : decode cX7_cost 1 = .ok (.getfield 10, 3) := by decide +kernel
theorem dX7_cost_4 : decode cX7_cost 4 = .ok (.iload_n 1, 1) := by decide +kernel
theorem dX7_cost_5 : decode cX7_cost 5 = .ok (.invokevirtual 99, 3) := by decide +kernel
theorem dX7_cost_8 : decode cX7_cost 8 = .ok (.ifCond .eq 10, 3) := by decide +kernel
theorem dX7_cost_11 : decode cX7_cost 11 = .ok (.iload_n 2, 1) := by decide +kernel
theorem dX7_cost_12 : decode cX7_cost 12 = .ok (.invokestatic 141, 3) := by decide +kernel
theorem dX7_cost_15 : decode cX7_cost 15 = .ok (.ifCond .ne 7, 3) := by decide +kernel
theorem dX7_cost_18 : decode cX7_cost 18 = .ok (.ldc2_w 70, 3) := by decide +kernel
theorem dX7_cost_21 : decode cX7_cost 21 = .ok (.lreturn, 1) := by decide +kernel
theorem dX7_cost_22 : decode cX7_cost 22 = .ok (.aload_n 0, 1) := by decide +kernel
theorem dX7_cost_23 : decode cX7_cost 23 = .ok (.getfield 26, 3) := by decide +kernel
theorem dX7_cost_26 : decode cX7_cost 26 = .ok (.aload_n 0, 1) := by decide +kernel
theorem dX7_cost_27 : decode cX7_cost 27 = .ok (.getfield 10, 3) := by decide +kernel
theorem dX7_cost_30 : decode cX7_cost 30 = .ok (.iload_n 1, 1) := by decide +kernel
theorem dX7_cost_31 : decode cX7_cost 31 = .ok (.invokevirtual 144, 3) := by decide +kernel
theorem dX7_cost_34 : decode cX7_cost 34 = .ok (.aload_n 0, 1) := by decide +kernel
theorem dX7_cost_35 : decode cX7_cost 35 = .ok (.getfield 26, 3) := by decide +kernel
theorem dX7_cost_38 : decode cX7_cost 38 = .ok (.iload_n 2, 1) := by decide +kernel
theorem dX7_cost_39 : decode cX7_cost 39 = .ok (.aload_n 0, 1) := by decide +kernel
theorem dX7_cost_40 : decode cX7_cost 40 = .ok (.iload_n 1, 1) := by decide +kernel
theorem dX7_cost_41 : decode cX7_cost 41 = .ok (.invokevirtual 152, 3) := by decide +kernel
theorem dX7_cost_44 : decode cX7_cost 44 = .ok (.aload_n 0, 1) := by decide +kernel
theorem dX7_cost_45 : decode cX7_cost 45 = .ok (.getfield 58, 3) := by decide +kernel
theorem dX7_cost_48 : decode cX7_cost 48 = .ok (.iconst 1, 1) := by decide +kernel
theorem dX7_cost_49 : decode cX7_cost 49 = .ok (.iaload, 1) := by decide +kernel
theorem dX7_cost_50 : decode cX7_cost 50 = .ok (.i2l, 1) := by decide +kernel
theorem dX7_cost_51 : decode cX7_cost 51 = .ok (.invokevirtual 156, 3) := by decide +kernel
theorem dX7_cost_54 : decode cX7_cost 54 = .ok (.lreturn, 1) := by decide +kernel
theorem dX7_best_0 : decode cX7_best 0 = .ok (.aload_n 0, 1) := by decide +kernel
theorem dX7_best_1 : decode cX7_best 1 = .ok (.getfield 10, 3) := by decide +kernel
theorem dX7_best_4 : decode cX7_best 4 = .ok (.iload_n 1, 1) := by decide +kernel
theorem dX7_best_5 : decode cX7_best 5 = .ok (.invokevirtual 99, 3) := by decide +kernel
theorem dX7_best_8 : decode cX7_best 8 = .ok (.ifCond .ne 7, 3) := by decide +kernel
theorem dX7_best_11 : decode cX7_best 11 = .ok (.ldc2_w 70, 3) := by decide +kernel
theorem dX7_best_14 : decode cX7_best 14 = .ok (.lreturn, 1) := by decide +kernel
theorem dX7_best_15 : decode cX7_best 15 = .ok (.aload_n 0, 1) := by decide +kernel
theorem dX7_best_16 : decode cX7_best 16 = .ok (.iload_n 1, 1) := by decide +kernel
theorem dX7_best_17 : decode cX7_best 17 = .ok (.invokevirtual 160, 3) := by decide +kernel
theorem dX7_best_20 : decode cX7_best 20 = .ok (.i2l, 1) := by decide +kernel
theorem dX7_best_21 : decode cX7_best 21 = .ok (.lreturn, 1) := by decide +kernel
theorem dX7_call_0 : decode cX7_call 0 = .ok (.aload_n 0, 1) := by decide +kernel
theorem dX7_call_1 : decode cX7_call 1 = .ok (.getfield 19, 3) := by decide +kernel
theorem dX7_call_4 : decode cX7_call 4 = .ok (.iload_n 1, 1) := by decide +kernel
theorem dX7_call_5 : decode cX7_call 5 = .ok (.invokevirtual 89, 3) := by decide +kernel
theorem dX7_call_8 : decode cX7_call 8 = .ok (.ifCond .eq 21, 3) := by decide +kernel
theorem dX7_call_11 : decode cX7_call 11 = .ok (.aload_n 0, 1) := by decide +kernel
theorem dX7_call_12 : decode cX7_call 12 = .ok (.getfield 10, 3) := by decide +kernel
theorem dX7_call_15 : decode cX7_call 15 = .ok (.iload_n 2, 1) := by decide +kernel
theorem dX7_call_16 : decode cX7_call 16 = .ok (.invokevirtual 99, 3) := by decide +kernel
theorem dX7_call_19 : decode cX7_call 19 = .ok (.ifCond .eq 10, 3) := by decide +kernel
theorem dX7_call_22 : decode cX7_call 22 = .ok (.iload_n 3, 1) := by decide +kernel
theorem dX7_call_23 : decode cX7_call 23 = .ok (.invokestatic 141, 3) := by decide +kernel
theorem dX7_call_26 : decode cX7_call 26 = .ok (.ifCond .ne 7, 3) := by decide +kernel
theorem dX7_call_29 : decode cX7_call 29 = .ok (.ldc2_w 70, 3) := by decide +kernel
theorem dX7_call_32 : decode cX7_call 32 = .ok (.lreturn, 1) := by decide +kernel
theorem dX7_call_33 : decode cX7_call 33 = .ok (.aload_n 0, 1) := by decide +kernel
theorem dX7_call_34 : decode cX7_call 34 = .ok (.getfield 10, 3) := by decide +kernel
theorem dX7_call_37 : decode cX7_call 37 = .ok (.iload_n 2, 1) := by decide +kernel
theorem dX7_call_38 : decode cX7_call 38 = .ok (.iload_n 1, 1) := by decide +kernel
theorem dX7_call_39 : decode cX7_call 39 = .ok (.invokevirtual 163, 3) := by decide +kernel
theorem dX7_call_42 : decode cX7_call 42 = .ok (.ifCond .eq 16, 3) := by decide +kernel
theorem dX7_call_45 : decode cX7_call 45 = .ok (.iload_n 3, 1) := by decide +kernel
theorem dX7_call_46 : decode cX7_call 46 = .ok (.aload_n 0, 1) := by decide +kernel
theorem dX7_call_47 : decode cX7_call 47 = .ok (.getfield 19, 3) := by decide +kernel
theorem dX7_call_50 : decode cX7_call 50 = .ok (.getfield 107, 3) := by decide +kernel
theorem dX7_call_53 : decode cX7_call 53 = .ok (.iload_n 1, 1) := by decide +kernel
theorem dX7_call_54 : decode cX7_call 54 = .ok (.iaload, 1) := by decide +kernel
theorem dX7_call_55 : decode cX7_call 55 = .ok (.if_icmp .ge 7, 3) := by decide +kernel
theorem dX7_call_58 : decode cX7_call 58 = .ok (.ldc2_w 166, 3) := by decide +kernel
theorem dX7_call_61 : decode cX7_call 61 = .ok (.lreturn, 1) := by decide +kernel
theorem dX7_call_62 : decode cX7_call 62 = .ok (.aload_n 0, 1) := by decide +kernel
theorem dX7_call_63 : decode cX7_call 63 = .ok (.getfield 10, 3) := by decide +kernel
theorem dX7_call_66 : decode cX7_call 66 = .ok (.iload_n 2, 1) := by decide +kernel
theorem dX7_call_67 : decode cX7_call 67 = .ok (.iload_n 1, 1) := by decide +kernel
theorem dX7_call_68 : decode cX7_call 68 = .ok (.invokevirtual 168, 3) := by decide +kernel
theorem dX7_call_71 : decode cX7_call 71 = .ok (.istore 4, 2) := by decide +kernel
theorem dX7_call_73 : decode cX7_call 73 = .ok (.aload_n 0, 1) := by decide +kernel
theorem dX7_call_74 : decode cX7_call 74 = .ok (.getfield 10, 3) := by decide +kernel
theorem dX7_call_77 : decode cX7_call 77 = .ok (.iload_n 2, 1) := by decide +kernel
theorem dX7_call_78 : decode cX7_call 78 = .ok (.iload_n 1, 1) := by decide +kernel
theorem dX7_call_79 : decode cX7_call 79 = .ok (.iload_n 3, 1) := by decide +kernel
theorem dX7_call_80 : decode cX7_call 80 = .ok (.invokevirtual 110, 3) := by decide +kernel
theorem dX7_call_83 : decode cX7_call 83 = .ok (.iload 4, 2) := by decide +kernel
theorem dX7_call_85 : decode cX7_call 85 = .ok (.i2l, 1) := by decide +kernel
theorem dX7_call_86 : decode cX7_call 86 = .ok (.lreturn, 1) := by decide +kernel
theorem dX7_called_0 : decode cX7_called 0 = .ok (.aload_n 0, 1) := by decide +kernel
theorem dX7_called_1 : decode cX7_called 1 = .ok (.getfield 19, 3) := by decide +kernel
theorem dX7_called_4 : decode cX7_called 4 = .ok (.iload_n 1, 1) := by decide +kernel
theorem dX7_called_5 : decode cX7_called 5 = .ok (.invokevirtual 89, 3) := by decide +kernel
theorem dX7_called_8 : decode cX7_called 8 = .ok (.ifCond .eq 14, 3) := by decide +kernel
theorem dX7_called_11 : decode cX7_called 11 = .ok (.aload_n 0, 1) := by decide +kernel
theorem dX7_called_12 : decode cX7_called 12 = .ok (.getfield 10, 3) := by decide +kernel
theorem dX7_called_15 : decode cX7_called 15 = .ok (.iload_n 2, 1) := by decide +kernel
theorem dX7_called_16 : decode cX7_called 16 = .ok (.invokevirtual 99, 3) := by decide +kernel
theorem dX7_called_19 : decode cX7_called 19 = .ok (.ifCond .ne 7, 3) := by decide +kernel
theorem dX7_called_22 : decode cX7_called 22 = .ok (.ldc2_w 70, 3) := by decide +kernel
theorem dX7_called_25 : decode cX7_called 25 = .ok (.lreturn, 1) := by decide +kernel
theorem dX7_called_26 : decode cX7_called 26 = .ok (.aload_n 0, 1) := by decide +kernel
theorem dX7_called_27 : decode cX7_called 27 = .ok (.getfield 10, 3) := by decide +kernel
theorem dX7_called_30 : decode cX7_called 30 = .ok (.iload_n 2, 1) := by decide +kernel
theorem dX7_called_31 : decode cX7_called 31 = .ok (.iload_n 1, 1) := by decide +kernel
theorem dX7_called_32 : decode cX7_called 32 = .ok (.invokevirtual 163, 3) := by decide +kernel
theorem dX7_called_35 : decode cX7_called 35 = .ok (.ifCond .eq 16, 3) := by decide +kernel
theorem dX7_called_38 : decode cX7_called 38 = .ok (.aload_n 0, 1) := by decide +kernel
theorem dX7_called_39 : decode cX7_called 39 = .ok (.getfield 10, 3) := by decide +kernel
theorem dX7_called_42 : decode cX7_called 42 = .ok (.iload_n 2, 1) := by decide +kernel
theorem dX7_called_43 : decode cX7_called 43 = .ok (.iload_n 1, 1) := by decide +kernel
theorem dX7_called_44 : decode cX7_called 44 = .ok (.invokevirtual 168, 3) := by decide +kernel
theorem dX7_called_47 : decode cX7_called 47 = .ok (.i2l, 1) := by decide +kernel
theorem dX7_called_48 : decode cX7_called 48 = .ok (.goto 6, 3) := by decide +kernel
theorem dX7_called_51 : decode cX7_called 51 = .ok (.ldc2_w 166, 3) := by decide +kernel
theorem dX7_called_54 : decode cX7_called 54 = .ok (.lreturn, 1) := by decide +kernel
theorem dX7_plan_0 : decode cX7_plan 0 = .ok (.aload_n 0, 1) := by decide +kernel
theorem dX7_plan_1 : decode cX7_plan 1 = .ok (.getfield 10, 3) := by decide +kernel
theorem dX7_plan_4 : decode cX7_plan 4 = .ok (.iload_n 1, 1) := by decide +kernel
theorem dX7_plan_5 : decode cX7_plan 5 = .ok (.invokevirtual 99, 3) := by decide +kernel
theorem dX7_plan_8 : decode cX7_plan 8 = .ok (.ifCond .ne 7, 3) := by decide +kernel
theorem dX7_plan_11 : decode cX7_plan 11 = .ok (.ldc2_w 70, 3) := by decide +kernel
theorem dX7_plan_14 : decode cX7_plan 14 = .ok (.lreturn, 1) := by decide +kernel
theorem dX7_plan_15 : decode cX7_plan 15 = .ok (.aload_n 0, 1) := by decide +kernel
theorem dX7_plan_16 : decode cX7_plan 16 = .ok (.iload_n 1, 1) := by decide +kernel
theorem dX7_plan_17 : decode cX7_plan 17 = .ok (.invokevirtual 160, 3) := by decide +kernel
theorem dX7_plan_20 : decode cX7_plan 20 = .ok (.istore_n 2, 1) := by decide +kernel
theorem dX7_plan_21 : decode cX7_plan 21 = .ok (.iconst 0, 1) := by decide +kernel
theorem dX7_plan_22 : decode cX7_plan 22 = .ok (.istore_n 3, 1) := by decide +kernel
theorem dX7_plan_23 : decode cX7_plan 23 = .ok (.iload_n 3, 1) := by decide +kernel
theorem dX7_plan_24 : decode cX7_plan 24 = .ok (.aload_n 0, 1) := by decide +kernel
theorem dX7_plan_25 : decode cX7_plan 25 = .ok (.getfield 19, 3) := by decide +kernel
theorem dX7_plan_28 : decode cX7_plan 28 = .ok (.getfield 85, 3) := by decide +kernel
theorem dX7_plan_31 : decode cX7_plan 31 = .ok (.if_icmp .ge 31, 3) := by decide +kernel
theorem dX7_plan_34 : decode cX7_plan 34 = .ok (.aload_n 0, 1) := by decide +kernel
theorem dX7_plan_35 : decode cX7_plan 35 = .ok (.getfield 10, 3) := by decide +kernel
theorem dX7_plan_38 : decode cX7_plan 38 = .ok (.iload_n 1, 1) := by decide +kernel
theorem dX7_plan_39 : decode cX7_plan 39 = .ok (.iload_n 3, 1) := by decide +kernel
theorem dX7_plan_40 : decode cX7_plan 40 = .ok (.invokevirtual 163, 3) := by decide +kernel
theorem dX7_plan_43 : decode cX7_plan 43 = .ok (.ifCond .eq 13, 3) := by decide +kernel
theorem dX7_plan_46 : decode cX7_plan 46 = .ok (.aload_n 0, 1) := by decide +kernel
theorem dX7_plan_47 : decode cX7_plan 47 = .ok (.getfield 10, 3) := by decide +kernel
theorem dX7_plan_50 : decode cX7_plan 50 = .ok (.iload_n 1, 1) := by decide +kernel
theorem dX7_plan_51 : decode cX7_plan 51 = .ok (.iload_n 3, 1) := by decide +kernel
theorem dX7_plan_52 : decode cX7_plan 52 = .ok (.iload_n 2, 1) := by decide +kernel
theorem dX7_plan_53 : decode cX7_plan 53 = .ok (.invokevirtual 110, 3) := by decide +kernel
theorem dX7_plan_56 : decode cX7_plan 56 = .ok (.iinc 3 1, 3) := by decide +kernel
theorem dX7_plan_59 : decode cX7_plan 59 = .ok (.goto (-36), 3) := by decide +kernel
theorem dX7_plan_62 : decode cX7_plan 62 = .ok (.iload_n 2, 1) := by decide +kernel
theorem dX7_plan_63 : decode cX7_plan 63 = .ok (.i2l, 1) := by decide +kernel
theorem dX7_plan_64 : decode cX7_plan 64 = .ok (.lreturn, 1) := by decide +kernel
theorem dX7_fate_0 : decode cX7_fate 0 = .ok (.aload_n 0, 1) := by decide +kernel
theorem dX7_fate_1 : decode cX7_fate 1 = .ok (.getfield 10, 3) := by decide +kernel
theorem dX7_fate_4 : decode cX7_fate 4 = .ok (.iload_n 1, 1) := by decide +kernel
theorem dX7_fate_5 : decode cX7_fate 5 = .ok (.invokevirtual 99, 3) := by decide +kernel
theorem dX7_fate_8 : decode cX7_fate 8 = .ok (.ifCond .eq 13, 3) := by decide +kernel
theorem dX7_fate_11 : decode cX7_fate 11 = .ok (.iload_n 2, 1) := by decide +kernel
theorem dX7_fate_12 : decode cX7_fate 12 = .ok (.iconst (-1), 1) := by decide +kernel
theorem dX7_fate_13 : decode cX7_fate 13 = .ok (.bipush 20, 2) := by decide +kernel
theorem dX7_fate_15 : decode cX7_fate 15 = .ok (.invokestatic 66, 3) := by decide +kernel
theorem dX7_fate_18 : decode cX7_fate 18 = .ok (.ifCond .ne 7, 3) := by decide +kernel
theorem dX7_fate_21 : decode cX7_fate 21 = .ok (.ldc2_w 70, 3) := by decide +kernel
theorem dX7_fate_24 : decode cX7_fate 24 = .ok (.lreturn, 1) := by decide +kernel
theorem dX7_fate_25 : decode cX7_fate 25 = .ok (.aload_n 0, 1) := by decide +kernel
theorem dX7_fate_26 : decode cX7_fate 26 = .ok (.getfield 10, 3) := by decide +kernel
theorem dX7_fate_29 : decode cX7_fate 29 = .ok (.getfield 127, 3) := by decide +kernel
theorem dX7_fate_32 : decode cX7_fate 32 = .ok (.iload_n 1, 1) := by decide +kernel
theorem dX7_fate_33 : decode cX7_fate 33 = .ok (.iaload, 1) := by decide +kernel
theorem dX7_fate_34 : decode cX7_fate 34 = .ok (.istore_n 3, 1) := by decide +kernel
theorem dX7_fate_35 : decode cX7_fate 35 = .ok (.aload_n 0, 1) := by decide +kernel
theorem dX7_fate_36 : decode cX7_fate 36 = .ok (.getfield 10, 3) := by decide +kernel
theorem dX7_fate_39 : decode cX7_fate 39 = .ok (.getfield 127, 3) := by decide +kernel
theorem dX7_fate_42 : decode cX7_fate 42 = .ok (.iload_n 1, 1) := by decide +kernel
theorem dX7_fate_43 : decode cX7_fate 43 = .ok (.iload_n 2, 1) := by decide +kernel
theorem dX7_fate_44 : decode cX7_fate 44 = .ok (.iastore, 1) := by decide +kernel
theorem dX7_fate_45 : decode cX7_fate 45 = .ok (.iload_n 3, 1) := by decide +kernel
theorem dX7_fate_46 : decode cX7_fate 46 = .ok (.i2l, 1) := by decide +kernel
theorem dX7_fate_47 : decode cX7_fate 47 = .ok (.lreturn, 1) := by decide +kernel
theorem dX7_begins_0 : decode cX7_begins 0 = .ok (.aload_n 0, 1) := by decide +kernel
theorem dX7_begins_1 : decode cX7_begins 1 = .ok (.getfield 10, 3) := by decide +kernel
theorem dX7_begins_4 : decode cX7_begins 4 = .ok (.iload_n 1, 1) := by decide +kernel
theorem dX7_begins_5 : decode cX7_begins 5 = .ok (.invokevirtual 99, 3) := by decide +kernel
theorem dX7_begins_8 : decode cX7_begins 8 = .ok (.ifCond .eq 12, 3) := by decide +kernel
theorem dX7_begins_11 : decode cX7_begins 11 = .ok (.iload_n 2, 1) := by decide +kernel
theorem dX7_begins_12 : decode cX7_begins 12 = .ok (.iconst 0, 1) := by decide +kernel
theorem dX7_begins_13 : decode cX7_begins 13 = .ok (.iconst 2, 1) := by decide +kernel
theorem dX7_begins_14 : decode cX7_begins 14 = .ok (.invokestatic 66, 3) := by decide +kernel
theorem dX7_begins_17 : decode cX7_begins 17 = .ok (.ifCond .ne 7, 3) := by decide +kernel
theorem dX7_begins_20 : decode cX7_begins 20 = .ok (.ldc2_w 70, 3) := by decide +kernel
theorem dX7_begins_23 : decode cX7_begins 23 = .ok (.lreturn, 1) := by decide +kernel
theorem dX7_begins_24 : decode cX7_begins 24 = .ok (.aload_n 0, 1) := by decide +kernel
theorem dX7_begins_25 : decode cX7_begins 25 = .ok (.getfield 33, 3) := by decide +kernel
theorem dX7_begins_28 : decode cX7_begins 28 = .ok (.aload_n 0, 1) := by decide +kernel
theorem dX7_begins_29 : decode cX7_begins 29 = .ok (.getfield 10, 3) := by decide +kernel
theorem dX7_begins_32 : decode cX7_begins 32 = .ok (.invokevirtual 171, 3) := by decide +kernel
theorem dX7_begins_35 : decode cX7_begins 35 = .ok (.aload_n 0, 1) := by decide +kernel
theorem dX7_begins_36 : decode cX7_begins 36 = .ok (.getfield 33, 3) := by decide +kernel
theorem dX7_begins_39 : decode cX7_begins 39 = .ok (.getfield 175, 3) := by decide +kernel
theorem dX7_begins_42 : decode cX7_begins 42 = .ok (.iload_n 1, 1) := by decide +kernel
theorem dX7_begins_43 : decode cX7_begins 43 = .ok (.iaload, 1) := by decide +kernel
theorem dX7_begins_44 : decode cX7_begins 44 = .ok (.iconst (-1), 1) := by decide +kernel
theorem dX7_begins_45 : decode cX7_begins 45 = .ok (.if_icmp .ne 7, 3) := by decide +kernel
theorem dX7_begins_48 : decode cX7_begins 48 = .ok (.ldc2_w 130, 3) := by decide +kernel
theorem dX7_begins_51 : decode cX7_begins 51 = .ok (.lreturn, 1) := by decide +kernel
theorem dX7_begins_52 : decode cX7_begins 52 = .ok (.iload_n 2, 1) := by decide +kernel
theorem dX7_begins_53 : decode cX7_begins 53 = .ok (.iconst 2, 1) := by decide +kernel
theorem dX7_begins_54 : decode cX7_begins 54 = .ok (.if_icmp .ne 15, 3) := by decide +kernel
theorem dX7_begins_57 : decode cX7_begins 57 = .ok (.aload_n 0, 1) := by decide +kernel
theorem dX7_begins_58 : decode cX7_begins 58 = .ok (.getfield 10, 3) := by decide +kernel
theorem dX7_begins_61 : decode cX7_begins 61 = .ok (.iload_n 1, 1) := by decide +kernel
theorem dX7_begins_62 : decode cX7_begins 62 = .ok (.invokevirtual 178, 3) := by decide +kernel
theorem dX7_begins_65 : decode cX7_begins 65 = .ok (.invokestatic 95, 3) := by decide +kernel
theorem dX7_begins_68 : decode cX7_begins 68 = .ok (.lreturn, 1) := by decide +kernel
theorem dX7_begins_69 : decode cX7_begins 69 = .ok (.iload_n 2, 1) := by decide +kernel
theorem dX7_begins_70 : decode cX7_begins 70 = .ok (.ifCond .ne 16, 3) := by decide +kernel
theorem dX7_begins_73 : decode cX7_begins 73 = .ok (.aload_n 0, 1) := by decide +kernel
theorem dX7_begins_74 : decode cX7_begins 74 = .ok (.getfield 33, 3) := by decide +kernel
theorem dX7_begins_77 : decode cX7_begins 77 = .ok (.getfield 175, 3) := by decide +kernel
theorem dX7_begins_80 : decode cX7_begins 80 = .ok (.iload_n 1, 1) := by decide +kernel
theorem dX7_begins_81 : decode cX7_begins 81 = .ok (.iaload, 1) := by decide +kernel
theorem dX7_begins_82 : decode cX7_begins 82 = .ok (.i2l, 1) := by decide +kernel
theorem dX7_begins_83 : decode cX7_begins 83 = .ok (.goto 13, 3) := by decide +kernel
theorem dX7_begins_86 : decode cX7_begins 86 = .ok (.aload_n 0, 1) := by decide +kernel
theorem dX7_begins_87 : decode cX7_begins 87 = .ok (.getfield 33, 3) := by decide +kernel
theorem dX7_begins_90 : decode cX7_begins 90 = .ok (.getfield 181, 3) := by decide +kernel
theorem dX7_begins_93 : decode cX7_begins 93 = .ok (.iload_n 1, 1) := by decide +kernel
theorem dX7_begins_94 : decode cX7_begins 94 = .ok (.iaload, 1) := by decide +kernel
theorem dX7_begins_95 : decode cX7_begins 95 = .ok (.i2l, 1) := by decide +kernel
theorem dX7_begins_96 : decode cX7_begins 96 = .ok (.lreturn, 1) := by decide +kernel
theorem dX7_waited_0 : decode cX7_waited 0 = .ok (.aload_n 0, 1) := by decide +kernel
theorem dX7_waited_1 : decode cX7_waited 1 = .ok (.getfield 19, 3) := by decide +kernel
theorem dX7_waited_4 : decode cX7_waited 4 = .ok (.iload_n 1, 1) := by decide +kernel
theorem dX7_waited_5 : decode cX7_waited 5 = .ok (.invokevirtual 89, 3) := by decide +kernel
theorem dX7_waited_8 : decode cX7_waited 8 = .ok (.ifCond .eq 14, 3) := by decide +kernel
theorem dX7_waited_11 : decode cX7_waited 11 = .ok (.aload_n 0, 1) := by decide +kernel
theorem dX7_waited_12 : decode cX7_waited 12 = .ok (.getfield 10, 3) := by decide +kernel
theorem dX7_waited_15 : decode cX7_waited 15 = .ok (.iload_n 2, 1) := by decide +kernel
theorem dX7_waited_16 : decode cX7_waited 16 = .ok (.invokevirtual 99, 3) := by decide +kernel
theorem dX7_waited_19 : decode cX7_waited 19 = .ok (.ifCond .ne 7, 3) := by decide +kernel
theorem dX7_waited_22 : decode cX7_waited 22 = .ok (.ldc2_w 70, 3) := by decide +kernel
theorem dX7_waited_25 : decode cX7_waited 25 = .ok (.lreturn, 1) := by decide +kernel
theorem dX7_waited_26 : decode cX7_waited 26 = .ok (.aload_n 0, 1) := by decide +kernel
theorem dX7_waited_27 : decode cX7_waited 27 = .ok (.getfield 10, 3) := by decide +kernel
theorem dX7_waited_30 : decode cX7_waited 30 = .ok (.iload_n 2, 1) := by decide +kernel
theorem dX7_waited_31 : decode cX7_waited 31 = .ok (.iload_n 1, 1) := by decide +kernel
theorem dX7_waited_32 : decode cX7_waited 32 = .ok (.invokevirtual 163, 3) := by decide +kernel
theorem dX7_waited_35 : decode cX7_waited 35 = .ok (.ifCond .ne 7, 3) := by decide +kernel
theorem dX7_waited_38 : decode cX7_waited 38 = .ok (.ldc2_w 166, 3) := by decide +kernel
theorem dX7_waited_41 : decode cX7_waited 41 = .ok (.lreturn, 1) := by decide +kernel
theorem dX7_waited_42 : decode cX7_waited 42 = .ok (.aload_n 0, 1) := by decide +kernel
theorem dX7_waited_43 : decode cX7_waited 43 = .ok (.getfield 33, 3) := by decide +kernel
theorem dX7_waited_46 : decode cX7_waited 46 = .ok (.aload_n 0, 1) := by decide +kernel
theorem dX7_waited_47 : decode cX7_waited 47 = .ok (.getfield 10, 3) := by decide +kernel
theorem dX7_waited_50 : decode cX7_waited 50 = .ok (.invokevirtual 171, 3) := by decide +kernel
theorem dX7_waited_53 : decode cX7_waited 53 = .ok (.aload_n 0, 1) := by decide +kernel
theorem dX7_waited_54 : decode cX7_waited 54 = .ok (.getfield 33, 3) := by decide +kernel
theorem dX7_waited_57 : decode cX7_waited 57 = .ok (.aload_n 0, 1) := by decide +kernel
theorem dX7_waited_58 : decode cX7_waited 58 = .ok (.getfield 10, 3) := by decide +kernel
theorem dX7_waited_61 : decode cX7_waited 61 = .ok (.iload_n 1, 1) := by decide +kernel
theorem dX7_waited_62 : decode cX7_waited 62 = .ok (.iload_n 2, 1) := by decide +kernel
theorem dX7_waited_63 : decode cX7_waited 63 = .ok (.invokevirtual 184, 3) := by decide +kernel
theorem dX7_waited_66 : decode cX7_waited 66 = .ok (.i2l, 1) := by decide +kernel
theorem dX7_waited_67 : decode cX7_waited 67 = .ok (.lreturn, 1) := by decide +kernel
theorem dX7_idle_0 : decode cX7_idle 0 = .ok (.iload_n 1, 1) := by decide +kernel
theorem dX7_idle_1 : decode cX7_idle 1 = .ok (.invokestatic 62, 3) := by decide +kernel
theorem dX7_idle_4 : decode cX7_idle 4 = .ok (.ifCond .eq 12, 3) := by decide +kernel
theorem dX7_idle_7 : decode cX7_idle 7 = .ok (.iload_n 2, 1) := by decide +kernel
theorem dX7_idle_8 : decode cX7_idle 8 = .ok (.iconst 0, 1) := by decide +kernel
theorem dX7_idle_9 : decode cX7_idle 9 = .ok (.iconst 1, 1) := by decide +kernel
theorem dX7_idle_10 : decode cX7_idle 10 = .ok (.invokestatic 66, 3) := by decide +kernel
theorem dX7_idle_13 : decode cX7_idle 13 = .ok (.ifCond .ne 7, 3) := by decide +kernel
theorem dX7_idle_16 : decode cX7_idle 16 = .ok (.ldc2_w 70, 3) := by decide +kernel
theorem dX7_idle_19 : decode cX7_idle 19 = .ok (.lreturn, 1) := by decide +kernel
theorem dX7_idle_20 : decode cX7_idle 20 = .ok (.aload_n 0, 1) := by decide +kernel
theorem dX7_idle_21 : decode cX7_idle 21 = .ok (.getfield 33, 3) := by decide +kernel
theorem dX7_idle_24 : decode cX7_idle 24 = .ok (.aload_n 0, 1) := by decide +kernel
theorem dX7_idle_25 : decode cX7_idle 25 = .ok (.getfield 10, 3) := by decide +kernel
theorem dX7_idle_28 : decode cX7_idle 28 = .ok (.invokevirtual 171, 3) := by decide +kernel
theorem dX7_idle_31 : decode cX7_idle 31 = .ok (.aload_n 0, 1) := by decide +kernel
theorem dX7_idle_32 : decode cX7_idle 32 = .ok (.getfield 33, 3) := by decide +kernel
theorem dX7_idle_35 : decode cX7_idle 35 = .ok (.getfield 188, 3) := by decide +kernel
theorem dX7_idle_38 : decode cX7_idle 38 = .ok (.iload_n 1, 1) := by decide +kernel
theorem dX7_idle_39 : decode cX7_idle 39 = .ok (.iconst 2, 1) := by decide +kernel
theorem dX7_idle_40 : decode cX7_idle 40 = .ok (.imul, 1) := by decide +kernel
theorem dX7_idle_41 : decode cX7_idle 41 = .ok (.iload_n 2, 1) := by decide +kernel
theorem dX7_idle_42 : decode cX7_idle 42 = .ok (.iadd, 1) := by decide +kernel
theorem dX7_idle_43 : decode cX7_idle 43 = .ok (.iaload, 1) := by decide +kernel
theorem dX7_idle_44 : decode cX7_idle 44 = .ok (.i2l, 1) := by decide +kernel
