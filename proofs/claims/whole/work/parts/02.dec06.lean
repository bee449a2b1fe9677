theorem dX8_costOf_63 : decode cX8_costOf 63 = .ok (.iaload, 1) := by decide +kernel
theorem dX8_costOf_64 : decode cX8_costOf 64 = .ok (.i2l, 1) := by decide +kernel
theorem dX8_costOf_65 : decode cX8_costOf 65 = .ok (.lmul, 1) := by decide +kernel
theorem dX8_costOf_66 : decode cX8_costOf 66 = .ok (.lmul, 1) := by decide +kernel
theorem dX8_costOf_67 : decode cX8_costOf 67 = .ok (.ladd, 1) := by decide +kernel
theorem dX8_costOf_68 : decode cX8_costOf 68 = .ok (.lstore_n 3, 1) := by decide +kernel
theorem dX8_costOf_69 : decode cX8_costOf 69 = .ok (.iinc 6 1, 3) := by decide +kernel
theorem dX8_costOf_72 : decode cX8_costOf 72 = .ok (.goto (-60), 3) := by decide +kernel
theorem dX8_costOf_75 : decode cX8_costOf 75 = .ok (.lload_n 3, 1) := by decide +kernel
theorem dX8_costOf_76 : decode cX8_costOf 76 = .ok (.lreturn, 1) := by decide +kernel
theorem dX8_cost_0 : decode cX8_cost 0 = .ok (.aload_n 0, 1) := by decide +kernel
theorem dX8_cost_1 : decode cX8_cost 1 = .ok (.iload_n 1, 1) := by decide +kernel
theorem dX8_cost_2 : decode cX8_cost 2 = .ok (.invokevirtual 118, 3) := by decide +kernel
theorem dX8_cost_5 : decode cX8_cost 5 = .ok (.ifCond .eq 13, 3) := by decide +kernel
theorem dX8_cost_8 : decode cX8_cost 8 = .ok (.iload_n 2, 1) := by decide +kernel
theorem dX8_cost_9 : decode cX8_cost 9 = .ok (.iconst 0, 1) := by decide +kernel
theorem dX8_cost_10 : decode cX8_cost 10 = .ok (.bipush 48, 2) := by decide +kernel
theorem dX8_cost_12 : decode cX8_cost 12 = .ok (.invokestatic 92, 3) := by decide +kernel
theorem dX8_cost_15 : decode cX8_cost 15 = .ok (.ifCond .ne 7, 3) := by decide +kernel
theorem dX8_cost_18 : decode cX8_cost 18 = .ok (.ldc2_w 107, 3) := by decide +kernel
theorem dX8_cost_21 : decode cX8_cost 21 = .ok (.lreturn, 1) := by decide +kernel
theorem dX8_cost_22 : decode cX8_cost 22 = .ok (.aload_n 0, 1) := by decide +kernel
theorem dX8_cost_23 : decode cX8_cost 23 = .ok (.iload_n 1, 1) := by decide +kernel
theorem dX8_cost_24 : decode cX8_cost 24 = .ok (.invokevirtual 131, 3) := by decide +kernel
theorem dX8_cost_27 : decode cX8_cost 27 = .ok (.aload_n 0, 1) := by decide +kernel
theorem dX8_cost_28 : decode cX8_cost 28 = .ok (.iload_n 1, 1) := by decide +kernel
theorem dX8_cost_29 : decode cX8_cost 29 = .ok (.iload_n 2, 1) := by decide +kernel
theorem dX8_cost_30 : decode cX8_cost 30 = .ok (.invokevirtual 138, 3) := by decide +kernel
theorem dX8_cost_33 : decode cX8_cost 33 = .ok (.lreturn, 1) := by decide +kernel
theorem dX8_bestFor_0 : decode cX8_bestFor 0 = .ok (.iconst 0, 1) := by decide +kernel
theorem dX8_bestFor_1 : decode cX8_bestFor 1 = .ok (.istore_n 2, 1) := by decide +kernel
theorem dX8_bestFor_2 : decode cX8_bestFor 2 = .ok (.iconst 0, 1) := by decide +kernel
theorem dX8_bestFor_3 : decode cX8_bestFor 3 = .ok (.istore_n 3, 1) := by decide +kernel
theorem dX8_bestFor_4 : decode cX8_bestFor 4 = .ok (.iload_n 3, 1) := by decide +kernel
theorem dX8_bestFor_5 : decode cX8_bestFor 5 = .ok (.aload_n 0, 1) := by decide +kernel
theorem dX8_bestFor_6 : decode cX8_bestFor 6 = .ok (.getfield 100, 3) := by decide +kernel
theorem dX8_bestFor_9 : decode cX8_bestFor 9 = .ok (.if_icmp .ge 39, 3) := by decide +kernel
theorem dX8_bestFor_12 : decode cX8_bestFor 12 = .ok (.aload_n 0, 1) := by decide +kernel
theorem dX8_bestFor_13 : decode cX8_bestFor 13 = .ok (.iload_n 1, 1) := by decide +kernel
theorem dX8_bestFor_14 : decode cX8_bestFor 14 = .ok (.iload_n 3, 1) := by decide +kernel
theorem dX8_bestFor_15 : decode cX8_bestFor 15 = .ok (.invokevirtual 121, 3) := by decide +kernel
theorem dX8_bestFor_18 : decode cX8_bestFor 18 = .ok (.ifCond .eq 22, 3) := by decide +kernel
theorem dX8_bestFor_21 : decode cX8_bestFor 21 = .ok (.aload_n 0, 1) := by decide +kernel
theorem dX8_bestFor_22 : decode cX8_bestFor 22 = .ok (.getfield 34, 3) := by decide +kernel
theorem dX8_bestFor_25 : decode cX8_bestFor 25 = .ok (.iload_n 3, 1) := by decide +kernel
theorem dX8_bestFor_26 : decode cX8_bestFor 26 = .ok (.iaload, 1) := by decide +kernel
theorem dX8_bestFor_27 : decode cX8_bestFor 27 = .ok (.iload_n 2, 1) := by decide +kernel
theorem dX8_bestFor_28 : decode cX8_bestFor 28 = .ok (.if_icmp .le 12, 3) := by decide +kernel
theorem dX8_bestFor_31 : decode cX8_bestFor 31 = .ok (.aload_n 0, 1) := by decide +kernel
theorem dX8_bestFor_32 : decode cX8_bestFor 32 = .ok (.getfield 34, 3) := by decide +kernel
theorem dX8_bestFor_35 : decode cX8_bestFor 35 = .ok (.iload_n 3, 1) := by decide +kernel
theorem dX8_bestFor_36 : decode cX8_bestFor 36 = .ok (.iaload, 1) := by decide +kernel
theorem dX8_bestFor_37 : decode cX8_bestFor 37 = .ok (.goto 4, 3) := by decide +kernel
theorem dX8_bestFor_40 : decode cX8_bestFor 40 = .ok (.iload_n 2, 1) := by decide +kernel
theorem dX8_bestFor_41 : decode cX8_bestFor 41 = .ok (.istore_n 2, 1) := by decide +kernel
theorem dX8_bestFor_42 : decode cX8_bestFor 42 = .ok (.iinc 3 1, 3) := by decide +kernel
theorem dX8_bestFor_45 : decode cX8_bestFor 45 = .ok (.goto (-41), 3) := by decide +kernel
theorem dX8_bestFor_48 : decode cX8_bestFor 48 = .ok (.aload_n 0, 1) := by decide +kernel
theorem dX8_bestFor_49 : decode cX8_bestFor 49 = .ok (.iload_n 1, 1) := by decide +kernel
theorem dX8_bestFor_50 : decode cX8_bestFor 50 = .ok (.invokevirtual 131, 3) := by decide +kernel
theorem dX8_bestFor_53 : decode cX8_bestFor 53 = .ok (.iload_n 2, 1) := by decide +kernel
theorem dX8_bestFor_54 : decode cX8_bestFor 54 = .ok (.istore_n 3, 1) := by decide +kernel
theorem dX8_bestFor_55 : decode cX8_bestFor 55 = .ok (.aload_n 0, 1) := by decide +kernel
theorem dX8_bestFor_56 : decode cX8_bestFor 56 = .ok (.iload_n 1, 1) := by decide +kernel
theorem dX8_bestFor_57 : decode cX8_bestFor 57 = .ok (.iload_n 2, 1) := by decide +kernel
theorem dX8_bestFor_58 : decode cX8_bestFor 58 = .ok (.invokevirtual 138, 3) := by decide +kernel
theorem dX8_bestFor_61 : decode cX8_bestFor 61 = .ok (.lstore 4, 2) := by decide +kernel
theorem dX8_bestFor_63 : decode cX8_bestFor 63 = .ok (.iload_n 2, 1) := by decide +kernel
theorem dX8_bestFor_64 : decode cX8_bestFor 64 = .ok (.iconst 1, 1) := by decide +kernel
theorem dX8_bestFor_65 : decode cX8_bestFor 65 = .ok (.iadd, 1) := by decide +kernel
theorem dX8_bestFor_66 : decode cX8_bestFor 66 = .ok (.istore 6, 2) := by decide +kernel
theorem dX8_bestFor_68 : decode cX8_bestFor 68 = .ok (.iload 6, 2) := by decide +kernel
theorem dX8_bestFor_70 : decode cX8_bestFor 70 = .ok (.bipush 48, 2) := by decide +kernel
theorem dX8_bestFor_72 : decode cX8_bestFor 72 = .ok (.if_icmp .gt 33, 3) := by decide +kernel
theorem dX8_bestFor_75 : decode cX8_bestFor 75 = .ok (.aload_n 0, 1) := by decide +kernel
theorem dX8_bestFor_76 : decode cX8_bestFor 76 = .ok (.iload_n 1, 1) := by decide +kernel
theorem dX8_bestFor_77 : decode cX8_bestFor 77 = .ok (.iload 6, 2) := by decide +kernel
theorem dX8_bestFor_79 : decode cX8_bestFor 79 = .ok (.invokevirtual 138, 3) := by decide +kernel
theorem dX8_bestFor_82 : decode cX8_bestFor 82 = .ok (.lstore 7, 2) := by decide +kernel
theorem dX8_bestFor_84 : decode cX8_bestFor 84 = .ok (.lload 7, 2) := by decide +kernel
theorem dX8_bestFor_86 : decode cX8_bestFor 86 = .ok (.lload 4, 2) := by decide +kernel
theorem dX8_bestFor_88 : decode cX8_bestFor 88 = .ok (.lcmp, 1) := by decide +kernel
theorem dX8_bestFor_89 : decode cX8_bestFor 89 = .ok (.ifCond .ge 10, 3) := by decide +kernel
theorem dX8_bestFor_92 : decode cX8_bestFor 92 = .ok (.lload 7, 2) := by decide +kernel
theorem dX8_bestFor_94 : decode cX8_bestFor 94 = .ok (.lstore 4, 2) := by decide +kernel
theorem dX8_bestFor_96 : decode cX8_bestFor 96 = .ok (.iload 6, 2) := by decide +kernel
theorem dX8_bestFor_98 : decode cX8_bestFor 98 = .ok (.istore_n 3, 1) := by decide +kernel
theorem dX8_bestFor_99 : decode cX8_bestFor 99 = .ok (.iinc 6 1, 3) := by decide +kernel
theorem dX8_bestFor_102 : decode cX8_bestFor 102 = .ok (.goto (-34), 3) := by decide +kernel
theorem dX8_bestFor_105 : decode cX8_bestFor 105 = .ok (.iload_n 3, 1) := by decide +kernel
theorem dX8_bestFor_106 : decode cX8_bestFor 106 = .ok (.ireturn, 1) := by decide +kernel
theorem dX8_best_0 : decode cX8_best 0 = .ok (.aload_n 0, 1) := by decide +kernel
theorem dX8_best_1 : decode cX8_best 1 = .ok (.iload_n 1, 1) := by decide +kernel
theorem dX8_best_2 : decode cX8_best 2 = .ok (.invokevirtual 118, 3) := by decide +kernel
theorem dX8_best_5 : decode cX8_best 5 = .ok (.ifCond .eq 12, 3) := by decide +kernel
theorem dX8_best_8 : decode cX8_best 8 = .ok (.aload_n 0, 1) := by decide +kernel
theorem dX8_best_9 : decode cX8_best 9 = .ok (.iload_n 1, 1) := by decide +kernel
theorem dX8_best_10 : decode cX8_best 10 = .ok (.invokevirtual 142, 3) := by decide +kernel
theorem dX8_best_13 : decode cX8_best 13 = .ok (.i2l, 1) := by decide +kernel
theorem dX8_best_14 : decode cX8_best 14 = .ok (.goto 6, 3) := by decide +kernel
theorem dX8_best_17 : decode cX8_best 17 = .ok (.ldc2_w 107, 3) := by decide +kernel
theorem dX8_best_20 : decode cX8_best 20 = .ok (.lreturn, 1) := by decide +kernel
theorem dX8_call_0 : decode cX8_call 0 = .ok (.aload_n 0, 1) := by decide +kernel
theorem dX8_call_1 : decode cX8_call 1 = .ok (.iload_n 1, 1) := by decide +kernel
theorem dX8_call_2 : decode cX8_call 2 = .ok (.invokevirtual 115, 3) := by decide +kernel
theorem dX8_call_5 : decode cX8_call 5 = .ok (.ifCond .eq 21, 3) := by decide +kernel
theorem dX8_call_8 : decode cX8_call 8 = .ok (.aload_n 0, 1) := by decide +kernel
theorem dX8_call_9 : decode cX8_call 9 = .ok (.iload_n 2, 1) := by decide +kernel
theorem dX8_call_10 : decode cX8_call 10 = .ok (.invokevirtual 118, 3) := by decide +kernel
theorem dX8_call_13 : decode cX8_call 13 = .ok (.ifCond .eq 13, 3) := by decide +kernel
theorem dX8_call_16 : decode cX8_call 16 = .ok (.iload_n 3, 1) := by decide +kernel
theorem dX8_call_17 : decode cX8_call 17 = .ok (.iconst 0, 1) := by decide +kernel
theorem dX8_call_18 : decode cX8_call 18 = .ok (.bipush 48, 2) := by decide +kernel
theorem dX8_call_20 : decode cX8_call 20 = .ok (.invokestatic 92, 3) := by decide +kernel
theorem dX8_call_23 : decode cX8_call 23 = .ok (.ifCond .ne 7, 3) := by decide +kernel
theorem dX8_call_26 : decode cX8_call 26 = .ok (.ldc2_w 107, 3) := by decide +kernel
theorem dX8_call_29 : decode cX8_call 29 = .ok (.lreturn, 1) := by decide +kernel
theorem dX8_call_30 : decode cX8_call 30 = .ok (.aload_n 0, 1) := by decide +kernel
theorem dX8_call_31 : decode cX8_call 31 = .ok (.iload_n 2, 1) := by decide +kernel
theorem dX8_call_32 : decode cX8_call 32 = .ok (.iload_n 1, 1) := by decide +kernel
theorem dX8_call_33 : decode cX8_call 33 = .ok (.invokevirtual 121, 3) := by decide +kernel
theorem dX8_call_36 : decode cX8_call 36 = .ok (.ifCond .eq 13, 3) := by decide +kernel
theorem dX8_call_39 : decode cX8_call 39 = .ok (.iload_n 3, 1) := by decide +kernel
theorem dX8_call_40 : decode cX8_call 40 = .ok (.aload_n 0, 1) := by decide +kernel
theorem dX8_call_41 : decode cX8_call 41 = .ok (.getfield 34, 3) := by decide +kernel
theorem dX8_call_44 : decode cX8_call 44 = .ok (.iload_n 1, 1) := by decide +kernel
theorem dX8_call_45 : decode cX8_call 45 = .ok (.iaload, 1) := by decide +kernel
theorem dX8_call_46 : decode cX8_call 46 = .ok (.if_icmp .ge 7, 3) := by decide +kernel
theorem dX8_call_49 : decode cX8_call 49 = .ok (.ldc2_w 145, 3) := by decide +kernel
theorem dX8_call_52 : decode cX8_call 52 = .ok (.lreturn, 1) := by decide +kernel
theorem dX8_call_53 : decode cX8_call 53 = .ok (.bipush 10, 2) := by decide +kernel
theorem dX8_call_55 : decode cX8_call 55 = .ok (.iload_n 2, 1) := by decide +kernel
theorem dX8_call_56 : decode cX8_call 56 = .ok (.imul, 1) := by decide +kernel
theorem dX8_call_57 : decode cX8_call 57 = .ok (.iload_n 1, 1) := by decide +kernel
theorem dX8_call_58 : decode cX8_call 58 = .ok (.iadd, 1) := by decide +kernel
theorem dX8_call_59 : decode cX8_call 59 = .ok (.istore 4, 2) := by decide +kernel
theorem dX8_call_61 : decode cX8_call 61 = .ok (.aload_n 0, 1) := by decide +kernel
theorem dX8_call_62 : decode cX8_call 62 = .ok (.getfield 40, 3) := by decide +kernel
theorem dX8_call_65 : decode cX8_call 65 = .ok (.iload 4, 2) := by decide +kernel
theorem dX8_call_67 : decode cX8_call 67 = .ok (.iaload, 1) := by decide +kernel
theorem dX8_call_68 : decode cX8_call 68 = .ok (.istore 5, 2) := by decide +kernel
theorem dX8_call_70 : decode cX8_call 70 = .ok (.aload_n 0, 1) := by decide +kernel
theorem dX8_call_71 : decode cX8_call 71 = .ok (.getfield 40, 3) := by decide +kernel
theorem dX8_call_74 : decode cX8_call 74 = .ok (.iload 4, 2) := by decide +kernel
theorem dX8_call_76 : decode cX8_call 76 = .ok (.iload_n 3, 1) := by decide +kernel
theorem dX8_call_77 : decode cX8_call 77 = .ok (.iastore, 1) := by decide +kernel
theorem dX8_call_78 : decode cX8_call 78 = .ok (.iload 5, 2) := by decide +kernel
theorem dX8_call_80 : decode cX8_call 80 = .ok (.i2l, 1) := by decide +kernel
theorem dX8_call_81 : decode cX8_call 81 = .ok (.lreturn, 1) := by decide +kernel
theorem dX8_called_0 : decode cX8_called 0 = .ok (.aload_n 0, 1) := by decide +kernel
theorem dX8_called_1 : decode cX8_called 1 = .ok (.iload_n 1, 1) := by decide +kernel
theorem dX8_called_2 : decode cX8_called 2 = .ok (.invokevirtual 115, 3) := by decide +kernel
theorem dX8_called_5 : decode cX8_called 5 = .ok (.ifCond .eq 11, 3) := by decide +kernel
theorem dX8_called_8 : decode cX8_called 8 = .ok (.aload_n 0, 1) := by decide +kernel
theorem dX8_called_9 : decode cX8_called 9 = .ok (.iload_n 2, 1) := by decide +kernel
theorem dX8_called_10 : decode cX8_called 10 = .ok (.invokevirtual 118, 3) := by decide +kernel
theorem dX8_called_13 : decode cX8_called 13 = .ok (.ifCond .ne 7, 3) := by decide +kernel
theorem dX8_called_16 : decode cX8_called 16 = .ok (.ldc2_w 107, 3) := by decide +kernel
theorem dX8_called_19 : decode cX8_called 19 = .ok (.lreturn, 1) := by decide +kernel
theorem dX8_called_20 : decode cX8_called 20 = .ok (.aload_n 0, 1) := by decide +kernel
theorem dX8_called_21 : decode cX8_called 21 = .ok (.iload_n 2, 1) := by decide +kernel
theorem dX8_called_22 : decode cX8_called 22 = .ok (.iload_n 1, 1) := by decide +kernel
theorem dX8_called_23 : decode cX8_called 23 = .ok (.invokevirtual 121, 3) := by decide +kernel
theorem dX8_called_26 : decode cX8_called 26 = .ok (.ifCond .eq 18, 3) := by decide +kernel
theorem dX8_called_29 : decode cX8_called 29 = .ok (.aload_n 0, 1) := by decide +kernel
theorem dX8_called_30 : decode cX8_called 30 = .ok (.getfield 40, 3) := by decide +kernel
theorem dX8_called_33 : decode cX8_called 33 = .ok (.bipush 10, 2) := by decide +kernel
theorem dX8_called_35 : decode cX8_called 35 = .ok (.iload_n 2, 1) := by decide +kernel
theorem dX8_called_36 : decode cX8_called 36 = .ok (.imul, 1) := by decide +kernel
theorem dX8_called_37 : decode cX8_called 37 = .ok (.iload_n 1, 1) := by decide +kernel
theorem dX8_called_38 : decode cX8_called 38 = .ok (.iadd, 1) := by decide +kernel
theorem dX8_called_39 : decode cX8_called 39 = .ok (.iaload, 1) := by decide +kernel
theorem dX8_called_40 : decode cX8_called 40 = .ok (.i2l, 1) := by decide +kernel
theorem dX8_called_41 : decode cX8_called 41 = .ok (.goto 6, 3) := by decide +kernel
theorem dX8_called_44 : decode cX8_called 44 = .ok (.ldc2_w 145, 3) := by decide +kernel
theorem dX8_called_47 : decode cX8_called 47 = .ok (.lreturn, 1) := by decide +kernel
theorem dX8_plan_0 : decode cX8_plan 0 = .ok (.aload_n 0, 1) := by decide +kernel
theorem dX8_plan_1 : decode cX8_plan 1 = .ok (.iload_n 1, 1) := by decide +kernel
theorem dX8_plan_2 : decode cX8_plan 2 = .ok (.invokevirtual 118, 3) := by decide +kernel
theorem dX8_plan_5 : decode cX8_plan 5 = .ok (.ifCond .ne 7, 3) := by decide +kernel
theorem dX8_plan_8 : decode cX8_plan 8 = .ok (.ldc2_w 107, 3) := by decide +kernel
theorem dX8_plan_11 : decode cX8_plan 11 = .ok (.lreturn, 1) := by decide +kernel
theorem dX8_plan_12 : decode cX8_plan 12 = .ok (.aload_n 0, 1) := by decide +kernel
theorem dX8_plan_13 : decode cX8_plan 13 = .ok (.iload_n 1, 1) := by decide +kernel
theorem dX8_plan_14 : decode cX8_plan 14 = .ok (.invokevirtual 142, 3) := by decide +kernel
theorem dX8_plan_17 : decode cX8_plan 17 = .ok (.istore_n 2, 1) := by decide +kernel
theorem dX8_plan_18 : decode cX8_plan 18 = .ok (.iconst 0, 1) := by decide +kernel
theorem dX8_plan_19 : decode cX8_plan 19 = .ok (.istore_n 3, 1) := by decide +kernel
theorem dX8_plan_20 : decode cX8_plan 20 = .ok (.iload_n 3, 1) := by decide +kernel
theorem dX8_plan_21 : decode cX8_plan 21 = .ok (.aload_n 0, 1) := by decide +kernel
theorem dX8_plan_22 : decode cX8_plan 22 = .ok (.getfield 100, 3) := by decide +kernel
theorem dX8_plan_25 : decode cX8_plan 25 = .ok (.if_icmp .ge 30, 3) := by decide +kernel
theorem dX8_plan_28 : decode cX8_plan 28 = .ok (.aload_n 0, 1) := by decide +kernel
theorem dX8_plan_29 : decode cX8_plan 29 = .ok (.iload_n 1, 1) := by decide +kernel
theorem dX8_plan_30 : decode cX8_plan 30 = .ok (.iload_n 3, 1) := by decide +kernel
theorem dX8_plan_31 : decode cX8_plan 31 = .ok (.invokevirtual 121, 3) := by decide +kernel
theorem dX8_plan_34 : decode cX8_plan 34 = .ok (.ifCond .eq 15, 3) := by decide +kernel
theorem dX8_plan_37 : decode cX8_plan 37 = .ok (.aload_n 0, 1) := by decide +kernel
theorem dX8_plan_38 : decode cX8_plan 38 = .ok (.getfield 40, 3) := by decide +kernel
theorem dX8_plan_41 : decode cX8_plan 41 = .ok (.bipush 10, 2) := by decide +kernel
theorem dX8_plan_43 : decode cX8_plan 43 = .ok (.iload_n 1, 1) := by decide +kernel
theorem dX8_plan_44 : decode cX8_plan 44 = .ok (.imul, 1) := by decide +kernel
theorem dX8_plan_45 : decode cX8_plan 45 = .ok (.iload_n 3, 1) := by decide +kernel
theorem dX8_plan_46 : decode cX8_plan 46 = .ok (.iadd, 1) := by decide +kernel
theorem dX8_plan_47 : decode cX8_plan 47 = .ok (.iload_n 2, 1) := by decide +kernel
theorem dX8_plan_48 : decode cX8_plan 48 = .ok (.iastore, 1) := by decide +kernel
theorem dX8_plan_49 : decode cX8_plan 49 = .ok (.iinc 3 1, 3) := by decide +kernel
theorem dX8_plan_52 : decode cX8_plan 52 = .ok (.goto (-32), 3) := by decide +kernel
theorem dX8_plan_55 : decode cX8_plan 55 = .ok (.iload_n 2, 1) := by decide +kernel
theorem dX8_plan_56 : decode cX8_plan 56 = .ok (.i2l, 1) := by decide +kernel
theorem dX8_plan_57 : decode cX8_plan 57 = .ok (.lreturn, 1) := by decide +kernel
theorem dX8_isFolded_0 : decode cX8_isFolded 0 = .ok (.aload_n 0, 1) := by decide +kernel
theorem dX8_isFolded_1 : decode cX8_isFolded 1 = .ok (.getfield 28, 3) := by decide +kernel
theorem dX8_isFolded_4 : decode cX8_isFolded 4 = .ok (.iload_n 1, 1) := by decide +kernel
theorem dX8_isFolded_5 : decode cX8_isFolded 5 = .ok (.iaload, 1) := by decide +kernel
theorem dX8_isFolded_6 : decode cX8_isFolded 6 = .ok (.ifCond .ne 7, 3) := by decide +kernel
theorem dX8_isFolded_9 : decode cX8_isFolded 9 = .ok (.iconst 1, 1) := by decide +kernel
theorem dX8_isFolded_10 : decode cX8_isFolded 10 = .ok (.goto 4, 3) := by decide +kernel
theorem dX8_isFolded_13 : decode cX8_isFolded 13 = .ok (.iconst 0, 1) := by decide +kernel
theorem dX8_isFolded_14 : decode cX8_isFolded 14 = .ok (.ireturn, 1) := by decide +kernel
theorem dX8_isOn_0 : decode cX8_isOn 0 = .ok (.aload_n 0, 1) := by decide +kernel
theorem dX8_isOn_1 : decode cX8_isOn 1 = .ok (.getfield 68, 3) := by decide +kernel
theorem dX8_isOn_4 : decode cX8_isOn 4 = .ok (.iload_n 1, 1) := by decide +kernel
theorem dX8_isOn_5 : decode cX8_isOn 5 = .ok (.iaload, 1) := by decide +kernel
theorem dX8_isOn_6 : decode cX8_isOn 6 = .ok (.ifCond .lt 27, 3) := by decide +kernel
theorem dX8_isOn_9 : decode cX8_isOn 9 = .ok (.iload_n 2, 1) := by decide +kernel
theorem dX8_isOn_10 : decode cX8_isOn 10 = .ok (.aload_n 0, 1) := by decide +kernel
theorem dX8_isOn_11 : decode cX8_isOn 11 = .ok (.getfield 68, 3) := by decide +kernel
theorem dX8_isOn_14 : decode cX8_isOn 14 = .ok (.iload_n 1, 1) := by decide +kernel
theorem dX8_isOn_15 : decode cX8_isOn 15 = .ok (.iaload, 1) := by decide +kernel
theorem dX8_isOn_16 : decode cX8_isOn 16 = .ok (.if_icmp .lt 17, 3) := by decide +kernel
theorem dX8_isOn_19 : decode cX8_isOn 19 = .ok (.iload_n 2, 1) := by decide +kernel
theorem dX8_isOn_20 : decode cX8_isOn 20 = .ok (.aload_n 0, 1) := by decide +kernel
theorem dX8_isOn_21 : decode cX8_isOn 21 = .ok (.getfield 71, 3) := by decide +kernel
theorem dX8_isOn_24 : decode cX8_isOn 24 = .ok (.iload_n 1, 1) := by decide +kernel
theorem dX8_isOn_25 : decode cX8_isOn 25 = .ok (.iaload, 1) := by decide +kernel
theorem dX8_isOn_26 : decode cX8_isOn 26 = .ok (.if_icmp .ge 7, 3) := by decide +kernel
theorem dX8_isOn_29 : decode cX8_isOn 29 = .ok (.iconst 1, 1) := by decide +kernel
theorem dX8_isOn_30 : decode cX8_isOn 30 = .ok (.goto 4, 3) := by decide +kernel
theorem dX8_isOn_33 : decode cX8_isOn 33 = .ok (.iconst 0, 1) := by decide +kernel
theorem dX8_isOn_34 : decode cX8_isOn 34 = .ok (.ireturn, 1) := by decide +kernel
theorem dX8_isBusy_0 : decode cX8_isBusy 0 = .ok (.iconst 0, 1) := by decide +kernel
theorem dX8_isBusy_1 : decode cX8_isBusy 1 = .ok (.istore 4, 2) := by decide +kernel
theorem dX8_isBusy_3 : decode cX8_isBusy 3 = .ok (.iload 4, 2) := by decide +kernel
theorem dX8_isBusy_5 : decode cX8_isBusy 5 = .ok (.aload_n 0, 1) := by decide +kernel
theorem dX8_isBusy_6 : decode cX8_isBusy 6 = .ok (.getfield 96, 3) := by decide +kernel
theorem dX8_isBusy_9 : decode cX8_isBusy 9 = .ok (.if_icmp .ge 37, 3) := by decide +kernel
theorem dX8_isBusy_12 : decode cX8_isBusy 12 = .ok (.iload 4, 2) := by decide +kernel
theorem dX8_isBusy_14 : decode cX8_isBusy 14 = .ok (.iload_n 3, 1) := by decide +kernel
theorem dX8_isBusy_15 : decode cX8_isBusy 15 = .ok (.if_icmp .eq 25, 3) := by decide +kernel
theorem dX8_isBusy_18 : decode cX8_isBusy 18 = .ok (.aload_n 0, 1) := by decide +kernel
theorem dX8_isBusy_19 : decode cX8_isBusy 19 = .ok (.iload 4, 2) := by decide +kernel
theorem dX8_isBusy_21 : decode cX8_isBusy 21 = .ok (.iload_n 1, 1) := by decide +kernel
theorem dX8_isBusy_22 : decode cX8_isBusy 22 = .ok (.invokevirtual 121, 3) := by decide +kernel
theorem dX8_isBusy_25 : decode cX8_isBusy 25 = .ok (.ifCond .eq 15, 3) := by decide +kernel
theorem dX8_isBusy_28 : decode cX8_isBusy 28 = .ok (.aload_n 0, 1) := by decide +kernel
theorem dX8_isBusy_29 : decode cX8_isBusy 29 = .ok (.iload 4, 2) := by decide +kernel
theorem dX8_isBusy_31 : decode cX8_isBusy 31 = .ok (.iload_n 2, 1) := by decide +kernel
theorem dX8_isBusy_32 : decode cX8_isBusy 32 = .ok (.invokevirtual 147, 3) := by decide +kernel
theorem dX8_isBusy_35 : decode cX8_isBusy 35 = .ok (.ifCond .eq 5, 3) := by decide +kernel
theorem dX8_isBusy_38 : decode cX8_isBusy 38 = .ok (.iconst 1, 1) := by decide +kernel
theorem dX8_isBusy_39 : decode cX8_isBusy 39 = .ok (.ireturn, 1) := by decide +kernel
theorem dX8_isBusy_40 : decode cX8_isBusy 40 = .ok (.iinc 4 1, 3) := by decide +kernel
theorem dX8_isBusy_43 : decode cX8_isBusy 43 = .ok (.goto (-40), 3) := by decide +kernel
theorem dX8_isBusy_46 : decode cX8_isBusy 46 = .ok (.iconst 0, 1) := by decide +kernel
theorem dX8_isBusy_47 : decode cX8_isBusy 47 = .ok (.ireturn, 1) := by decide +kernel
theorem dX8_whyNot_0 : decode cX8_whyNot 0 = .ok (.iconst (-1), 1) := by decide +kernel
theorem dX8_whyNot_1 : decode cX8_whyNot 1 = .ok (.istore_n 3, 1) := by decide +kernel
theorem dX8_whyNot_2 : decode cX8_whyNot 2 = .ok (.iconst 0, 1) := by decide +kernel
theorem dX8_whyNot_3 : decode cX8_whyNot 3 = .ok (.istore 4, 2) := by decide +kernel
theorem dX8_whyNot_5 : decode cX8_whyNot 5 = .ok (.iload 4, 2) := by decide +kernel
theorem dX8_whyNot_7 : decode cX8_whyNot 7 = .ok (.aload_n 0, 1) := by decide +kernel
theorem dX8_whyNot_8 : decode cX8_whyNot 8 = .ok (.getfield 100, 3) := by decide +kernel
theorem dX8_whyNot_11 : decode cX8_whyNot 11 = .ok (.if_icmp .ge 57, 3) := by decide +kernel
theorem dX8_whyNot_14 : decode cX8_whyNot 14 = .ok (.aload_n 0, 1) := by decide +kernel
theorem dX8_whyNot_15 : decode cX8_whyNot 15 = .ok (.iload_n 1, 1) := by decide +kernel
theorem dX8_whyNot_16 : decode cX8_whyNot 16 = .ok (.iload 4, 2) := by decide +kernel
theorem dX8_whyNot_18 : decode cX8_whyNot 18 = .ok (.invokevirtual 121, 3) := by decide +kernel
theorem dX8_whyNot_21 : decode cX8_whyNot 21 = .ok (.ifCond .ne 6, 3) := by decide +kernel
theorem dX8_whyNot_24 : decode cX8_whyNot 24 = .ok (.goto 38, 3) := by decide +kernel
theorem dX8_whyNot_27 : decode cX8_whyNot 27 = .ok (.aload_n 0, 1) := by decide +kernel
theorem dX8_whyNot_28 : decode cX8_whyNot 28 = .ok (.getfield 40, 3) := by decide +kernel
theorem dX8_whyNot_31 : decode cX8_whyNot 31 = .ok (.bipush 10, 2) := by decide +kernel
theorem dX8_whyNot_33 : decode cX8_whyNot 33 = .ok (.iload_n 1, 1) := by decide +kernel
theorem dX8_whyNot_34 : decode cX8_whyNot 34 = .ok (.imul, 1) := by decide +kernel
theorem dX8_whyNot_35 : decode cX8_whyNot 35 = .ok (.iload 4, 2) := by decide +kernel
theorem dX8_whyNot_37 : decode cX8_whyNot 37 = .ok (.iadd, 1) := by decide +kernel
theorem dX8_whyNot_38 : decode cX8_whyNot 38 = .ok (.iaload, 1) := by decide +kernel
theorem dX8_whyNot_39 : decode cX8_whyNot 39 = .ok (.iload_n 2, 1) := by decide +kernel
theorem dX8_whyNot_40 : decode cX8_whyNot 40 = .ok (.if_icmp .le 5, 3) := by decide +kernel
theorem dX8_whyNot_43 : decode cX8_whyNot 43 = .ok (.iconst 0, 1) := by decide +kernel
theorem dX8_whyNot_44 : decode cX8_whyNot 44 = .ok (.ireturn, 1) := by decide +kernel
theorem dX8_whyNot_45 : decode cX8_whyNot 45 = .ok (.aload_n 0, 1) := by decide +kernel
theorem dX8_whyNot_46 : decode cX8_whyNot 46 = .ok (.iload 4, 2) := by decide +kernel
theorem dX8_whyNot_48 : decode cX8_whyNot 48 = .ok (.iload_n 2, 1) := by decide +kernel
theorem dX8_whyNot_49 : decode cX8_whyNot 49 = .ok (.iload_n 1, 1) := by decide +kernel
theorem dX8_whyNot_50 : decode cX8_whyNot 50 = .ok (.invokevirtual 150, 3) := by decide +kernel
theorem dX8_whyNot_53 : decode cX8_whyNot 53 = .ok (.ifCond .eq 7, 3) := by decide +kernel
theorem dX8_whyNot_56 : decode cX8_whyNot 56 = .ok (.iconst 1, 1) := by decide +kernel
theorem dX8_whyNot_57 : decode cX8_whyNot 57 = .ok (.goto 4, 3) := by decide +kernel
theorem dX8_whyNot_60 : decode cX8_whyNot 60 = .ok (.iload_n 3, 1) := by decide +kernel
theorem dX8_whyNot_61 : decode cX8_whyNot 61 = .ok (.istore_n 3, 1) := by decide +kernel
theorem dX8_whyNot_62 : decode cX8_whyNot 62 = .ok (.iinc 4 1, 3) := by decide +kernel
theorem dX8_whyNot_65 : decode cX8_whyNot 65 = .ok (.goto (-60), 3) := by decide +kernel
theorem dX8_whyNot_68 : decode cX8_whyNot 68 = .ok (.iload_n 3, 1) := by decide +kernel
theorem dX8_whyNot_69 : decode cX8_whyNot 69 = .ok (.ireturn, 1) := by decide +kernel
theorem dX8_goOn_0 : decode cX8_goOn 0 = .ok (.aload_n 0, 1) := by decide +kernel
theorem dX8_goOn_1 : decode cX8_goOn 1 = .ok (.getfield 77, 3) := by decide +kernel
theorem dX8_goOn_4 : decode cX8_goOn 4 = .ok (.iload_n 1, 1) := by decide +kernel
theorem dX8_goOn_5 : decode cX8_goOn 5 = .ok (.iaload, 1) := by decide +kernel
theorem dX8_goOn_6 : decode cX8_goOn 6 = .ok (.ifCond .le 30, 3) := by decide +kernel
theorem dX8_goOn_9 : decode cX8_goOn 9 = .ok (.aload_n 0, 1) := by decide +kernel
theorem dX8_goOn_10 : decode cX8_goOn 10 = .ok (.aload_n 0, 1) := by decide +kernel
theorem dX8_goOn_11 : decode cX8_goOn 11 = .ok (.getfield 13, 3) := by decide +kernel
theorem dX8_goOn_14 : decode cX8_goOn 14 = .ok (.bipush 6, 2) := by decide +kernel
theorem dX8_goOn_16 : decode cX8_goOn 16 = .ok (.iload_n 1, 1) := by decide +kernel
theorem dX8_goOn_17 : decode cX8_goOn 17 = .ok (.imul, 1) := by decide +kernel
theorem dX8_goOn_18 : decode cX8_goOn 18 = .ok (.aload_n 0, 1) := by decide +kernel
theorem dX8_goOn_19 : decode cX8_goOn 19 = .ok (.getfield 77, 3) := by decide +kernel
theorem dX8_goOn_22 : decode cX8_goOn 22 = .ok (.iload_n 1, 1) := by decide +kernel
theorem dX8_goOn_23 : decode cX8_goOn 23 = .ok (.iaload, 1) := by decide +kernel
theorem dX8_goOn_24 : decode cX8_goOn 24 = .ok (.iadd, 1) := by decide +kernel
theorem dX8_goOn_25 : decode cX8_goOn 25 = .ok (.iconst 1, 1) := by decide +kernel
theorem dX8_goOn_26 : decode cX8_goOn 26 = .ok (.isub, 1) := by decide +kernel
theorem dX8_goOn_27 : decode cX8_goOn 27 = .ok (.iaload, 1) := by decide +kernel
theorem dX8_goOn_28 : decode cX8_goOn 28 = .ok (.iload_n 2, 1) := by decide +kernel
theorem dX8_goOn_29 : decode cX8_goOn 29 = .ok (.invokevirtual 147, 3) := by decide +kernel
theorem dX8_goOn_32 : decode cX8_goOn 32 = .ok (.ifCond .eq 4, 3) := by decide +kernel
theorem dX8_goOn_35 : decode cX8_goOn 35 = .ok (.return_, 1) := by decide +kernel
theorem dX8_goOn_36 : decode cX8_goOn 36 = .ok (.aload_n 0, 1) := by decide +kernel
theorem dX8_goOn_37 : decode cX8_goOn 37 = .ok (.getfield 77, 3) := by decide +kernel
theorem dX8_goOn_40 : decode cX8_goOn 40 = .ok (.iload_n 1, 1) := by decide +kernel
theorem dX8_goOn_41 : decode cX8_goOn 41 = .ok (.iaload, 1) := by decide +kernel
theorem dX8_goOn_42 : decode cX8_goOn 42 = .ok (.aload_n 0, 1) := by decide +kernel
theorem dX8_goOn_43 : decode cX8_goOn 43 = .ok (.getfield 7, 3) := by decide +kernel
theorem dX8_goOn_46 : decode cX8_goOn 46 = .ok (.iload_n 1, 1) := by decide +kernel
theorem dX8_goOn_47 : decode cX8_goOn 47 = .ok (.iaload, 1) := by decide +kernel
theorem dX8_goOn_48 : decode cX8_goOn 48 = .ok (.if_icmp .ge 144, 3) := by decide +kernel
theorem dX8_goOn_51 : decode cX8_goOn 51 = .ok (.aload_n 0, 1) := by decide +kernel
theorem dX8_goOn_52 : decode cX8_goOn 52 = .ok (.getfield 13, 3) := by decide +kernel
theorem dX8_goOn_55 : decode cX8_goOn 55 = .ok (.bipush 6, 2) := by decide +kernel
theorem dX8_goOn_57 : decode cX8_goOn 57 = .ok (.iload_n 1, 1) := by decide +kernel
theorem dX8_goOn_58 : decode cX8_goOn 58 = .ok (.imul, 1) := by decide +kernel
theorem dX8_goOn_59 : decode cX8_goOn 59 = .ok (.aload_n 0, 1) := by decide +kernel
theorem dX8_goOn_60 : decode cX8_goOn 60 = .ok (.getfield 77, 3) := by decide +kernel
theorem dX8_goOn_63 : decode cX8_goOn 63 = .ok (.iload_n 1, 1) := by decide +kernel
theorem dX8_goOn_64 : decode cX8_goOn 64 = .ok (.iaload, 1) := by decide +kernel
theorem dX8_goOn_65 : decode cX8_goOn 65 = .ok (.iadd, 1) := by decide +kernel
theorem dX8_goOn_66 : decode cX8_goOn 66 = .ok (.iaload, 1) := by decide +kernel
theorem dX8_goOn_67 : decode cX8_goOn 67 = .ok (.istore_n 3, 1) := by decide +kernel
theorem dX8_goOn_68 : decode cX8_goOn 68 = .ok (.aload_n 0, 1) := by decide +kernel
theorem dX8_goOn_69 : decode cX8_goOn 69 = .ok (.iload_n 3, 1) := by decide +kernel
theorem dX8_goOn_70 : decode cX8_goOn 70 = .ok (.invokevirtual 153, 3) := by decide +kernel
theorem dX8_goOn_73 : decode cX8_goOn 73 = .ok (.ifCond .eq 7, 3) := by decide +kernel
theorem dX8_goOn_76 : decode cX8_goOn 76 = .ok (.iconst (-1), 1) := by decide +kernel
theorem dX8_goOn_77 : decode cX8_goOn 77 = .ok (.goto 9, 3) := by decide +kernel
theorem dX8_goOn_80 : decode cX8_goOn 80 = .ok (.aload_n 0, 1) := by decide +kernel
theorem dX8_goOn_81 : decode cX8_goOn 81 = .ok (.iload_n 3, 1) := by decide +kernel
theorem dX8_goOn_82 : decode cX8_goOn 82 = .ok (.iload_n 2, 1) := by decide +kernel
theorem dX8_goOn_83 : decode cX8_goOn 83 = .ok (.invokevirtual 156, 3) := by decide +kernel
theorem dX8_goOn_86 : decode cX8_goOn 86 = .ok (.istore 4, 2) := by decide +kernel
theorem dX8_goOn_88 : decode cX8_goOn 88 = .ok (.iload 4, 2) := by decide +kernel
theorem dX8_goOn_90 : decode cX8_goOn 90 = .ok (.ifCond .lt 19, 3) := by decide +kernel
theorem dX8_goOn_93 : decode cX8_goOn 93 = .ok (.aload_n 0, 1) := by decide +kernel
theorem dX8_goOn_94 : decode cX8_goOn 94 = .ok (.getfield 74, 3) := by decide +kernel
theorem dX8_goOn_97 : decode cX8_goOn 97 = .ok (.iconst 2, 1) := by decide +kernel
theorem dX8_goOn_98 : decode cX8_goOn 98 = .ok (.iload_n 1, 1) := by decide +kernel
theorem dX8_goOn_99 : decode cX8_goOn 99 = .ok (.imul, 1) := by decide +kernel
theorem dX8_goOn_100 : decode cX8_goOn 100 = .ok (.iload 4, 2) := by decide +kernel
theorem dX8_goOn_102 : decode cX8_goOn 102 = .ok (.iadd, 1) := by decide +kernel
theorem dX8_goOn_103 : decode cX8_goOn 103 = .ok (.dup2, 1) := by decide +kernel
theorem dX8_goOn_104 : decode cX8_goOn 104 = .ok (.iaload, 1) := by decide +kernel
theorem dX8_goOn_105 : decode cX8_goOn 105 = .ok (.iconst 1, 1) := by decide +kernel
theorem dX8_goOn_106 : decode cX8_goOn 106 = .ok (.iadd, 1) := by decide +kernel
theorem dX8_goOn_107 : decode cX8_goOn 107 = .ok (.iastore, 1) := by decide +kernel
theorem dX8_goOn_108 : decode cX8_goOn 108 = .ok (.return_, 1) := by decide +kernel
theorem dX8_goOn_109 : decode cX8_goOn 109 = .ok (.aload_n 0, 1) := by decide +kernel
theorem dX8_goOn_110 : decode cX8_goOn 110 = .ok (.getfield 68, 3) := by decide +kernel
theorem dX8_goOn_113 : decode cX8_goOn 113 = .ok (.iload_n 3, 1) := by decide +kernel
theorem dX8_goOn_114 : decode cX8_goOn 114 = .ok (.iload_n 2, 1) := by decide +kernel
theorem dX8_goOn_115 : decode cX8_goOn 115 = .ok (.iastore, 1) := by decide +kernel
theorem dX8_goOn_116 : decode cX8_goOn 116 = .ok (.aload_n 0, 1) := by decide +kernel
theorem dX8_goOn_117 : decode cX8_goOn 117 = .ok (.getfield 71, 3) := by decide +kernel
theorem dX8_goOn_120 : decode cX8_goOn 120 = .ok (.iload_n 3, 1) := by decide +kernel
theorem dX8_goOn_121 : decode cX8_goOn 121 = .ok (.aload_n 0, 1) := by decide +kernel
theorem dX8_goOn_122 : decode cX8_goOn 122 = .ok (.iload_n 3, 1) := by decide +kernel
theorem dX8_goOn_123 : decode cX8_goOn 123 = .ok (.invokevirtual 153, 3) := by decide +kernel
theorem dX8_goOn_126 : decode cX8_goOn 126 = .ok (.ifCond .eq 7, 3) := by decide +kernel
theorem dX8_goOn_129 : decode cX8_goOn 129 = .ok (.iload_n 2, 1) := by decide +kernel
theorem dX8_goOn_130 : decode cX8_goOn 130 = .ok (.goto 29, 3) := by decide +kernel
theorem dX8_goOn_133 : decode cX8_goOn 133 = .ok (.iload_n 2, 1) := by decide +kernel
theorem dX8_goOn_134 : decode cX8_goOn 134 = .ok (.aload_n 0, 1) := by decide +kernel
theorem dX8_goOn_135 : decode cX8_goOn 135 = .ok (.getfield 28, 3) := by decide +kernel
theorem dX8_goOn_138 : decode cX8_goOn 138 = .ok (.iload_n 3, 1) := by decide +kernel
theorem dX8_goOn_139 : decode cX8_goOn 139 = .ok (.iaload, 1) := by decide +kernel
theorem dX8_goOn_140 : decode cX8_goOn 140 = .ok (.ifCond .ge 12, 3) := by decide +kernel
theorem dX8_goOn_143 : decode cX8_goOn 143 = .ok (.aload_n 0, 1) := by decide +kernel
theorem dX8_goOn_144 : decode cX8_goOn 144 = .ok (.getfield 19, 3) := by decide +kernel
theorem dX8_goOn_147 : decode cX8_goOn 147 = .ok (.iload_n 3, 1) := by decide +kernel
theorem dX8_goOn_148 : decode cX8_goOn 148 = .ok (.iaload, 1) := by decide +kernel
theorem dX8_goOn_149 : decode cX8_goOn 149 = .ok (.goto 9, 3) := by decide +kernel
theorem dX8_goOn_152 : decode cX8_goOn 152 = .ok (.aload_n 0, 1) := by decide +kernel
theorem dX8_goOn_153 : decode cX8_goOn 153 = .ok (.getfield 28, 3) := by decide +kernel
theorem dX8_goOn_156 : decode cX8_goOn 156 = .ok (.iload_n 3, 1) := by decide +kernel
theorem dX8_goOn_157 : decode cX8_goOn 157 = .ok (.iaload, 1) := by decide +kernel
theorem dX8_goOn_158 : decode cX8_goOn 158 = .ok (.iadd, 1) := by decide +kernel
theorem dX8_goOn_159 : decode cX8_goOn 159 = .ok (.iastore, 1) := by decide +kernel
theorem dX8_goOn_160 : decode cX8_goOn 160 = .ok (.aload_n 0, 1) := by decide +kernel
theorem dX8_goOn_161 : decode cX8_goOn 161 = .ok (.getfield 77, 3) := by decide +kernel
theorem dX8_goOn_164 : decode cX8_goOn 164 = .ok (.iload_n 1, 1) := by decide +kernel
theorem dX8_goOn_165 : decode cX8_goOn 165 = .ok (.dup2, 1) := by decide +kernel
theorem dX8_goOn_166 : decode cX8_goOn 166 = .ok (.iaload, 1) := by decide +kernel
theorem dX8_goOn_167 : decode cX8_goOn 167 = .ok (.iconst 1, 1) := by decide +kernel
theorem dX8_goOn_168 : decode cX8_goOn 168 = .ok (.iadd, 1) := by decide +kernel
theorem dX8_goOn_169 : decode cX8_goOn 169 = .ok (.iastore, 1) := by decide +kernel
theorem dX8_goOn_170 : decode cX8_goOn 170 = .ok (.aload_n 0, 1) := by decide +kernel
theorem dX8_goOn_171 : decode cX8_goOn 171 = .ok (.dup, 1) := by decide +kernel
theorem dX8_goOn_172 : decode cX8_goOn 172 = .ok (.getfield 160, 3) := by decide +kernel
theorem dX8_goOn_175 : decode cX8_goOn 175 = .ok (.iconst 1, 1) := by decide +kernel
theorem dX8_goOn_176 : decode cX8_goOn 176 = .ok (.isub, 1) := by decide +kernel
theorem dX8_goOn_177 : decode cX8_goOn 177 = .ok (.putfield 160, 3) := by decide +kernel
theorem dX8_goOn_180 : decode cX8_goOn 180 = .ok (.aload_n 0, 1) := by decide +kernel
theorem dX8_goOn_181 : decode cX8_goOn 181 = .ok (.iload_n 3, 1) := by decide +kernel
theorem dX8_goOn_182 : decode cX8_goOn 182 = .ok (.invokevirtual 153, 3) := by decide +kernel
theorem dX8_goOn_185 : decode cX8_goOn 185 = .ok (.ifCond .ne 4, 3) := by decide +kernel
theorem dX8_goOn_188 : decode cX8_goOn 188 = .ok (.return_, 1) := by decide +kernel
theorem dX8_goOn_189 : decode cX8_goOn 189 = .ok (.goto (-153), 3) := by decide +kernel
theorem dX8_goOn_192 : decode cX8_goOn 192 = .ok (.return_, 1) := by decide +kernel
theorem dX8_runDay_0 : decode cX8_runDay 0 = .ok (.iconst 0, 1) := by decide +kernel
theorem dX8_runDay_1 : decode cX8_runDay 1 = .ok (.istore_n 1, 1) := by decide +kernel
theorem dX8_runDay_2 : decode cX8_runDay 2 = .ok (.iload_n 1, 1) := by decide +kernel
theorem dX8_runDay_3 : decode cX8_runDay 3 = .ok (.aload_n 0, 1) := by decide +kernel
theorem dX8_runDay_4 : decode cX8_runDay 4 = .ok (.getfield 96, 3) := by decide +kernel
theorem dX8_runDay_7 : decode cX8_runDay 7 = .ok (.if_icmp .ge 23, 3) := by decide +kernel
theorem dX8_runDay_10 : decode cX8_runDay 10 = .ok (.aload_n 0, 1) := by decide +kernel
theorem dX8_runDay_11 : decode cX8_runDay 11 = .ok (.getfield 68, 3) := by decide +kernel
theorem dX8_runDay_14 : decode cX8_runDay 14 = .ok (.iload_n 1, 1) := by decide +kernel
theorem dX8_runDay_15 : decode cX8_runDay 15 = .ok (.iconst (-1), 1) := by decide +kernel
theorem dX8_runDay_16 : decode cX8_runDay 16 = .ok (.iastore, 1) := by decide +kernel
theorem dX8_runDay_17 : decode cX8_runDay 17 = .ok (.aload_n 0, 1) := by decide +kernel
theorem dX8_runDay_18 : decode cX8_runDay 18 = .ok (.getfield 71, 3) := by decide +kernel
theorem dX8_runDay_21 : decode cX8_runDay 21 = .ok (.iload_n 1, 1) := by decide +kernel
theorem dX8_runDay_22 : decode cX8_runDay 22 = .ok (.iconst (-1), 1) := by decide +kernel
theorem dX8_runDay_23 : decode cX8_runDay 23 = .ok (.iastore, 1) := by decide +kernel
theorem dX8_runDay_24 : decode cX8_runDay 24 = .ok (.iinc 1 1, 3) := by decide +kernel
theorem dX8_runDay_27 : decode cX8_runDay 27 = .ok (.goto (-25), 3) := by decide +kernel
theorem dX8_runDay_30 : decode cX8_runDay 30 = .ok (.iconst 0, 1) := by decide +kernel
theorem dX8_runDay_31 : decode cX8_runDay 31 = .ok (.istore_n 1, 1) := by decide +kernel
theorem dX8_runDay_32 : decode cX8_runDay 32 = .ok (.iload_n 1, 1) := by decide +kernel
theorem dX8_runDay_33 : decode cX8_runDay 33 = .ok (.iconst 3, 1) := by decide +kernel
theorem dX8_runDay_34 : decode cX8_runDay 34 = .ok (.if_icmp .ge 36, 3) := by decide +kernel
theorem dX8_runDay_37 : decode cX8_runDay 37 = .ok (.aload_n 0, 1) := by decide +kernel
theorem dX8_runDay_38 : decode cX8_runDay 38 = .ok (.getfield 77, 3) := by decide +kernel
theorem dX8_runDay_41 : decode cX8_runDay 41 = .ok (.iload_n 1, 1) := by decide +kernel
theorem dX8_runDay_42 : decode cX8_runDay 42 = .ok (.iconst 0, 1) := by decide +kernel
theorem dX8_runDay_43 : decode cX8_runDay 43 = .ok (.iastore, 1) := by decide +kernel
theorem dX8_runDay_44 : decode cX8_runDay 44 = .ok (.aload_n 0, 1) := by decide +kernel
theorem dX8_runDay_45 : decode cX8_runDay 45 = .ok (.getfield 74, 3) := by decide +kernel
theorem dX8_runDay_48 : decode cX8_runDay 48 = .ok (.iconst 2, 1) := by decide +kernel
theorem dX8_runDay_49 : decode cX8_runDay 49 = .ok (.iload_n 1, 1) := by decide +kernel
theorem dX8_runDay_50 : decode cX8_runDay 50 = .ok (.imul, 1) := by decide +kernel
theorem dX8_runDay_51 : decode cX8_runDay 51 = .ok (.iconst 0, 1) := by decide +kernel
theorem dX8_runDay_52 : decode cX8_runDay 52 = .ok (.iastore, 1) := by decide +kernel
theorem dX8_runDay_53 : decode cX8_runDay 53 = .ok (.aload_n 0, 1) := by decide +kernel
theorem dX8_runDay_54 : decode cX8_runDay 54 = .ok (.getfield 74, 3) := by decide +kernel
theorem dX8_runDay_57 : decode cX8_runDay 57 = .ok (.iconst 2, 1) := by decide +kernel
theorem dX8_runDay_58 : decode cX8_runDay 58 = .ok (.iload_n 1, 1) := by decide +kernel
theorem dX8_runDay_59 : decode cX8_runDay 59 = .ok (.imul, 1) := by decide +kernel
theorem dX8_runDay_60 : decode cX8_runDay 60 = .ok (.iconst 1, 1) := by decide +kernel
theorem dX8_runDay_61 : decode cX8_runDay 61 = .ok (.iadd, 1) := by decide +kernel
theorem dX8_runDay_62 : decode cX8_runDay 62 = .ok (.iconst 0, 1) := by decide +kernel
theorem dX8_runDay_63 : decode cX8_runDay 63 = .ok (.iastore, 1) := by decide +kernel
theorem dX8_runDay_64 : decode cX8_runDay 64 = .ok (.iinc 1 1, 3) := by decide +kernel
theorem dX8_runDay_67 : decode cX8_runDay 67 = .ok (.goto (-35), 3) := by decide +kernel
theorem dX8_runDay_70 : decode cX8_runDay 70 = .ok (.aload_n 0, 1) := by decide +kernel
theorem dX8_runDay_71 : decode cX8_runDay 71 = .ok (.aload_n 0, 1) := by decide +kernel
theorem dX8_runDay_72 : decode cX8_runDay 72 = .ok (.getfield 96, 3) := by decide +kernel
theorem dX8_runDay_75 : decode cX8_runDay 75 = .ok (.putfield 160, 3) := by decide +kernel
theorem dX8_runDay_78 : decode cX8_runDay 78 = .ok (.iconst 0, 1) := by decide +kernel
theorem dX8_runDay_79 : decode cX8_runDay 79 = .ok (.istore_n 1, 1) := by decide +kernel
theorem dX8_runDay_80 : decode cX8_runDay 80 = .ok (.iload_n 1, 1) := by decide +kernel
theorem dX8_runDay_81 : decode cX8_runDay 81 = .ok (.sipush 200, 3) := by decide +kernel
theorem dX8_runDay_84 : decode cX8_runDay 84 = .ok (.if_icmp .ge 35, 3) := by decide +kernel
theorem dX8_runDay_87 : decode cX8_runDay 87 = .ok (.aload_n 0, 1) := by decide +kernel
theorem dX8_runDay_88 : decode cX8_runDay 88 = .ok (.getfield 160, 3) := by decide +kernel
theorem dX8_runDay_91 : decode cX8_runDay 91 = .ok (.ifCond .le 28, 3) := by decide +kernel
theorem dX8_runDay_94 : decode cX8_runDay 94 = .ok (.iconst 0, 1) := by decide +kernel
theorem dX8_runDay_95 : decode cX8_runDay 95 = .ok (.istore_n 2, 1) := by decide +kernel
theorem dX8_runDay_96 : decode cX8_runDay 96 = .ok (.iload_n 2, 1) := by decide +kernel
theorem dX8_runDay_97 : decode cX8_runDay 97 = .ok (.iconst 3, 1) := by decide +kernel
theorem dX8_runDay_98 : decode cX8_runDay 98 = .ok (.if_icmp .ge 15, 3) := by decide +kernel
theorem dX8_runDay_101 : decode cX8_runDay 101 = .ok (.aload_n 0, 1) := by decide +kernel
theorem dX8_runDay_102 : decode cX8_runDay 102 = .ok (.iload_n 2, 1) := by decide +kernel
theorem dX8_runDay_103 : decode cX8_runDay 103 = .ok (.iload_n 1, 1) := by decide +kernel
theorem dX8_runDay_104 : decode cX8_runDay 104 = .ok (.invokevirtual 163, 3) := by decide +kernel
theorem dX8_runDay_107 : decode cX8_runDay 107 = .ok (.iinc 2 1, 3) := by decide +kernel
theorem dX8_runDay_110 : decode cX8_runDay 110 = .ok (.goto (-14), 3) := by decide +kernel
theorem dX8_runDay_113 : decode cX8_runDay 113 = .ok (.iinc 1 1, 3) := by decide +kernel
theorem dX8_runDay_116 : decode cX8_runDay 116 = .ok (.goto (-36), 3) := by decide +kernel
theorem dX8_runDay_119 : decode cX8_runDay 119 = .ok (.return_, 1) := by decide +kernel
theorem dX8_fate_0 : decode cX8_fate 0 = .ok (.aload_n 0, 1) := by decide +kernel
theorem dX8_fate_1 : decode cX8_fate 1 = .ok (.iload_n 1, 1) := by decide +kernel
theorem dX8_fate_2 : decode cX8_fate 2 = .ok (.invokevirtual 118, 3) := by decide +kernel
theorem dX8_fate_5 : decode cX8_fate 5 = .ok (.ifCond .eq 13, 3) := by decide +kernel
theorem dX8_fate_8 : decode cX8_fate 8 = .ok (.iload_n 2, 1) := by decide +kernel
theorem dX8_fate_9 : decode cX8_fate 9 = .ok (.iconst (-1), 1) := by decide +kernel
theorem dX8_fate_10 : decode cX8_fate 10 = .ok (.bipush 20, 2) := by decide +kernel
theorem dX8_fate_12 : decode cX8_fate 12 = .ok (.invokestatic 92, 3) := by decide +kernel
theorem dX8_fate_15 : decode cX8_fate 15 = .ok (.ifCond .ne 7, 3) := by decide +kernel
theorem dX8_fate_18 : decode cX8_fate 18 = .ok (.ldc2_w 107, 3) := by decide +kernel
theorem dX8_fate_21 : decode cX8_fate 21 = .ok (.lreturn, 1) := by decide +kernel
theorem dX8_fate_22 : decode cX8_fate 22 = .ok (.aload_n 0, 1) := by decide +kernel
theorem dX8_fate_23 : decode cX8_fate 23 = .ok (.getfield 28, 3) := by decide +kernel
theorem dX8_fate_26 : decode cX8_fate 26 = .ok (.iload_n 1, 1) := by decide +kernel
theorem dX8_fate_27 : decode cX8_fate 27 = .ok (.iaload, 1) := by decide +kernel
theorem dX8_fate_28 : decode cX8_fate 28 = .ok (.istore_n 3, 1) := by decide +kernel
theorem dX8_fate_29 : decode cX8_fate 29 = .ok (.aload_n 0, 1) := by decide +kernel
theorem dX8_fate_30 : decode cX8_fate 30 = .ok (.getfield 28, 3) := by decide +kernel
theorem dX8_fate_33 : decode cX8_fate 33 = .ok (.iload_n 1, 1) := by decide +kernel
theorem dX8_fate_34 : decode cX8_fate 34 = .ok (.iload_n 2, 1) := by decide +kernel
theorem dX8_fate_35 : decode cX8_fate 35 = .ok (.iastore, 1) := by decide +kernel
theorem dX8_fate_36 : decode cX8_fate 36 = .ok (.iload_n 3, 1) := by decide +kernel
theorem dX8_fate_37 : decode cX8_fate 37 = .ok (.i2l, 1) := by decide +kernel
theorem dX8_fate_38 : decode cX8_fate 38 = .ok (.lreturn, 1) := by decide +kernel
theorem dX8_begins_0 : decode cX8_begins 0 = .ok (.aload_n 0, 1) := by decide +kernel
theorem dX8_begins_1 : decode cX8_begins 1 = .ok (.iload_n 1, 1) := by decide +kernel
theorem dX8_begins_2 : decode cX8_begins 2 = .ok (.invokevirtual 118, 3) := by decide +kernel
theorem dX8_begins_5 : decode cX8_begins 5 = .ok (.ifCond .eq 12, 3) := by decide +kernel
theorem dX8_begins_8 : decode cX8_begins 8 = .ok (.iload_n 2, 1) := by decide +kernel
theorem dX8_begins_9 : decode cX8_begins 9 = .ok (.iconst 0, 1) := by decide +kernel
theorem dX8_begins_10 : decode cX8_begins 10 = .ok (.iconst 2, 1) := by decide +kernel
theorem dX8_begins_11 : decode cX8_begins 11 = .ok (.invokestatic 92, 3) := by decide +kernel
theorem dX8_begins_14 : decode cX8_begins 14 = .ok (.ifCond .ne 7, 3) := by decide +kernel
theorem dX8_begins_17 : decode cX8_begins 17 = .ok (.ldc2_w 107, 3) := by decide +kernel
theorem dX8_begins_20 : decode cX8_begins 20 = .ok (.lreturn, 1) := by decide +kernel
theorem dX8_begins_21 : decode cX8_begins 21 = .ok (.aload_n 0, 1) := by decide +kernel
theorem dX8_begins_22 : decode cX8_begins 22 = .ok (.invokevirtual 166, 3) := by decide +kernel
theorem dX8_begins_25 : decode cX8_begins 25 = .ok (.aload_n 0, 1) := by decide +kernel
theorem dX8_begins_26 : decode cX8_begins 26 = .ok (.getfield 68, 3) := by decide +kernel
theorem dX8_begins_29 : decode cX8_begins 29 = .ok (.iload_n 1, 1) := by decide +kernel
theorem dX8_begins_30 : decode cX8_begins 30 = .ok (.iaload, 1) := by decide +kernel
theorem dX8_begins_31 : decode cX8_begins 31 = .ok (.ifCond .ge 7, 3) := by decide +kernel
theorem dX8_begins_34 : decode cX8_begins 34 = .ok (.ldc2_w 129, 3) := by decide +kernel
theorem dX8_begins_37 : decode cX8_begins 37 = .ok (.lreturn, 1) := by decide +kernel
theorem dX8_begins_38 : decode cX8_begins 38 = .ok (.iload_n 2, 1) := by decide +kernel
theorem dX8_begins_39 : decode cX8_begins 39 = .ok (.ifCond .ne 13, 3) := by decide +kernel
theorem dX8_begins_42 : decode cX8_begins 42 = .ok (.aload_n 0, 1) := by decide +kernel
theorem dX8_begins_43 : decode cX8_begins 43 = .ok (.getfield 68, 3) := by decide +kernel
theorem dX8_begins_46 : decode cX8_begins 46 = .ok (.iload_n 1, 1) := by decide +kernel
theorem dX8_begins_47 : decode cX8_begins 47 = .ok (.iaload, 1) := by decide +kernel
theorem dX8_begins_48 : decode cX8_begins 48 = .ok (.i2l, 1) := by decide +kernel
theorem dX8_begins_49 : decode cX8_begins 49 = .ok (.goto 31, 3) := by decide +kernel
theorem dX8_begins_52 : decode cX8_begins 52 = .ok (.iload_n 2, 1) := by decide +kernel
theorem dX8_begins_53 : decode cX8_begins 53 = .ok (.iconst 1, 1) := by decide +kernel
theorem dX8_begins_54 : decode cX8_begins 54 = .ok (.if_icmp .ne 13, 3) := by decide +kernel
theorem dX8_begins_57 : decode cX8_begins 57 = .ok (.aload_n 0, 1) := by decide +kernel
theorem dX8_begins_58 : decode cX8_begins 58 = .ok (.getfield 71, 3) := by decide +kernel
theorem dX8_begins_61 : decode cX8_begins 61 = .ok (.iload_n 1, 1) := by decide +kernel
theorem dX8_begins_62 : decode cX8_begins 62 = .ok (.iaload, 1) := by decide +kernel
theorem dX8_begins_63 : decode cX8_begins 63 = .ok (.i2l, 1) := by decide +kernel
theorem dX8_begins_64 : decode cX8_begins 64 = .ok (.goto 16, 3) := by decide +kernel
theorem dX8_begins_67 : decode cX8_begins 67 = .ok (.aload_n 0, 1) := by decide +kernel
theorem dX8_begins_68 : decode cX8_begins 68 = .ok (.iload_n 1, 1) := by decide +kernel
theorem dX8_begins_69 : decode cX8_begins 69 = .ok (.invokevirtual 153, 3) := by decide +kernel
theorem dX8_begins_72 : decode cX8_begins 72 = .ok (.ifCond .eq 7, 3) := by decide +kernel
theorem dX8_begins_75 : decode cX8_begins 75 = .ok (.lconst 1, 1) := by decide +kernel
theorem dX8_begins_76 : decode cX8_begins 76 = .ok (.goto 4, 3) := by decide +kernel
theorem dX8_begins_79 : decode cX8_begins 79 = .ok (.lconst 0, 1) := by decide +kernel
theorem dX8_begins_80 : decode cX8_begins 80 = .ok (.lreturn, 1) := by decide +kernel
theorem dX8_waitedFor_0 : decode cX8_waitedFor 0 = .ok (.aload_n 0, 1) := by decide +kernel
theorem dX8_waitedFor_1 : decode cX8_waitedFor 1 = .ok (.getfield 68, 3) := by decide +kernel
theorem dX8_waitedFor_4 : decode cX8_waitedFor 4 = .ok (.iload_n 2, 1) := by decide +kernel
theorem dX8_waitedFor_5 : decode cX8_waitedFor 5 = .ok (.iaload, 1) := by decide +kernel
theorem dX8_waitedFor_6 : decode cX8_waitedFor 6 = .ok (.ifCond .ge 9, 3) := by decide +kernel
theorem dX8_waitedFor_9 : decode cX8_waitedFor 9 = .ok (.sipush 200, 3) := by decide +kernel
theorem dX8_waitedFor_12 : decode cX8_waitedFor 12 = .ok (.goto 9, 3) := by decide +kernel
theorem dX8_waitedFor_15 : decode cX8_waitedFor 15 = .ok (.aload_n 0, 1) := by decide +kernel
theorem dX8_waitedFor_16 : decode cX8_waitedFor 16 = .ok (.getfield 68, 3) := by decide +kernel
theorem dX8_waitedFor_19 : decode cX8_waitedFor 19 = .ok (.iload_n 2, 1) := by decide +kernel
theorem dX8_waitedFor_20 : decode cX8_waitedFor 20 = .ok (.iaload, 1) := by decide +kernel
theorem dX8_waitedFor_21 : decode cX8_waitedFor 21 = .ok (.istore_n 3, 1) := by decide +kernel
theorem dX8_waitedFor_22 : decode cX8_waitedFor 22 = .ok (.iconst 0, 1) := by decide +kernel
theorem dX8_waitedFor_23 : decode cX8_waitedFor 23 = .ok (.istore 4, 2) := by decide +kernel
theorem dX8_waitedFor_25 : decode cX8_waitedFor 25 = .ok (.aload_n 0, 1) := by decide +kernel
theorem dX8_waitedFor_26 : decode cX8_waitedFor 26 = .ok (.getfield 40, 3) := by decide +kernel
theorem dX8_waitedFor_29 : decode cX8_waitedFor 29 = .ok (.bipush 10, 2) := by decide +kernel
theorem dX8_waitedFor_31 : decode cX8_waitedFor 31 = .ok (.iload_n 2, 1) := by decide +kernel
theorem dX8_waitedFor_32 : decode cX8_waitedFor 32 = .ok (.imul, 1) := by decide +kernel
theorem dX8_waitedFor_33 : decode cX8_waitedFor 33 = .ok (.iload_n 1, 1) := by decide +kernel
theorem dX8_waitedFor_34 : decode cX8_waitedFor 34 = .ok (.iadd, 1) := by decide +kernel
theorem dX8_waitedFor_35 : decode cX8_waitedFor 35 = .ok (.iaload, 1) := by decide +kernel
theorem dX8_waitedFor_36 : decode cX8_waitedFor 36 = .ok (.istore 5, 2) := by decide +kernel
theorem dX8_waitedFor_38 : decode cX8_waitedFor 38 = .ok (.iload 5, 2) := by decide +kernel
theorem dX8_waitedFor_40 : decode cX8_waitedFor 40 = .ok (.iload_n 3, 1) := by decide +kernel
theorem dX8_waitedFor_41 : decode cX8_waitedFor 41 = .ok (.if_icmp .ge 30, 3) := by decide +kernel
theorem dX8_waitedFor_44 : decode cX8_waitedFor 44 = .ok (.iload 4, 2) := by decide +kernel
theorem dX8_waitedFor_46 : decode cX8_waitedFor 46 = .ok (.aload_n 0, 1) := by decide +kernel
theorem dX8_waitedFor_47 : decode cX8_waitedFor 47 = .ok (.iload_n 1, 1) := by decide +kernel
theorem dX8_waitedFor_48 : decode cX8_waitedFor 48 = .ok (.iload 5, 2) := by decide +kernel
theorem dX8_waitedFor_50 : decode cX8_waitedFor 50 = .ok (.iload_n 2, 1) := by decide +kernel
theorem dX8_waitedFor_51 : decode cX8_waitedFor 51 = .ok (.invokevirtual 150, 3) := by decide +kernel
theorem dX8_waitedFor_54 : decode cX8_waitedFor 54 = .ok (.ifCond .eq 7, 3) := by decide +kernel
theorem dX8_waitedFor_57 : decode cX8_waitedFor 57 = .ok (.iconst 0, 1) := by decide +kernel
theorem dX8_waitedFor_58 : decode cX8_waitedFor 58 = .ok (.goto 4, 3) := by decide +kernel
theorem dX8_waitedFor_61 : decode cX8_waitedFor 61 = .ok (.iconst 1, 1) := by decide +kernel
theorem dX8_waitedFor_62 : decode cX8_waitedFor 62 = .ok (.iadd, 1) := by decide +kernel
theorem dX8_waitedFor_63 : decode cX8_waitedFor 63 = .ok (.istore 4, 2) := by decide +kernel
theorem dX8_waitedFor_65 : decode cX8_waitedFor 65 = .ok (.iinc 5 1, 3) := by decide +kernel
theorem dX8_waitedFor_68 : decode cX8_waitedFor 68 = .ok (.goto (-30), 3) := by decide +kernel
theorem dX8_waitedFor_71 : decode cX8_waitedFor 71 = .ok (.iload 4, 2) := by decide +kernel
theorem dX8_waitedFor_73 : decode cX8_waitedFor 73 = .ok (.ireturn, 1) := by decide +kernel
theorem dX8_waited_0 : decode cX8_waited 0 = .ok (.aload_n 0, 1) := by decide +kernel
theorem dX8_waited_1 : decode cX8_waited 1 = .ok (.iload_n 1, 1) := by decide +kernel
theorem dX8_waited_2 : decode cX8_waited 2 = .ok (.invokevirtual 115, 3) := by decide +kernel
theorem dX8_waited_5 : decode cX8_waited 5 = .ok (.ifCond .eq 11, 3) := by decide +kernel
theorem dX8_waited_8 : decode cX8_waited 8 = .ok (.aload_n 0, 1) := by decide +kernel
theorem dX8_waited_9 : decode cX8_waited 9 = .ok (.iload_n 2, 1) := by decide +kernel
theorem dX8_waited_10 : decode cX8_waited 10 = .ok (.invokevirtual 118, 3) := by decide +kernel
theorem dX8_waited_13 : decode cX8_waited 13 = .ok (.ifCond .ne 7, 3) := by decide +kernel
theorem dX8_waited_16 : decode cX8_waited 16 = .ok (.ldc2_w 107, 3) := by decide +kernel
theorem dX8_waited_19 : decode cX8_waited 19 = .ok (.lreturn, 1) := by decide +kernel
theorem dX8_waited_20 : decode cX8_waited 20 = .ok (.aload_n 0, 1) := by decide +kernel
theorem dX8_waited_21 : decode cX8_waited 21 = .ok (.iload_n 2, 1) := by decide +kernel
theorem dX8_waited_22 : decode cX8_waited 22 = .ok (.iload_n 1, 1) := by decide +kernel
theorem dX8_waited_23 : decode cX8_waited 23 = .ok (.invokevirtual 121, 3) := by decide +kernel
theorem dX8_waited_26 : decode cX8_waited 26 = .ok (.ifCond .ne 7, 3) := by decide +kernel
theorem dX8_waited_29 : decode cX8_waited 29 = .ok (.ldc2_w 145, 3) := by decide +kernel
theorem dX8_waited_32 : decode cX8_waited 32 = .ok (.lreturn, 1) := by decide +kernel
theorem dX8_waited_33 : decode cX8_waited 33 = .ok (.aload_n 0, 1) := by decide +kernel
theorem dX8_waited_34 : decode cX8_waited 34 = .ok (.invokevirtual 166, 3) := by decide +kernel
theorem dX8_waited_37 : decode cX8_waited 37 = .ok (.aload_n 0, 1) := by decide +kernel
theorem dX8_waited_38 : decode cX8_waited 38 = .ok (.iload_n 1, 1) := by decide +kernel
theorem dX8_waited_39 : decode cX8_waited 39 = .ok (.iload_n 2, 1) := by decide +kernel
theorem dX8_waited_40 : decode cX8_waited 40 = .ok (.invokevirtual 169, 3) := by decide +kernel
theorem dX8_waited_43 : decode cX8_waited 43 = .ok (.i2l, 1) := by decide +kernel
theorem dX8_waited_44 : decode cX8_waited 44 = .ok (.lreturn, 1) := by decide +kernel
theorem dX8_idle_0 : decode cX8_idle 0 = .ok (.iload_n 1, 1) := by decide +kernel
theorem dX8_idle_1 : decode cX8_idle 1 = .ok (.invokestatic 103, 3) := by decide +kernel
theorem dX8_idle_4 : decode cX8_idle 4 = .ok (.ifCond .eq 12, 3) := by decide +kernel
theorem dX8_idle_7 : decode cX8_idle 7 = .ok (.iload_n 2, 1) := by decide +kernel
theorem dX8_idle_8 : decode cX8_idle 8 = .ok (.iconst 0, 1) := by decide +kernel
theorem dX8_idle_9 : decode cX8_idle 9 = .ok (.iconst 1, 1) := by decide +kernel
theorem dX8_idle_10 : decode cX8_idle 10 = .ok (.invokestatic 92, 3) := by decide +kernel
theorem dX8_idle_13 : decode cX8_idle 13 = .ok (.ifCond .ne 7, 3) := by decide +kernel
theorem dX8_idle_16 : decode cX8_idle 16 = .ok (.ldc2_w 107, 3) := by decide +kernel
theorem dX8_idle_19 : decode cX8_idle 19 = .ok (.lreturn, 1) := by decide +kernel
theorem dX8_idle_20 : decode cX8_idle 20 = .ok (.aload_n 0, 1) := by decide +kernel
theorem dX8_idle_21 : decode cX8_idle 21 = .ok (.invokevirtual 166, 3) := by decide +kernel
theorem dX8_idle_24 : decode cX8_idle 24 = .ok (.aload_n 0, 1) := by decide +kernel
theorem dX8_idle_25 : decode cX8_idle 25 = .ok (.getfield 74, 3) := by decide +kernel
theorem dX8_idle_28 : decode cX8_idle 28 = .ok (.iconst 2, 1) := by decide +kernel
theorem dX8_idle_29 : decode cX8_idle 29 = .ok (.iload_n 1, 1) := by decide +kernel
theorem dX8_idle_30 : decode cX8_idle 30 = .ok (.imul, 1) := by decide +kernel
theorem dX8_idle_31 : decode cX8_idle 31 = .ok (.iload_n 2, 1) := by decide +kernel
theorem dX8_idle_32 : decode cX8_idle 32 = .ok (.iadd, 1) := by decide +kernel
theorem dX8_idle_33 : decode cX8_idle 33 = .ok (.iaload, 1) := by decide +kernel
theorem dX8_idle_34 : decode cX8_idle 34 = .ok (.i2l, 1) := by decide +kernel
theorem dX8_idle_35 : decode cX8_idle 35 = .ok (.lreturn, 1) := by decide +kernel
theorem dX8_waitedIn_0 : decode cX8_waitedIn 0 = .ok (.iconst 0, 1) := by decide +kernel
theorem dX8_waitedIn_1 : decode cX8_waitedIn 1 = .ok (.istore_n 2, 1) := by decide +kernel
theorem dX8_waitedIn_2 : decode cX8_waitedIn 2 = .ok (.iconst 0, 1) := by decide +kernel
theorem dX8_waitedIn_3 : decode cX8_waitedIn 3 = .ok (.istore_n 3, 1) := by decide +kernel
theorem dX8_waitedIn_4 : decode cX8_waitedIn 4 = .ok (.iload_n 3, 1) := by decide +kernel
theorem dX8_waitedIn_5 : decode cX8_waitedIn 5 = .ok (.aload_n 0, 1) := by decide +kernel
theorem dX8_waitedIn_6 : decode cX8_waitedIn 6 = .ok (.getfield 96, 3) := by decide +kernel
theorem dX8_waitedIn_9 : decode cX8_waitedIn 9 = .ok (.if_icmp .ge 31, 3) := by decide +kernel
theorem dX8_waitedIn_12 : decode cX8_waitedIn 12 = .ok (.iload_n 2, 1) := by decide +kernel
theorem dX8_waitedIn_13 : decode cX8_waitedIn 13 = .ok (.aload_n 0, 1) := by decide +kernel
theorem dX8_waitedIn_14 : decode cX8_waitedIn 14 = .ok (.iload_n 3, 1) := by decide +kernel
theorem dX8_waitedIn_15 : decode cX8_waitedIn 15 = .ok (.iload_n 1, 1) := by decide +kernel
theorem dX8_waitedIn_16 : decode cX8_waitedIn 16 = .ok (.invokevirtual 121, 3) := by decide +kernel
theorem dX8_waitedIn_19 : decode cX8_waitedIn 19 = .ok (.ifCond .eq 12, 3) := by decide +kernel
theorem dX8_waitedIn_22 : decode cX8_waitedIn 22 = .ok (.aload_n 0, 1) := by decide +kernel
theorem dX8_waitedIn_23 : decode cX8_waitedIn 23 = .ok (.iload_n 1, 1) := by decide +kernel
theorem dX8_waitedIn_24 : decode cX8_waitedIn 24 = .ok (.iload_n 3, 1) := by decide +kernel
theorem dX8_waitedIn_25 : decode cX8_waitedIn 25 = .ok (.invokevirtual 169, 3) := by decide +kernel
theorem dX8_waitedIn_28 : decode cX8_waitedIn 28 = .ok (.goto 4, 3) := by decide +kernel
theorem dX8_waitedIn_31 : decode cX8_waitedIn 31 = .ok (.iconst 0, 1) := by decide +kernel
theorem dX8_waitedIn_32 : decode cX8_waitedIn 32 = .ok (.iadd, 1) := by decide +kernel
theorem dX8_waitedIn_33 : decode cX8_waitedIn 33 = .ok (.istore_n 2, 1) := by decide +kernel
theorem dX8_waitedIn_34 : decode cX8_waitedIn 34 = .ok (.iinc 3 1, 3) := by decide +kernel
theorem dX8_waitedIn_37 : decode cX8_waitedIn 37 = .ok (.goto (-33), 3) := by decide +kernel
theorem dX8_waitedIn_40 : decode cX8_waitedIn 40 = .ok (.iload_n 2, 1) := by decide +kernel
theorem dX8_waitedIn_41 : decode cX8_waitedIn 41 = .ok (.ireturn, 1) := by decide +kernel
theorem dX8_waits_0 : decode cX8_waits 0 = .ok (.aload_n 0, 1) := by decide +kernel
theorem dX8_waits_1 : decode cX8_waits 1 = .ok (.invokevirtual 166, 3) := by decide +kernel
theorem dX8_waits_4 : decode cX8_waits 4 = .ok (.lconst 0, 1) := by decide +kernel
theorem dX8_waits_5 : decode cX8_waits 5 = .ok (.lstore_n 1, 1) := by decide +kernel
theorem dX8_waits_6 : decode cX8_waits 6 = .ok (.iconst 0, 1) := by decide +kernel
theorem dX8_waits_7 : decode cX8_waits 7 = .ok (.istore_n 3, 1) := by decide +kernel
theorem dX8_waits_8 : decode cX8_waits 8 = .ok (.iload_n 3, 1) := by decide +kernel
theorem dX8_waits_9 : decode cX8_waits 9 = .ok (.aload_n 0, 1) := by decide +kernel
theorem dX8_waits_10 : decode cX8_waits 10 = .ok (.getfield 100, 3) := by decide +kernel
theorem dX8_waits_13 : decode cX8_waits 13 = .ok (.if_icmp .ge 18, 3) := by decide +kernel
theorem dX8_waits_16 : decode cX8_waits 16 = .ok (.lload_n 1, 1) := by decide +kernel
theorem dX8_waits_17 : decode cX8_waits 17 = .ok (.aload_n 0, 1) := by decide +kernel
theorem dX8_waits_18 : decode cX8_waits 18 = .ok (.iload_n 3, 1) := by decide +kernel
theorem dX8_waits_19 : decode cX8_waits 19 = .ok (.invokevirtual 172, 3) := by decide +kernel
theorem dX8_waits_22 : decode cX8_waits 22 = .ok (.i2l, 1) := by decide +kernel
theorem dX8_waits_23 : decode cX8_waits 23 = .ok (.ladd, 1) := by decide +kernel
