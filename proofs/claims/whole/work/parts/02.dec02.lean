theorem dX2_leaveList_22 : decode cX2_leaveList 22 = .ok (.if_icmp .ge 33, 3) := by decide +kernel
theorem dX2_leaveList_25 : decode cX2_leaveList 25 = .ok (.aload_n 0, 1) := by decide +kernel
theorem dX2_leaveList_26 : decode cX2_leaveList 26 = .ok (.getfield 30, 3) := by decide +kernel
theorem dX2_leaveList_29 : decode cX2_leaveList 29 = .ok (.iload_n 2, 1) := by decide +kernel
theorem dX2_leaveList_30 : decode cX2_leaveList 30 = .ok (.bipush 6, 2) := by decide +kernel
theorem dX2_leaveList_32 : decode cX2_leaveList 32 = .ok (.imul, 1) := by decide +kernel
theorem dX2_leaveList_33 : decode cX2_leaveList 33 = .ok (.iload_n 3, 1) := by decide +kernel
theorem dX2_leaveList_34 : decode cX2_leaveList 34 = .ok (.iadd, 1) := by decide +kernel
theorem dX2_leaveList_35 : decode cX2_leaveList 35 = .ok (.iconst 1, 1) := by decide +kernel
theorem dX2_leaveList_36 : decode cX2_leaveList 36 = .ok (.isub, 1) := by decide +kernel
theorem dX2_leaveList_37 : decode cX2_leaveList 37 = .ok (.aload_n 0, 1) := by decide +kernel
theorem dX2_leaveList_38 : decode cX2_leaveList 38 = .ok (.getfield 30, 3) := by decide +kernel
theorem dX2_leaveList_41 : decode cX2_leaveList 41 = .ok (.iload_n 2, 1) := by decide +kernel
theorem dX2_leaveList_42 : decode cX2_leaveList 42 = .ok (.bipush 6, 2) := by decide +kernel
theorem dX2_leaveList_44 : decode cX2_leaveList 44 = .ok (.imul, 1) := by decide +kernel
theorem dX2_leaveList_45 : decode cX2_leaveList 45 = .ok (.iload_n 3, 1) := by decide +kernel
theorem dX2_leaveList_46 : decode cX2_leaveList 46 = .ok (.iadd, 1) := by decide +kernel
theorem dX2_leaveList_47 : decode cX2_leaveList 47 = .ok (.iaload, 1) := by decide +kernel
theorem dX2_leaveList_48 : decode cX2_leaveList 48 = .ok (.iastore, 1) := by decide +kernel
theorem dX2_leaveList_49 : decode cX2_leaveList 49 = .ok (.iinc 3 1, 3) := by decide +kernel
theorem dX2_leaveList_52 : decode cX2_leaveList 52 = .ok (.goto (-37), 3) := by decide +kernel
theorem dX2_leaveList_55 : decode cX2_leaveList 55 = .ok (.aload_n 0, 1) := by decide +kernel
theorem dX2_leaveList_56 : decode cX2_leaveList 56 = .ok (.getfield 33, 3) := by decide +kernel
theorem dX2_leaveList_59 : decode cX2_leaveList 59 = .ok (.iload_n 2, 1) := by decide +kernel
theorem dX2_leaveList_60 : decode cX2_leaveList 60 = .ok (.dup2, 1) := by decide +kernel
theorem dX2_leaveList_61 : decode cX2_leaveList 61 = .ok (.iaload, 1) := by decide +kernel
theorem dX2_leaveList_62 : decode cX2_leaveList 62 = .ok (.iconst 1, 1) := by decide +kernel
theorem dX2_leaveList_63 : decode cX2_leaveList 63 = .ok (.isub, 1) := by decide +kernel
theorem dX2_leaveList_64 : decode cX2_leaveList 64 = .ok (.iastore, 1) := by decide +kernel
theorem dX2_leaveList_65 : decode cX2_leaveList 65 = .ok (.return_, 1) := by decide +kernel
theorem dX2_hasNeedOf_0 : decode cX2_hasNeedOf 0 = .ok (.aload_n 0, 1) := by decide +kernel
theorem dX2_hasNeedOf_1 : decode cX2_hasNeedOf 1 = .ok (.getfield 21, 3) := by decide +kernel
theorem dX2_hasNeedOf_4 : decode cX2_hasNeedOf 4 = .ok (.iload_n 1, 1) := by decide +kernel
theorem dX2_hasNeedOf_5 : decode cX2_hasNeedOf 5 = .ok (.iaload, 1) := by decide +kernel
theorem dX2_hasNeedOf_6 : decode cX2_hasNeedOf 6 = .ok (.iload_n 2, 1) := by decide +kernel
theorem dX2_hasNeedOf_7 : decode cX2_hasNeedOf 7 = .ok (.invokestatic 52, 3) := by decide +kernel
theorem dX2_hasNeedOf_10 : decode cX2_hasNeedOf 10 = .ok (.ireturn, 1) := by decide +kernel
theorem dX2_isCalled_0 : decode cX2_isCalled 0 = .ok (.iconst 0, 1) := by decide +kernel
theorem dX2_isCalled_1 : decode cX2_isCalled 1 = .ok (.istore_n 2, 1) := by decide +kernel
theorem dX2_isCalled_2 : decode cX2_isCalled 2 = .ok (.iload_n 2, 1) := by decide +kernel
theorem dX2_isCalled_3 : decode cX2_isCalled 3 = .ok (.aload_n 0, 1) := by decide +kernel
theorem dX2_isCalled_4 : decode cX2_isCalled 4 = .ok (.getfield 36, 3) := by decide +kernel
theorem dX2_isCalled_7 : decode cX2_isCalled 7 = .ok (.if_icmp .ge 20, 3) := by decide +kernel
theorem dX2_isCalled_10 : decode cX2_isCalled 10 = .ok (.aload_n 0, 1) := by decide +kernel
theorem dX2_isCalled_11 : decode cX2_isCalled 11 = .ok (.iload_n 2, 1) := by decide +kernel
theorem dX2_isCalled_12 : decode cX2_isCalled 12 = .ok (.iload_n 1, 1) := by decide +kernel
theorem dX2_isCalled_13 : decode cX2_isCalled 13 = .ok (.invokevirtual 56, 3) := by decide +kernel
theorem dX2_isCalled_16 : decode cX2_isCalled 16 = .ok (.ifCond .eq 5, 3) := by decide +kernel
theorem dX2_isCalled_19 : decode cX2_isCalled 19 = .ok (.iconst 1, 1) := by decide +kernel
theorem dX2_isCalled_20 : decode cX2_isCalled 20 = .ok (.ireturn, 1) := by decide +kernel
theorem dX2_isCalled_21 : decode cX2_isCalled 21 = .ok (.iinc 2 1, 3) := by decide +kernel
theorem dX2_isCalled_24 : decode cX2_isCalled 24 = .ok (.goto (-22), 3) := by decide +kernel
theorem dX2_isCalled_27 : decode cX2_isCalled 27 = .ok (.iconst 0, 1) := by decide +kernel
theorem dX2_isCalled_28 : decode cX2_isCalled 28 = .ok (.ireturn, 1) := by decide +kernel
theorem dX2_quarterFor_0 : decode cX2_quarterFor 0 = .ok (.aload_n 0, 1) := by decide +kernel
theorem dX2_quarterFor_1 : decode cX2_quarterFor 1 = .ok (.getfield 27, 3) := by decide +kernel
theorem dX2_quarterFor_4 : decode cX2_quarterFor 4 = .ok (.iload_n 1, 1) := by decide +kernel
theorem dX2_quarterFor_5 : decode cX2_quarterFor 5 = .ok (.bipush 10, 2) := by decide +kernel
theorem dX2_quarterFor_7 : decode cX2_quarterFor 7 = .ok (.imul, 1) := by decide +kernel
theorem dX2_quarterFor_8 : decode cX2_quarterFor 8 = .ok (.iload_n 2, 1) := by decide +kernel
theorem dX2_quarterFor_9 : decode cX2_quarterFor 9 = .ok (.iadd, 1) := by decide +kernel
theorem dX2_quarterFor_10 : decode cX2_quarterFor 10 = .ok (.iaload, 1) := by decide +kernel
theorem dX2_quarterFor_11 : decode cX2_quarterFor 11 = .ok (.ireturn, 1) := by decide +kernel
theorem dX2_callFor_0 : decode cX2_callFor 0 = .ok (.aload_n 0, 1) := by decide +kernel
theorem dX2_callFor_1 : decode cX2_callFor 1 = .ok (.getfield 27, 3) := by decide +kernel
theorem dX2_callFor_4 : decode cX2_callFor 4 = .ok (.iload_n 1, 1) := by decide +kernel
theorem dX2_callFor_5 : decode cX2_callFor 5 = .ok (.bipush 10, 2) := by decide +kernel
theorem dX2_callFor_7 : decode cX2_callFor 7 = .ok (.imul, 1) := by decide +kernel
theorem dX2_callFor_8 : decode cX2_callFor 8 = .ok (.iload_n 2, 1) := by decide +kernel
theorem dX2_callFor_9 : decode cX2_callFor 9 = .ok (.iadd, 1) := by decide +kernel
theorem dX2_callFor_10 : decode cX2_callFor 10 = .ok (.iload_n 3, 1) := by decide +kernel
theorem dX2_callFor_11 : decode cX2_callFor 11 = .ok (.iastore, 1) := by decide +kernel
theorem dX2_callFor_12 : decode cX2_callFor 12 = .ok (.return_, 1) := by decide +kernel
theorem dX2_isFolded_0 : decode cX2_isFolded 0 = .ok (.aload_n 0, 1) := by decide +kernel
theorem dX2_isFolded_1 : decode cX2_isFolded 1 = .ok (.getfield 24, 3) := by decide +kernel
theorem dX2_isFolded_4 : decode cX2_isFolded 4 = .ok (.iload_n 1, 1) := by decide +kernel
theorem dX2_isFolded_5 : decode cX2_isFolded 5 = .ok (.iaload, 1) := by decide +kernel
theorem dX2_isFolded_6 : decode cX2_isFolded 6 = .ok (.ifCond .ne 7, 3) := by decide +kernel
theorem dX2_isFolded_9 : decode cX2_isFolded 9 = .ok (.iconst 1, 1) := by decide +kernel
theorem dX2_isFolded_10 : decode cX2_isFolded 10 = .ok (.goto 4, 3) := by decide +kernel
theorem dX2_isFolded_13 : decode cX2_isFolded 13 = .ok (.iconst 0, 1) := by decide +kernel
theorem dX2_isFolded_14 : decode cX2_isFolded 14 = .ok (.ireturn, 1) := by decide +kernel
theorem dX2_takesQuarters_0 : decode cX2_takesQuarters 0 = .ok (.aload_n 0, 1) := by decide +kernel
theorem dX2_takesQuarters_1 : decode cX2_takesQuarters 1 = .ok (.getfield 24, 3) := by decide +kernel
theorem dX2_takesQuarters_4 : decode cX2_takesQuarters 4 = .ok (.iload_n 1, 1) := by decide +kernel
theorem dX2_takesQuarters_5 : decode cX2_takesQuarters 5 = .ok (.iaload, 1) := by decide +kernel
theorem dX2_takesQuarters_6 : decode cX2_takesQuarters 6 = .ok (.iconst (-1), 1) := by decide +kernel
theorem dX2_takesQuarters_7 : decode cX2_takesQuarters 7 = .ok (.if_icmp .ne 12, 3) := by decide +kernel
theorem dX2_takesQuarters_10 : decode cX2_takesQuarters 10 = .ok (.aload_n 0, 1) := by decide +kernel
theorem dX2_takesQuarters_11 : decode cX2_takesQuarters 11 = .ok (.getfield 15, 3) := by decide +kernel
theorem dX2_takesQuarters_14 : decode cX2_takesQuarters 14 = .ok (.iload_n 1, 1) := by decide +kernel
theorem dX2_takesQuarters_15 : decode cX2_takesQuarters 15 = .ok (.iaload, 1) := by decide +kernel
theorem dX2_takesQuarters_16 : decode cX2_takesQuarters 16 = .ok (.goto 9, 3) := by decide +kernel
theorem dX2_takesQuarters_19 : decode cX2_takesQuarters 19 = .ok (.aload_n 0, 1) := by decide +kernel
theorem dX2_takesQuarters_20 : decode cX2_takesQuarters 20 = .ok (.getfield 24, 3) := by decide +kernel
theorem dX2_takesQuarters_23 : decode cX2_takesQuarters 23 = .ok (.iload_n 1, 1) := by decide +kernel
theorem dX2_takesQuarters_24 : decode cX2_takesQuarters 24 = .ok (.iaload, 1) := by decide +kernel
theorem dX2_takesQuarters_25 : decode cX2_takesQuarters 25 = .ok (.ireturn, 1) := by decide +kernel
theorem dX2_fatesTold_0 : decode cX2_fatesTold 0 = .ok (.iconst 0, 1) := by decide +kernel
theorem dX2_fatesTold_1 : decode cX2_fatesTold 1 = .ok (.istore_n 1, 1) := by decide +kernel
theorem dX2_fatesTold_2 : decode cX2_fatesTold 2 = .ok (.iconst 0, 1) := by decide +kernel
theorem dX2_fatesTold_3 : decode cX2_fatesTold 3 = .ok (.istore_n 2, 1) := by decide +kernel
theorem dX2_fatesTold_4 : decode cX2_fatesTold 4 = .ok (.iload_n 2, 1) := by decide +kernel
theorem dX2_fatesTold_5 : decode cX2_fatesTold 5 = .ok (.aload_n 0, 1) := by decide +kernel
theorem dX2_fatesTold_6 : decode cX2_fatesTold 6 = .ok (.getfield 36, 3) := by decide +kernel
theorem dX2_fatesTold_9 : decode cX2_fatesTold 9 = .ok (.if_icmp .ge 22, 3) := by decide +kernel
theorem dX2_fatesTold_12 : decode cX2_fatesTold 12 = .ok (.aload_n 0, 1) := by decide +kernel
theorem dX2_fatesTold_13 : decode cX2_fatesTold 13 = .ok (.getfield 24, 3) := by decide +kernel
theorem dX2_fatesTold_16 : decode cX2_fatesTold 16 = .ok (.iload_n 2, 1) := by decide +kernel
theorem dX2_fatesTold_17 : decode cX2_fatesTold 17 = .ok (.iaload, 1) := by decide +kernel
theorem dX2_fatesTold_18 : decode cX2_fatesTold 18 = .ok (.iconst (-1), 1) := by decide +kernel
theorem dX2_fatesTold_19 : decode cX2_fatesTold 19 = .ok (.if_icmp .eq 6, 3) := by decide +kernel
theorem dX2_fatesTold_22 : decode cX2_fatesTold 22 = .ok (.iinc 1 1, 3) := by decide +kernel
theorem dX2_fatesTold_25 : decode cX2_fatesTold 25 = .ok (.iinc 2 1, 3) := by decide +kernel
theorem dX2_fatesTold_28 : decode cX2_fatesTold 28 = .ok (.goto (-24), 3) := by decide +kernel
theorem dX2_fatesTold_31 : decode cX2_fatesTold 31 = .ok (.iload_n 1, 1) := by decide +kernel
theorem dX2_fatesTold_32 : decode cX2_fatesTold 32 = .ok (.ireturn, 1) := by decide +kernel
theorem dX3_init_0 : decode cX3_init 0 = .ok (.aload_n 0, 1) := by decide +kernel
theorem dX3_init_1 : decode cX3_init 1 = .ok (.invokespecial 3, 3) := by decide +kernel
theorem dX3_init_4 : decode cX3_init 4 = .ok (.aload_n 0, 1) := by decide +kernel
theorem dX3_init_5 : decode cX3_init 5 = .ok (.bipush 60, 2) := by decide +kernel
theorem dX3_init_7 : decode cX3_init 7 = .ok (.newarray .int, 2) := by decide +kernel
theorem dX3_init_9 : decode cX3_init 9 = .ok (.putfield 9, 3) := by decide +kernel
theorem dX3_init_12 : decode cX3_init 12 = .ok (.aload_n 0, 1) := by decide +kernel
theorem dX3_init_13 : decode cX3_init 13 = .ok (.bipush 60, 2) := by decide +kernel
theorem dX3_init_15 : decode cX3_init 15 = .ok (.newarray .int, 2) := by decide +kernel
theorem dX3_init_17 : decode cX3_init 17 = .ok (.putfield 15, 3) := by decide +kernel
theorem dX3_init_20 : decode cX3_init 20 = .ok (.aload_n 0, 1) := by decide +kernel
theorem dX3_init_21 : decode cX3_init 21 = .ok (.bipush 60, 2) := by decide +kernel
theorem dX3_init_23 : decode cX3_init 23 = .ok (.newarray .boolean, 2) := by decide +kernel
theorem dX3_init_25 : decode cX3_init 25 = .ok (.putfield 18, 3) := by decide +kernel
theorem dX3_init_28 : decode cX3_init 28 = .ok (.return_, 1) := by decide +kernel
theorem dX3_send_0 : decode cX3_send 0 = .ok (.aload_n 0, 1) := by decide +kernel
theorem dX3_send_1 : decode cX3_send 1 = .ok (.getfield 22, 3) := by decide +kernel
theorem dX3_send_4 : decode cX3_send 4 = .ok (.bipush 60, 2) := by decide +kernel
theorem dX3_send_6 : decode cX3_send 6 = .ok (.if_icmp .ge 42, 3) := by decide +kernel
theorem dX3_send_9 : decode cX3_send 9 = .ok (.aload_n 0, 1) := by decide +kernel
theorem dX3_send_10 : decode cX3_send 10 = .ok (.iload_n 1, 1) := by decide +kernel
theorem dX3_send_11 : decode cX3_send 11 = .ok (.iload_n 2, 1) := by decide +kernel
theorem dX3_send_12 : decode cX3_send 12 = .ok (.invokevirtual 26, 3) := by decide +kernel
theorem dX3_send_15 : decode cX3_send 15 = .ok (.ifCond .ne 33, 3) := by decide +kernel
theorem dX3_send_18 : decode cX3_send 18 = .ok (.aload_n 0, 1) := by decide +kernel
theorem dX3_send_19 : decode cX3_send 19 = .ok (.getfield 9, 3) := by decide +kernel
theorem dX3_send_22 : decode cX3_send 22 = .ok (.aload_n 0, 1) := by decide +kernel
theorem dX3_send_23 : decode cX3_send 23 = .ok (.getfield 22, 3) := by decide +kernel
theorem dX3_send_26 : decode cX3_send 26 = .ok (.iload_n 1, 1) := by decide +kernel
theorem dX3_send_27 : decode cX3_send 27 = .ok (.iastore, 1) := by decide +kernel
theorem dX3_send_28 : decode cX3_send 28 = .ok (.aload_n 0, 1) := by decide +kernel
theorem dX3_send_29 : decode cX3_send 29 = .ok (.getfield 15, 3) := by decide +kernel
theorem dX3_send_32 : decode cX3_send 32 = .ok (.aload_n 0, 1) := by decide +kernel
theorem dX3_send_33 : decode cX3_send 33 = .ok (.getfield 22, 3) := by decide +kernel
theorem dX3_send_36 : decode cX3_send 36 = .ok (.iload_n 2, 1) := by decide +kernel
theorem dX3_send_37 : decode cX3_send 37 = .ok (.iastore, 1) := by decide +kernel
theorem dX3_send_38 : decode cX3_send 38 = .ok (.aload_n 0, 1) := by decide +kernel
theorem dX3_send_39 : decode cX3_send 39 = .ok (.dup, 1) := by decide +kernel
theorem dX3_send_40 : decode cX3_send 40 = .ok (.getfield 22, 3) := by decide +kernel
theorem dX3_send_43 : decode cX3_send 43 = .ok (.iconst 1, 1) := by decide +kernel
theorem dX3_send_44 : decode cX3_send 44 = .ok (.iadd, 1) := by decide +kernel
theorem dX3_send_45 : decode cX3_send 45 = .ok (.putfield 22, 3) := by decide +kernel
theorem dX3_send_48 : decode cX3_send 48 = .ok (.return_, 1) := by decide +kernel
theorem dX3_isPending_0 : decode cX3_isPending 0 = .ok (.iconst 0, 1) := by decide +kernel
theorem dX3_isPending_1 : decode cX3_isPending 1 = .ok (.istore_n 3, 1) := by decide +kernel
theorem dX3_isPending_2 : decode cX3_isPending 2 = .ok (.iload_n 3, 1) := by decide +kernel
theorem dX3_isPending_3 : decode cX3_isPending 3 = .ok (.aload_n 0, 1) := by decide +kernel
theorem dX3_isPending_4 : decode cX3_isPending 4 = .ok (.getfield 22, 3) := by decide +kernel
theorem dX3_isPending_7 : decode cX3_isPending 7 = .ok (.if_icmp .ge 40, 3) := by decide +kernel
theorem dX3_isPending_10 : decode cX3_isPending 10 = .ok (.aload_n 0, 1) := by decide +kernel
theorem dX3_isPending_11 : decode cX3_isPending 11 = .ok (.getfield 9, 3) := by decide +kernel
theorem dX3_isPending_14 : decode cX3_isPending 14 = .ok (.iload_n 3, 1) := by decide +kernel
theorem dX3_isPending_15 : decode cX3_isPending 15 = .ok (.iaload, 1) := by decide +kernel
theorem dX3_isPending_16 : decode cX3_isPending 16 = .ok (.iload_n 1, 1) := by decide +kernel
theorem dX3_isPending_17 : decode cX3_isPending 17 = .ok (.if_icmp .ne 24, 3) := by decide +kernel
theorem dX3_isPending_20 : decode cX3_isPending 20 = .ok (.aload_n 0, 1) := by decide +kernel
theorem dX3_isPending_21 : decode cX3_isPending 21 = .ok (.getfield 15, 3) := by decide +kernel
theorem dX3_isPending_24 : decode cX3_isPending 24 = .ok (.iload_n 3, 1) := by decide +kernel
theorem dX3_isPending_25 : decode cX3_isPending 25 = .ok (.iaload, 1) := by decide +kernel
theorem dX3_isPending_26 : decode cX3_isPending 26 = .ok (.iload_n 2, 1) := by decide +kernel
theorem dX3_isPending_27 : decode cX3_isPending 27 = .ok (.if_icmp .ne 14, 3) := by decide +kernel
theorem dX3_isPending_30 : decode cX3_isPending 30 = .ok (.aload_n 0, 1) := by decide +kernel
theorem dX3_isPending_31 : decode cX3_isPending 31 = .ok (.getfield 18, 3) := by decide +kernel
theorem dX3_isPending_34 : decode cX3_isPending 34 = .ok (.iload_n 3, 1) := by decide +kernel
theorem dX3_isPending_35 : decode cX3_isPending 35 = .ok (.baload, 1) := by decide +kernel
theorem dX3_isPending_36 : decode cX3_isPending 36 = .ok (.ifCond .ne 5, 3) := by decide +kernel
theorem dX3_isPending_39 : decode cX3_isPending 39 = .ok (.iconst 1, 1) := by decide +kernel
theorem dX3_isPending_40 : decode cX3_isPending 40 = .ok (.ireturn, 1) := by decide +kernel
theorem dX3_isPending_41 : decode cX3_isPending 41 = .ok (.iinc 3 1, 3) := by decide +kernel
theorem dX3_isPending_44 : decode cX3_isPending 44 = .ok (.goto (-42), 3) := by decide +kernel
theorem dX3_isPending_47 : decode cX3_isPending 47 = .ok (.iconst 0, 1) := by decide +kernel
theorem dX3_isPending_48 : decode cX3_isPending 48 = .ok (.ireturn, 1) := by decide +kernel
theorem dX3_readAll_0 : decode cX3_readAll 0 = .ok (.iconst 0, 1) := by decide +kernel
theorem dX3_readAll_1 : decode cX3_readAll 1 = .ok (.istore_n 2, 1) := by decide +kernel
theorem dX3_readAll_2 : decode cX3_readAll 2 = .ok (.iconst 0, 1) := by decide +kernel
theorem dX3_readAll_3 : decode cX3_readAll 3 = .ok (.istore_n 3, 1) := by decide +kernel
theorem dX3_readAll_4 : decode cX3_readAll 4 = .ok (.iload_n 3, 1) := by decide +kernel
theorem dX3_readAll_5 : decode cX3_readAll 5 = .ok (.aload_n 0, 1) := by decide +kernel
theorem dX3_readAll_6 : decode cX3_readAll 6 = .ok (.getfield 22, 3) := by decide +kernel
theorem dX3_readAll_9 : decode cX3_readAll 9 = .ok (.if_icmp .ge 38, 3) := by decide +kernel
theorem dX3_readAll_12 : decode cX3_readAll 12 = .ok (.aload_n 0, 1) := by decide +kernel
theorem dX3_readAll_13 : decode cX3_readAll 13 = .ok (.getfield 9, 3) := by decide +kernel
theorem dX3_readAll_16 : decode cX3_readAll 16 = .ok (.iload_n 3, 1) := by decide +kernel
theorem dX3_readAll_17 : decode cX3_readAll 17 = .ok (.iaload, 1) := by decide +kernel
theorem dX3_readAll_18 : decode cX3_readAll 18 = .ok (.iload_n 1, 1) := by decide +kernel
theorem dX3_readAll_19 : decode cX3_readAll 19 = .ok (.if_icmp .ne 22, 3) := by decide +kernel
theorem dX3_readAll_22 : decode cX3_readAll 22 = .ok (.aload_n 0, 1) := by decide +kernel
theorem dX3_readAll_23 : decode cX3_readAll 23 = .ok (.getfield 18, 3) := by decide +kernel
theorem dX3_readAll_26 : decode cX3_readAll 26 = .ok (.iload_n 3, 1) := by decide +kernel
theorem dX3_readAll_27 : decode cX3_readAll 27 = .ok (.baload, 1) := by decide +kernel
theorem dX3_readAll_28 : decode cX3_readAll 28 = .ok (.ifCond .ne 13, 3) := by decide +kernel
theorem dX3_readAll_31 : decode cX3_readAll 31 = .ok (.aload_n 0, 1) := by decide +kernel
theorem dX3_readAll_32 : decode cX3_readAll 32 = .ok (.getfield 18, 3) := by decide +kernel
theorem dX3_readAll_35 : decode cX3_readAll 35 = .ok (.iload_n 3, 1) := by decide +kernel
theorem dX3_readAll_36 : decode cX3_readAll 36 = .ok (.iconst 1, 1) := by decide +kernel
theorem dX3_readAll_37 : decode cX3_readAll 37 = .ok (.bastore, 1) := by decide +kernel
theorem dX3_readAll_38 : decode cX3_readAll 38 = .ok (.iinc 2 1, 3) := by decide +kernel
theorem dX3_readAll_41 : decode cX3_readAll 41 = .ok (.iinc 3 1, 3) := by decide +kernel
theorem dX3_readAll_44 : decode cX3_readAll 44 = .ok (.goto (-40), 3) := by decide +kernel
theorem dX3_readAll_47 : decode cX3_readAll 47 = .ok (.iload_n 2, 1) := by decide +kernel
theorem dX3_readAll_48 : decode cX3_readAll 48 = .ok (.ireturn, 1) := by decide +kernel
theorem dX3_unread_0 : decode cX3_unread 0 = .ok (.iconst 0, 1) := by decide +kernel
theorem dX3_unread_1 : decode cX3_unread 1 = .ok (.istore_n 1, 1) := by decide +kernel
theorem dX3_unread_2 : decode cX3_unread 2 = .ok (.iconst 0, 1) := by decide +kernel
theorem dX3_unread_3 : decode cX3_unread 3 = .ok (.istore_n 2, 1) := by decide +kernel
theorem dX3_unread_4 : decode cX3_unread 4 = .ok (.iload_n 2, 1) := by decide +kernel
theorem dX3_unread_5 : decode cX3_unread 5 = .ok (.aload_n 0, 1) := by decide +kernel
theorem dX3_unread_6 : decode cX3_unread 6 = .ok (.getfield 22, 3) := by decide +kernel
theorem dX3_unread_9 : decode cX3_unread 9 = .ok (.if_icmp .ge 21, 3) := by decide +kernel
theorem dX3_unread_12 : decode cX3_unread 12 = .ok (.aload_n 0, 1) := by decide +kernel
theorem dX3_unread_13 : decode cX3_unread 13 = .ok (.getfield 18, 3) := by decide +kernel
theorem dX3_unread_16 : decode cX3_unread 16 = .ok (.iload_n 2, 1) := by decide +kernel
theorem dX3_unread_17 : decode cX3_unread 17 = .ok (.baload, 1) := by decide +kernel
theorem dX3_unread_18 : decode cX3_unread 18 = .ok (.ifCond .ne 6, 3) := by decide +kernel
theorem dX3_unread_21 : decode cX3_unread 21 = .ok (.iinc 1 1, 3) := by decide +kernel
theorem dX3_unread_24 : decode cX3_unread 24 = .ok (.iinc 2 1, 3) := by decide +kernel
theorem dX3_unread_27 : decode cX3_unread 27 = .ok (.goto (-23), 3) := by decide +kernel
theorem dX3_unread_30 : decode cX3_unread 30 = .ok (.iload_n 1, 1) := by decide +kernel
theorem dX3_unread_31 : decode cX3_unread 31 = .ok (.ireturn, 1) := by decide +kernel
theorem dX4_init_0 : decode cX4_init 0 = .ok (.aload_n 0, 1) := by decide +kernel
theorem dX4_init_1 : decode cX4_init 1 = .ok (.invokespecial 3, 3) := by decide +kernel
theorem dX4_init_4 : decode cX4_init 4 = .ok (.aload_n 0, 1) := by decide +kernel
theorem dX4_init_5 : decode cX4_init 5 = .ok (.bipush 10, 2) := by decide +kernel
theorem dX4_init_7 : decode cX4_init 7 = .ok (.newarray .int, 2) := by decide +kernel
theorem dX4_init_9 : decode cX4_init 9 = .ok (.putfield 9, 3) := by decide +kernel
theorem dX4_init_12 : decode cX4_init 12 = .ok (.aload_n 0, 1) := by decide +kernel
theorem dX4_init_13 : decode cX4_init 13 = .ok (.bipush 10, 2) := by decide +kernel
theorem dX4_init_15 : decode cX4_init 15 = .ok (.newarray .int, 2) := by decide +kernel
theorem dX4_init_17 : decode cX4_init 17 = .ok (.putfield 15, 3) := by decide +kernel
theorem dX4_init_20 : decode cX4_init 20 = .ok (.aload_n 0, 1) := by decide +kernel
theorem dX4_init_21 : decode cX4_init 21 = .ok (.bipush 10, 2) := by decide +kernel
theorem dX4_init_23 : decode cX4_init 23 = .ok (.newarray .int, 2) := by decide +kernel
theorem dX4_init_25 : decode cX4_init 25 = .ok (.putfield 18, 3) := by decide +kernel
theorem dX4_init_28 : decode cX4_init 28 = .ok (.return_, 1) := by decide +kernel
theorem dX4_has_0 : decode cX4_has 0 = .ok (.iload_n 1, 1) := by decide +kernel
theorem dX4_has_1 : decode cX4_has 1 = .ok (.ifCond .lt 15, 3) := by decide +kernel
theorem dX4_has_4 : decode cX4_has 4 = .ok (.iload_n 1, 1) := by decide +kernel
theorem dX4_has_5 : decode cX4_has 5 = .ok (.aload_n 0, 1) := by decide +kernel
theorem dX4_has_6 : decode cX4_has 6 = .ok (.getfield 21, 3) := by decide +kernel
theorem dX4_has_9 : decode cX4_has 9 = .ok (.if_icmp .ge 7, 3) := by decide +kernel
theorem dX4_has_12 : decode cX4_has 12 = .ok (.iconst 1, 1) := by decide +kernel
theorem dX4_has_13 : decode cX4_has 13 = .ok (.goto 4, 3) := by decide +kernel
theorem dX4_has_16 : decode cX4_has 16 = .ok (.iconst 0, 1) := by decide +kernel
theorem dX4_has_17 : decode cX4_has 17 = .ok (.ireturn, 1) := by decide +kernel
theorem dX4_enter_0 : decode cX4_enter 0 = .ok (.aload_n 0, 1) := by decide +kernel
theorem dX4_enter_1 : decode cX4_enter 1 = .ok (.getfield 21, 3) := by decide +kernel
theorem dX4_enter_4 : decode cX4_enter 4 = .ok (.istore_n 3, 1) := by decide +kernel
theorem dX4_enter_5 : decode cX4_enter 5 = .ok (.aload_n 0, 1) := by decide +kernel
theorem dX4_enter_6 : decode cX4_enter 6 = .ok (.dup, 1) := by decide +kernel
theorem dX4_enter_7 : decode cX4_enter 7 = .ok (.getfield 21, 3) := by decide +kernel
theorem dX4_enter_10 : decode cX4_enter 10 = .ok (.iconst 1, 1) := by decide +kernel
theorem dX4_enter_11 : decode cX4_enter 11 = .ok (.iadd, 1) := by decide +kernel
theorem dX4_enter_12 : decode cX4_enter 12 = .ok (.putfield 21, 3) := by decide +kernel
theorem dX4_enter_15 : decode cX4_enter 15 = .ok (.aload_n 0, 1) := by decide +kernel
theorem dX4_enter_16 : decode cX4_enter 16 = .ok (.getfield 9, 3) := by decide +kernel
theorem dX4_enter_19 : decode cX4_enter 19 = .ok (.iload_n 3, 1) := by decide +kernel
theorem dX4_enter_20 : decode cX4_enter 20 = .ok (.iload_n 1, 1) := by decide +kernel
theorem dX4_enter_21 : decode cX4_enter 21 = .ok (.iastore, 1) := by decide +kernel
theorem dX4_enter_22 : decode cX4_enter 22 = .ok (.aload_n 0, 1) := by decide +kernel
theorem dX4_enter_23 : decode cX4_enter 23 = .ok (.getfield 15, 3) := by decide +kernel
theorem dX4_enter_26 : decode cX4_enter 26 = .ok (.iload_n 3, 1) := by decide +kernel
theorem dX4_enter_27 : decode cX4_enter 27 = .ok (.iload_n 2, 1) := by decide +kernel
theorem dX4_enter_28 : decode cX4_enter 28 = .ok (.iastore, 1) := by decide +kernel
theorem dX4_enter_29 : decode cX4_enter 29 = .ok (.iload_n 3, 1) := by decide +kernel
theorem dX4_enter_30 : decode cX4_enter 30 = .ok (.ireturn, 1) := by decide +kernel
theorem dX4_areApart_0 : decode cX4_areApart 0 = .ok (.aload_n 0, 1) := by decide +kernel
theorem dX4_areApart_1 : decode cX4_areApart 1 = .ok (.getfield 18, 3) := by decide +kernel
theorem dX4_areApart_4 : decode cX4_areApart 4 = .ok (.iload_n 1, 1) := by decide +kernel
theorem dX4_areApart_5 : decode cX4_areApart 5 = .ok (.iaload, 1) := by decide +kernel
theorem dX4_areApart_6 : decode cX4_areApart 6 = .ok (.iload_n 2, 1) := by decide +kernel
theorem dX4_areApart_7 : decode cX4_areApart 7 = .ok (.invokestatic 25, 3) := by decide +kernel
theorem dX4_areApart_10 : decode cX4_areApart 10 = .ok (.ireturn, 1) := by decide +kernel
theorem dX4_setApart_0 : decode cX4_setApart 0 = .ok (.aload_n 0, 1) := by decide +kernel
theorem dX4_setApart_1 : decode cX4_setApart 1 = .ok (.iload_n 1, 1) := by decide +kernel
theorem dX4_setApart_2 : decode cX4_setApart 2 = .ok (.iload_n 2, 1) := by decide +kernel
theorem dX4_setApart_3 : decode cX4_setApart 3 = .ok (.invokevirtual 29, 3) := by decide +kernel
theorem dX4_setApart_6 : decode cX4_setApart 6 = .ok (.iload_n 3, 1) := by decide +kernel
theorem dX4_setApart_7 : decode cX4_setApart 7 = .ok (.if_icmp .eq 27, 3) := by decide +kernel
theorem dX4_setApart_10 : decode cX4_setApart 10 = .ok (.aload_n 0, 1) := by decide +kernel
theorem dX4_setApart_11 : decode cX4_setApart 11 = .ok (.getfield 18, 3) := by decide +kernel
theorem dX4_setApart_14 : decode cX4_setApart 14 = .ok (.iload_n 1, 1) := by decide +kernel
theorem dX4_setApart_15 : decode cX4_setApart 15 = .ok (.dup2, 1) := by decide +kernel
theorem dX4_setApart_16 : decode cX4_setApart 16 = .ok (.iaload, 1) := by decide +kernel
theorem dX4_setApart_17 : decode cX4_setApart 17 = .ok (.iconst 1, 1) := by decide +kernel
theorem dX4_setApart_18 : decode cX4_setApart 18 = .ok (.iload_n 2, 1) := by decide +kernel
theorem dX4_setApart_19 : decode cX4_setApart 19 = .ok (.ishl, 1) := by decide +kernel
theorem dX4_setApart_20 : decode cX4_setApart 20 = .ok (.ixor, 1) := by decide +kernel
theorem dX4_setApart_21 : decode cX4_setApart 21 = .ok (.iastore, 1) := by decide +kernel
theorem dX4_setApart_22 : decode cX4_setApart 22 = .ok (.aload_n 0, 1) := by decide +kernel
theorem dX4_setApart_23 : decode cX4_setApart 23 = .ok (.getfield 18, 3) := by decide +kernel
theorem dX4_setApart_26 : decode cX4_setApart 26 = .ok (.iload_n 2, 1) := by decide +kernel
theorem dX4_setApart_27 : decode cX4_setApart 27 = .ok (.dup2, 1) := by decide +kernel
theorem dX4_setApart_28 : decode cX4_setApart 28 = .ok (.iaload, 1) := by decide +kernel
theorem dX4_setApart_29 : decode cX4_setApart 29 = .ok (.iconst 1, 1) := by decide +kernel
theorem dX4_setApart_30 : decode cX4_setApart 30 = .ok (.iload_n 1, 1) := by decide +kernel
theorem dX4_setApart_31 : decode cX4_setApart 31 = .ok (.ishl, 1) := by decide +kernel
theorem dX4_setApart_32 : decode cX4_setApart 32 = .ok (.ixor, 1) := by decide +kernel
theorem dX4_setApart_33 : decode cX4_setApart 33 = .ok (.iastore, 1) := by decide +kernel
theorem dX4_setApart_34 : decode cX4_setApart 34 = .ok (.return_, 1) := by decide +kernel
theorem dX4_pairsApart_0 : decode cX4_pairsApart 0 = .ok (.iconst 0, 1) := by decide +kernel
theorem dX4_pairsApart_1 : decode cX4_pairsApart 1 = .ok (.istore_n 1, 1) := by decide +kernel
theorem dX4_pairsApart_2 : decode cX4_pairsApart 2 = .ok (.iconst 0, 1) := by decide +kernel
theorem dX4_pairsApart_3 : decode cX4_pairsApart 3 = .ok (.istore_n 2, 1) := by decide +kernel
theorem dX4_pairsApart_4 : decode cX4_pairsApart 4 = .ok (.iload_n 2, 1) := by decide +kernel
theorem dX4_pairsApart_5 : decode cX4_pairsApart 5 = .ok (.aload_n 0, 1) := by decide +kernel
theorem dX4_pairsApart_6 : decode cX4_pairsApart 6 = .ok (.getfield 21, 3) := by decide +kernel
theorem dX4_pairsApart_9 : decode cX4_pairsApart 9 = .ok (.if_icmp .ge 21, 3) := by decide +kernel
theorem dX4_pairsApart_12 : decode cX4_pairsApart 12 = .ok (.iload_n 1, 1) := by decide +kernel
theorem dX4_pairsApart_13 : decode cX4_pairsApart 13 = .ok (.aload_n 0, 1) := by decide +kernel
theorem dX4_pairsApart_14 : decode cX4_pairsApart 14 = .ok (.getfield 18, 3) := by decide +kernel
theorem dX4_pairsApart_17 : decode cX4_pairsApart 17 = .ok (.iload_n 2, 1) := by decide +kernel
theorem dX4_pairsApart_18 : decode cX4_pairsApart 18 = .ok (.iaload, 1) := by decide +kernel
theorem dX4_pairsApart_19 : decode cX4_pairsApart 19 = .ok (.invokestatic 32, 3) := by decide +kernel
theorem dX4_pairsApart_22 : decode cX4_pairsApart 22 = .ok (.iadd, 1) := by decide +kernel
theorem dX4_pairsApart_23 : decode cX4_pairsApart 23 = .ok (.istore_n 1, 1) := by decide +kernel
theorem dX4_pairsApart_24 : decode cX4_pairsApart 24 = .ok (.iinc 2 1, 3) := by decide +kernel
theorem dX4_pairsApart_27 : decode cX4_pairsApart 27 = .ok (.goto (-23), 3) := by decide +kernel
theorem dX4_pairsApart_30 : decode cX4_pairsApart 30 = .ok (.iload_n 1, 1) := by decide +kernel
theorem dX4_pairsApart_31 : decode cX4_pairsApart 31 = .ok (.iconst 2, 1) := by decide +kernel
theorem dX4_pairsApart_32 : decode cX4_pairsApart 32 = .ok (.idiv, 1) := by decide +kernel
theorem dX4_pairsApart_33 : decode cX4_pairsApart 33 = .ok (.ireturn, 1) := by decide +kernel
theorem dX5_init_0 : decode cX5_init 0 = .ok (.aload_n 0, 1) := by decide +kernel
theorem dX5_init_1 : decode cX5_init 1 = .ok (.invokespecial 3, 3) := by decide +kernel
theorem dX5_init_4 : decode cX5_init 4 = .ok (.aload_n 0, 1) := by decide +kernel
theorem dX5_init_5 : decode cX5_init 5 = .ok (.bipush 10, 2) := by decide +kernel
theorem dX5_init_7 : decode cX5_init 7 = .ok (.newarray .int, 2) := by decide +kernel
theorem dX5_init_9 : decode cX5_init 9 = .ok (.putfield 9, 3) := by decide +kernel
theorem dX5_init_12 : decode cX5_init 12 = .ok (.aload_n 0, 1) := by decide +kernel
theorem dX5_init_13 : decode cX5_init 13 = .ok (.bipush 10, 2) := by decide +kernel
theorem dX5_init_15 : decode cX5_init 15 = .ok (.newarray .int, 2) := by decide +kernel
theorem dX5_init_17 : decode cX5_init 17 = .ok (.putfield 15, 3) := by decide +kernel
theorem dX5_init_20 : decode cX5_init 20 = .ok (.aload_n 0, 1) := by decide +kernel
theorem dX5_init_21 : decode cX5_init 21 = .ok (.bipush 10, 2) := by decide +kernel
theorem dX5_init_23 : decode cX5_init 23 = .ok (.newarray .int, 2) := by decide +kernel
theorem dX5_init_25 : decode cX5_init 25 = .ok (.putfield 18, 3) := by decide +kernel
theorem dX5_init_28 : decode cX5_init 28 = .ok (.aload_n 0, 1) := by decide +kernel
theorem dX5_init_29 : decode cX5_init 29 = .ok (.bipush 10, 2) := by decide +kernel
theorem dX5_init_31 : decode cX5_init 31 = .ok (.newarray .int, 2) := by decide +kernel
theorem dX5_init_33 : decode cX5_init 33 = .ok (.putfield 21, 3) := by decide +kernel
theorem dX5_init_36 : decode cX5_init 36 = .ok (.aload_n 0, 1) := by decide +kernel
theorem dX5_init_37 : decode cX5_init 37 = .ok (.iconst 3, 1) := by decide +kernel
theorem dX5_init_38 : decode cX5_init 38 = .ok (.newarray .int, 2) := by decide +kernel
theorem dX5_init_40 : decode cX5_init 40 = .ok (.putfield 24, 3) := by decide +kernel
theorem dX5_init_43 : decode cX5_init 43 = .ok (.return_, 1) := by decide +kernel
theorem dX5_give_0 : decode cX5_give 0 = .ok (.aload_n 0, 1) := by decide +kernel
theorem dX5_give_1 : decode cX5_give 1 = .ok (.getfield 9, 3) := by decide +kernel
theorem dX5_give_4 : decode cX5_give 4 = .ok (.iconst (-1), 1) := by decide +kernel
theorem dX5_give_5 : decode cX5_give 5 = .ok (.invokestatic 27, 3) := by decide +kernel
theorem dX5_give_8 : decode cX5_give 8 = .ok (.aload_n 0, 1) := by decide +kernel
theorem dX5_give_9 : decode cX5_give 9 = .ok (.getfield 24, 3) := by decide +kernel
theorem dX5_give_12 : decode cX5_give 12 = .ok (.iconst 0, 1) := by decide +kernel
theorem dX5_give_13 : decode cX5_give 13 = .ok (.invokestatic 27, 3) := by decide +kernel
theorem dX5_give_16 : decode cX5_give 16 = .ok (.iconst 0, 1) := by decide +kernel
theorem dX5_give_17 : decode cX5_give 17 = .ok (.istore 4, 2) := by decide +kernel
theorem dX5_give_19 : decode cX5_give 19 = .ok (.iload 4, 2) := by decide +kernel
theorem dX5_give_21 : decode cX5_give 21 = .ok (.aload_n 1, 1) := by decide +kernel
theorem dX5_give_22 : decode cX5_give 22 = .ok (.getfield 33, 3) := by decide +kernel
theorem dX5_give_25 : decode cX5_give 25 = .ok (.if_icmp .ge 24, 3) := by decide +kernel
theorem dX5_give_28 : decode cX5_give 28 = .ok (.aload_n 0, 1) := by decide +kernel
theorem dX5_give_29 : decode cX5_give 29 = .ok (.aload_n 2, 1) := by decide +kernel
theorem dX5_give_30 : decode cX5_give 30 = .ok (.aload_n 3, 1) := by decide +kernel
theorem dX5_give_31 : decode cX5_give 31 = .ok (.iload 4, 2) := by decide +kernel
theorem dX5_give_33 : decode cX5_give 33 = .ok (.invokevirtual 39, 3) := by decide +kernel
theorem dX5_give_36 : decode cX5_give 36 = .ok (.aload_n 0, 1) := by decide +kernel
theorem dX5_give_37 : decode cX5_give 37 = .ok (.aload_n 1, 1) := by decide +kernel
theorem dX5_give_38 : decode cX5_give 38 = .ok (.iload 4, 2) := by decide +kernel
theorem dX5_give_40 : decode cX5_give 40 = .ok (.invokevirtual 43, 3) := by decide +kernel
theorem dX5_give_43 : decode cX5_give 43 = .ok (.iinc 4 1, 3) := by decide +kernel
theorem dX5_give_46 : decode cX5_give 46 = .ok (.goto (-27), 3) := by decide +kernel
theorem dX5_give_49 : decode cX5_give 49 = .ok (.aload_n 0, 1) := by decide +kernel
theorem dX5_give_50 : decode cX5_give 50 = .ok (.aload_n 1, 1) := by decide +kernel
theorem dX5_give_51 : decode cX5_give 51 = .ok (.iconst 0, 1) := by decide +kernel
theorem dX5_give_52 : decode cX5_give 52 = .ok (.invokestatic 47, 3) := by decide +kernel
theorem dX5_give_55 : decode cX5_give 55 = .ok (.ireturn, 1) := by decide +kernel
theorem dX5_measureStay_0 : decode cX5_measureStay 0 = .ok (.sipush 200, 3) := by decide +kernel
theorem dX5_measureStay_3 : decode cX5_measureStay 3 = .ok (.istore 4, 2) := by decide +kernel
theorem dX5_measureStay_5 : decode cX5_measureStay 5 = .ok (.iconst (-1), 1) := by decide +kernel
theorem dX5_measureStay_6 : decode cX5_measureStay 6 = .ok (.istore 5, 2) := by decide +kernel
theorem dX5_measureStay_8 : decode cX5_measureStay 8 = .ok (.iconst 0, 1) := by decide +kernel
theorem dX5_measureStay_9 : decode cX5_measureStay 9 = .ok (.istore 6, 2) := by decide +kernel
theorem dX5_measureStay_11 : decode cX5_measureStay 11 = .ok (.iload 6, 2) := by decide +kernel
theorem dX5_measureStay_13 : decode cX5_measureStay 13 = .ok (.aload_n 1, 1) := by decide +kernel
theorem dX5_measureStay_14 : decode cX5_measureStay 14 = .ok (.getfield 51, 3) := by decide +kernel
theorem dX5_measureStay_17 : decode cX5_measureStay 17 = .ok (.if_icmp .ge 64, 3) := by decide +kernel
theorem dX5_measureStay_20 : decode cX5_measureStay 20 = .ok (.aload_n 1, 1) := by decide +kernel
theorem dX5_measureStay_21 : decode cX5_measureStay 21 = .ok (.iload 6, 2) := by decide +kernel
theorem dX5_measureStay_23 : decode cX5_measureStay 23 = .ok (.iload_n 3, 1) := by decide +kernel
theorem dX5_measureStay_24 : decode cX5_measureStay 24 = .ok (.invokevirtual 54, 3) := by decide +kernel
theorem dX5_measureStay_27 : decode cX5_measureStay 27 = .ok (.ifCond .eq 48, 3) := by decide +kernel
theorem dX5_measureStay_30 : decode cX5_measureStay 30 = .ok (.iload 4, 2) := by decide +kernel
theorem dX5_measureStay_32 : decode cX5_measureStay 32 = .ok (.aload_n 1, 1) := by decide +kernel
theorem dX5_measureStay_33 : decode cX5_measureStay 33 = .ok (.iload 6, 2) := by decide +kernel
theorem dX5_measureStay_35 : decode cX5_measureStay 35 = .ok (.iload_n 3, 1) := by decide +kernel
theorem dX5_measureStay_36 : decode cX5_measureStay 36 = .ok (.invokevirtual 58, 3) := by decide +kernel
theorem dX5_measureStay_39 : decode cX5_measureStay 39 = .ok (.invokestatic 62, 3) := by decide +kernel
theorem dX5_measureStay_42 : decode cX5_measureStay 42 = .ok (.istore 4, 2) := by decide +kernel
theorem dX5_measureStay_44 : decode cX5_measureStay 44 = .ok (.iload 5, 2) := by decide +kernel
theorem dX5_measureStay_46 : decode cX5_measureStay 46 = .ok (.aload_n 2, 1) := by decide +kernel
theorem dX5_measureStay_47 : decode cX5_measureStay 47 = .ok (.getfield 67, 3) := by decide +kernel
theorem dX5_measureStay_50 : decode cX5_measureStay 50 = .ok (.iload 6, 2) := by decide +kernel
theorem dX5_measureStay_52 : decode cX5_measureStay 52 = .ok (.iaload, 1) := by decide +kernel
theorem dX5_measureStay_53 : decode cX5_measureStay 53 = .ok (.iconst (-1), 1) := by decide +kernel
theorem dX5_measureStay_54 : decode cX5_measureStay 54 = .ok (.if_icmp .ne 9, 3) := by decide +kernel
theorem dX5_measureStay_57 : decode cX5_measureStay 57 = .ok (.sipush 200, 3) := by decide +kernel
theorem dX5_measureStay_60 : decode cX5_measureStay 60 = .ok (.goto 10, 3) := by decide +kernel
theorem dX5_measureStay_63 : decode cX5_measureStay 63 = .ok (.aload_n 2, 1) := by decide +kernel
theorem dX5_measureStay_64 : decode cX5_measureStay 64 = .ok (.getfield 67, 3) := by decide +kernel
theorem dX5_measureStay_67 : decode cX5_measureStay 67 = .ok (.iload 6, 2) := by decide +kernel
theorem dX5_measureStay_69 : decode cX5_measureStay 69 = .ok (.iaload, 1) := by decide +kernel
theorem dX5_measureStay_70 : decode cX5_measureStay 70 = .ok (.invokestatic 72, 3) := by decide +kernel
theorem dX5_measureStay_73 : decode cX5_measureStay 73 = .ok (.istore 5, 2) := by decide +kernel
theorem dX5_measureStay_75 : decode cX5_measureStay 75 = .ok (.iinc 6 1, 3) := by decide +kernel
theorem dX5_measureStay_78 : decode cX5_measureStay 78 = .ok (.goto (-67), 3) := by decide +kernel
theorem dX5_measureStay_81 : decode cX5_measureStay 81 = .ok (.aload_n 0, 1) := by decide +kernel
theorem dX5_measureStay_82 : decode cX5_measureStay 82 = .ok (.getfield 15, 3) := by decide +kernel
theorem dX5_measureStay_85 : decode cX5_measureStay 85 = .ok (.iload_n 3, 1) := by decide +kernel
theorem dX5_measureStay_86 : decode cX5_measureStay 86 = .ok (.iload 4, 2) := by decide +kernel
theorem dX5_measureStay_88 : decode cX5_measureStay 88 = .ok (.iastore, 1) := by decide +kernel
theorem dX5_measureStay_89 : decode cX5_measureStay 89 = .ok (.aload_n 0, 1) := by decide +kernel
theorem dX5_measureStay_90 : decode cX5_measureStay 90 = .ok (.getfield 18, 3) := by decide +kernel
theorem dX5_measureStay_93 : decode cX5_measureStay 93 = .ok (.iload_n 3, 1) := by decide +kernel
theorem dX5_measureStay_94 : decode cX5_measureStay 94 = .ok (.iload 5, 2) := by decide +kernel
theorem dX5_measureStay_96 : decode cX5_measureStay 96 = .ok (.iconst (-1), 1) := by decide +kernel
theorem dX5_measureStay_97 : decode cX5_measureStay 97 = .ok (.if_icmp .ne 7, 3) := by decide +kernel
theorem dX5_measureStay_100 : decode cX5_measureStay 100 = .ok (.iconst (-1), 1) := by decide +kernel
theorem dX5_measureStay_101 : decode cX5_measureStay 101 = .ok (.goto 10, 3) := by decide +kernel
theorem dX5_measureStay_104 : decode cX5_measureStay 104 = .ok (.iload 4, 2) := by decide +kernel
theorem dX5_measureStay_106 : decode cX5_measureStay 106 = .ok (.iload 5, 2) := by decide +kernel
theorem dX5_measureStay_108 : decode cX5_measureStay 108 = .ok (.invokestatic 72, 3) := by decide +kernel
theorem dX5_measureStay_111 : decode cX5_measureStay 111 = .ok (.iastore, 1) := by decide +kernel
theorem dX5_measureStay_112 : decode cX5_measureStay 112 = .ok (.return_, 1) := by decide +kernel
theorem dX5_findFoes_0 : decode cX5_findFoes 0 = .ok (.aload_n 0, 1) := by decide +kernel
theorem dX5_findFoes_1 : decode cX5_findFoes 1 = .ok (.getfield 21, 3) := by decide +kernel
theorem dX5_findFoes_4 : decode cX5_findFoes 4 = .ok (.iload_n 2, 1) := by decide +kernel
theorem dX5_findFoes_5 : decode cX5_findFoes 5 = .ok (.iconst 0, 1) := by decide +kernel
theorem dX5_findFoes_6 : decode cX5_findFoes 6 = .ok (.iastore, 1) := by decide +kernel
theorem dX5_findFoes_7 : decode cX5_findFoes 7 = .ok (.iconst 0, 1) := by decide +kernel
theorem dX5_findFoes_8 : decode cX5_findFoes 8 = .ok (.istore_n 3, 1) := by decide +kernel
theorem dX5_findFoes_9 : decode cX5_findFoes 9 = .ok (.iload_n 3, 1) := by decide +kernel
theorem dX5_findFoes_10 : decode cX5_findFoes 10 = .ok (.iload_n 2, 1) := by decide +kernel
theorem dX5_findFoes_11 : decode cX5_findFoes 11 = .ok (.if_icmp .ge 72, 3) := by decide +kernel
theorem dX5_findFoes_14 : decode cX5_findFoes 14 = .ok (.aload_n 0, 1) := by decide +kernel
theorem dX5_findFoes_15 : decode cX5_findFoes 15 = .ok (.getfield 15, 3) := by decide +kernel
theorem dX5_findFoes_18 : decode cX5_findFoes 18 = .ok (.iload_n 3, 1) := by decide +kernel
theorem dX5_findFoes_19 : decode cX5_findFoes 19 = .ok (.iaload, 1) := by decide +kernel
theorem dX5_findFoes_20 : decode cX5_findFoes 20 = .ok (.aload_n 0, 1) := by decide +kernel
theorem dX5_findFoes_21 : decode cX5_findFoes 21 = .ok (.getfield 18, 3) := by decide +kernel
theorem dX5_findFoes_24 : decode cX5_findFoes 24 = .ok (.iload_n 2, 1) := by decide +kernel
theorem dX5_findFoes_25 : decode cX5_findFoes 25 = .ok (.iaload, 1) := by decide +kernel
theorem dX5_findFoes_26 : decode cX5_findFoes 26 = .ok (.if_icmp .gt 22, 3) := by decide +kernel
theorem dX5_findFoes_29 : decode cX5_findFoes 29 = .ok (.aload_n 0, 1) := by decide +kernel
theorem dX5_findFoes_30 : decode cX5_findFoes 30 = .ok (.getfield 15, 3) := by decide +kernel
theorem dX5_findFoes_33 : decode cX5_findFoes 33 = .ok (.iload_n 2, 1) := by decide +kernel
theorem dX5_findFoes_34 : decode cX5_findFoes 34 = .ok (.iaload, 1) := by decide +kernel
theorem dX5_findFoes_35 : decode cX5_findFoes 35 = .ok (.aload_n 0, 1) := by decide +kernel
theorem dX5_findFoes_36 : decode cX5_findFoes 36 = .ok (.getfield 18, 3) := by decide +kernel
theorem dX5_findFoes_39 : decode cX5_findFoes 39 = .ok (.iload_n 3, 1) := by decide +kernel
theorem dX5_findFoes_40 : decode cX5_findFoes 40 = .ok (.iaload, 1) := by decide +kernel
theorem dX5_findFoes_41 : decode cX5_findFoes 41 = .ok (.if_icmp .gt 7, 3) := by decide +kernel
theorem dX5_findFoes_44 : decode cX5_findFoes 44 = .ok (.iconst 1, 1) := by decide +kernel
theorem dX5_findFoes_45 : decode cX5_findFoes 45 = .ok (.goto 4, 3) := by decide +kernel
theorem dX5_findFoes_48 : decode cX5_findFoes 48 = .ok (.iconst 0, 1) := by decide +kernel
theorem dX5_findFoes_49 : decode cX5_findFoes 49 = .ok (.istore 4, 2) := by decide +kernel
theorem dX5_findFoes_51 : decode cX5_findFoes 51 = .ok (.iload 4, 2) := by decide +kernel
theorem dX5_findFoes_53 : decode cX5_findFoes 53 = .ok (.ifCond .eq 24, 3) := by decide +kernel
theorem dX5_findFoes_56 : decode cX5_findFoes 56 = .ok (.aload_n 1, 1) := by decide +kernel
theorem dX5_findFoes_57 : decode cX5_findFoes 57 = .ok (.iload_n 3, 1) := by decide +kernel
theorem dX5_findFoes_58 : decode cX5_findFoes 58 = .ok (.iload_n 2, 1) := by decide +kernel
theorem dX5_findFoes_59 : decode cX5_findFoes 59 = .ok (.invokevirtual 75, 3) := by decide +kernel
theorem dX5_findFoes_62 : decode cX5_findFoes 62 = .ok (.ifCond .eq 15, 3) := by decide +kernel
theorem dX5_findFoes_65 : decode cX5_findFoes 65 = .ok (.aload_n 0, 1) := by decide +kernel
theorem dX5_findFoes_66 : decode cX5_findFoes 66 = .ok (.getfield 21, 3) := by decide +kernel
theorem dX5_findFoes_69 : decode cX5_findFoes 69 = .ok (.iload_n 2, 1) := by decide +kernel
theorem dX5_findFoes_70 : decode cX5_findFoes 70 = .ok (.dup2, 1) := by decide +kernel
theorem dX5_findFoes_71 : decode cX5_findFoes 71 = .ok (.iaload, 1) := by decide +kernel
theorem dX5_findFoes_72 : decode cX5_findFoes 72 = .ok (.iconst 1, 1) := by decide +kernel
theorem dX5_findFoes_73 : decode cX5_findFoes 73 = .ok (.iload_n 3, 1) := by decide +kernel
theorem dX5_findFoes_74 : decode cX5_findFoes 74 = .ok (.ishl, 1) := by decide +kernel
theorem dX5_findFoes_75 : decode cX5_findFoes 75 = .ok (.ior, 1) := by decide +kernel
theorem dX5_findFoes_76 : decode cX5_findFoes 76 = .ok (.iastore, 1) := by decide +kernel
theorem dX5_findFoes_77 : decode cX5_findFoes 77 = .ok (.iinc 3 1, 3) := by decide +kernel
theorem dX5_findFoes_80 : decode cX5_findFoes 80 = .ok (.goto (-71), 3) := by decide +kernel
theorem dX5_findFoes_83 : decode cX5_findFoes 83 = .ok (.return_, 1) := by decide +kernel
theorem dX5_settle_0 : decode cX5_settle 0 = .ok (.iload_n 2, 1) := by decide +kernel
theorem dX5_settle_1 : decode cX5_settle 1 = .ok (.aload_n 1, 1) := by decide +kernel
theorem dX5_settle_2 : decode cX5_settle 2 = .ok (.getfield 33, 3) := by decide +kernel
theorem dX5_settle_5 : decode cX5_settle 5 = .ok (.if_icmp .lt 5, 3) := by decide +kernel
theorem dX5_settle_8 : decode cX5_settle 8 = .ok (.iconst 1, 1) := by decide +kernel
theorem dX5_settle_9 : decode cX5_settle 9 = .ok (.ireturn, 1) := by decide +kernel
theorem dX5_settle_10 : decode cX5_settle 10 = .ok (.aload_n 0, 1) := by decide +kernel
theorem dX5_settle_11 : decode cX5_settle 11 = .ok (.getfield 18, 3) := by decide +kernel
theorem dX5_settle_14 : decode cX5_settle 14 = .ok (.iload_n 2, 1) := by decide +kernel
theorem dX5_settle_15 : decode cX5_settle 15 = .ok (.iaload, 1) := by decide +kernel
theorem dX5_settle_16 : decode cX5_settle 16 = .ok (.iconst (-1), 1) := by decide +kernel
theorem dX5_settle_17 : decode cX5_settle 17 = .ok (.if_icmp .ne 12, 3) := by decide +kernel
theorem dX5_settle_20 : decode cX5_settle 20 = .ok (.aload_n 0, 1) := by decide +kernel
theorem dX5_settle_21 : decode cX5_settle 21 = .ok (.aload_n 1, 1) := by decide +kernel
theorem dX5_settle_22 : decode cX5_settle 22 = .ok (.iload_n 2, 1) := by decide +kernel
theorem dX5_settle_23 : decode cX5_settle 23 = .ok (.iconst 1, 1) := by decide +kernel
theorem dX5_settle_24 : decode cX5_settle 24 = .ok (.iadd, 1) := by decide +kernel
theorem dX5_settle_25 : decode cX5_settle 25 = .ok (.invokestatic 47, 3) := by decide +kernel
theorem dX5_settle_28 : decode cX5_settle 28 = .ok (.ireturn, 1) := by decide +kernel
theorem dX5_settle_29 : decode cX5_settle 29 = .ok (.aload_n 1, 1) := by decide +kernel
theorem dX5_settle_30 : decode cX5_settle 30 = .ok (.getfield 78, 3) := by decide +kernel
theorem dX5_settle_33 : decode cX5_settle 33 = .ok (.iload_n 2, 1) := by decide +kernel
theorem dX5_settle_34 : decode cX5_settle 34 = .ok (.iaload, 1) := by decide +kernel
theorem dX5_settle_35 : decode cX5_settle 35 = .ok (.iconst 4, 1) := by decide +kernel
theorem dX5_settle_36 : decode cX5_settle 36 = .ok (.if_icmp .ne 7, 3) := by decide +kernel
theorem dX5_settle_39 : decode cX5_settle 39 = .ok (.iconst 2, 1) := by decide +kernel
theorem dX5_settle_40 : decode cX5_settle 40 = .ok (.goto 4, 3) := by decide +kernel
theorem dX5_settle_43 : decode cX5_settle 43 = .ok (.iconst 0, 1) := by decide +kernel
theorem dX5_settle_44 : decode cX5_settle 44 = .ok (.istore_n 3, 1) := by decide +kernel
theorem dX5_settle_45 : decode cX5_settle 45 = .ok (.iload_n 3, 1) := by decide +kernel
theorem dX5_settle_46 : decode cX5_settle 46 = .ok (.istore 4, 2) := by decide +kernel
theorem dX5_settle_48 : decode cX5_settle 48 = .ok (.iload 4, 2) := by decide +kernel
theorem dX5_settle_50 : decode cX5_settle 50 = .ok (.iconst 3, 1) := by decide +kernel
theorem dX5_settle_51 : decode cX5_settle 51 = .ok (.if_icmp .ge 46, 3) := by decide +kernel
theorem dX5_settle_54 : decode cX5_settle 54 = .ok (.aload_n 0, 1) := by decide +kernel
theorem dX5_settle_55 : decode cX5_settle 55 = .ok (.iload 4, 2) := by decide +kernel
theorem dX5_settle_57 : decode cX5_settle 57 = .ok (.iload_n 2, 1) := by decide +kernel
theorem dX5_settle_58 : decode cX5_settle 58 = .ok (.invokevirtual 81, 3) := by decide +kernel
theorem dX5_settle_61 : decode cX5_settle 61 = .ok (.ifCond .eq 30, 3) := by decide +kernel
theorem dX5_settle_64 : decode cX5_settle 64 = .ok (.aload_n 0, 1) := by decide +kernel
theorem dX5_settle_65 : decode cX5_settle 65 = .ok (.iload 4, 2) := by decide +kernel
theorem dX5_settle_67 : decode cX5_settle 67 = .ok (.iload_n 2, 1) := by decide +kernel
theorem dX5_settle_68 : decode cX5_settle 68 = .ok (.invokevirtual 84, 3) := by decide +kernel
theorem dX5_settle_71 : decode cX5_settle 71 = .ok (.aload_n 0, 1) := by decide +kernel
theorem dX5_settle_72 : decode cX5_settle 72 = .ok (.aload_n 1, 1) := by decide +kernel
theorem dX5_settle_73 : decode cX5_settle 73 = .ok (.iload_n 2, 1) := by decide +kernel
theorem dX5_settle_74 : decode cX5_settle 74 = .ok (.iconst 1, 1) := by decide +kernel
theorem dX5_settle_75 : decode cX5_settle 75 = .ok (.iadd, 1) := by decide +kernel
theorem dX5_settle_76 : decode cX5_settle 76 = .ok (.invokestatic 47, 3) := by decide +kernel
theorem dX5_settle_79 : decode cX5_settle 79 = .ok (.ifCond .eq 5, 3) := by decide +kernel
theorem dX5_settle_82 : decode cX5_settle 82 = .ok (.iconst 1, 1) := by decide +kernel
theorem dX5_settle_83 : decode cX5_settle 83 = .ok (.ireturn, 1) := by decide +kernel
theorem dX5_settle_84 : decode cX5_settle 84 = .ok (.aload_n 0, 1) := by decide +kernel
theorem dX5_settle_85 : decode cX5_settle 85 = .ok (.iload 4, 2) := by decide +kernel
theorem dX5_settle_87 : decode cX5_settle 87 = .ok (.iload_n 2, 1) := by decide +kernel
theorem dX5_settle_88 : decode cX5_settle 88 = .ok (.invokevirtual 88, 3) := by decide +kernel
theorem dX5_settle_91 : decode cX5_settle 91 = .ok (.iinc 4 1, 3) := by decide +kernel
theorem dX5_settle_94 : decode cX5_settle 94 = .ok (.goto (-46), 3) := by decide +kernel
theorem dX5_settle_97 : decode cX5_settle 97 = .ok (.iconst 0, 1) := by decide +kernel
theorem dX5_settle_98 : decode cX5_settle 98 = .ok (.ireturn, 1) := by decide +kernel
theorem dX5_isFree_0 : decode cX5_isFree 0 = .ok (.aload_n 0, 1) := by decide +kernel
theorem dX5_isFree_1 : decode cX5_isFree 1 = .ok (.getfield 24, 3) := by decide +kernel
theorem dX5_isFree_4 : decode cX5_isFree 4 = .ok (.iload_n 1, 1) := by decide +kernel
theorem dX5_isFree_5 : decode cX5_isFree 5 = .ok (.iaload, 1) := by decide +kernel
theorem dX5_isFree_6 : decode cX5_isFree 6 = .ok (.aload_n 0, 1) := by decide +kernel
theorem dX5_isFree_7 : decode cX5_isFree 7 = .ok (.getfield 21, 3) := by decide +kernel
theorem dX5_isFree_10 : decode cX5_isFree 10 = .ok (.iload_n 2, 1) := by decide +kernel
theorem dX5_isFree_11 : decode cX5_isFree 11 = .ok (.iaload, 1) := by decide +kernel
theorem dX5_isFree_12 : decode cX5_isFree 12 = .ok (.iand, 1) := by decide +kernel
theorem dX5_isFree_13 : decode cX5_isFree 13 = .ok (.ifCond .ne 7, 3) := by decide +kernel
theorem dX5_isFree_16 : decode cX5_isFree 16 = .ok (.iconst 1, 1) := by decide +kernel
theorem dX5_isFree_17 : decode cX5_isFree 17 = .ok (.goto 4, 3) := by decide +kernel
theorem dX5_isFree_20 : decode cX5_isFree 20 = .ok (.iconst 0, 1) := by decide +kernel
theorem dX5_isFree_21 : decode cX5_isFree 21 = .ok (.ireturn, 1) := by decide +kernel
theorem dX5_enter_0 : decode cX5_enter 0 = .ok (.aload_n 0, 1) := by decide +kernel
theorem dX5_enter_1 : decode cX5_enter 1 = .ok (.getfield 9, 3) := by decide +kernel
theorem dX5_enter_4 : decode cX5_enter 4 = .ok (.iload_n 2, 1) := by decide +kernel
theorem dX5_enter_5 : decode cX5_enter 5 = .ok (.iload_n 1, 1) := by decide +kernel
theorem dX5_enter_6 : decode cX5_enter 6 = .ok (.iastore, 1) := by decide +kernel
theorem dX5_enter_7 : decode cX5_enter 7 = .ok (.aload_n 0, 1) := by decide +kernel
theorem dX5_enter_8 : decode cX5_enter 8 = .ok (.getfield 24, 3) := by decide +kernel
theorem dX5_enter_11 : decode cX5_enter 11 = .ok (.iload_n 1, 1) := by decide +kernel
theorem dX5_enter_12 : decode cX5_enter 12 = .ok (.dup2, 1) := by decide +kernel
theorem dX5_enter_13 : decode cX5_enter 13 = .ok (.iaload, 1) := by decide +kernel
theorem dX5_enter_14 : decode cX5_enter 14 = .ok (.iconst 1, 1) := by decide +kernel
theorem dX5_enter_15 : decode cX5_enter 15 = .ok (.iload_n 2, 1) := by decide +kernel
theorem dX5_enter_16 : decode cX5_enter 16 = .ok (.ishl, 1) := by decide +kernel
theorem dX5_enter_17 : decode cX5_enter 17 = .ok (.ior, 1) := by decide +kernel
theorem dX5_enter_18 : decode cX5_enter 18 = .ok (.iastore, 1) := by decide +kernel
theorem dX5_enter_19 : decode cX5_enter 19 = .ok (.return_, 1) := by decide +kernel
theorem dX5_leave_0 : decode cX5_leave 0 = .ok (.aload_n 0, 1) := by decide +kernel
theorem dX5_leave_1 : decode cX5_leave 1 = .ok (.getfield 9, 3) := by decide +kernel
theorem dX5_leave_4 : decode cX5_leave 4 = .ok (.iload_n 2, 1) := by decide +kernel
theorem dX5_leave_5 : decode cX5_leave 5 = .ok (.iconst (-1), 1) := by decide +kernel
theorem dX5_leave_6 : decode cX5_leave 6 = .ok (.iastore, 1) := by decide +kernel
theorem dX5_leave_7 : decode cX5_leave 7 = .ok (.aload_n 0, 1) := by decide +kernel
theorem dX5_leave_8 : decode cX5_leave 8 = .ok (.getfield 24, 3) := by decide +kernel
theorem dX5_leave_11 : decode cX5_leave 11 = .ok (.iload_n 1, 1) := by decide +kernel
theorem dX5_leave_12 : decode cX5_leave 12 = .ok (.dup2, 1) := by decide +kernel
theorem dX5_leave_13 : decode cX5_leave 13 = .ok (.iaload, 1) := by decide +kernel
theorem dX5_leave_14 : decode cX5_leave 14 = .ok (.iconst 1, 1) := by decide +kernel
theorem dX5_leave_15 : decode cX5_leave 15 = .ok (.iload_n 2, 1) := by decide +kernel
theorem dX5_leave_16 : decode cX5_leave 16 = .ok (.ishl, 1) := by decide +kernel
theorem dX5_leave_17 : decode cX5_leave 17 = .ok (.iconst (-1), 1) := by decide +kernel
theorem dX5_leave_18 : decode cX5_leave 18 = .ok (.ixor, 1) := by decide +kernel
theorem dX5_leave_19 : decode cX5_leave 19 = .ok (.iand, 1) := by decide +kernel
theorem dX5_leave_20 : decode cX5_leave 20 = .ok (.iastore, 1) := by decide +kernel
theorem dX5_leave_21 : decode cX5_leave 21 = .ok (.return_, 1) := by decide +kernel
theorem dX6_init_0 : decode cX6_init 0 = .ok (.aload_n 0, 1) := by decide +kernel
theorem dX6_init_1 : decode cX6_init 1 = .ok (.invokespecial 3, 3) := by decide +kernel
theorem dX6_init_4 : decode cX6_init 4 = .ok (.aload_n 0, 1) := by decide +kernel
theorem dX6_init_5 : decode cX6_init 5 = .ok (.bipush 24, 2) := by decide +kernel
theorem dX6_init_7 : decode cX6_init 7 = .ok (.newarray .byte, 2) := by decide +kernel
theorem dX6_init_9 : decode cX6_init 9 = .ok (.putfield 9, 3) := by decide +kernel
theorem dX6_init_12 : decode cX6_init 12 = .ok (.aload_n 0, 1) := by decide +kernel
theorem dX6_init_13 : decode cX6_init 13 = .ok (.iconst 2, 1) := by decide +kernel
theorem dX6_init_14 : decode cX6_init 14 = .ok (.newarray .int, 2) := by decide +kernel
theorem dX6_init_16 : decode cX6_init 16 = .ok (.dup, 1) := by decide +kernel
theorem dX6_init_17 : decode cX6_init 17 = .ok (.iconst 0, 1) := by decide +kernel
theorem dX6_init_18 : decode cX6_init 18 = .ok (.iconst (-1), 1) := by decide +kernel
theorem dX6_init_19 : decode cX6_init 19 = .ok (.iastore, 1) := by decide +kernel
theorem dX6_init_20 : decode cX6_init 20 = .ok (.dup, 1) := by decide +kernel
theorem dX6_init_21 : decode cX6_init 21 = .ok (.iconst 1, 1) := by decide +kernel
theorem dX6_init_22 : decode cX6_init 22 = .ok (.iconst (-1), 1) := by decide +kernel
theorem dX6_init_23 : decode cX6_init 23 = .ok (.iastore, 1) := by decide +kernel
theorem dX6_init_24 : decode cX6_init 24 = .ok (.putfield 15, 3) := by decide +kernel
theorem dX6_init_27 : decode cX6_init 27 = .ok (.return_, 1) := by decide +kernel
theorem dX6_isMissing_0 : decode cX6_isMissing 0 = .ok (.aload_n 0, 1) := by decide +kernel
theorem dX6_isMissing_1 : decode cX6_isMissing 1 = .ok (.getfield 15, 3) := by decide +kernel
theorem dX6_isMissing_4 : decode cX6_isMissing 4 = .ok (.iload_n 1, 1) := by decide +kernel
theorem dX6_isMissing_5 : decode cX6_isMissing 5 = .ok (.iaload, 1) := by decide +kernel
theorem dX6_isMissing_6 : decode cX6_isMissing 6 = .ok (.iconst (-1), 1) := by decide +kernel
theorem dX6_isMissing_7 : decode cX6_isMissing 7 = .ok (.if_icmp .ne 7, 3) := by decide +kernel
theorem dX6_isMissing_10 : decode cX6_isMissing 10 = .ok (.iconst 1, 1) := by decide +kernel
theorem dX6_isMissing_11 : decode cX6_isMissing 11 = .ok (.goto 4, 3) := by decide +kernel
theorem dX6_isMissing_14 : decode cX6_isMissing 14 = .ok (.iconst 0, 1) := by decide +kernel
theorem dX6_isMissing_15 : decode cX6_isMissing 15 = .ok (.ireturn, 1) := by decide +kernel
theorem dX6_layOut_0 : decode cX6_layOut 0 = .ok (.iconst 0, 1) := by decide +kernel
theorem dX6_layOut_1 : decode cX6_layOut 1 = .ok (.istore_n 3, 1) := by decide +kernel
theorem dX6_layOut_2 : decode cX6_layOut 2 = .ok (.iload_n 3, 1) := by decide +kernel
theorem dX6_layOut_3 : decode cX6_layOut 3 = .ok (.iload_n 2, 1) := by decide +kernel
theorem dX6_layOut_4 : decode cX6_layOut 4 = .ok (.if_icmp .ge 21, 3) := by decide +kernel
theorem dX6_layOut_7 : decode cX6_layOut 7 = .ok (.aload_n 0, 1) := by decide +kernel
theorem dX6_layOut_8 : decode cX6_layOut 8 = .ok (.getfield 9, 3) := by decide +kernel
theorem dX6_layOut_11 : decode cX6_layOut 11 = .ok (.iload_n 1, 1) := by decide +kernel
theorem dX6_layOut_12 : decode cX6_layOut 12 = .ok (.bipush 12, 2) := by decide +kernel
theorem dX6_layOut_14 : decode cX6_layOut 14 = .ok (.imul, 1) := by decide +kernel
theorem dX6_layOut_15 : decode cX6_layOut 15 = .ok (.iload_n 3, 1) := by decide +kernel
theorem dX6_layOut_16 : decode cX6_layOut 16 = .ok (.iadd, 1) := by decide +kernel
theorem dX6_layOut_17 : decode cX6_layOut 17 = .ok (.iconst 0, 1) := by decide +kernel
theorem dX6_layOut_18 : decode cX6_layOut 18 = .ok (.bastore, 1) := by decide +kernel
theorem dX6_layOut_19 : decode cX6_layOut 19 = .ok (.iinc 3 1, 3) := by decide +kernel
theorem dX6_layOut_22 : decode cX6_layOut 22 = .ok (.goto (-20), 3) := by decide +kernel
theorem dX6_layOut_25 : decode cX6_layOut 25 = .ok (.aload_n 0, 1) := by decide +kernel
theorem dX6_layOut_26 : decode cX6_layOut 26 = .ok (.getfield 15, 3) := by decide +kernel
theorem dX6_layOut_29 : decode cX6_layOut 29 = .ok (.iload_n 1, 1) := by decide +kernel
theorem dX6_layOut_30 : decode cX6_layOut 30 = .ok (.iload_n 2, 1) := by decide +kernel
theorem dX6_layOut_31 : decode cX6_layOut 31 = .ok (.iastore, 1) := by decide +kernel
theorem dX6_layOut_32 : decode cX6_layOut 32 = .ok (.return_, 1) := by decide +kernel
theorem dX6_hasRun_0 : decode cX6_hasRun 0 = .ok (.iload_n 2, 1) := by decide +kernel
theorem dX6_hasRun_1 : decode cX6_hasRun 1 = .ok (.ifCond .lt 33, 3) := by decide +kernel
theorem dX6_hasRun_4 : decode cX6_hasRun 4 = .ok (.iload_n 3, 1) := by decide +kernel
theorem dX6_hasRun_5 : decode cX6_hasRun 5 = .ok (.ifCond .lt 29, 3) := by decide +kernel
theorem dX6_hasRun_8 : decode cX6_hasRun 8 = .ok (.iload_n 2, 1) := by decide +kernel
theorem dX6_hasRun_9 : decode cX6_hasRun 9 = .ok (.aload_n 0, 1) := by decide +kernel
theorem dX6_hasRun_10 : decode cX6_hasRun 10 = .ok (.getfield 15, 3) := by decide +kernel
theorem dX6_hasRun_13 : decode cX6_hasRun 13 = .ok (.iload_n 1, 1) := by decide +kernel
theorem dX6_hasRun_14 : decode cX6_hasRun 14 = .ok (.iaload, 1) := by decide +kernel
theorem dX6_hasRun_15 : decode cX6_hasRun 15 = .ok (.if_icmp .gt 19, 3) := by decide +kernel
theorem dX6_hasRun_18 : decode cX6_hasRun 18 = .ok (.iload_n 3, 1) := by decide +kernel
theorem dX6_hasRun_19 : decode cX6_hasRun 19 = .ok (.aload_n 0, 1) := by decide +kernel
theorem dX6_hasRun_20 : decode cX6_hasRun 20 = .ok (.getfield 15, 3) := by decide +kernel
theorem dX6_hasRun_23 : decode cX6_hasRun 23 = .ok (.iload_n 1, 1) := by decide +kernel
theorem dX6_hasRun_24 : decode cX6_hasRun 24 = .ok (.iaload, 1) := by decide +kernel
theorem dX6_hasRun_25 : decode cX6_hasRun 25 = .ok (.iload_n 2, 1) := by decide +kernel
theorem dX6_hasRun_26 : decode cX6_hasRun 26 = .ok (.isub, 1) := by decide +kernel
theorem dX6_hasRun_27 : decode cX6_hasRun 27 = .ok (.if_icmp .gt 7, 3) := by decide +kernel
theorem dX6_hasRun_30 : decode cX6_hasRun 30 = .ok (.iconst 1, 1) := by decide +kernel
theorem dX6_hasRun_31 : decode cX6_hasRun 31 = .ok (.goto 4, 3) := by decide +kernel
theorem dX6_hasRun_34 : decode cX6_hasRun 34 = .ok (.iconst 0, 1) := by decide +kernel
theorem dX6_hasRun_35 : decode cX6_hasRun 35 = .ok (.ireturn, 1) := by decide +kernel
theorem dX6_valueAt_0 : decode cX6_valueAt 0 = .ok (.aload_n 0, 1) := by decide +kernel
theorem dX6_valueAt_1 : decode cX6_valueAt 1 = .ok (.getfield 9, 3) := by decide +kernel
theorem dX6_valueAt_4 : decode cX6_valueAt 4 = .ok (.iload_n 1, 1) := by decide +kernel
theorem dX6_valueAt_5 : decode cX6_valueAt 5 = .ok (.bipush 12, 2) := by decide +kernel
theorem dX6_valueAt_7 : decode cX6_valueAt 7 = .ok (.imul, 1) := by decide +kernel
theorem dX6_valueAt_8 : decode cX6_valueAt 8 = .ok (.iload_n 2, 1) := by decide +kernel
theorem dX6_valueAt_9 : decode cX6_valueAt 9 = .ok (.iadd, 1) := by decide +kernel
theorem dX6_valueAt_10 : decode cX6_valueAt 10 = .ok (.baload, 1) := by decide +kernel
theorem dX6_valueAt_11 : decode cX6_valueAt 11 = .ok (.ireturn, 1) := by decide +kernel
theorem dX6_put_0 : decode cX6_put 0 = .ok (.aload_n 0, 1) := by decide +kernel
theorem dX6_put_1 : decode cX6_put 1 = .ok (.getfield 9, 3) := by decide +kernel
theorem dX6_put_4 : decode cX6_put 4 = .ok (.iload_n 1, 1) := by decide +kernel
theorem dX6_put_5 : decode cX6_put 5 = .ok (.bipush 12, 2) := by decide +kernel
theorem dX6_put_7 : decode cX6_put 7 = .ok (.imul, 1) := by decide +kernel
theorem dX6_put_8 : decode cX6_put 8 = .ok (.iload_n 2, 1) := by decide +kernel
theorem dX6_put_9 : decode cX6_put 9 = .ok (.iadd, 1) := by decide +kernel
theorem dX6_put_10 : decode cX6_put 10 = .ok (.iload_n 3, 1) := by decide +kernel
theorem dX6_put_11 : decode cX6_put 11 = .ok (.bastore, 1) := by decide +kernel
theorem dX6_put_12 : decode cX6_put 12 = .ok (.return_, 1) := by decide +kernel
