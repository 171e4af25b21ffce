theorem dX0_init_0 : decode cX0_init 0 = .ok (.aload_n 0, 1) := by decide +kernel
theorem dX0_init_1 : decode cX0_init 1 = .ok (.invokespecial 3, 3) := by decide +kernel
theorem dX0_init_4 : decode cX0_init 4 = .ok (.aload_n 0, 1) := by decide +kernel
theorem dX0_init_5 : decode cX0_init 5 = .ok (.bipush 60, 2) := by decide +kernel
theorem dX0_init_7 : decode cX0_init 7 = .ok (.newarray .int, 2) := by decide +kernel
theorem dX0_init_9 : decode cX0_init 9 = .ok (.putfield 9, 3) := by decide +kernel
theorem dX0_init_12 : decode cX0_init 12 = .ok (.aload_n 0, 1) := by decide +kernel
theorem dX0_init_13 : decode cX0_init 13 = .ok (.iconst 0, 1) := by decide +kernel
theorem dX0_init_14 : decode cX0_init 14 = .ok (.putfield 15, 3) := by decide +kernel
theorem dX0_init_17 : decode cX0_init 17 = .ok (.return_, 1) := by decide +kernel
theorem dX0_clear_0 : decode cX0_clear 0 = .ok (.aload_n 0, 1) := by decide +kernel
theorem dX0_clear_1 : decode cX0_clear 1 = .ok (.iconst 0, 1) := by decide +kernel
theorem dX0_clear_2 : decode cX0_clear 2 = .ok (.putfield 15, 3) := by decide +kernel
theorem dX0_clear_5 : decode cX0_clear 5 = .ok (.return_, 1) := by decide +kernel
theorem dX0_add_0 : decode cX0_add 0 = .ok (.aload_n 0, 1) := by decide +kernel
theorem dX0_add_1 : decode cX0_add 1 = .ok (.getfield 15, 3) := by decide +kernel
theorem dX0_add_4 : decode cX0_add 4 = .ok (.bipush 60, 2) := by decide +kernel
theorem dX0_add_6 : decode cX0_add 6 = .ok (.if_icmp .ge 23, 3) := by decide +kernel
theorem dX0_add_9 : decode cX0_add 9 = .ok (.aload_n 0, 1) := by decide +kernel
theorem dX0_add_10 : decode cX0_add 10 = .ok (.getfield 9, 3) := by decide +kernel
theorem dX0_add_13 : decode cX0_add 13 = .ok (.aload_n 0, 1) := by decide +kernel
theorem dX0_add_14 : decode cX0_add 14 = .ok (.getfield 15, 3) := by decide +kernel
theorem dX0_add_17 : decode cX0_add 17 = .ok (.iload_n 1, 1) := by decide +kernel
theorem dX0_add_18 : decode cX0_add 18 = .ok (.iastore, 1) := by decide +kernel
theorem dX0_add_19 : decode cX0_add 19 = .ok (.aload_n 0, 1) := by decide +kernel
theorem dX0_add_20 : decode cX0_add 20 = .ok (.dup, 1) := by decide +kernel
theorem dX0_add_21 : decode cX0_add 21 = .ok (.getfield 15, 3) := by decide +kernel
theorem dX0_add_24 : decode cX0_add 24 = .ok (.iconst 1, 1) := by decide +kernel
theorem dX0_add_25 : decode cX0_add 25 = .ok (.iadd, 1) := by decide +kernel
theorem dX0_add_26 : decode cX0_add 26 = .ok (.putfield 15, 3) := by decide +kernel
theorem dX0_add_29 : decode cX0_add 29 = .ok (.return_, 1) := by decide +kernel
theorem dX0_isLetter_0 : decode cX0_isLetter 0 = .ok (.iload_n 0, 1) := by decide +kernel
theorem dX0_isLetter_1 : decode cX0_isLetter 1 = .ok (.bipush 97, 2) := by decide +kernel
theorem dX0_isLetter_3 : decode cX0_isLetter 3 = .ok (.if_icmp .lt 13, 3) := by decide +kernel
theorem dX0_isLetter_6 : decode cX0_isLetter 6 = .ok (.iload_n 0, 1) := by decide +kernel
theorem dX0_isLetter_7 : decode cX0_isLetter 7 = .ok (.bipush 104, 2) := by decide +kernel
theorem dX0_isLetter_9 : decode cX0_isLetter 9 = .ok (.if_icmp .gt 7, 3) := by decide +kernel
theorem dX0_isLetter_12 : decode cX0_isLetter 12 = .ok (.iconst 1, 1) := by decide +kernel
theorem dX0_isLetter_13 : decode cX0_isLetter 13 = .ok (.goto 4, 3) := by decide +kernel
theorem dX0_isLetter_16 : decode cX0_isLetter 16 = .ok (.iconst 0, 1) := by decide +kernel
theorem dX0_isLetter_17 : decode cX0_isLetter 17 = .ok (.ireturn, 1) := by decide +kernel
theorem dX0_signsAddedAt_0 : decode cX0_signsAddedAt 0 = .ok (.aload_n 0, 1) := by decide +kernel
theorem dX0_signsAddedAt_1 : decode cX0_signsAddedAt 1 = .ok (.getfield 9, 3) := by decide +kernel
theorem dX0_signsAddedAt_4 : decode cX0_signsAddedAt 4 = .ok (.iload_n 1, 1) := by decide +kernel
theorem dX0_signsAddedAt_5 : decode cX0_signsAddedAt 5 = .ok (.iaload, 1) := by decide +kernel
theorem dX0_signsAddedAt_6 : decode cX0_signsAddedAt 6 = .ok (.istore_n 2, 1) := by decide +kernel
theorem dX0_signsAddedAt_7 : decode cX0_signsAddedAt 7 = .ok (.iload_n 2, 1) := by decide +kernel
theorem dX0_signsAddedAt_8 : decode cX0_signsAddedAt 8 = .ok (.invokestatic 19, 3) := by decide +kernel
theorem dX0_signsAddedAt_11 : decode cX0_signsAddedAt 11 = .ok (.ifCond .eq 5, 3) := by decide +kernel
theorem dX0_signsAddedAt_14 : decode cX0_signsAddedAt 14 = .ok (.iconst 1, 1) := by decide +kernel
theorem dX0_signsAddedAt_15 : decode cX0_signsAddedAt 15 = .ok (.ireturn, 1) := by decide +kernel
theorem dX0_signsAddedAt_16 : decode cX0_signsAddedAt 16 = .ok (.iload_n 2, 1) := by decide +kernel
theorem dX0_signsAddedAt_17 : decode cX0_signsAddedAt 17 = .ok (.bipush 50, 2) := by decide +kernel
theorem dX0_signsAddedAt_19 : decode cX0_signsAddedAt 19 = .ok (.if_icmp .lt 13, 3) := by decide +kernel
theorem dX0_signsAddedAt_22 : decode cX0_signsAddedAt 22 = .ok (.iload_n 2, 1) := by decide +kernel
theorem dX0_signsAddedAt_23 : decode cX0_signsAddedAt 23 = .ok (.bipush 57, 2) := by decide +kernel
theorem dX0_signsAddedAt_25 : decode cX0_signsAddedAt 25 = .ok (.if_icmp .gt 7, 3) := by decide +kernel
theorem dX0_signsAddedAt_28 : decode cX0_signsAddedAt 28 = .ok (.iconst 1, 1) := by decide +kernel
theorem dX0_signsAddedAt_29 : decode cX0_signsAddedAt 29 = .ok (.goto 4, 3) := by decide +kernel
theorem dX0_signsAddedAt_32 : decode cX0_signsAddedAt 32 = .ok (.iconst 0, 1) := by decide +kernel
theorem dX0_signsAddedAt_33 : decode cX0_signsAddedAt 33 = .ok (.istore_n 3, 1) := by decide +kernel
theorem dX0_signsAddedAt_34 : decode cX0_signsAddedAt 34 = .ok (.iload_n 3, 1) := by decide +kernel
theorem dX0_signsAddedAt_35 : decode cX0_signsAddedAt 35 = .ok (.ifCond .eq 28, 3) := by decide +kernel
theorem dX0_signsAddedAt_38 : decode cX0_signsAddedAt 38 = .ok (.iload_n 1, 1) := by decide +kernel
theorem dX0_signsAddedAt_39 : decode cX0_signsAddedAt 39 = .ok (.ifCond .le 24, 3) := by decide +kernel
theorem dX0_signsAddedAt_42 : decode cX0_signsAddedAt 42 = .ok (.aload_n 0, 1) := by decide +kernel
theorem dX0_signsAddedAt_43 : decode cX0_signsAddedAt 43 = .ok (.getfield 9, 3) := by decide +kernel
theorem dX0_signsAddedAt_46 : decode cX0_signsAddedAt 46 = .ok (.iload_n 1, 1) := by decide +kernel
theorem dX0_signsAddedAt_47 : decode cX0_signsAddedAt 47 = .ok (.iconst 1, 1) := by decide +kernel
theorem dX0_signsAddedAt_48 : decode cX0_signsAddedAt 48 = .ok (.isub, 1) := by decide +kernel
theorem dX0_signsAddedAt_49 : decode cX0_signsAddedAt 49 = .ok (.iaload, 1) := by decide +kernel
theorem dX0_signsAddedAt_50 : decode cX0_signsAddedAt 50 = .ok (.invokestatic 19, 3) := by decide +kernel
theorem dX0_signsAddedAt_53 : decode cX0_signsAddedAt 53 = .ok (.ifCond .eq 10, 3) := by decide +kernel
theorem dX0_signsAddedAt_56 : decode cX0_signsAddedAt 56 = .ok (.iload_n 2, 1) := by decide +kernel
theorem dX0_signsAddedAt_57 : decode cX0_signsAddedAt 57 = .ok (.bipush 49, 2) := by decide +kernel
theorem dX0_signsAddedAt_59 : decode cX0_signsAddedAt 59 = .ok (.isub, 1) := by decide +kernel
theorem dX0_signsAddedAt_60 : decode cX0_signsAddedAt 60 = .ok (.goto 4, 3) := by decide +kernel
theorem dX0_signsAddedAt_63 : decode cX0_signsAddedAt 63 = .ok (.iconst 0, 1) := by decide +kernel
theorem dX0_signsAddedAt_64 : decode cX0_signsAddedAt 64 = .ok (.ireturn, 1) := by decide +kernel
theorem dX0_errorIndex_0 : decode cX0_errorIndex 0 = .ok (.iconst 0, 1) := by decide +kernel
theorem dX0_errorIndex_1 : decode cX0_errorIndex 1 = .ok (.istore_n 1, 1) := by decide +kernel
theorem dX0_errorIndex_2 : decode cX0_errorIndex 2 = .ok (.iconst 0, 1) := by decide +kernel
theorem dX0_errorIndex_3 : decode cX0_errorIndex 3 = .ok (.istore_n 2, 1) := by decide +kernel
theorem dX0_errorIndex_4 : decode cX0_errorIndex 4 = .ok (.iload_n 2, 1) := by decide +kernel
theorem dX0_errorIndex_5 : decode cX0_errorIndex 5 = .ok (.aload_n 0, 1) := by decide +kernel
theorem dX0_errorIndex_6 : decode cX0_errorIndex 6 = .ok (.getfield 15, 3) := by decide +kernel
theorem dX0_errorIndex_9 : decode cX0_errorIndex 9 = .ok (.if_icmp .ge 31, 3) := by decide +kernel
theorem dX0_errorIndex_12 : decode cX0_errorIndex 12 = .ok (.aload_n 0, 1) := by decide +kernel
theorem dX0_errorIndex_13 : decode cX0_errorIndex 13 = .ok (.iload_n 2, 1) := by decide +kernel
theorem dX0_errorIndex_14 : decode cX0_errorIndex 14 = .ok (.invokevirtual 23, 3) := by decide +kernel
theorem dX0_errorIndex_17 : decode cX0_errorIndex 17 = .ok (.istore_n 3, 1) := by decide +kernel
theorem dX0_errorIndex_18 : decode cX0_errorIndex 18 = .ok (.iload_n 1, 1) := by decide +kernel
theorem dX0_errorIndex_19 : decode cX0_errorIndex 19 = .ok (.iload_n 3, 1) := by decide +kernel
theorem dX0_errorIndex_20 : decode cX0_errorIndex 20 = .ok (.iadd, 1) := by decide +kernel
theorem dX0_errorIndex_21 : decode cX0_errorIndex 21 = .ok (.istore_n 1, 1) := by decide +kernel
theorem dX0_errorIndex_22 : decode cX0_errorIndex 22 = .ok (.iload_n 3, 1) := by decide +kernel
theorem dX0_errorIndex_23 : decode cX0_errorIndex 23 = .ok (.ifCond .eq 9, 3) := by decide +kernel
theorem dX0_errorIndex_26 : decode cX0_errorIndex 26 = .ok (.iload_n 1, 1) := by decide +kernel
theorem dX0_errorIndex_27 : decode cX0_errorIndex 27 = .ok (.bipush 40, 2) := by decide +kernel
theorem dX0_errorIndex_29 : decode cX0_errorIndex 29 = .ok (.if_icmp .le 5, 3) := by decide +kernel
theorem dX0_errorIndex_32 : decode cX0_errorIndex 32 = .ok (.iload_n 2, 1) := by decide +kernel
theorem dX0_errorIndex_33 : decode cX0_errorIndex 33 = .ok (.ireturn, 1) := by decide +kernel
theorem dX0_errorIndex_34 : decode cX0_errorIndex 34 = .ok (.iinc 2 1, 3) := by decide +kernel
theorem dX0_errorIndex_37 : decode cX0_errorIndex 37 = .ok (.goto (-33), 3) := by decide +kernel
theorem dX0_errorIndex_40 : decode cX0_errorIndex 40 = .ok (.aload_n 0, 1) := by decide +kernel
theorem dX0_errorIndex_41 : decode cX0_errorIndex 41 = .ok (.getfield 15, 3) := by decide +kernel
theorem dX0_errorIndex_44 : decode cX0_errorIndex 44 = .ok (.ireturn, 1) := by decide +kernel
theorem dX0_isComplete_0 : decode cX0_isComplete 0 = .ok (.aload_n 0, 1) := by decide +kernel
theorem dX0_isComplete_1 : decode cX0_isComplete 1 = .ok (.getfield 15, 3) := by decide +kernel
theorem dX0_isComplete_4 : decode cX0_isComplete 4 = .ok (.ifCond .le 18, 3) := by decide +kernel
theorem dX0_isComplete_7 : decode cX0_isComplete 7 = .ok (.aload_n 0, 1) := by decide +kernel
theorem dX0_isComplete_8 : decode cX0_isComplete 8 = .ok (.invokevirtual 27, 3) := by decide +kernel
theorem dX0_isComplete_11 : decode cX0_isComplete 11 = .ok (.aload_n 0, 1) := by decide +kernel
theorem dX0_isComplete_12 : decode cX0_isComplete 12 = .ok (.getfield 15, 3) := by decide +kernel
theorem dX0_isComplete_15 : decode cX0_isComplete 15 = .ok (.if_icmp .ne 7, 3) := by decide +kernel
theorem dX0_isComplete_18 : decode cX0_isComplete 18 = .ok (.iconst 1, 1) := by decide +kernel
theorem dX0_isComplete_19 : decode cX0_isComplete 19 = .ok (.goto 4, 3) := by decide +kernel
theorem dX0_isComplete_22 : decode cX0_isComplete 22 = .ok (.iconst 0, 1) := by decide +kernel
theorem dX0_isComplete_23 : decode cX0_isComplete 23 = .ok (.ireturn, 1) := by decide +kernel
theorem dX0_readInto_0 : decode cX0_readInto 0 = .ok (.iconst 0, 1) := by decide +kernel
theorem dX0_readInto_1 : decode cX0_readInto 1 = .ok (.istore_n 2, 1) := by decide +kernel
theorem dX0_readInto_2 : decode cX0_readInto 2 = .ok (.iconst 0, 1) := by decide +kernel
theorem dX0_readInto_3 : decode cX0_readInto 3 = .ok (.istore_n 3, 1) := by decide +kernel
theorem dX0_readInto_4 : decode cX0_readInto 4 = .ok (.iload_n 3, 1) := by decide +kernel
theorem dX0_readInto_5 : decode cX0_readInto 5 = .ok (.aload_n 0, 1) := by decide +kernel
theorem dX0_readInto_6 : decode cX0_readInto 6 = .ok (.getfield 15, 3) := by decide +kernel
theorem dX0_readInto_9 : decode cX0_readInto 9 = .ok (.if_icmp .ge 61, 3) := by decide +kernel
theorem dX0_readInto_12 : decode cX0_readInto 12 = .ok (.aload_n 0, 1) := by decide +kernel
theorem dX0_readInto_13 : decode cX0_readInto 13 = .ok (.getfield 9, 3) := by decide +kernel
theorem dX0_readInto_16 : decode cX0_readInto 16 = .ok (.iload_n 3, 1) := by decide +kernel
theorem dX0_readInto_17 : decode cX0_readInto 17 = .ok (.iaload, 1) := by decide +kernel
theorem dX0_readInto_18 : decode cX0_readInto 18 = .ok (.invokestatic 19, 3) := by decide +kernel
theorem dX0_readInto_21 : decode cX0_readInto 21 = .ok (.ifCond .eq 15, 3) := by decide +kernel
theorem dX0_readInto_24 : decode cX0_readInto 24 = .ok (.aload_n 0, 1) := by decide +kernel
theorem dX0_readInto_25 : decode cX0_readInto 25 = .ok (.getfield 9, 3) := by decide +kernel
theorem dX0_readInto_28 : decode cX0_readInto 28 = .ok (.iload_n 3, 1) := by decide +kernel
theorem dX0_readInto_29 : decode cX0_readInto 29 = .ok (.iaload, 1) := by decide +kernel
theorem dX0_readInto_30 : decode cX0_readInto 30 = .ok (.bipush 97, 2) := by decide +kernel
theorem dX0_readInto_32 : decode cX0_readInto 32 = .ok (.isub, 1) := by decide +kernel
theorem dX0_readInto_33 : decode cX0_readInto 33 = .ok (.iconst 1, 1) := by decide +kernel
theorem dX0_readInto_34 : decode cX0_readInto 34 = .ok (.iadd, 1) := by decide +kernel
theorem dX0_readInto_35 : decode cX0_readInto 35 = .ok (.istore_n 2, 1) := by decide +kernel
theorem dX0_readInto_36 : decode cX0_readInto 36 = .ok (.aload_n 0, 1) := by decide +kernel
theorem dX0_readInto_37 : decode cX0_readInto 37 = .ok (.iload_n 3, 1) := by decide +kernel
theorem dX0_readInto_38 : decode cX0_readInto 38 = .ok (.invokevirtual 23, 3) := by decide +kernel
theorem dX0_readInto_41 : decode cX0_readInto 41 = .ok (.istore 4, 2) := by decide +kernel
theorem dX0_readInto_43 : decode cX0_readInto 43 = .ok (.iconst 0, 1) := by decide +kernel
theorem dX0_readInto_44 : decode cX0_readInto 44 = .ok (.istore 5, 2) := by decide +kernel
theorem dX0_readInto_46 : decode cX0_readInto 46 = .ok (.iload 5, 2) := by decide +kernel
theorem dX0_readInto_48 : decode cX0_readInto 48 = .ok (.iload 4, 2) := by decide +kernel
theorem dX0_readInto_50 : decode cX0_readInto 50 = .ok (.if_icmp .ge 14, 3) := by decide +kernel
theorem dX0_readInto_53 : decode cX0_readInto 53 = .ok (.aload_n 1, 1) := by decide +kernel
theorem dX0_readInto_54 : decode cX0_readInto 54 = .ok (.iload_n 2, 1) := by decide +kernel
theorem dX0_readInto_55 : decode cX0_readInto 55 = .ok (.invokevirtual 31, 3) := by decide +kernel
theorem dX0_readInto_58 : decode cX0_readInto 58 = .ok (.iinc 5 1, 3) := by decide +kernel
theorem dX0_readInto_61 : decode cX0_readInto 61 = .ok (.goto (-15), 3) := by decide +kernel
theorem dX0_readInto_64 : decode cX0_readInto 64 = .ok (.iinc 3 1, 3) := by decide +kernel
theorem dX0_readInto_67 : decode cX0_readInto 67 = .ok (.goto (-63), 3) := by decide +kernel
theorem dX0_readInto_70 : decode cX0_readInto 70 = .ok (.return_, 1) := by decide +kernel
theorem dX1_init_0 : decode cX1_init 0 = .ok (.aload_n 0, 1) := by decide +kernel
theorem dX1_init_1 : decode cX1_init 1 = .ok (.invokespecial 3, 3) := by decide +kernel
theorem dX1_init_4 : decode cX1_init 4 = .ok (.aload_n 0, 1) := by decide +kernel
theorem dX1_init_5 : decode cX1_init 5 = .ok (.bipush 40, 2) := by decide +kernel
theorem dX1_init_7 : decode cX1_init 7 = .ok (.newarray .int, 2) := by decide +kernel
theorem dX1_init_9 : decode cX1_init 9 = .ok (.putfield 9, 3) := by decide +kernel
theorem dX1_init_12 : decode cX1_init 12 = .ok (.aload_n 0, 1) := by decide +kernel
theorem dX1_init_13 : decode cX1_init 13 = .ok (.iconst 0, 1) := by decide +kernel
theorem dX1_init_14 : decode cX1_init 14 = .ok (.putfield 15, 3) := by decide +kernel
theorem dX1_init_17 : decode cX1_init 17 = .ok (.aload_n 0, 1) := by decide +kernel
theorem dX1_init_18 : decode cX1_init 18 = .ok (.bipush 40, 2) := by decide +kernel
theorem dX1_init_20 : decode cX1_init 20 = .ok (.newarray .int, 2) := by decide +kernel
theorem dX1_init_22 : decode cX1_init 22 = .ok (.putfield 19, 3) := by decide +kernel
theorem dX1_init_25 : decode cX1_init 25 = .ok (.aload_n 0, 1) := by decide +kernel
theorem dX1_init_26 : decode cX1_init 26 = .ok (.bipush 40, 2) := by decide +kernel
theorem dX1_init_28 : decode cX1_init 28 = .ok (.newarray .int, 2) := by decide +kernel
theorem dX1_init_30 : decode cX1_init 30 = .ok (.putfield 22, 3) := by decide +kernel
theorem dX1_init_33 : decode cX1_init 33 = .ok (.aload_n 0, 1) := by decide +kernel
theorem dX1_init_34 : decode cX1_init 34 = .ok (.bipush 40, 2) := by decide +kernel
theorem dX1_init_36 : decode cX1_init 36 = .ok (.newarray .int, 2) := by decide +kernel
theorem dX1_init_38 : decode cX1_init 38 = .ok (.putfield 25, 3) := by decide +kernel
theorem dX1_init_41 : decode cX1_init 41 = .ok (.aload_n 0, 1) := by decide +kernel
theorem dX1_init_42 : decode cX1_init 42 = .ok (.bipush 40, 2) := by decide +kernel
theorem dX1_init_44 : decode cX1_init 44 = .ok (.newarray .long, 2) := by decide +kernel
theorem dX1_init_46 : decode cX1_init 46 = .ok (.putfield 28, 3) := by decide +kernel
theorem dX1_init_49 : decode cX1_init 49 = .ok (.aload_n 0, 1) := by decide +kernel
theorem dX1_init_50 : decode cX1_init 50 = .ok (.iconst 0, 1) := by decide +kernel
theorem dX1_init_51 : decode cX1_init 51 = .ok (.putfield 32, 3) := by decide +kernel
theorem dX1_init_54 : decode cX1_init 54 = .ok (.return_, 1) := by decide +kernel
theorem dX1_clear_0 : decode cX1_clear 0 = .ok (.aload_n 0, 1) := by decide +kernel
theorem dX1_clear_1 : decode cX1_clear 1 = .ok (.iconst 0, 1) := by decide +kernel
theorem dX1_clear_2 : decode cX1_clear 2 = .ok (.putfield 15, 3) := by decide +kernel
theorem dX1_clear_5 : decode cX1_clear 5 = .ok (.aload_n 0, 1) := by decide +kernel
theorem dX1_clear_6 : decode cX1_clear 6 = .ok (.iconst 0, 1) := by decide +kernel
theorem dX1_clear_7 : decode cX1_clear 7 = .ok (.putfield 32, 3) := by decide +kernel
theorem dX1_clear_10 : decode cX1_clear 10 = .ok (.return_, 1) := by decide +kernel
theorem dX1_addSign_0 : decode cX1_addSign 0 = .ok (.aload_n 0, 1) := by decide +kernel
theorem dX1_addSign_1 : decode cX1_addSign 1 = .ok (.getfield 15, 3) := by decide +kernel
theorem dX1_addSign_4 : decode cX1_addSign 4 = .ok (.bipush 40, 2) := by decide +kernel
theorem dX1_addSign_6 : decode cX1_addSign 6 = .ok (.if_icmp .ge 23, 3) := by decide +kernel
theorem dX1_addSign_9 : decode cX1_addSign 9 = .ok (.aload_n 0, 1) := by decide +kernel
theorem dX1_addSign_10 : decode cX1_addSign 10 = .ok (.getfield 9, 3) := by decide +kernel
theorem dX1_addSign_13 : decode cX1_addSign 13 = .ok (.aload_n 0, 1) := by decide +kernel
theorem dX1_addSign_14 : decode cX1_addSign 14 = .ok (.getfield 15, 3) := by decide +kernel
theorem dX1_addSign_17 : decode cX1_addSign 17 = .ok (.iload_n 1, 1) := by decide +kernel
theorem dX1_addSign_18 : decode cX1_addSign 18 = .ok (.iastore, 1) := by decide +kernel
theorem dX1_addSign_19 : decode cX1_addSign 19 = .ok (.aload_n 0, 1) := by decide +kernel
theorem dX1_addSign_20 : decode cX1_addSign 20 = .ok (.dup, 1) := by decide +kernel
theorem dX1_addSign_21 : decode cX1_addSign 21 = .ok (.getfield 15, 3) := by decide +kernel
theorem dX1_addSign_24 : decode cX1_addSign 24 = .ok (.iconst 1, 1) := by decide +kernel
theorem dX1_addSign_25 : decode cX1_addSign 25 = .ok (.iadd, 1) := by decide +kernel
theorem dX1_addSign_26 : decode cX1_addSign 26 = .ok (.putfield 15, 3) := by decide +kernel
theorem dX1_addSign_29 : decode cX1_addSign 29 = .ok (.return_, 1) := by decide +kernel
theorem dX1_addSigns_0 : decode cX1_addSigns 0 = .ok (.iload_n 2, 1) := by decide +kernel
theorem dX1_addSigns_1 : decode cX1_addSigns 1 = .ok (.istore 4, 2) := by decide +kernel
theorem dX1_addSigns_3 : decode cX1_addSigns 3 = .ok (.iload 4, 2) := by decide +kernel
theorem dX1_addSigns_5 : decode cX1_addSigns 5 = .ok (.iload_n 3, 1) := by decide +kernel
theorem dX1_addSigns_6 : decode cX1_addSigns 6 = .ok (.if_icmp .ge 29, 3) := by decide +kernel
theorem dX1_addSigns_9 : decode cX1_addSigns 9 = .ok (.iload 4, 2) := by decide +kernel
theorem dX1_addSigns_11 : decode cX1_addSigns 11 = .ok (.aload_n 1, 1) := by decide +kernel
theorem dX1_addSigns_12 : decode cX1_addSigns 12 = .ok (.getfield 15, 3) := by decide +kernel
theorem dX1_addSigns_15 : decode cX1_addSigns 15 = .ok (.if_icmp .ge 20, 3) := by decide +kernel
theorem dX1_addSigns_18 : decode cX1_addSigns 18 = .ok (.aload_n 0, 1) := by decide +kernel
theorem dX1_addSigns_19 : decode cX1_addSigns 19 = .ok (.aload_n 1, 1) := by decide +kernel
theorem dX1_addSigns_20 : decode cX1_addSigns 20 = .ok (.getfield 9, 3) := by decide +kernel
theorem dX1_addSigns_23 : decode cX1_addSigns 23 = .ok (.iload 4, 2) := by decide +kernel
theorem dX1_addSigns_25 : decode cX1_addSigns 25 = .ok (.iaload, 1) := by decide +kernel
theorem dX1_addSigns_26 : decode cX1_addSigns 26 = .ok (.invokevirtual 35, 3) := by decide +kernel
theorem dX1_addSigns_29 : decode cX1_addSigns 29 = .ok (.iinc 4 1, 3) := by decide +kernel
theorem dX1_addSigns_32 : decode cX1_addSigns 32 = .ok (.goto (-29), 3) := by decide +kernel
theorem dX1_addSigns_35 : decode cX1_addSigns 35 = .ok (.return_, 1) := by decide +kernel
theorem dX1_becomeSignsOf_0 : decode cX1_becomeSignsOf 0 = .ok (.aload_n 0, 1) := by decide +kernel
theorem dX1_becomeSignsOf_1 : decode cX1_becomeSignsOf 1 = .ok (.invokevirtual 39, 3) := by decide +kernel
theorem dX1_becomeSignsOf_4 : decode cX1_becomeSignsOf 4 = .ok (.aload_n 0, 1) := by decide +kernel
theorem dX1_becomeSignsOf_5 : decode cX1_becomeSignsOf 5 = .ok (.aload_n 1, 1) := by decide +kernel
theorem dX1_becomeSignsOf_6 : decode cX1_becomeSignsOf 6 = .ok (.iconst 0, 1) := by decide +kernel
theorem dX1_becomeSignsOf_7 : decode cX1_becomeSignsOf 7 = .ok (.aload_n 1, 1) := by decide +kernel
theorem dX1_becomeSignsOf_8 : decode cX1_becomeSignsOf 8 = .ok (.getfield 15, 3) := by decide +kernel
theorem dX1_becomeSignsOf_11 : decode cX1_becomeSignsOf 11 = .ok (.invokevirtual 42, 3) := by decide +kernel
theorem dX1_becomeSignsOf_14 : decode cX1_becomeSignsOf 14 = .ok (.return_, 1) := by decide +kernel
theorem dX1_become_0 : decode cX1_become 0 = .ok (.aload_n 0, 1) := by decide +kernel
theorem dX1_become_1 : decode cX1_become 1 = .ok (.aload_n 1, 1) := by decide +kernel
theorem dX1_become_2 : decode cX1_become 2 = .ok (.getfield 15, 3) := by decide +kernel
theorem dX1_become_5 : decode cX1_become 5 = .ok (.putfield 15, 3) := by decide +kernel
theorem dX1_become_8 : decode cX1_become 8 = .ok (.aload_n 0, 1) := by decide +kernel
theorem dX1_become_9 : decode cX1_become 9 = .ok (.aload_n 1, 1) := by decide +kernel
theorem dX1_become_10 : decode cX1_become 10 = .ok (.getfield 32, 3) := by decide +kernel
theorem dX1_become_13 : decode cX1_become 13 = .ok (.putfield 32, 3) := by decide +kernel
theorem dX1_become_16 : decode cX1_become 16 = .ok (.aload_n 1, 1) := by decide +kernel
theorem dX1_become_17 : decode cX1_become 17 = .ok (.getfield 9, 3) := by decide +kernel
theorem dX1_become_20 : decode cX1_become 20 = .ok (.iconst 0, 1) := by decide +kernel
theorem dX1_become_21 : decode cX1_become 21 = .ok (.aload_n 0, 1) := by decide +kernel
theorem dX1_become_22 : decode cX1_become 22 = .ok (.getfield 9, 3) := by decide +kernel
theorem dX1_become_25 : decode cX1_become 25 = .ok (.iconst 0, 1) := by decide +kernel
theorem dX1_become_26 : decode cX1_become 26 = .ok (.bipush 40, 2) := by decide +kernel
theorem dX1_become_28 : decode cX1_become 28 = .ok (.invokestatic 46, 3) := by decide +kernel
theorem dX1_become_31 : decode cX1_become 31 = .ok (.aload_n 1, 1) := by decide +kernel
theorem dX1_become_32 : decode cX1_become 32 = .ok (.getfield 19, 3) := by decide +kernel
theorem dX1_become_35 : decode cX1_become 35 = .ok (.iconst 0, 1) := by decide +kernel
theorem dX1_become_36 : decode cX1_become 36 = .ok (.aload_n 0, 1) := by decide +kernel
theorem dX1_become_37 : decode cX1_become 37 = .ok (.getfield 19, 3) := by decide +kernel
theorem dX1_become_40 : decode cX1_become 40 = .ok (.iconst 0, 1) := by decide +kernel
theorem dX1_become_41 : decode cX1_become 41 = .ok (.bipush 40, 2) := by decide +kernel
theorem dX1_become_43 : decode cX1_become 43 = .ok (.invokestatic 46, 3) := by decide +kernel
theorem dX1_become_46 : decode cX1_become 46 = .ok (.aload_n 1, 1) := by decide +kernel
theorem dX1_become_47 : decode cX1_become 47 = .ok (.getfield 22, 3) := by decide +kernel
theorem dX1_become_50 : decode cX1_become 50 = .ok (.iconst 0, 1) := by decide +kernel
theorem dX1_become_51 : decode cX1_become 51 = .ok (.aload_n 0, 1) := by decide +kernel
theorem dX1_become_52 : decode cX1_become 52 = .ok (.getfield 22, 3) := by decide +kernel
theorem dX1_become_55 : decode cX1_become 55 = .ok (.iconst 0, 1) := by decide +kernel
theorem dX1_become_56 : decode cX1_become 56 = .ok (.bipush 40, 2) := by decide +kernel
theorem dX1_become_58 : decode cX1_become 58 = .ok (.invokestatic 46, 3) := by decide +kernel
theorem dX1_become_61 : decode cX1_become 61 = .ok (.aload_n 1, 1) := by decide +kernel
theorem dX1_become_62 : decode cX1_become 62 = .ok (.getfield 25, 3) := by decide +kernel
theorem dX1_become_65 : decode cX1_become 65 = .ok (.iconst 0, 1) := by decide +kernel
theorem dX1_become_66 : decode cX1_become 66 = .ok (.aload_n 0, 1) := by decide +kernel
theorem dX1_become_67 : decode cX1_become 67 = .ok (.getfield 25, 3) := by decide +kernel
theorem dX1_become_70 : decode cX1_become 70 = .ok (.iconst 0, 1) := by decide +kernel
theorem dX1_become_71 : decode cX1_become 71 = .ok (.bipush 40, 2) := by decide +kernel
theorem dX1_become_73 : decode cX1_become 73 = .ok (.invokestatic 46, 3) := by decide +kernel
theorem dX1_become_76 : decode cX1_become 76 = .ok (.aload_n 1, 1) := by decide +kernel
theorem dX1_become_77 : decode cX1_become 77 = .ok (.getfield 28, 3) := by decide +kernel
theorem dX1_become_80 : decode cX1_become 80 = .ok (.iconst 0, 1) := by decide +kernel
theorem dX1_become_81 : decode cX1_become 81 = .ok (.aload_n 0, 1) := by decide +kernel
theorem dX1_become_82 : decode cX1_become 82 = .ok (.getfield 28, 3) := by decide +kernel
theorem dX1_become_85 : decode cX1_become 85 = .ok (.iconst 0, 1) := by decide +kernel
theorem dX1_become_86 : decode cX1_become 86 = .ok (.bipush 40, 2) := by decide +kernel
theorem dX1_become_88 : decode cX1_become 88 = .ok (.invokestatic 46, 3) := by decide +kernel
theorem dX1_become_91 : decode cX1_become 91 = .ok (.return_, 1) := by decide +kernel
theorem dX1_cutBy_0 : decode cX1_cutBy 0 = .ok (.aload_n 0, 1) := by decide +kernel
theorem dX1_cutBy_1 : decode cX1_cutBy 1 = .ok (.iconst 0, 1) := by decide +kernel
theorem dX1_cutBy_2 : decode cX1_cutBy 2 = .ok (.putfield 32, 3) := by decide +kernel
theorem dX1_cutBy_5 : decode cX1_cutBy 5 = .ok (.iconst 0, 1) := by decide +kernel
theorem dX1_cutBy_6 : decode cX1_cutBy 6 = .ok (.istore_n 2, 1) := by decide +kernel
theorem dX1_cutBy_7 : decode cX1_cutBy 7 = .ok (.iconst 0, 1) := by decide +kernel
theorem dX1_cutBy_8 : decode cX1_cutBy 8 = .ok (.istore_n 3, 1) := by decide +kernel
theorem dX1_cutBy_9 : decode cX1_cutBy 9 = .ok (.iload_n 3, 1) := by decide +kernel
theorem dX1_cutBy_10 : decode cX1_cutBy 10 = .ok (.aload_n 0, 1) := by decide +kernel
theorem dX1_cutBy_11 : decode cX1_cutBy 11 = .ok (.getfield 15, 3) := by decide +kernel
theorem dX1_cutBy_14 : decode cX1_cutBy 14 = .ok (.if_icmp .ge 107, 3) := by decide +kernel
theorem dX1_cutBy_17 : decode cX1_cutBy 17 = .ok (.iload_n 3, 1) := by decide +kernel
theorem dX1_cutBy_18 : decode cX1_cutBy 18 = .ok (.iload_n 2, 1) := by decide +kernel
theorem dX1_cutBy_19 : decode cX1_cutBy 19 = .ok (.isub, 1) := by decide +kernel
theorem dX1_cutBy_20 : decode cX1_cutBy 20 = .ok (.iconst 1, 1) := by decide +kernel
theorem dX1_cutBy_21 : decode cX1_cutBy 21 = .ok (.iadd, 1) := by decide +kernel
theorem dX1_cutBy_22 : decode cX1_cutBy 22 = .ok (.istore 4, 2) := by decide +kernel
theorem dX1_cutBy_24 : decode cX1_cutBy 24 = .ok (.iload 4, 2) := by decide +kernel
theorem dX1_cutBy_26 : decode cX1_cutBy 26 = .ok (.aload_n 1, 1) := by decide +kernel
theorem dX1_cutBy_27 : decode cX1_cutBy 27 = .ok (.getfield 52, 3) := by decide +kernel
theorem dX1_cutBy_30 : decode cX1_cutBy 30 = .ok (.iconst 3, 1) := by decide +kernel
theorem dX1_cutBy_31 : decode cX1_cutBy 31 = .ok (.iaload, 1) := by decide +kernel
theorem dX1_cutBy_32 : decode cX1_cutBy 32 = .ok (.if_icmp .lt 16, 3) := by decide +kernel
theorem dX1_cutBy_35 : decode cX1_cutBy 35 = .ok (.aload_n 1, 1) := by decide +kernel
theorem dX1_cutBy_36 : decode cX1_cutBy 36 = .ok (.aload_n 0, 1) := by decide +kernel
theorem dX1_cutBy_37 : decode cX1_cutBy 37 = .ok (.iload_n 3, 1) := by decide +kernel
theorem dX1_cutBy_38 : decode cX1_cutBy 38 = .ok (.invokevirtual 57, 3) := by decide +kernel
theorem dX1_cutBy_41 : decode cX1_cutBy 41 = .ok (.ifCond .eq 7, 3) := by decide +kernel
theorem dX1_cutBy_44 : decode cX1_cutBy 44 = .ok (.iconst 1, 1) := by decide +kernel
theorem dX1_cutBy_45 : decode cX1_cutBy 45 = .ok (.goto 4, 3) := by decide +kernel
theorem dX1_cutBy_48 : decode cX1_cutBy 48 = .ok (.iconst 0, 1) := by decide +kernel
theorem dX1_cutBy_49 : decode cX1_cutBy 49 = .ok (.istore 5, 2) := by decide +kernel
theorem dX1_cutBy_51 : decode cX1_cutBy 51 = .ok (.iload 4, 2) := by decide +kernel
theorem dX1_cutBy_53 : decode cX1_cutBy 53 = .ok (.aload_n 1, 1) := by decide +kernel
theorem dX1_cutBy_54 : decode cX1_cutBy 54 = .ok (.getfield 52, 3) := by decide +kernel
theorem dX1_cutBy_57 : decode cX1_cutBy 57 = .ok (.iconst 4, 1) := by decide +kernel
theorem dX1_cutBy_58 : decode cX1_cutBy 58 = .ok (.iaload, 1) := by decide +kernel
theorem dX1_cutBy_59 : decode cX1_cutBy 59 = .ok (.if_icmp .lt 7, 3) := by decide +kernel
theorem dX1_cutBy_62 : decode cX1_cutBy 62 = .ok (.iconst 1, 1) := by decide +kernel
theorem dX1_cutBy_63 : decode cX1_cutBy 63 = .ok (.goto 4, 3) := by decide +kernel
theorem dX1_cutBy_66 : decode cX1_cutBy 66 = .ok (.iconst 0, 1) := by decide +kernel
theorem dX1_cutBy_67 : decode cX1_cutBy 67 = .ok (.istore 6, 2) := by decide +kernel
theorem dX1_cutBy_69 : decode cX1_cutBy 69 = .ok (.iload 5, 2) := by decide +kernel
theorem dX1_cutBy_71 : decode cX1_cutBy 71 = .ok (.ifCond .ne 18, 3) := by decide +kernel
theorem dX1_cutBy_74 : decode cX1_cutBy 74 = .ok (.iload 6, 2) := by decide +kernel
theorem dX1_cutBy_76 : decode cX1_cutBy 76 = .ok (.ifCond .ne 13, 3) := by decide +kernel
theorem dX1_cutBy_79 : decode cX1_cutBy 79 = .ok (.iload_n 3, 1) := by decide +kernel
theorem dX1_cutBy_80 : decode cX1_cutBy 80 = .ok (.aload_n 0, 1) := by decide +kernel
theorem dX1_cutBy_81 : decode cX1_cutBy 81 = .ok (.getfield 15, 3) := by decide +kernel
theorem dX1_cutBy_84 : decode cX1_cutBy 84 = .ok (.iconst 1, 1) := by decide +kernel
theorem dX1_cutBy_85 : decode cX1_cutBy 85 = .ok (.isub, 1) := by decide +kernel
theorem dX1_cutBy_86 : decode cX1_cutBy 86 = .ok (.if_icmp .ne 29, 3) := by decide +kernel
theorem dX1_cutBy_89 : decode cX1_cutBy 89 = .ok (.aload_n 0, 1) := by decide +kernel
theorem dX1_cutBy_90 : decode cX1_cutBy 90 = .ok (.iload_n 2, 1) := by decide +kernel
theorem dX1_cutBy_91 : decode cX1_cutBy 91 = .ok (.iload 4, 2) := by decide +kernel
theorem dX1_cutBy_93 : decode cX1_cutBy 93 = .ok (.iload 6, 2) := by decide +kernel
theorem dX1_cutBy_95 : decode cX1_cutBy 95 = .ok (.ifCond .eq 12, 3) := by decide +kernel
theorem dX1_cutBy_98 : decode cX1_cutBy 98 = .ok (.iload 5, 2) := by decide +kernel
theorem dX1_cutBy_100 : decode cX1_cutBy 100 = .ok (.ifCond .ne 7, 3) := by decide +kernel
theorem dX1_cutBy_103 : decode cX1_cutBy 103 = .ok (.iconst 1, 1) := by decide +kernel
theorem dX1_cutBy_104 : decode cX1_cutBy 104 = .ok (.goto 4, 3) := by decide +kernel
theorem dX1_cutBy_107 : decode cX1_cutBy 107 = .ok (.iconst 0, 1) := by decide +kernel
theorem dX1_cutBy_108 : decode cX1_cutBy 108 = .ok (.invokevirtual 61, 3) := by decide +kernel
theorem dX1_cutBy_111 : decode cX1_cutBy 111 = .ok (.iload_n 3, 1) := by decide +kernel
theorem dX1_cutBy_112 : decode cX1_cutBy 112 = .ok (.iconst 1, 1) := by decide +kernel
theorem dX1_cutBy_113 : decode cX1_cutBy 113 = .ok (.iadd, 1) := by decide +kernel
theorem dX1_cutBy_114 : decode cX1_cutBy 114 = .ok (.istore_n 2, 1) := by decide +kernel
theorem dX1_cutBy_115 : decode cX1_cutBy 115 = .ok (.iinc 3 1, 3) := by decide +kernel
theorem dX1_cutBy_118 : decode cX1_cutBy 118 = .ok (.goto (-109), 3) := by decide +kernel
theorem dX1_cutBy_121 : decode cX1_cutBy 121 = .ok (.return_, 1) := by decide +kernel
theorem dX1_addPiece_0 : decode cX1_addPiece 0 = .ok (.aload_n 0, 1) := by decide +kernel
theorem dX1_addPiece_1 : decode cX1_addPiece 1 = .ok (.getfield 32, 3) := by decide +kernel
theorem dX1_addPiece_4 : decode cX1_addPiece 4 = .ok (.bipush 40, 2) := by decide +kernel
theorem dX1_addPiece_6 : decode cX1_addPiece 6 = .ok (.if_icmp .ge 66, 3) := by decide +kernel
theorem dX1_addPiece_9 : decode cX1_addPiece 9 = .ok (.aload_n 0, 1) := by decide +kernel
theorem dX1_addPiece_10 : decode cX1_addPiece 10 = .ok (.getfield 19, 3) := by decide +kernel
theorem dX1_addPiece_13 : decode cX1_addPiece 13 = .ok (.aload_n 0, 1) := by decide +kernel
theorem dX1_addPiece_14 : decode cX1_addPiece 14 = .ok (.getfield 32, 3) := by decide +kernel
theorem dX1_addPiece_17 : decode cX1_addPiece 17 = .ok (.iload_n 1, 1) := by decide +kernel
theorem dX1_addPiece_18 : decode cX1_addPiece 18 = .ok (.iastore, 1) := by decide +kernel
theorem dX1_addPiece_19 : decode cX1_addPiece 19 = .ok (.aload_n 0, 1) := by decide +kernel
theorem dX1_addPiece_20 : decode cX1_addPiece 20 = .ok (.getfield 22, 3) := by decide +kernel
theorem dX1_addPiece_23 : decode cX1_addPiece 23 = .ok (.aload_n 0, 1) := by decide +kernel
theorem dX1_addPiece_24 : decode cX1_addPiece 24 = .ok (.getfield 32, 3) := by decide +kernel
theorem dX1_addPiece_27 : decode cX1_addPiece 27 = .ok (.iload_n 2, 1) := by decide +kernel
theorem dX1_addPiece_28 : decode cX1_addPiece 28 = .ok (.iastore, 1) := by decide +kernel
theorem dX1_addPiece_29 : decode cX1_addPiece 29 = .ok (.aload_n 0, 1) := by decide +kernel
theorem dX1_addPiece_30 : decode cX1_addPiece 30 = .ok (.getfield 25, 3) := by decide +kernel
theorem dX1_addPiece_33 : decode cX1_addPiece 33 = .ok (.aload_n 0, 1) := by decide +kernel
theorem dX1_addPiece_34 : decode cX1_addPiece 34 = .ok (.getfield 32, 3) := by decide +kernel
theorem dX1_addPiece_37 : decode cX1_addPiece 37 = .ok (.iload_n 3, 1) := by decide +kernel
theorem dX1_addPiece_38 : decode cX1_addPiece 38 = .ok (.ifCond .eq 7, 3) := by decide +kernel
theorem dX1_addPiece_41 : decode cX1_addPiece 41 = .ok (.iconst 1, 1) := by decide +kernel
theorem dX1_addPiece_42 : decode cX1_addPiece 42 = .ok (.goto 4, 3) := by decide +kernel
theorem dX1_addPiece_45 : decode cX1_addPiece 45 = .ok (.iconst 0, 1) := by decide +kernel
theorem dX1_addPiece_46 : decode cX1_addPiece 46 = .ok (.iastore, 1) := by decide +kernel
theorem dX1_addPiece_47 : decode cX1_addPiece 47 = .ok (.aload_n 0, 1) := by decide +kernel
theorem dX1_addPiece_48 : decode cX1_addPiece 48 = .ok (.getfield 28, 3) := by decide +kernel
theorem dX1_addPiece_51 : decode cX1_addPiece 51 = .ok (.aload_n 0, 1) := by decide +kernel
theorem dX1_addPiece_52 : decode cX1_addPiece 52 = .ok (.getfield 32, 3) := by decide +kernel
theorem dX1_addPiece_55 : decode cX1_addPiece 55 = .ok (.aload_n 0, 1) := by decide +kernel
theorem dX1_addPiece_56 : decode cX1_addPiece 56 = .ok (.iload_n 1, 1) := by decide +kernel
theorem dX1_addPiece_57 : decode cX1_addPiece 57 = .ok (.iload_n 2, 1) := by decide +kernel
theorem dX1_addPiece_58 : decode cX1_addPiece 58 = .ok (.invokevirtual 65, 3) := by decide +kernel
theorem dX1_addPiece_61 : decode cX1_addPiece 61 = .ok (.lastore, 1) := by decide +kernel
theorem dX1_addPiece_62 : decode cX1_addPiece 62 = .ok (.aload_n 0, 1) := by decide +kernel
theorem dX1_addPiece_63 : decode cX1_addPiece 63 = .ok (.dup, 1) := by decide +kernel
theorem dX1_addPiece_64 : decode cX1_addPiece 64 = .ok (.getfield 32, 3) := by decide +kernel
theorem dX1_addPiece_67 : decode cX1_addPiece 67 = .ok (.iconst 1, 1) := by decide +kernel
theorem dX1_addPiece_68 : decode cX1_addPiece 68 = .ok (.iadd, 1) := by decide +kernel
theorem dX1_addPiece_69 : decode cX1_addPiece 69 = .ok (.putfield 32, 3) := by decide +kernel
theorem dX1_addPiece_72 : decode cX1_addPiece 72 = .ok (.return_, 1) := by decide +kernel
theorem dX1_packed_0 : decode cX1_packed 0 = .ok (.lconst 1, 1) := by decide +kernel
theorem dX1_packed_1 : decode cX1_packed 1 = .ok (.lstore_n 3, 1) := by decide +kernel
theorem dX1_packed_2 : decode cX1_packed 2 = .ok (.iload_n 1, 1) := by decide +kernel
theorem dX1_packed_3 : decode cX1_packed 3 = .ok (.istore 5, 2) := by decide +kernel
theorem dX1_packed_5 : decode cX1_packed 5 = .ok (.iload 5, 2) := by decide +kernel
theorem dX1_packed_7 : decode cX1_packed 7 = .ok (.iload_n 1, 1) := by decide +kernel
theorem dX1_packed_8 : decode cX1_packed 8 = .ok (.iload_n 2, 1) := by decide +kernel
theorem dX1_packed_9 : decode cX1_packed 9 = .ok (.iadd, 1) := by decide +kernel
theorem dX1_packed_10 : decode cX1_packed 10 = .ok (.if_icmp .ge 24, 3) := by decide +kernel
theorem dX1_packed_13 : decode cX1_packed 13 = .ok (.lload_n 3, 1) := by decide +kernel
theorem dX1_packed_14 : decode cX1_packed 14 = .ok (.iconst 3, 1) := by decide +kernel
theorem dX1_packed_15 : decode cX1_packed 15 = .ok (.lshl, 1) := by decide +kernel
theorem dX1_packed_16 : decode cX1_packed 16 = .ok (.aload_n 0, 1) := by decide +kernel
theorem dX1_packed_17 : decode cX1_packed 17 = .ok (.getfield 9, 3) := by decide +kernel
theorem dX1_packed_20 : decode cX1_packed 20 = .ok (.iload 5, 2) := by decide +kernel
theorem dX1_packed_22 : decode cX1_packed 22 = .ok (.iaload, 1) := by decide +kernel
theorem dX1_packed_23 : decode cX1_packed 23 = .ok (.iconst 1, 1) := by decide +kernel
theorem dX1_packed_24 : decode cX1_packed 24 = .ok (.isub, 1) := by decide +kernel
theorem dX1_packed_25 : decode cX1_packed 25 = .ok (.i2l, 1) := by decide +kernel
theorem dX1_packed_26 : decode cX1_packed 26 = .ok (.lor, 1) := by decide +kernel
theorem dX1_packed_27 : decode cX1_packed 27 = .ok (.lstore_n 3, 1) := by decide +kernel
theorem dX1_packed_28 : decode cX1_packed 28 = .ok (.iinc 5 1, 3) := by decide +kernel
theorem dX1_packed_31 : decode cX1_packed 31 = .ok (.goto (-26), 3) := by decide +kernel
theorem dX1_packed_34 : decode cX1_packed 34 = .ok (.lload_n 3, 1) := by decide +kernel
theorem dX1_packed_35 : decode cX1_packed 35 = .ok (.lreturn, 1) := by decide +kernel
theorem dX1_pieceAt_0 : decode cX1_pieceAt 0 = .ok (.iconst 0, 1) := by decide +kernel
theorem dX1_pieceAt_1 : decode cX1_pieceAt 1 = .ok (.istore_n 2, 1) := by decide +kernel
theorem dX1_pieceAt_2 : decode cX1_pieceAt 2 = .ok (.iload_n 2, 1) := by decide +kernel
theorem dX1_pieceAt_3 : decode cX1_pieceAt 3 = .ok (.aload_n 0, 1) := by decide +kernel
theorem dX1_pieceAt_4 : decode cX1_pieceAt 4 = .ok (.getfield 32, 3) := by decide +kernel
theorem dX1_pieceAt_7 : decode cX1_pieceAt 7 = .ok (.iconst 1, 1) := by decide +kernel
theorem dX1_pieceAt_8 : decode cX1_pieceAt 8 = .ok (.isub, 1) := by decide +kernel
theorem dX1_pieceAt_9 : decode cX1_pieceAt 9 = .ok (.if_icmp .ge 26, 3) := by decide +kernel
theorem dX1_pieceAt_12 : decode cX1_pieceAt 12 = .ok (.iload_n 1, 1) := by decide +kernel
theorem dX1_pieceAt_13 : decode cX1_pieceAt 13 = .ok (.aload_n 0, 1) := by decide +kernel
theorem dX1_pieceAt_14 : decode cX1_pieceAt 14 = .ok (.getfield 19, 3) := by decide +kernel
theorem dX1_pieceAt_17 : decode cX1_pieceAt 17 = .ok (.iload_n 2, 1) := by decide +kernel
theorem dX1_pieceAt_18 : decode cX1_pieceAt 18 = .ok (.iaload, 1) := by decide +kernel
theorem dX1_pieceAt_19 : decode cX1_pieceAt 19 = .ok (.aload_n 0, 1) := by decide +kernel
theorem dX1_pieceAt_20 : decode cX1_pieceAt 20 = .ok (.getfield 22, 3) := by decide +kernel
theorem dX1_pieceAt_23 : decode cX1_pieceAt 23 = .ok (.iload_n 2, 1) := by decide +kernel
theorem dX1_pieceAt_24 : decode cX1_pieceAt 24 = .ok (.iaload, 1) := by decide +kernel
theorem dX1_pieceAt_25 : decode cX1_pieceAt 25 = .ok (.iadd, 1) := by decide +kernel
theorem dX1_pieceAt_26 : decode cX1_pieceAt 26 = .ok (.if_icmp .lt 9, 3) := by decide +kernel
theorem dX1_pieceAt_29 : decode cX1_pieceAt 29 = .ok (.iinc 2 1, 3) := by decide +kernel
theorem dX1_pieceAt_32 : decode cX1_pieceAt 32 = .ok (.goto (-30), 3) := by decide +kernel
theorem dX1_pieceAt_35 : decode cX1_pieceAt 35 = .ok (.iload_n 2, 1) := by decide +kernel
theorem dX1_pieceAt_36 : decode cX1_pieceAt 36 = .ok (.ireturn, 1) := by decide +kernel
theorem dX1_endsBehind_0 : decode cX1_endsBehind 0 = .ok (.aload_n 0, 1) := by decide +kernel
theorem dX1_endsBehind_1 : decode cX1_endsBehind 1 = .ok (.iload_n 1, 1) := by decide +kernel
theorem dX1_endsBehind_2 : decode cX1_endsBehind 2 = .ok (.invokevirtual 69, 3) := by decide +kernel
theorem dX1_endsBehind_5 : decode cX1_endsBehind 5 = .ok (.istore_n 2, 1) := by decide +kernel
theorem dX1_endsBehind_6 : decode cX1_endsBehind 6 = .ok (.iload_n 2, 1) := by decide +kernel
theorem dX1_endsBehind_7 : decode cX1_endsBehind 7 = .ok (.aload_n 0, 1) := by decide +kernel
theorem dX1_endsBehind_8 : decode cX1_endsBehind 8 = .ok (.getfield 32, 3) := by decide +kernel
theorem dX1_endsBehind_11 : decode cX1_endsBehind 11 = .ok (.if_icmp .ge 26, 3) := by decide +kernel
theorem dX1_endsBehind_14 : decode cX1_endsBehind 14 = .ok (.iload_n 1, 1) := by decide +kernel
theorem dX1_endsBehind_15 : decode cX1_endsBehind 15 = .ok (.aload_n 0, 1) := by decide +kernel
theorem dX1_endsBehind_16 : decode cX1_endsBehind 16 = .ok (.getfield 19, 3) := by decide +kernel
theorem dX1_endsBehind_19 : decode cX1_endsBehind 19 = .ok (.iload_n 2, 1) := by decide +kernel
theorem dX1_endsBehind_20 : decode cX1_endsBehind 20 = .ok (.iaload, 1) := by decide +kernel
theorem dX1_endsBehind_21 : decode cX1_endsBehind 21 = .ok (.aload_n 0, 1) := by decide +kernel
theorem dX1_endsBehind_22 : decode cX1_endsBehind 22 = .ok (.getfield 22, 3) := by decide +kernel
theorem dX1_endsBehind_25 : decode cX1_endsBehind 25 = .ok (.iload_n 2, 1) := by decide +kernel
theorem dX1_endsBehind_26 : decode cX1_endsBehind 26 = .ok (.iaload, 1) := by decide +kernel
theorem dX1_endsBehind_27 : decode cX1_endsBehind 27 = .ok (.iadd, 1) := by decide +kernel
theorem dX1_endsBehind_28 : decode cX1_endsBehind 28 = .ok (.iconst 1, 1) := by decide +kernel
theorem dX1_endsBehind_29 : decode cX1_endsBehind 29 = .ok (.isub, 1) := by decide +kernel
theorem dX1_endsBehind_30 : decode cX1_endsBehind 30 = .ok (.if_icmp .ne 7, 3) := by decide +kernel
theorem dX1_endsBehind_33 : decode cX1_endsBehind 33 = .ok (.iconst 1, 1) := by decide +kernel
theorem dX1_endsBehind_34 : decode cX1_endsBehind 34 = .ok (.goto 4, 3) := by decide +kernel
theorem dX1_endsBehind_37 : decode cX1_endsBehind 37 = .ok (.iconst 0, 1) := by decide +kernel
theorem dX1_endsBehind_38 : decode cX1_endsBehind 38 = .ok (.ireturn, 1) := by decide +kernel
theorem dX1_has_0 : decode cX1_has 0 = .ok (.aload_n 0, 1) := by decide +kernel
theorem dX1_has_1 : decode cX1_has 1 = .ok (.aload_n 0, 1) := by decide +kernel
theorem dX1_has_2 : decode cX1_has 2 = .ok (.getfield 32, 3) := by decide +kernel
theorem dX1_has_5 : decode cX1_has 5 = .ok (.lload_n 1, 1) := by decide +kernel
theorem dX1_has_6 : decode cX1_has 6 = .ok (.invokevirtual 73, 3) := by decide +kernel
theorem dX1_has_9 : decode cX1_has 9 = .ok (.ireturn, 1) := by decide +kernel
theorem dX1_hasAheadOf_0 : decode cX1_hasAheadOf 0 = .ok (.iconst 0, 1) := by decide +kernel
theorem dX1_hasAheadOf_1 : decode cX1_hasAheadOf 1 = .ok (.istore 4, 2) := by decide +kernel
theorem dX1_hasAheadOf_3 : decode cX1_hasAheadOf 3 = .ok (.iload 4, 2) := by decide +kernel
theorem dX1_hasAheadOf_5 : decode cX1_hasAheadOf 5 = .ok (.iload_n 1, 1) := by decide +kernel
theorem dX1_hasAheadOf_6 : decode cX1_hasAheadOf 6 = .ok (.if_icmp .ge 32, 3) := by decide +kernel
theorem dX1_hasAheadOf_9 : decode cX1_hasAheadOf 9 = .ok (.iload 4, 2) := by decide +kernel
theorem dX1_hasAheadOf_11 : decode cX1_hasAheadOf 11 = .ok (.aload_n 0, 1) := by decide +kernel
theorem dX1_hasAheadOf_12 : decode cX1_hasAheadOf 12 = .ok (.getfield 32, 3) := by decide +kernel
theorem dX1_hasAheadOf_15 : decode cX1_hasAheadOf 15 = .ok (.if_icmp .ge 23, 3) := by decide +kernel
theorem dX1_hasAheadOf_18 : decode cX1_hasAheadOf 18 = .ok (.aload_n 0, 1) := by decide +kernel
theorem dX1_hasAheadOf_19 : decode cX1_hasAheadOf 19 = .ok (.getfield 28, 3) := by decide +kernel
theorem dX1_hasAheadOf_22 : decode cX1_hasAheadOf 22 = .ok (.iload 4, 2) := by decide +kernel
theorem dX1_hasAheadOf_24 : decode cX1_hasAheadOf 24 = .ok (.laload, 1) := by decide +kernel
theorem dX1_hasAheadOf_25 : decode cX1_hasAheadOf 25 = .ok (.lload_n 2, 1) := by decide +kernel
theorem dX1_hasAheadOf_26 : decode cX1_hasAheadOf 26 = .ok (.lcmp, 1) := by decide +kernel
theorem dX1_hasAheadOf_27 : decode cX1_hasAheadOf 27 = .ok (.ifCond .ne 5, 3) := by decide +kernel
theorem dX1_hasAheadOf_30 : decode cX1_hasAheadOf 30 = .ok (.iconst 1, 1) := by decide +kernel
theorem dX1_hasAheadOf_31 : decode cX1_hasAheadOf 31 = .ok (.ireturn, 1) := by decide +kernel
theorem dX1_hasAheadOf_32 : decode cX1_hasAheadOf 32 = .ok (.iinc 4 1, 3) := by decide +kernel
theorem dX1_hasAheadOf_35 : decode cX1_hasAheadOf 35 = .ok (.goto (-32), 3) := by decide +kernel
theorem dX1_hasAheadOf_38 : decode cX1_hasAheadOf 38 = .ok (.iconst 0, 1) := by decide +kernel
theorem dX1_hasAheadOf_39 : decode cX1_hasAheadOf 39 = .ok (.ireturn, 1) := by decide +kernel
theorem dX1_unlikePieces_0 : decode cX1_unlikePieces 0 = .ok (.aload_n 0, 1) := by decide +kernel
theorem dX1_unlikePieces_1 : decode cX1_unlikePieces 1 = .ok (.aload_n 0, 1) := by decide +kernel
theorem dX1_unlikePieces_2 : decode cX1_unlikePieces 2 = .ok (.invokevirtual 77, 3) := by decide +kernel
theorem dX1_unlikePieces_5 : decode cX1_unlikePieces 5 = .ok (.ireturn, 1) := by decide +kernel
theorem dX1_unlikePiecesAlsoIn_0 : decode cX1_unlikePiecesAlsoIn 0 = .ok (.iconst 0, 1) := by decide +kernel
theorem dX1_unlikePiecesAlsoIn_1 : decode cX1_unlikePiecesAlsoIn 1 = .ok (.istore_n 2, 1) := by decide +kernel
theorem dX1_unlikePiecesAlsoIn_2 : decode cX1_unlikePiecesAlsoIn 2 = .ok (.iconst 0, 1) := by decide +kernel
theorem dX1_unlikePiecesAlsoIn_3 : decode cX1_unlikePiecesAlsoIn 3 = .ok (.istore_n 3, 1) := by decide +kernel
theorem dX1_unlikePiecesAlsoIn_4 : decode cX1_unlikePiecesAlsoIn 4 = .ok (.iload_n 3, 1) := by decide +kernel
theorem dX1_unlikePiecesAlsoIn_5 : decode cX1_unlikePiecesAlsoIn 5 = .ok (.aload_n 0, 1) := by decide +kernel
theorem dX1_unlikePiecesAlsoIn_6 : decode cX1_unlikePiecesAlsoIn 6 = .ok (.getfield 32, 3) := by decide +kernel
theorem dX1_unlikePiecesAlsoIn_9 : decode cX1_unlikePiecesAlsoIn 9 = .ok (.if_icmp .ge 39, 3) := by decide +kernel
theorem dX1_unlikePiecesAlsoIn_12 : decode cX1_unlikePiecesAlsoIn 12 = .ok (.aload_n 0, 1) := by decide +kernel
theorem dX1_unlikePiecesAlsoIn_13 : decode cX1_unlikePiecesAlsoIn 13 = .ok (.iload_n 3, 1) := by decide +kernel
theorem dX1_unlikePiecesAlsoIn_14 : decode cX1_unlikePiecesAlsoIn 14 = .ok (.aload_n 0, 1) := by decide +kernel
theorem dX1_unlikePiecesAlsoIn_15 : decode cX1_unlikePiecesAlsoIn 15 = .ok (.getfield 28, 3) := by decide +kernel
theorem dX1_unlikePiecesAlsoIn_18 : decode cX1_unlikePiecesAlsoIn 18 = .ok (.iload_n 3, 1) := by decide +kernel
theorem dX1_unlikePiecesAlsoIn_19 : decode cX1_unlikePiecesAlsoIn 19 = .ok (.laload, 1) := by decide +kernel
theorem dX1_unlikePiecesAlsoIn_20 : decode cX1_unlikePiecesAlsoIn 20 = .ok (.invokevirtual 73, 3) := by decide +kernel
theorem dX1_unlikePiecesAlsoIn_23 : decode cX1_unlikePiecesAlsoIn 23 = .ok (.ifCond .ne 19, 3) := by decide +kernel
theorem dX1_unlikePiecesAlsoIn_26 : decode cX1_unlikePiecesAlsoIn 26 = .ok (.aload_n 1, 1) := by decide +kernel
theorem dX1_unlikePiecesAlsoIn_27 : decode cX1_unlikePiecesAlsoIn 27 = .ok (.aload_n 0, 1) := by decide +kernel
theorem dX1_unlikePiecesAlsoIn_28 : decode cX1_unlikePiecesAlsoIn 28 = .ok (.getfield 28, 3) := by decide +kernel
theorem dX1_unlikePiecesAlsoIn_31 : decode cX1_unlikePiecesAlsoIn 31 = .ok (.iload_n 3, 1) := by decide +kernel
theorem dX1_unlikePiecesAlsoIn_32 : decode cX1_unlikePiecesAlsoIn 32 = .ok (.laload, 1) := by decide +kernel
theorem dX1_unlikePiecesAlsoIn_33 : decode cX1_unlikePiecesAlsoIn 33 = .ok (.invokevirtual 81, 3) := by decide +kernel
theorem dX1_unlikePiecesAlsoIn_36 : decode cX1_unlikePiecesAlsoIn 36 = .ok (.ifCond .eq 6, 3) := by decide +kernel
theorem dX1_unlikePiecesAlsoIn_39 : decode cX1_unlikePiecesAlsoIn 39 = .ok (.iinc 2 1, 3) := by decide +kernel
theorem dX1_unlikePiecesAlsoIn_42 : decode cX1_unlikePiecesAlsoIn 42 = .ok (.iinc 3 1, 3) := by decide +kernel
theorem dX1_unlikePiecesAlsoIn_45 : decode cX1_unlikePiecesAlsoIn 45 = .ok (.goto (-41), 3) := by decide +kernel
theorem dX1_unlikePiecesAlsoIn_48 : decode cX1_unlikePiecesAlsoIn 48 = .ok (.iload_n 2, 1) := by decide +kernel
theorem dX1_unlikePiecesAlsoIn_49 : decode cX1_unlikePiecesAlsoIn 49 = .ok (.ireturn, 1) := by decide +kernel
theorem dX1_forcedPieces_0 : decode cX1_forcedPieces 0 = .ok (.iconst 0, 1) := by decide +kernel
theorem dX1_forcedPieces_1 : decode cX1_forcedPieces 1 = .ok (.istore_n 1, 1) := by decide +kernel
theorem dX1_forcedPieces_2 : decode cX1_forcedPieces 2 = .ok (.iconst 0, 1) := by decide +kernel
theorem dX1_forcedPieces_3 : decode cX1_forcedPieces 3 = .ok (.istore_n 2, 1) := by decide +kernel
theorem dX1_forcedPieces_4 : decode cX1_forcedPieces 4 = .ok (.iload_n 2, 1) := by decide +kernel
theorem dX1_forcedPieces_5 : decode cX1_forcedPieces 5 = .ok (.aload_n 0, 1) := by decide +kernel
theorem dX1_forcedPieces_6 : decode cX1_forcedPieces 6 = .ok (.getfield 32, 3) := by decide +kernel
theorem dX1_forcedPieces_9 : decode cX1_forcedPieces 9 = .ok (.if_icmp .ge 18, 3) := by decide +kernel
theorem dX1_forcedPieces_12 : decode cX1_forcedPieces 12 = .ok (.iload_n 1, 1) := by decide +kernel
theorem dX1_forcedPieces_13 : decode cX1_forcedPieces 13 = .ok (.aload_n 0, 1) := by decide +kernel
theorem dX1_forcedPieces_14 : decode cX1_forcedPieces 14 = .ok (.getfield 25, 3) := by decide +kernel
theorem dX1_forcedPieces_17 : decode cX1_forcedPieces 17 = .ok (.iload_n 2, 1) := by decide +kernel
theorem dX1_forcedPieces_18 : decode cX1_forcedPieces 18 = .ok (.iaload, 1) := by decide +kernel
theorem dX1_forcedPieces_19 : decode cX1_forcedPieces 19 = .ok (.iadd, 1) := by decide +kernel
theorem dX1_forcedPieces_20 : decode cX1_forcedPieces 20 = .ok (.istore_n 1, 1) := by decide +kernel
theorem dX1_forcedPieces_21 : decode cX1_forcedPieces 21 = .ok (.iinc 2 1, 3) := by decide +kernel
theorem dX1_forcedPieces_24 : decode cX1_forcedPieces 24 = .ok (.goto (-20), 3) := by decide +kernel
theorem dX1_forcedPieces_27 : decode cX1_forcedPieces 27 = .ok (.iload_n 1, 1) := by decide +kernel
theorem dX1_forcedPieces_28 : decode cX1_forcedPieces 28 = .ok (.ireturn, 1) := by decide +kernel
theorem dX1_longestPiece_0 : decode cX1_longestPiece 0 = .ok (.iconst 0, 1) := by decide +kernel
theorem dX1_longestPiece_1 : decode cX1_longestPiece 1 = .ok (.istore_n 1, 1) := by decide +kernel
theorem dX1_longestPiece_2 : decode cX1_longestPiece 2 = .ok (.iconst 0, 1) := by decide +kernel
theorem dX1_longestPiece_3 : decode cX1_longestPiece 3 = .ok (.istore_n 2, 1) := by decide +kernel
theorem dX1_longestPiece_4 : decode cX1_longestPiece 4 = .ok (.iload_n 2, 1) := by decide +kernel
theorem dX1_longestPiece_5 : decode cX1_longestPiece 5 = .ok (.aload_n 0, 1) := by decide +kernel
theorem dX1_longestPiece_6 : decode cX1_longestPiece 6 = .ok (.getfield 32, 3) := by decide +kernel
theorem dX1_longestPiece_9 : decode cX1_longestPiece 9 = .ok (.if_icmp .ge 20, 3) := by decide +kernel
theorem dX1_longestPiece_12 : decode cX1_longestPiece 12 = .ok (.iload_n 1, 1) := by decide +kernel
theorem dX1_longestPiece_13 : decode cX1_longestPiece 13 = .ok (.aload_n 0, 1) := by decide +kernel
theorem dX1_longestPiece_14 : decode cX1_longestPiece 14 = .ok (.getfield 22, 3) := by decide +kernel
theorem dX1_longestPiece_17 : decode cX1_longestPiece 17 = .ok (.iload_n 2, 1) := by decide +kernel
theorem dX1_longestPiece_18 : decode cX1_longestPiece 18 = .ok (.iaload, 1) := by decide +kernel
theorem dX1_longestPiece_19 : decode cX1_longestPiece 19 = .ok (.invokestatic 85, 3) := by decide +kernel
theorem dX1_longestPiece_22 : decode cX1_longestPiece 22 = .ok (.istore_n 1, 1) := by decide +kernel
theorem dX1_longestPiece_23 : decode cX1_longestPiece 23 = .ok (.iinc 2 1, 3) := by decide +kernel
theorem dX1_longestPiece_26 : decode cX1_longestPiece 26 = .ok (.goto (-22), 3) := by decide +kernel
theorem dX1_longestPiece_29 : decode cX1_longestPiece 29 = .ok (.iload_n 1, 1) := by decide +kernel
theorem dX1_longestPiece_30 : decode cX1_longestPiece 30 = .ok (.ireturn, 1) := by decide +kernel
theorem dX2_init_0 : decode cX2_init 0 = .ok (.aload_n 0, 1) := by decide +kernel
theorem dX2_init_1 : decode cX2_init 1 = .ok (.invokespecial 3, 3) := by decide +kernel
theorem dX2_init_4 : decode cX2_init 4 = .ok (.aload_n 0, 1) := by decide +kernel
theorem dX2_init_5 : decode cX2_init 5 = .ok (.bipush 6, 2) := by decide +kernel
theorem dX2_init_7 : decode cX2_init 7 = .ok (.anewarray 9, 3) := by decide +kernel
theorem dX2_init_10 : decode cX2_init 10 = .ok (.putfield 11, 3) := by decide +kernel
theorem dX2_init_13 : decode cX2_init 13 = .ok (.aload_n 0, 1) := by decide +kernel
theorem dX2_init_14 : decode cX2_init 14 = .ok (.iconst 0, 1) := by decide +kernel
theorem dX2_init_15 : decode cX2_init 15 = .ok (.putfield 17, 3) := by decide +kernel
theorem dX2_init_18 : decode cX2_init 18 = .ok (.iconst 0, 1) := by decide +kernel
theorem dX2_init_19 : decode cX2_init 19 = .ok (.istore_n 1, 1) := by decide +kernel
theorem dX2_init_20 : decode cX2_init 20 = .ok (.iload_n 1, 1) := by decide +kernel
theorem dX2_init_21 : decode cX2_init 21 = .ok (.bipush 6, 2) := by decide +kernel
theorem dX2_init_23 : decode cX2_init 23 = .ok (.if_icmp .ge 22, 3) := by decide +kernel
theorem dX2_init_26 : decode cX2_init 26 = .ok (.aload_n 0, 1) := by decide +kernel
theorem dX2_init_27 : decode cX2_init 27 = .ok (.getfield 11, 3) := by decide +kernel
theorem dX2_init_30 : decode cX2_init 30 = .ok (.iload_n 1, 1) := by decide +kernel
theorem dX2_init_31 : decode cX2_init 31 = .ok (.new 9, 3) := by decide +kernel
theorem dX2_init_34 : decode cX2_init 34 = .ok (.dup, 1) := by decide +kernel
theorem dX2_init_35 : decode cX2_init 35 = .ok (.invokespecial 21, 3) := by decide +kernel
theorem dX2_init_38 : decode cX2_init 38 = .ok (.aastore, 1) := by decide +kernel
theorem dX2_init_39 : decode cX2_init 39 = .ok (.iinc 1 1, 3) := by decide +kernel
theorem dX2_init_42 : decode cX2_init 42 = .ok (.goto (-22), 3) := by decide +kernel
theorem dX2_init_45 : decode cX2_init 45 = .ok (.return_, 1) := by decide +kernel
theorem dX2_push_0 : decode cX2_push 0 = .ok (.aload_n 0, 1) := by decide +kernel
theorem dX2_push_1 : decode cX2_push 1 = .ok (.getfield 17, 3) := by decide +kernel
theorem dX2_push_4 : decode cX2_push 4 = .ok (.bipush 6, 2) := by decide +kernel
theorem dX2_push_6 : decode cX2_push 6 = .ok (.if_icmp .lt 7, 3) := by decide +kernel
theorem dX2_push_9 : decode cX2_push 9 = .ok (.aload_n 0, 1) := by decide +kernel
theorem dX2_push_10 : decode cX2_push 10 = .ok (.invokevirtual 22, 3) := by decide +kernel
theorem dX2_push_13 : decode cX2_push 13 = .ok (.aload_n 0, 1) := by decide +kernel
theorem dX2_push_14 : decode cX2_push 14 = .ok (.getfield 11, 3) := by decide +kernel
theorem dX2_push_17 : decode cX2_push 17 = .ok (.aload_n 0, 1) := by decide +kernel
theorem dX2_push_18 : decode cX2_push 18 = .ok (.getfield 17, 3) := by decide +kernel
theorem dX2_push_21 : decode cX2_push 21 = .ok (.aaload, 1) := by decide +kernel
theorem dX2_push_22 : decode cX2_push 22 = .ok (.aload_n 1, 1) := by decide +kernel
theorem dX2_push_23 : decode cX2_push 23 = .ok (.invokevirtual 25, 3) := by decide +kernel
theorem dX2_push_26 : decode cX2_push 26 = .ok (.aload_n 0, 1) := by decide +kernel
theorem dX2_push_27 : decode cX2_push 27 = .ok (.dup, 1) := by decide +kernel
theorem dX2_push_28 : decode cX2_push 28 = .ok (.getfield 17, 3) := by decide +kernel
theorem dX2_push_31 : decode cX2_push 31 = .ok (.iconst 1, 1) := by decide +kernel
theorem dX2_push_32 : decode cX2_push 32 = .ok (.iadd, 1) := by decide +kernel
theorem dX2_push_33 : decode cX2_push 33 = .ok (.putfield 17, 3) := by decide +kernel
theorem dX2_push_36 : decode cX2_push 36 = .ok (.return_, 1) := by decide +kernel
theorem dX2_dropOldest_0 : decode cX2_dropOldest 0 = .ok (.aload_n 0, 1) := by decide +kernel
theorem dX2_dropOldest_1 : decode cX2_dropOldest 1 = .ok (.getfield 11, 3) := by decide +kernel
theorem dX2_dropOldest_4 : decode cX2_dropOldest 4 = .ok (.iconst 0, 1) := by decide +kernel
theorem dX2_dropOldest_5 : decode cX2_dropOldest 5 = .ok (.aaload, 1) := by decide +kernel
theorem dX2_dropOldest_6 : decode cX2_dropOldest 6 = .ok (.astore_n 1, 1) := by decide +kernel
theorem dX2_dropOldest_7 : decode cX2_dropOldest 7 = .ok (.iconst 1, 1) := by decide +kernel
theorem dX2_dropOldest_8 : decode cX2_dropOldest 8 = .ok (.istore_n 2, 1) := by decide +kernel
theorem dX2_dropOldest_9 : decode cX2_dropOldest 9 = .ok (.iload_n 2, 1) := by decide +kernel
theorem dX2_dropOldest_10 : decode cX2_dropOldest 10 = .ok (.bipush 6, 2) := by decide +kernel
theorem dX2_dropOldest_12 : decode cX2_dropOldest 12 = .ok (.if_icmp .ge 23, 3) := by decide +kernel
theorem dX2_dropOldest_15 : decode cX2_dropOldest 15 = .ok (.aload_n 0, 1) := by decide +kernel
theorem dX2_dropOldest_16 : decode cX2_dropOldest 16 = .ok (.getfield 11, 3) := by decide +kernel
theorem dX2_dropOldest_19 : decode cX2_dropOldest 19 = .ok (.iload_n 2, 1) := by decide +kernel
theorem dX2_dropOldest_20 : decode cX2_dropOldest 20 = .ok (.iconst 1, 1) := by decide +kernel
theorem dX2_dropOldest_21 : decode cX2_dropOldest 21 = .ok (.isub, 1) := by decide +kernel
theorem dX2_dropOldest_22 : decode cX2_dropOldest 22 = .ok (.aload_n 0, 1) := by decide +kernel
theorem dX2_dropOldest_23 : decode cX2_dropOldest 23 = .ok (.getfield 11, 3) := by decide +kernel
theorem dX2_dropOldest_26 : decode cX2_dropOldest 26 = .ok (.iload_n 2, 1) := by decide +kernel
theorem dX2_dropOldest_27 : decode cX2_dropOldest 27 = .ok (.aaload, 1) := by decide +kernel
theorem dX2_dropOldest_28 : decode cX2_dropOldest 28 = .ok (.aastore, 1) := by decide +kernel
theorem dX2_dropOldest_29 : decode cX2_dropOldest 29 = .ok (.iinc 2 1, 3) := by decide +kernel
theorem dX2_dropOldest_32 : decode cX2_dropOldest 32 = .ok (.goto (-23), 3) := by decide +kernel
theorem dX2_dropOldest_35 : decode cX2_dropOldest 35 = .ok (.aload_n 0, 1) := by decide +kernel
theorem dX2_dropOldest_36 : decode cX2_dropOldest 36 = .ok (.getfield 11, 3) := by decide +kernel
theorem dX2_dropOldest_39 : decode cX2_dropOldest 39 = .ok (.iconst 5, 1) := by decide +kernel
theorem dX2_dropOldest_40 : decode cX2_dropOldest 40 = .ok (.aload_n 1, 1) := by decide +kernel
theorem dX2_dropOldest_41 : decode cX2_dropOldest 41 = .ok (.aastore, 1) := by decide +kernel
theorem dX2_dropOldest_42 : decode cX2_dropOldest 42 = .ok (.aload_n 0, 1) := by decide +kernel
theorem dX2_dropOldest_43 : decode cX2_dropOldest 43 = .ok (.iconst 5, 1) := by decide +kernel
theorem dX2_dropOldest_44 : decode cX2_dropOldest 44 = .ok (.putfield 17, 3) := by decide +kernel
theorem dX2_dropOldest_47 : decode cX2_dropOldest 47 = .ok (.return_, 1) := by decide +kernel
theorem dX3_init_0 : decode cX3_init 0 = .ok (.aload_n 0, 1) := by decide +kernel
theorem dX3_init_1 : decode cX3_init 1 = .ok (.invokespecial 3, 3) := by decide +kernel
theorem dX3_init_4 : decode cX3_init 4 = .ok (.aload_n 0, 1) := by decide +kernel
theorem dX3_init_5 : decode cX3_init 5 = .ok (.getstatic 9, 3) := by decide +kernel
theorem dX3_init_8 : decode cX3_init 8 = .ok (.invokevirtual 13, 3) := by decide +kernel
theorem dX3_init_11 : decode cX3_init 11 = .ok (.checkcast 14, 3) := by decide +kernel
theorem dX3_init_14 : decode cX3_init 14 = .ok (.putfield 18, 3) := by decide +kernel
theorem dX3_init_17 : decode cX3_init 17 = .ok (.return_, 1) := by decide +kernel
theorem dX3_become_0 : decode cX3_become 0 = .ok (.aload_n 1, 1) := by decide +kernel
theorem dX3_become_1 : decode cX3_become 1 = .ok (.getfield 18, 3) := by decide +kernel
theorem dX3_become_4 : decode cX3_become 4 = .ok (.iconst 0, 1) := by decide +kernel
theorem dX3_become_5 : decode cX3_become 5 = .ok (.aload_n 0, 1) := by decide +kernel
theorem dX3_become_6 : decode cX3_become 6 = .ok (.getfield 18, 3) := by decide +kernel
theorem dX3_become_9 : decode cX3_become 9 = .ok (.iconst 0, 1) := by decide +kernel
theorem dX3_become_10 : decode cX3_become 10 = .ok (.iconst 5, 1) := by decide +kernel
theorem dX3_become_11 : decode cX3_become 11 = .ok (.invokestatic 23, 3) := by decide +kernel
theorem dX3_become_14 : decode cX3_become 14 = .ok (.return_, 1) := by decide +kernel
theorem dX3_sumAt_0 : decode cX3_sumAt 0 = .ok (.iconst 0, 1) := by decide +kernel
theorem dX3_sumAt_1 : decode cX3_sumAt 1 = .ok (.istore_n 3, 1) := by decide +kernel
theorem dX3_sumAt_2 : decode cX3_sumAt 2 = .ok (.iconst 0, 1) := by decide +kernel
theorem dX3_sumAt_3 : decode cX3_sumAt 3 = .ok (.istore 4, 2) := by decide +kernel
theorem dX3_sumAt_5 : decode cX3_sumAt 5 = .ok (.iload 4, 2) := by decide +kernel
theorem dX3_sumAt_7 : decode cX3_sumAt 7 = .ok (.aload_n 0, 1) := by decide +kernel
theorem dX3_sumAt_8 : decode cX3_sumAt 8 = .ok (.getfield 18, 3) := by decide +kernel
theorem dX3_sumAt_11 : decode cX3_sumAt 11 = .ok (.iconst 0, 1) := by decide +kernel
theorem dX3_sumAt_12 : decode cX3_sumAt 12 = .ok (.iaload, 1) := by decide +kernel
theorem dX3_sumAt_13 : decode cX3_sumAt 13 = .ok (.if_icmp .ge 32, 3) := by decide +kernel
theorem dX3_sumAt_16 : decode cX3_sumAt 16 = .ok (.iload 4, 2) := by decide +kernel
theorem dX3_sumAt_18 : decode cX3_sumAt 18 = .ok (.iload_n 2, 1) := by decide +kernel
theorem dX3_sumAt_19 : decode cX3_sumAt 19 = .ok (.if_icmp .gt 26, 3) := by decide +kernel
theorem dX3_sumAt_22 : decode cX3_sumAt 22 = .ok (.iload_n 3, 1) := by decide +kernel
theorem dX3_sumAt_23 : decode cX3_sumAt 23 = .ok (.aload_n 1, 1) := by decide +kernel
theorem dX3_sumAt_24 : decode cX3_sumAt 24 = .ok (.getfield 29, 3) := by decide +kernel
theorem dX3_sumAt_27 : decode cX3_sumAt 27 = .ok (.iload_n 2, 1) := by decide +kernel
theorem dX3_sumAt_28 : decode cX3_sumAt 28 = .ok (.iload 4, 2) := by decide +kernel
theorem dX3_sumAt_30 : decode cX3_sumAt 30 = .ok (.isub, 1) := by decide +kernel
theorem dX3_sumAt_31 : decode cX3_sumAt 31 = .ok (.iaload, 1) := by decide +kernel
theorem dX3_sumAt_32 : decode cX3_sumAt 32 = .ok (.iload 4, 2) := by decide +kernel
theorem dX3_sumAt_34 : decode cX3_sumAt 34 = .ok (.iconst 1, 1) := by decide +kernel
theorem dX3_sumAt_35 : decode cX3_sumAt 35 = .ok (.iadd, 1) := by decide +kernel
theorem dX3_sumAt_36 : decode cX3_sumAt 36 = .ok (.imul, 1) := by decide +kernel
theorem dX3_sumAt_37 : decode cX3_sumAt 37 = .ok (.iadd, 1) := by decide +kernel
theorem dX3_sumAt_38 : decode cX3_sumAt 38 = .ok (.istore_n 3, 1) := by decide +kernel
theorem dX3_sumAt_39 : decode cX3_sumAt 39 = .ok (.iinc 4 1, 3) := by decide +kernel
theorem dX3_sumAt_42 : decode cX3_sumAt 42 = .ok (.goto (-37), 3) := by decide +kernel
theorem dX3_sumAt_45 : decode cX3_sumAt 45 = .ok (.iload_n 3, 1) := by decide +kernel
theorem dX3_sumAt_46 : decode cX3_sumAt 46 = .ok (.ireturn, 1) := by decide +kernel
theorem dX3_endPieceAt_0 : decode cX3_endPieceAt 0 = .ok (.aload_n 0, 1) := by decide +kernel
theorem dX3_endPieceAt_1 : decode cX3_endPieceAt 1 = .ok (.getfield 18, 3) := by decide +kernel
theorem dX3_endPieceAt_4 : decode cX3_endPieceAt 4 = .ok (.iconst 1, 1) := by decide +kernel
theorem dX3_endPieceAt_5 : decode cX3_endPieceAt 5 = .ok (.iaload, 1) := by decide +kernel
theorem dX3_endPieceAt_6 : decode cX3_endPieceAt 6 = .ok (.istore_n 3, 1) := by decide +kernel
theorem dX3_endPieceAt_7 : decode cX3_endPieceAt 7 = .ok (.iload_n 3, 1) := by decide +kernel
theorem dX3_endPieceAt_8 : decode cX3_endPieceAt 8 = .ok (.ifCond .le 24, 3) := by decide +kernel
theorem dX3_endPieceAt_11 : decode cX3_endPieceAt 11 = .ok (.aload_n 0, 1) := by decide +kernel
theorem dX3_endPieceAt_12 : decode cX3_endPieceAt 12 = .ok (.aload_n 1, 1) := by decide +kernel
theorem dX3_endPieceAt_13 : decode cX3_endPieceAt 13 = .ok (.iload_n 2, 1) := by decide +kernel
theorem dX3_endPieceAt_14 : decode cX3_endPieceAt 14 = .ok (.invokevirtual 34, 3) := by decide +kernel
theorem dX3_endPieceAt_17 : decode cX3_endPieceAt 17 = .ok (.iload_n 3, 1) := by decide +kernel
theorem dX3_endPieceAt_18 : decode cX3_endPieceAt 18 = .ok (.irem, 1) := by decide +kernel
theorem dX3_endPieceAt_19 : decode cX3_endPieceAt 19 = .ok (.aload_n 0, 1) := by decide +kernel
theorem dX3_endPieceAt_20 : decode cX3_endPieceAt 20 = .ok (.getfield 18, 3) := by decide +kernel
theorem dX3_endPieceAt_23 : decode cX3_endPieceAt 23 = .ok (.iconst 2, 1) := by decide +kernel
theorem dX3_endPieceAt_24 : decode cX3_endPieceAt 24 = .ok (.iaload, 1) := by decide +kernel
theorem dX3_endPieceAt_25 : decode cX3_endPieceAt 25 = .ok (.if_icmp .ne 7, 3) := by decide +kernel
theorem dX3_endPieceAt_28 : decode cX3_endPieceAt 28 = .ok (.iconst 1, 1) := by decide +kernel
theorem dX3_endPieceAt_29 : decode cX3_endPieceAt 29 = .ok (.goto 4, 3) := by decide +kernel
theorem dX3_endPieceAt_32 : decode cX3_endPieceAt 32 = .ok (.iconst 0, 1) := by decide +kernel
theorem dX3_endPieceAt_33 : decode cX3_endPieceAt 33 = .ok (.ireturn, 1) := by decide +kernel
theorem dX4_init_0 : decode cX4_init 0 = .ok (.aload_n 0, 1) := by decide +kernel
theorem dX4_init_1 : decode cX4_init 1 = .ok (.invokespecial 3, 3) := by decide +kernel
theorem dX4_init_4 : decode cX4_init 4 = .ok (.aload_n 0, 1) := by decide +kernel
theorem dX4_init_5 : decode cX4_init 5 = .ok (.iconst 4, 1) := by decide +kernel
theorem dX4_init_6 : decode cX4_init 6 = .ok (.anewarray 9, 3) := by decide +kernel
theorem dX4_init_9 : decode cX4_init 9 = .ok (.putfield 11, 3) := by decide +kernel
theorem dX4_init_12 : decode cX4_init 12 = .ok (.aload_n 0, 1) := by decide +kernel
theorem dX4_init_13 : decode cX4_init 13 = .ok (.new 17, 3) := by decide +kernel
theorem dX4_init_16 : decode cX4_init 16 = .ok (.dup, 1) := by decide +kernel
theorem dX4_init_17 : decode cX4_init 17 = .ok (.invokespecial 19, 3) := by decide +kernel
theorem dX4_init_20 : decode cX4_init 20 = .ok (.putfield 20, 3) := by decide +kernel
theorem dX4_init_23 : decode cX4_init 23 = .ok (.aload_n 0, 1) := by decide +kernel
theorem dX4_init_24 : decode cX4_init 24 = .ok (.new 24, 3) := by decide +kernel
theorem dX4_init_27 : decode cX4_init 27 = .ok (.dup, 1) := by decide +kernel
theorem dX4_init_28 : decode cX4_init 28 = .ok (.invokespecial 26, 3) := by decide +kernel
theorem dX4_init_31 : decode cX4_init 31 = .ok (.putfield 27, 3) := by decide +kernel
theorem dX4_init_34 : decode cX4_init 34 = .ok (.iconst 0, 1) := by decide +kernel
theorem dX4_init_35 : decode cX4_init 35 = .ok (.istore_n 1, 1) := by decide +kernel
theorem dX4_init_36 : decode cX4_init 36 = .ok (.iload_n 1, 1) := by decide +kernel
theorem dX4_init_37 : decode cX4_init 37 = .ok (.iconst 4, 1) := by decide +kernel
theorem dX4_init_38 : decode cX4_init 38 = .ok (.if_icmp .ge 22, 3) := by decide +kernel
theorem dX4_init_41 : decode cX4_init 41 = .ok (.aload_n 0, 1) := by decide +kernel
theorem dX4_init_42 : decode cX4_init 42 = .ok (.getfield 11, 3) := by decide +kernel
theorem dX4_init_45 : decode cX4_init 45 = .ok (.iload_n 1, 1) := by decide +kernel
theorem dX4_init_46 : decode cX4_init 46 = .ok (.new 9, 3) := by decide +kernel
theorem dX4_init_49 : decode cX4_init 49 = .ok (.dup, 1) := by decide +kernel
theorem dX4_init_50 : decode cX4_init 50 = .ok (.invokespecial 31, 3) := by decide +kernel
theorem dX4_init_53 : decode cX4_init 53 = .ok (.aastore, 1) := by decide +kernel
theorem dX4_init_54 : decode cX4_init 54 = .ok (.iinc 1 1, 3) := by decide +kernel
theorem dX4_init_57 : decode cX4_init 57 = .ok (.goto (-21), 3) := by decide +kernel
theorem dX4_init_60 : decode cX4_init 60 = .ok (.return_, 1) := by decide +kernel
theorem dX4_become_0 : decode cX4_become 0 = .ok (.iconst 0, 1) := by decide +kernel
theorem dX4_become_1 : decode cX4_become 1 = .ok (.istore_n 2, 1) := by decide +kernel
theorem dX4_become_2 : decode cX4_become 2 = .ok (.iload_n 2, 1) := by decide +kernel
theorem dX4_become_3 : decode cX4_become 3 = .ok (.iconst 4, 1) := by decide +kernel
theorem dX4_become_4 : decode cX4_become 4 = .ok (.if_icmp .ge 24, 3) := by decide +kernel
theorem dX4_become_7 : decode cX4_become 7 = .ok (.aload_n 0, 1) := by decide +kernel
theorem dX4_become_8 : decode cX4_become 8 = .ok (.getfield 11, 3) := by decide +kernel
theorem dX4_become_11 : decode cX4_become 11 = .ok (.iload_n 2, 1) := by decide +kernel
theorem dX4_become_12 : decode cX4_become 12 = .ok (.aaload, 1) := by decide +kernel
theorem dX4_become_13 : decode cX4_become 13 = .ok (.aload_n 1, 1) := by decide +kernel
theorem dX4_become_14 : decode cX4_become 14 = .ok (.getfield 11, 3) := by decide +kernel
theorem dX4_become_17 : decode cX4_become 17 = .ok (.iload_n 2, 1) := by decide +kernel
theorem dX4_become_18 : decode cX4_become 18 = .ok (.aaload, 1) := by decide +kernel
theorem dX4_become_19 : decode cX4_become 19 = .ok (.invokevirtual 32, 3) := by decide +kernel
theorem dX4_become_22 : decode cX4_become 22 = .ok (.iinc 2 1, 3) := by decide +kernel
theorem dX4_become_25 : decode cX4_become 25 = .ok (.goto (-23), 3) := by decide +kernel
theorem dX4_become_28 : decode cX4_become 28 = .ok (.aload_n 0, 1) := by decide +kernel
theorem dX4_become_29 : decode cX4_become 29 = .ok (.getfield 20, 3) := by decide +kernel
theorem dX4_become_32 : decode cX4_become 32 = .ok (.aload_n 1, 1) := by decide +kernel
theorem dX4_become_33 : decode cX4_become 33 = .ok (.getfield 20, 3) := by decide +kernel
theorem dX4_become_36 : decode cX4_become 36 = .ok (.invokevirtual 36, 3) := by decide +kernel
theorem dX4_become_39 : decode cX4_become 39 = .ok (.aload_n 0, 1) := by decide +kernel
theorem dX4_become_40 : decode cX4_become 40 = .ok (.getfield 27, 3) := by decide +kernel
theorem dX4_become_43 : decode cX4_become 43 = .ok (.aload_n 1, 1) := by decide +kernel
theorem dX4_become_44 : decode cX4_become 44 = .ok (.getfield 27, 3) := by decide +kernel
theorem dX4_become_47 : decode cX4_become 47 = .ok (.invokevirtual 39, 3) := by decide +kernel
theorem dX4_become_50 : decode cX4_become 50 = .ok (.return_, 1) := by decide +kernel
theorem dX4_becomeChanged_0 : decode cX4_becomeChanged 0 = .ok (.aload_n 0, 1) := by decide +kernel
theorem dX4_becomeChanged_1 : decode cX4_becomeChanged 1 = .ok (.aload_n 1, 1) := by decide +kernel
theorem dX4_becomeChanged_2 : decode cX4_becomeChanged 2 = .ok (.invokevirtual 42, 3) := by decide +kernel
theorem dX4_becomeChanged_5 : decode cX4_becomeChanged 5 = .ok (.aload_n 0, 1) := by decide +kernel
theorem dX4_becomeChanged_6 : decode cX4_becomeChanged 6 = .ok (.getfield 20, 3) := by decide +kernel
theorem dX4_becomeChanged_9 : decode cX4_becomeChanged 9 = .ok (.aload_n 0, 1) := by decide +kernel
theorem dX4_becomeChanged_10 : decode cX4_becomeChanged 10 = .ok (.getfield 11, 3) := by decide +kernel
theorem dX4_becomeChanged_13 : decode cX4_becomeChanged 13 = .ok (.iload_n 2, 1) := by decide +kernel
theorem dX4_becomeChanged_14 : decode cX4_becomeChanged 14 = .ok (.aaload, 1) := by decide +kernel
theorem dX4_becomeChanged_15 : decode cX4_becomeChanged 15 = .ok (.invokevirtual 45, 3) := by decide +kernel
theorem dX4_becomeChanged_18 : decode cX4_becomeChanged 18 = .ok (.aload_n 0, 1) := by decide +kernel
theorem dX4_becomeChanged_19 : decode cX4_becomeChanged 19 = .ok (.getfield 20, 3) := by decide +kernel
theorem dX4_becomeChanged_22 : decode cX4_becomeChanged 22 = .ok (.aload_n 3, 1) := by decide +kernel
theorem dX4_becomeChanged_23 : decode cX4_becomeChanged 23 = .ok (.invokevirtual 48, 3) := by decide +kernel
theorem dX4_becomeChanged_26 : decode cX4_becomeChanged 26 = .ok (.ifCond .ne 12, 3) := by decide +kernel
theorem dX4_becomeChanged_29 : decode cX4_becomeChanged 29 = .ok (.aload_n 0, 1) := by decide +kernel
theorem dX4_becomeChanged_30 : decode cX4_becomeChanged 30 = .ok (.getfield 20, 3) := by decide +kernel
theorem dX4_becomeChanged_33 : decode cX4_becomeChanged 33 = .ok (.aload_n 3, 1) := by decide +kernel
theorem dX4_becomeChanged_34 : decode cX4_becomeChanged 34 = .ok (.invokevirtual 52, 3) := by decide +kernel
theorem dX4_becomeChanged_37 : decode cX4_becomeChanged 37 = .ok (.pop, 1) := by decide +kernel
theorem dX4_becomeChanged_38 : decode cX4_becomeChanged 38 = .ok (.aload_n 0, 1) := by decide +kernel
theorem dX4_becomeChanged_39 : decode cX4_becomeChanged 39 = .ok (.getfield 20, 3) := by decide +kernel
theorem dX4_becomeChanged_42 : decode cX4_becomeChanged 42 = .ok (.aload_n 3, 1) := by decide +kernel
theorem dX4_becomeChanged_43 : decode cX4_becomeChanged 43 = .ok (.invokevirtual 48, 3) := by decide +kernel
theorem dX4_becomeChanged_46 : decode cX4_becomeChanged 46 = .ok (.ifCond .ne 5, 3) := by decide +kernel
theorem dX4_becomeChanged_49 : decode cX4_becomeChanged 49 = .ok (.iconst 0, 1) := by decide +kernel
theorem dX4_becomeChanged_50 : decode cX4_becomeChanged 50 = .ok (.ireturn, 1) := by decide +kernel
theorem dX4_becomeChanged_51 : decode cX4_becomeChanged 51 = .ok (.aload_n 0, 1) := by decide +kernel
theorem dX4_becomeChanged_52 : decode cX4_becomeChanged 52 = .ok (.getfield 20, 3) := by decide +kernel
theorem dX4_becomeChanged_55 : decode cX4_becomeChanged 55 = .ok (.aload_n 3, 1) := by decide +kernel
theorem dX4_becomeChanged_56 : decode cX4_becomeChanged 56 = .ok (.invokevirtual 56, 3) := by decide +kernel
theorem dX4_becomeChanged_59 : decode cX4_becomeChanged 59 = .ok (.aload_n 0, 1) := by decide +kernel
theorem dX4_becomeChanged_60 : decode cX4_becomeChanged 60 = .ok (.getfield 11, 3) := by decide +kernel
theorem dX4_becomeChanged_63 : decode cX4_becomeChanged 63 = .ok (.iload_n 2, 1) := by decide +kernel
theorem dX4_becomeChanged_64 : decode cX4_becomeChanged 64 = .ok (.aaload, 1) := by decide +kernel
theorem dX4_becomeChanged_65 : decode cX4_becomeChanged 65 = .ok (.aload_n 3, 1) := by decide +kernel
theorem dX4_becomeChanged_66 : decode cX4_becomeChanged 66 = .ok (.invokevirtual 32, 3) := by decide +kernel
theorem dX4_becomeChanged_69 : decode cX4_becomeChanged 69 = .ok (.iconst 1, 1) := by decide +kernel
theorem dX4_becomeChanged_70 : decode cX4_becomeChanged 70 = .ok (.ireturn, 1) := by decide +kernel
theorem dX4_textsWith_0 : decode cX4_textsWith 0 = .ok (.iconst 0, 1) := by decide +kernel
theorem dX4_textsWith_1 : decode cX4_textsWith 1 = .ok (.istore_n 3, 1) := by decide +kernel
theorem dX4_textsWith_2 : decode cX4_textsWith 2 = .ok (.iconst 0, 1) := by decide +kernel
theorem dX4_textsWith_3 : decode cX4_textsWith 3 = .ok (.istore 4, 2) := by decide +kernel
theorem dX4_textsWith_5 : decode cX4_textsWith 5 = .ok (.iload 4, 2) := by decide +kernel
theorem dX4_textsWith_7 : decode cX4_textsWith 7 = .ok (.iconst 4, 1) := by decide +kernel
theorem dX4_textsWith_8 : decode cX4_textsWith 8 = .ok (.if_icmp .ge 30, 3) := by decide +kernel
theorem dX4_textsWith_11 : decode cX4_textsWith 11 = .ok (.aload_n 0, 1) := by decide +kernel
theorem dX4_textsWith_12 : decode cX4_textsWith 12 = .ok (.getfield 11, 3) := by decide +kernel
theorem dX4_textsWith_15 : decode cX4_textsWith 15 = .ok (.iload 4, 2) := by decide +kernel
theorem dX4_textsWith_17 : decode cX4_textsWith 17 = .ok (.aaload, 1) := by decide +kernel
theorem dX4_textsWith_18 : decode cX4_textsWith 18 = .ok (.lload_n 1, 1) := by decide +kernel
theorem dX4_textsWith_19 : decode cX4_textsWith 19 = .ok (.invokevirtual 59, 3) := by decide +kernel
theorem dX4_textsWith_22 : decode cX4_textsWith 22 = .ok (.ifCond .eq 10, 3) := by decide +kernel
theorem dX4_textsWith_25 : decode cX4_textsWith 25 = .ok (.iload_n 3, 1) := by decide +kernel
theorem dX4_textsWith_26 : decode cX4_textsWith 26 = .ok (.iconst 1, 1) := by decide +kernel
theorem dX4_textsWith_27 : decode cX4_textsWith 27 = .ok (.iload 4, 2) := by decide +kernel
theorem dX4_textsWith_29 : decode cX4_textsWith 29 = .ok (.ishl, 1) := by decide +kernel
theorem dX4_textsWith_30 : decode cX4_textsWith 30 = .ok (.ior, 1) := by decide +kernel
theorem dX4_textsWith_31 : decode cX4_textsWith 31 = .ok (.istore_n 3, 1) := by decide +kernel
theorem dX4_textsWith_32 : decode cX4_textsWith 32 = .ok (.iinc 4 1, 3) := by decide +kernel
theorem dX4_textsWith_35 : decode cX4_textsWith 35 = .ok (.goto (-30), 3) := by decide +kernel
theorem dX4_textsWith_38 : decode cX4_textsWith 38 = .ok (.iload_n 3, 1) := by decide +kernel
theorem dX4_textsWith_39 : decode cX4_textsWith 39 = .ok (.ireturn, 1) := by decide +kernel
theorem dX4_signsOwnedAlone_0 : decode cX4_signsOwnedAlone 0 = .ok (.aload_n 0, 1) := by decide +kernel
theorem dX4_signsOwnedAlone_1 : decode cX4_signsOwnedAlone 1 = .ok (.getfield 11, 3) := by decide +kernel
theorem dX4_signsOwnedAlone_4 : decode cX4_signsOwnedAlone 4 = .ok (.iload_n 1, 1) := by decide +kernel
theorem dX4_signsOwnedAlone_5 : decode cX4_signsOwnedAlone 5 = .ok (.aaload, 1) := by decide +kernel
theorem dX4_signsOwnedAlone_6 : decode cX4_signsOwnedAlone 6 = .ok (.astore_n 2, 1) := by decide +kernel
theorem dX4_signsOwnedAlone_7 : decode cX4_signsOwnedAlone 7 = .ok (.iconst 0, 1) := by decide +kernel
theorem dX4_signsOwnedAlone_8 : decode cX4_signsOwnedAlone 8 = .ok (.istore_n 3, 1) := by decide +kernel
theorem dX4_signsOwnedAlone_9 : decode cX4_signsOwnedAlone 9 = .ok (.iconst 0, 1) := by decide +kernel
theorem dX4_signsOwnedAlone_10 : decode cX4_signsOwnedAlone 10 = .ok (.istore 4, 2) := by decide +kernel
theorem dX4_signsOwnedAlone_12 : decode cX4_signsOwnedAlone 12 = .ok (.iload 4, 2) := by decide +kernel
theorem dX4_signsOwnedAlone_14 : decode cX4_signsOwnedAlone 14 = .ok (.aload_n 2, 1) := by decide +kernel
theorem dX4_signsOwnedAlone_15 : decode cX4_signsOwnedAlone 15 = .ok (.getfield 63, 3) := by decide +kernel
theorem dX4_signsOwnedAlone_18 : decode cX4_signsOwnedAlone 18 = .ok (.if_icmp .ge 36, 3) := by decide +kernel
theorem dX4_signsOwnedAlone_21 : decode cX4_signsOwnedAlone 21 = .ok (.aload_n 0, 1) := by decide +kernel
theorem dX4_signsOwnedAlone_22 : decode cX4_signsOwnedAlone 22 = .ok (.aload_n 2, 1) := by decide +kernel
theorem dX4_signsOwnedAlone_23 : decode cX4_signsOwnedAlone 23 = .ok (.getfield 67, 3) := by decide +kernel
theorem dX4_signsOwnedAlone_26 : decode cX4_signsOwnedAlone 26 = .ok (.iload 4, 2) := by decide +kernel
theorem dX4_signsOwnedAlone_28 : decode cX4_signsOwnedAlone 28 = .ok (.laload, 1) := by decide +kernel
theorem dX4_signsOwnedAlone_29 : decode cX4_signsOwnedAlone 29 = .ok (.invokevirtual 71, 3) := by decide +kernel
theorem dX4_signsOwnedAlone_32 : decode cX4_signsOwnedAlone 32 = .ok (.iconst 1, 1) := by decide +kernel
theorem dX4_signsOwnedAlone_33 : decode cX4_signsOwnedAlone 33 = .ok (.iload_n 1, 1) := by decide +kernel
theorem dX4_signsOwnedAlone_34 : decode cX4_signsOwnedAlone 34 = .ok (.ishl, 1) := by decide +kernel
theorem dX4_signsOwnedAlone_35 : decode cX4_signsOwnedAlone 35 = .ok (.if_icmp .ne 13, 3) := by decide +kernel
theorem dX4_signsOwnedAlone_38 : decode cX4_signsOwnedAlone 38 = .ok (.iload_n 3, 1) := by decide +kernel
theorem dX4_signsOwnedAlone_39 : decode cX4_signsOwnedAlone 39 = .ok (.aload_n 2, 1) := by decide +kernel
theorem dX4_signsOwnedAlone_40 : decode cX4_signsOwnedAlone 40 = .ok (.getfield 75, 3) := by decide +kernel
theorem dX4_signsOwnedAlone_43 : decode cX4_signsOwnedAlone 43 = .ok (.iload 4, 2) := by decide +kernel
theorem dX4_signsOwnedAlone_45 : decode cX4_signsOwnedAlone 45 = .ok (.iaload, 1) := by decide +kernel
theorem dX4_signsOwnedAlone_46 : decode cX4_signsOwnedAlone 46 = .ok (.iadd, 1) := by decide +kernel
theorem dX4_signsOwnedAlone_47 : decode cX4_signsOwnedAlone 47 = .ok (.istore_n 3, 1) := by decide +kernel
theorem dX4_signsOwnedAlone_48 : decode cX4_signsOwnedAlone 48 = .ok (.iinc 4 1, 3) := by decide +kernel
theorem dX4_signsOwnedAlone_51 : decode cX4_signsOwnedAlone 51 = .ok (.goto (-39), 3) := by decide +kernel
theorem dX4_signsOwnedAlone_54 : decode cX4_signsOwnedAlone 54 = .ok (.iload_n 3, 1) := by decide +kernel
theorem dX4_signsOwnedAlone_55 : decode cX4_signsOwnedAlone 55 = .ok (.ireturn, 1) := by decide +kernel
theorem dX4_signs_0 : decode cX4_signs 0 = .ok (.iconst 0, 1) := by decide +kernel
theorem dX4_signs_1 : decode cX4_signs 1 = .ok (.istore_n 1, 1) := by decide +kernel
theorem dX4_signs_2 : decode cX4_signs 2 = .ok (.iconst 0, 1) := by decide +kernel
theorem dX4_signs_3 : decode cX4_signs 3 = .ok (.istore_n 2, 1) := by decide +kernel
theorem dX4_signs_4 : decode cX4_signs 4 = .ok (.iload_n 2, 1) := by decide +kernel
theorem dX4_signs_5 : decode cX4_signs 5 = .ok (.iconst 4, 1) := by decide +kernel
theorem dX4_signs_6 : decode cX4_signs 6 = .ok (.if_icmp .ge 21, 3) := by decide +kernel
theorem dX4_signs_9 : decode cX4_signs 9 = .ok (.iload_n 1, 1) := by decide +kernel
theorem dX4_signs_10 : decode cX4_signs 10 = .ok (.aload_n 0, 1) := by decide +kernel
theorem dX4_signs_11 : decode cX4_signs 11 = .ok (.getfield 11, 3) := by decide +kernel
theorem dX4_signs_14 : decode cX4_signs 14 = .ok (.iload_n 2, 1) := by decide +kernel
theorem dX4_signs_15 : decode cX4_signs 15 = .ok (.aaload, 1) := by decide +kernel
theorem dX4_signs_16 : decode cX4_signs 16 = .ok (.getfield 79, 3) := by decide +kernel
theorem dX4_signs_19 : decode cX4_signs 19 = .ok (.iadd, 1) := by decide +kernel
theorem dX4_signs_20 : decode cX4_signs 20 = .ok (.istore_n 1, 1) := by decide +kernel
theorem dX4_signs_21 : decode cX4_signs 21 = .ok (.iinc 2 1, 3) := by decide +kernel
theorem dX4_signs_24 : decode cX4_signs 24 = .ok (.goto (-20), 3) := by decide +kernel
theorem dX4_signs_27 : decode cX4_signs 27 = .ok (.iload_n 1, 1) := by decide +kernel
theorem dX4_signs_28 : decode cX4_signs 28 = .ok (.ireturn, 1) := by decide +kernel
theorem dX4_pieces_0 : decode cX4_pieces 0 = .ok (.iconst 0, 1) := by decide +kernel
theorem dX4_pieces_1 : decode cX4_pieces 1 = .ok (.istore_n 1, 1) := by decide +kernel
theorem dX4_pieces_2 : decode cX4_pieces 2 = .ok (.iconst 0, 1) := by decide +kernel
theorem dX4_pieces_3 : decode cX4_pieces 3 = .ok (.istore_n 2, 1) := by decide +kernel
theorem dX4_pieces_4 : decode cX4_pieces 4 = .ok (.iload_n 2, 1) := by decide +kernel
theorem dX4_pieces_5 : decode cX4_pieces 5 = .ok (.iconst 4, 1) := by decide +kernel
theorem dX4_pieces_6 : decode cX4_pieces 6 = .ok (.if_icmp .ge 21, 3) := by decide +kernel
theorem dX4_pieces_9 : decode cX4_pieces 9 = .ok (.iload_n 1, 1) := by decide +kernel
theorem dX4_pieces_10 : decode cX4_pieces 10 = .ok (.aload_n 0, 1) := by decide +kernel
theorem dX4_pieces_11 : decode cX4_pieces 11 = .ok (.getfield 11, 3) := by decide +kernel
theorem dX4_pieces_14 : decode cX4_pieces 14 = .ok (.iload_n 2, 1) := by decide +kernel
theorem dX4_pieces_15 : decode cX4_pieces 15 = .ok (.aaload, 1) := by decide +kernel
theorem dX4_pieces_16 : decode cX4_pieces 16 = .ok (.getfield 63, 3) := by decide +kernel
theorem dX4_pieces_19 : decode cX4_pieces 19 = .ok (.iadd, 1) := by decide +kernel
theorem dX4_pieces_20 : decode cX4_pieces 20 = .ok (.istore_n 1, 1) := by decide +kernel
theorem dX4_pieces_21 : decode cX4_pieces 21 = .ok (.iinc 2 1, 3) := by decide +kernel
theorem dX4_pieces_24 : decode cX4_pieces 24 = .ok (.goto (-20), 3) := by decide +kernel
theorem dX4_pieces_27 : decode cX4_pieces 27 = .ok (.iload_n 1, 1) := by decide +kernel
theorem dX4_pieces_28 : decode cX4_pieces 28 = .ok (.ireturn, 1) := by decide +kernel
theorem dX5_init_0 : decode cX5_init 0 = .ok (.aload_n 0, 1) := by decide +kernel
theorem dX5_init_1 : decode cX5_init 1 = .ok (.invokespecial 3, 3) := by decide +kernel
theorem dX5_init_4 : decode cX5_init 4 = .ok (.aload_n 0, 1) := by decide +kernel
theorem dX5_init_5 : decode cX5_init 5 = .ok (.bipush 60, 2) := by decide +kernel
theorem dX5_init_7 : decode cX5_init 7 = .ok (.newarray .long, 2) := by decide +kernel
theorem dX5_init_9 : decode cX5_init 9 = .ok (.putfield 9, 3) := by decide +kernel
theorem dX5_init_12 : decode cX5_init 12 = .ok (.aload_n 0, 1) := by decide +kernel
theorem dX5_init_13 : decode cX5_init 13 = .ok (.bipush 60, 2) := by decide +kernel
theorem dX5_init_15 : decode cX5_init 15 = .ok (.newarray .int, 2) := by decide +kernel
theorem dX5_init_17 : decode cX5_init 17 = .ok (.putfield 15, 3) := by decide +kernel
theorem dX5_init_20 : decode cX5_init 20 = .ok (.aload_n 0, 1) := by decide +kernel
theorem dX5_init_21 : decode cX5_init 21 = .ok (.bipush 60, 2) := by decide +kernel
theorem dX5_init_23 : decode cX5_init 23 = .ok (.newarray .int, 2) := by decide +kernel
theorem dX5_init_25 : decode cX5_init 25 = .ok (.putfield 19, 3) := by decide +kernel
theorem dX5_init_28 : decode cX5_init 28 = .ok (.aload_n 0, 1) := by decide +kernel
theorem dX5_init_29 : decode cX5_init 29 = .ok (.iconst 0, 1) := by decide +kernel
theorem dX5_init_30 : decode cX5_init 30 = .ok (.putfield 22, 3) := by decide +kernel
theorem dX5_init_33 : decode cX5_init 33 = .ok (.aload_n 0, 1) := by decide +kernel
theorem dX5_init_34 : decode cX5_init 34 = .ok (.iconst 0, 1) := by decide +kernel
theorem dX5_init_35 : decode cX5_init 35 = .ok (.putfield 26, 3) := by decide +kernel
theorem dX5_init_38 : decode cX5_init 38 = .ok (.return_, 1) := by decide +kernel
theorem dX5_become_0 : decode cX5_become 0 = .ok (.aload_n 1, 1) := by decide +kernel
theorem dX5_become_1 : decode cX5_become 1 = .ok (.getfield 9, 3) := by decide +kernel
theorem dX5_become_4 : decode cX5_become 4 = .ok (.iconst 0, 1) := by decide +kernel
theorem dX5_become_5 : decode cX5_become 5 = .ok (.aload_n 0, 1) := by decide +kernel
theorem dX5_become_6 : decode cX5_become 6 = .ok (.getfield 9, 3) := by decide +kernel
theorem dX5_become_9 : decode cX5_become 9 = .ok (.iconst 0, 1) := by decide +kernel
theorem dX5_become_10 : decode cX5_become 10 = .ok (.bipush 60, 2) := by decide +kernel
theorem dX5_become_12 : decode cX5_become 12 = .ok (.invokestatic 29, 3) := by decide +kernel
theorem dX5_become_15 : decode cX5_become 15 = .ok (.aload_n 1, 1) := by decide +kernel
theorem dX5_become_16 : decode cX5_become 16 = .ok (.getfield 15, 3) := by decide +kernel
theorem dX5_become_19 : decode cX5_become 19 = .ok (.iconst 0, 1) := by decide +kernel
theorem dX5_become_20 : decode cX5_become 20 = .ok (.aload_n 0, 1) := by decide +kernel
theorem dX5_become_21 : decode cX5_become 21 = .ok (.getfield 15, 3) := by decide +kernel
theorem dX5_become_24 : decode cX5_become 24 = .ok (.iconst 0, 1) := by decide +kernel
theorem dX5_become_25 : decode cX5_become 25 = .ok (.bipush 60, 2) := by decide +kernel
theorem dX5_become_27 : decode cX5_become 27 = .ok (.invokestatic 29, 3) := by decide +kernel
theorem dX5_become_30 : decode cX5_become 30 = .ok (.aload_n 1, 1) := by decide +kernel
theorem dX5_become_31 : decode cX5_become 31 = .ok (.getfield 19, 3) := by decide +kernel
theorem dX5_become_34 : decode cX5_become 34 = .ok (.iconst 0, 1) := by decide +kernel
theorem dX5_become_35 : decode cX5_become 35 = .ok (.aload_n 0, 1) := by decide +kernel
theorem dX5_become_36 : decode cX5_become 36 = .ok (.getfield 19, 3) := by decide +kernel
theorem dX5_become_39 : decode cX5_become 39 = .ok (.iconst 0, 1) := by decide +kernel
theorem dX5_become_40 : decode cX5_become 40 = .ok (.bipush 60, 2) := by decide +kernel
theorem dX5_become_42 : decode cX5_become 42 = .ok (.invokestatic 29, 3) := by decide +kernel
theorem dX5_become_45 : decode cX5_become 45 = .ok (.aload_n 0, 1) := by decide +kernel
theorem dX5_become_46 : decode cX5_become 46 = .ok (.aload_n 1, 1) := by decide +kernel
theorem dX5_become_47 : decode cX5_become 47 = .ok (.getfield 22, 3) := by decide +kernel
theorem dX5_become_50 : decode cX5_become 50 = .ok (.putfield 22, 3) := by decide +kernel
theorem dX5_become_53 : decode cX5_become 53 = .ok (.aload_n 0, 1) := by decide +kernel
theorem dX5_become_54 : decode cX5_become 54 = .ok (.aload_n 1, 1) := by decide +kernel
theorem dX5_become_55 : decode cX5_become 55 = .ok (.getfield 26, 3) := by decide +kernel
theorem dX5_become_58 : decode cX5_become 58 = .ok (.putfield 26, 3) := by decide +kernel
theorem dX5_become_61 : decode cX5_become 61 = .ok (.return_, 1) := by decide +kernel
theorem dX5_isFree_0 : decode cX5_isFree 0 = .ok (.aload_n 0, 1) := by decide +kernel
theorem dX5_isFree_1 : decode cX5_isFree 1 = .ok (.getfield 9, 3) := by decide +kernel
theorem dX5_isFree_4 : decode cX5_isFree 4 = .ok (.iload_n 1, 1) := by decide +kernel
theorem dX5_isFree_5 : decode cX5_isFree 5 = .ok (.laload, 1) := by decide +kernel
theorem dX5_isFree_6 : decode cX5_isFree 6 = .ok (.lconst 0, 1) := by decide +kernel
theorem dX5_isFree_7 : decode cX5_isFree 7 = .ok (.lcmp, 1) := by decide +kernel
theorem dX5_isFree_8 : decode cX5_isFree 8 = .ok (.ifCond .ne 7, 3) := by decide +kernel
theorem dX5_isFree_11 : decode cX5_isFree 11 = .ok (.iconst 1, 1) := by decide +kernel
theorem dX5_isFree_12 : decode cX5_isFree 12 = .ok (.goto 4, 3) := by decide +kernel
theorem dX5_isFree_15 : decode cX5_isFree 15 = .ok (.iconst 0, 1) := by decide +kernel
theorem dX5_isFree_16 : decode cX5_isFree 16 = .ok (.ireturn, 1) := by decide +kernel
theorem dX5_isUnowned_0 : decode cX5_isUnowned 0 = .ok (.aload_n 0, 1) := by decide +kernel
theorem dX5_isUnowned_1 : decode cX5_isUnowned 1 = .ok (.getfield 9, 3) := by decide +kernel
theorem dX5_isUnowned_4 : decode cX5_isUnowned 4 = .ok (.iload_n 1, 1) := by decide +kernel
theorem dX5_isUnowned_5 : decode cX5_isUnowned 5 = .ok (.laload, 1) := by decide +kernel
theorem dX5_isUnowned_6 : decode cX5_isUnowned 6 = .ok (.lconst 0, 1) := by decide +kernel
theorem dX5_isUnowned_7 : decode cX5_isUnowned 7 = .ok (.lcmp, 1) := by decide +kernel
theorem dX5_isUnowned_8 : decode cX5_isUnowned 8 = .ok (.ifCond .eq 16, 3) := by decide +kernel
theorem dX5_isUnowned_11 : decode cX5_isUnowned 11 = .ok (.aload_n 0, 1) := by decide +kernel
theorem dX5_isUnowned_12 : decode cX5_isUnowned 12 = .ok (.getfield 19, 3) := by decide +kernel
theorem dX5_isUnowned_15 : decode cX5_isUnowned 15 = .ok (.iload_n 1, 1) := by decide +kernel
theorem dX5_isUnowned_16 : decode cX5_isUnowned 16 = .ok (.iaload, 1) := by decide +kernel
theorem dX5_isUnowned_17 : decode cX5_isUnowned 17 = .ok (.ifCond .ne 7, 3) := by decide +kernel
theorem dX5_isUnowned_20 : decode cX5_isUnowned 20 = .ok (.iconst 1, 1) := by decide +kernel
theorem dX5_isUnowned_21 : decode cX5_isUnowned 21 = .ok (.goto 4, 3) := by decide +kernel
theorem dX5_isUnowned_24 : decode cX5_isUnowned 24 = .ok (.iconst 0, 1) := by decide +kernel
theorem dX5_isUnowned_25 : decode cX5_isUnowned 25 = .ok (.ireturn, 1) := by decide +kernel
theorem dX5_slotOf_0 : decode cX5_slotOf 0 = .ok (.iconst 0, 1) := by decide +kernel
theorem dX5_slotOf_1 : decode cX5_slotOf 1 = .ok (.istore_n 3, 1) := by decide +kernel
theorem dX5_slotOf_2 : decode cX5_slotOf 2 = .ok (.iload_n 3, 1) := by decide +kernel
theorem dX5_slotOf_3 : decode cX5_slotOf 3 = .ok (.bipush 60, 2) := by decide +kernel
theorem dX5_slotOf_5 : decode cX5_slotOf 5 = .ok (.if_icmp .ge 22, 3) := by decide +kernel
theorem dX5_slotOf_8 : decode cX5_slotOf 8 = .ok (.aload_n 0, 1) := by decide +kernel
theorem dX5_slotOf_9 : decode cX5_slotOf 9 = .ok (.getfield 9, 3) := by decide +kernel
theorem dX5_slotOf_12 : decode cX5_slotOf 12 = .ok (.iload_n 3, 1) := by decide +kernel
theorem dX5_slotOf_13 : decode cX5_slotOf 13 = .ok (.laload, 1) := by decide +kernel
theorem dX5_slotOf_14 : decode cX5_slotOf 14 = .ok (.lload_n 1, 1) := by decide +kernel
theorem dX5_slotOf_15 : decode cX5_slotOf 15 = .ok (.lcmp, 1) := by decide +kernel
theorem dX5_slotOf_16 : decode cX5_slotOf 16 = .ok (.ifCond .ne 5, 3) := by decide +kernel
theorem dX5_slotOf_19 : decode cX5_slotOf 19 = .ok (.iload_n 3, 1) := by decide +kernel
theorem dX5_slotOf_20 : decode cX5_slotOf 20 = .ok (.ireturn, 1) := by decide +kernel
theorem dX5_slotOf_21 : decode cX5_slotOf 21 = .ok (.iinc 3 1, 3) := by decide +kernel
theorem dX5_slotOf_24 : decode cX5_slotOf 24 = .ok (.goto (-22), 3) := by decide +kernel
theorem dX5_slotOf_27 : decode cX5_slotOf 27 = .ok (.iconst (-1), 1) := by decide +kernel
theorem dX5_slotOf_28 : decode cX5_slotOf 28 = .ok (.ireturn, 1) := by decide +kernel
theorem dX5_firstSign_0 : decode cX5_firstSign 0 = .ok (.aload_n 0, 1) := by decide +kernel
theorem dX5_firstSign_1 : decode cX5_firstSign 1 = .ok (.getfield 9, 3) := by decide +kernel
theorem dX5_firstSign_4 : decode cX5_firstSign 4 = .ok (.iload_n 1, 1) := by decide +kernel
theorem dX5_firstSign_5 : decode cX5_firstSign 5 = .ok (.laload, 1) := by decide +kernel
theorem dX5_firstSign_6 : decode cX5_firstSign 6 = .ok (.iconst 3, 1) := by decide +kernel
theorem dX5_firstSign_7 : decode cX5_firstSign 7 = .ok (.aload_n 0, 1) := by decide +kernel
theorem dX5_firstSign_8 : decode cX5_firstSign 8 = .ok (.getfield 15, 3) := by decide +kernel
theorem dX5_firstSign_11 : decode cX5_firstSign 11 = .ok (.iload_n 1, 1) := by decide +kernel
theorem dX5_firstSign_12 : decode cX5_firstSign 12 = .ok (.iaload, 1) := by decide +kernel
theorem dX5_firstSign_13 : decode cX5_firstSign 13 = .ok (.iconst 1, 1) := by decide +kernel
theorem dX5_firstSign_14 : decode cX5_firstSign 14 = .ok (.isub, 1) := by decide +kernel
theorem dX5_firstSign_15 : decode cX5_firstSign 15 = .ok (.imul, 1) := by decide +kernel
theorem dX5_firstSign_16 : decode cX5_firstSign 16 = .ok (.lshr, 1) := by decide +kernel
theorem dX5_firstSign_17 : decode cX5_firstSign 17 = .ok (.ldc2_w 35, 3) := by decide +kernel
theorem dX5_firstSign_20 : decode cX5_firstSign 20 = .ok (.land, 1) := by decide +kernel
theorem dX5_firstSign_21 : decode cX5_firstSign 21 = .ok (.l2i, 1) := by decide +kernel
theorem dX5_firstSign_22 : decode cX5_firstSign 22 = .ok (.iconst 1, 1) := by decide +kernel
theorem dX5_firstSign_23 : decode cX5_firstSign 23 = .ok (.iadd, 1) := by decide +kernel
theorem dX5_firstSign_24 : decode cX5_firstSign 24 = .ok (.ireturn, 1) := by decide +kernel
theorem dX5_lastSign_0 : decode cX5_lastSign 0 = .ok (.aload_n 0, 1) := by decide +kernel
theorem dX5_lastSign_1 : decode cX5_lastSign 1 = .ok (.getfield 9, 3) := by decide +kernel
theorem dX5_lastSign_4 : decode cX5_lastSign 4 = .ok (.iload_n 1, 1) := by decide +kernel
theorem dX5_lastSign_5 : decode cX5_lastSign 5 = .ok (.laload, 1) := by decide +kernel
theorem dX5_lastSign_6 : decode cX5_lastSign 6 = .ok (.ldc2_w 35, 3) := by decide +kernel
theorem dX5_lastSign_9 : decode cX5_lastSign 9 = .ok (.land, 1) := by decide +kernel
theorem dX5_lastSign_10 : decode cX5_lastSign 10 = .ok (.l2i, 1) := by decide +kernel
theorem dX5_lastSign_11 : decode cX5_lastSign 11 = .ok (.iconst 1, 1) := by decide +kernel
theorem dX5_lastSign_12 : decode cX5_lastSign 12 = .ok (.iadd, 1) := by decide +kernel
theorem dX5_lastSign_13 : decode cX5_lastSign 13 = .ok (.ireturn, 1) := by decide +kernel
theorem dX5_loseOwner_0 : decode cX5_loseOwner 0 = .ok (.iconst 0, 1) := by decide +kernel
theorem dX5_loseOwner_1 : decode cX5_loseOwner 1 = .ok (.istore_n 2, 1) := by decide +kernel
theorem dX5_loseOwner_2 : decode cX5_loseOwner 2 = .ok (.iload_n 2, 1) := by decide +kernel
theorem dX5_loseOwner_3 : decode cX5_loseOwner 3 = .ok (.aload_n 1, 1) := by decide +kernel
theorem dX5_loseOwner_4 : decode cX5_loseOwner 4 = .ok (.getfield 37, 3) := by decide +kernel
theorem dX5_loseOwner_7 : decode cX5_loseOwner 7 = .ok (.if_icmp .ge 35, 3) := by decide +kernel
theorem dX5_loseOwner_10 : decode cX5_loseOwner 10 = .ok (.aload_n 0, 1) := by decide +kernel
theorem dX5_loseOwner_11 : decode cX5_loseOwner 11 = .ok (.aload_n 1, 1) := by decide +kernel
theorem dX5_loseOwner_12 : decode cX5_loseOwner 12 = .ok (.getfield 42, 3) := by decide +kernel
theorem dX5_loseOwner_15 : decode cX5_loseOwner 15 = .ok (.iload_n 2, 1) := by decide +kernel
theorem dX5_loseOwner_16 : decode cX5_loseOwner 16 = .ok (.laload, 1) := by decide +kernel
theorem dX5_loseOwner_17 : decode cX5_loseOwner 17 = .ok (.invokevirtual 43, 3) := by decide +kernel
theorem dX5_loseOwner_20 : decode cX5_loseOwner 20 = .ok (.istore_n 3, 1) := by decide +kernel
theorem dX5_loseOwner_21 : decode cX5_loseOwner 21 = .ok (.iload_n 3, 1) := by decide +kernel
theorem dX5_loseOwner_22 : decode cX5_loseOwner 22 = .ok (.iconst (-1), 1) := by decide +kernel
theorem dX5_loseOwner_23 : decode cX5_loseOwner 23 = .ok (.if_icmp .eq 13, 3) := by decide +kernel
theorem dX5_loseOwner_26 : decode cX5_loseOwner 26 = .ok (.aload_n 0, 1) := by decide +kernel
theorem dX5_loseOwner_27 : decode cX5_loseOwner 27 = .ok (.getfield 19, 3) := by decide +kernel
theorem dX5_loseOwner_30 : decode cX5_loseOwner 30 = .ok (.iload_n 3, 1) := by decide +kernel
theorem dX5_loseOwner_31 : decode cX5_loseOwner 31 = .ok (.dup2, 1) := by decide +kernel
theorem dX5_loseOwner_32 : decode cX5_loseOwner 32 = .ok (.iaload, 1) := by decide +kernel
theorem dX5_loseOwner_33 : decode cX5_loseOwner 33 = .ok (.iconst 1, 1) := by decide +kernel
theorem dX5_loseOwner_34 : decode cX5_loseOwner 34 = .ok (.isub, 1) := by decide +kernel
theorem dX5_loseOwner_35 : decode cX5_loseOwner 35 = .ok (.iastore, 1) := by decide +kernel
theorem dX5_loseOwner_36 : decode cX5_loseOwner 36 = .ok (.iinc 2 1, 3) := by decide +kernel
theorem dX5_loseOwner_39 : decode cX5_loseOwner 39 = .ok (.goto (-37), 3) := by decide +kernel
theorem dX5_loseOwner_42 : decode cX5_loseOwner 42 = .ok (.return_, 1) := by decide +kernel
theorem dX5_getOwner_0 : decode cX5_getOwner 0 = .ok (.iconst 0, 1) := by decide +kernel
theorem dX5_getOwner_1 : decode cX5_getOwner 1 = .ok (.istore_n 2, 1) := by decide +kernel
theorem dX5_getOwner_2 : decode cX5_getOwner 2 = .ok (.iload_n 2, 1) := by decide +kernel
theorem dX5_getOwner_3 : decode cX5_getOwner 3 = .ok (.aload_n 1, 1) := by decide +kernel
theorem dX5_getOwner_4 : decode cX5_getOwner 4 = .ok (.getfield 37, 3) := by decide +kernel
theorem dX5_getOwner_7 : decode cX5_getOwner 7 = .ok (.if_icmp .ge 57, 3) := by decide +kernel
theorem dX5_getOwner_10 : decode cX5_getOwner 10 = .ok (.aload_n 0, 1) := by decide +kernel
theorem dX5_getOwner_11 : decode cX5_getOwner 11 = .ok (.aload_n 1, 1) := by decide +kernel
theorem dX5_getOwner_12 : decode cX5_getOwner 12 = .ok (.getfield 42, 3) := by decide +kernel
theorem dX5_getOwner_15 : decode cX5_getOwner 15 = .ok (.iload_n 2, 1) := by decide +kernel
theorem dX5_getOwner_16 : decode cX5_getOwner 16 = .ok (.laload, 1) := by decide +kernel
theorem dX5_getOwner_17 : decode cX5_getOwner 17 = .ok (.invokevirtual 43, 3) := by decide +kernel
theorem dX5_getOwner_20 : decode cX5_getOwner 20 = .ok (.istore_n 3, 1) := by decide +kernel
theorem dX5_getOwner_21 : decode cX5_getOwner 21 = .ok (.iload_n 3, 1) := by decide +kernel
theorem dX5_getOwner_22 : decode cX5_getOwner 22 = .ok (.iconst (-1), 1) := by decide +kernel
theorem dX5_getOwner_23 : decode cX5_getOwner 23 = .ok (.if_icmp .ne 20, 3) := by decide +kernel
theorem dX5_getOwner_26 : decode cX5_getOwner 26 = .ok (.aload_n 0, 1) := by decide +kernel
theorem dX5_getOwner_27 : decode cX5_getOwner 27 = .ok (.aload_n 1, 1) := by decide +kernel
theorem dX5_getOwner_28 : decode cX5_getOwner 28 = .ok (.getfield 42, 3) := by decide +kernel
theorem dX5_getOwner_31 : decode cX5_getOwner 31 = .ok (.iload_n 2, 1) := by decide +kernel
theorem dX5_getOwner_32 : decode cX5_getOwner 32 = .ok (.laload, 1) := by decide +kernel
theorem dX5_getOwner_33 : decode cX5_getOwner 33 = .ok (.aload_n 1, 1) := by decide +kernel
theorem dX5_getOwner_34 : decode cX5_getOwner 34 = .ok (.getfield 47, 3) := by decide +kernel
theorem dX5_getOwner_37 : decode cX5_getOwner 37 = .ok (.iload_n 2, 1) := by decide +kernel
theorem dX5_getOwner_38 : decode cX5_getOwner 38 = .ok (.iaload, 1) := by decide +kernel
theorem dX5_getOwner_39 : decode cX5_getOwner 39 = .ok (.invokevirtual 48, 3) := by decide +kernel
theorem dX5_getOwner_42 : decode cX5_getOwner 42 = .ok (.istore_n 3, 1) := by decide +kernel
theorem dX5_getOwner_43 : decode cX5_getOwner 43 = .ok (.iload_n 3, 1) := by decide +kernel
theorem dX5_getOwner_44 : decode cX5_getOwner 44 = .ok (.iconst (-1), 1) := by decide +kernel
theorem dX5_getOwner_45 : decode cX5_getOwner 45 = .ok (.if_icmp .eq 13, 3) := by decide +kernel
theorem dX5_getOwner_48 : decode cX5_getOwner 48 = .ok (.aload_n 0, 1) := by decide +kernel
theorem dX5_getOwner_49 : decode cX5_getOwner 49 = .ok (.getfield 19, 3) := by decide +kernel
theorem dX5_getOwner_52 : decode cX5_getOwner 52 = .ok (.iload_n 3, 1) := by decide +kernel
theorem dX5_getOwner_53 : decode cX5_getOwner 53 = .ok (.dup2, 1) := by decide +kernel
theorem dX5_getOwner_54 : decode cX5_getOwner 54 = .ok (.iaload, 1) := by decide +kernel
theorem dX5_getOwner_55 : decode cX5_getOwner 55 = .ok (.iconst 1, 1) := by decide +kernel
theorem dX5_getOwner_56 : decode cX5_getOwner 56 = .ok (.iadd, 1) := by decide +kernel
theorem dX5_getOwner_57 : decode cX5_getOwner 57 = .ok (.iastore, 1) := by decide +kernel
theorem dX5_getOwner_58 : decode cX5_getOwner 58 = .ok (.iinc 2 1, 3) := by decide +kernel
theorem dX5_getOwner_61 : decode cX5_getOwner 61 = .ok (.goto (-59), 3) := by decide +kernel
theorem dX5_getOwner_64 : decode cX5_getOwner 64 = .ok (.return_, 1) := by decide +kernel
theorem dX5_takeIn_0 : decode cX5_takeIn 0 = .ok (.aload_n 0, 1) := by decide +kernel
theorem dX5_takeIn_1 : decode cX5_takeIn 1 = .ok (.lconst 0, 1) := by decide +kernel
theorem dX5_takeIn_2 : decode cX5_takeIn 2 = .ok (.invokevirtual 43, 3) := by decide +kernel
theorem dX5_takeIn_5 : decode cX5_takeIn 5 = .ok (.istore 4, 2) := by decide +kernel
theorem dX5_takeIn_7 : decode cX5_takeIn 7 = .ok (.iload 4, 2) := by decide +kernel
theorem dX5_takeIn_9 : decode cX5_takeIn 9 = .ok (.iconst (-1), 1) := by decide +kernel
theorem dX5_takeIn_10 : decode cX5_takeIn 10 = .ok (.if_icmp .eq 37, 3) := by decide +kernel
theorem dX5_takeIn_13 : decode cX5_takeIn 13 = .ok (.aload_n 0, 1) := by decide +kernel
theorem dX5_takeIn_14 : decode cX5_takeIn 14 = .ok (.getfield 9, 3) := by decide +kernel
theorem dX5_takeIn_17 : decode cX5_takeIn 17 = .ok (.iload 4, 2) := by decide +kernel
theorem dX5_takeIn_19 : decode cX5_takeIn 19 = .ok (.lload_n 1, 1) := by decide +kernel
theorem dX5_takeIn_20 : decode cX5_takeIn 20 = .ok (.lastore, 1) := by decide +kernel
theorem dX5_takeIn_21 : decode cX5_takeIn 21 = .ok (.aload_n 0, 1) := by decide +kernel
theorem dX5_takeIn_22 : decode cX5_takeIn 22 = .ok (.getfield 15, 3) := by decide +kernel
theorem dX5_takeIn_25 : decode cX5_takeIn 25 = .ok (.iload 4, 2) := by decide +kernel
theorem dX5_takeIn_27 : decode cX5_takeIn 27 = .ok (.iload_n 3, 1) := by decide +kernel
theorem dX5_takeIn_28 : decode cX5_takeIn 28 = .ok (.iastore, 1) := by decide +kernel
theorem dX5_takeIn_29 : decode cX5_takeIn 29 = .ok (.aload_n 0, 1) := by decide +kernel
theorem dX5_takeIn_30 : decode cX5_takeIn 30 = .ok (.getfield 19, 3) := by decide +kernel
theorem dX5_takeIn_33 : decode cX5_takeIn 33 = .ok (.iload 4, 2) := by decide +kernel
theorem dX5_takeIn_35 : decode cX5_takeIn 35 = .ok (.iconst 0, 1) := by decide +kernel
theorem dX5_takeIn_36 : decode cX5_takeIn 36 = .ok (.iastore, 1) := by decide +kernel
theorem dX5_takeIn_37 : decode cX5_takeIn 37 = .ok (.aload_n 0, 1) := by decide +kernel
theorem dX5_takeIn_38 : decode cX5_takeIn 38 = .ok (.dup, 1) := by decide +kernel
theorem dX5_takeIn_39 : decode cX5_takeIn 39 = .ok (.getfield 22, 3) := by decide +kernel
theorem dX5_takeIn_42 : decode cX5_takeIn 42 = .ok (.iconst 1, 1) := by decide +kernel
theorem dX5_takeIn_43 : decode cX5_takeIn 43 = .ok (.iadd, 1) := by decide +kernel
theorem dX5_takeIn_44 : decode cX5_takeIn 44 = .ok (.putfield 22, 3) := by decide +kernel
theorem dX5_takeIn_47 : decode cX5_takeIn 47 = .ok (.iload 4, 2) := by decide +kernel
theorem dX5_takeIn_49 : decode cX5_takeIn 49 = .ok (.ireturn, 1) := by decide +kernel
theorem dX5_removeUnownedBut_0 : decode cX5_removeUnownedBut 0 = .ok (.iconst 0, 1) := by decide +kernel
theorem dX5_removeUnownedBut_1 : decode cX5_removeUnownedBut 1 = .ok (.istore_n 2, 1) := by decide +kernel
theorem dX5_removeUnownedBut_2 : decode cX5_removeUnownedBut 2 = .ok (.iconst 0, 1) := by decide +kernel
theorem dX5_removeUnownedBut_3 : decode cX5_removeUnownedBut 3 = .ok (.istore_n 3, 1) := by decide +kernel
theorem dX5_removeUnownedBut_4 : decode cX5_removeUnownedBut 4 = .ok (.iload_n 3, 1) := by decide +kernel
theorem dX5_removeUnownedBut_5 : decode cX5_removeUnownedBut 5 = .ok (.bipush 60, 2) := by decide +kernel
theorem dX5_removeUnownedBut_7 : decode cX5_removeUnownedBut 7 = .ok (.if_icmp .ge 40, 3) := by decide +kernel
theorem dX5_removeUnownedBut_10 : decode cX5_removeUnownedBut 10 = .ok (.aload_n 0, 1) := by decide +kernel
theorem dX5_removeUnownedBut_11 : decode cX5_removeUnownedBut 11 = .ok (.iload_n 3, 1) := by decide +kernel
theorem dX5_removeUnownedBut_12 : decode cX5_removeUnownedBut 12 = .ok (.invokevirtual 52, 3) := by decide +kernel
theorem dX5_removeUnownedBut_15 : decode cX5_removeUnownedBut 15 = .ok (.ifCond .eq 26, 3) := by decide +kernel
theorem dX5_removeUnownedBut_18 : decode cX5_removeUnownedBut 18 = .ok (.aload_n 1, 1) := by decide +kernel
theorem dX5_removeUnownedBut_19 : decode cX5_removeUnownedBut 19 = .ok (.aload_n 0, 1) := by decide +kernel
theorem dX5_removeUnownedBut_20 : decode cX5_removeUnownedBut 20 = .ok (.getfield 9, 3) := by decide +kernel
theorem dX5_removeUnownedBut_23 : decode cX5_removeUnownedBut 23 = .ok (.iload_n 3, 1) := by decide +kernel
theorem dX5_removeUnownedBut_24 : decode cX5_removeUnownedBut 24 = .ok (.laload, 1) := by decide +kernel
theorem dX5_removeUnownedBut_25 : decode cX5_removeUnownedBut 25 = .ok (.invokevirtual 56, 3) := by decide +kernel
theorem dX5_removeUnownedBut_28 : decode cX5_removeUnownedBut 28 = .ok (.ifCond .ne 13, 3) := by decide +kernel
theorem dX5_removeUnownedBut_31 : decode cX5_removeUnownedBut 31 = .ok (.aload_n 0, 1) := by decide +kernel
theorem dX5_removeUnownedBut_32 : decode cX5_removeUnownedBut 32 = .ok (.getfield 9, 3) := by decide +kernel
theorem dX5_removeUnownedBut_35 : decode cX5_removeUnownedBut 35 = .ok (.iload_n 3, 1) := by decide +kernel
theorem dX5_removeUnownedBut_36 : decode cX5_removeUnownedBut 36 = .ok (.lconst 0, 1) := by decide +kernel
theorem dX5_removeUnownedBut_37 : decode cX5_removeUnownedBut 37 = .ok (.lastore, 1) := by decide +kernel
theorem dX5_removeUnownedBut_38 : decode cX5_removeUnownedBut 38 = .ok (.iinc 2 1, 3) := by decide +kernel
theorem dX5_removeUnownedBut_41 : decode cX5_removeUnownedBut 41 = .ok (.iinc 3 1, 3) := by decide +kernel
theorem dX5_removeUnownedBut_44 : decode cX5_removeUnownedBut 44 = .ok (.goto (-40), 3) := by decide +kernel
theorem dX5_removeUnownedBut_47 : decode cX5_removeUnownedBut 47 = .ok (.aload_n 0, 1) := by decide +kernel
theorem dX5_removeUnownedBut_48 : decode cX5_removeUnownedBut 48 = .ok (.dup, 1) := by decide +kernel
theorem dX5_removeUnownedBut_49 : decode cX5_removeUnownedBut 49 = .ok (.getfield 26, 3) := by decide +kernel
theorem dX5_removeUnownedBut_52 : decode cX5_removeUnownedBut 52 = .ok (.iload_n 2, 1) := by decide +kernel
theorem dX5_removeUnownedBut_53 : decode cX5_removeUnownedBut 53 = .ok (.iadd, 1) := by decide +kernel
theorem dX5_removeUnownedBut_54 : decode cX5_removeUnownedBut 54 = .ok (.putfield 26, 3) := by decide +kernel
theorem dX5_removeUnownedBut_57 : decode cX5_removeUnownedBut 57 = .ok (.iload_n 2, 1) := by decide +kernel
theorem dX5_removeUnownedBut_58 : decode cX5_removeUnownedBut 58 = .ok (.ireturn, 1) := by decide +kernel
theorem dX5_hasRoomFor_0 : decode cX5_hasRoomFor 0 = .ok (.aload_n 0, 1) := by decide +kernel
theorem dX5_hasRoomFor_1 : decode cX5_hasRoomFor 1 = .ok (.aload_n 1, 1) := by decide +kernel
theorem dX5_hasRoomFor_2 : decode cX5_hasRoomFor 2 = .ok (.invokevirtual 60, 3) := by decide +kernel
theorem dX5_hasRoomFor_5 : decode cX5_hasRoomFor 5 = .ok (.bipush 60, 2) := by decide +kernel
theorem dX5_hasRoomFor_7 : decode cX5_hasRoomFor 7 = .ok (.aload_n 0, 1) := by decide +kernel
theorem dX5_hasRoomFor_8 : decode cX5_hasRoomFor 8 = .ok (.invokevirtual 64, 3) := by decide +kernel
theorem dX5_hasRoomFor_11 : decode cX5_hasRoomFor 11 = .ok (.isub, 1) := by decide +kernel
theorem dX5_hasRoomFor_12 : decode cX5_hasRoomFor 12 = .ok (.if_icmp .gt 23, 3) := by decide +kernel
theorem dX5_hasRoomFor_15 : decode cX5_hasRoomFor 15 = .ok (.aload_n 0, 1) := by decide +kernel
theorem dX5_hasRoomFor_16 : decode cX5_hasRoomFor 16 = .ok (.aload_n 1, 1) := by decide +kernel
theorem dX5_hasRoomFor_17 : decode cX5_hasRoomFor 17 = .ok (.invokevirtual 67, 3) := by decide +kernel
theorem dX5_hasRoomFor_20 : decode cX5_hasRoomFor 20 = .ok (.sipush 150, 3) := by decide +kernel
theorem dX5_hasRoomFor_23 : decode cX5_hasRoomFor 23 = .ok (.aload_n 0, 1) := by decide +kernel
theorem dX5_hasRoomFor_24 : decode cX5_hasRoomFor 24 = .ok (.invokevirtual 70, 3) := by decide +kernel
theorem dX5_hasRoomFor_27 : decode cX5_hasRoomFor 27 = .ok (.isub, 1) := by decide +kernel
theorem dX5_hasRoomFor_28 : decode cX5_hasRoomFor 28 = .ok (.if_icmp .gt 7, 3) := by decide +kernel
theorem dX5_hasRoomFor_31 : decode cX5_hasRoomFor 31 = .ok (.iconst 1, 1) := by decide +kernel
theorem dX5_hasRoomFor_32 : decode cX5_hasRoomFor 32 = .ok (.goto 4, 3) := by decide +kernel
theorem dX5_hasRoomFor_35 : decode cX5_hasRoomFor 35 = .ok (.iconst 0, 1) := by decide +kernel
theorem dX5_hasRoomFor_36 : decode cX5_hasRoomFor 36 = .ok (.ireturn, 1) := by decide +kernel
theorem dX5_slotsNeededBy_0 : decode cX5_slotsNeededBy 0 = .ok (.iconst 0, 1) := by decide +kernel
theorem dX5_slotsNeededBy_1 : decode cX5_slotsNeededBy 1 = .ok (.istore_n 2, 1) := by decide +kernel
theorem dX5_slotsNeededBy_2 : decode cX5_slotsNeededBy 2 = .ok (.iconst 0, 1) := by decide +kernel
theorem dX5_slotsNeededBy_3 : decode cX5_slotsNeededBy 3 = .ok (.istore_n 3, 1) := by decide +kernel
theorem dX5_slotsNeededBy_4 : decode cX5_slotsNeededBy 4 = .ok (.iload_n 3, 1) := by decide +kernel
theorem dX5_slotsNeededBy_5 : decode cX5_slotsNeededBy 5 = .ok (.aload_n 1, 1) := by decide +kernel
theorem dX5_slotsNeededBy_6 : decode cX5_slotsNeededBy 6 = .ok (.getfield 37, 3) := by decide +kernel
theorem dX5_slotsNeededBy_9 : decode cX5_slotsNeededBy 9 = .ok (.if_icmp .ge 40, 3) := by decide +kernel
theorem dX5_slotsNeededBy_12 : decode cX5_slotsNeededBy 12 = .ok (.aload_n 1, 1) := by decide +kernel
theorem dX5_slotsNeededBy_13 : decode cX5_slotsNeededBy 13 = .ok (.iload_n 3, 1) := by decide +kernel
theorem dX5_slotsNeededBy_14 : decode cX5_slotsNeededBy 14 = .ok (.aload_n 1, 1) := by decide +kernel
theorem dX5_slotsNeededBy_15 : decode cX5_slotsNeededBy 15 = .ok (.getfield 42, 3) := by decide +kernel
