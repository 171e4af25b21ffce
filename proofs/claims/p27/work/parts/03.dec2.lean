theorem dX5_slotsNeededBy_18 : decode cX5_slotsNeededBy 18 = .ok (.iload_n 3, 1) := by decide +kernel
theorem dX5_slotsNeededBy_19 : decode cX5_slotsNeededBy 19 = .ok (.laload, 1) := by decide +kernel
theorem dX5_slotsNeededBy_20 : decode cX5_slotsNeededBy 20 = .ok (.invokevirtual 73, 3) := by decide +kernel
theorem dX5_slotsNeededBy_23 : decode cX5_slotsNeededBy 23 = .ok (.ifCond .ne 20, 3) := by decide +kernel
theorem dX5_slotsNeededBy_26 : decode cX5_slotsNeededBy 26 = .ok (.aload_n 0, 1) := by decide +kernel
theorem dX5_slotsNeededBy_27 : decode cX5_slotsNeededBy 27 = .ok (.aload_n 1, 1) := by decide +kernel
theorem dX5_slotsNeededBy_28 : decode cX5_slotsNeededBy 28 = .ok (.getfield 42, 3) := by decide +kernel
theorem dX5_slotsNeededBy_31 : decode cX5_slotsNeededBy 31 = .ok (.iload_n 3, 1) := by decide +kernel
theorem dX5_slotsNeededBy_32 : decode cX5_slotsNeededBy 32 = .ok (.laload, 1) := by decide +kernel
theorem dX5_slotsNeededBy_33 : decode cX5_slotsNeededBy 33 = .ok (.invokevirtual 43, 3) := by decide +kernel
theorem dX5_slotsNeededBy_36 : decode cX5_slotsNeededBy 36 = .ok (.iconst (-1), 1) := by decide +kernel
theorem dX5_slotsNeededBy_37 : decode cX5_slotsNeededBy 37 = .ok (.if_icmp .ne 6, 3) := by decide +kernel
theorem dX5_slotsNeededBy_40 : decode cX5_slotsNeededBy 40 = .ok (.iinc 2 1, 3) := by decide +kernel
theorem dX5_slotsNeededBy_43 : decode cX5_slotsNeededBy 43 = .ok (.iinc 3 1, 3) := by decide +kernel
theorem dX5_slotsNeededBy_46 : decode cX5_slotsNeededBy 46 = .ok (.goto (-42), 3) := by decide +kernel
theorem dX5_slotsNeededBy_49 : decode cX5_slotsNeededBy 49 = .ok (.iload_n 2, 1) := by decide +kernel
theorem dX5_slotsNeededBy_50 : decode cX5_slotsNeededBy 50 = .ok (.ireturn, 1) := by decide +kernel
theorem dX5_roomNeededBy_0 : decode cX5_roomNeededBy 0 = .ok (.iconst 0, 1) := by decide +kernel
theorem dX5_roomNeededBy_1 : decode cX5_roomNeededBy 1 = .ok (.istore_n 2, 1) := by decide +kernel
theorem dX5_roomNeededBy_2 : decode cX5_roomNeededBy 2 = .ok (.iconst 0, 1) := by decide +kernel
theorem dX5_roomNeededBy_3 : decode cX5_roomNeededBy 3 = .ok (.istore_n 3, 1) := by decide +kernel
theorem dX5_roomNeededBy_4 : decode cX5_roomNeededBy 4 = .ok (.iload_n 3, 1) := by decide +kernel
theorem dX5_roomNeededBy_5 : decode cX5_roomNeededBy 5 = .ok (.aload_n 1, 1) := by decide +kernel
theorem dX5_roomNeededBy_6 : decode cX5_roomNeededBy 6 = .ok (.getfield 37, 3) := by decide +kernel
theorem dX5_roomNeededBy_9 : decode cX5_roomNeededBy 9 = .ok (.if_icmp .ge 46, 3) := by decide +kernel
theorem dX5_roomNeededBy_12 : decode cX5_roomNeededBy 12 = .ok (.aload_n 1, 1) := by decide +kernel
theorem dX5_roomNeededBy_13 : decode cX5_roomNeededBy 13 = .ok (.iload_n 3, 1) := by decide +kernel
theorem dX5_roomNeededBy_14 : decode cX5_roomNeededBy 14 = .ok (.aload_n 1, 1) := by decide +kernel
theorem dX5_roomNeededBy_15 : decode cX5_roomNeededBy 15 = .ok (.getfield 42, 3) := by decide +kernel
theorem dX5_roomNeededBy_18 : decode cX5_roomNeededBy 18 = .ok (.iload_n 3, 1) := by decide +kernel
theorem dX5_roomNeededBy_19 : decode cX5_roomNeededBy 19 = .ok (.laload, 1) := by decide +kernel
theorem dX5_roomNeededBy_20 : decode cX5_roomNeededBy 20 = .ok (.invokevirtual 73, 3) := by decide +kernel
theorem dX5_roomNeededBy_23 : decode cX5_roomNeededBy 23 = .ok (.ifCond .ne 26, 3) := by decide +kernel
theorem dX5_roomNeededBy_26 : decode cX5_roomNeededBy 26 = .ok (.aload_n 0, 1) := by decide +kernel
theorem dX5_roomNeededBy_27 : decode cX5_roomNeededBy 27 = .ok (.aload_n 1, 1) := by decide +kernel
theorem dX5_roomNeededBy_28 : decode cX5_roomNeededBy 28 = .ok (.getfield 42, 3) := by decide +kernel
theorem dX5_roomNeededBy_31 : decode cX5_roomNeededBy 31 = .ok (.iload_n 3, 1) := by decide +kernel
theorem dX5_roomNeededBy_32 : decode cX5_roomNeededBy 32 = .ok (.laload, 1) := by decide +kernel
theorem dX5_roomNeededBy_33 : decode cX5_roomNeededBy 33 = .ok (.invokevirtual 43, 3) := by decide +kernel
theorem dX5_roomNeededBy_36 : decode cX5_roomNeededBy 36 = .ok (.iconst (-1), 1) := by decide +kernel
theorem dX5_roomNeededBy_37 : decode cX5_roomNeededBy 37 = .ok (.if_icmp .ne 12, 3) := by decide +kernel
theorem dX5_roomNeededBy_40 : decode cX5_roomNeededBy 40 = .ok (.iload_n 2, 1) := by decide +kernel
theorem dX5_roomNeededBy_41 : decode cX5_roomNeededBy 41 = .ok (.aload_n 1, 1) := by decide +kernel
theorem dX5_roomNeededBy_42 : decode cX5_roomNeededBy 42 = .ok (.getfield 47, 3) := by decide +kernel
theorem dX5_roomNeededBy_45 : decode cX5_roomNeededBy 45 = .ok (.iload_n 3, 1) := by decide +kernel
theorem dX5_roomNeededBy_46 : decode cX5_roomNeededBy 46 = .ok (.iaload, 1) := by decide +kernel
theorem dX5_roomNeededBy_47 : decode cX5_roomNeededBy 47 = .ok (.iadd, 1) := by decide +kernel
theorem dX5_roomNeededBy_48 : decode cX5_roomNeededBy 48 = .ok (.istore_n 2, 1) := by decide +kernel
theorem dX5_roomNeededBy_49 : decode cX5_roomNeededBy 49 = .ok (.iinc 3 1, 3) := by decide +kernel
theorem dX5_roomNeededBy_52 : decode cX5_roomNeededBy 52 = .ok (.goto (-48), 3) := by decide +kernel
theorem dX5_roomNeededBy_55 : decode cX5_roomNeededBy 55 = .ok (.iload_n 2, 1) := by decide +kernel
theorem dX5_roomNeededBy_56 : decode cX5_roomNeededBy 56 = .ok (.ireturn, 1) := by decide +kernel
theorem dX5_pieces_0 : decode cX5_pieces 0 = .ok (.iconst 0, 1) := by decide +kernel
theorem dX5_pieces_1 : decode cX5_pieces 1 = .ok (.istore_n 1, 1) := by decide +kernel
theorem dX5_pieces_2 : decode cX5_pieces 2 = .ok (.iconst 0, 1) := by decide +kernel
theorem dX5_pieces_3 : decode cX5_pieces 3 = .ok (.istore_n 2, 1) := by decide +kernel
theorem dX5_pieces_4 : decode cX5_pieces 4 = .ok (.iload_n 2, 1) := by decide +kernel
theorem dX5_pieces_5 : decode cX5_pieces 5 = .ok (.bipush 60, 2) := by decide +kernel
theorem dX5_pieces_7 : decode cX5_pieces 7 = .ok (.if_icmp .ge 20, 3) := by decide +kernel
theorem dX5_pieces_10 : decode cX5_pieces 10 = .ok (.aload_n 0, 1) := by decide +kernel
theorem dX5_pieces_11 : decode cX5_pieces 11 = .ok (.iload_n 2, 1) := by decide +kernel
theorem dX5_pieces_12 : decode cX5_pieces 12 = .ok (.invokevirtual 77, 3) := by decide +kernel
theorem dX5_pieces_15 : decode cX5_pieces 15 = .ok (.ifCond .ne 6, 3) := by decide +kernel
theorem dX5_pieces_18 : decode cX5_pieces 18 = .ok (.iinc 1 1, 3) := by decide +kernel
theorem dX5_pieces_21 : decode cX5_pieces 21 = .ok (.iinc 2 1, 3) := by decide +kernel
theorem dX5_pieces_24 : decode cX5_pieces 24 = .ok (.goto (-20), 3) := by decide +kernel
theorem dX5_pieces_27 : decode cX5_pieces 27 = .ok (.iload_n 1, 1) := by decide +kernel
theorem dX5_pieces_28 : decode cX5_pieces 28 = .ok (.ireturn, 1) := by decide +kernel
theorem dX5_size_0 : decode cX5_size 0 = .ok (.iconst 0, 1) := by decide +kernel
theorem dX5_size_1 : decode cX5_size 1 = .ok (.istore_n 1, 1) := by decide +kernel
theorem dX5_size_2 : decode cX5_size 2 = .ok (.iconst 0, 1) := by decide +kernel
theorem dX5_size_3 : decode cX5_size 3 = .ok (.istore_n 2, 1) := by decide +kernel
theorem dX5_size_4 : decode cX5_size 4 = .ok (.iload_n 2, 1) := by decide +kernel
theorem dX5_size_5 : decode cX5_size 5 = .ok (.bipush 60, 2) := by decide +kernel
theorem dX5_size_7 : decode cX5_size 7 = .ok (.if_icmp .ge 26, 3) := by decide +kernel
theorem dX5_size_10 : decode cX5_size 10 = .ok (.aload_n 0, 1) := by decide +kernel
theorem dX5_size_11 : decode cX5_size 11 = .ok (.iload_n 2, 1) := by decide +kernel
theorem dX5_size_12 : decode cX5_size 12 = .ok (.invokevirtual 77, 3) := by decide +kernel
theorem dX5_size_15 : decode cX5_size 15 = .ok (.ifCond .ne 12, 3) := by decide +kernel
theorem dX5_size_18 : decode cX5_size 18 = .ok (.iload_n 1, 1) := by decide +kernel
theorem dX5_size_19 : decode cX5_size 19 = .ok (.aload_n 0, 1) := by decide +kernel
theorem dX5_size_20 : decode cX5_size 20 = .ok (.getfield 15, 3) := by decide +kernel
theorem dX5_size_23 : decode cX5_size 23 = .ok (.iload_n 2, 1) := by decide +kernel
theorem dX5_size_24 : decode cX5_size 24 = .ok (.iaload, 1) := by decide +kernel
theorem dX5_size_25 : decode cX5_size 25 = .ok (.iadd, 1) := by decide +kernel
theorem dX5_size_26 : decode cX5_size 26 = .ok (.istore_n 1, 1) := by decide +kernel
theorem dX5_size_27 : decode cX5_size 27 = .ok (.iinc 2 1, 3) := by decide +kernel
theorem dX5_size_30 : decode cX5_size 30 = .ok (.goto (-26), 3) := by decide +kernel
theorem dX5_size_33 : decode cX5_size 33 = .ok (.iload_n 1, 1) := by decide +kernel
theorem dX5_size_34 : decode cX5_size 34 = .ok (.ireturn, 1) := by decide +kernel
theorem dX5_unownedPieces_0 : decode cX5_unownedPieces 0 = .ok (.iconst 0, 1) := by decide +kernel
theorem dX5_unownedPieces_1 : decode cX5_unownedPieces 1 = .ok (.istore_n 1, 1) := by decide +kernel
theorem dX5_unownedPieces_2 : decode cX5_unownedPieces 2 = .ok (.iconst 0, 1) := by decide +kernel
theorem dX5_unownedPieces_3 : decode cX5_unownedPieces 3 = .ok (.istore_n 2, 1) := by decide +kernel
theorem dX5_unownedPieces_4 : decode cX5_unownedPieces 4 = .ok (.iload_n 2, 1) := by decide +kernel
theorem dX5_unownedPieces_5 : decode cX5_unownedPieces 5 = .ok (.bipush 60, 2) := by decide +kernel
theorem dX5_unownedPieces_7 : decode cX5_unownedPieces 7 = .ok (.if_icmp .ge 20, 3) := by decide +kernel
theorem dX5_unownedPieces_10 : decode cX5_unownedPieces 10 = .ok (.aload_n 0, 1) := by decide +kernel
theorem dX5_unownedPieces_11 : decode cX5_unownedPieces 11 = .ok (.iload_n 2, 1) := by decide +kernel
theorem dX5_unownedPieces_12 : decode cX5_unownedPieces 12 = .ok (.invokevirtual 52, 3) := by decide +kernel
theorem dX5_unownedPieces_15 : decode cX5_unownedPieces 15 = .ok (.ifCond .eq 6, 3) := by decide +kernel
theorem dX5_unownedPieces_18 : decode cX5_unownedPieces 18 = .ok (.iinc 1 1, 3) := by decide +kernel
theorem dX5_unownedPieces_21 : decode cX5_unownedPieces 21 = .ok (.iinc 2 1, 3) := by decide +kernel
theorem dX5_unownedPieces_24 : decode cX5_unownedPieces 24 = .ok (.goto (-20), 3) := by decide +kernel
theorem dX5_unownedPieces_27 : decode cX5_unownedPieces 27 = .ok (.iload_n 1, 1) := by decide +kernel
theorem dX5_unownedPieces_28 : decode cX5_unownedPieces 28 = .ok (.ireturn, 1) := by decide +kernel
theorem dX5_unownedSize_0 : decode cX5_unownedSize 0 = .ok (.iconst 0, 1) := by decide +kernel
theorem dX5_unownedSize_1 : decode cX5_unownedSize 1 = .ok (.istore_n 1, 1) := by decide +kernel
theorem dX5_unownedSize_2 : decode cX5_unownedSize 2 = .ok (.iconst 0, 1) := by decide +kernel
theorem dX5_unownedSize_3 : decode cX5_unownedSize 3 = .ok (.istore_n 2, 1) := by decide +kernel
theorem dX5_unownedSize_4 : decode cX5_unownedSize 4 = .ok (.iload_n 2, 1) := by decide +kernel
theorem dX5_unownedSize_5 : decode cX5_unownedSize 5 = .ok (.bipush 60, 2) := by decide +kernel
theorem dX5_unownedSize_7 : decode cX5_unownedSize 7 = .ok (.if_icmp .ge 26, 3) := by decide +kernel
theorem dX5_unownedSize_10 : decode cX5_unownedSize 10 = .ok (.aload_n 0, 1) := by decide +kernel
theorem dX5_unownedSize_11 : decode cX5_unownedSize 11 = .ok (.iload_n 2, 1) := by decide +kernel
theorem dX5_unownedSize_12 : decode cX5_unownedSize 12 = .ok (.invokevirtual 52, 3) := by decide +kernel
theorem dX5_unownedSize_15 : decode cX5_unownedSize 15 = .ok (.ifCond .eq 12, 3) := by decide +kernel
theorem dX5_unownedSize_18 : decode cX5_unownedSize 18 = .ok (.iload_n 1, 1) := by decide +kernel
theorem dX5_unownedSize_19 : decode cX5_unownedSize 19 = .ok (.aload_n 0, 1) := by decide +kernel
theorem dX5_unownedSize_20 : decode cX5_unownedSize 20 = .ok (.getfield 15, 3) := by decide +kernel
theorem dX5_unownedSize_23 : decode cX5_unownedSize 23 = .ok (.iload_n 2, 1) := by decide +kernel
theorem dX5_unownedSize_24 : decode cX5_unownedSize 24 = .ok (.iaload, 1) := by decide +kernel
theorem dX5_unownedSize_25 : decode cX5_unownedSize 25 = .ok (.iadd, 1) := by decide +kernel
theorem dX5_unownedSize_26 : decode cX5_unownedSize 26 = .ok (.istore_n 1, 1) := by decide +kernel
theorem dX5_unownedSize_27 : decode cX5_unownedSize 27 = .ok (.iinc 2 1, 3) := by decide +kernel
theorem dX5_unownedSize_30 : decode cX5_unownedSize 30 = .ok (.goto (-26), 3) := by decide +kernel
theorem dX5_unownedSize_33 : decode cX5_unownedSize 33 = .ok (.iload_n 1, 1) := by decide +kernel
theorem dX5_unownedSize_34 : decode cX5_unownedSize 34 = .ok (.ireturn, 1) := by decide +kernel
theorem dX5_mostOwners_0 : decode cX5_mostOwners 0 = .ok (.iconst 0, 1) := by decide +kernel
theorem dX5_mostOwners_1 : decode cX5_mostOwners 1 = .ok (.istore_n 1, 1) := by decide +kernel
theorem dX5_mostOwners_2 : decode cX5_mostOwners 2 = .ok (.iconst 0, 1) := by decide +kernel
theorem dX5_mostOwners_3 : decode cX5_mostOwners 3 = .ok (.istore_n 2, 1) := by decide +kernel
theorem dX5_mostOwners_4 : decode cX5_mostOwners 4 = .ok (.iload_n 2, 1) := by decide +kernel
theorem dX5_mostOwners_5 : decode cX5_mostOwners 5 = .ok (.bipush 60, 2) := by decide +kernel
theorem dX5_mostOwners_7 : decode cX5_mostOwners 7 = .ok (.if_icmp .ge 28, 3) := by decide +kernel
theorem dX5_mostOwners_10 : decode cX5_mostOwners 10 = .ok (.aload_n 0, 1) := by decide +kernel
theorem dX5_mostOwners_11 : decode cX5_mostOwners 11 = .ok (.iload_n 2, 1) := by decide +kernel
theorem dX5_mostOwners_12 : decode cX5_mostOwners 12 = .ok (.invokevirtual 77, 3) := by decide +kernel
theorem dX5_mostOwners_15 : decode cX5_mostOwners 15 = .ok (.ifCond .ne 14, 3) := by decide +kernel
theorem dX5_mostOwners_18 : decode cX5_mostOwners 18 = .ok (.iload_n 1, 1) := by decide +kernel
theorem dX5_mostOwners_19 : decode cX5_mostOwners 19 = .ok (.aload_n 0, 1) := by decide +kernel
theorem dX5_mostOwners_20 : decode cX5_mostOwners 20 = .ok (.getfield 19, 3) := by decide +kernel
theorem dX5_mostOwners_23 : decode cX5_mostOwners 23 = .ok (.iload_n 2, 1) := by decide +kernel
theorem dX5_mostOwners_24 : decode cX5_mostOwners 24 = .ok (.iaload, 1) := by decide +kernel
theorem dX5_mostOwners_25 : decode cX5_mostOwners 25 = .ok (.invokestatic 80, 3) := by decide +kernel
theorem dX5_mostOwners_28 : decode cX5_mostOwners 28 = .ok (.istore_n 1, 1) := by decide +kernel
theorem dX5_mostOwners_29 : decode cX5_mostOwners 29 = .ok (.iinc 2 1, 3) := by decide +kernel
theorem dX5_mostOwners_32 : decode cX5_mostOwners 32 = .ok (.goto (-28), 3) := by decide +kernel
theorem dX5_mostOwners_35 : decode cX5_mostOwners 35 = .ok (.iload_n 1, 1) := by decide +kernel
theorem dX5_mostOwners_36 : decode cX5_mostOwners 36 = .ok (.ireturn, 1) := by decide +kernel
theorem dX6_init_0 : decode cX6_init 0 = .ok (.aload_n 0, 1) := by decide +kernel
theorem dX6_init_1 : decode cX6_init 1 = .ok (.invokespecial 1, 3) := by decide +kernel
theorem dX6_init_4 : decode cX6_init 4 = .ok (.aload_n 0, 1) := by decide +kernel
theorem dX6_init_5 : decode cX6_init 5 = .ok (.new 7, 3) := by decide +kernel
theorem dX6_init_8 : decode cX6_init 8 = .ok (.dup, 1) := by decide +kernel
theorem dX6_init_9 : decode cX6_init 9 = .ok (.invokespecial 9, 3) := by decide +kernel
theorem dX6_init_12 : decode cX6_init 12 = .ok (.putfield 10, 3) := by decide +kernel
theorem dX6_init_15 : decode cX6_init 15 = .ok (.aload_n 0, 1) := by decide +kernel
theorem dX6_init_16 : decode cX6_init 16 = .ok (.new 16, 3) := by decide +kernel
theorem dX6_init_19 : decode cX6_init 19 = .ok (.dup, 1) := by decide +kernel
theorem dX6_init_20 : decode cX6_init 20 = .ok (.invokespecial 18, 3) := by decide +kernel
theorem dX6_init_23 : decode cX6_init 23 = .ok (.putfield 19, 3) := by decide +kernel
theorem dX6_init_26 : decode cX6_init 26 = .ok (.aload_n 0, 1) := by decide +kernel
theorem dX6_init_27 : decode cX6_init 27 = .ok (.new 23, 3) := by decide +kernel
theorem dX6_init_30 : decode cX6_init 30 = .ok (.dup, 1) := by decide +kernel
theorem dX6_init_31 : decode cX6_init 31 = .ok (.invokespecial 25, 3) := by decide +kernel
theorem dX6_init_34 : decode cX6_init 34 = .ok (.putfield 26, 3) := by decide +kernel
theorem dX6_init_37 : decode cX6_init 37 = .ok (.aload_n 0, 1) := by decide +kernel
theorem dX6_init_38 : decode cX6_init 38 = .ok (.new 7, 3) := by decide +kernel
theorem dX6_init_41 : decode cX6_init 41 = .ok (.dup, 1) := by decide +kernel
theorem dX6_init_42 : decode cX6_init 42 = .ok (.invokespecial 9, 3) := by decide +kernel
theorem dX6_init_45 : decode cX6_init 45 = .ok (.putfield 30, 3) := by decide +kernel
theorem dX6_init_48 : decode cX6_init 48 = .ok (.aload_n 0, 1) := by decide +kernel
theorem dX6_init_49 : decode cX6_init 49 = .ok (.new 33, 3) := by decide +kernel
theorem dX6_init_52 : decode cX6_init 52 = .ok (.dup, 1) := by decide +kernel
theorem dX6_init_53 : decode cX6_init 53 = .ok (.invokespecial 35, 3) := by decide +kernel
theorem dX6_init_56 : decode cX6_init 56 = .ok (.putfield 36, 3) := by decide +kernel
theorem dX6_init_59 : decode cX6_init 59 = .ok (.aload_n 0, 1) := by decide +kernel
theorem dX6_init_60 : decode cX6_init 60 = .ok (.new 40, 3) := by decide +kernel
theorem dX6_init_63 : decode cX6_init 63 = .ok (.dup, 1) := by decide +kernel
theorem dX6_init_64 : decode cX6_init 64 = .ok (.invokespecial 42, 3) := by decide +kernel
theorem dX6_init_67 : decode cX6_init 67 = .ok (.putfield 43, 3) := by decide +kernel
theorem dX6_init_70 : decode cX6_init 70 = .ok (.aload_n 0, 1) := by decide +kernel
theorem dX6_init_71 : decode cX6_init 71 = .ok (.sipush 160, 3) := by decide +kernel
theorem dX6_init_74 : decode cX6_init 74 = .ok (.newarray .long, 2) := by decide +kernel
theorem dX6_init_76 : decode cX6_init 76 = .ok (.putfield 47, 3) := by decide +kernel
theorem dX6_init_79 : decode cX6_init 79 = .ok (.return_, 1) := by decide +kernel
theorem dX6_put_0 : decode cX6_put 0 = .ok (.iload_n 1, 1) := by decide +kernel
theorem dX6_put_1 : decode cX6_put 1 = .ok (.invokestatic 51, 3) := by decide +kernel
theorem dX6_put_4 : decode cX6_put 4 = .ok (.aload_n 0, 1) := by decide +kernel
theorem dX6_put_5 : decode cX6_put 5 = .ok (.invokevirtual 55, 3) := by decide +kernel
theorem dX6_put_8 : decode cX6_put 8 = .ok (.aload_n 0, 1) := by decide +kernel
theorem dX6_put_9 : decode cX6_put 9 = .ok (.getfield 36, 3) := by decide +kernel
theorem dX6_put_12 : decode cX6_put 12 = .ok (.invokevirtual 58, 3) := by decide +kernel
theorem dX6_put_15 : decode cX6_put 15 = .ok (.aload_n 0, 1) := by decide +kernel
theorem dX6_put_16 : decode cX6_put 16 = .ok (.getfield 26, 3) := by decide +kernel
theorem dX6_put_19 : decode cX6_put 19 = .ok (.aload_n 0, 1) := by decide +kernel
theorem dX6_put_20 : decode cX6_put 20 = .ok (.getfield 36, 3) := by decide +kernel
theorem dX6_put_23 : decode cX6_put 23 = .ok (.invokevirtual 61, 3) := by decide +kernel
theorem dX6_put_26 : decode cX6_put 26 = .ok (.aload_n 0, 1) := by decide +kernel
theorem dX6_put_27 : decode cX6_put 27 = .ok (.iload_n 1, 1) := by decide +kernel
theorem dX6_put_28 : decode cX6_put 28 = .ok (.invokevirtual 65, 3) := by decide +kernel
theorem dX6_put_31 : decode cX6_put 31 = .ok (.istore_n 2, 1) := by decide +kernel
theorem dX6_put_32 : decode cX6_put 32 = .ok (.aload_n 0, 1) := by decide +kernel
theorem dX6_put_33 : decode cX6_put 33 = .ok (.getfield 26, 3) := by decide +kernel
theorem dX6_put_36 : decode cX6_put 36 = .ok (.invokevirtual 69, 3) := by decide +kernel
theorem dX6_put_39 : decode cX6_put 39 = .ok (.iload_n 2, 1) := by decide +kernel
theorem dX6_put_40 : decode cX6_put 40 = .ok (.ireturn, 1) := by decide +kernel
theorem dX6_takeOut_0 : decode cX6_takeOut 0 = .ok (.iload_n 1, 1) := by decide +kernel
theorem dX6_takeOut_1 : decode cX6_takeOut 1 = .ok (.invokestatic 51, 3) := by decide +kernel
theorem dX6_takeOut_4 : decode cX6_takeOut 4 = .ok (.aload_n 0, 1) := by decide +kernel
theorem dX6_takeOut_5 : decode cX6_takeOut 5 = .ok (.getfield 10, 3) := by decide +kernel
theorem dX6_takeOut_8 : decode cX6_takeOut 8 = .ok (.getfield 70, 3) := by decide +kernel
theorem dX6_takeOut_11 : decode cX6_takeOut 11 = .ok (.iload_n 1, 1) := by decide +kernel
theorem dX6_takeOut_12 : decode cX6_takeOut 12 = .ok (.aaload, 1) := by decide +kernel
theorem dX6_takeOut_13 : decode cX6_takeOut 13 = .ok (.astore 4, 2) := by decide +kernel
theorem dX6_takeOut_15 : decode cX6_takeOut 15 = .ok (.aload 4, 2) := by decide +kernel
theorem dX6_takeOut_17 : decode cX6_takeOut 17 = .ok (.iload_n 2, 1) := by decide +kernel
theorem dX6_takeOut_18 : decode cX6_takeOut 18 = .ok (.invokestatic 98, 3) := by decide +kernel
theorem dX6_takeOut_21 : decode cX6_takeOut 21 = .ok (.iload_n 3, 1) := by decide +kernel
theorem dX6_takeOut_22 : decode cX6_takeOut 22 = .ok (.iconst 1, 1) := by decide +kernel
theorem dX6_takeOut_23 : decode cX6_takeOut 23 = .ok (.if_icmp .lt 14, 3) := by decide +kernel
theorem dX6_takeOut_26 : decode cX6_takeOut 26 = .ok (.iload_n 3, 1) := by decide +kernel
theorem dX6_takeOut_27 : decode cX6_takeOut 27 = .ok (.aload 4, 2) := by decide +kernel
theorem dX6_takeOut_29 : decode cX6_takeOut 29 = .ok (.getfield 74, 3) := by decide +kernel
theorem dX6_takeOut_32 : decode cX6_takeOut 32 = .ok (.iload_n 2, 1) := by decide +kernel
theorem dX6_takeOut_33 : decode cX6_takeOut 33 = .ok (.isub, 1) := by decide +kernel
theorem dX6_takeOut_34 : decode cX6_takeOut 34 = .ok (.if_icmp .le 13, 3) := by decide +kernel
theorem dX6_takeOut_37 : decode cX6_takeOut 37 = .ok (.new 102, 3) := by decide +kernel
theorem dX6_takeOut_40 : decode cX6_takeOut 40 = .ok (.dup, 1) := by decide +kernel
theorem dX6_takeOut_41 : decode cX6_takeOut 41 = .ok (.ldc 104, 2) := by decide +kernel
theorem dX6_takeOut_43 : decode cX6_takeOut 43 = .ok (.invokespecial 106, 3) := by decide +kernel
theorem dX6_takeOut_46 : decode cX6_takeOut 46 = .ok (.athrow, 1) := by decide +kernel
theorem dX6_takeOut_47 : decode cX6_takeOut 47 = .ok (.aload_n 0, 1) := by decide +kernel
theorem dX6_takeOut_48 : decode cX6_takeOut 48 = .ok (.getfield 36, 3) := by decide +kernel
theorem dX6_takeOut_51 : decode cX6_takeOut 51 = .ok (.invokevirtual 58, 3) := by decide +kernel
theorem dX6_takeOut_54 : decode cX6_takeOut 54 = .ok (.aload_n 0, 1) := by decide +kernel
theorem dX6_takeOut_55 : decode cX6_takeOut 55 = .ok (.getfield 36, 3) := by decide +kernel
theorem dX6_takeOut_58 : decode cX6_takeOut 58 = .ok (.aload 4, 2) := by decide +kernel
theorem dX6_takeOut_60 : decode cX6_takeOut 60 = .ok (.iconst 0, 1) := by decide +kernel
theorem dX6_takeOut_61 : decode cX6_takeOut 61 = .ok (.iload_n 2, 1) := by decide +kernel
theorem dX6_takeOut_62 : decode cX6_takeOut 62 = .ok (.invokevirtual 94, 3) := by decide +kernel
theorem dX6_takeOut_65 : decode cX6_takeOut 65 = .ok (.aload_n 0, 1) := by decide +kernel
theorem dX6_takeOut_66 : decode cX6_takeOut 66 = .ok (.getfield 36, 3) := by decide +kernel
theorem dX6_takeOut_69 : decode cX6_takeOut 69 = .ok (.aload 4, 2) := by decide +kernel
theorem dX6_takeOut_71 : decode cX6_takeOut 71 = .ok (.iload_n 2, 1) := by decide +kernel
theorem dX6_takeOut_72 : decode cX6_takeOut 72 = .ok (.iload_n 3, 1) := by decide +kernel
theorem dX6_takeOut_73 : decode cX6_takeOut 73 = .ok (.iadd, 1) := by decide +kernel
theorem dX6_takeOut_74 : decode cX6_takeOut 74 = .ok (.aload 4, 2) := by decide +kernel
theorem dX6_takeOut_76 : decode cX6_takeOut 76 = .ok (.getfield 74, 3) := by decide +kernel
theorem dX6_takeOut_79 : decode cX6_takeOut 79 = .ok (.invokevirtual 94, 3) := by decide +kernel
theorem dX6_takeOut_82 : decode cX6_takeOut 82 = .ok (.aload_n 0, 1) := by decide +kernel
theorem dX6_takeOut_83 : decode cX6_takeOut 83 = .ok (.iload_n 1, 1) := by decide +kernel
theorem dX6_takeOut_84 : decode cX6_takeOut 84 = .ok (.invokevirtual 65, 3) := by decide +kernel
theorem dX6_takeOut_87 : decode cX6_takeOut 87 = .ok (.ireturn, 1) := by decide +kernel
theorem dX6_copy_0 : decode cX6_copy 0 = .ok (.iload_n 1, 1) := by decide +kernel
theorem dX6_copy_1 : decode cX6_copy 1 = .ok (.invokestatic 51, 3) := by decide +kernel
theorem dX6_copy_4 : decode cX6_copy 4 = .ok (.iload_n 2, 1) := by decide +kernel
theorem dX6_copy_5 : decode cX6_copy 5 = .ok (.invokestatic 51, 3) := by decide +kernel
theorem dX6_copy_8 : decode cX6_copy 8 = .ok (.aload_n 0, 1) := by decide +kernel
theorem dX6_copy_9 : decode cX6_copy 9 = .ok (.getfield 36, 3) := by decide +kernel
theorem dX6_copy_12 : decode cX6_copy 12 = .ok (.aload_n 0, 1) := by decide +kernel
theorem dX6_copy_13 : decode cX6_copy 13 = .ok (.getfield 10, 3) := by decide +kernel
theorem dX6_copy_16 : decode cX6_copy 16 = .ok (.getfield 70, 3) := by decide +kernel
theorem dX6_copy_19 : decode cX6_copy 19 = .ok (.iload_n 2, 1) := by decide +kernel
theorem dX6_copy_20 : decode cX6_copy 20 = .ok (.aaload, 1) := by decide +kernel
theorem dX6_copy_21 : decode cX6_copy 21 = .ok (.invokevirtual 107, 3) := by decide +kernel
theorem dX6_copy_24 : decode cX6_copy 24 = .ok (.aload_n 0, 1) := by decide +kernel
theorem dX6_copy_25 : decode cX6_copy 25 = .ok (.iload_n 1, 1) := by decide +kernel
theorem dX6_copy_26 : decode cX6_copy 26 = .ok (.invokevirtual 65, 3) := by decide +kernel
theorem dX6_copy_29 : decode cX6_copy 29 = .ok (.ireturn, 1) := by decide +kernel
theorem dX6_rotate_0 : decode cX6_rotate 0 = .ok (.iload_n 1, 1) := by decide +kernel
theorem dX6_rotate_1 : decode cX6_rotate 1 = .ok (.invokestatic 51, 3) := by decide +kernel
theorem dX6_rotate_4 : decode cX6_rotate 4 = .ok (.aload_n 0, 1) := by decide +kernel
theorem dX6_rotate_5 : decode cX6_rotate 5 = .ok (.getfield 10, 3) := by decide +kernel
theorem dX6_rotate_8 : decode cX6_rotate 8 = .ok (.getfield 70, 3) := by decide +kernel
theorem dX6_rotate_11 : decode cX6_rotate 11 = .ok (.iload_n 1, 1) := by decide +kernel
theorem dX6_rotate_12 : decode cX6_rotate 12 = .ok (.aaload, 1) := by decide +kernel
theorem dX6_rotate_13 : decode cX6_rotate 13 = .ok (.astore_n 3, 1) := by decide +kernel
theorem dX6_rotate_14 : decode cX6_rotate 14 = .ok (.iload_n 2, 1) := by decide +kernel
theorem dX6_rotate_15 : decode cX6_rotate 15 = .ok (.iconst 1, 1) := by decide +kernel
theorem dX6_rotate_16 : decode cX6_rotate 16 = .ok (.if_icmp .lt 11, 3) := by decide +kernel
theorem dX6_rotate_19 : decode cX6_rotate 19 = .ok (.iload_n 2, 1) := by decide +kernel
theorem dX6_rotate_20 : decode cX6_rotate 20 = .ok (.aload_n 3, 1) := by decide +kernel
theorem dX6_rotate_21 : decode cX6_rotate 21 = .ok (.getfield 74, 3) := by decide +kernel
theorem dX6_rotate_24 : decode cX6_rotate 24 = .ok (.if_icmp .le 13, 3) := by decide +kernel
theorem dX6_rotate_27 : decode cX6_rotate 27 = .ok (.new 102, 3) := by decide +kernel
theorem dX6_rotate_30 : decode cX6_rotate 30 = .ok (.dup, 1) := by decide +kernel
theorem dX6_rotate_31 : decode cX6_rotate 31 = .ok (.ldc 104, 2) := by decide +kernel
theorem dX6_rotate_33 : decode cX6_rotate 33 = .ok (.invokespecial 106, 3) := by decide +kernel
theorem dX6_rotate_36 : decode cX6_rotate 36 = .ok (.athrow, 1) := by decide +kernel
theorem dX6_rotate_37 : decode cX6_rotate 37 = .ok (.aload_n 0, 1) := by decide +kernel
theorem dX6_rotate_38 : decode cX6_rotate 38 = .ok (.getfield 36, 3) := by decide +kernel
theorem dX6_rotate_41 : decode cX6_rotate 41 = .ok (.invokevirtual 58, 3) := by decide +kernel
theorem dX6_rotate_44 : decode cX6_rotate 44 = .ok (.aload_n 0, 1) := by decide +kernel
theorem dX6_rotate_45 : decode cX6_rotate 45 = .ok (.getfield 36, 3) := by decide +kernel
theorem dX6_rotate_48 : decode cX6_rotate 48 = .ok (.aload_n 3, 1) := by decide +kernel
theorem dX6_rotate_49 : decode cX6_rotate 49 = .ok (.iload_n 2, 1) := by decide +kernel
theorem dX6_rotate_50 : decode cX6_rotate 50 = .ok (.aload_n 3, 1) := by decide +kernel
theorem dX6_rotate_51 : decode cX6_rotate 51 = .ok (.getfield 74, 3) := by decide +kernel
theorem dX6_rotate_54 : decode cX6_rotate 54 = .ok (.invokevirtual 94, 3) := by decide +kernel
theorem dX6_rotate_57 : decode cX6_rotate 57 = .ok (.aload_n 0, 1) := by decide +kernel
theorem dX6_rotate_58 : decode cX6_rotate 58 = .ok (.getfield 36, 3) := by decide +kernel
theorem dX6_rotate_61 : decode cX6_rotate 61 = .ok (.aload_n 3, 1) := by decide +kernel
theorem dX6_rotate_62 : decode cX6_rotate 62 = .ok (.iconst 0, 1) := by decide +kernel
theorem dX6_rotate_63 : decode cX6_rotate 63 = .ok (.iload_n 2, 1) := by decide +kernel
theorem dX6_rotate_64 : decode cX6_rotate 64 = .ok (.invokevirtual 94, 3) := by decide +kernel
theorem dX6_rotate_67 : decode cX6_rotate 67 = .ok (.aload_n 0, 1) := by decide +kernel
theorem dX6_rotate_68 : decode cX6_rotate 68 = .ok (.iload_n 1, 1) := by decide +kernel
theorem dX6_rotate_69 : decode cX6_rotate 69 = .ok (.invokevirtual 65, 3) := by decide +kernel
theorem dX6_rotate_72 : decode cX6_rotate 72 = .ok (.ireturn, 1) := by decide +kernel
theorem dX6_drop_0 : decode cX6_drop 0 = .ok (.iload_n 1, 1) := by decide +kernel
theorem dX6_drop_1 : decode cX6_drop 1 = .ok (.invokestatic 51, 3) := by decide +kernel
theorem dX6_drop_4 : decode cX6_drop 4 = .ok (.aload_n 0, 1) := by decide +kernel
theorem dX6_drop_5 : decode cX6_drop 5 = .ok (.getfield 10, 3) := by decide +kernel
theorem dX6_drop_8 : decode cX6_drop 8 = .ok (.getfield 70, 3) := by decide +kernel
theorem dX6_drop_11 : decode cX6_drop 11 = .ok (.iload_n 1, 1) := by decide +kernel
theorem dX6_drop_12 : decode cX6_drop 12 = .ok (.aaload, 1) := by decide +kernel
theorem dX6_drop_13 : decode cX6_drop 13 = .ok (.astore_n 2, 1) := by decide +kernel
theorem dX6_drop_14 : decode cX6_drop 14 = .ok (.aload_n 2, 1) := by decide +kernel
theorem dX6_drop_15 : decode cX6_drop 15 = .ok (.getfield 74, 3) := by decide +kernel
theorem dX6_drop_18 : decode cX6_drop 18 = .ok (.istore_n 3, 1) := by decide +kernel
theorem dX6_drop_19 : decode cX6_drop 19 = .ok (.aload_n 0, 1) := by decide +kernel
theorem dX6_drop_20 : decode cX6_drop 20 = .ok (.getfield 19, 3) := by decide +kernel
theorem dX6_drop_23 : decode cX6_drop 23 = .ok (.aload_n 0, 1) := by decide +kernel
theorem dX6_drop_24 : decode cX6_drop 24 = .ok (.getfield 10, 3) := by decide +kernel
theorem dX6_drop_27 : decode cX6_drop 27 = .ok (.invokevirtual 110, 3) := by decide +kernel
theorem dX6_drop_30 : decode cX6_drop 30 = .ok (.aload_n 0, 1) := by decide +kernel
theorem dX6_drop_31 : decode cX6_drop 31 = .ok (.getfield 10, 3) := by decide +kernel
theorem dX6_drop_34 : decode cX6_drop 34 = .ok (.getfield 114, 3) := by decide +kernel
theorem dX6_drop_37 : decode cX6_drop 37 = .ok (.aload_n 2, 1) := by decide +kernel
theorem dX6_drop_38 : decode cX6_drop 38 = .ok (.invokevirtual 118, 3) := by decide +kernel
theorem dX6_drop_41 : decode cX6_drop 41 = .ok (.aload_n 2, 1) := by decide +kernel
theorem dX6_drop_42 : decode cX6_drop 42 = .ok (.invokevirtual 58, 3) := by decide +kernel
theorem dX6_drop_45 : decode cX6_drop 45 = .ok (.iload_n 3, 1) := by decide +kernel
theorem dX6_drop_46 : decode cX6_drop 46 = .ok (.ireturn, 1) := by decide +kernel
theorem dX6_sweep_0 : decode cX6_sweep 0 = .ok (.aload_n 0, 1) := by decide +kernel
theorem dX6_sweep_1 : decode cX6_sweep 1 = .ok (.getfield 19, 3) := by decide +kernel
theorem dX6_sweep_4 : decode cX6_sweep 4 = .ok (.aload_n 0, 1) := by decide +kernel
theorem dX6_sweep_5 : decode cX6_sweep 5 = .ok (.getfield 10, 3) := by decide +kernel
theorem dX6_sweep_8 : decode cX6_sweep 8 = .ok (.invokevirtual 110, 3) := by decide +kernel
theorem dX6_sweep_11 : decode cX6_sweep 11 = .ok (.aload_n 0, 1) := by decide +kernel
theorem dX6_sweep_12 : decode cX6_sweep 12 = .ok (.getfield 36, 3) := by decide +kernel
theorem dX6_sweep_15 : decode cX6_sweep 15 = .ok (.invokevirtual 58, 3) := by decide +kernel
theorem dX6_sweep_18 : decode cX6_sweep 18 = .ok (.aload_n 0, 1) := by decide +kernel
theorem dX6_sweep_19 : decode cX6_sweep 19 = .ok (.getfield 10, 3) := by decide +kernel
theorem dX6_sweep_22 : decode cX6_sweep 22 = .ok (.getfield 114, 3) := by decide +kernel
theorem dX6_sweep_25 : decode cX6_sweep 25 = .ok (.aload_n 0, 1) := by decide +kernel
theorem dX6_sweep_26 : decode cX6_sweep 26 = .ok (.getfield 36, 3) := by decide +kernel
theorem dX6_sweep_29 : decode cX6_sweep 29 = .ok (.invokevirtual 123, 3) := by decide +kernel
theorem dX6_sweep_32 : decode cX6_sweep 32 = .ok (.ireturn, 1) := by decide +kernel
theorem dX6_set_0 : decode cX6_set 0 = .ok (.iload_n 1, 1) := by decide +kernel
theorem dX6_set_1 : decode cX6_set 1 = .ok (.invokestatic 127, 3) := by decide +kernel
theorem dX6_set_4 : decode cX6_set 4 = .ok (.iload_n 1, 1) := by decide +kernel
theorem dX6_set_5 : decode cX6_set 5 = .ok (.iload_n 2, 1) := by decide +kernel
theorem dX6_set_6 : decode cX6_set 6 = .ok (.invokestatic 130, 3) := by decide +kernel
theorem dX6_set_9 : decode cX6_set 9 = .ok (.aload_n 0, 1) := by decide +kernel
theorem dX6_set_10 : decode cX6_set 10 = .ok (.getfield 10, 3) := by decide +kernel
theorem dX6_set_13 : decode cX6_set 13 = .ok (.getfield 134, 3) := by decide +kernel
theorem dX6_set_16 : decode cX6_set 16 = .ok (.getfield 137, 3) := by decide +kernel
theorem dX6_set_19 : decode cX6_set 19 = .ok (.iload_n 1, 1) := by decide +kernel
theorem dX6_set_20 : decode cX6_set 20 = .ok (.iaload, 1) := by decide +kernel
theorem dX6_set_21 : decode cX6_set 21 = .ok (.istore_n 3, 1) := by decide +kernel
theorem dX6_set_22 : decode cX6_set 22 = .ok (.aload_n 0, 1) := by decide +kernel
theorem dX6_set_23 : decode cX6_set 23 = .ok (.getfield 19, 3) := by decide +kernel
theorem dX6_set_26 : decode cX6_set 26 = .ok (.aload_n 0, 1) := by decide +kernel
theorem dX6_set_27 : decode cX6_set 27 = .ok (.getfield 10, 3) := by decide +kernel
theorem dX6_set_30 : decode cX6_set 30 = .ok (.invokevirtual 110, 3) := by decide +kernel
theorem dX6_set_33 : decode cX6_set 33 = .ok (.aload_n 0, 1) := by decide +kernel
theorem dX6_set_34 : decode cX6_set 34 = .ok (.getfield 10, 3) := by decide +kernel
theorem dX6_set_37 : decode cX6_set 37 = .ok (.getfield 134, 3) := by decide +kernel
theorem dX6_set_40 : decode cX6_set 40 = .ok (.getfield 137, 3) := by decide +kernel
theorem dX6_set_43 : decode cX6_set 43 = .ok (.iload_n 1, 1) := by decide +kernel
theorem dX6_set_44 : decode cX6_set 44 = .ok (.iload_n 2, 1) := by decide +kernel
theorem dX6_set_45 : decode cX6_set 45 = .ok (.iastore, 1) := by decide +kernel
theorem dX6_set_46 : decode cX6_set 46 = .ok (.iload_n 3, 1) := by decide +kernel
theorem dX6_set_47 : decode cX6_set 47 = .ok (.ireturn, 1) := by decide +kernel
theorem dX6_append_0 : decode cX6_append 0 = .ok (.iload_n 1, 1) := by decide +kernel
theorem dX6_append_1 : decode cX6_append 1 = .ok (.bipush 33, 2) := by decide +kernel
theorem dX6_append_3 : decode cX6_append 3 = .ok (.if_icmp .lt 9, 3) := by decide +kernel
theorem dX6_append_6 : decode cX6_append 6 = .ok (.iload_n 1, 1) := by decide +kernel
theorem dX6_append_7 : decode cX6_append 7 = .ok (.bipush 126, 2) := by decide +kernel
theorem dX6_append_9 : decode cX6_append 9 = .ok (.if_icmp .le 13, 3) := by decide +kernel
theorem dX6_append_12 : decode cX6_append 12 = .ok (.new 102, 3) := by decide +kernel
theorem dX6_append_15 : decode cX6_append 15 = .ok (.dup, 1) := by decide +kernel
theorem dX6_append_16 : decode cX6_append 16 = .ok (.ldc 141, 2) := by decide +kernel
theorem dX6_append_18 : decode cX6_append 18 = .ok (.invokespecial 106, 3) := by decide +kernel
theorem dX6_append_21 : decode cX6_append 21 = .ok (.athrow, 1) := by decide +kernel
theorem dX6_append_22 : decode cX6_append 22 = .ok (.aload_n 0, 1) := by decide +kernel
theorem dX6_append_23 : decode cX6_append 23 = .ok (.getfield 26, 3) := by decide +kernel
theorem dX6_append_26 : decode cX6_append 26 = .ok (.getfield 143, 3) := by decide +kernel
theorem dX6_append_29 : decode cX6_append 29 = .ok (.bipush 60, 2) := by decide +kernel
theorem dX6_append_31 : decode cX6_append 31 = .ok (.if_icmp .lt 13, 3) := by decide +kernel
theorem dX6_append_34 : decode cX6_append 34 = .ok (.new 89, 3) := by decide +kernel
theorem dX6_append_37 : decode cX6_append 37 = .ok (.dup, 1) := by decide +kernel
theorem dX6_append_38 : decode cX6_append 38 = .ok (.ldc 144, 2) := by decide +kernel
theorem dX6_append_40 : decode cX6_append 40 = .ok (.invokespecial 93, 3) := by decide +kernel
theorem dX6_append_43 : decode cX6_append 43 = .ok (.athrow, 1) := by decide +kernel
theorem dX6_append_44 : decode cX6_append 44 = .ok (.aload_n 0, 1) := by decide +kernel
theorem dX6_append_45 : decode cX6_append 45 = .ok (.getfield 26, 3) := by decide +kernel
theorem dX6_append_48 : decode cX6_append 48 = .ok (.iload_n 1, 1) := by decide +kernel
theorem dX6_append_49 : decode cX6_append 49 = .ok (.invokevirtual 146, 3) := by decide +kernel
theorem dX6_append_52 : decode cX6_append 52 = .ok (.aload_n 0, 1) := by decide +kernel
theorem dX6_append_53 : decode cX6_append 53 = .ok (.getfield 26, 3) := by decide +kernel
theorem dX6_append_56 : decode cX6_append 56 = .ok (.getfield 143, 3) := by decide +kernel
theorem dX6_append_59 : decode cX6_append 59 = .ok (.ireturn, 1) := by decide +kernel
theorem dX6_clearBuffer_0 : decode cX6_clearBuffer 0 = .ok (.aload_n 0, 1) := by decide +kernel
theorem dX6_clearBuffer_1 : decode cX6_clearBuffer 1 = .ok (.getfield 26, 3) := by decide +kernel
theorem dX6_clearBuffer_4 : decode cX6_clearBuffer 4 = .ok (.getfield 143, 3) := by decide +kernel
theorem dX6_clearBuffer_7 : decode cX6_clearBuffer 7 = .ok (.istore_n 1, 1) := by decide +kernel
theorem dX6_clearBuffer_8 : decode cX6_clearBuffer 8 = .ok (.aload_n 0, 1) := by decide +kernel
theorem dX6_clearBuffer_9 : decode cX6_clearBuffer 9 = .ok (.getfield 26, 3) := by decide +kernel
theorem dX6_clearBuffer_12 : decode cX6_clearBuffer 12 = .ok (.invokevirtual 69, 3) := by decide +kernel
theorem dX6_clearBuffer_15 : decode cX6_clearBuffer 15 = .ok (.iload_n 1, 1) := by decide +kernel
theorem dX6_clearBuffer_16 : decode cX6_clearBuffer 16 = .ok (.ireturn, 1) := by decide +kernel
theorem dX6_sign_0 : decode cX6_sign 0 = .ok (.iload_n 1, 1) := by decide +kernel
theorem dX6_sign_1 : decode cX6_sign 1 = .ok (.invokestatic 51, 3) := by decide +kernel
theorem dX6_sign_4 : decode cX6_sign 4 = .ok (.aload_n 0, 1) := by decide +kernel
theorem dX6_sign_5 : decode cX6_sign 5 = .ok (.getfield 10, 3) := by decide +kernel
theorem dX6_sign_8 : decode cX6_sign 8 = .ok (.getfield 70, 3) := by decide +kernel
theorem dX6_sign_11 : decode cX6_sign 11 = .ok (.iload_n 1, 1) := by decide +kernel
theorem dX6_sign_12 : decode cX6_sign 12 = .ok (.aaload, 1) := by decide +kernel
theorem dX6_sign_13 : decode cX6_sign 13 = .ok (.astore 4, 2) := by decide +kernel
theorem dX6_sign_15 : decode cX6_sign 15 = .ok (.aload 4, 2) := by decide +kernel
theorem dX6_sign_17 : decode cX6_sign 17 = .ok (.iload_n 2, 1) := by decide +kernel
theorem dX6_sign_18 : decode cX6_sign 18 = .ok (.invokestatic 98, 3) := by decide +kernel
theorem dX6_sign_21 : decode cX6_sign 21 = .ok (.iload_n 3, 1) := by decide +kernel
theorem dX6_sign_22 : decode cX6_sign 22 = .ok (.iconst 3, 1) := by decide +kernel
theorem dX6_sign_23 : decode cX6_sign 23 = .ok (.invokestatic 160, 3) := by decide +kernel
theorem dX6_sign_26 : decode cX6_sign 26 = .ok (.iload_n 3, 1) := by decide +kernel
theorem dX6_sign_27 : decode cX6_sign 27 = .ok (.tableswitch 54 0 2 #[25, 33, 47], 25) := by decide +kernel
theorem dX6_sign_52 : decode cX6_sign 52 = .ok (.aload 4, 2) := by decide +kernel
theorem dX6_sign_54 : decode cX6_sign 54 = .ok (.getfield 163, 3) := by decide +kernel
theorem dX6_sign_57 : decode cX6_sign 57 = .ok (.iload_n 2, 1) := by decide +kernel
theorem dX6_sign_58 : decode cX6_sign 58 = .ok (.iaload, 1) := by decide +kernel
theorem dX6_sign_59 : decode cX6_sign 59 = .ok (.ireturn, 1) := by decide +kernel
theorem dX6_sign_60 : decode cX6_sign 60 = .ok (.aload_n 0, 1) := by decide +kernel
theorem dX6_sign_61 : decode cX6_sign 61 = .ok (.getfield 10, 3) := by decide +kernel
theorem dX6_sign_64 : decode cX6_sign 64 = .ok (.getfield 134, 3) := by decide +kernel
theorem dX6_sign_67 : decode cX6_sign 67 = .ok (.aload 4, 2) := by decide +kernel
theorem dX6_sign_69 : decode cX6_sign 69 = .ok (.iload_n 2, 1) := by decide +kernel
theorem dX6_sign_70 : decode cX6_sign 70 = .ok (.invokevirtual 165, 3) := by decide +kernel
theorem dX6_sign_73 : decode cX6_sign 73 = .ok (.ireturn, 1) := by decide +kernel
theorem dX6_sign_74 : decode cX6_sign 74 = .ok (.aload 4, 2) := by decide +kernel
theorem dX6_sign_76 : decode cX6_sign 76 = .ok (.iload_n 2, 1) := by decide +kernel
theorem dX6_sign_77 : decode cX6_sign 77 = .ok (.invokevirtual 169, 3) := by decide +kernel
theorem dX6_sign_80 : decode cX6_sign 80 = .ok (.ireturn, 1) := by decide +kernel
theorem dX6_sign_81 : decode cX6_sign 81 = .ok (.aload 4, 2) := by decide +kernel
theorem dX6_sign_83 : decode cX6_sign 83 = .ok (.iload_n 2, 1) := by decide +kernel
theorem dX6_sign_84 : decode cX6_sign 84 = .ok (.invokevirtual 172, 3) := by decide +kernel
theorem dX6_sign_87 : decode cX6_sign 87 = .ok (.ifCond .eq 7, 3) := by decide +kernel
theorem dX6_sign_90 : decode cX6_sign 90 = .ok (.iconst 1, 1) := by decide +kernel
theorem dX6_sign_91 : decode cX6_sign 91 = .ok (.goto 4, 3) := by decide +kernel
theorem dX6_sign_94 : decode cX6_sign 94 = .ok (.iconst 0, 1) := by decide +kernel
theorem dX6_sign_95 : decode cX6_sign 95 = .ok (.ireturn, 1) := by decide +kernel
theorem dX6_piece_0 : decode cX6_piece 0 = .ok (.iload_n 1, 1) := by decide +kernel
theorem dX6_piece_1 : decode cX6_piece 1 = .ok (.invokestatic 51, 3) := by decide +kernel
theorem dX6_piece_4 : decode cX6_piece 4 = .ok (.iload_n 2, 1) := by decide +kernel
theorem dX6_piece_5 : decode cX6_piece 5 = .ok (.ifCond .ge 13, 3) := by decide +kernel
theorem dX6_piece_8 : decode cX6_piece 8 = .ok (.new 102, 3) := by decide +kernel
theorem dX6_piece_11 : decode cX6_piece 11 = .ok (.dup, 1) := by decide +kernel
theorem dX6_piece_12 : decode cX6_piece 12 = .ok (.ldc 176, 2) := by decide +kernel
theorem dX6_piece_14 : decode cX6_piece 14 = .ok (.invokespecial 106, 3) := by decide +kernel
theorem dX6_piece_17 : decode cX6_piece 17 = .ok (.athrow, 1) := by decide +kernel
theorem dX6_piece_18 : decode cX6_piece 18 = .ok (.iload_n 3, 1) := by decide +kernel
theorem dX6_piece_19 : decode cX6_piece 19 = .ok (.iconst 4, 1) := by decide +kernel
theorem dX6_piece_20 : decode cX6_piece 20 = .ok (.invokestatic 160, 3) := by decide +kernel
theorem dX6_piece_23 : decode cX6_piece 23 = .ok (.aload_n 0, 1) := by decide +kernel
theorem dX6_piece_24 : decode cX6_piece 24 = .ok (.getfield 10, 3) := by decide +kernel
theorem dX6_piece_27 : decode cX6_piece 27 = .ok (.getfield 70, 3) := by decide +kernel
theorem dX6_piece_30 : decode cX6_piece 30 = .ok (.iload_n 1, 1) := by decide +kernel
theorem dX6_piece_31 : decode cX6_piece 31 = .ok (.aaload, 1) := by decide +kernel
theorem dX6_piece_32 : decode cX6_piece 32 = .ok (.astore 4, 2) := by decide +kernel
theorem dX6_piece_34 : decode cX6_piece 34 = .ok (.iload_n 2, 1) := by decide +kernel
theorem dX6_piece_35 : decode cX6_piece 35 = .ok (.aload 4, 2) := by decide +kernel
theorem dX6_piece_37 : decode cX6_piece 37 = .ok (.getfield 178, 3) := by decide +kernel
theorem dX6_piece_40 : decode cX6_piece 40 = .ok (.if_icmp .lt 5, 3) := by decide +kernel
theorem dX6_piece_43 : decode cX6_piece 43 = .ok (.iconst (-1), 1) := by decide +kernel
theorem dX6_piece_44 : decode cX6_piece 44 = .ok (.ireturn, 1) := by decide +kernel
theorem dX6_piece_45 : decode cX6_piece 45 = .ok (.iload_n 3, 1) := by decide +kernel
theorem dX6_piece_46 : decode cX6_piece 46 = .ok (.tableswitch 72 0 3 #[30, 48, 56, 64], 30) := by decide +kernel
theorem dX6_piece_76 : decode cX6_piece 76 = .ok (.aload_n 0, 1) := by decide +kernel
theorem dX6_piece_77 : decode cX6_piece 77 = .ok (.getfield 10, 3) := by decide +kernel
theorem dX6_piece_80 : decode cX6_piece 80 = .ok (.getfield 114, 3) := by decide +kernel
theorem dX6_piece_83 : decode cX6_piece 83 = .ok (.aload 4, 2) := by decide +kernel
theorem dX6_piece_85 : decode cX6_piece 85 = .ok (.getfield 181, 3) := by decide +kernel
theorem dX6_piece_88 : decode cX6_piece 88 = .ok (.iload_n 2, 1) := by decide +kernel
theorem dX6_piece_89 : decode cX6_piece 89 = .ok (.laload, 1) := by decide +kernel
theorem dX6_piece_90 : decode cX6_piece 90 = .ok (.invokevirtual 184, 3) := by decide +kernel
theorem dX6_piece_93 : decode cX6_piece 93 = .ok (.ireturn, 1) := by decide +kernel
theorem dX6_piece_94 : decode cX6_piece 94 = .ok (.aload 4, 2) := by decide +kernel
theorem dX6_piece_96 : decode cX6_piece 96 = .ok (.getfield 188, 3) := by decide +kernel
theorem dX6_piece_99 : decode cX6_piece 99 = .ok (.iload_n 2, 1) := by decide +kernel
theorem dX6_piece_100 : decode cX6_piece 100 = .ok (.iaload, 1) := by decide +kernel
theorem dX6_piece_101 : decode cX6_piece 101 = .ok (.ireturn, 1) := by decide +kernel
theorem dX6_piece_102 : decode cX6_piece 102 = .ok (.aload 4, 2) := by decide +kernel
theorem dX6_piece_104 : decode cX6_piece 104 = .ok (.getfield 191, 3) := by decide +kernel
theorem dX6_piece_107 : decode cX6_piece 107 = .ok (.iload_n 2, 1) := by decide +kernel
theorem dX6_piece_108 : decode cX6_piece 108 = .ok (.iaload, 1) := by decide +kernel
theorem dX6_piece_109 : decode cX6_piece 109 = .ok (.ireturn, 1) := by decide +kernel
theorem dX6_piece_110 : decode cX6_piece 110 = .ok (.aload 4, 2) := by decide +kernel
theorem dX6_piece_112 : decode cX6_piece 112 = .ok (.getfield 194, 3) := by decide +kernel
theorem dX6_piece_115 : decode cX6_piece 115 = .ok (.iload_n 2, 1) := by decide +kernel
theorem dX6_piece_116 : decode cX6_piece 116 = .ok (.iaload, 1) := by decide +kernel
theorem dX6_piece_117 : decode cX6_piece 117 = .ok (.ireturn, 1) := by decide +kernel
theorem dX6_piece_118 : decode cX6_piece 118 = .ok (.aload_n 0, 1) := by decide +kernel
theorem dX6_piece_119 : decode cX6_piece 119 = .ok (.getfield 10, 3) := by decide +kernel
theorem dX6_piece_122 : decode cX6_piece 122 = .ok (.aload 4, 2) := by decide +kernel
theorem dX6_piece_124 : decode cX6_piece 124 = .ok (.getfield 181, 3) := by decide +kernel
theorem dX6_piece_127 : decode cX6_piece 127 = .ok (.iload_n 2, 1) := by decide +kernel
theorem dX6_piece_128 : decode cX6_piece 128 = .ok (.laload, 1) := by decide +kernel
theorem dX6_piece_129 : decode cX6_piece 129 = .ok (.invokevirtual 197, 3) := by decide +kernel
theorem dX6_piece_132 : decode cX6_piece 132 = .ok (.invokestatic 200, 3) := by decide +kernel
theorem dX6_piece_135 : decode cX6_piece 135 = .ok (.iconst 1, 1) := by decide +kernel
theorem dX6_piece_136 : decode cX6_piece 136 = .ok (.isub, 1) := by decide +kernel
theorem dX6_piece_137 : decode cX6_piece 137 = .ok (.ireturn, 1) := by decide +kernel
theorem dX6_slot_0 : decode cX6_slot 0 = .ok (.iload_n 1, 1) := by decide +kernel
theorem dX6_slot_1 : decode cX6_slot 1 = .ok (.ifCond .lt 9, 3) := by decide +kernel
theorem dX6_slot_4 : decode cX6_slot 4 = .ok (.iload_n 1, 1) := by decide +kernel
theorem dX6_slot_5 : decode cX6_slot 5 = .ok (.bipush 60, 2) := by decide +kernel
theorem dX6_slot_7 : decode cX6_slot 7 = .ok (.if_icmp .lt 13, 3) := by decide +kernel
theorem dX6_slot_10 : decode cX6_slot 10 = .ok (.new 78, 3) := by decide +kernel
theorem dX6_slot_13 : decode cX6_slot 13 = .ok (.dup, 1) := by decide +kernel
theorem dX6_slot_14 : decode cX6_slot 14 = .ok (.ldc 205, 2) := by decide +kernel
theorem dX6_slot_16 : decode cX6_slot 16 = .ok (.invokespecial 82, 3) := by decide +kernel
theorem dX6_slot_19 : decode cX6_slot 19 = .ok (.athrow, 1) := by decide +kernel
theorem dX6_slot_20 : decode cX6_slot 20 = .ok (.iload_n 2, 1) := by decide +kernel
theorem dX6_slot_21 : decode cX6_slot 21 = .ok (.iconst 4, 1) := by decide +kernel
theorem dX6_slot_22 : decode cX6_slot 22 = .ok (.invokestatic 160, 3) := by decide +kernel
theorem dX6_slot_25 : decode cX6_slot 25 = .ok (.aload_n 0, 1) := by decide +kernel
theorem dX6_slot_26 : decode cX6_slot 26 = .ok (.getfield 10, 3) := by decide +kernel
theorem dX6_slot_29 : decode cX6_slot 29 = .ok (.getfield 114, 3) := by decide +kernel
theorem dX6_slot_32 : decode cX6_slot 32 = .ok (.astore_n 3, 1) := by decide +kernel
theorem dX6_slot_33 : decode cX6_slot 33 = .ok (.aload_n 3, 1) := by decide +kernel
theorem dX6_slot_34 : decode cX6_slot 34 = .ok (.iload_n 1, 1) := by decide +kernel
theorem dX6_slot_35 : decode cX6_slot 35 = .ok (.invokevirtual 207, 3) := by decide +kernel
theorem dX6_slot_38 : decode cX6_slot 38 = .ok (.ifCond .eq 5, 3) := by decide +kernel
theorem dX6_slot_41 : decode cX6_slot 41 = .ok (.iconst (-1), 1) := by decide +kernel
theorem dX6_slot_42 : decode cX6_slot 42 = .ok (.ireturn, 1) := by decide +kernel
theorem dX6_slot_43 : decode cX6_slot 43 = .ok (.iload_n 2, 1) := by decide +kernel
theorem dX6_slot_44 : decode cX6_slot 44 = .ok (.tableswitch 58 0 3 #[32, 39, 46, 52], 32) := by decide +kernel
theorem dX6_slot_76 : decode cX6_slot 76 = .ok (.aload_n 3, 1) := by decide +kernel
theorem dX6_slot_77 : decode cX6_slot 77 = .ok (.getfield 210, 3) := by decide +kernel
theorem dX6_slot_80 : decode cX6_slot 80 = .ok (.iload_n 1, 1) := by decide +kernel
theorem dX6_slot_81 : decode cX6_slot 81 = .ok (.iaload, 1) := by decide +kernel
theorem dX6_slot_82 : decode cX6_slot 82 = .ok (.ireturn, 1) := by decide +kernel
theorem dX6_slot_83 : decode cX6_slot 83 = .ok (.aload_n 3, 1) := by decide +kernel
theorem dX6_slot_84 : decode cX6_slot 84 = .ok (.getfield 211, 3) := by decide +kernel
theorem dX6_slot_87 : decode cX6_slot 87 = .ok (.iload_n 1, 1) := by decide +kernel
theorem dX6_slot_88 : decode cX6_slot 88 = .ok (.iaload, 1) := by decide +kernel
theorem dX6_slot_89 : decode cX6_slot 89 = .ok (.ireturn, 1) := by decide +kernel
theorem dX6_slot_90 : decode cX6_slot 90 = .ok (.aload_n 3, 1) := by decide +kernel
theorem dX6_slot_91 : decode cX6_slot 91 = .ok (.iload_n 1, 1) := by decide +kernel
theorem dX6_slot_92 : decode cX6_slot 92 = .ok (.invokevirtual 214, 3) := by decide +kernel
theorem dX6_slot_95 : decode cX6_slot 95 = .ok (.ireturn, 1) := by decide +kernel
theorem dX6_slot_96 : decode cX6_slot 96 = .ok (.aload_n 3, 1) := by decide +kernel
theorem dX6_slot_97 : decode cX6_slot 97 = .ok (.iload_n 1, 1) := by decide +kernel
theorem dX6_slot_98 : decode cX6_slot 98 = .ok (.invokevirtual 217, 3) := by decide +kernel
theorem dX6_slot_101 : decode cX6_slot 101 = .ok (.ireturn, 1) := by decide +kernel
theorem dX6_slot_102 : decode cX6_slot 102 = .ok (.aload_n 0, 1) := by decide +kernel
theorem dX6_slot_103 : decode cX6_slot 103 = .ok (.getfield 10, 3) := by decide +kernel
theorem dX6_slot_106 : decode cX6_slot 106 = .ok (.aload_n 3, 1) := by decide +kernel
theorem dX6_slot_107 : decode cX6_slot 107 = .ok (.getfield 220, 3) := by decide +kernel
theorem dX6_slot_110 : decode cX6_slot 110 = .ok (.iload_n 1, 1) := by decide +kernel
theorem dX6_slot_111 : decode cX6_slot 111 = .ok (.laload, 1) := by decide +kernel
theorem dX6_slot_112 : decode cX6_slot 112 = .ok (.invokevirtual 197, 3) := by decide +kernel
theorem dX6_slot_115 : decode cX6_slot 115 = .ok (.ireturn, 1) := by decide +kernel
theorem dX6_text_0 : decode cX6_text 0 = .ok (.iload_n 1, 1) := by decide +kernel
theorem dX6_text_1 : decode cX6_text 1 = .ok (.invokestatic 51, 3) := by decide +kernel
theorem dX6_text_4 : decode cX6_text 4 = .ok (.iload_n 2, 1) := by decide +kernel
theorem dX6_text_5 : decode cX6_text 5 = .ok (.iconst 5, 1) := by decide +kernel
theorem dX6_text_6 : decode cX6_text 6 = .ok (.invokestatic 160, 3) := by decide +kernel
theorem dX6_text_9 : decode cX6_text 9 = .ok (.aload_n 0, 1) := by decide +kernel
theorem dX6_text_10 : decode cX6_text 10 = .ok (.getfield 10, 3) := by decide +kernel
theorem dX6_text_13 : decode cX6_text 13 = .ok (.getfield 70, 3) := by decide +kernel
theorem dX6_text_16 : decode cX6_text 16 = .ok (.iload_n 1, 1) := by decide +kernel
theorem dX6_text_17 : decode cX6_text 17 = .ok (.aaload, 1) := by decide +kernel
theorem dX6_text_18 : decode cX6_text 18 = .ok (.astore_n 3, 1) := by decide +kernel
theorem dX6_text_19 : decode cX6_text 19 = .ok (.iload_n 2, 1) := by decide +kernel
theorem dX6_text_20 : decode cX6_text 20 = .ok (.tableswitch 61 0 4 #[36, 41, 46, 51, 56], 36) := by decide +kernel
theorem dX6_text_56 : decode cX6_text 56 = .ok (.aload_n 3, 1) := by decide +kernel
theorem dX6_text_57 : decode cX6_text 57 = .ok (.getfield 74, 3) := by decide +kernel
theorem dX6_text_60 : decode cX6_text 60 = .ok (.ireturn, 1) := by decide +kernel
theorem dX6_text_61 : decode cX6_text 61 = .ok (.aload_n 3, 1) := by decide +kernel
theorem dX6_text_62 : decode cX6_text 62 = .ok (.getfield 178, 3) := by decide +kernel
theorem dX6_text_65 : decode cX6_text 65 = .ok (.ireturn, 1) := by decide +kernel
theorem dX6_text_66 : decode cX6_text 66 = .ok (.aload_n 3, 1) := by decide +kernel
theorem dX6_text_67 : decode cX6_text 67 = .ok (.invokevirtual 221, 3) := by decide +kernel
theorem dX6_text_70 : decode cX6_text 70 = .ok (.ireturn, 1) := by decide +kernel
theorem dX6_text_71 : decode cX6_text 71 = .ok (.aload_n 3, 1) := by decide +kernel
theorem dX6_text_72 : decode cX6_text 72 = .ok (.invokevirtual 224, 3) := by decide +kernel
theorem dX6_text_75 : decode cX6_text 75 = .ok (.ireturn, 1) := by decide +kernel
theorem dX6_text_76 : decode cX6_text 76 = .ok (.aload_n 3, 1) := by decide +kernel
theorem dX6_text_77 : decode cX6_text 77 = .ok (.invokevirtual 227, 3) := by decide +kernel
theorem dX6_text_80 : decode cX6_text 80 = .ok (.ireturn, 1) := by decide +kernel
theorem dX6_text_81 : decode cX6_text 81 = .ok (.aload_n 0, 1) := by decide +kernel
theorem dX6_text_82 : decode cX6_text 82 = .ok (.getfield 10, 3) := by decide +kernel
theorem dX6_text_85 : decode cX6_text 85 = .ok (.iload_n 1, 1) := by decide +kernel
theorem dX6_text_86 : decode cX6_text 86 = .ok (.invokevirtual 230, 3) := by decide +kernel
theorem dX6_text_89 : decode cX6_text 89 = .ok (.ireturn, 1) := by decide +kernel
theorem dX6_count_0 : decode cX6_count 0 = .ok (.iload_n 1, 1) := by decide +kernel
theorem dX6_count_1 : decode cX6_count 1 = .ok (.bipush 9, 2) := by decide +kernel
theorem dX6_count_3 : decode cX6_count 3 = .ok (.invokestatic 160, 3) := by decide +kernel
theorem dX6_count_6 : decode cX6_count 6 = .ok (.aload_n 0, 1) := by decide +kernel
theorem dX6_count_7 : decode cX6_count 7 = .ok (.getfield 10, 3) := by decide +kernel
theorem dX6_count_10 : decode cX6_count 10 = .ok (.getfield 114, 3) := by decide +kernel
theorem dX6_count_13 : decode cX6_count 13 = .ok (.astore_n 2, 1) := by decide +kernel
theorem dX6_count_14 : decode cX6_count 14 = .ok (.iload_n 1, 1) := by decide +kernel
theorem dX6_count_15 : decode cX6_count 15 = .ok (.tableswitch 100 0 8 #[49, 57, 65, 70, 75, 80, 85, 90, 95], 49) := by decide +kernel
theorem dX6_count_64 : decode cX6_count 64 = .ok (.aload_n 0, 1) := by decide +kernel
theorem dX6_count_65 : decode cX6_count 65 = .ok (.getfield 10, 3) := by decide +kernel
theorem dX6_count_68 : decode cX6_count 68 = .ok (.invokevirtual 242, 3) := by decide +kernel
theorem dX6_count_71 : decode cX6_count 71 = .ok (.ireturn, 1) := by decide +kernel
theorem dX6_count_72 : decode cX6_count 72 = .ok (.aload_n 0, 1) := by decide +kernel
theorem dX6_count_73 : decode cX6_count 73 = .ok (.getfield 10, 3) := by decide +kernel
theorem dX6_count_76 : decode cX6_count 76 = .ok (.invokevirtual 243, 3) := by decide +kernel
theorem dX6_count_79 : decode cX6_count 79 = .ok (.ireturn, 1) := by decide +kernel
theorem dX6_count_80 : decode cX6_count 80 = .ok (.aload_n 2, 1) := by decide +kernel
theorem dX6_count_81 : decode cX6_count 81 = .ok (.invokevirtual 245, 3) := by decide +kernel
theorem dX6_count_84 : decode cX6_count 84 = .ok (.ireturn, 1) := by decide +kernel
theorem dX6_count_85 : decode cX6_count 85 = .ok (.aload_n 2, 1) := by decide +kernel
theorem dX6_count_86 : decode cX6_count 86 = .ok (.invokevirtual 246, 3) := by decide +kernel
theorem dX6_count_89 : decode cX6_count 89 = .ok (.ireturn, 1) := by decide +kernel
theorem dX6_count_90 : decode cX6_count 90 = .ok (.aload_n 2, 1) := by decide +kernel
theorem dX6_count_91 : decode cX6_count 91 = .ok (.invokevirtual 249, 3) := by decide +kernel
theorem dX6_count_94 : decode cX6_count 94 = .ok (.ireturn, 1) := by decide +kernel
theorem dX6_count_95 : decode cX6_count 95 = .ok (.aload_n 2, 1) := by decide +kernel
theorem dX6_count_96 : decode cX6_count 96 = .ok (.invokevirtual 252, 3) := by decide +kernel
theorem dX6_count_99 : decode cX6_count 99 = .ok (.ireturn, 1) := by decide +kernel
theorem dX6_count_100 : decode cX6_count 100 = .ok (.aload_n 2, 1) := by decide +kernel
theorem dX6_count_101 : decode cX6_count 101 = .ok (.invokevirtual 255, 3) := by decide +kernel
theorem dX6_count_104 : decode cX6_count 104 = .ok (.ireturn, 1) := by decide +kernel
theorem dX6_count_105 : decode cX6_count 105 = .ok (.aload_n 2, 1) := by decide +kernel
theorem dX6_count_106 : decode cX6_count 106 = .ok (.getfield 258, 3) := by decide +kernel
theorem dX6_count_109 : decode cX6_count 109 = .ok (.ireturn, 1) := by decide +kernel
theorem dX6_count_110 : decode cX6_count 110 = .ok (.aload_n 2, 1) := by decide +kernel
theorem dX6_count_111 : decode cX6_count 111 = .ok (.getfield 261, 3) := by decide +kernel
theorem dX6_count_114 : decode cX6_count 114 = .ok (.ireturn, 1) := by decide +kernel
theorem dX6_count_115 : decode cX6_count 115 = .ok (.aload_n 0, 1) := by decide +kernel
theorem dX6_count_116 : decode cX6_count 116 = .ok (.getfield 19, 3) := by decide +kernel
theorem dX6_count_119 : decode cX6_count 119 = .ok (.getfield 152, 3) := by decide +kernel
theorem dX6_count_122 : decode cX6_count 122 = .ok (.ireturn, 1) := by decide +kernel
theorem dX6_ifPut_0 : decode cX6_ifPut 0 = .ok (.iload_n 1, 1) := by decide +kernel
theorem dX6_ifPut_1 : decode cX6_ifPut 1 = .ok (.invokestatic 51, 3) := by decide +kernel
theorem dX6_ifPut_4 : decode cX6_ifPut 4 = .ok (.iload_n 2, 1) := by decide +kernel
theorem dX6_ifPut_5 : decode cX6_ifPut 5 = .ok (.iconst 3, 1) := by decide +kernel
theorem dX6_ifPut_6 : decode cX6_ifPut 6 = .ok (.invokestatic 160, 3) := by decide +kernel
theorem dX6_ifPut_9 : decode cX6_ifPut 9 = .ok (.aload_n 0, 1) := by decide +kernel
theorem dX6_ifPut_10 : decode cX6_ifPut 10 = .ok (.getfield 26, 3) := by decide +kernel
theorem dX6_ifPut_13 : decode cX6_ifPut 13 = .ok (.invokevirtual 264, 3) := by decide +kernel
theorem dX6_ifPut_16 : decode cX6_ifPut 16 = .ok (.ifCond .ne 5, 3) := by decide +kernel
theorem dX6_ifPut_19 : decode cX6_ifPut 19 = .ok (.iconst (-1), 1) := by decide +kernel
theorem dX6_ifPut_20 : decode cX6_ifPut 20 = .ok (.ireturn, 1) := by decide +kernel
theorem dX6_ifPut_21 : decode cX6_ifPut 21 = .ok (.aload_n 0, 1) := by decide +kernel
theorem dX6_ifPut_22 : decode cX6_ifPut 22 = .ok (.getfield 36, 3) := by decide +kernel
theorem dX6_ifPut_25 : decode cX6_ifPut 25 = .ok (.invokevirtual 58, 3) := by decide +kernel
theorem dX6_ifPut_28 : decode cX6_ifPut 28 = .ok (.aload_n 0, 1) := by decide +kernel
theorem dX6_ifPut_29 : decode cX6_ifPut 29 = .ok (.getfield 26, 3) := by decide +kernel
theorem dX6_ifPut_32 : decode cX6_ifPut 32 = .ok (.aload_n 0, 1) := by decide +kernel
theorem dX6_ifPut_33 : decode cX6_ifPut 33 = .ok (.getfield 36, 3) := by decide +kernel
theorem dX6_ifPut_36 : decode cX6_ifPut 36 = .ok (.invokevirtual 61, 3) := by decide +kernel
theorem dX6_ifPut_39 : decode cX6_ifPut 39 = .ok (.aload_n 0, 1) := by decide +kernel
theorem dX6_ifPut_40 : decode cX6_ifPut 40 = .ok (.getfield 36, 3) := by decide +kernel
theorem dX6_ifPut_43 : decode cX6_ifPut 43 = .ok (.aload_n 0, 1) := by decide +kernel
theorem dX6_ifPut_44 : decode cX6_ifPut 44 = .ok (.getfield 10, 3) := by decide +kernel
theorem dX6_ifPut_47 : decode cX6_ifPut 47 = .ok (.getfield 134, 3) := by decide +kernel
theorem dX6_ifPut_50 : decode cX6_ifPut 50 = .ok (.invokevirtual 268, 3) := by decide +kernel
theorem dX6_ifPut_53 : decode cX6_ifPut 53 = .ok (.iload_n 2, 1) := by decide +kernel
theorem dX6_ifPut_54 : decode cX6_ifPut 54 = .ok (.tableswitch 64 0 2 #[26, 34, 49], 26) := by decide +kernel
theorem dX6_ifPut_80 : decode cX6_ifPut 80 = .ok (.aload_n 0, 1) := by decide +kernel
theorem dX6_ifPut_81 : decode cX6_ifPut 81 = .ok (.getfield 36, 3) := by decide +kernel
theorem dX6_ifPut_84 : decode cX6_ifPut 84 = .ok (.getfield 178, 3) := by decide +kernel
theorem dX6_ifPut_87 : decode cX6_ifPut 87 = .ok (.ireturn, 1) := by decide +kernel
theorem dX6_ifPut_88 : decode cX6_ifPut 88 = .ok (.aload_n 0, 1) := by decide +kernel
theorem dX6_ifPut_89 : decode cX6_ifPut 89 = .ok (.getfield 10, 3) := by decide +kernel
theorem dX6_ifPut_92 : decode cX6_ifPut 92 = .ok (.getfield 114, 3) := by decide +kernel
theorem dX6_ifPut_95 : decode cX6_ifPut 95 = .ok (.aload_n 0, 1) := by decide +kernel
theorem dX6_ifPut_96 : decode cX6_ifPut 96 = .ok (.getfield 36, 3) := by decide +kernel
theorem dX6_ifPut_99 : decode cX6_ifPut 99 = .ok (.invokevirtual 272, 3) := by decide +kernel
theorem dX6_ifPut_102 : decode cX6_ifPut 102 = .ok (.ireturn, 1) := by decide +kernel
theorem dX6_ifPut_103 : decode cX6_ifPut 103 = .ok (.aload_n 0, 1) := by decide +kernel
theorem dX6_ifPut_104 : decode cX6_ifPut 104 = .ok (.getfield 10, 3) := by decide +kernel
theorem dX6_ifPut_107 : decode cX6_ifPut 107 = .ok (.getfield 114, 3) := by decide +kernel
theorem dX6_ifPut_110 : decode cX6_ifPut 110 = .ok (.aload_n 0, 1) := by decide +kernel
theorem dX6_ifPut_111 : decode cX6_ifPut 111 = .ok (.getfield 36, 3) := by decide +kernel
theorem dX6_ifPut_114 : decode cX6_ifPut 114 = .ok (.invokevirtual 275, 3) := by decide +kernel
theorem dX6_ifPut_117 : decode cX6_ifPut 117 = .ok (.ireturn, 1) := by decide +kernel
theorem dX6_ifPut_118 : decode cX6_ifPut 118 = .ok (.aload_n 0, 1) := by decide +kernel
theorem dX6_ifPut_119 : decode cX6_ifPut 119 = .ok (.getfield 30, 3) := by decide +kernel
theorem dX6_ifPut_122 : decode cX6_ifPut 122 = .ok (.aload_n 0, 1) := by decide +kernel
theorem dX6_ifPut_123 : decode cX6_ifPut 123 = .ok (.getfield 10, 3) := by decide +kernel
theorem dX6_ifPut_126 : decode cX6_ifPut 126 = .ok (.iload_n 1, 1) := by decide +kernel
theorem dX6_ifPut_127 : decode cX6_ifPut 127 = .ok (.aload_n 0, 1) := by decide +kernel
theorem dX6_ifPut_128 : decode cX6_ifPut 128 = .ok (.getfield 36, 3) := by decide +kernel
theorem dX6_ifPut_131 : decode cX6_ifPut 131 = .ok (.invokevirtual 278, 3) := by decide +kernel
theorem dX6_ifPut_134 : decode cX6_ifPut 134 = .ok (.ifCond .eq 7, 3) := by decide +kernel
theorem dX6_ifPut_137 : decode cX6_ifPut 137 = .ok (.iconst 0, 1) := by decide +kernel
theorem dX6_ifPut_138 : decode cX6_ifPut 138 = .ok (.goto 4, 3) := by decide +kernel
theorem dX6_ifPut_141 : decode cX6_ifPut 141 = .ok (.iconst 1, 1) := by decide +kernel
theorem dX6_ifPut_142 : decode cX6_ifPut 142 = .ok (.ireturn, 1) := by decide +kernel
theorem dX6_requireText_0 : decode cX6_requireText 0 = .ok (.iload_n 0, 1) := by decide +kernel
theorem dX6_requireText_1 : decode cX6_requireText 1 = .ok (.ifCond .lt 8, 3) := by decide +kernel
theorem dX6_requireText_4 : decode cX6_requireText 4 = .ok (.iload_n 0, 1) := by decide +kernel
theorem dX6_requireText_5 : decode cX6_requireText 5 = .ok (.iconst 4, 1) := by decide +kernel
theorem dX6_requireText_6 : decode cX6_requireText 6 = .ok (.if_icmp .lt 14, 3) := by decide +kernel
theorem dX6_requireText_9 : decode cX6_requireText 9 = .ok (.new 78, 3) := by decide +kernel
theorem dX6_requireText_12 : decode cX6_requireText 12 = .ok (.dup, 1) := by decide +kernel
theorem dX6_requireText_13 : decode cX6_requireText 13 = .ok (.ldc_w 321, 3) := by decide +kernel
theorem dX6_requireText_16 : decode cX6_requireText 16 = .ok (.invokespecial 82, 3) := by decide +kernel
theorem dX6_requireText_19 : decode cX6_requireText 19 = .ok (.athrow, 1) := by decide +kernel
theorem dX6_requireText_20 : decode cX6_requireText 20 = .ok (.return_, 1) := by decide +kernel
theorem dX6_requirePlace_0 : decode cX6_requirePlace 0 = .ok (.iload_n 1, 1) := by decide +kernel
theorem dX6_requirePlace_1 : decode cX6_requirePlace 1 = .ok (.ifCond .lt 11, 3) := by decide +kernel
theorem dX6_requirePlace_4 : decode cX6_requirePlace 4 = .ok (.iload_n 1, 1) := by decide +kernel
theorem dX6_requirePlace_5 : decode cX6_requirePlace 5 = .ok (.aload_n 0, 1) := by decide +kernel
theorem dX6_requirePlace_6 : decode cX6_requirePlace 6 = .ok (.getfield 74, 3) := by decide +kernel
theorem dX6_requirePlace_9 : decode cX6_requirePlace 9 = .ok (.if_icmp .lt 13, 3) := by decide +kernel
theorem dX6_requirePlace_12 : decode cX6_requirePlace 12 = .ok (.new 78, 3) := by decide +kernel
theorem dX6_requirePlace_15 : decode cX6_requirePlace 15 = .ok (.dup, 1) := by decide +kernel
theorem dX6_requirePlace_16 : decode cX6_requirePlace 16 = .ok (.ldc 80, 2) := by decide +kernel
theorem dX6_requirePlace_18 : decode cX6_requirePlace 18 = .ok (.invokespecial 82, 3) := by decide +kernel
theorem dX6_requirePlace_21 : decode cX6_requirePlace 21 = .ok (.athrow, 1) := by decide +kernel
theorem dX6_requirePlace_22 : decode cX6_requirePlace 22 = .ok (.return_, 1) := by decide +kernel
theorem dX6_requireSetting_0 : decode cX6_requireSetting 0 = .ok (.iload_n 0, 1) := by decide +kernel
theorem dX6_requireSetting_1 : decode cX6_requireSetting 1 = .ok (.ifCond .lt 8, 3) := by decide +kernel
theorem dX6_requireSetting_4 : decode cX6_requireSetting 4 = .ok (.iload_n 0, 1) := by decide +kernel
theorem dX6_requireSetting_5 : decode cX6_requireSetting 5 = .ok (.iconst 5, 1) := by decide +kernel
theorem dX6_requireSetting_6 : decode cX6_requireSetting 6 = .ok (.if_icmp .lt 14, 3) := by decide +kernel
theorem dX6_requireSetting_9 : decode cX6_requireSetting 9 = .ok (.new 78, 3) := by decide +kernel
theorem dX6_requireSetting_12 : decode cX6_requireSetting 12 = .ok (.dup, 1) := by decide +kernel
theorem dX6_requireSetting_13 : decode cX6_requireSetting 13 = .ok (.ldc_w 323, 3) := by decide +kernel
theorem dX6_requireSetting_16 : decode cX6_requireSetting 16 = .ok (.invokespecial 82, 3) := by decide +kernel
theorem dX6_requireSetting_19 : decode cX6_requireSetting 19 = .ok (.athrow, 1) := by decide +kernel
theorem dX6_requireSetting_20 : decode cX6_requireSetting 20 = .ok (.return_, 1) := by decide +kernel
theorem dX6_requireValue_0 : decode cX6_requireValue 0 = .ok (.iload_n 1, 1) := by decide +kernel
theorem dX6_requireValue_1 : decode cX6_requireValue 1 = .ok (.getstatic 325, 3) := by decide +kernel
theorem dX6_requireValue_4 : decode cX6_requireValue 4 = .ok (.iload_n 0, 1) := by decide +kernel
theorem dX6_requireValue_5 : decode cX6_requireValue 5 = .ok (.iaload, 1) := by decide +kernel
theorem dX6_requireValue_6 : decode cX6_requireValue 6 = .ok (.if_icmp .lt 12, 3) := by decide +kernel
theorem dX6_requireValue_9 : decode cX6_requireValue 9 = .ok (.iload_n 1, 1) := by decide +kernel
theorem dX6_requireValue_10 : decode cX6_requireValue 10 = .ok (.getstatic 328, 3) := by decide +kernel
theorem dX6_requireValue_13 : decode cX6_requireValue 13 = .ok (.iload_n 0, 1) := by decide +kernel
theorem dX6_requireValue_14 : decode cX6_requireValue 14 = .ok (.iaload, 1) := by decide +kernel
theorem dX6_requireValue_15 : decode cX6_requireValue 15 = .ok (.if_icmp .le 14, 3) := by decide +kernel
theorem dX6_requireValue_18 : decode cX6_requireValue 18 = .ok (.new 102, 3) := by decide +kernel
theorem dX6_requireValue_21 : decode cX6_requireValue 21 = .ok (.dup, 1) := by decide +kernel
theorem dX6_requireValue_22 : decode cX6_requireValue 22 = .ok (.ldc_w 331, 3) := by decide +kernel
theorem dX6_requireValue_25 : decode cX6_requireValue 25 = .ok (.invokespecial 106, 3) := by decide +kernel
theorem dX6_requireValue_28 : decode cX6_requireValue 28 = .ok (.athrow, 1) := by decide +kernel
theorem dX6_requireValue_29 : decode cX6_requireValue 29 = .ok (.return_, 1) := by decide +kernel
theorem dX6_requireWhat_0 : decode cX6_requireWhat 0 = .ok (.iload_n 0, 1) := by decide +kernel
theorem dX6_requireWhat_1 : decode cX6_requireWhat 1 = .ok (.ifCond .lt 8, 3) := by decide +kernel
theorem dX6_requireWhat_4 : decode cX6_requireWhat 4 = .ok (.iload_n 0, 1) := by decide +kernel
theorem dX6_requireWhat_5 : decode cX6_requireWhat 5 = .ok (.iload_n 1, 1) := by decide +kernel
theorem dX6_requireWhat_6 : decode cX6_requireWhat 6 = .ok (.if_icmp .le 14, 3) := by decide +kernel
theorem dX6_requireWhat_9 : decode cX6_requireWhat 9 = .ok (.new 102, 3) := by decide +kernel
theorem dX6_requireWhat_12 : decode cX6_requireWhat 12 = .ok (.dup, 1) := by decide +kernel
theorem dX6_requireWhat_13 : decode cX6_requireWhat 13 = .ok (.ldc_w 333, 3) := by decide +kernel
theorem dX6_requireWhat_16 : decode cX6_requireWhat 16 = .ok (.invokespecial 106, 3) := by decide +kernel
theorem dX6_requireWhat_19 : decode cX6_requireWhat 19 = .ok (.athrow, 1) := by decide +kernel
theorem dX6_requireWhat_20 : decode cX6_requireWhat 20 = .ok (.return_, 1) := by decide +kernel
theorem dX6_requireCompleteBuffer_0 : decode cX6_requireCompleteBuffer 0 = .ok (.aload_n 0, 1) := by decide +kernel
theorem dX6_requireCompleteBuffer_1 : decode cX6_requireCompleteBuffer 1 = .ok (.getfield 26, 3) := by decide +kernel
theorem dX6_requireCompleteBuffer_4 : decode cX6_requireCompleteBuffer 4 = .ok (.invokevirtual 264, 3) := by decide +kernel
theorem dX6_requireCompleteBuffer_7 : decode cX6_requireCompleteBuffer 7 = .ok (.ifCond .ne 14, 3) := by decide +kernel
theorem dX6_requireCompleteBuffer_10 : decode cX6_requireCompleteBuffer 10 = .ok (.new 102, 3) := by decide +kernel
theorem dX6_requireCompleteBuffer_13 : decode cX6_requireCompleteBuffer 13 = .ok (.dup, 1) := by decide +kernel
theorem dX6_requireCompleteBuffer_14 : decode cX6_requireCompleteBuffer 14 = .ok (.ldc_w 335, 3) := by decide +kernel
theorem dX6_requireCompleteBuffer_17 : decode cX6_requireCompleteBuffer 17 = .ok (.invokespecial 106, 3) := by decide +kernel
theorem dX6_requireCompleteBuffer_20 : decode cX6_requireCompleteBuffer 20 = .ok (.athrow, 1) := by decide +kernel
theorem dX6_requireCompleteBuffer_21 : decode cX6_requireCompleteBuffer 21 = .ok (.return_, 1) := by decide +kernel
theorem dX6_changeToTrial_0 : decode cX6_changeToTrial 0 = .ok (.aload_n 0, 1) := by decide +kernel
theorem dX6_changeToTrial_1 : decode cX6_changeToTrial 1 = .ok (.getfield 36, 3) := by decide +kernel
theorem dX6_changeToTrial_4 : decode cX6_changeToTrial 4 = .ok (.aload_n 0, 1) := by decide +kernel
theorem dX6_changeToTrial_5 : decode cX6_changeToTrial 5 = .ok (.getfield 10, 3) := by decide +kernel
theorem dX6_changeToTrial_8 : decode cX6_changeToTrial 8 = .ok (.getfield 134, 3) := by decide +kernel
theorem dX6_changeToTrial_11 : decode cX6_changeToTrial 11 = .ok (.invokevirtual 268, 3) := by decide +kernel
theorem dX6_changeToTrial_14 : decode cX6_changeToTrial 14 = .ok (.aload_n 0, 1) := by decide +kernel
theorem dX6_changeToTrial_15 : decode cX6_changeToTrial 15 = .ok (.getfield 30, 3) := by decide +kernel
theorem dX6_changeToTrial_18 : decode cX6_changeToTrial 18 = .ok (.aload_n 0, 1) := by decide +kernel
theorem dX6_changeToTrial_19 : decode cX6_changeToTrial 19 = .ok (.getfield 10, 3) := by decide +kernel
theorem dX6_changeToTrial_22 : decode cX6_changeToTrial 22 = .ok (.iload_n 1, 1) := by decide +kernel
theorem dX6_changeToTrial_23 : decode cX6_changeToTrial 23 = .ok (.aload_n 0, 1) := by decide +kernel
theorem dX6_changeToTrial_24 : decode cX6_changeToTrial 24 = .ok (.getfield 36, 3) := by decide +kernel
theorem dX6_changeToTrial_27 : decode cX6_changeToTrial 27 = .ok (.invokevirtual 278, 3) := by decide +kernel
theorem dX6_changeToTrial_30 : decode cX6_changeToTrial 30 = .ok (.ifCond .ne 14, 3) := by decide +kernel
theorem dX6_changeToTrial_33 : decode cX6_changeToTrial 33 = .ok (.new 89, 3) := by decide +kernel
theorem dX6_changeToTrial_36 : decode cX6_changeToTrial 36 = .ok (.dup, 1) := by decide +kernel
theorem dX6_changeToTrial_37 : decode cX6_changeToTrial 37 = .ok (.ldc_w 337, 3) := by decide +kernel
theorem dX6_changeToTrial_40 : decode cX6_changeToTrial 40 = .ok (.invokespecial 93, 3) := by decide +kernel
theorem dX6_changeToTrial_43 : decode cX6_changeToTrial 43 = .ok (.athrow, 1) := by decide +kernel
theorem dX6_changeToTrial_44 : decode cX6_changeToTrial 44 = .ok (.aload_n 0, 1) := by decide +kernel
theorem dX6_changeToTrial_45 : decode cX6_changeToTrial 45 = .ok (.getfield 19, 3) := by decide +kernel
theorem dX6_changeToTrial_48 : decode cX6_changeToTrial 48 = .ok (.aload_n 0, 1) := by decide +kernel
theorem dX6_changeToTrial_49 : decode cX6_changeToTrial 49 = .ok (.getfield 10, 3) := by decide +kernel
theorem dX6_changeToTrial_52 : decode cX6_changeToTrial 52 = .ok (.invokevirtual 110, 3) := by decide +kernel
theorem dX6_changeToTrial_55 : decode cX6_changeToTrial 55 = .ok (.aload_n 0, 1) := by decide +kernel
theorem dX6_changeToTrial_56 : decode cX6_changeToTrial 56 = .ok (.getfield 10, 3) := by decide +kernel
theorem dX6_changeToTrial_59 : decode cX6_changeToTrial 59 = .ok (.aload_n 0, 1) := by decide +kernel
theorem dX6_changeToTrial_60 : decode cX6_changeToTrial 60 = .ok (.getfield 30, 3) := by decide +kernel
theorem dX6_changeToTrial_63 : decode cX6_changeToTrial 63 = .ok (.invokevirtual 339, 3) := by decide +kernel
theorem dX6_changeToTrial_66 : decode cX6_changeToTrial 66 = .ok (.aload_n 0, 1) := by decide +kernel
theorem dX6_changeToTrial_67 : decode cX6_changeToTrial 67 = .ok (.getfield 36, 3) := by decide +kernel
theorem dX6_changeToTrial_70 : decode cX6_changeToTrial 70 = .ok (.getfield 178, 3) := by decide +kernel
theorem dX6_changeToTrial_73 : decode cX6_changeToTrial 73 = .ok (.ireturn, 1) := by decide +kernel
theorem dJ6_bitCount_0f7a4_0 : decode cJ6_bitCount_0f7a4 0 = .ok (.iload_n 0, 1) := by decide +kernel
theorem dJ6_bitCount_0f7a4_1 : decode cJ6_bitCount_0f7a4 1 = .ok (.iload_n 0, 1) := by decide +kernel
theorem dJ6_bitCount_0f7a4_2 : decode cJ6_bitCount_0f7a4 2 = .ok (.iconst 1, 1) := by decide +kernel
theorem dJ6_bitCount_0f7a4_3 : decode cJ6_bitCount_0f7a4 3 = .ok (.iushr, 1) := by decide +kernel
theorem dJ6_bitCount_0f7a4_4 : decode cJ6_bitCount_0f7a4 4 = .ok (.ldc_w 265, 3) := by decide +kernel
theorem dJ6_bitCount_0f7a4_7 : decode cJ6_bitCount_0f7a4 7 = .ok (.iand, 1) := by decide +kernel
theorem dJ6_bitCount_0f7a4_8 : decode cJ6_bitCount_0f7a4 8 = .ok (.isub, 1) := by decide +kernel
theorem dJ6_bitCount_0f7a4_9 : decode cJ6_bitCount_0f7a4 9 = .ok (.istore_n 0, 1) := by decide +kernel
theorem dJ6_bitCount_0f7a4_10 : decode cJ6_bitCount_0f7a4 10 = .ok (.iload_n 0, 1) := by decide +kernel
theorem dJ6_bitCount_0f7a4_11 : decode cJ6_bitCount_0f7a4 11 = .ok (.ldc_w 266, 3) := by decide +kernel
theorem dJ6_bitCount_0f7a4_14 : decode cJ6_bitCount_0f7a4 14 = .ok (.iand, 1) := by decide +kernel
theorem dJ6_bitCount_0f7a4_15 : decode cJ6_bitCount_0f7a4 15 = .ok (.iload_n 0, 1) := by decide +kernel
theorem dJ6_bitCount_0f7a4_16 : decode cJ6_bitCount_0f7a4 16 = .ok (.iconst 2, 1) := by decide +kernel
theorem dJ6_bitCount_0f7a4_17 : decode cJ6_bitCount_0f7a4 17 = .ok (.iushr, 1) := by decide +kernel
theorem dJ6_bitCount_0f7a4_18 : decode cJ6_bitCount_0f7a4 18 = .ok (.ldc_w 266, 3) := by decide +kernel
theorem dJ6_bitCount_0f7a4_21 : decode cJ6_bitCount_0f7a4 21 = .ok (.iand, 1) := by decide +kernel
theorem dJ6_bitCount_0f7a4_22 : decode cJ6_bitCount_0f7a4 22 = .ok (.iadd, 1) := by decide +kernel
theorem dJ6_bitCount_0f7a4_23 : decode cJ6_bitCount_0f7a4 23 = .ok (.istore_n 0, 1) := by decide +kernel
theorem dJ6_bitCount_0f7a4_24 : decode cJ6_bitCount_0f7a4 24 = .ok (.iload_n 0, 1) := by decide +kernel
theorem dJ6_bitCount_0f7a4_25 : decode cJ6_bitCount_0f7a4 25 = .ok (.iload_n 0, 1) := by decide +kernel
theorem dJ6_bitCount_0f7a4_26 : decode cJ6_bitCount_0f7a4 26 = .ok (.iconst 4, 1) := by decide +kernel
theorem dJ6_bitCount_0f7a4_27 : decode cJ6_bitCount_0f7a4 27 = .ok (.iushr, 1) := by decide +kernel
theorem dJ6_bitCount_0f7a4_28 : decode cJ6_bitCount_0f7a4 28 = .ok (.iadd, 1) := by decide +kernel
theorem dJ6_bitCount_0f7a4_29 : decode cJ6_bitCount_0f7a4 29 = .ok (.ldc_w 267, 3) := by decide +kernel
theorem dJ6_bitCount_0f7a4_32 : decode cJ6_bitCount_0f7a4 32 = .ok (.iand, 1) := by decide +kernel
theorem dJ6_bitCount_0f7a4_33 : decode cJ6_bitCount_0f7a4 33 = .ok (.istore_n 0, 1) := by decide +kernel
theorem dJ6_bitCount_0f7a4_34 : decode cJ6_bitCount_0f7a4 34 = .ok (.iload_n 0, 1) := by decide +kernel
theorem dJ6_bitCount_0f7a4_35 : decode cJ6_bitCount_0f7a4 35 = .ok (.iload_n 0, 1) := by decide +kernel
theorem dJ6_bitCount_0f7a4_36 : decode cJ6_bitCount_0f7a4 36 = .ok (.bipush 8, 2) := by decide +kernel
theorem dJ6_bitCount_0f7a4_38 : decode cJ6_bitCount_0f7a4 38 = .ok (.iushr, 1) := by decide +kernel
theorem dJ6_bitCount_0f7a4_39 : decode cJ6_bitCount_0f7a4 39 = .ok (.iadd, 1) := by decide +kernel
theorem dJ6_bitCount_0f7a4_40 : decode cJ6_bitCount_0f7a4 40 = .ok (.istore_n 0, 1) := by decide +kernel
theorem dJ6_bitCount_0f7a4_41 : decode cJ6_bitCount_0f7a4 41 = .ok (.iload_n 0, 1) := by decide +kernel
theorem dJ6_bitCount_0f7a4_42 : decode cJ6_bitCount_0f7a4 42 = .ok (.iload_n 0, 1) := by decide +kernel
theorem dJ6_bitCount_0f7a4_43 : decode cJ6_bitCount_0f7a4 43 = .ok (.bipush 16, 2) := by decide +kernel
theorem dJ6_bitCount_0f7a4_45 : decode cJ6_bitCount_0f7a4 45 = .ok (.iushr, 1) := by decide +kernel
theorem dJ6_bitCount_0f7a4_46 : decode cJ6_bitCount_0f7a4 46 = .ok (.iadd, 1) := by decide +kernel
theorem dJ6_bitCount_0f7a4_47 : decode cJ6_bitCount_0f7a4 47 = .ok (.istore_n 0, 1) := by decide +kernel
theorem dJ6_bitCount_0f7a4_48 : decode cJ6_bitCount_0f7a4 48 = .ok (.iload_n 0, 1) := by decide +kernel
theorem dJ6_bitCount_0f7a4_49 : decode cJ6_bitCount_0f7a4 49 = .ok (.bipush 63, 2) := by decide +kernel
theorem dJ6_bitCount_0f7a4_51 : decode cJ6_bitCount_0f7a4 51 = .ok (.iand, 1) := by decide +kernel
theorem dJ6_bitCount_0f7a4_52 : decode cJ6_bitCount_0f7a4 52 = .ok (.ireturn, 1) := by decide +kernel
theorem dJ9_max_7cf53_0 : decode cJ9_max_7cf53 0 = .ok (.iload_n 0, 1) := by decide +kernel
theorem dJ9_max_7cf53_1 : decode cJ9_max_7cf53 1 = .ok (.iload_n 1, 1) := by decide +kernel
theorem dJ9_max_7cf53_2 : decode cJ9_max_7cf53 2 = .ok (.if_icmp .lt 7, 3) := by decide +kernel
theorem dJ9_max_7cf53_5 : decode cJ9_max_7cf53 5 = .ok (.iload_n 0, 1) := by decide +kernel
theorem dJ9_max_7cf53_6 : decode cJ9_max_7cf53 6 = .ok (.goto 4, 3) := by decide +kernel
theorem dJ9_max_7cf53_9 : decode cJ9_max_7cf53 9 = .ok (.iload_n 1, 1) := by decide +kernel
theorem dJ9_max_7cf53_10 : decode cJ9_max_7cf53 10 = .ok (.ireturn, 1) := by decide +kernel
theorem dL_cell_0 : decode cL_cell 0 = .ok (.iload_n 1, 1) := by decide +kernel
theorem dL_cell_1 : decode cL_cell 1 = .ok (.aload_n 0, 1) := by decide +kernel
theorem dL_cell_2 : decode cL_cell 2 = .ok (.arraylength, 1) := by decide +kernel
theorem dL_cell_3 : decode cL_cell 3 = .ok (.if_icmp .ge 9, 3) := by decide +kernel
theorem dL_cell_6 : decode cL_cell 6 = .ok (.aload_n 0, 1) := by decide +kernel
theorem dL_cell_7 : decode cL_cell 7 = .ok (.iload_n 1, 1) := by decide +kernel
theorem dL_cell_8 : decode cL_cell 8 = .ok (.iaload, 1) := by decide +kernel
theorem dL_cell_9 : decode cL_cell 9 = .ok (.goto 11, 3) := by decide +kernel
theorem dL_cell_12 : decode cL_cell 12 = .ok (.ldc 7, 2) := by decide +kernel
theorem dL_cell_14 : decode cL_cell 14 = .ok (.iload_n 1, 1) := by decide +kernel
theorem dL_cell_15 : decode cL_cell 15 = .ok (.sipush 617, 3) := by decide +kernel
theorem dL_cell_18 : decode cL_cell 18 = .ok (.iadd, 1) := by decide +kernel
theorem dL_cell_19 : decode cL_cell 19 = .ok (.imul, 1) := by decide +kernel
theorem dL_cell_20 : decode cL_cell 20 = .ok (.ireturn, 1) := by decide +kernel
theorem dL_at_0 : decode cL_at 0 = .ok (.iload_n 0, 1) := by decide +kernel
theorem dL_at_1 : decode cL_at 1 = .ok (.iconst 1, 1) := by decide +kernel
theorem dL_at_2 : decode cL_at 2 = .ok (.iushr, 1) := by decide +kernel
theorem dL_at_3 : decode cL_at 3 = .ok (.iload_n 1, 1) := by decide +kernel
theorem dL_at_4 : decode cL_at 4 = .ok (.irem, 1) := by decide +kernel
theorem dL_at_5 : decode cL_at 5 = .ok (.ireturn, 1) := by decide +kernel
theorem dL_ends_0 : decode cL_ends 0 = .ok (.iconst 0, 1) := by decide +kernel
theorem dL_ends_1 : decode cL_ends 1 = .ok (.istore 5, 2) := by decide +kernel
theorem dL_ends_3 : decode cL_ends 3 = .ok (.iconst 0, 1) := by decide +kernel
theorem dL_ends_4 : decode cL_ends 4 = .ok (.istore 6, 2) := by decide +kernel
theorem dL_ends_6 : decode cL_ends 6 = .ok (.iload 6, 2) := by decide +kernel
theorem dL_ends_8 : decode cL_ends 8 = .ok (.aload_n 0, 1) := by decide +kernel
theorem dL_ends_9 : decode cL_ends 9 = .ok (.iconst 4, 1) := by decide +kernel
theorem dL_ends_10 : decode cL_ends 10 = .ok (.iaload, 1) := by decide +kernel
theorem dL_ends_11 : decode cL_ends 11 = .ok (.if_icmp .ge 31, 3) := by decide +kernel
theorem dL_ends_14 : decode cL_ends 14 = .ok (.iload 6, 2) := by decide +kernel
theorem dL_ends_16 : decode cL_ends 16 = .ok (.iload_n 3, 1) := by decide +kernel
theorem dL_ends_17 : decode cL_ends 17 = .ok (.if_icmp .gt 25, 3) := by decide +kernel
theorem dL_ends_20 : decode cL_ends 20 = .ok (.iload 5, 2) := by decide +kernel
theorem dL_ends_22 : decode cL_ends 22 = .ok (.iload 6, 2) := by decide +kernel
theorem dL_ends_24 : decode cL_ends 24 = .ok (.iconst 1, 1) := by decide +kernel
theorem dL_ends_25 : decode cL_ends 25 = .ok (.iadd, 1) := by decide +kernel
theorem dL_ends_26 : decode cL_ends 26 = .ok (.aload_n 1, 1) := by decide +kernel
theorem dL_ends_27 : decode cL_ends 27 = .ok (.iload_n 3, 1) := by decide +kernel
theorem dL_ends_28 : decode cL_ends 28 = .ok (.iload 6, 2) := by decide +kernel
theorem dL_ends_30 : decode cL_ends 30 = .ok (.isub, 1) := by decide +kernel
theorem dL_ends_31 : decode cL_ends 31 = .ok (.iaload, 1) := by decide +kernel
theorem dL_ends_32 : decode cL_ends 32 = .ok (.imul, 1) := by decide +kernel
theorem dL_ends_33 : decode cL_ends 33 = .ok (.iadd, 1) := by decide +kernel
theorem dL_ends_34 : decode cL_ends 34 = .ok (.istore 5, 2) := by decide +kernel
theorem dL_ends_36 : decode cL_ends 36 = .ok (.iinc 6 1, 3) := by decide +kernel
theorem dL_ends_39 : decode cL_ends 39 = .ok (.goto (-33), 3) := by decide +kernel
theorem dL_ends_42 : decode cL_ends 42 = .ok (.iload 4, 2) := by decide +kernel
theorem dL_ends_44 : decode cL_ends 44 = .ok (.aload_n 0, 1) := by decide +kernel
theorem dL_ends_45 : decode cL_ends 45 = .ok (.bipush 7, 2) := by decide +kernel
theorem dL_ends_47 : decode cL_ends 47 = .ok (.iaload, 1) := by decide +kernel
theorem dL_ends_48 : decode cL_ends 48 = .ok (.if_icmp .lt 18, 3) := by decide +kernel
theorem dL_ends_51 : decode cL_ends 51 = .ok (.iload 5, 2) := by decide +kernel
theorem dL_ends_53 : decode cL_ends 53 = .ok (.aload_n 0, 1) := by decide +kernel
theorem dL_ends_54 : decode cL_ends 54 = .ok (.iconst 5, 1) := by decide +kernel
theorem dL_ends_55 : decode cL_ends 55 = .ok (.iaload, 1) := by decide +kernel
theorem dL_ends_56 : decode cL_ends 56 = .ok (.irem, 1) := by decide +kernel
theorem dL_ends_57 : decode cL_ends 57 = .ok (.aload_n 0, 1) := by decide +kernel
theorem dL_ends_58 : decode cL_ends 58 = .ok (.bipush 6, 2) := by decide +kernel
theorem dL_ends_60 : decode cL_ends 60 = .ok (.iaload, 1) := by decide +kernel
theorem dL_ends_61 : decode cL_ends 61 = .ok (.if_icmp .ne 5, 3) := by decide +kernel
theorem dL_ends_64 : decode cL_ends 64 = .ok (.iconst 1, 1) := by decide +kernel
theorem dL_ends_65 : decode cL_ends 65 = .ok (.ireturn, 1) := by decide +kernel
theorem dL_ends_66 : decode cL_ends 66 = .ok (.iload 4, 2) := by decide +kernel
theorem dL_ends_68 : decode cL_ends 68 = .ok (.aload_n 0, 1) := by decide +kernel
theorem dL_ends_69 : decode cL_ends 69 = .ok (.bipush 8, 2) := by decide +kernel
theorem dL_ends_71 : decode cL_ends 71 = .ok (.iaload, 1) := by decide +kernel
theorem dL_ends_72 : decode cL_ends 72 = .ok (.if_icmp .ne 7, 3) := by decide +kernel
theorem dL_ends_75 : decode cL_ends 75 = .ok (.iconst 2, 1) := by decide +kernel
theorem dL_ends_76 : decode cL_ends 76 = .ok (.goto 15, 3) := by decide +kernel
theorem dL_ends_79 : decode cL_ends 79 = .ok (.iload_n 3, 1) := by decide +kernel
theorem dL_ends_80 : decode cL_ends 80 = .ok (.iload_n 2, 1) := by decide +kernel
theorem dL_ends_81 : decode cL_ends 81 = .ok (.iconst 1, 1) := by decide +kernel
theorem dL_ends_82 : decode cL_ends 82 = .ok (.isub, 1) := by decide +kernel
theorem dL_ends_83 : decode cL_ends 83 = .ok (.if_icmp .ne 7, 3) := by decide +kernel
theorem dL_ends_86 : decode cL_ends 86 = .ok (.iconst 3, 1) := by decide +kernel
theorem dL_ends_87 : decode cL_ends 87 = .ok (.goto 4, 3) := by decide +kernel
theorem dL_ends_90 : decode cL_ends 90 = .ok (.iconst 0, 1) := by decide +kernel
theorem dL_ends_91 : decode cL_ends 91 = .ok (.ireturn, 1) := by decide +kernel
theorem dL_slot_0 : decode cL_slot 0 = .ok (.iconst 0, 1) := by decide +kernel
theorem dL_slot_1 : decode cL_slot 1 = .ok (.istore 5, 2) := by decide +kernel
theorem dL_slot_3 : decode cL_slot 3 = .ok (.iload 5, 2) := by decide +kernel
theorem dL_slot_5 : decode cL_slot 5 = .ok (.bipush 60, 2) := by decide +kernel
theorem dL_slot_7 : decode cL_slot 7 = .ok (.if_icmp .ge 30, 3) := by decide +kernel
theorem dL_slot_10 : decode cL_slot 10 = .ok (.aload_n 1, 1) := by decide +kernel
theorem dL_slot_11 : decode cL_slot 11 = .ok (.iload 5, 2) := by decide +kernel
theorem dL_slot_13 : decode cL_slot 13 = .ok (.iaload, 1) := by decide +kernel
theorem dL_slot_14 : decode cL_slot 14 = .ok (.iload 4, 2) := by decide +kernel
theorem dL_slot_16 : decode cL_slot 16 = .ok (.if_icmp .ne 15, 3) := by decide +kernel
theorem dL_slot_19 : decode cL_slot 19 = .ok (.aload_n 0, 1) := by decide +kernel
theorem dL_slot_20 : decode cL_slot 20 = .ok (.iload 5, 2) := by decide +kernel
theorem dL_slot_22 : decode cL_slot 22 = .ok (.laload, 1) := by decide +kernel
theorem dL_slot_23 : decode cL_slot 23 = .ok (.lload_n 2, 1) := by decide +kernel
theorem dL_slot_24 : decode cL_slot 24 = .ok (.lcmp, 1) := by decide +kernel
theorem dL_slot_25 : decode cL_slot 25 = .ok (.ifCond .ne 6, 3) := by decide +kernel
theorem dL_slot_28 : decode cL_slot 28 = .ok (.iload 5, 2) := by decide +kernel
theorem dL_slot_30 : decode cL_slot 30 = .ok (.ireturn, 1) := by decide +kernel
theorem dL_slot_31 : decode cL_slot 31 = .ok (.iinc 5 1, 3) := by decide +kernel
theorem dL_slot_34 : decode cL_slot 34 = .ok (.goto (-31), 3) := by decide +kernel
theorem dL_slot_37 : decode cL_slot 37 = .ok (.iconst (-1), 1) := by decide +kernel
theorem dL_slot_38 : decode cL_slot 38 = .ok (.ireturn, 1) := by decide +kernel
theorem dL_lay_0 : decode cL_lay 0 = .ok (.bipush 16, 2) := by decide +kernel
theorem dL_lay_2 : decode cL_lay 2 = .ok (.newarray .long, 2) := by decide +kernel
theorem dL_lay_4 : decode cL_lay 4 = .ok (.astore 10, 2) := by decide +kernel
theorem dL_lay_6 : decode cL_lay 6 = .ok (.bipush 16, 2) := by decide +kernel
theorem dL_lay_8 : decode cL_lay 8 = .ok (.newarray .int, 2) := by decide +kernel
theorem dL_lay_10 : decode cL_lay 10 = .ok (.astore 11, 2) := by decide +kernel
theorem dL_lay_12 : decode cL_lay 12 = .ok (.bipush 16, 2) := by decide +kernel
theorem dL_lay_14 : decode cL_lay 14 = .ok (.newarray .int, 2) := by decide +kernel
theorem dL_lay_16 : decode cL_lay 16 = .ok (.astore 12, 2) := by decide +kernel
theorem dL_lay_18 : decode cL_lay 18 = .ok (.iconst 0, 1) := by decide +kernel
theorem dL_lay_19 : decode cL_lay 19 = .ok (.istore 13, 2) := by decide +kernel
theorem dL_lay_21 : decode cL_lay 21 = .ok (.iconst 0, 1) := by decide +kernel
theorem dL_lay_22 : decode cL_lay 22 = .ok (.istore 14, 2) := by decide +kernel
theorem dL_lay_24 : decode cL_lay 24 = .ok (.iconst 0, 1) := by decide +kernel
theorem dL_lay_25 : decode cL_lay 25 = .ok (.istore 15, 2) := by decide +kernel
theorem dL_lay_27 : decode cL_lay 27 = .ok (.iload 15, 2) := by decide +kernel
theorem dL_lay_29 : decode cL_lay 29 = .ok (.iload 9, 2) := by decide +kernel
theorem dL_lay_31 : decode cL_lay 31 = .ok (.if_icmp .ge 84, 3) := by decide +kernel
theorem dL_lay_34 : decode cL_lay 34 = .ok (.aload 10, 2) := by decide +kernel
theorem dL_lay_36 : decode cL_lay 36 = .ok (.iload 13, 2) := by decide +kernel
theorem dL_lay_38 : decode cL_lay 38 = .ok (.aload 10, 2) := by decide +kernel
theorem dL_lay_40 : decode cL_lay 40 = .ok (.iload 13, 2) := by decide +kernel
theorem dL_lay_42 : decode cL_lay 42 = .ok (.laload, 1) := by decide +kernel
theorem dL_lay_43 : decode cL_lay 43 = .ok (.ldc2_w 8, 3) := by decide +kernel
theorem dL_lay_46 : decode cL_lay 46 = .ok (.lmul, 1) := by decide +kernel
theorem dL_lay_47 : decode cL_lay 47 = .ok (.aload 8, 2) := by decide +kernel
theorem dL_lay_49 : decode cL_lay 49 = .ok (.iload 15, 2) := by decide +kernel
theorem dL_lay_51 : decode cL_lay 51 = .ok (.iaload, 1) := by decide +kernel
theorem dL_lay_52 : decode cL_lay 52 = .ok (.i2l, 1) := by decide +kernel
theorem dL_lay_53 : decode cL_lay 53 = .ok (.ladd, 1) := by decide +kernel
theorem dL_lay_54 : decode cL_lay 54 = .ok (.lastore, 1) := by decide +kernel
theorem dL_lay_55 : decode cL_lay 55 = .ok (.aload 11, 2) := by decide +kernel
theorem dL_lay_57 : decode cL_lay 57 = .ok (.iload 13, 2) := by decide +kernel
theorem dL_lay_59 : decode cL_lay 59 = .ok (.iload 15, 2) := by decide +kernel
theorem dL_lay_61 : decode cL_lay 61 = .ok (.iload 14, 2) := by decide +kernel
theorem dL_lay_63 : decode cL_lay 63 = .ok (.isub, 1) := by decide +kernel
theorem dL_lay_64 : decode cL_lay 64 = .ok (.iconst 1, 1) := by decide +kernel
theorem dL_lay_65 : decode cL_lay 65 = .ok (.iadd, 1) := by decide +kernel
theorem dL_lay_66 : decode cL_lay 66 = .ok (.iastore, 1) := by decide +kernel
theorem dL_lay_67 : decode cL_lay 67 = .ok (.aload 12, 2) := by decide +kernel
theorem dL_lay_69 : decode cL_lay 69 = .ok (.iload 13, 2) := by decide +kernel
theorem dL_lay_71 : decode cL_lay 71 = .ok (.aload_n 0, 1) := by decide +kernel
theorem dL_lay_72 : decode cL_lay 72 = .ok (.aload 8, 2) := by decide +kernel
theorem dL_lay_74 : decode cL_lay 74 = .ok (.iload 9, 2) := by decide +kernel
theorem dL_lay_76 : decode cL_lay 76 = .ok (.iload 15, 2) := by decide +kernel
theorem dL_lay_78 : decode cL_lay 78 = .ok (.iload 15, 2) := by decide +kernel
theorem dL_lay_80 : decode cL_lay 80 = .ok (.iload 14, 2) := by decide +kernel
theorem dL_lay_82 : decode cL_lay 82 = .ok (.isub, 1) := by decide +kernel
theorem dL_lay_83 : decode cL_lay 83 = .ok (.iconst 1, 1) := by decide +kernel
theorem dL_lay_84 : decode cL_lay 84 = .ok (.iadd, 1) := by decide +kernel
theorem dL_lay_85 : decode cL_lay 85 = .ok (.invokestatic 10, 3) := by decide +kernel
theorem dL_lay_88 : decode cL_lay 88 = .ok (.iastore, 1) := by decide +kernel
theorem dL_lay_89 : decode cL_lay 89 = .ok (.aload 12, 2) := by decide +kernel
theorem dL_lay_91 : decode cL_lay 91 = .ok (.iload 13, 2) := by decide +kernel
theorem dL_lay_93 : decode cL_lay 93 = .ok (.iaload, 1) := by decide +kernel
theorem dL_lay_94 : decode cL_lay 94 = .ok (.ifCond .ne 6, 3) := by decide +kernel
theorem dL_lay_97 : decode cL_lay 97 = .ok (.goto 12, 3) := by decide +kernel
theorem dL_lay_100 : decode cL_lay 100 = .ok (.iinc 13 1, 3) := by decide +kernel
theorem dL_lay_103 : decode cL_lay 103 = .ok (.iload 15, 2) := by decide +kernel
theorem dL_lay_105 : decode cL_lay 105 = .ok (.iconst 1, 1) := by decide +kernel
theorem dL_lay_106 : decode cL_lay 106 = .ok (.iadd, 1) := by decide +kernel
theorem dL_lay_107 : decode cL_lay 107 = .ok (.istore 14, 2) := by decide +kernel
theorem dL_lay_109 : decode cL_lay 109 = .ok (.iinc 15 1, 3) := by decide +kernel
theorem dL_lay_112 : decode cL_lay 112 = .ok (.goto (-85), 3) := by decide +kernel
theorem dL_lay_115 : decode cL_lay 115 = .ok (.bipush 60, 2) := by decide +kernel
theorem dL_lay_117 : decode cL_lay 117 = .ok (.newarray .int, 2) := by decide +kernel
theorem dL_lay_119 : decode cL_lay 119 = .ok (.astore 15, 2) := by decide +kernel
theorem dL_lay_121 : decode cL_lay 121 = .ok (.iconst 0, 1) := by decide +kernel
theorem dL_lay_122 : decode cL_lay 122 = .ok (.istore 16, 2) := by decide +kernel
theorem dL_lay_124 : decode cL_lay 124 = .ok (.iconst 0, 1) := by decide +kernel
theorem dL_lay_125 : decode cL_lay 125 = .ok (.istore 17, 2) := by decide +kernel
theorem dL_lay_127 : decode cL_lay 127 = .ok (.iconst 0, 1) := by decide +kernel
theorem dL_lay_128 : decode cL_lay 128 = .ok (.istore 18, 2) := by decide +kernel
theorem dL_lay_130 : decode cL_lay 130 = .ok (.iload 18, 2) := by decide +kernel
theorem dL_lay_132 : decode cL_lay 132 = .ok (.bipush 60, 2) := by decide +kernel
theorem dL_lay_134 : decode cL_lay 134 = .ok (.if_icmp .ge 40, 3) := by decide +kernel
theorem dL_lay_137 : decode cL_lay 137 = .ok (.aload 15, 2) := by decide +kernel
theorem dL_lay_139 : decode cL_lay 139 = .ok (.iload 18, 2) := by decide +kernel
theorem dL_lay_141 : decode cL_lay 141 = .ok (.aload 6, 2) := by decide +kernel
theorem dL_lay_143 : decode cL_lay 143 = .ok (.iload 18, 2) := by decide +kernel
theorem dL_lay_145 : decode cL_lay 145 = .ok (.iaload, 1) := by decide +kernel
theorem dL_lay_146 : decode cL_lay 146 = .ok (.iastore, 1) := by decide +kernel
theorem dL_lay_147 : decode cL_lay 147 = .ok (.iload 16, 2) := by decide +kernel
theorem dL_lay_149 : decode cL_lay 149 = .ok (.aload 5, 2) := by decide +kernel
theorem dL_lay_151 : decode cL_lay 151 = .ok (.iload 18, 2) := by decide +kernel
theorem dL_lay_153 : decode cL_lay 153 = .ok (.iaload, 1) := by decide +kernel
theorem dL_lay_154 : decode cL_lay 154 = .ok (.iadd, 1) := by decide +kernel
theorem dL_lay_155 : decode cL_lay 155 = .ok (.istore 16, 2) := by decide +kernel
theorem dL_lay_157 : decode cL_lay 157 = .ok (.aload 5, 2) := by decide +kernel
theorem dL_lay_159 : decode cL_lay 159 = .ok (.iload 18, 2) := by decide +kernel
theorem dL_lay_161 : decode cL_lay 161 = .ok (.iaload, 1) := by decide +kernel
theorem dL_lay_162 : decode cL_lay 162 = .ok (.ifCond .ne 6, 3) := by decide +kernel
theorem dL_lay_165 : decode cL_lay 165 = .ok (.iinc 17 1, 3) := by decide +kernel
theorem dL_lay_168 : decode cL_lay 168 = .ok (.iinc 18 1, 3) := by decide +kernel
theorem dL_lay_171 : decode cL_lay 171 = .ok (.goto (-41), 3) := by decide +kernel
theorem dL_lay_174 : decode cL_lay 174 = .ok (.iconst 0, 1) := by decide +kernel
theorem dL_lay_175 : decode cL_lay 175 = .ok (.istore 18, 2) := by decide +kernel
theorem dL_lay_177 : decode cL_lay 177 = .ok (.iload 18, 2) := by decide +kernel
theorem dL_lay_179 : decode cL_lay 179 = .ok (.aload_n 0, 1) := by decide +kernel
theorem dL_lay_180 : decode cL_lay 180 = .ok (.iload 7, 2) := by decide +kernel
theorem dL_lay_182 : decode cL_lay 182 = .ok (.iaload, 1) := by decide +kernel
theorem dL_lay_183 : decode cL_lay 183 = .ok (.if_icmp .ge 39, 3) := by decide +kernel
theorem dL_lay_186 : decode cL_lay 186 = .ok (.aload_n 2, 1) := by decide +kernel
theorem dL_lay_187 : decode cL_lay 187 = .ok (.bipush 16, 2) := by decide +kernel
theorem dL_lay_189 : decode cL_lay 189 = .ok (.iload 7, 2) := by decide +kernel
theorem dL_lay_191 : decode cL_lay 191 = .ok (.imul, 1) := by decide +kernel
theorem dL_lay_192 : decode cL_lay 192 = .ok (.iload 18, 2) := by decide +kernel
theorem dL_lay_194 : decode cL_lay 194 = .ok (.iadd, 1) := by decide +kernel
theorem dL_lay_195 : decode cL_lay 195 = .ok (.iaload, 1) := by decide +kernel
theorem dL_lay_196 : decode cL_lay 196 = .ok (.ifCond .le 20, 3) := by decide +kernel
theorem dL_lay_199 : decode cL_lay 199 = .ok (.aload 15, 2) := by decide +kernel
theorem dL_lay_201 : decode cL_lay 201 = .ok (.aload_n 3, 1) := by decide +kernel
theorem dL_lay_202 : decode cL_lay 202 = .ok (.bipush 16, 2) := by decide +kernel
theorem dL_lay_204 : decode cL_lay 204 = .ok (.iload 7, 2) := by decide +kernel
theorem dL_lay_206 : decode cL_lay 206 = .ok (.imul, 1) := by decide +kernel
theorem dL_lay_207 : decode cL_lay 207 = .ok (.iload 18, 2) := by decide +kernel
theorem dL_lay_209 : decode cL_lay 209 = .ok (.iadd, 1) := by decide +kernel
theorem dL_lay_210 : decode cL_lay 210 = .ok (.iaload, 1) := by decide +kernel
theorem dL_lay_211 : decode cL_lay 211 = .ok (.dup2, 1) := by decide +kernel
theorem dL_lay_212 : decode cL_lay 212 = .ok (.iaload, 1) := by decide +kernel
theorem dL_lay_213 : decode cL_lay 213 = .ok (.iconst 1, 1) := by decide +kernel
theorem dL_lay_214 : decode cL_lay 214 = .ok (.isub, 1) := by decide +kernel
theorem dL_lay_215 : decode cL_lay 215 = .ok (.iastore, 1) := by decide +kernel
theorem dL_lay_216 : decode cL_lay 216 = .ok (.iinc 18 1, 3) := by decide +kernel
theorem dL_lay_219 : decode cL_lay 219 = .ok (.goto (-42), 3) := by decide +kernel
theorem dL_lay_222 : decode cL_lay 222 = .ok (.iconst 0, 1) := by decide +kernel
theorem dL_lay_223 : decode cL_lay 223 = .ok (.istore 18, 2) := by decide +kernel
theorem dL_lay_225 : decode cL_lay 225 = .ok (.iconst 0, 1) := by decide +kernel
theorem dL_lay_226 : decode cL_lay 226 = .ok (.istore 19, 2) := by decide +kernel
theorem dL_lay_228 : decode cL_lay 228 = .ok (.iconst 0, 1) := by decide +kernel
theorem dL_lay_229 : decode cL_lay 229 = .ok (.istore 20, 2) := by decide +kernel
theorem dL_lay_231 : decode cL_lay 231 = .ok (.iload 20, 2) := by decide +kernel
theorem dL_lay_233 : decode cL_lay 233 = .ok (.iload 13, 2) := by decide +kernel
theorem dL_lay_235 : decode cL_lay 235 = .ok (.if_icmp .ge 103, 3) := by decide +kernel
theorem dL_lay_238 : decode cL_lay 238 = .ok (.aload 4, 2) := by decide +kernel
theorem dL_lay_240 : decode cL_lay 240 = .ok (.aload 5, 2) := by decide +kernel
theorem dL_lay_242 : decode cL_lay 242 = .ok (.aload 10, 2) := by decide +kernel
theorem dL_lay_244 : decode cL_lay 244 = .ok (.iload 20, 2) := by decide +kernel
theorem dL_lay_246 : decode cL_lay 246 = .ok (.laload, 1) := by decide +kernel
theorem dL_lay_247 : decode cL_lay 247 = .ok (.aload 11, 2) := by decide +kernel
theorem dL_lay_249 : decode cL_lay 249 = .ok (.iload 20, 2) := by decide +kernel
theorem dL_lay_251 : decode cL_lay 251 = .ok (.iaload, 1) := by decide +kernel
theorem dL_lay_252 : decode cL_lay 252 = .ok (.invokestatic 16, 3) := by decide +kernel
theorem dL_lay_255 : decode cL_lay 255 = .ok (.ifCond .ge 7, 3) := by decide +kernel
theorem dL_lay_258 : decode cL_lay 258 = .ok (.iconst 1, 1) := by decide +kernel
theorem dL_lay_259 : decode cL_lay 259 = .ok (.goto 4, 3) := by decide +kernel
theorem dL_lay_262 : decode cL_lay 262 = .ok (.iconst 0, 1) := by decide +kernel
theorem dL_lay_263 : decode cL_lay 263 = .ok (.istore 21, 2) := by decide +kernel
theorem dL_lay_265 : decode cL_lay 265 = .ok (.iconst 0, 1) := by decide +kernel
theorem dL_lay_266 : decode cL_lay 266 = .ok (.istore 22, 2) := by decide +kernel
theorem dL_lay_268 : decode cL_lay 268 = .ok (.iload 22, 2) := by decide +kernel
theorem dL_lay_270 : decode cL_lay 270 = .ok (.iload 20, 2) := by decide +kernel
theorem dL_lay_272 : decode cL_lay 272 = .ok (.if_icmp .ge 39, 3) := by decide +kernel
theorem dL_lay_275 : decode cL_lay 275 = .ok (.aload 10, 2) := by decide +kernel
theorem dL_lay_277 : decode cL_lay 277 = .ok (.iload 22, 2) := by decide +kernel
theorem dL_lay_279 : decode cL_lay 279 = .ok (.laload, 1) := by decide +kernel
theorem dL_lay_280 : decode cL_lay 280 = .ok (.aload 10, 2) := by decide +kernel
theorem dL_lay_282 : decode cL_lay 282 = .ok (.iload 20, 2) := by decide +kernel
theorem dL_lay_284 : decode cL_lay 284 = .ok (.laload, 1) := by decide +kernel
theorem dL_lay_285 : decode cL_lay 285 = .ok (.lcmp, 1) := by decide +kernel
theorem dL_lay_286 : decode cL_lay 286 = .ok (.ifCond .ne 19, 3) := by decide +kernel
theorem dL_lay_289 : decode cL_lay 289 = .ok (.aload 11, 2) := by decide +kernel
theorem dL_lay_291 : decode cL_lay 291 = .ok (.iload 22, 2) := by decide +kernel
theorem dL_lay_293 : decode cL_lay 293 = .ok (.iaload, 1) := by decide +kernel
theorem dL_lay_294 : decode cL_lay 294 = .ok (.aload 11, 2) := by decide +kernel
theorem dL_lay_296 : decode cL_lay 296 = .ok (.iload 20, 2) := by decide +kernel
theorem dL_lay_298 : decode cL_lay 298 = .ok (.iaload, 1) := by decide +kernel
theorem dL_lay_299 : decode cL_lay 299 = .ok (.if_icmp .ne 6, 3) := by decide +kernel
theorem dL_lay_302 : decode cL_lay 302 = .ok (.iconst 0, 1) := by decide +kernel
theorem dL_lay_303 : decode cL_lay 303 = .ok (.istore 21, 2) := by decide +kernel
theorem dL_lay_305 : decode cL_lay 305 = .ok (.iinc 22 1, 3) := by decide +kernel
theorem dL_lay_308 : decode cL_lay 308 = .ok (.goto (-40), 3) := by decide +kernel
theorem dL_lay_311 : decode cL_lay 311 = .ok (.iload 21, 2) := by decide +kernel
theorem dL_lay_313 : decode cL_lay 313 = .ok (.ifCond .ne 6, 3) := by decide +kernel
theorem dL_lay_316 : decode cL_lay 316 = .ok (.goto 16, 3) := by decide +kernel
theorem dL_lay_319 : decode cL_lay 319 = .ok (.iinc 18 1, 3) := by decide +kernel
theorem dL_lay_322 : decode cL_lay 322 = .ok (.iload 19, 2) := by decide +kernel
theorem dL_lay_324 : decode cL_lay 324 = .ok (.aload 11, 2) := by decide +kernel
theorem dL_lay_326 : decode cL_lay 326 = .ok (.iload 20, 2) := by decide +kernel
theorem dL_lay_328 : decode cL_lay 328 = .ok (.iaload, 1) := by decide +kernel
theorem dL_lay_329 : decode cL_lay 329 = .ok (.iadd, 1) := by decide +kernel
theorem dL_lay_330 : decode cL_lay 330 = .ok (.istore 19, 2) := by decide +kernel
theorem dL_lay_332 : decode cL_lay 332 = .ok (.iinc 20 1, 3) := by decide +kernel
theorem dL_lay_335 : decode cL_lay 335 = .ok (.goto (-104), 3) := by decide +kernel
theorem dL_lay_338 : decode cL_lay 338 = .ok (.bipush 60, 2) := by decide +kernel
theorem dL_lay_340 : decode cL_lay 340 = .ok (.newarray .int, 2) := by decide +kernel
theorem dL_lay_342 : decode cL_lay 342 = .ok (.astore 20, 2) := by decide +kernel
theorem dL_lay_344 : decode cL_lay 344 = .ok (.iconst 0, 1) := by decide +kernel
theorem dL_lay_345 : decode cL_lay 345 = .ok (.istore 21, 2) := by decide +kernel
theorem dL_lay_347 : decode cL_lay 347 = .ok (.iload 18, 2) := by decide +kernel
theorem dL_lay_349 : decode cL_lay 349 = .ok (.iload 17, 2) := by decide +kernel
theorem dL_lay_351 : decode cL_lay 351 = .ok (.if_icmp .gt 14, 3) := by decide +kernel
theorem dL_lay_354 : decode cL_lay 354 = .ok (.iload 16, 2) := by decide +kernel
theorem dL_lay_356 : decode cL_lay 356 = .ok (.iload 19, 2) := by decide +kernel
theorem dL_lay_358 : decode cL_lay 358 = .ok (.iadd, 1) := by decide +kernel
theorem dL_lay_359 : decode cL_lay 359 = .ok (.sipush 150, 3) := by decide +kernel
theorem dL_lay_362 : decode cL_lay 362 = .ok (.if_icmp .le 137, 3) := by decide +kernel
theorem dL_lay_365 : decode cL_lay 365 = .ok (.iconst 0, 1) := by decide +kernel
theorem dL_lay_366 : decode cL_lay 366 = .ok (.istore 22, 2) := by decide +kernel
theorem dL_lay_368 : decode cL_lay 368 = .ok (.iload 22, 2) := by decide +kernel
theorem dL_lay_370 : decode cL_lay 370 = .ok (.bipush 60, 2) := by decide +kernel
theorem dL_lay_372 : decode cL_lay 372 = .ok (.if_icmp .ge 107, 3) := by decide +kernel
theorem dL_lay_375 : decode cL_lay 375 = .ok (.aload 5, 2) := by decide +kernel
theorem dL_lay_377 : decode cL_lay 377 = .ok (.iload 22, 2) := by decide +kernel
theorem dL_lay_379 : decode cL_lay 379 = .ok (.iaload, 1) := by decide +kernel
theorem dL_lay_380 : decode cL_lay 380 = .ok (.ifCond .eq 93, 3) := by decide +kernel
theorem dL_lay_383 : decode cL_lay 383 = .ok (.aload 15, 2) := by decide +kernel
theorem dL_lay_385 : decode cL_lay 385 = .ok (.iload 22, 2) := by decide +kernel
theorem dL_lay_387 : decode cL_lay 387 = .ok (.iaload, 1) := by decide +kernel
theorem dL_lay_388 : decode cL_lay 388 = .ok (.ifCond .le 6, 3) := by decide +kernel
theorem dL_lay_391 : decode cL_lay 391 = .ok (.goto 82, 3) := by decide +kernel
theorem dL_lay_394 : decode cL_lay 394 = .ok (.iconst 1, 1) := by decide +kernel
theorem dL_lay_395 : decode cL_lay 395 = .ok (.istore 23, 2) := by decide +kernel
theorem dL_lay_397 : decode cL_lay 397 = .ok (.iconst 0, 1) := by decide +kernel
theorem dL_lay_398 : decode cL_lay 398 = .ok (.istore 24, 2) := by decide +kernel
theorem dL_lay_400 : decode cL_lay 400 = .ok (.iload 24, 2) := by decide +kernel
theorem dL_lay_402 : decode cL_lay 402 = .ok (.iload 13, 2) := by decide +kernel
theorem dL_lay_404 : decode cL_lay 404 = .ok (.if_icmp .ge 39, 3) := by decide +kernel
theorem dL_lay_407 : decode cL_lay 407 = .ok (.aload 10, 2) := by decide +kernel
theorem dL_lay_409 : decode cL_lay 409 = .ok (.iload 24, 2) := by decide +kernel
theorem dL_lay_411 : decode cL_lay 411 = .ok (.laload, 1) := by decide +kernel
theorem dL_lay_412 : decode cL_lay 412 = .ok (.aload 4, 2) := by decide +kernel
theorem dL_lay_414 : decode cL_lay 414 = .ok (.iload 22, 2) := by decide +kernel
theorem dL_lay_416 : decode cL_lay 416 = .ok (.laload, 1) := by decide +kernel
theorem dL_lay_417 : decode cL_lay 417 = .ok (.lcmp, 1) := by decide +kernel
theorem dL_lay_418 : decode cL_lay 418 = .ok (.ifCond .ne 19, 3) := by decide +kernel
theorem dL_lay_421 : decode cL_lay 421 = .ok (.aload 11, 2) := by decide +kernel
theorem dL_lay_423 : decode cL_lay 423 = .ok (.iload 24, 2) := by decide +kernel
theorem dL_lay_425 : decode cL_lay 425 = .ok (.iaload, 1) := by decide +kernel
theorem dL_lay_426 : decode cL_lay 426 = .ok (.aload 5, 2) := by decide +kernel
theorem dL_lay_428 : decode cL_lay 428 = .ok (.iload 22, 2) := by decide +kernel
theorem dL_lay_430 : decode cL_lay 430 = .ok (.iaload, 1) := by decide +kernel
theorem dL_lay_431 : decode cL_lay 431 = .ok (.if_icmp .ne 6, 3) := by decide +kernel
theorem dL_lay_434 : decode cL_lay 434 = .ok (.iconst 0, 1) := by decide +kernel
theorem dL_lay_435 : decode cL_lay 435 = .ok (.istore 23, 2) := by decide +kernel
theorem dL_lay_437 : decode cL_lay 437 = .ok (.iinc 24 1, 3) := by decide +kernel
theorem dL_lay_440 : decode cL_lay 440 = .ok (.goto (-40), 3) := by decide +kernel
theorem dL_lay_443 : decode cL_lay 443 = .ok (.iload 23, 2) := by decide +kernel
theorem dL_lay_445 : decode cL_lay 445 = .ok (.ifCond .ne 6, 3) := by decide +kernel
theorem dL_lay_448 : decode cL_lay 448 = .ok (.goto 25, 3) := by decide +kernel
theorem dL_lay_451 : decode cL_lay 451 = .ok (.aload 20, 2) := by decide +kernel
theorem dL_lay_453 : decode cL_lay 453 = .ok (.iload 22, 2) := by decide +kernel
theorem dL_lay_455 : decode cL_lay 455 = .ok (.iconst 1, 1) := by decide +kernel
theorem dL_lay_456 : decode cL_lay 456 = .ok (.iastore, 1) := by decide +kernel
theorem dL_lay_457 : decode cL_lay 457 = .ok (.iinc 21 1, 3) := by decide +kernel
theorem dL_lay_460 : decode cL_lay 460 = .ok (.iinc 17 1, 3) := by decide +kernel
