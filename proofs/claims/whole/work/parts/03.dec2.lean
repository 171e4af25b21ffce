theorem dX5_takeIn_20 : decode cX5_takeIn 20 = .ok (.lastore, 1) := by decide +kernel
theorem dX5_takeIn_21 : decode cX5_takeIn 21 = .ok (.aload_n 0, 1) := by decide +kernel
theorem dX5_takeIn_22 : decode cX5_takeIn 22 = .ok (.getfield 15, 3) := by decide +kernel
theorem dX5_takeIn_25 : decode cX5_takeIn 25 = .ok (.iload 4, 2) := by decide +kernel
theorem dX5_takeIn_27 : decode cX5_takeIn 27 = .ok (.iload_n 3, 1) := by decide +kernel
theorem dX5_takeIn_28 : decode cX5_takeIn 28 = .ok (.iastore, 1) := by decide +kernel
theorem dX5_takeIn_29 : decode cX5_takeIn 29 = .ok (.aload_n 0, 1) := by decide +kernel
theorem dX5_takeIn_30 : decode cX5_takeIn 30 = .ok (.getfield 19, 3) := by decide +kernel
theorem dX5_takeIn_33 : decode cX5_takeIn 33 = .ok (.iload 4, 2) := by decide +kernel
theorem dX5_takeIn_35 : decode cX5_takeIn 35 = .ok (.iconst 0, 1) := by decide +kernel
theorem dX5_takeIn_36 : decode cX5_takeIn 36 = .ok (.iastore, 1) := by decide +kernel
theorem dX5_takeIn_37 : decode cX5_takeIn 37 = .ok (.aload_n 0, 1) := by decide +kernel
theorem dX5_takeIn_38 : decode cX5_takeIn 38 = .ok (.dup, 1) := by decide +kernel
theorem dX5_takeIn_39 : decode cX5_takeIn 39 = .ok (.getfield 22, 3) := by decide +kernel
theorem dX5_takeIn_42 : decode cX5_takeIn 42 = .ok (.iconst 1, 1) := by decide +kernel
theorem dX5_takeIn_43 : decode cX5_takeIn 43 = .ok (.iadd, 1) := by decide +kernel
theorem dX5_takeIn_44 : decode cX5_takeIn 44 = .ok (.putfield 22, 3) := by decide +kernel
theorem dX5_takeIn_47 : decode cX5_takeIn 47 = .ok (.iload 4, 2) := by decide +kernel
theorem dX5_takeIn_49 : decode cX5_takeIn 49 = .ok (.ireturn, 1) := by decide +kernel
theorem dX5_removeUnownedBut_0 : decode cX5_removeUnownedBut 0 = .ok (.iconst 0, 1) := by decide +kernel
theorem dX5_removeUnownedBut_1 : decode cX5_removeUnownedBut 1 = .ok (.istore_n 2, 1) := by decide +kernel
theorem dX5_removeUnownedBut_2 : decode cX5_removeUnownedBut 2 = .ok (.iconst 0, 1) := by decide +kernel
theorem dX5_removeUnownedBut_3 : decode cX5_removeUnownedBut 3 = .ok (.istore_n 3, 1) := by decide +kernel
theorem dX5_removeUnownedBut_4 : decode cX5_removeUnownedBut 4 = .ok (.iload_n 3, 1) := by decide +kernel
theorem dX5_removeUnownedBut_5 : decode cX5_removeUnownedBut 5 = .ok (.bipush 60, 2) := by decide +kernel
theorem dX5_removeUnownedBut_7 : decode cX5_removeUnownedBut 7 = .ok (.if_icmp .ge 40, 3) := by decide +kernel
theorem dX5_removeUnownedBut_10 : decode cX5_removeUnownedBut 10 = .ok (.aload_n 0, 1) := by decide +kernel
theorem dX5_removeUnownedBut_11 : decode cX5_removeUnownedBut 11 = .ok (.iload_n 3, 1) := by decide +kernel
theorem dX5_removeUnownedBut_12 : decode cX5_removeUnownedBut 12 = .ok (.invokevirtual 52, 3) := by decide +kernel
theorem dX5_removeUnownedBut_15 : decode cX5_removeUnownedBut 15 = .ok (.ifCond .eq 26, 3) := by decide +kernel
theorem dX5_removeUnownedBut_18 : decode cX5_removeUnownedBut 18 = .ok (.aload_n 1, 1) := by decide +kernel
theorem dX5_removeUnownedBut_19 : decode cX5_removeUnownedBut 19 = .ok (.aload_n 0, 1) := by decide +kernel
theorem dX5_removeUnownedBut_20 : decode cX5_removeUnownedBut 20 = .ok (.getfield 9, 3) := by decide +kernel
theorem dX5_removeUnownedBut_23 : decode cX5_removeUnownedBut 23 = .ok (.iload_n 3, 1) := by decide +kernel
theorem dX5_removeUnownedBut_24 : decode cX5_removeUnownedBut 24 = .ok (.laload, 1) := by decide +kernel
theorem dX5_removeUnownedBut_25 : decode cX5_removeUnownedBut 25 = .ok (.invokevirtual 56, 3) := by decide +kernel
theorem dX5_removeUnownedBut_28 : decode cX5_removeUnownedBut 28 = .ok (.ifCond .ne 13, 3) := by decide +kernel
theorem dX5_removeUnownedBut_31 : decode cX5_removeUnownedBut 31 = .ok (.aload_n 0, 1) := by decide +kernel
theorem dX5_removeUnownedBut_32 : decode cX5_removeUnownedBut 32 = .ok (.getfield 9, 3) := by decide +kernel
theorem dX5_removeUnownedBut_35 : decode cX5_removeUnownedBut 35 = .ok (.iload_n 3, 1) := by decide +kernel
theorem dX5_removeUnownedBut_36 : decode cX5_removeUnownedBut 36 = .ok (.lconst 0, 1) := by decide +kernel
theorem dX5_removeUnownedBut_37 : decode cX5_removeUnownedBut 37 = .ok (.lastore, 1) := by decide +kernel
theorem dX5_removeUnownedBut_38 : decode cX5_removeUnownedBut 38 = .ok (.iinc 2 1, 3) := by decide +kernel
theorem dX5_removeUnownedBut_41 : decode cX5_removeUnownedBut 41 = .ok (.iinc 3 1, 3) := by decide +kernel
theorem dX5_removeUnownedBut_44 : decode cX5_removeUnownedBut 44 = .ok (.goto (-40), 3) := by decide +kernel
theorem dX5_removeUnownedBut_47 : decode cX5_removeUnownedBut 47 = .ok (.aload_n 0, 1) := by decide +kernel
theorem dX5_removeUnownedBut_48 : decode cX5_removeUnownedBut 48 = .ok (.dup, 1) := by decide +kernel
theorem dX5_removeUnownedBut_49 : decode cX5_removeUnownedBut 49 = .ok (.getfield 26, 3) := by decide +kernel
theorem dX5_removeUnownedBut_52 : decode cX5_removeUnownedBut 52 = .ok (.iload_n 2, 1) := by decide +kernel
theorem dX5_removeUnownedBut_53 : decode cX5_removeUnownedBut 53 = .ok (.iadd, 1) := by decide +kernel
theorem dX5_removeUnownedBut_54 : decode cX5_removeUnownedBut 54 = .ok (.putfield 26, 3) := by decide +kernel
theorem dX5_removeUnownedBut_57 : decode cX5_removeUnownedBut 57 = .ok (.iload_n 2, 1) := by decide +kernel
theorem dX5_removeUnownedBut_58 : decode cX5_removeUnownedBut 58 = .ok (.ireturn, 1) := by decide +kernel
theorem dX5_hasRoomFor_0 : decode cX5_hasRoomFor 0 = .ok (.aload_n 0, 1) := by decide +kernel
theorem dX5_hasRoomFor_1 : decode cX5_hasRoomFor 1 = .ok (.aload_n 1, 1) := by decide +kernel
theorem dX5_hasRoomFor_2 : decode cX5_hasRoomFor 2 = .ok (.invokevirtual 60, 3) := by decide +kernel
theorem dX5_hasRoomFor_5 : decode cX5_hasRoomFor 5 = .ok (.bipush 60, 2) := by decide +kernel
theorem dX5_hasRoomFor_7 : decode cX5_hasRoomFor 7 = .ok (.aload_n 0, 1) := by decide +kernel
theorem dX5_hasRoomFor_8 : decode cX5_hasRoomFor 8 = .ok (.invokevirtual 64, 3) := by decide +kernel
theorem dX5_hasRoomFor_11 : decode cX5_hasRoomFor 11 = .ok (.isub, 1) := by decide +kernel
theorem dX5_hasRoomFor_12 : decode cX5_hasRoomFor 12 = .ok (.if_icmp .gt 23, 3) := by decide +kernel
theorem dX5_hasRoomFor_15 : decode cX5_hasRoomFor 15 = .ok (.aload_n 0, 1) := by decide +kernel
theorem dX5_hasRoomFor_16 : decode cX5_hasRoomFor 16 = .ok (.aload_n 1, 1) := by decide +kernel
theorem dX5_hasRoomFor_17 : decode cX5_hasRoomFor 17 = .ok (.invokevirtual 67, 3) := by decide +kernel
theorem dX5_hasRoomFor_20 : decode cX5_hasRoomFor 20 = .ok (.sipush 150, 3) := by decide +kernel
theorem dX5_hasRoomFor_23 : decode cX5_hasRoomFor 23 = .ok (.aload_n 0, 1) := by decide +kernel
theorem dX5_hasRoomFor_24 : decode cX5_hasRoomFor 24 = .ok (.invokevirtual 70, 3) := by decide +kernel
theorem dX5_hasRoomFor_27 : decode cX5_hasRoomFor 27 = .ok (.isub, 1) := by decide +kernel
theorem dX5_hasRoomFor_28 : decode cX5_hasRoomFor 28 = .ok (.if_icmp .gt 7, 3) := by decide +kernel
theorem dX5_hasRoomFor_31 : decode cX5_hasRoomFor 31 = .ok (.iconst 1, 1) := by decide +kernel
theorem dX5_hasRoomFor_32 : decode cX5_hasRoomFor 32 = .ok (.goto 4, 3) := by decide +kernel
theorem dX5_hasRoomFor_35 : decode cX5_hasRoomFor 35 = .ok (.iconst 0, 1) := by decide +kernel
theorem dX5_hasRoomFor_36 : decode cX5_hasRoomFor 36 = .ok (.ireturn, 1) := by decide +kernel
theorem dX5_slotsNeededBy_0 : decode cX5_slotsNeededBy 0 = .ok (.iconst 0, 1) := by decide +kernel
theorem dX5_slotsNeededBy_1 : decode cX5_slotsNeededBy 1 = .ok (.istore_n 2, 1) := by decide +kernel
theorem dX5_slotsNeededBy_2 : decode cX5_slotsNeededBy 2 = .ok (.iconst 0, 1) := by decide +kernel
theorem dX5_slotsNeededBy_3 : decode cX5_slotsNeededBy 3 = .ok (.istore_n 3, 1) := by decide +kernel
theorem dX5_slotsNeededBy_4 : decode cX5_slotsNeededBy 4 = .ok (.iload_n 3, 1) := by decide +kernel
theorem dX5_slotsNeededBy_5 : decode cX5_slotsNeededBy 5 = .ok (.aload_n 1, 1) := by decide +kernel
theorem dX5_slotsNeededBy_6 : decode cX5_slotsNeededBy 6 = .ok (.getfield 37, 3) := by decide +kernel
theorem dX5_slotsNeededBy_9 : decode cX5_slotsNeededBy 9 = .ok (.if_icmp .ge 40, 3) := by decide +kernel
theorem dX5_slotsNeededBy_12 : decode cX5_slotsNeededBy 12 = .ok (.aload_n 1, 1) := by decide +kernel
theorem dX5_slotsNeededBy_13 : decode cX5_slotsNeededBy 13 = .ok (.iload_n 3, 1) := by decide +kernel
theorem dX5_slotsNeededBy_14 : decode cX5_slotsNeededBy 14 = .ok (.aload_n 1, 1) := by decide +kernel
theorem dX5_slotsNeededBy_15 : decode cX5_slotsNeededBy 15 = .ok (.getfield 42, 3) := by decide +kernel
theorem dX5_slotsNeededBy_18 : decode cX5_slotsNeededBy 18 = .ok (.iload_n 3, 1) := by decide +kernel
theorem dX5_slotsNeededBy_19 : decode cX5_slotsNeededBy 19 = .ok (.laload, 1) := by decide +kernel
theorem dX5_slotsNeededBy_20 : decode cX5_slotsNeededBy 20 = .ok (.invokevirtual 73, 3) := by decide +kernel
theorem dX5_slotsNeededBy_23 : decode cX5_slotsNeededBy 23 = .ok (.ifCond .ne 20, 3) := by decide +kernel
theorem dX5_slotsNeededBy_26 : decode cX5_slotsNeededBy 26 = .ok (.aload_n 0, 1) := by decide +kernel
theorem dX5_slotsNeededBy_27 : decode cX5_slotsNeededBy 27 = .ok (.aload_n 1, 1) := by decide +kernel
theorem dX5_slotsNeededBy_28 : decode cX5_slotsNeededBy 28 = .ok (.getfield 42, 3) := by decide +kernel
theorem dX5_slotsNeededBy_31 : decode cX5_slotsNeededBy 31 = .ok (.iload_n 3, 1) := by decide +kernel
theorem dX5_slotsNeededBy_32 : decode cX5_slotsNeededBy 32 = .ok (.laload, 1) := by decide +kernel
theorem dX5_slotsNeededBy_33 : decode cX5_slotsNeededBy 33 = .ok (.invokevirtual 43, 3) := by decide +kernel
theorem dX5_slotsNeededBy_36 : decode cX5_slotsNeededBy 36 = .ok (.iconst (-1), 1) := by decide +kernel
theorem dX5_slotsNeededBy_37 : decode cX5_slotsNeededBy 37 = .ok (.if_icmp .ne 6, 3) := by decide +kernel
theorem dX5_slotsNeededBy_40 : decode cX5_slotsNeededBy 40 = .ok (.iinc 2 1, 3) := by decide +kernel
theorem dX5_slotsNeededBy_43 : decode cX5_slotsNeededBy 43 = .ok (.iinc 3 1, 3) := by decide +kernel
theorem dX5_slotsNeededBy_46 : decode cX5_slotsNeededBy 46 = .ok (.goto (-42), 3) := by decide +kernel
theorem dX5_slotsNeededBy_49 : decode cX5_slotsNeededBy 49 = .ok (.iload_n 2, 1) := by decide +kernel
theorem dX5_slotsNeededBy_50 : decode cX5_slotsNeededBy 50 = .ok (.ireturn, 1) := by decide +kernel
theorem dX5_roomNeededBy_0 : decode cX5_roomNeededBy 0 = .ok (.iconst 0, 1) := by decide +kernel
theorem dX5_roomNeededBy_1 : decode cX5_roomNeededBy 1 = .ok (.istore_n 2, 1) := by decide +kernel
theorem dX5_roomNeededBy_2 : decode cX5_roomNeededBy 2 = .ok (.iconst 0, 1) := by decide +kernel
theorem dX5_roomNeededBy_3 : decode cX5_roomNeededBy 3 = .ok (.istore_n 3, 1) := by decide +kernel
theorem dX5_roomNeededBy_4 : decode cX5_roomNeededBy 4 = .ok (.iload_n 3, 1) := by decide +kernel
theorem dX5_roomNeededBy_5 : decode cX5_roomNeededBy 5 = .ok (.aload_n 1, 1) := by decide +kernel
theorem dX5_roomNeededBy_6 : decode cX5_roomNeededBy 6 = .ok (.getfield 37, 3) := by decide +kernel
theorem dX5_roomNeededBy_9 : decode cX5_roomNeededBy 9 = .ok (.if_icmp .ge 46, 3) := by decide +kernel
theorem dX5_roomNeededBy_12 : decode cX5_roomNeededBy 12 = .ok (.aload_n 1, 1) := by decide +kernel
theorem dX5_roomNeededBy_13 : decode cX5_roomNeededBy 13 = .ok (.iload_n 3, 1) := by decide +kernel
theorem dX5_roomNeededBy_14 : decode cX5_roomNeededBy 14 = .ok (.aload_n 1, 1) := by decide +kernel
theorem dX5_roomNeededBy_15 : decode cX5_roomNeededBy 15 = .ok (.getfield 42, 3) := by decide +kernel
theorem dX5_roomNeededBy_18 : decode cX5_roomNeededBy 18 = .ok (.iload_n 3, 1) := by decide +kernel
theorem dX5_roomNeededBy_19 : decode cX5_roomNeededBy 19 = .ok (.laload, 1) := by decide +kernel
theorem dX5_roomNeededBy_20 : decode cX5_roomNeededBy 20 = .ok (.invokevirtual 73, 3) := by decide +kernel
theorem dX5_roomNeededBy_23 : decode cX5_roomNeededBy 23 = .ok (.ifCond .ne 26, 3) := by decide +kernel
theorem dX5_roomNeededBy_26 : decode cX5_roomNeededBy 26 = .ok (.aload_n 0, 1) := by decide +kernel
theorem dX5_roomNeededBy_27 : decode cX5_roomNeededBy 27 = .ok (.aload_n 1, 1) := by decide +kernel
theorem dX5_roomNeededBy_28 : decode cX5_roomNeededBy 28 = .ok (.getfield 42, 3) := by decide +kernel
theorem dX5_roomNeededBy_31 : decode cX5_roomNeededBy 31 = .ok (.iload_n 3, 1) := by decide +kernel
theorem dX5_roomNeededBy_32 : decode cX5_roomNeededBy 32 = .ok (.laload, 1) := by decide +kernel
theorem dX5_roomNeededBy_33 : decode cX5_roomNeededBy 33 = .ok (.invokevirtual 43, 3) := by decide +kernel
theorem dX5_roomNeededBy_36 : decode cX5_roomNeededBy 36 = .ok (.iconst (-1), 1) := by decide +kernel
theorem dX5_roomNeededBy_37 : decode cX5_roomNeededBy 37 = .ok (.if_icmp .ne 12, 3) := by decide +kernel
theorem dX5_roomNeededBy_40 : decode cX5_roomNeededBy 40 = .ok (.iload_n 2, 1) := by decide +kernel
theorem dX5_roomNeededBy_41 : decode cX5_roomNeededBy 41 = .ok (.aload_n 1, 1) := by decide +kernel
theorem dX5_roomNeededBy_42 : decode cX5_roomNeededBy 42 = .ok (.getfield 47, 3) := by decide +kernel
theorem dX5_roomNeededBy_45 : decode cX5_roomNeededBy 45 = .ok (.iload_n 3, 1) := by decide +kernel
theorem dX5_roomNeededBy_46 : decode cX5_roomNeededBy 46 = .ok (.iaload, 1) := by decide +kernel
theorem dX5_roomNeededBy_47 : decode cX5_roomNeededBy 47 = .ok (.iadd, 1) := by decide +kernel
theorem dX5_roomNeededBy_48 : decode cX5_roomNeededBy 48 = .ok (.istore_n 2, 1) := by decide +kernel
theorem dX5_roomNeededBy_49 : decode cX5_roomNeededBy 49 = .ok (.iinc 3 1, 3) := by decide +kernel
theorem dX5_roomNeededBy_52 : decode cX5_roomNeededBy 52 = .ok (.goto (-48), 3) := by decide +kernel
theorem dX5_roomNeededBy_55 : decode cX5_roomNeededBy 55 = .ok (.iload_n 2, 1) := by decide +kernel
theorem dX5_roomNeededBy_56 : decode cX5_roomNeededBy 56 = .ok (.ireturn, 1) := by decide +kernel
theorem dX5_pieces_0 : decode cX5_pieces 0 = .ok (.iconst 0, 1) := by decide +kernel
theorem dX5_pieces_1 : decode cX5_pieces 1 = .ok (.istore_n 1, 1) := by decide +kernel
theorem dX5_pieces_2 : decode cX5_pieces 2 = .ok (.iconst 0, 1) := by decide +kernel
theorem dX5_pieces_3 : decode cX5_pieces 3 = .ok (.istore_n 2, 1) := by decide +kernel
theorem dX5_pieces_4 : decode cX5_pieces 4 = .ok (.iload_n 2, 1) := by decide +kernel
theorem dX5_pieces_5 : decode cX5_pieces 5 = .ok (.bipush 60, 2) := by decide +kernel
theorem dX5_pieces_7 : decode cX5_pieces 7 = .ok (.if_icmp .ge 20, 3) := by decide +kernel
theorem dX5_pieces_10 : decode cX5_pieces 10 = .ok (.aload_n 0, 1) := by decide +kernel
theorem dX5_pieces_11 : decode cX5_pieces 11 = .ok (.iload_n 2, 1) := by decide +kernel
theorem dX5_pieces_12 : decode cX5_pieces 12 = .ok (.invokevirtual 77, 3) := by decide +kernel
theorem dX5_pieces_15 : decode cX5_pieces 15 = .ok (.ifCond .ne 6, 3) := by decide +kernel
theorem dX5_pieces_18 : decode cX5_pieces 18 = .ok (.iinc 1 1, 3) := by decide +kernel
theorem dX5_pieces_21 : decode cX5_pieces 21 = .ok (.iinc 2 1, 3) := by decide +kernel
theorem dX5_pieces_24 : decode cX5_pieces 24 = .ok (.goto (-20), 3) := by decide +kernel
theorem dX5_pieces_27 : decode cX5_pieces 27 = .ok (.iload_n 1, 1) := by decide +kernel
theorem dX5_pieces_28 : decode cX5_pieces 28 = .ok (.ireturn, 1) := by decide +kernel
theorem dX5_size_0 : decode cX5_size 0 = .ok (.iconst 0, 1) := by decide +kernel
theorem dX5_size_1 : decode cX5_size 1 = .ok (.istore_n 1, 1) := by decide +kernel
theorem dX5_size_2 : decode cX5_size 2 = .ok (.iconst 0, 1) := by decide +kernel
theorem dX5_size_3 : decode cX5_size 3 = .ok (.istore_n 2, 1) := by decide +kernel
theorem dX5_size_4 : decode cX5_size 4 = .ok (.iload_n 2, 1) := by decide +kernel
theorem dX5_size_5 : decode cX5_size 5 = .ok (.bipush 60, 2) := by decide +kernel
theorem dX5_size_7 : decode cX5_size 7 = .ok (.if_icmp .ge 26, 3) := by decide +kernel
theorem dX5_size_10 : decode cX5_size 10 = .ok (.aload_n 0, 1) := by decide +kernel
theorem dX5_size_11 : decode cX5_size 11 = .ok (.iload_n 2, 1) := by decide +kernel
theorem dX5_size_12 : decode cX5_size 12 = .ok (.invokevirtual 77, 3) := by decide +kernel
theorem dX5_size_15 : decode cX5_size 15 = .ok (.ifCond .ne 12, 3) := by decide +kernel
theorem dX5_size_18 : decode cX5_size 18 = .ok (.iload_n 1, 1) := by decide +kernel
theorem dX5_size_19 : decode cX5_size 19 = .ok (.aload_n 0, 1) := by decide +kernel
theorem dX5_size_20 : decode cX5_size 20 = .ok (.getfield 15, 3) := by decide +kernel
theorem dX5_size_23 : decode cX5_size 23 = .ok (.iload_n 2, 1) := by decide +kernel
theorem dX5_size_24 : decode cX5_size 24 = .ok (.iaload, 1) := by decide +kernel
theorem dX5_size_25 : decode cX5_size 25 = .ok (.iadd, 1) := by decide +kernel
theorem dX5_size_26 : decode cX5_size 26 = .ok (.istore_n 1, 1) := by decide +kernel
theorem dX5_size_27 : decode cX5_size 27 = .ok (.iinc 2 1, 3) := by decide +kernel
theorem dX5_size_30 : decode cX5_size 30 = .ok (.goto (-26), 3) := by decide +kernel
theorem dX5_size_33 : decode cX5_size 33 = .ok (.iload_n 1, 1) := by decide +kernel
theorem dX5_size_34 : decode cX5_size 34 = .ok (.ireturn, 1) := by decide +kernel
theorem dX5_unownedPieces_0 : decode cX5_unownedPieces 0 = .ok (.iconst 0, 1) := by decide +kernel
theorem dX5_unownedPieces_1 : decode cX5_unownedPieces 1 = .ok (.istore_n 1, 1) := by decide +kernel
theorem dX5_unownedPieces_2 : decode cX5_unownedPieces 2 = .ok (.iconst 0, 1) := by decide +kernel
theorem dX5_unownedPieces_3 : decode cX5_unownedPieces 3 = .ok (.istore_n 2, 1) := by decide +kernel
theorem dX5_unownedPieces_4 : decode cX5_unownedPieces 4 = .ok (.iload_n 2, 1) := by decide +kernel
theorem dX5_unownedPieces_5 : decode cX5_unownedPieces 5 = .ok (.bipush 60, 2) := by decide +kernel
theorem dX5_unownedPieces_7 : decode cX5_unownedPieces 7 = .ok (.if_icmp .ge 20, 3) := by decide +kernel
theorem dX5_unownedPieces_10 : decode cX5_unownedPieces 10 = .ok (.aload_n 0, 1) := by decide +kernel
theorem dX5_unownedPieces_11 : decode cX5_unownedPieces 11 = .ok (.iload_n 2, 1) := by decide +kernel
theorem dX5_unownedPieces_12 : decode cX5_unownedPieces 12 = .ok (.invokevirtual 52, 3) := by decide +kernel
theorem dX5_unownedPieces_15 : decode cX5_unownedPieces 15 = .ok (.ifCond .eq 6, 3) := by decide +kernel
theorem dX5_unownedPieces_18 : decode cX5_unownedPieces 18 = .ok (.iinc 1 1, 3) := by decide +kernel
theorem dX5_unownedPieces_21 : decode cX5_unownedPieces 21 = .ok (.iinc 2 1, 3) := by decide +kernel
theorem dX5_unownedPieces_24 : decode cX5_unownedPieces 24 = .ok (.goto (-20), 3) := by decide +kernel
theorem dX5_unownedPieces_27 : decode cX5_unownedPieces 27 = .ok (.iload_n 1, 1) := by decide +kernel
theorem dX5_unownedPieces_28 : decode cX5_unownedPieces 28 = .ok (.ireturn, 1) := by decide +kernel
theorem dX5_unownedSize_0 : decode cX5_unownedSize 0 = .ok (.iconst 0, 1) := by decide +kernel
theorem dX5_unownedSize_1 : decode cX5_unownedSize 1 = .ok (.istore_n 1, 1) := by decide +kernel
theorem dX5_unownedSize_2 : decode cX5_unownedSize 2 = .ok (.iconst 0, 1) := by decide +kernel
theorem dX5_unownedSize_3 : decode cX5_unownedSize 3 = .ok (.istore_n 2, 1) := by decide +kernel
theorem dX5_unownedSize_4 : decode cX5_unownedSize 4 = .ok (.iload_n 2, 1) := by decide +kernel
theorem dX5_unownedSize_5 : decode cX5_unownedSize 5 = .ok (.bipush 60, 2) := by decide +kernel
theorem dX5_unownedSize_7 : decode cX5_unownedSize 7 = .ok (.if_icmp .ge 26, 3) := by decide +kernel
theorem dX5_unownedSize_10 : decode cX5_unownedSize 10 = .ok (.aload_n 0, 1) := by decide +kernel
theorem dX5_unownedSize_11 : decode cX5_unownedSize 11 = .ok (.iload_n 2, 1) := by decide +kernel
theorem dX5_unownedSize_12 : decode cX5_unownedSize 12 = .ok (.invokevirtual 52, 3) := by decide +kernel
theorem dX5_unownedSize_15 : decode cX5_unownedSize 15 = .ok (.ifCond .eq 12, 3) := by decide +kernel
theorem dX5_unownedSize_18 : decode cX5_unownedSize 18 = .ok (.iload_n 1, 1) := by decide +kernel
theorem dX5_unownedSize_19 : decode cX5_unownedSize 19 = .ok (.aload_n 0, 1) := by decide +kernel
theorem dX5_unownedSize_20 : decode cX5_unownedSize 20 = .ok (.getfield 15, 3) := by decide +kernel
theorem dX5_unownedSize_23 : decode cX5_unownedSize 23 = .ok (.iload_n 2, 1) := by decide +kernel
theorem dX5_unownedSize_24 : decode cX5_unownedSize 24 = .ok (.iaload, 1) := by decide +kernel
theorem dX5_unownedSize_25 : decode cX5_unownedSize 25 = .ok (.iadd, 1) := by decide +kernel
theorem dX5_unownedSize_26 : decode cX5_unownedSize 26 = .ok (.istore_n 1, 1) := by decide +kernel
theorem dX5_unownedSize_27 : decode cX5_unownedSize 27 = .ok (.iinc 2 1, 3) := by decide +kernel
theorem dX5_unownedSize_30 : decode cX5_unownedSize 30 = .ok (.goto (-26), 3) := by decide +kernel
theorem dX5_unownedSize_33 : decode cX5_unownedSize 33 = .ok (.iload_n 1, 1) := by decide +kernel
theorem dX5_unownedSize_34 : decode cX5_unownedSize 34 = .ok (.ireturn, 1) := by decide +kernel
theorem dX5_mostOwners_0 : decode cX5_mostOwners 0 = .ok (.iconst 0, 1) := by decide +kernel
theorem dX5_mostOwners_1 : decode cX5_mostOwners 1 = .ok (.istore_n 1, 1) := by decide +kernel
theorem dX5_mostOwners_2 : decode cX5_mostOwners 2 = .ok (.iconst 0, 1) := by decide +kernel
theorem dX5_mostOwners_3 : decode cX5_mostOwners 3 = .ok (.istore_n 2, 1) := by decide +kernel
theorem dX5_mostOwners_4 : decode cX5_mostOwners 4 = .ok (.iload_n 2, 1) := by decide +kernel
theorem dX5_mostOwners_5 : decode cX5_mostOwners 5 = .ok (.bipush 60, 2) := by decide +kernel
theorem dX5_mostOwners_7 : decode cX5_mostOwners 7 = .ok (.if_icmp .ge 28, 3) := by decide +kernel
theorem dX5_mostOwners_10 : decode cX5_mostOwners 10 = .ok (.aload_n 0, 1) := by decide +kernel
theorem dX5_mostOwners_11 : decode cX5_mostOwners 11 = .ok (.iload_n 2, 1) := by decide +kernel
theorem dX5_mostOwners_12 : decode cX5_mostOwners 12 = .ok (.invokevirtual 77, 3) := by decide +kernel
theorem dX5_mostOwners_15 : decode cX5_mostOwners 15 = .ok (.ifCond .ne 14, 3) := by decide +kernel
theorem dX5_mostOwners_18 : decode cX5_mostOwners 18 = .ok (.iload_n 1, 1) := by decide +kernel
theorem dX5_mostOwners_19 : decode cX5_mostOwners 19 = .ok (.aload_n 0, 1) := by decide +kernel
theorem dX5_mostOwners_20 : decode cX5_mostOwners 20 = .ok (.getfield 19, 3) := by decide +kernel
theorem dX5_mostOwners_23 : decode cX5_mostOwners 23 = .ok (.iload_n 2, 1) := by decide +kernel
theorem dX5_mostOwners_24 : decode cX5_mostOwners 24 = .ok (.iaload, 1) := by decide +kernel
theorem dX5_mostOwners_25 : decode cX5_mostOwners 25 = .ok (.invokestatic 80, 3) := by decide +kernel
theorem dX5_mostOwners_28 : decode cX5_mostOwners 28 = .ok (.istore_n 1, 1) := by decide +kernel
theorem dX5_mostOwners_29 : decode cX5_mostOwners 29 = .ok (.iinc 2 1, 3) := by decide +kernel
theorem dX5_mostOwners_32 : decode cX5_mostOwners 32 = .ok (.goto (-28), 3) := by decide +kernel
theorem dX5_mostOwners_35 : decode cX5_mostOwners 35 = .ok (.iload_n 1, 1) := by decide +kernel
theorem dX5_mostOwners_36 : decode cX5_mostOwners 36 = .ok (.ireturn, 1) := by decide +kernel
theorem dX6_init_0 : decode cX6_init 0 = .ok (.aload_n 0, 1) := by decide +kernel
theorem dX6_init_1 : decode cX6_init 1 = .ok (.invokespecial 1, 3) := by decide +kernel
theorem dX6_init_4 : decode cX6_init 4 = .ok (.aload_n 0, 1) := by decide +kernel
theorem dX6_init_5 : decode cX6_init 5 = .ok (.new 7, 3) := by decide +kernel
theorem dX6_init_8 : decode cX6_init 8 = .ok (.dup, 1) := by decide +kernel
theorem dX6_init_9 : decode cX6_init 9 = .ok (.invokespecial 9, 3) := by decide +kernel
theorem dX6_init_12 : decode cX6_init 12 = .ok (.putfield 10, 3) := by decide +kernel
theorem dX6_init_15 : decode cX6_init 15 = .ok (.aload_n 0, 1) := by decide +kernel
theorem dX6_init_16 : decode cX6_init 16 = .ok (.new 16, 3) := by decide +kernel
theorem dX6_init_19 : decode cX6_init 19 = .ok (.dup, 1) := by decide +kernel
theorem dX6_init_20 : decode cX6_init 20 = .ok (.invokespecial 18, 3) := by decide +kernel
theorem dX6_init_23 : decode cX6_init 23 = .ok (.putfield 19, 3) := by decide +kernel
theorem dX6_init_26 : decode cX6_init 26 = .ok (.aload_n 0, 1) := by decide +kernel
theorem dX6_init_27 : decode cX6_init 27 = .ok (.new 23, 3) := by decide +kernel
theorem dX6_init_30 : decode cX6_init 30 = .ok (.dup, 1) := by decide +kernel
theorem dX6_init_31 : decode cX6_init 31 = .ok (.invokespecial 25, 3) := by decide +kernel
theorem dX6_init_34 : decode cX6_init 34 = .ok (.putfield 26, 3) := by decide +kernel
theorem dX6_init_37 : decode cX6_init 37 = .ok (.aload_n 0, 1) := by decide +kernel
theorem dX6_init_38 : decode cX6_init 38 = .ok (.new 7, 3) := by decide +kernel
theorem dX6_init_41 : decode cX6_init 41 = .ok (.dup, 1) := by decide +kernel
theorem dX6_init_42 : decode cX6_init 42 = .ok (.invokespecial 9, 3) := by decide +kernel
theorem dX6_init_45 : decode cX6_init 45 = .ok (.putfield 30, 3) := by decide +kernel
theorem dX6_init_48 : decode cX6_init 48 = .ok (.aload_n 0, 1) := by decide +kernel
theorem dX6_init_49 : decode cX6_init 49 = .ok (.new 33, 3) := by decide +kernel
theorem dX6_init_52 : decode cX6_init 52 = .ok (.dup, 1) := by decide +kernel
theorem dX6_init_53 : decode cX6_init 53 = .ok (.invokespecial 35, 3) := by decide +kernel
theorem dX6_init_56 : decode cX6_init 56 = .ok (.putfield 36, 3) := by decide +kernel
theorem dX6_init_59 : decode cX6_init 59 = .ok (.aload_n 0, 1) := by decide +kernel
theorem dX6_init_60 : decode cX6_init 60 = .ok (.new 40, 3) := by decide +kernel
theorem dX6_init_63 : decode cX6_init 63 = .ok (.dup, 1) := by decide +kernel
theorem dX6_init_64 : decode cX6_init 64 = .ok (.invokespecial 42, 3) := by decide +kernel
theorem dX6_init_67 : decode cX6_init 67 = .ok (.putfield 43, 3) := by decide +kernel
theorem dX6_init_70 : decode cX6_init 70 = .ok (.aload_n 0, 1) := by decide +kernel
theorem dX6_init_71 : decode cX6_init 71 = .ok (.sipush 160, 3) := by decide +kernel
theorem dX6_init_74 : decode cX6_init 74 = .ok (.newarray .long, 2) := by decide +kernel
theorem dX6_init_76 : decode cX6_init 76 = .ok (.putfield 47, 3) := by decide +kernel
theorem dX6_init_79 : decode cX6_init 79 = .ok (.return_, 1) := by decide +kernel
theorem dX6_put_0 : decode cX6_put 0 = .ok (.iload_n 1, 1) := by decide +kernel
theorem dX6_put_1 : decode cX6_put 1 = .ok (.invokestatic 51, 3) := by decide +kernel
theorem dX6_put_4 : decode cX6_put 4 = .ok (.aload_n 0, 1) := by decide +kernel
theorem dX6_put_5 : decode cX6_put 5 = .ok (.invokevirtual 55, 3) := by decide +kernel
theorem dX6_put_8 : decode cX6_put 8 = .ok (.aload_n 0, 1) := by decide +kernel
theorem dX6_put_9 : decode cX6_put 9 = .ok (.getfield 36, 3) := by decide +kernel
theorem dX6_put_12 : decode cX6_put 12 = .ok (.invokevirtual 58, 3) := by decide +kernel
theorem dX6_put_15 : decode cX6_put 15 = .ok (.aload_n 0, 1) := by decide +kernel
theorem dX6_put_16 : decode cX6_put 16 = .ok (.getfield 26, 3) := by decide +kernel
theorem dX6_put_19 : decode cX6_put 19 = .ok (.aload_n 0, 1) := by decide +kernel
theorem dX6_put_20 : decode cX6_put 20 = .ok (.getfield 36, 3) := by decide +kernel
theorem dX6_put_23 : decode cX6_put 23 = .ok (.invokevirtual 61, 3) := by decide +kernel
theorem dX6_put_26 : decode cX6_put 26 = .ok (.aload_n 0, 1) := by decide +kernel
theorem dX6_put_27 : decode cX6_put 27 = .ok (.iload_n 1, 1) := by decide +kernel
theorem dX6_put_28 : decode cX6_put 28 = .ok (.invokevirtual 65, 3) := by decide +kernel
theorem dX6_put_31 : decode cX6_put 31 = .ok (.istore_n 2, 1) := by decide +kernel
theorem dX6_put_32 : decode cX6_put 32 = .ok (.aload_n 0, 1) := by decide +kernel
theorem dX6_put_33 : decode cX6_put 33 = .ok (.getfield 26, 3) := by decide +kernel
theorem dX6_put_36 : decode cX6_put 36 = .ok (.invokevirtual 69, 3) := by decide +kernel
theorem dX6_put_39 : decode cX6_put 39 = .ok (.iload_n 2, 1) := by decide +kernel
theorem dX6_put_40 : decode cX6_put 40 = .ok (.ireturn, 1) := by decide +kernel
theorem dX6_insert_0 : decode cX6_insert 0 = .ok (.iload_n 1, 1) := by decide +kernel
theorem dX6_insert_1 : decode cX6_insert 1 = .ok (.invokestatic 51, 3) := by decide +kernel
theorem dX6_insert_4 : decode cX6_insert 4 = .ok (.aload_n 0, 1) := by decide +kernel
theorem dX6_insert_5 : decode cX6_insert 5 = .ok (.getfield 10, 3) := by decide +kernel
theorem dX6_insert_8 : decode cX6_insert 8 = .ok (.getfield 70, 3) := by decide +kernel
theorem dX6_insert_11 : decode cX6_insert 11 = .ok (.iload_n 1, 1) := by decide +kernel
theorem dX6_insert_12 : decode cX6_insert 12 = .ok (.aaload, 1) := by decide +kernel
theorem dX6_insert_13 : decode cX6_insert 13 = .ok (.astore_n 3, 1) := by decide +kernel
theorem dX6_insert_14 : decode cX6_insert 14 = .ok (.iload_n 2, 1) := by decide +kernel
theorem dX6_insert_15 : decode cX6_insert 15 = .ok (.ifCond .lt 11, 3) := by decide +kernel
theorem dX6_insert_18 : decode cX6_insert 18 = .ok (.iload_n 2, 1) := by decide +kernel
theorem dX6_insert_19 : decode cX6_insert 19 = .ok (.aload_n 3, 1) := by decide +kernel
theorem dX6_insert_20 : decode cX6_insert 20 = .ok (.getfield 74, 3) := by decide +kernel
theorem dX6_insert_23 : decode cX6_insert 23 = .ok (.if_icmp .le 13, 3) := by decide +kernel
theorem dX6_insert_26 : decode cX6_insert 26 = .ok (.new 78, 3) := by decide +kernel
theorem dX6_insert_29 : decode cX6_insert 29 = .ok (.dup, 1) := by decide +kernel
theorem dX6_insert_30 : decode cX6_insert 30 = .ok (.ldc 80, 2) := by decide +kernel
theorem dX6_insert_32 : decode cX6_insert 32 = .ok (.invokespecial 82, 3) := by decide +kernel
theorem dX6_insert_35 : decode cX6_insert 35 = .ok (.athrow, 1) := by decide +kernel
theorem dX6_insert_36 : decode cX6_insert 36 = .ok (.aload_n 0, 1) := by decide +kernel
theorem dX6_insert_37 : decode cX6_insert 37 = .ok (.invokevirtual 55, 3) := by decide +kernel
theorem dX6_insert_40 : decode cX6_insert 40 = .ok (.aload_n 3, 1) := by decide +kernel
theorem dX6_insert_41 : decode cX6_insert 41 = .ok (.getfield 74, 3) := by decide +kernel
theorem dX6_insert_44 : decode cX6_insert 44 = .ok (.aload_n 0, 1) := by decide +kernel
theorem dX6_insert_45 : decode cX6_insert 45 = .ok (.getfield 26, 3) := by decide +kernel
theorem dX6_insert_48 : decode cX6_insert 48 = .ok (.invokevirtual 85, 3) := by decide +kernel
theorem dX6_insert_51 : decode cX6_insert 51 = .ok (.iadd, 1) := by decide +kernel
theorem dX6_insert_52 : decode cX6_insert 52 = .ok (.bipush 40, 2) := by decide +kernel
theorem dX6_insert_54 : decode cX6_insert 54 = .ok (.if_icmp .le 13, 3) := by decide +kernel
theorem dX6_insert_57 : decode cX6_insert 57 = .ok (.new 89, 3) := by decide +kernel
theorem dX6_insert_60 : decode cX6_insert 60 = .ok (.dup, 1) := by decide +kernel
theorem dX6_insert_61 : decode cX6_insert 61 = .ok (.ldc 91, 2) := by decide +kernel
theorem dX6_insert_63 : decode cX6_insert 63 = .ok (.invokespecial 93, 3) := by decide +kernel
theorem dX6_insert_66 : decode cX6_insert 66 = .ok (.athrow, 1) := by decide +kernel
theorem dX6_insert_67 : decode cX6_insert 67 = .ok (.aload_n 0, 1) := by decide +kernel
theorem dX6_insert_68 : decode cX6_insert 68 = .ok (.getfield 36, 3) := by decide +kernel
theorem dX6_insert_71 : decode cX6_insert 71 = .ok (.invokevirtual 58, 3) := by decide +kernel
theorem dX6_insert_74 : decode cX6_insert 74 = .ok (.aload_n 0, 1) := by decide +kernel
theorem dX6_insert_75 : decode cX6_insert 75 = .ok (.getfield 36, 3) := by decide +kernel
theorem dX6_insert_78 : decode cX6_insert 78 = .ok (.aload_n 3, 1) := by decide +kernel
theorem dX6_insert_79 : decode cX6_insert 79 = .ok (.iconst 0, 1) := by decide +kernel
theorem dX6_insert_80 : decode cX6_insert 80 = .ok (.iload_n 2, 1) := by decide +kernel
theorem dX6_insert_81 : decode cX6_insert 81 = .ok (.invokevirtual 94, 3) := by decide +kernel
theorem dX6_insert_84 : decode cX6_insert 84 = .ok (.aload_n 0, 1) := by decide +kernel
theorem dX6_insert_85 : decode cX6_insert 85 = .ok (.getfield 26, 3) := by decide +kernel
theorem dX6_insert_88 : decode cX6_insert 88 = .ok (.aload_n 0, 1) := by decide +kernel
theorem dX6_insert_89 : decode cX6_insert 89 = .ok (.getfield 36, 3) := by decide +kernel
theorem dX6_insert_92 : decode cX6_insert 92 = .ok (.invokevirtual 61, 3) := by decide +kernel
theorem dX6_insert_95 : decode cX6_insert 95 = .ok (.aload_n 0, 1) := by decide +kernel
theorem dX6_insert_96 : decode cX6_insert 96 = .ok (.getfield 36, 3) := by decide +kernel
theorem dX6_insert_99 : decode cX6_insert 99 = .ok (.aload_n 3, 1) := by decide +kernel
theorem dX6_insert_100 : decode cX6_insert 100 = .ok (.iload_n 2, 1) := by decide +kernel
theorem dX6_insert_101 : decode cX6_insert 101 = .ok (.aload_n 3, 1) := by decide +kernel
theorem dX6_insert_102 : decode cX6_insert 102 = .ok (.getfield 74, 3) := by decide +kernel
theorem dX6_insert_105 : decode cX6_insert 105 = .ok (.invokevirtual 94, 3) := by decide +kernel
theorem dX6_insert_108 : decode cX6_insert 108 = .ok (.aload_n 0, 1) := by decide +kernel
theorem dX6_insert_109 : decode cX6_insert 109 = .ok (.iload_n 1, 1) := by decide +kernel
theorem dX6_insert_110 : decode cX6_insert 110 = .ok (.invokevirtual 65, 3) := by decide +kernel
theorem dX6_insert_113 : decode cX6_insert 113 = .ok (.istore 4, 2) := by decide +kernel
theorem dX6_insert_115 : decode cX6_insert 115 = .ok (.aload_n 0, 1) := by decide +kernel
theorem dX6_insert_116 : decode cX6_insert 116 = .ok (.getfield 26, 3) := by decide +kernel
theorem dX6_insert_119 : decode cX6_insert 119 = .ok (.invokevirtual 69, 3) := by decide +kernel
theorem dX6_insert_122 : decode cX6_insert 122 = .ok (.iload 4, 2) := by decide +kernel
theorem dX6_insert_124 : decode cX6_insert 124 = .ok (.ireturn, 1) := by decide +kernel
theorem dX6_takeOut_0 : decode cX6_takeOut 0 = .ok (.iload_n 1, 1) := by decide +kernel
theorem dX6_takeOut_1 : decode cX6_takeOut 1 = .ok (.invokestatic 51, 3) := by decide +kernel
theorem dX6_takeOut_4 : decode cX6_takeOut 4 = .ok (.aload_n 0, 1) := by decide +kernel
theorem dX6_takeOut_5 : decode cX6_takeOut 5 = .ok (.getfield 10, 3) := by decide +kernel
theorem dX6_takeOut_8 : decode cX6_takeOut 8 = .ok (.getfield 70, 3) := by decide +kernel
theorem dX6_takeOut_11 : decode cX6_takeOut 11 = .ok (.iload_n 1, 1) := by decide +kernel
theorem dX6_takeOut_12 : decode cX6_takeOut 12 = .ok (.aaload, 1) := by decide +kernel
theorem dX6_takeOut_13 : decode cX6_takeOut 13 = .ok (.astore 4, 2) := by decide +kernel
theorem dX6_takeOut_15 : decode cX6_takeOut 15 = .ok (.aload 4, 2) := by decide +kernel
theorem dX6_takeOut_17 : decode cX6_takeOut 17 = .ok (.iload_n 2, 1) := by decide +kernel
theorem dX6_takeOut_18 : decode cX6_takeOut 18 = .ok (.invokestatic 98, 3) := by decide +kernel
theorem dX6_takeOut_21 : decode cX6_takeOut 21 = .ok (.iload_n 3, 1) := by decide +kernel
theorem dX6_takeOut_22 : decode cX6_takeOut 22 = .ok (.iconst 1, 1) := by decide +kernel
theorem dX6_takeOut_23 : decode cX6_takeOut 23 = .ok (.if_icmp .lt 14, 3) := by decide +kernel
theorem dX6_takeOut_26 : decode cX6_takeOut 26 = .ok (.iload_n 3, 1) := by decide +kernel
theorem dX6_takeOut_27 : decode cX6_takeOut 27 = .ok (.aload 4, 2) := by decide +kernel
theorem dX6_takeOut_29 : decode cX6_takeOut 29 = .ok (.getfield 74, 3) := by decide +kernel
theorem dX6_takeOut_32 : decode cX6_takeOut 32 = .ok (.iload_n 2, 1) := by decide +kernel
theorem dX6_takeOut_33 : decode cX6_takeOut 33 = .ok (.isub, 1) := by decide +kernel
theorem dX6_takeOut_34 : decode cX6_takeOut 34 = .ok (.if_icmp .le 13, 3) := by decide +kernel
theorem dX6_takeOut_37 : decode cX6_takeOut 37 = .ok (.new 102, 3) := by decide +kernel
theorem dX6_takeOut_40 : decode cX6_takeOut 40 = .ok (.dup, 1) := by decide +kernel
theorem dX6_takeOut_41 : decode cX6_takeOut 41 = .ok (.ldc 104, 2) := by decide +kernel
theorem dX6_takeOut_43 : decode cX6_takeOut 43 = .ok (.invokespecial 106, 3) := by decide +kernel
theorem dX6_takeOut_46 : decode cX6_takeOut 46 = .ok (.athrow, 1) := by decide +kernel
theorem dX6_takeOut_47 : decode cX6_takeOut 47 = .ok (.aload_n 0, 1) := by decide +kernel
theorem dX6_takeOut_48 : decode cX6_takeOut 48 = .ok (.getfield 36, 3) := by decide +kernel
theorem dX6_takeOut_51 : decode cX6_takeOut 51 = .ok (.invokevirtual 58, 3) := by decide +kernel
theorem dX6_takeOut_54 : decode cX6_takeOut 54 = .ok (.aload_n 0, 1) := by decide +kernel
theorem dX6_takeOut_55 : decode cX6_takeOut 55 = .ok (.getfield 36, 3) := by decide +kernel
theorem dX6_takeOut_58 : decode cX6_takeOut 58 = .ok (.aload 4, 2) := by decide +kernel
theorem dX6_takeOut_60 : decode cX6_takeOut 60 = .ok (.iconst 0, 1) := by decide +kernel
theorem dX6_takeOut_61 : decode cX6_takeOut 61 = .ok (.iload_n 2, 1) := by decide +kernel
theorem dX6_takeOut_62 : decode cX6_takeOut 62 = .ok (.invokevirtual 94, 3) := by decide +kernel
theorem dX6_takeOut_65 : decode cX6_takeOut 65 = .ok (.aload_n 0, 1) := by decide +kernel
theorem dX6_takeOut_66 : decode cX6_takeOut 66 = .ok (.getfield 36, 3) := by decide +kernel
theorem dX6_takeOut_69 : decode cX6_takeOut 69 = .ok (.aload 4, 2) := by decide +kernel
theorem dX6_takeOut_71 : decode cX6_takeOut 71 = .ok (.iload_n 2, 1) := by decide +kernel
theorem dX6_takeOut_72 : decode cX6_takeOut 72 = .ok (.iload_n 3, 1) := by decide +kernel
theorem dX6_takeOut_73 : decode cX6_takeOut 73 = .ok (.iadd, 1) := by decide +kernel
theorem dX6_takeOut_74 : decode cX6_takeOut 74 = .ok (.aload 4, 2) := by decide +kernel
theorem dX6_takeOut_76 : decode cX6_takeOut 76 = .ok (.getfield 74, 3) := by decide +kernel
theorem dX6_takeOut_79 : decode cX6_takeOut 79 = .ok (.invokevirtual 94, 3) := by decide +kernel
theorem dX6_takeOut_82 : decode cX6_takeOut 82 = .ok (.aload_n 0, 1) := by decide +kernel
theorem dX6_takeOut_83 : decode cX6_takeOut 83 = .ok (.iload_n 1, 1) := by decide +kernel
theorem dX6_takeOut_84 : decode cX6_takeOut 84 = .ok (.invokevirtual 65, 3) := by decide +kernel
theorem dX6_takeOut_87 : decode cX6_takeOut 87 = .ok (.ireturn, 1) := by decide +kernel
theorem dX6_copy_0 : decode cX6_copy 0 = .ok (.iload_n 1, 1) := by decide +kernel
theorem dX6_copy_1 : decode cX6_copy 1 = .ok (.invokestatic 51, 3) := by decide +kernel
theorem dX6_copy_4 : decode cX6_copy 4 = .ok (.iload_n 2, 1) := by decide +kernel
theorem dX6_copy_5 : decode cX6_copy 5 = .ok (.invokestatic 51, 3) := by decide +kernel
theorem dX6_copy_8 : decode cX6_copy 8 = .ok (.aload_n 0, 1) := by decide +kernel
theorem dX6_copy_9 : decode cX6_copy 9 = .ok (.getfield 36, 3) := by decide +kernel
theorem dX6_copy_12 : decode cX6_copy 12 = .ok (.aload_n 0, 1) := by decide +kernel
theorem dX6_copy_13 : decode cX6_copy 13 = .ok (.getfield 10, 3) := by decide +kernel
theorem dX6_copy_16 : decode cX6_copy 16 = .ok (.getfield 70, 3) := by decide +kernel
theorem dX6_copy_19 : decode cX6_copy 19 = .ok (.iload_n 2, 1) := by decide +kernel
theorem dX6_copy_20 : decode cX6_copy 20 = .ok (.aaload, 1) := by decide +kernel
theorem dX6_copy_21 : decode cX6_copy 21 = .ok (.invokevirtual 107, 3) := by decide +kernel
theorem dX6_copy_24 : decode cX6_copy 24 = .ok (.aload_n 0, 1) := by decide +kernel
theorem dX6_copy_25 : decode cX6_copy 25 = .ok (.iload_n 1, 1) := by decide +kernel
theorem dX6_copy_26 : decode cX6_copy 26 = .ok (.invokevirtual 65, 3) := by decide +kernel
theorem dX6_copy_29 : decode cX6_copy 29 = .ok (.ireturn, 1) := by decide +kernel
theorem dX6_rotate_0 : decode cX6_rotate 0 = .ok (.iload_n 1, 1) := by decide +kernel
theorem dX6_rotate_1 : decode cX6_rotate 1 = .ok (.invokestatic 51, 3) := by decide +kernel
theorem dX6_rotate_4 : decode cX6_rotate 4 = .ok (.aload_n 0, 1) := by decide +kernel
theorem dX6_rotate_5 : decode cX6_rotate 5 = .ok (.getfield 10, 3) := by decide +kernel
theorem dX6_rotate_8 : decode cX6_rotate 8 = .ok (.getfield 70, 3) := by decide +kernel
theorem dX6_rotate_11 : decode cX6_rotate 11 = .ok (.iload_n 1, 1) := by decide +kernel
theorem dX6_rotate_12 : decode cX6_rotate 12 = .ok (.aaload, 1) := by decide +kernel
theorem dX6_rotate_13 : decode cX6_rotate 13 = .ok (.astore_n 3, 1) := by decide +kernel
theorem dX6_rotate_14 : decode cX6_rotate 14 = .ok (.iload_n 2, 1) := by decide +kernel
theorem dX6_rotate_15 : decode cX6_rotate 15 = .ok (.iconst 1, 1) := by decide +kernel
theorem dX6_rotate_16 : decode cX6_rotate 16 = .ok (.if_icmp .lt 11, 3) := by decide +kernel
theorem dX6_rotate_19 : decode cX6_rotate 19 = .ok (.iload_n 2, 1) := by decide +kernel
theorem dX6_rotate_20 : decode cX6_rotate 20 = .ok (.aload_n 3, 1) := by decide +kernel
theorem dX6_rotate_21 : decode cX6_rotate 21 = .ok (.getfield 74, 3) := by decide +kernel
theorem dX6_rotate_24 : decode cX6_rotate 24 = .ok (.if_icmp .le 13, 3) := by decide +kernel
theorem dX6_rotate_27 : decode cX6_rotate 27 = .ok (.new 102, 3) := by decide +kernel
theorem dX6_rotate_30 : decode cX6_rotate 30 = .ok (.dup, 1) := by decide +kernel
theorem dX6_rotate_31 : decode cX6_rotate 31 = .ok (.ldc 104, 2) := by decide +kernel
theorem dX6_rotate_33 : decode cX6_rotate 33 = .ok (.invokespecial 106, 3) := by decide +kernel
theorem dX6_rotate_36 : decode cX6_rotate 36 = .ok (.athrow, 1) := by decide +kernel
theorem dX6_rotate_37 : decode cX6_rotate 37 = .ok (.aload_n 0, 1) := by decide +kernel
theorem dX6_rotate_38 : decode cX6_rotate 38 = .ok (.getfield 36, 3) := by decide +kernel
theorem dX6_rotate_41 : decode cX6_rotate 41 = .ok (.invokevirtual 58, 3) := by decide +kernel
theorem dX6_rotate_44 : decode cX6_rotate 44 = .ok (.aload_n 0, 1) := by decide +kernel
theorem dX6_rotate_45 : decode cX6_rotate 45 = .ok (.getfield 36, 3) := by decide +kernel
theorem dX6_rotate_48 : decode cX6_rotate 48 = .ok (.aload_n 3, 1) := by decide +kernel
theorem dX6_rotate_49 : decode cX6_rotate 49 = .ok (.iload_n 2, 1) := by decide +kernel
theorem dX6_rotate_50 : decode cX6_rotate 50 = .ok (.aload_n 3, 1) := by decide +kernel
theorem dX6_rotate_51 : decode cX6_rotate 51 = .ok (.getfield 74, 3) := by decide +kernel
theorem dX6_rotate_54 : decode cX6_rotate 54 = .ok (.invokevirtual 94, 3) := by decide +kernel
theorem dX6_rotate_57 : decode cX6_rotate 57 = .ok (.aload_n 0, 1) := by decide +kernel
theorem dX6_rotate_58 : decode cX6_rotate 58 = .ok (.getfield 36, 3) := by decide +kernel
theorem dX6_rotate_61 : decode cX6_rotate 61 = .ok (.aload_n 3, 1) := by decide +kernel
theorem dX6_rotate_62 : decode cX6_rotate 62 = .ok (.iconst 0, 1) := by decide +kernel
theorem dX6_rotate_63 : decode cX6_rotate 63 = .ok (.iload_n 2, 1) := by decide +kernel
theorem dX6_rotate_64 : decode cX6_rotate 64 = .ok (.invokevirtual 94, 3) := by decide +kernel
theorem dX6_rotate_67 : decode cX6_rotate 67 = .ok (.aload_n 0, 1) := by decide +kernel
theorem dX6_rotate_68 : decode cX6_rotate 68 = .ok (.iload_n 1, 1) := by decide +kernel
theorem dX6_rotate_69 : decode cX6_rotate 69 = .ok (.invokevirtual 65, 3) := by decide +kernel
theorem dX6_rotate_72 : decode cX6_rotate 72 = .ok (.ireturn, 1) := by decide +kernel
theorem dX6_drop_0 : decode cX6_drop 0 = .ok (.iload_n 1, 1) := by decide +kernel
theorem dX6_drop_1 : decode cX6_drop 1 = .ok (.invokestatic 51, 3) := by decide +kernel
theorem dX6_drop_4 : decode cX6_drop 4 = .ok (.aload_n 0, 1) := by decide +kernel
theorem dX6_drop_5 : decode cX6_drop 5 = .ok (.getfield 10, 3) := by decide +kernel
theorem dX6_drop_8 : decode cX6_drop 8 = .ok (.getfield 70, 3) := by decide +kernel
theorem dX6_drop_11 : decode cX6_drop 11 = .ok (.iload_n 1, 1) := by decide +kernel
theorem dX6_drop_12 : decode cX6_drop 12 = .ok (.aaload, 1) := by decide +kernel
theorem dX6_drop_13 : decode cX6_drop 13 = .ok (.astore_n 2, 1) := by decide +kernel
theorem dX6_drop_14 : decode cX6_drop 14 = .ok (.aload_n 2, 1) := by decide +kernel
theorem dX6_drop_15 : decode cX6_drop 15 = .ok (.getfield 74, 3) := by decide +kernel
theorem dX6_drop_18 : decode cX6_drop 18 = .ok (.istore_n 3, 1) := by decide +kernel
theorem dX6_drop_19 : decode cX6_drop 19 = .ok (.aload_n 0, 1) := by decide +kernel
theorem dX6_drop_20 : decode cX6_drop 20 = .ok (.getfield 19, 3) := by decide +kernel
theorem dX6_drop_23 : decode cX6_drop 23 = .ok (.aload_n 0, 1) := by decide +kernel
theorem dX6_drop_24 : decode cX6_drop 24 = .ok (.getfield 10, 3) := by decide +kernel
theorem dX6_drop_27 : decode cX6_drop 27 = .ok (.invokevirtual 110, 3) := by decide +kernel
theorem dX6_drop_30 : decode cX6_drop 30 = .ok (.aload_n 0, 1) := by decide +kernel
theorem dX6_drop_31 : decode cX6_drop 31 = .ok (.getfield 10, 3) := by decide +kernel
theorem dX6_drop_34 : decode cX6_drop 34 = .ok (.getfield 114, 3) := by decide +kernel
theorem dX6_drop_37 : decode cX6_drop 37 = .ok (.aload_n 2, 1) := by decide +kernel
theorem dX6_drop_38 : decode cX6_drop 38 = .ok (.invokevirtual 118, 3) := by decide +kernel
theorem dX6_drop_41 : decode cX6_drop 41 = .ok (.aload_n 2, 1) := by decide +kernel
theorem dX6_drop_42 : decode cX6_drop 42 = .ok (.invokevirtual 58, 3) := by decide +kernel
theorem dX6_drop_45 : decode cX6_drop 45 = .ok (.iload_n 3, 1) := by decide +kernel
theorem dX6_drop_46 : decode cX6_drop 46 = .ok (.ireturn, 1) := by decide +kernel
theorem dX6_sweep_0 : decode cX6_sweep 0 = .ok (.aload_n 0, 1) := by decide +kernel
theorem dX6_sweep_1 : decode cX6_sweep 1 = .ok (.getfield 19, 3) := by decide +kernel
theorem dX6_sweep_4 : decode cX6_sweep 4 = .ok (.aload_n 0, 1) := by decide +kernel
theorem dX6_sweep_5 : decode cX6_sweep 5 = .ok (.getfield 10, 3) := by decide +kernel
theorem dX6_sweep_8 : decode cX6_sweep 8 = .ok (.invokevirtual 110, 3) := by decide +kernel
theorem dX6_sweep_11 : decode cX6_sweep 11 = .ok (.aload_n 0, 1) := by decide +kernel
theorem dX6_sweep_12 : decode cX6_sweep 12 = .ok (.getfield 36, 3) := by decide +kernel
theorem dX6_sweep_15 : decode cX6_sweep 15 = .ok (.invokevirtual 58, 3) := by decide +kernel
theorem dX6_sweep_18 : decode cX6_sweep 18 = .ok (.aload_n 0, 1) := by decide +kernel
theorem dX6_sweep_19 : decode cX6_sweep 19 = .ok (.getfield 10, 3) := by decide +kernel
theorem dX6_sweep_22 : decode cX6_sweep 22 = .ok (.getfield 114, 3) := by decide +kernel
theorem dX6_sweep_25 : decode cX6_sweep 25 = .ok (.aload_n 0, 1) := by decide +kernel
theorem dX6_sweep_26 : decode cX6_sweep 26 = .ok (.getfield 36, 3) := by decide +kernel
theorem dX6_sweep_29 : decode cX6_sweep 29 = .ok (.invokevirtual 123, 3) := by decide +kernel
theorem dX6_sweep_32 : decode cX6_sweep 32 = .ok (.ireturn, 1) := by decide +kernel
theorem dX6_set_0 : decode cX6_set 0 = .ok (.iload_n 1, 1) := by decide +kernel
theorem dX6_set_1 : decode cX6_set 1 = .ok (.invokestatic 127, 3) := by decide +kernel
theorem dX6_set_4 : decode cX6_set 4 = .ok (.iload_n 1, 1) := by decide +kernel
theorem dX6_set_5 : decode cX6_set 5 = .ok (.iload_n 2, 1) := by decide +kernel
theorem dX6_set_6 : decode cX6_set 6 = .ok (.invokestatic 130, 3) := by decide +kernel
theorem dX6_set_9 : decode cX6_set 9 = .ok (.aload_n 0, 1) := by decide +kernel
theorem dX6_set_10 : decode cX6_set 10 = .ok (.getfield 10, 3) := by decide +kernel
theorem dX6_set_13 : decode cX6_set 13 = .ok (.getfield 134, 3) := by decide +kernel
theorem dX6_set_16 : decode cX6_set 16 = .ok (.getfield 137, 3) := by decide +kernel
theorem dX6_set_19 : decode cX6_set 19 = .ok (.iload_n 1, 1) := by decide +kernel
theorem dX6_set_20 : decode cX6_set 20 = .ok (.iaload, 1) := by decide +kernel
theorem dX6_set_21 : decode cX6_set 21 = .ok (.istore_n 3, 1) := by decide +kernel
theorem dX6_set_22 : decode cX6_set 22 = .ok (.aload_n 0, 1) := by decide +kernel
theorem dX6_set_23 : decode cX6_set 23 = .ok (.getfield 19, 3) := by decide +kernel
theorem dX6_set_26 : decode cX6_set 26 = .ok (.aload_n 0, 1) := by decide +kernel
theorem dX6_set_27 : decode cX6_set 27 = .ok (.getfield 10, 3) := by decide +kernel
theorem dX6_set_30 : decode cX6_set 30 = .ok (.invokevirtual 110, 3) := by decide +kernel
theorem dX6_set_33 : decode cX6_set 33 = .ok (.aload_n 0, 1) := by decide +kernel
theorem dX6_set_34 : decode cX6_set 34 = .ok (.getfield 10, 3) := by decide +kernel
theorem dX6_set_37 : decode cX6_set 37 = .ok (.getfield 134, 3) := by decide +kernel
theorem dX6_set_40 : decode cX6_set 40 = .ok (.getfield 137, 3) := by decide +kernel
theorem dX6_set_43 : decode cX6_set 43 = .ok (.iload_n 1, 1) := by decide +kernel
theorem dX6_set_44 : decode cX6_set 44 = .ok (.iload_n 2, 1) := by decide +kernel
theorem dX6_set_45 : decode cX6_set 45 = .ok (.iastore, 1) := by decide +kernel
theorem dX6_set_46 : decode cX6_set 46 = .ok (.iload_n 3, 1) := by decide +kernel
theorem dX6_set_47 : decode cX6_set 47 = .ok (.ireturn, 1) := by decide +kernel
theorem dX6_append_0 : decode cX6_append 0 = .ok (.iload_n 1, 1) := by decide +kernel
theorem dX6_append_1 : decode cX6_append 1 = .ok (.bipush 33, 2) := by decide +kernel
theorem dX6_append_3 : decode cX6_append 3 = .ok (.if_icmp .lt 9, 3) := by decide +kernel
theorem dX6_append_6 : decode cX6_append 6 = .ok (.iload_n 1, 1) := by decide +kernel
theorem dX6_append_7 : decode cX6_append 7 = .ok (.bipush 126, 2) := by decide +kernel
theorem dX6_append_9 : decode cX6_append 9 = .ok (.if_icmp .le 13, 3) := by decide +kernel
theorem dX6_append_12 : decode cX6_append 12 = .ok (.new 102, 3) := by decide +kernel
theorem dX6_append_15 : decode cX6_append 15 = .ok (.dup, 1) := by decide +kernel
theorem dX6_append_16 : decode cX6_append 16 = .ok (.ldc 141, 2) := by decide +kernel
theorem dX6_append_18 : decode cX6_append 18 = .ok (.invokespecial 106, 3) := by decide +kernel
theorem dX6_append_21 : decode cX6_append 21 = .ok (.athrow, 1) := by decide +kernel
theorem dX6_append_22 : decode cX6_append 22 = .ok (.aload_n 0, 1) := by decide +kernel
theorem dX6_append_23 : decode cX6_append 23 = .ok (.getfield 26, 3) := by decide +kernel
theorem dX6_append_26 : decode cX6_append 26 = .ok (.getfield 143, 3) := by decide +kernel
theorem dX6_append_29 : decode cX6_append 29 = .ok (.bipush 60, 2) := by decide +kernel
theorem dX6_append_31 : decode cX6_append 31 = .ok (.if_icmp .lt 13, 3) := by decide +kernel
theorem dX6_append_34 : decode cX6_append 34 = .ok (.new 89, 3) := by decide +kernel
theorem dX6_append_37 : decode cX6_append 37 = .ok (.dup, 1) := by decide +kernel
theorem dX6_append_38 : decode cX6_append 38 = .ok (.ldc 144, 2) := by decide +kernel
theorem dX6_append_40 : decode cX6_append 40 = .ok (.invokespecial 93, 3) := by decide +kernel
theorem dX6_append_43 : decode cX6_append 43 = .ok (.athrow, 1) := by decide +kernel
theorem dX6_append_44 : decode cX6_append 44 = .ok (.aload_n 0, 1) := by decide +kernel
theorem dX6_append_45 : decode cX6_append 45 = .ok (.getfield 26, 3) := by decide +kernel
theorem dX6_append_48 : decode cX6_append 48 = .ok (.iload_n 1, 1) := by decide +kernel
theorem dX6_append_49 : decode cX6_append 49 = .ok (.invokevirtual 146, 3) := by decide +kernel
theorem dX6_append_52 : decode cX6_append 52 = .ok (.aload_n 0, 1) := by decide +kernel
theorem dX6_append_53 : decode cX6_append 53 = .ok (.getfield 26, 3) := by decide +kernel
theorem dX6_append_56 : decode cX6_append 56 = .ok (.getfield 143, 3) := by decide +kernel
theorem dX6_append_59 : decode cX6_append 59 = .ok (.ireturn, 1) := by decide +kernel
theorem dX6_clearBuffer_0 : decode cX6_clearBuffer 0 = .ok (.aload_n 0, 1) := by decide +kernel
theorem dX6_clearBuffer_1 : decode cX6_clearBuffer 1 = .ok (.getfield 26, 3) := by decide +kernel
theorem dX6_clearBuffer_4 : decode cX6_clearBuffer 4 = .ok (.getfield 143, 3) := by decide +kernel
theorem dX6_clearBuffer_7 : decode cX6_clearBuffer 7 = .ok (.istore_n 1, 1) := by decide +kernel
theorem dX6_clearBuffer_8 : decode cX6_clearBuffer 8 = .ok (.aload_n 0, 1) := by decide +kernel
theorem dX6_clearBuffer_9 : decode cX6_clearBuffer 9 = .ok (.getfield 26, 3) := by decide +kernel
theorem dX6_clearBuffer_12 : decode cX6_clearBuffer 12 = .ok (.invokevirtual 69, 3) := by decide +kernel
theorem dX6_clearBuffer_15 : decode cX6_clearBuffer 15 = .ok (.iload_n 1, 1) := by decide +kernel
theorem dX6_clearBuffer_16 : decode cX6_clearBuffer 16 = .ok (.ireturn, 1) := by decide +kernel
theorem dX6_firstError_0 : decode cX6_firstError 0 = .ok (.aload_n 0, 1) := by decide +kernel
theorem dX6_firstError_1 : decode cX6_firstError 1 = .ok (.getfield 26, 3) := by decide +kernel
theorem dX6_firstError_4 : decode cX6_firstError 4 = .ok (.invokevirtual 149, 3) := by decide +kernel
theorem dX6_firstError_7 : decode cX6_firstError 7 = .ok (.ireturn, 1) := by decide +kernel
theorem dX6_undo_0 : decode cX6_undo 0 = .ok (.aload_n 0, 1) := by decide +kernel
theorem dX6_undo_1 : decode cX6_undo 1 = .ok (.getfield 19, 3) := by decide +kernel
theorem dX6_undo_4 : decode cX6_undo 4 = .ok (.getfield 152, 3) := by decide +kernel
theorem dX6_undo_7 : decode cX6_undo 7 = .ok (.ifCond .ne 13, 3) := by decide +kernel
theorem dX6_undo_10 : decode cX6_undo 10 = .ok (.new 89, 3) := by decide +kernel
theorem dX6_undo_13 : decode cX6_undo 13 = .ok (.dup, 1) := by decide +kernel
theorem dX6_undo_14 : decode cX6_undo 14 = .ok (.ldc 155, 2) := by decide +kernel
theorem dX6_undo_16 : decode cX6_undo 16 = .ok (.invokespecial 93, 3) := by decide +kernel
theorem dX6_undo_19 : decode cX6_undo 19 = .ok (.athrow, 1) := by decide +kernel
theorem dX6_undo_20 : decode cX6_undo 20 = .ok (.aload_n 0, 1) := by decide +kernel
theorem dX6_undo_21 : decode cX6_undo 21 = .ok (.getfield 19, 3) := by decide +kernel
theorem dX6_undo_24 : decode cX6_undo 24 = .ok (.aload_n 0, 1) := by decide +kernel
theorem dX6_undo_25 : decode cX6_undo 25 = .ok (.getfield 10, 3) := by decide +kernel
theorem dX6_undo_28 : decode cX6_undo 28 = .ok (.invokevirtual 157, 3) := by decide +kernel
theorem dX6_undo_31 : decode cX6_undo 31 = .ok (.aload_n 0, 1) := by decide +kernel
theorem dX6_undo_32 : decode cX6_undo 32 = .ok (.getfield 19, 3) := by decide +kernel
theorem dX6_undo_35 : decode cX6_undo 35 = .ok (.getfield 152, 3) := by decide +kernel
theorem dX6_undo_38 : decode cX6_undo 38 = .ok (.ireturn, 1) := by decide +kernel
theorem dX6_sign_0 : decode cX6_sign 0 = .ok (.iload_n 1, 1) := by decide +kernel
theorem dX6_sign_1 : decode cX6_sign 1 = .ok (.invokestatic 51, 3) := by decide +kernel
theorem dX6_sign_4 : decode cX6_sign 4 = .ok (.aload_n 0, 1) := by decide +kernel
theorem dX6_sign_5 : decode cX6_sign 5 = .ok (.getfield 10, 3) := by decide +kernel
theorem dX6_sign_8 : decode cX6_sign 8 = .ok (.getfield 70, 3) := by decide +kernel
theorem dX6_sign_11 : decode cX6_sign 11 = .ok (.iload_n 1, 1) := by decide +kernel
theorem dX6_sign_12 : decode cX6_sign 12 = .ok (.aaload, 1) := by decide +kernel
theorem dX6_sign_13 : decode cX6_sign 13 = .ok (.astore 4, 2) := by decide +kernel
theorem dX6_sign_15 : decode cX6_sign 15 = .ok (.aload 4, 2) := by decide +kernel
theorem dX6_sign_17 : decode cX6_sign 17 = .ok (.iload_n 2, 1) := by decide +kernel
theorem dX6_sign_18 : decode cX6_sign 18 = .ok (.invokestatic 98, 3) := by decide +kernel
theorem dX6_sign_21 : decode cX6_sign 21 = .ok (.iload_n 3, 1) := by decide +kernel
theorem dX6_sign_22 : decode cX6_sign 22 = .ok (.iconst 3, 1) := by decide +kernel
theorem dX6_sign_23 : decode cX6_sign 23 = .ok (.invokestatic 160, 3) := by decide +kernel
theorem dX6_sign_26 : decode cX6_sign 26 = .ok (.iload_n 3, 1) := by decide +kernel
theorem dX6_sign_27 : decode cX6_sign 27 = .ok (.tableswitch 54 0 2 #[25, 33, 47], 25) := by decide +kernel
theorem dX6_sign_52 : decode cX6_sign 52 = .ok (.aload 4, 2) := by decide +kernel
theorem dX6_sign_54 : decode cX6_sign 54 = .ok (.getfield 163, 3) := by decide +kernel
theorem dX6_sign_57 : decode cX6_sign 57 = .ok (.iload_n 2, 1) := by decide +kernel
theorem dX6_sign_58 : decode cX6_sign 58 = .ok (.iaload, 1) := by decide +kernel
theorem dX6_sign_59 : decode cX6_sign 59 = .ok (.ireturn, 1) := by decide +kernel
theorem dX6_sign_60 : decode cX6_sign 60 = .ok (.aload_n 0, 1) := by decide +kernel
theorem dX6_sign_61 : decode cX6_sign 61 = .ok (.getfield 10, 3) := by decide +kernel
theorem dX6_sign_64 : decode cX6_sign 64 = .ok (.getfield 134, 3) := by decide +kernel
theorem dX6_sign_67 : decode cX6_sign 67 = .ok (.aload 4, 2) := by decide +kernel
theorem dX6_sign_69 : decode cX6_sign 69 = .ok (.iload_n 2, 1) := by decide +kernel
theorem dX6_sign_70 : decode cX6_sign 70 = .ok (.invokevirtual 165, 3) := by decide +kernel
theorem dX6_sign_73 : decode cX6_sign 73 = .ok (.ireturn, 1) := by decide +kernel
theorem dX6_sign_74 : decode cX6_sign 74 = .ok (.aload 4, 2) := by decide +kernel
theorem dX6_sign_76 : decode cX6_sign 76 = .ok (.iload_n 2, 1) := by decide +kernel
theorem dX6_sign_77 : decode cX6_sign 77 = .ok (.invokevirtual 169, 3) := by decide +kernel
theorem dX6_sign_80 : decode cX6_sign 80 = .ok (.ireturn, 1) := by decide +kernel
theorem dX6_sign_81 : decode cX6_sign 81 = .ok (.aload 4, 2) := by decide +kernel
theorem dX6_sign_83 : decode cX6_sign 83 = .ok (.iload_n 2, 1) := by decide +kernel
theorem dX6_sign_84 : decode cX6_sign 84 = .ok (.invokevirtual 172, 3) := by decide +kernel
theorem dX6_sign_87 : decode cX6_sign 87 = .ok (.ifCond .eq 7, 3) := by decide +kernel
theorem dX6_sign_90 : decode cX6_sign 90 = .ok (.iconst 1, 1) := by decide +kernel
theorem dX6_sign_91 : decode cX6_sign 91 = .ok (.goto 4, 3) := by decide +kernel
theorem dX6_sign_94 : decode cX6_sign 94 = .ok (.iconst 0, 1) := by decide +kernel
theorem dX6_sign_95 : decode cX6_sign 95 = .ok (.ireturn, 1) := by decide +kernel
theorem dX6_piece_0 : decode cX6_piece 0 = .ok (.iload_n 1, 1) := by decide +kernel
theorem dX6_piece_1 : decode cX6_piece 1 = .ok (.invokestatic 51, 3) := by decide +kernel
theorem dX6_piece_4 : decode cX6_piece 4 = .ok (.iload_n 2, 1) := by decide +kernel
theorem dX6_piece_5 : decode cX6_piece 5 = .ok (.ifCond .ge 13, 3) := by decide +kernel
theorem dX6_piece_8 : decode cX6_piece 8 = .ok (.new 102, 3) := by decide +kernel
theorem dX6_piece_11 : decode cX6_piece 11 = .ok (.dup, 1) := by decide +kernel
theorem dX6_piece_12 : decode cX6_piece 12 = .ok (.ldc 176, 2) := by decide +kernel
theorem dX6_piece_14 : decode cX6_piece 14 = .ok (.invokespecial 106, 3) := by decide +kernel
theorem dX6_piece_17 : decode cX6_piece 17 = .ok (.athrow, 1) := by decide +kernel
theorem dX6_piece_18 : decode cX6_piece 18 = .ok (.iload_n 3, 1) := by decide +kernel
theorem dX6_piece_19 : decode cX6_piece 19 = .ok (.iconst 4, 1) := by decide +kernel
theorem dX6_piece_20 : decode cX6_piece 20 = .ok (.invokestatic 160, 3) := by decide +kernel
theorem dX6_piece_23 : decode cX6_piece 23 = .ok (.aload_n 0, 1) := by decide +kernel
theorem dX6_piece_24 : decode cX6_piece 24 = .ok (.getfield 10, 3) := by decide +kernel
theorem dX6_piece_27 : decode cX6_piece 27 = .ok (.getfield 70, 3) := by decide +kernel
theorem dX6_piece_30 : decode cX6_piece 30 = .ok (.iload_n 1, 1) := by decide +kernel
theorem dX6_piece_31 : decode cX6_piece 31 = .ok (.aaload, 1) := by decide +kernel
theorem dX6_piece_32 : decode cX6_piece 32 = .ok (.astore 4, 2) := by decide +kernel
theorem dX6_piece_34 : decode cX6_piece 34 = .ok (.iload_n 2, 1) := by decide +kernel
theorem dX6_piece_35 : decode cX6_piece 35 = .ok (.aload 4, 2) := by decide +kernel
theorem dX6_piece_37 : decode cX6_piece 37 = .ok (.getfield 178, 3) := by decide +kernel
theorem dX6_piece_40 : decode cX6_piece 40 = .ok (.if_icmp .lt 5, 3) := by decide +kernel
theorem dX6_piece_43 : decode cX6_piece 43 = .ok (.iconst (-1), 1) := by decide +kernel
theorem dX6_piece_44 : decode cX6_piece 44 = .ok (.ireturn, 1) := by decide +kernel
theorem dX6_piece_45 : decode cX6_piece 45 = .ok (.iload_n 3, 1) := by decide +kernel
theorem dX6_piece_46 : decode cX6_piece 46 = .ok (.tableswitch 72 0 3 #[30, 48, 56, 64], 30) := by decide +kernel
theorem dX6_piece_76 : decode cX6_piece 76 = .ok (.aload_n 0, 1) := by decide +kernel
theorem dX6_piece_77 : decode cX6_piece 77 = .ok (.getfield 10, 3) := by decide +kernel
theorem dX6_piece_80 : decode cX6_piece 80 = .ok (.getfield 114, 3) := by decide +kernel
theorem dX6_piece_83 : decode cX6_piece 83 = .ok (.aload 4, 2) := by decide +kernel
theorem dX6_piece_85 : decode cX6_piece 85 = .ok (.getfield 181, 3) := by decide +kernel
theorem dX6_piece_88 : decode cX6_piece 88 = .ok (.iload_n 2, 1) := by decide +kernel
theorem dX6_piece_89 : decode cX6_piece 89 = .ok (.laload, 1) := by decide +kernel
theorem dX6_piece_90 : decode cX6_piece 90 = .ok (.invokevirtual 184, 3) := by decide +kernel
theorem dX6_piece_93 : decode cX6_piece 93 = .ok (.ireturn, 1) := by decide +kernel
theorem dX6_piece_94 : decode cX6_piece 94 = .ok (.aload 4, 2) := by decide +kernel
theorem dX6_piece_96 : decode cX6_piece 96 = .ok (.getfield 188, 3) := by decide +kernel
theorem dX6_piece_99 : decode cX6_piece 99 = .ok (.iload_n 2, 1) := by decide +kernel
theorem dX6_piece_100 : decode cX6_piece 100 = .ok (.iaload, 1) := by decide +kernel
theorem dX6_piece_101 : decode cX6_piece 101 = .ok (.ireturn, 1) := by decide +kernel
theorem dX6_piece_102 : decode cX6_piece 102 = .ok (.aload 4, 2) := by decide +kernel
theorem dX6_piece_104 : decode cX6_piece 104 = .ok (.getfield 191, 3) := by decide +kernel
theorem dX6_piece_107 : decode cX6_piece 107 = .ok (.iload_n 2, 1) := by decide +kernel
theorem dX6_piece_108 : decode cX6_piece 108 = .ok (.iaload, 1) := by decide +kernel
theorem dX6_piece_109 : decode cX6_piece 109 = .ok (.ireturn, 1) := by decide +kernel
theorem dX6_piece_110 : decode cX6_piece 110 = .ok (.aload 4, 2) := by decide +kernel
theorem dX6_piece_112 : decode cX6_piece 112 = .ok (.getfield 194, 3) := by decide +kernel
theorem dX6_piece_115 : decode cX6_piece 115 = .ok (.iload_n 2, 1) := by decide +kernel
theorem dX6_piece_116 : decode cX6_piece 116 = .ok (.iaload, 1) := by decide +kernel
theorem dX6_piece_117 : decode cX6_piece 117 = .ok (.ireturn, 1) := by decide +kernel
theorem dX6_piece_118 : decode cX6_piece 118 = .ok (.aload_n 0, 1) := by decide +kernel
theorem dX6_piece_119 : decode cX6_piece 119 = .ok (.getfield 10, 3) := by decide +kernel
theorem dX6_piece_122 : decode cX6_piece 122 = .ok (.aload 4, 2) := by decide +kernel
theorem dX6_piece_124 : decode cX6_piece 124 = .ok (.getfield 181, 3) := by decide +kernel
theorem dX6_piece_127 : decode cX6_piece 127 = .ok (.iload_n 2, 1) := by decide +kernel
theorem dX6_piece_128 : decode cX6_piece 128 = .ok (.laload, 1) := by decide +kernel
theorem dX6_piece_129 : decode cX6_piece 129 = .ok (.invokevirtual 197, 3) := by decide +kernel
theorem dX6_piece_132 : decode cX6_piece 132 = .ok (.invokestatic 200, 3) := by decide +kernel
theorem dX6_piece_135 : decode cX6_piece 135 = .ok (.iconst 1, 1) := by decide +kernel
theorem dX6_piece_136 : decode cX6_piece 136 = .ok (.isub, 1) := by decide +kernel
theorem dX6_piece_137 : decode cX6_piece 137 = .ok (.ireturn, 1) := by decide +kernel
theorem dX6_slot_0 : decode cX6_slot 0 = .ok (.iload_n 1, 1) := by decide +kernel
theorem dX6_slot_1 : decode cX6_slot 1 = .ok (.ifCond .lt 9, 3) := by decide +kernel
theorem dX6_slot_4 : decode cX6_slot 4 = .ok (.iload_n 1, 1) := by decide +kernel
theorem dX6_slot_5 : decode cX6_slot 5 = .ok (.bipush 60, 2) := by decide +kernel
theorem dX6_slot_7 : decode cX6_slot 7 = .ok (.if_icmp .lt 13, 3) := by decide +kernel
theorem dX6_slot_10 : decode cX6_slot 10 = .ok (.new 78, 3) := by decide +kernel
theorem dX6_slot_13 : decode cX6_slot 13 = .ok (.dup, 1) := by decide +kernel
theorem dX6_slot_14 : decode cX6_slot 14 = .ok (.ldc 205, 2) := by decide +kernel
theorem dX6_slot_16 : decode cX6_slot 16 = .ok (.invokespecial 82, 3) := by decide +kernel
theorem dX6_slot_19 : decode cX6_slot 19 = .ok (.athrow, 1) := by decide +kernel
theorem dX6_slot_20 : decode cX6_slot 20 = .ok (.iload_n 2, 1) := by decide +kernel
theorem dX6_slot_21 : decode cX6_slot 21 = .ok (.iconst 4, 1) := by decide +kernel
theorem dX6_slot_22 : decode cX6_slot 22 = .ok (.invokestatic 160, 3) := by decide +kernel
theorem dX6_slot_25 : decode cX6_slot 25 = .ok (.aload_n 0, 1) := by decide +kernel
theorem dX6_slot_26 : decode cX6_slot 26 = .ok (.getfield 10, 3) := by decide +kernel
theorem dX6_slot_29 : decode cX6_slot 29 = .ok (.getfield 114, 3) := by decide +kernel
theorem dX6_slot_32 : decode cX6_slot 32 = .ok (.astore_n 3, 1) := by decide +kernel
theorem dX6_slot_33 : decode cX6_slot 33 = .ok (.aload_n 3, 1) := by decide +kernel
theorem dX6_slot_34 : decode cX6_slot 34 = .ok (.iload_n 1, 1) := by decide +kernel
theorem dX6_slot_35 : decode cX6_slot 35 = .ok (.invokevirtual 207, 3) := by decide +kernel
theorem dX6_slot_38 : decode cX6_slot 38 = .ok (.ifCond .eq 5, 3) := by decide +kernel
theorem dX6_slot_41 : decode cX6_slot 41 = .ok (.iconst (-1), 1) := by decide +kernel
theorem dX6_slot_42 : decode cX6_slot 42 = .ok (.ireturn, 1) := by decide +kernel
theorem dX6_slot_43 : decode cX6_slot 43 = .ok (.iload_n 2, 1) := by decide +kernel
theorem dX6_slot_44 : decode cX6_slot 44 = .ok (.tableswitch 58 0 3 #[32, 39, 46, 52], 32) := by decide +kernel
theorem dX6_slot_76 : decode cX6_slot 76 = .ok (.aload_n 3, 1) := by decide +kernel
theorem dX6_slot_77 : decode cX6_slot 77 = .ok (.getfield 210, 3) := by decide +kernel
theorem dX6_slot_80 : decode cX6_slot 80 = .ok (.iload_n 1, 1) := by decide +kernel
theorem dX6_slot_81 : decode cX6_slot 81 = .ok (.iaload, 1) := by decide +kernel
theorem dX6_slot_82 : decode cX6_slot 82 = .ok (.ireturn, 1) := by decide +kernel
theorem dX6_slot_83 : decode cX6_slot 83 = .ok (.aload_n 3, 1) := by decide +kernel
theorem dX6_slot_84 : decode cX6_slot 84 = .ok (.getfield 211, 3) := by decide +kernel
theorem dX6_slot_87 : decode cX6_slot 87 = .ok (.iload_n 1, 1) := by decide +kernel
theorem dX6_slot_88 : decode cX6_slot 88 = .ok (.iaload, 1) := by decide +kernel
theorem dX6_slot_89 : decode cX6_slot 89 = .ok (.ireturn, 1) := by decide +kernel
theorem dX6_slot_90 : decode cX6_slot 90 = .ok (.aload_n 3, 1) := by decide +kernel
theorem dX6_slot_91 : decode cX6_slot 91 = .ok (.iload_n 1, 1) := by decide +kernel
theorem dX6_slot_92 : decode cX6_slot 92 = .ok (.invokevirtual 214, 3) := by decide +kernel
theorem dX6_slot_95 : decode cX6_slot 95 = .ok (.ireturn, 1) := by decide +kernel
theorem dX6_slot_96 : decode cX6_slot 96 = .ok (.aload_n 3, 1) := by decide +kernel
theorem dX6_slot_97 : decode cX6_slot 97 = .ok (.iload_n 1, 1) := by decide +kernel
theorem dX6_slot_98 : decode cX6_slot 98 = .ok (.invokevirtual 217, 3) := by decide +kernel
theorem dX6_slot_101 : decode cX6_slot 101 = .ok (.ireturn, 1) := by decide +kernel
theorem dX6_slot_102 : decode cX6_slot 102 = .ok (.aload_n 0, 1) := by decide +kernel
theorem dX6_slot_103 : decode cX6_slot 103 = .ok (.getfield 10, 3) := by decide +kernel
theorem dX6_slot_106 : decode cX6_slot 106 = .ok (.aload_n 3, 1) := by decide +kernel
theorem dX6_slot_107 : decode cX6_slot 107 = .ok (.getfield 220, 3) := by decide +kernel
theorem dX6_slot_110 : decode cX6_slot 110 = .ok (.iload_n 1, 1) := by decide +kernel
theorem dX6_slot_111 : decode cX6_slot 111 = .ok (.laload, 1) := by decide +kernel
theorem dX6_slot_112 : decode cX6_slot 112 = .ok (.invokevirtual 197, 3) := by decide +kernel
theorem dX6_slot_115 : decode cX6_slot 115 = .ok (.ireturn, 1) := by decide +kernel
theorem dX6_text_0 : decode cX6_text 0 = .ok (.iload_n 1, 1) := by decide +kernel
theorem dX6_text_1 : decode cX6_text 1 = .ok (.invokestatic 51, 3) := by decide +kernel
theorem dX6_text_4 : decode cX6_text 4 = .ok (.iload_n 2, 1) := by decide +kernel
theorem dX6_text_5 : decode cX6_text 5 = .ok (.iconst 5, 1) := by decide +kernel
theorem dX6_text_6 : decode cX6_text 6 = .ok (.invokestatic 160, 3) := by decide +kernel
theorem dX6_text_9 : decode cX6_text 9 = .ok (.aload_n 0, 1) := by decide +kernel
theorem dX6_text_10 : decode cX6_text 10 = .ok (.getfield 10, 3) := by decide +kernel
theorem dX6_text_13 : decode cX6_text 13 = .ok (.getfield 70, 3) := by decide +kernel
theorem dX6_text_16 : decode cX6_text 16 = .ok (.iload_n 1, 1) := by decide +kernel
theorem dX6_text_17 : decode cX6_text 17 = .ok (.aaload, 1) := by decide +kernel
theorem dX6_text_18 : decode cX6_text 18 = .ok (.astore_n 3, 1) := by decide +kernel
theorem dX6_text_19 : decode cX6_text 19 = .ok (.iload_n 2, 1) := by decide +kernel
theorem dX6_text_20 : decode cX6_text 20 = .ok (.tableswitch 61 0 4 #[36, 41, 46, 51, 56], 36) := by decide +kernel
theorem dX6_text_56 : decode cX6_text 56 = .ok (.aload_n 3, 1) := by decide +kernel
theorem dX6_text_57 : decode cX6_text 57 = .ok (.getfield 74, 3) := by decide +kernel
theorem dX6_text_60 : decode cX6_text 60 = .ok (.ireturn, 1) := by decide +kernel
theorem dX6_text_61 : decode cX6_text 61 = .ok (.aload_n 3, 1) := by decide +kernel
theorem dX6_text_62 : decode cX6_text 62 = .ok (.getfield 178, 3) := by decide +kernel
theorem dX6_text_65 : decode cX6_text 65 = .ok (.ireturn, 1) := by decide +kernel
theorem dX6_text_66 : decode cX6_text 66 = .ok (.aload_n 3, 1) := by decide +kernel
theorem dX6_text_67 : decode cX6_text 67 = .ok (.invokevirtual 221, 3) := by decide +kernel
theorem dX6_text_70 : decode cX6_text 70 = .ok (.ireturn, 1) := by decide +kernel
theorem dX6_text_71 : decode cX6_text 71 = .ok (.aload_n 3, 1) := by decide +kernel
theorem dX6_text_72 : decode cX6_text 72 = .ok (.invokevirtual 224, 3) := by decide +kernel
theorem dX6_text_75 : decode cX6_text 75 = .ok (.ireturn, 1) := by decide +kernel
theorem dX6_text_76 : decode cX6_text 76 = .ok (.aload_n 3, 1) := by decide +kernel
theorem dX6_text_77 : decode cX6_text 77 = .ok (.invokevirtual 227, 3) := by decide +kernel
theorem dX6_text_80 : decode cX6_text 80 = .ok (.ireturn, 1) := by decide +kernel
theorem dX6_text_81 : decode cX6_text 81 = .ok (.aload_n 0, 1) := by decide +kernel
theorem dX6_text_82 : decode cX6_text 82 = .ok (.getfield 10, 3) := by decide +kernel
theorem dX6_text_85 : decode cX6_text 85 = .ok (.iload_n 1, 1) := by decide +kernel
theorem dX6_text_86 : decode cX6_text 86 = .ok (.invokevirtual 230, 3) := by decide +kernel
theorem dX6_text_89 : decode cX6_text 89 = .ok (.ireturn, 1) := by decide +kernel
theorem dX6_common_0 : decode cX6_common 0 = .ok (.iload_n 1, 1) := by decide +kernel
theorem dX6_common_1 : decode cX6_common 1 = .ok (.invokestatic 51, 3) := by decide +kernel
theorem dX6_common_4 : decode cX6_common 4 = .ok (.iload_n 2, 1) := by decide +kernel
theorem dX6_common_5 : decode cX6_common 5 = .ok (.invokestatic 51, 3) := by decide +kernel
theorem dX6_common_8 : decode cX6_common 8 = .ok (.iload_n 3, 1) := by decide +kernel
theorem dX6_common_9 : decode cX6_common 9 = .ok (.iconst 2, 1) := by decide +kernel
theorem dX6_common_10 : decode cX6_common 10 = .ok (.invokestatic 160, 3) := by decide +kernel
theorem dX6_common_13 : decode cX6_common 13 = .ok (.aload_n 0, 1) := by decide +kernel
theorem dX6_common_14 : decode cX6_common 14 = .ok (.getfield 10, 3) := by decide +kernel
theorem dX6_common_17 : decode cX6_common 17 = .ok (.getfield 70, 3) := by decide +kernel
theorem dX6_common_20 : decode cX6_common 20 = .ok (.iload_n 1, 1) := by decide +kernel
theorem dX6_common_21 : decode cX6_common 21 = .ok (.aaload, 1) := by decide +kernel
theorem dX6_common_22 : decode cX6_common 22 = .ok (.astore 4, 2) := by decide +kernel
theorem dX6_common_24 : decode cX6_common 24 = .ok (.aload_n 0, 1) := by decide +kernel
theorem dX6_common_25 : decode cX6_common 25 = .ok (.getfield 10, 3) := by decide +kernel
theorem dX6_common_28 : decode cX6_common 28 = .ok (.getfield 70, 3) := by decide +kernel
theorem dX6_common_31 : decode cX6_common 31 = .ok (.iload_n 2, 1) := by decide +kernel
theorem dX6_common_32 : decode cX6_common 32 = .ok (.aaload, 1) := by decide +kernel
theorem dX6_common_33 : decode cX6_common 33 = .ok (.astore 5, 2) := by decide +kernel
theorem dX6_common_35 : decode cX6_common 35 = .ok (.iload_n 3, 1) := by decide +kernel
theorem dX6_common_36 : decode cX6_common 36 = .ok (.lookupswitch 44 #[(0, 28), (1, 36)], 28) := by decide +kernel
theorem dX6_common_64 : decode cX6_common 64 = .ok (.aload 4, 2) := by decide +kernel
theorem dX6_common_66 : decode cX6_common 66 = .ok (.aload 5, 2) := by decide +kernel
theorem dX6_common_68 : decode cX6_common 68 = .ok (.invokevirtual 233, 3) := by decide +kernel
theorem dX6_common_71 : decode cX6_common 71 = .ok (.ireturn, 1) := by decide +kernel
theorem dX6_common_72 : decode cX6_common 72 = .ok (.aload 4, 2) := by decide +kernel
theorem dX6_common_74 : decode cX6_common 74 = .ok (.aload 5, 2) := by decide +kernel
theorem dX6_common_76 : decode cX6_common 76 = .ok (.invokevirtual 236, 3) := by decide +kernel
theorem dX6_common_79 : decode cX6_common 79 = .ok (.ireturn, 1) := by decide +kernel
theorem dX6_common_80 : decode cX6_common 80 = .ok (.aload 4, 2) := by decide +kernel
theorem dX6_common_82 : decode cX6_common 82 = .ok (.aload 5, 2) := by decide +kernel
theorem dX6_common_84 : decode cX6_common 84 = .ok (.invokevirtual 239, 3) := by decide +kernel
theorem dX6_common_87 : decode cX6_common 87 = .ok (.ireturn, 1) := by decide +kernel
theorem dX6_count_0 : decode cX6_count 0 = .ok (.iload_n 1, 1) := by decide +kernel
theorem dX6_count_1 : decode cX6_count 1 = .ok (.bipush 9, 2) := by decide +kernel
theorem dX6_count_3 : decode cX6_count 3 = .ok (.invokestatic 160, 3) := by decide +kernel
theorem dX6_count_6 : decode cX6_count 6 = .ok (.aload_n 0, 1) := by decide +kernel
theorem dX6_count_7 : decode cX6_count 7 = .ok (.getfield 10, 3) := by decide +kernel
theorem dX6_count_10 : decode cX6_count 10 = .ok (.getfield 114, 3) := by decide +kernel
theorem dX6_count_13 : decode cX6_count 13 = .ok (.astore_n 2, 1) := by decide +kernel
theorem dX6_count_14 : decode cX6_count 14 = .ok (.iload_n 1, 1) := by decide +kernel
theorem dX6_count_15 : decode cX6_count 15 = .ok (.tableswitch 100 0 8 #[49, 57, 65, 70, 75, 80, 85, 90, 95], 49) := by decide +kernel
theorem dX6_count_64 : decode cX6_count 64 = .ok (.aload_n 0, 1) := by decide +kernel
theorem dX6_count_65 : decode cX6_count 65 = .ok (.getfield 10, 3) := by decide +kernel
theorem dX6_count_68 : decode cX6_count 68 = .ok (.invokevirtual 242, 3) := by decide +kernel
theorem dX6_count_71 : decode cX6_count 71 = .ok (.ireturn, 1) := by decide +kernel
theorem dX6_count_72 : decode cX6_count 72 = .ok (.aload_n 0, 1) := by decide +kernel
theorem dX6_count_73 : decode cX6_count 73 = .ok (.getfield 10, 3) := by decide +kernel
theorem dX6_count_76 : decode cX6_count 76 = .ok (.invokevirtual 243, 3) := by decide +kernel
theorem dX6_count_79 : decode cX6_count 79 = .ok (.ireturn, 1) := by decide +kernel
theorem dX6_count_80 : decode cX6_count 80 = .ok (.aload_n 2, 1) := by decide +kernel
theorem dX6_count_81 : decode cX6_count 81 = .ok (.invokevirtual 245, 3) := by decide +kernel
theorem dX6_count_84 : decode cX6_count 84 = .ok (.ireturn, 1) := by decide +kernel
theorem dX6_count_85 : decode cX6_count 85 = .ok (.aload_n 2, 1) := by decide +kernel
theorem dX6_count_86 : decode cX6_count 86 = .ok (.invokevirtual 246, 3) := by decide +kernel
theorem dX6_count_89 : decode cX6_count 89 = .ok (.ireturn, 1) := by decide +kernel
theorem dX6_count_90 : decode cX6_count 90 = .ok (.aload_n 2, 1) := by decide +kernel
theorem dX6_count_91 : decode cX6_count 91 = .ok (.invokevirtual 249, 3) := by decide +kernel
theorem dX6_count_94 : decode cX6_count 94 = .ok (.ireturn, 1) := by decide +kernel
theorem dX6_count_95 : decode cX6_count 95 = .ok (.aload_n 2, 1) := by decide +kernel
theorem dX6_count_96 : decode cX6_count 96 = .ok (.invokevirtual 252, 3) := by decide +kernel
theorem dX6_count_99 : decode cX6_count 99 = .ok (.ireturn, 1) := by decide +kernel
theorem dX6_count_100 : decode cX6_count 100 = .ok (.aload_n 2, 1) := by decide +kernel
theorem dX6_count_101 : decode cX6_count 101 = .ok (.invokevirtual 255, 3) := by decide +kernel
theorem dX6_count_104 : decode cX6_count 104 = .ok (.ireturn, 1) := by decide +kernel
theorem dX6_count_105 : decode cX6_count 105 = .ok (.aload_n 2, 1) := by decide +kernel
theorem dX6_count_106 : decode cX6_count 106 = .ok (.getfield 258, 3) := by decide +kernel
theorem dX6_count_109 : decode cX6_count 109 = .ok (.ireturn, 1) := by decide +kernel
theorem dX6_count_110 : decode cX6_count 110 = .ok (.aload_n 2, 1) := by decide +kernel
theorem dX6_count_111 : decode cX6_count 111 = .ok (.getfield 261, 3) := by decide +kernel
theorem dX6_count_114 : decode cX6_count 114 = .ok (.ireturn, 1) := by decide +kernel
theorem dX6_count_115 : decode cX6_count 115 = .ok (.aload_n 0, 1) := by decide +kernel
theorem dX6_count_116 : decode cX6_count 116 = .ok (.getfield 19, 3) := by decide +kernel
theorem dX6_count_119 : decode cX6_count 119 = .ok (.getfield 152, 3) := by decide +kernel
theorem dX6_count_122 : decode cX6_count 122 = .ok (.ireturn, 1) := by decide +kernel
theorem dX6_setting_0 : decode cX6_setting 0 = .ok (.iload_n 1, 1) := by decide +kernel
theorem dX6_setting_1 : decode cX6_setting 1 = .ok (.invokestatic 127, 3) := by decide +kernel
theorem dX6_setting_4 : decode cX6_setting 4 = .ok (.aload_n 0, 1) := by decide +kernel
theorem dX6_setting_5 : decode cX6_setting 5 = .ok (.getfield 10, 3) := by decide +kernel
theorem dX6_setting_8 : decode cX6_setting 8 = .ok (.getfield 134, 3) := by decide +kernel
theorem dX6_setting_11 : decode cX6_setting 11 = .ok (.getfield 137, 3) := by decide +kernel
theorem dX6_setting_14 : decode cX6_setting 14 = .ok (.iload_n 1, 1) := by decide +kernel
theorem dX6_setting_15 : decode cX6_setting 15 = .ok (.iaload, 1) := by decide +kernel
theorem dX6_setting_16 : decode cX6_setting 16 = .ok (.ireturn, 1) := by decide +kernel
theorem dX6_ifPut_0 : decode cX6_ifPut 0 = .ok (.iload_n 1, 1) := by decide +kernel
theorem dX6_ifPut_1 : decode cX6_ifPut 1 = .ok (.invokestatic 51, 3) := by decide +kernel
theorem dX6_ifPut_4 : decode cX6_ifPut 4 = .ok (.iload_n 2, 1) := by decide +kernel
theorem dX6_ifPut_5 : decode cX6_ifPut 5 = .ok (.iconst 3, 1) := by decide +kernel
theorem dX6_ifPut_6 : decode cX6_ifPut 6 = .ok (.invokestatic 160, 3) := by decide +kernel
theorem dX6_ifPut_9 : decode cX6_ifPut 9 = .ok (.aload_n 0, 1) := by decide +kernel
theorem dX6_ifPut_10 : decode cX6_ifPut 10 = .ok (.getfield 26, 3) := by decide +kernel
theorem dX6_ifPut_13 : decode cX6_ifPut 13 = .ok (.invokevirtual 264, 3) := by decide +kernel
theorem dX6_ifPut_16 : decode cX6_ifPut 16 = .ok (.ifCond .ne 5, 3) := by decide +kernel
theorem dX6_ifPut_19 : decode cX6_ifPut 19 = .ok (.iconst (-1), 1) := by decide +kernel
theorem dX6_ifPut_20 : decode cX6_ifPut 20 = .ok (.ireturn, 1) := by decide +kernel
theorem dX6_ifPut_21 : decode cX6_ifPut 21 = .ok (.aload_n 0, 1) := by decide +kernel
theorem dX6_ifPut_22 : decode cX6_ifPut 22 = .ok (.getfield 36, 3) := by decide +kernel
theorem dX6_ifPut_25 : decode cX6_ifPut 25 = .ok (.invokevirtual 58, 3) := by decide +kernel
theorem dX6_ifPut_28 : decode cX6_ifPut 28 = .ok (.aload_n 0, 1) := by decide +kernel
theorem dX6_ifPut_29 : decode cX6_ifPut 29 = .ok (.getfield 26, 3) := by decide +kernel
theorem dX6_ifPut_32 : decode cX6_ifPut 32 = .ok (.aload_n 0, 1) := by decide +kernel
theorem dX6_ifPut_33 : decode cX6_ifPut 33 = .ok (.getfield 36, 3) := by decide +kernel
theorem dX6_ifPut_36 : decode cX6_ifPut 36 = .ok (.invokevirtual 61, 3) := by decide +kernel
theorem dX6_ifPut_39 : decode cX6_ifPut 39 = .ok (.aload_n 0, 1) := by decide +kernel
theorem dX6_ifPut_40 : decode cX6_ifPut 40 = .ok (.getfield 36, 3) := by decide +kernel
theorem dX6_ifPut_43 : decode cX6_ifPut 43 = .ok (.aload_n 0, 1) := by decide +kernel
theorem dX6_ifPut_44 : decode cX6_ifPut 44 = .ok (.getfield 10, 3) := by decide +kernel
theorem dX6_ifPut_47 : decode cX6_ifPut 47 = .ok (.getfield 134, 3) := by decide +kernel
theorem dX6_ifPut_50 : decode cX6_ifPut 50 = .ok (.invokevirtual 268, 3) := by decide +kernel
theorem dX6_ifPut_53 : decode cX6_ifPut 53 = .ok (.iload_n 2, 1) := by decide +kernel
theorem dX6_ifPut_54 : decode cX6_ifPut 54 = .ok (.tableswitch 64 0 2 #[26, 34, 49], 26) := by decide +kernel
theorem dX6_ifPut_80 : decode cX6_ifPut 80 = .ok (.aload_n 0, 1) := by decide +kernel
theorem dX6_ifPut_81 : decode cX6_ifPut 81 = .ok (.getfield 36, 3) := by decide +kernel
theorem dX6_ifPut_84 : decode cX6_ifPut 84 = .ok (.getfield 178, 3) := by decide +kernel
theorem dX6_ifPut_87 : decode cX6_ifPut 87 = .ok (.ireturn, 1) := by decide +kernel
theorem dX6_ifPut_88 : decode cX6_ifPut 88 = .ok (.aload_n 0, 1) := by decide +kernel
theorem dX6_ifPut_89 : decode cX6_ifPut 89 = .ok (.getfield 10, 3) := by decide +kernel
theorem dX6_ifPut_92 : decode cX6_ifPut 92 = .ok (.getfield 114, 3) := by decide +kernel
theorem dX6_ifPut_95 : decode cX6_ifPut 95 = .ok (.aload_n 0, 1) := by decide +kernel
theorem dX6_ifPut_96 : decode cX6_ifPut 96 = .ok (.getfield 36, 3) := by decide +kernel
theorem dX6_ifPut_99 : decode cX6_ifPut 99 = .ok (.invokevirtual 272, 3) := by decide +kernel
theorem dX6_ifPut_102 : decode cX6_ifPut 102 = .ok (.ireturn, 1) := by decide +kernel
theorem dX6_ifPut_103 : decode cX6_ifPut 103 = .ok (.aload_n 0, 1) := by decide +kernel
theorem dX6_ifPut_104 : decode cX6_ifPut 104 = .ok (.getfield 10, 3) := by decide +kernel
theorem dX6_ifPut_107 : decode cX6_ifPut 107 = .ok (.getfield 114, 3) := by decide +kernel
theorem dX6_ifPut_110 : decode cX6_ifPut 110 = .ok (.aload_n 0, 1) := by decide +kernel
theorem dX6_ifPut_111 : decode cX6_ifPut 111 = .ok (.getfield 36, 3) := by decide +kernel
theorem dX6_ifPut_114 : decode cX6_ifPut 114 = .ok (.invokevirtual 275, 3) := by decide +kernel
theorem dX6_ifPut_117 : decode cX6_ifPut 117 = .ok (.ireturn, 1) := by decide +kernel
theorem dX6_ifPut_118 : decode cX6_ifPut 118 = .ok (.aload_n 0, 1) := by decide +kernel
theorem dX6_ifPut_119 : decode cX6_ifPut 119 = .ok (.getfield 30, 3) := by decide +kernel
theorem dX6_ifPut_122 : decode cX6_ifPut 122 = .ok (.aload_n 0, 1) := by decide +kernel
theorem dX6_ifPut_123 : decode cX6_ifPut 123 = .ok (.getfield 10, 3) := by decide +kernel
theorem dX6_ifPut_126 : decode cX6_ifPut 126 = .ok (.iload_n 1, 1) := by decide +kernel
theorem dX6_ifPut_127 : decode cX6_ifPut 127 = .ok (.aload_n 0, 1) := by decide +kernel
theorem dX6_ifPut_128 : decode cX6_ifPut 128 = .ok (.getfield 36, 3) := by decide +kernel
theorem dX6_ifPut_131 : decode cX6_ifPut 131 = .ok (.invokevirtual 278, 3) := by decide +kernel
theorem dX6_ifPut_134 : decode cX6_ifPut 134 = .ok (.ifCond .eq 7, 3) := by decide +kernel
theorem dX6_ifPut_137 : decode cX6_ifPut 137 = .ok (.iconst 0, 1) := by decide +kernel
theorem dX6_ifPut_138 : decode cX6_ifPut 138 = .ok (.goto 4, 3) := by decide +kernel
theorem dX6_ifPut_141 : decode cX6_ifPut 141 = .ok (.iconst 1, 1) := by decide +kernel
theorem dX6_ifPut_142 : decode cX6_ifPut 142 = .ok (.ireturn, 1) := by decide +kernel
theorem dX6_ifSet_0 : decode cX6_ifSet 0 = .ok (.iload_n 1, 1) := by decide +kernel
theorem dX6_ifSet_1 : decode cX6_ifSet 1 = .ok (.invokestatic 51, 3) := by decide +kernel
theorem dX6_ifSet_4 : decode cX6_ifSet 4 = .ok (.iload_n 2, 1) := by decide +kernel
theorem dX6_ifSet_5 : decode cX6_ifSet 5 = .ok (.invokestatic 127, 3) := by decide +kernel
theorem dX6_ifSet_8 : decode cX6_ifSet 8 = .ok (.iload_n 2, 1) := by decide +kernel
theorem dX6_ifSet_9 : decode cX6_ifSet 9 = .ok (.iload_n 3, 1) := by decide +kernel
theorem dX6_ifSet_10 : decode cX6_ifSet 10 = .ok (.invokestatic 130, 3) := by decide +kernel
theorem dX6_ifSet_13 : decode cX6_ifSet 13 = .ok (.aload_n 0, 1) := by decide +kernel
theorem dX6_ifSet_14 : decode cX6_ifSet 14 = .ok (.getfield 43, 3) := by decide +kernel
theorem dX6_ifSet_17 : decode cX6_ifSet 17 = .ok (.aload_n 0, 1) := by decide +kernel
theorem dX6_ifSet_18 : decode cX6_ifSet 18 = .ok (.getfield 10, 3) := by decide +kernel
theorem dX6_ifSet_21 : decode cX6_ifSet 21 = .ok (.getfield 134, 3) := by decide +kernel
theorem dX6_ifSet_24 : decode cX6_ifSet 24 = .ok (.invokevirtual 282, 3) := by decide +kernel
theorem dX6_ifSet_27 : decode cX6_ifSet 27 = .ok (.aload_n 0, 1) := by decide +kernel
theorem dX6_ifSet_28 : decode cX6_ifSet 28 = .ok (.getfield 43, 3) := by decide +kernel
theorem dX6_ifSet_31 : decode cX6_ifSet 31 = .ok (.getfield 137, 3) := by decide +kernel
theorem dX6_ifSet_34 : decode cX6_ifSet 34 = .ok (.iload_n 2, 1) := by decide +kernel
theorem dX6_ifSet_35 : decode cX6_ifSet 35 = .ok (.iload_n 3, 1) := by decide +kernel
theorem dX6_ifSet_36 : decode cX6_ifSet 36 = .ok (.iastore, 1) := by decide +kernel
theorem dX6_ifSet_37 : decode cX6_ifSet 37 = .ok (.aload_n 0, 1) := by decide +kernel
theorem dX6_ifSet_38 : decode cX6_ifSet 38 = .ok (.getfield 36, 3) := by decide +kernel
theorem dX6_ifSet_41 : decode cX6_ifSet 41 = .ok (.aload_n 0, 1) := by decide +kernel
theorem dX6_ifSet_42 : decode cX6_ifSet 42 = .ok (.getfield 10, 3) := by decide +kernel
theorem dX6_ifSet_45 : decode cX6_ifSet 45 = .ok (.getfield 70, 3) := by decide +kernel
theorem dX6_ifSet_48 : decode cX6_ifSet 48 = .ok (.iload_n 1, 1) := by decide +kernel
theorem dX6_ifSet_49 : decode cX6_ifSet 49 = .ok (.aaload, 1) := by decide +kernel
theorem dX6_ifSet_50 : decode cX6_ifSet 50 = .ok (.invokevirtual 107, 3) := by decide +kernel
theorem dX6_ifSet_53 : decode cX6_ifSet 53 = .ok (.aload_n 0, 1) := by decide +kernel
theorem dX6_ifSet_54 : decode cX6_ifSet 54 = .ok (.getfield 36, 3) := by decide +kernel
theorem dX6_ifSet_57 : decode cX6_ifSet 57 = .ok (.aload_n 0, 1) := by decide +kernel
theorem dX6_ifSet_58 : decode cX6_ifSet 58 = .ok (.getfield 43, 3) := by decide +kernel
theorem dX6_ifSet_61 : decode cX6_ifSet 61 = .ok (.invokevirtual 268, 3) := by decide +kernel
theorem dX6_ifSet_64 : decode cX6_ifSet 64 = .ok (.aload_n 0, 1) := by decide +kernel
theorem dX6_ifSet_65 : decode cX6_ifSet 65 = .ok (.getfield 36, 3) := by decide +kernel
theorem dX6_ifSet_68 : decode cX6_ifSet 68 = .ok (.getfield 178, 3) := by decide +kernel
theorem dX6_ifSet_71 : decode cX6_ifSet 71 = .ok (.ireturn, 1) := by decide +kernel
theorem dX6_bestDivisor_0 : decode cX6_bestDivisor 0 = .ok (.iconst 1, 1) := by decide +kernel
theorem dX6_bestDivisor_1 : decode cX6_bestDivisor 1 = .ok (.istore_n 1, 1) := by decide +kernel
theorem dX6_bestDivisor_2 : decode cX6_bestDivisor 2 = .ok (.aload_n 0, 1) := by decide +kernel
theorem dX6_bestDivisor_3 : decode cX6_bestDivisor 3 = .ok (.iconst 1, 1) := by decide +kernel
theorem dX6_bestDivisor_4 : decode cX6_bestDivisor 4 = .ok (.invokevirtual 285, 3) := by decide +kernel
theorem dX6_bestDivisor_7 : decode cX6_bestDivisor 7 = .ok (.istore_n 2, 1) := by decide +kernel
theorem dX6_bestDivisor_8 : decode cX6_bestDivisor 8 = .ok (.iconst 2, 1) := by decide +kernel
theorem dX6_bestDivisor_9 : decode cX6_bestDivisor 9 = .ok (.istore_n 3, 1) := by decide +kernel
theorem dX6_bestDivisor_10 : decode cX6_bestDivisor 10 = .ok (.iload_n 3, 1) := by decide +kernel
theorem dX6_bestDivisor_11 : decode cX6_bestDivisor 11 = .ok (.bipush 9, 2) := by decide +kernel
theorem dX6_bestDivisor_13 : decode cX6_bestDivisor 13 = .ok (.if_icmp .gt 27, 3) := by decide +kernel
theorem dX6_bestDivisor_16 : decode cX6_bestDivisor 16 = .ok (.aload_n 0, 1) := by decide +kernel
theorem dX6_bestDivisor_17 : decode cX6_bestDivisor 17 = .ok (.iload_n 3, 1) := by decide +kernel
theorem dX6_bestDivisor_18 : decode cX6_bestDivisor 18 = .ok (.invokevirtual 285, 3) := by decide +kernel
theorem dX6_bestDivisor_21 : decode cX6_bestDivisor 21 = .ok (.istore 4, 2) := by decide +kernel
theorem dX6_bestDivisor_23 : decode cX6_bestDivisor 23 = .ok (.iload 4, 2) := by decide +kernel
theorem dX6_bestDivisor_25 : decode cX6_bestDivisor 25 = .ok (.iload_n 2, 1) := by decide +kernel
theorem dX6_bestDivisor_26 : decode cX6_bestDivisor 26 = .ok (.if_icmp .gt 8, 3) := by decide +kernel
theorem dX6_bestDivisor_29 : decode cX6_bestDivisor 29 = .ok (.iload 4, 2) := by decide +kernel
theorem dX6_bestDivisor_31 : decode cX6_bestDivisor 31 = .ok (.istore_n 2, 1) := by decide +kernel
theorem dX6_bestDivisor_32 : decode cX6_bestDivisor 32 = .ok (.iload_n 3, 1) := by decide +kernel
theorem dX6_bestDivisor_33 : decode cX6_bestDivisor 33 = .ok (.istore_n 1, 1) := by decide +kernel
theorem dX6_bestDivisor_34 : decode cX6_bestDivisor 34 = .ok (.iinc 3 1, 3) := by decide +kernel
theorem dX6_bestDivisor_37 : decode cX6_bestDivisor 37 = .ok (.goto (-27), 3) := by decide +kernel
theorem dX6_bestDivisor_40 : decode cX6_bestDivisor 40 = .ok (.iload_n 1, 1) := by decide +kernel
theorem dX6_bestDivisor_41 : decode cX6_bestDivisor 41 = .ok (.ireturn, 1) := by decide +kernel
theorem dX6_savedShare_0 : decode cX6_savedShare 0 = .ok (.aload_n 0, 1) := by decide +kernel
theorem dX6_savedShare_1 : decode cX6_savedShare 1 = .ok (.getfield 10, 3) := by decide +kernel
theorem dX6_savedShare_4 : decode cX6_savedShare 4 = .ok (.invokevirtual 242, 3) := by decide +kernel
theorem dX6_savedShare_7 : decode cX6_savedShare 7 = .ok (.istore_n 1, 1) := by decide +kernel
theorem dX6_savedShare_8 : decode cX6_savedShare 8 = .ok (.iload_n 1, 1) := by decide +kernel
theorem dX6_savedShare_9 : decode cX6_savedShare 9 = .ok (.ifCond .gt 5, 3) := by decide +kernel
theorem dX6_savedShare_12 : decode cX6_savedShare 12 = .ok (.dconst 0, 1) := by decide +kernel
theorem dX6_savedShare_13 : decode cX6_savedShare 13 = .ok (.dreturn, 1) := by decide +kernel
theorem dX6_savedShare_14 : decode cX6_savedShare 14 = .ok (.aload_n 0, 1) := by decide +kernel
theorem dX6_savedShare_15 : decode cX6_savedShare 15 = .ok (.getfield 10, 3) := by decide +kernel
theorem dX6_savedShare_18 : decode cX6_savedShare 18 = .ok (.getfield 114, 3) := by decide +kernel
theorem dX6_savedShare_21 : decode cX6_savedShare 21 = .ok (.invokevirtual 246, 3) := by decide +kernel
theorem dX6_savedShare_24 : decode cX6_savedShare 24 = .ok (.aload_n 0, 1) := by decide +kernel
theorem dX6_savedShare_25 : decode cX6_savedShare 25 = .ok (.getfield 10, 3) := by decide +kernel
theorem dX6_savedShare_28 : decode cX6_savedShare 28 = .ok (.getfield 114, 3) := by decide +kernel
theorem dX6_savedShare_31 : decode cX6_savedShare 31 = .ok (.invokevirtual 252, 3) := by decide +kernel
theorem dX6_savedShare_34 : decode cX6_savedShare 34 = .ok (.isub, 1) := by decide +kernel
theorem dX6_savedShare_35 : decode cX6_savedShare 35 = .ok (.istore_n 2, 1) := by decide +kernel
theorem dX6_savedShare_36 : decode cX6_savedShare 36 = .ok (.dconst 1, 1) := by decide +kernel
theorem dX6_savedShare_37 : decode cX6_savedShare 37 = .ok (.iload_n 2, 1) := by decide +kernel
theorem dX6_savedShare_38 : decode cX6_savedShare 38 = .ok (.i2d, 1) := by decide +kernel
theorem dX6_savedShare_39 : decode cX6_savedShare 39 = .ok (.iload_n 1, 1) := by decide +kernel
theorem dX6_savedShare_40 : decode cX6_savedShare 40 = .ok (.i2d, 1) := by decide +kernel
theorem dX6_savedShare_41 : decode cX6_savedShare 41 = .ok (.ddiv, 1) := by decide +kernel
theorem dX6_savedShare_42 : decode cX6_savedShare 42 = .ok (.dsub, 1) := by decide +kernel
theorem dX6_savedShare_43 : decode cX6_savedShare 43 = .ok (.dreturn, 1) := by decide +kernel
theorem dX6_digest_0 : decode cX6_digest 0 = .ok (.ldc2_w 288, 3) := by decide +kernel
theorem dX6_digest_3 : decode cX6_digest 3 = .ok (.lstore_n 1, 1) := by decide +kernel
theorem dX6_digest_4 : decode cX6_digest 4 = .ok (.iconst 0, 1) := by decide +kernel
theorem dX6_digest_5 : decode cX6_digest 5 = .ok (.istore_n 3, 1) := by decide +kernel
theorem dX6_digest_6 : decode cX6_digest 6 = .ok (.iload_n 3, 1) := by decide +kernel
theorem dX6_digest_7 : decode cX6_digest 7 = .ok (.bipush 9, 2) := by decide +kernel
theorem dX6_digest_9 : decode cX6_digest 9 = .ok (.if_icmp .gt 20, 3) := by decide +kernel
theorem dX6_digest_12 : decode cX6_digest 12 = .ok (.lload_n 1, 1) := by decide +kernel
theorem dX6_digest_13 : decode cX6_digest 13 = .ok (.aload_n 0, 1) := by decide +kernel
theorem dX6_digest_14 : decode cX6_digest 14 = .ok (.iload_n 3, 1) := by decide +kernel
theorem dX6_digest_15 : decode cX6_digest 15 = .ok (.invokevirtual 290, 3) := by decide +kernel
theorem dX6_digest_18 : decode cX6_digest 18 = .ok (.i2l, 1) := by decide +kernel
theorem dX6_digest_19 : decode cX6_digest 19 = .ok (.invokestatic 293, 3) := by decide +kernel
theorem dX6_digest_22 : decode cX6_digest 22 = .ok (.lstore_n 1, 1) := by decide +kernel
theorem dX6_digest_23 : decode cX6_digest 23 = .ok (.iinc 3 1, 3) := by decide +kernel
theorem dX6_digest_26 : decode cX6_digest 26 = .ok (.goto (-20), 3) := by decide +kernel
theorem dX6_digest_29 : decode cX6_digest 29 = .ok (.iconst 0, 1) := by decide +kernel
theorem dX6_digest_30 : decode cX6_digest 30 = .ok (.istore_n 3, 1) := by decide +kernel
theorem dX6_digest_31 : decode cX6_digest 31 = .ok (.iload_n 3, 1) := by decide +kernel
theorem dX6_digest_32 : decode cX6_digest 32 = .ok (.iconst 5, 1) := by decide +kernel
theorem dX6_digest_33 : decode cX6_digest 33 = .ok (.if_icmp .ge 20, 3) := by decide +kernel
theorem dX6_digest_36 : decode cX6_digest 36 = .ok (.lload_n 1, 1) := by decide +kernel
theorem dX6_digest_37 : decode cX6_digest 37 = .ok (.aload_n 0, 1) := by decide +kernel
theorem dX6_digest_38 : decode cX6_digest 38 = .ok (.iload_n 3, 1) := by decide +kernel
theorem dX6_digest_39 : decode cX6_digest 39 = .ok (.invokevirtual 297, 3) := by decide +kernel
theorem dX6_digest_42 : decode cX6_digest 42 = .ok (.i2l, 1) := by decide +kernel
theorem dX6_digest_43 : decode cX6_digest 43 = .ok (.invokestatic 293, 3) := by decide +kernel
theorem dX6_digest_46 : decode cX6_digest 46 = .ok (.lstore_n 1, 1) := by decide +kernel
theorem dX6_digest_47 : decode cX6_digest 47 = .ok (.iinc 3 1, 3) := by decide +kernel
theorem dX6_digest_50 : decode cX6_digest 50 = .ok (.goto (-19), 3) := by decide +kernel
theorem dX6_digest_53 : decode cX6_digest 53 = .ok (.iconst 0, 1) := by decide +kernel
theorem dX6_digest_54 : decode cX6_digest 54 = .ok (.istore_n 3, 1) := by decide +kernel
theorem dX6_digest_55 : decode cX6_digest 55 = .ok (.iload_n 3, 1) := by decide +kernel
theorem dX6_digest_56 : decode cX6_digest 56 = .ok (.iconst 4, 1) := by decide +kernel
theorem dX6_digest_57 : decode cX6_digest 57 = .ok (.if_icmp .ge 16, 3) := by decide +kernel
theorem dX6_digest_60 : decode cX6_digest 60 = .ok (.aload_n 0, 1) := by decide +kernel
theorem dX6_digest_61 : decode cX6_digest 61 = .ok (.lload_n 1, 1) := by decide +kernel
theorem dX6_digest_62 : decode cX6_digest 62 = .ok (.iload_n 3, 1) := by decide +kernel
theorem dX6_digest_63 : decode cX6_digest 63 = .ok (.invokevirtual 300, 3) := by decide +kernel
theorem dX6_digest_66 : decode cX6_digest 66 = .ok (.lstore_n 1, 1) := by decide +kernel
theorem dX6_digest_67 : decode cX6_digest 67 = .ok (.iinc 3 1, 3) := by decide +kernel
theorem dX6_digest_70 : decode cX6_digest 70 = .ok (.goto (-15), 3) := by decide +kernel
theorem dX6_digest_73 : decode cX6_digest 73 = .ok (.iconst 0, 1) := by decide +kernel
theorem dX6_digest_74 : decode cX6_digest 74 = .ok (.istore_n 3, 1) := by decide +kernel
theorem dX6_digest_75 : decode cX6_digest 75 = .ok (.iload_n 3, 1) := by decide +kernel
theorem dX6_digest_76 : decode cX6_digest 76 = .ok (.bipush 60, 2) := by decide +kernel
theorem dX6_digest_78 : decode cX6_digest 78 = .ok (.if_icmp .ge 16, 3) := by decide +kernel
theorem dX6_digest_81 : decode cX6_digest 81 = .ok (.aload_n 0, 1) := by decide +kernel
theorem dX6_digest_82 : decode cX6_digest 82 = .ok (.lload_n 1, 1) := by decide +kernel
theorem dX6_digest_83 : decode cX6_digest 83 = .ok (.iload_n 3, 1) := by decide +kernel
theorem dX6_digest_84 : decode cX6_digest 84 = .ok (.invokevirtual 304, 3) := by decide +kernel
theorem dX6_digest_87 : decode cX6_digest 87 = .ok (.lstore_n 1, 1) := by decide +kernel
theorem dX6_digest_88 : decode cX6_digest 88 = .ok (.iinc 3 1, 3) := by decide +kernel
theorem dX6_digest_91 : decode cX6_digest 91 = .ok (.goto (-16), 3) := by decide +kernel
theorem dX6_digest_94 : decode cX6_digest 94 = .ok (.lload_n 1, 1) := by decide +kernel
theorem dX6_digest_95 : decode cX6_digest 95 = .ok (.aload_n 0, 1) := by decide +kernel
theorem dX6_digest_96 : decode cX6_digest 96 = .ok (.invokevirtual 307, 3) := by decide +kernel
theorem dX6_digest_99 : decode cX6_digest 99 = .ok (.i2l, 1) := by decide +kernel
theorem dX6_digest_100 : decode cX6_digest 100 = .ok (.invokestatic 293, 3) := by decide +kernel
theorem dX6_digest_103 : decode cX6_digest 103 = .ok (.lstore_n 1, 1) := by decide +kernel
theorem dX6_digest_104 : decode cX6_digest 104 = .ok (.lload_n 1, 1) := by decide +kernel
theorem dX6_digest_105 : decode cX6_digest 105 = .ok (.aload_n 0, 1) := by decide +kernel
theorem dX6_digest_106 : decode cX6_digest 106 = .ok (.invokevirtual 310, 3) := by decide +kernel
theorem dX6_digest_109 : decode cX6_digest 109 = .ok (.invokestatic 314, 3) := by decide +kernel
theorem dX6_digest_112 : decode cX6_digest 112 = .ok (.invokestatic 293, 3) := by decide +kernel
theorem dX6_digest_115 : decode cX6_digest 115 = .ok (.lstore_n 1, 1) := by decide +kernel
theorem dX6_digest_116 : decode cX6_digest 116 = .ok (.lload_n 1, 1) := by decide +kernel
theorem dX6_digest_117 : decode cX6_digest 117 = .ok (.aload_n 0, 1) := by decide +kernel
theorem dX6_digest_118 : decode cX6_digest 118 = .ok (.getfield 26, 3) := by decide +kernel
theorem dX6_digest_121 : decode cX6_digest 121 = .ok (.getfield 143, 3) := by decide +kernel
theorem dX6_digest_124 : decode cX6_digest 124 = .ok (.i2l, 1) := by decide +kernel
theorem dX6_digest_125 : decode cX6_digest 125 = .ok (.invokestatic 293, 3) := by decide +kernel
theorem dX6_digest_128 : decode cX6_digest 128 = .ok (.lstore_n 1, 1) := by decide +kernel
theorem dX6_digest_129 : decode cX6_digest 129 = .ok (.iconst 0, 1) := by decide +kernel
theorem dX6_digest_130 : decode cX6_digest 130 = .ok (.istore_n 3, 1) := by decide +kernel
theorem dX6_digest_131 : decode cX6_digest 131 = .ok (.iload_n 3, 1) := by decide +kernel
theorem dX6_digest_132 : decode cX6_digest 132 = .ok (.aload_n 0, 1) := by decide +kernel
theorem dX6_digest_133 : decode cX6_digest 133 = .ok (.getfield 26, 3) := by decide +kernel
theorem dX6_digest_136 : decode cX6_digest 136 = .ok (.getfield 143, 3) := by decide +kernel
theorem dX6_digest_139 : decode cX6_digest 139 = .ok (.if_icmp .ge 24, 3) := by decide +kernel
theorem dX6_digest_142 : decode cX6_digest 142 = .ok (.lload_n 1, 1) := by decide +kernel
theorem dX6_digest_143 : decode cX6_digest 143 = .ok (.aload_n 0, 1) := by decide +kernel
theorem dX6_digest_144 : decode cX6_digest 144 = .ok (.getfield 26, 3) := by decide +kernel
theorem dX6_digest_147 : decode cX6_digest 147 = .ok (.getfield 318, 3) := by decide +kernel
theorem dX6_digest_150 : decode cX6_digest 150 = .ok (.iload_n 3, 1) := by decide +kernel
theorem dX6_digest_151 : decode cX6_digest 151 = .ok (.iaload, 1) := by decide +kernel
theorem dX6_digest_152 : decode cX6_digest 152 = .ok (.i2l, 1) := by decide +kernel
theorem dX6_digest_153 : decode cX6_digest 153 = .ok (.invokestatic 293, 3) := by decide +kernel
theorem dX6_digest_156 : decode cX6_digest 156 = .ok (.lstore_n 1, 1) := by decide +kernel
theorem dX6_digest_157 : decode cX6_digest 157 = .ok (.iinc 3 1, 3) := by decide +kernel
theorem dX6_digest_160 : decode cX6_digest 160 = .ok (.goto (-29), 3) := by decide +kernel
theorem dX6_digest_163 : decode cX6_digest 163 = .ok (.lload_n 1, 1) := by decide +kernel
theorem dX6_digest_164 : decode cX6_digest 164 = .ok (.lreturn, 1) := by decide +kernel
theorem dX6_requireText_0 : decode cX6_requireText 0 = .ok (.iload_n 0, 1) := by decide +kernel
theorem dX6_requireText_1 : decode cX6_requireText 1 = .ok (.ifCond .lt 8, 3) := by decide +kernel
theorem dX6_requireText_4 : decode cX6_requireText 4 = .ok (.iload_n 0, 1) := by decide +kernel
theorem dX6_requireText_5 : decode cX6_requireText 5 = .ok (.iconst 4, 1) := by decide +kernel
theorem dX6_requireText_6 : decode cX6_requireText 6 = .ok (.if_icmp .lt 14, 3) := by decide +kernel
theorem dX6_requireText_9 : decode cX6_requireText 9 = .ok (.new 78, 3) := by decide +kernel
theorem dX6_requireText_12 : decode cX6_requireText 12 = .ok (.dup, 1) := by decide +kernel
theorem dX6_requireText_13 : decode cX6_requireText 13 = .ok (.ldc_w 321, 3) := by decide +kernel
theorem dX6_requireText_16 : decode cX6_requireText 16 = .ok (.invokespecial 82, 3) := by decide +kernel
theorem dX6_requireText_19 : decode cX6_requireText 19 = .ok (.athrow, 1) := by decide +kernel
theorem dX6_requireText_20 : decode cX6_requireText 20 = .ok (.return_, 1) := by decide +kernel
theorem dX6_requirePlace_0 : decode cX6_requirePlace 0 = .ok (.iload_n 1, 1) := by decide +kernel
theorem dX6_requirePlace_1 : decode cX6_requirePlace 1 = .ok (.ifCond .lt 11, 3) := by decide +kernel
theorem dX6_requirePlace_4 : decode cX6_requirePlace 4 = .ok (.iload_n 1, 1) := by decide +kernel
theorem dX6_requirePlace_5 : decode cX6_requirePlace 5 = .ok (.aload_n 0, 1) := by decide +kernel
theorem dX6_requirePlace_6 : decode cX6_requirePlace 6 = .ok (.getfield 74, 3) := by decide +kernel
theorem dX6_requirePlace_9 : decode cX6_requirePlace 9 = .ok (.if_icmp .lt 13, 3) := by decide +kernel
theorem dX6_requirePlace_12 : decode cX6_requirePlace 12 = .ok (.new 78, 3) := by decide +kernel
theorem dX6_requirePlace_15 : decode cX6_requirePlace 15 = .ok (.dup, 1) := by decide +kernel
theorem dX6_requirePlace_16 : decode cX6_requirePlace 16 = .ok (.ldc 80, 2) := by decide +kernel
theorem dX6_requirePlace_18 : decode cX6_requirePlace 18 = .ok (.invokespecial 82, 3) := by decide +kernel
theorem dX6_requirePlace_21 : decode cX6_requirePlace 21 = .ok (.athrow, 1) := by decide +kernel
theorem dX6_requirePlace_22 : decode cX6_requirePlace 22 = .ok (.return_, 1) := by decide +kernel
theorem dX6_requireSetting_0 : decode cX6_requireSetting 0 = .ok (.iload_n 0, 1) := by decide +kernel
theorem dX6_requireSetting_1 : decode cX6_requireSetting 1 = .ok (.ifCond .lt 8, 3) := by decide +kernel
theorem dX6_requireSetting_4 : decode cX6_requireSetting 4 = .ok (.iload_n 0, 1) := by decide +kernel
theorem dX6_requireSetting_5 : decode cX6_requireSetting 5 = .ok (.iconst 5, 1) := by decide +kernel
theorem dX6_requireSetting_6 : decode cX6_requireSetting 6 = .ok (.if_icmp .lt 14, 3) := by decide +kernel
theorem dX6_requireSetting_9 : decode cX6_requireSetting 9 = .ok (.new 78, 3) := by decide +kernel
theorem dX6_requireSetting_12 : decode cX6_requireSetting 12 = .ok (.dup, 1) := by decide +kernel
theorem dX6_requireSetting_13 : decode cX6_requireSetting 13 = .ok (.ldc_w 323, 3) := by decide +kernel
theorem dX6_requireSetting_16 : decode cX6_requireSetting 16 = .ok (.invokespecial 82, 3) := by decide +kernel
theorem dX6_requireSetting_19 : decode cX6_requireSetting 19 = .ok (.athrow, 1) := by decide +kernel
theorem dX6_requireSetting_20 : decode cX6_requireSetting 20 = .ok (.return_, 1) := by decide +kernel
theorem dX6_requireValue_0 : decode cX6_requireValue 0 = .ok (.iload_n 1, 1) := by decide +kernel
theorem dX6_requireValue_1 : decode cX6_requireValue 1 = .ok (.getstatic 325, 3) := by decide +kernel
theorem dX6_requireValue_4 : decode cX6_requireValue 4 = .ok (.iload_n 0, 1) := by decide +kernel
theorem dX6_requireValue_5 : decode cX6_requireValue 5 = .ok (.iaload, 1) := by decide +kernel
theorem dX6_requireValue_6 : decode cX6_requireValue 6 = .ok (.if_icmp .lt 12, 3) := by decide +kernel
theorem dX6_requireValue_9 : decode cX6_requireValue 9 = .ok (.iload_n 1, 1) := by decide +kernel
theorem dX6_requireValue_10 : decode cX6_requireValue 10 = .ok (.getstatic 328, 3) := by decide +kernel
theorem dX6_requireValue_13 : decode cX6_requireValue 13 = .ok (.iload_n 0, 1) := by decide +kernel
theorem dX6_requireValue_14 : decode cX6_requireValue 14 = .ok (.iaload, 1) := by decide +kernel
theorem dX6_requireValue_15 : decode cX6_requireValue 15 = .ok (.if_icmp .le 14, 3) := by decide +kernel
theorem dX6_requireValue_18 : decode cX6_requireValue 18 = .ok (.new 102, 3) := by decide +kernel
theorem dX6_requireValue_21 : decode cX6_requireValue 21 = .ok (.dup, 1) := by decide +kernel
theorem dX6_requireValue_22 : decode cX6_requireValue 22 = .ok (.ldc_w 331, 3) := by decide +kernel
theorem dX6_requireValue_25 : decode cX6_requireValue 25 = .ok (.invokespecial 106, 3) := by decide +kernel
theorem dX6_requireValue_28 : decode cX6_requireValue 28 = .ok (.athrow, 1) := by decide +kernel
theorem dX6_requireValue_29 : decode cX6_requireValue 29 = .ok (.return_, 1) := by decide +kernel
theorem dX6_requireWhat_0 : decode cX6_requireWhat 0 = .ok (.iload_n 0, 1) := by decide +kernel
theorem dX6_requireWhat_1 : decode cX6_requireWhat 1 = .ok (.ifCond .lt 8, 3) := by decide +kernel
theorem dX6_requireWhat_4 : decode cX6_requireWhat 4 = .ok (.iload_n 0, 1) := by decide +kernel
theorem dX6_requireWhat_5 : decode cX6_requireWhat 5 = .ok (.iload_n 1, 1) := by decide +kernel
theorem dX6_requireWhat_6 : decode cX6_requireWhat 6 = .ok (.if_icmp .le 14, 3) := by decide +kernel
theorem dX6_requireWhat_9 : decode cX6_requireWhat 9 = .ok (.new 102, 3) := by decide +kernel
theorem dX6_requireWhat_12 : decode cX6_requireWhat 12 = .ok (.dup, 1) := by decide +kernel
theorem dX6_requireWhat_13 : decode cX6_requireWhat 13 = .ok (.ldc_w 333, 3) := by decide +kernel
theorem dX6_requireWhat_16 : decode cX6_requireWhat 16 = .ok (.invokespecial 106, 3) := by decide +kernel
theorem dX6_requireWhat_19 : decode cX6_requireWhat 19 = .ok (.athrow, 1) := by decide +kernel
theorem dX6_requireWhat_20 : decode cX6_requireWhat 20 = .ok (.return_, 1) := by decide +kernel
theorem dX6_requireCompleteBuffer_0 : decode cX6_requireCompleteBuffer 0 = .ok (.aload_n 0, 1) := by decide +kernel
theorem dX6_requireCompleteBuffer_1 : decode cX6_requireCompleteBuffer 1 = .ok (.getfield 26, 3) := by decide +kernel
theorem dX6_requireCompleteBuffer_4 : decode cX6_requireCompleteBuffer 4 = .ok (.invokevirtual 264, 3) := by decide +kernel
theorem dX6_requireCompleteBuffer_7 : decode cX6_requireCompleteBuffer 7 = .ok (.ifCond .ne 14, 3) := by decide +kernel
theorem dX6_requireCompleteBuffer_10 : decode cX6_requireCompleteBuffer 10 = .ok (.new 102, 3) := by decide +kernel
theorem dX6_requireCompleteBuffer_13 : decode cX6_requireCompleteBuffer 13 = .ok (.dup, 1) := by decide +kernel
theorem dX6_requireCompleteBuffer_14 : decode cX6_requireCompleteBuffer 14 = .ok (.ldc_w 335, 3) := by decide +kernel
theorem dX6_requireCompleteBuffer_17 : decode cX6_requireCompleteBuffer 17 = .ok (.invokespecial 106, 3) := by decide +kernel
theorem dX6_requireCompleteBuffer_20 : decode cX6_requireCompleteBuffer 20 = .ok (.athrow, 1) := by decide +kernel
theorem dX6_requireCompleteBuffer_21 : decode cX6_requireCompleteBuffer 21 = .ok (.return_, 1) := by decide +kernel
theorem dX6_changeToTrial_0 : decode cX6_changeToTrial 0 = .ok (.aload_n 0, 1) := by decide +kernel
theorem dX6_changeToTrial_1 : decode cX6_changeToTrial 1 = .ok (.getfield 36, 3) := by decide +kernel
theorem dX6_changeToTrial_4 : decode cX6_changeToTrial 4 = .ok (.aload_n 0, 1) := by decide +kernel
theorem dX6_changeToTrial_5 : decode cX6_changeToTrial 5 = .ok (.getfield 10, 3) := by decide +kernel
theorem dX6_changeToTrial_8 : decode cX6_changeToTrial 8 = .ok (.getfield 134, 3) := by decide +kernel
theorem dX6_changeToTrial_11 : decode cX6_changeToTrial 11 = .ok (.invokevirtual 268, 3) := by decide +kernel
theorem dX6_changeToTrial_14 : decode cX6_changeToTrial 14 = .ok (.aload_n 0, 1) := by decide +kernel
theorem dX6_changeToTrial_15 : decode cX6_changeToTrial 15 = .ok (.getfield 30, 3) := by decide +kernel
theorem dX6_changeToTrial_18 : decode cX6_changeToTrial 18 = .ok (.aload_n 0, 1) := by decide +kernel
theorem dX6_changeToTrial_19 : decode cX6_changeToTrial 19 = .ok (.getfield 10, 3) := by decide +kernel
theorem dX6_changeToTrial_22 : decode cX6_changeToTrial 22 = .ok (.iload_n 1, 1) := by decide +kernel
theorem dX6_changeToTrial_23 : decode cX6_changeToTrial 23 = .ok (.aload_n 0, 1) := by decide +kernel
theorem dX6_changeToTrial_24 : decode cX6_changeToTrial 24 = .ok (.getfield 36, 3) := by decide +kernel
theorem dX6_changeToTrial_27 : decode cX6_changeToTrial 27 = .ok (.invokevirtual 278, 3) := by decide +kernel
theorem dX6_changeToTrial_30 : decode cX6_changeToTrial 30 = .ok (.ifCond .ne 14, 3) := by decide +kernel
theorem dX6_changeToTrial_33 : decode cX6_changeToTrial 33 = .ok (.new 89, 3) := by decide +kernel
theorem dX6_changeToTrial_36 : decode cX6_changeToTrial 36 = .ok (.dup, 1) := by decide +kernel
theorem dX6_changeToTrial_37 : decode cX6_changeToTrial 37 = .ok (.ldc_w 337, 3) := by decide +kernel
theorem dX6_changeToTrial_40 : decode cX6_changeToTrial 40 = .ok (.invokespecial 93, 3) := by decide +kernel
theorem dX6_changeToTrial_43 : decode cX6_changeToTrial 43 = .ok (.athrow, 1) := by decide +kernel
theorem dX6_changeToTrial_44 : decode cX6_changeToTrial 44 = .ok (.aload_n 0, 1) := by decide +kernel
theorem dX6_changeToTrial_45 : decode cX6_changeToTrial 45 = .ok (.getfield 19, 3) := by decide +kernel
theorem dX6_changeToTrial_48 : decode cX6_changeToTrial 48 = .ok (.aload_n 0, 1) := by decide +kernel
theorem dX6_changeToTrial_49 : decode cX6_changeToTrial 49 = .ok (.getfield 10, 3) := by decide +kernel
theorem dX6_changeToTrial_52 : decode cX6_changeToTrial 52 = .ok (.invokevirtual 110, 3) := by decide +kernel
theorem dX6_changeToTrial_55 : decode cX6_changeToTrial 55 = .ok (.aload_n 0, 1) := by decide +kernel
theorem dX6_changeToTrial_56 : decode cX6_changeToTrial 56 = .ok (.getfield 10, 3) := by decide +kernel
theorem dX6_changeToTrial_59 : decode cX6_changeToTrial 59 = .ok (.aload_n 0, 1) := by decide +kernel
theorem dX6_changeToTrial_60 : decode cX6_changeToTrial 60 = .ok (.getfield 30, 3) := by decide +kernel
theorem dX6_changeToTrial_63 : decode cX6_changeToTrial 63 = .ok (.invokevirtual 339, 3) := by decide +kernel
theorem dX6_changeToTrial_66 : decode cX6_changeToTrial 66 = .ok (.aload_n 0, 1) := by decide +kernel
theorem dX6_changeToTrial_67 : decode cX6_changeToTrial 67 = .ok (.getfield 36, 3) := by decide +kernel
theorem dX6_changeToTrial_70 : decode cX6_changeToTrial 70 = .ok (.getfield 178, 3) := by decide +kernel
theorem dX6_changeToTrial_73 : decode cX6_changeToTrial 73 = .ok (.ireturn, 1) := by decide +kernel
theorem dX6_unlikeLengthsWith_0 : decode cX6_unlikeLengthsWith 0 = .ok (.aload_n 0, 1) := by decide +kernel
