theorem dX7_longestPiece_10 : decode cX7_longestPiece 10 = .ok (.if_icmp .ge 39, 3) := by decide +kernel
theorem dX7_longestPiece_13 : decode cX7_longestPiece 13 = .ok (.aload_n 0, 1) := by decide +kernel
theorem dX7_longestPiece_14 : decode cX7_longestPiece 14 = .ok (.getfield 7, 3) := by decide +kernel
theorem dX7_longestPiece_17 : decode cX7_longestPiece 17 = .ok (.sipush 491, 3) := by decide +kernel
theorem dX7_longestPiece_20 : decode cX7_longestPiece 20 = .ok (.aload_n 0, 1) := by decide +kernel
theorem dX7_longestPiece_21 : decode cX7_longestPiece 21 = .ok (.iload_n 1, 1) := by decide +kernel
theorem dX7_longestPiece_22 : decode cX7_longestPiece 22 = .ok (.iload_n 3, 1) := by decide +kernel
theorem dX7_longestPiece_23 : decode cX7_longestPiece 23 = .ok (.invokevirtual 95, 3) := by decide +kernel
theorem dX7_longestPiece_26 : decode cX7_longestPiece 26 = .ok (.iadd, 1) := by decide +kernel
theorem dX7_longestPiece_27 : decode cX7_longestPiece 27 = .ok (.iaload, 1) := by decide +kernel
theorem dX7_longestPiece_28 : decode cX7_longestPiece 28 = .ok (.istore 4, 2) := by decide +kernel
theorem dX7_longestPiece_30 : decode cX7_longestPiece 30 = .ok (.iload 4, 2) := by decide +kernel
theorem dX7_longestPiece_32 : decode cX7_longestPiece 32 = .ok (.iload_n 2, 1) := by decide +kernel
theorem dX7_longestPiece_33 : decode cX7_longestPiece 33 = .ok (.if_icmp .le 8, 3) := by decide +kernel
theorem dX7_longestPiece_36 : decode cX7_longestPiece 36 = .ok (.iload 4, 2) := by decide +kernel
theorem dX7_longestPiece_38 : decode cX7_longestPiece 38 = .ok (.goto 4, 3) := by decide +kernel
theorem dX7_longestPiece_41 : decode cX7_longestPiece 41 = .ok (.iload_n 2, 1) := by decide +kernel
theorem dX7_longestPiece_42 : decode cX7_longestPiece 42 = .ok (.istore_n 2, 1) := by decide +kernel
theorem dX7_longestPiece_43 : decode cX7_longestPiece 43 = .ok (.iinc 3 1, 3) := by decide +kernel
theorem dX7_longestPiece_46 : decode cX7_longestPiece 46 = .ok (.goto (-42), 3) := by decide +kernel
theorem dX7_longestPiece_49 : decode cX7_longestPiece 49 = .ok (.iload_n 2, 1) := by decide +kernel
theorem dX7_longestPiece_50 : decode cX7_longestPiece 50 = .ok (.ireturn, 1) := by decide +kernel
theorem dX7_ownSigns_0 : decode cX7_ownSigns 0 = .ok (.iconst 0, 1) := by decide +kernel
theorem dX7_ownSigns_1 : decode cX7_ownSigns 1 = .ok (.istore_n 2, 1) := by decide +kernel
theorem dX7_ownSigns_2 : decode cX7_ownSigns 2 = .ok (.iconst 0, 1) := by decide +kernel
theorem dX7_ownSigns_3 : decode cX7_ownSigns 3 = .ok (.istore_n 3, 1) := by decide +kernel
theorem dX7_ownSigns_4 : decode cX7_ownSigns 4 = .ok (.iload_n 3, 1) := by decide +kernel
theorem dX7_ownSigns_5 : decode cX7_ownSigns 5 = .ok (.aload_n 0, 1) := by decide +kernel
theorem dX7_ownSigns_6 : decode cX7_ownSigns 6 = .ok (.iload_n 1, 1) := by decide +kernel
theorem dX7_ownSigns_7 : decode cX7_ownSigns 7 = .ok (.invokevirtual 58, 3) := by decide +kernel
theorem dX7_ownSigns_10 : decode cX7_ownSigns 10 = .ok (.if_icmp .ge 33, 3) := by decide +kernel
theorem dX7_ownSigns_13 : decode cX7_ownSigns 13 = .ok (.iload_n 2, 1) := by decide +kernel
theorem dX7_ownSigns_14 : decode cX7_ownSigns 14 = .ok (.aload_n 0, 1) := by decide +kernel
theorem dX7_ownSigns_15 : decode cX7_ownSigns 15 = .ok (.aload_n 0, 1) := by decide +kernel
theorem dX7_ownSigns_16 : decode cX7_ownSigns 16 = .ok (.iload_n 1, 1) := by decide +kernel
theorem dX7_ownSigns_17 : decode cX7_ownSigns 17 = .ok (.iload_n 3, 1) := by decide +kernel
theorem dX7_ownSigns_18 : decode cX7_ownSigns 18 = .ok (.invokevirtual 95, 3) := by decide +kernel
theorem dX7_ownSigns_21 : decode cX7_ownSigns 21 = .ok (.invokevirtual 210, 3) := by decide +kernel
theorem dX7_ownSigns_24 : decode cX7_ownSigns 24 = .ok (.iconst 1, 1) := by decide +kernel
theorem dX7_ownSigns_25 : decode cX7_ownSigns 25 = .ok (.iload_n 1, 1) := by decide +kernel
theorem dX7_ownSigns_26 : decode cX7_ownSigns 26 = .ok (.ishl, 1) := by decide +kernel
theorem dX7_ownSigns_27 : decode cX7_ownSigns 27 = .ok (.if_icmp .ne 7, 3) := by decide +kernel
theorem dX7_ownSigns_30 : decode cX7_ownSigns 30 = .ok (.iconst 1, 1) := by decide +kernel
theorem dX7_ownSigns_31 : decode cX7_ownSigns 31 = .ok (.goto 4, 3) := by decide +kernel
theorem dX7_ownSigns_34 : decode cX7_ownSigns 34 = .ok (.iconst 0, 1) := by decide +kernel
theorem dX7_ownSigns_35 : decode cX7_ownSigns 35 = .ok (.iadd, 1) := by decide +kernel
theorem dX7_ownSigns_36 : decode cX7_ownSigns 36 = .ok (.istore_n 2, 1) := by decide +kernel
theorem dX7_ownSigns_37 : decode cX7_ownSigns 37 = .ok (.iinc 3 1, 3) := by decide +kernel
theorem dX7_ownSigns_40 : decode cX7_ownSigns 40 = .ok (.goto (-36), 3) := by decide +kernel
theorem dX7_ownSigns_43 : decode cX7_ownSigns 43 = .ok (.iload_n 2, 1) := by decide +kernel
theorem dX7_ownSigns_44 : decode cX7_ownSigns 44 = .ok (.ireturn, 1) := by decide +kernel
theorem dX7_textNow_0 : decode cX7_textNow 0 = .ok (.iload_n 2, 1) := by decide +kernel
theorem dX7_textNow_1 : decode cX7_textNow 1 = .ok (.tableswitch 65 0 4 #[35, 41, 47, 53, 59], 35) := by decide +kernel
theorem dX7_textNow_36 : decode cX7_textNow 36 = .ok (.aload_n 0, 1) := by decide +kernel
theorem dX7_textNow_37 : decode cX7_textNow 37 = .ok (.iload_n 1, 1) := by decide +kernel
theorem dX7_textNow_38 : decode cX7_textNow 38 = .ok (.invokevirtual 58, 3) := by decide +kernel
theorem dX7_textNow_41 : decode cX7_textNow 41 = .ok (.ireturn, 1) := by decide +kernel
theorem dX7_textNow_42 : decode cX7_textNow 42 = .ok (.aload_n 0, 1) := by decide +kernel
theorem dX7_textNow_43 : decode cX7_textNow 43 = .ok (.iload_n 1, 1) := by decide +kernel
theorem dX7_textNow_44 : decode cX7_textNow 44 = .ok (.invokevirtual 204, 3) := by decide +kernel
theorem dX7_textNow_47 : decode cX7_textNow 47 = .ok (.ireturn, 1) := by decide +kernel
theorem dX7_textNow_48 : decode cX7_textNow 48 = .ok (.aload_n 0, 1) := by decide +kernel
theorem dX7_textNow_49 : decode cX7_textNow 49 = .ok (.iload_n 1, 1) := by decide +kernel
theorem dX7_textNow_50 : decode cX7_textNow 50 = .ok (.invokevirtual 227, 3) := by decide +kernel
theorem dX7_textNow_53 : decode cX7_textNow 53 = .ok (.ireturn, 1) := by decide +kernel
theorem dX7_textNow_54 : decode cX7_textNow 54 = .ok (.aload_n 0, 1) := by decide +kernel
theorem dX7_textNow_55 : decode cX7_textNow 55 = .ok (.iload_n 1, 1) := by decide +kernel
theorem dX7_textNow_56 : decode cX7_textNow 56 = .ok (.invokevirtual 230, 3) := by decide +kernel
theorem dX7_textNow_59 : decode cX7_textNow 59 = .ok (.ireturn, 1) := by decide +kernel
theorem dX7_textNow_60 : decode cX7_textNow 60 = .ok (.aload_n 0, 1) := by decide +kernel
theorem dX7_textNow_61 : decode cX7_textNow 61 = .ok (.iload_n 1, 1) := by decide +kernel
theorem dX7_textNow_62 : decode cX7_textNow 62 = .ok (.invokevirtual 233, 3) := by decide +kernel
theorem dX7_textNow_65 : decode cX7_textNow 65 = .ok (.ireturn, 1) := by decide +kernel
theorem dX7_textNow_66 : decode cX7_textNow 66 = .ok (.aload_n 0, 1) := by decide +kernel
theorem dX7_textNow_67 : decode cX7_textNow 67 = .ok (.iload_n 1, 1) := by decide +kernel
theorem dX7_textNow_68 : decode cX7_textNow 68 = .ok (.invokevirtual 236, 3) := by decide +kernel
theorem dX7_textNow_71 : decode cX7_textNow 71 = .ok (.ireturn, 1) := by decide +kernel
theorem dX7_text_0 : decode cX7_text 0 = .ok (.aload_n 0, 1) := by decide +kernel
theorem dX7_text_1 : decode cX7_text 1 = .ok (.iload_n 1, 1) := by decide +kernel
theorem dX7_text_2 : decode cX7_text 2 = .ok (.invokestatic 157, 3) := by decide +kernel
theorem dX7_text_5 : decode cX7_text 5 = .ok (.ifCond .ne 7, 3) := by decide +kernel
theorem dX7_text_8 : decode cX7_text 8 = .ok (.iconst 1, 1) := by decide +kernel
theorem dX7_text_9 : decode cX7_text 9 = .ok (.goto 17, 3) := by decide +kernel
theorem dX7_text_12 : decode cX7_text 12 = .ok (.iload_n 2, 1) := by decide +kernel
theorem dX7_text_13 : decode cX7_text 13 = .ok (.iconst 0, 1) := by decide +kernel
theorem dX7_text_14 : decode cX7_text 14 = .ok (.iconst 5, 1) := by decide +kernel
theorem dX7_text_15 : decode cX7_text 15 = .ok (.invokestatic 54, 3) := by decide +kernel
theorem dX7_text_18 : decode cX7_text 18 = .ok (.ifCond .eq 7, 3) := by decide +kernel
theorem dX7_text_21 : decode cX7_text 21 = .ok (.iconst 0, 1) := by decide +kernel
theorem dX7_text_22 : decode cX7_text 22 = .ok (.goto 4, 3) := by decide +kernel
theorem dX7_text_25 : decode cX7_text 25 = .ok (.iconst 2, 1) := by decide +kernel
theorem dX7_text_26 : decode cX7_text 26 = .ok (.putfield 47, 3) := by decide +kernel
theorem dX7_text_29 : decode cX7_text 29 = .ok (.aload_n 0, 1) := by decide +kernel
theorem dX7_text_30 : decode cX7_text 30 = .ok (.getfield 47, 3) := by decide +kernel
theorem dX7_text_33 : decode cX7_text 33 = .ok (.ifCond .le 7, 3) := by decide +kernel
theorem dX7_text_36 : decode cX7_text 36 = .ok (.iconst 0, 1) := by decide +kernel
theorem dX7_text_37 : decode cX7_text 37 = .ok (.goto 9, 3) := by decide +kernel
theorem dX7_text_40 : decode cX7_text 40 = .ok (.aload_n 0, 1) := by decide +kernel
theorem dX7_text_41 : decode cX7_text 41 = .ok (.iload_n 1, 1) := by decide +kernel
theorem dX7_text_42 : decode cX7_text 42 = .ok (.iload_n 2, 1) := by decide +kernel
theorem dX7_text_43 : decode cX7_text 43 = .ok (.invokevirtual 239, 3) := by decide +kernel
theorem dX7_text_46 : decode cX7_text 46 = .ok (.ireturn, 1) := by decide +kernel
theorem dX7_sharedPieces_0 : decode cX7_sharedPieces 0 = .ok (.iconst 0, 1) := by decide +kernel
theorem dX7_sharedPieces_1 : decode cX7_sharedPieces 1 = .ok (.istore_n 3, 1) := by decide +kernel
theorem dX7_sharedPieces_2 : decode cX7_sharedPieces 2 = .ok (.iconst 0, 1) := by decide +kernel
theorem dX7_sharedPieces_3 : decode cX7_sharedPieces 3 = .ok (.istore 4, 2) := by decide +kernel
theorem dX7_sharedPieces_5 : decode cX7_sharedPieces 5 = .ok (.iload 4, 2) := by decide +kernel
theorem dX7_sharedPieces_7 : decode cX7_sharedPieces 7 = .ok (.bipush 60, 2) := by decide +kernel
theorem dX7_sharedPieces_9 : decode cX7_sharedPieces 9 = .ok (.if_icmp .ge 46, 3) := by decide +kernel
theorem dX7_sharedPieces_12 : decode cX7_sharedPieces 12 = .ok (.iload_n 3, 1) := by decide +kernel
theorem dX7_sharedPieces_13 : decode cX7_sharedPieces 13 = .ok (.aload_n 0, 1) := by decide +kernel
theorem dX7_sharedPieces_14 : decode cX7_sharedPieces 14 = .ok (.iload 4, 2) := by decide +kernel
theorem dX7_sharedPieces_16 : decode cX7_sharedPieces 16 = .ok (.invokevirtual 82, 3) := by decide +kernel
theorem dX7_sharedPieces_19 : decode cX7_sharedPieces 19 = .ok (.ifCond .eq 27, 3) := by decide +kernel
theorem dX7_sharedPieces_22 : decode cX7_sharedPieces 22 = .ok (.aload_n 0, 1) := by decide +kernel
theorem dX7_sharedPieces_23 : decode cX7_sharedPieces 23 = .ok (.iload_n 1, 1) := by decide +kernel
theorem dX7_sharedPieces_24 : decode cX7_sharedPieces 24 = .ok (.iload 4, 2) := by decide +kernel
theorem dX7_sharedPieces_26 : decode cX7_sharedPieces 26 = .ok (.invokevirtual 201, 3) := by decide +kernel
theorem dX7_sharedPieces_29 : decode cX7_sharedPieces 29 = .ok (.ifCond .eq 17, 3) := by decide +kernel
theorem dX7_sharedPieces_32 : decode cX7_sharedPieces 32 = .ok (.aload_n 0, 1) := by decide +kernel
theorem dX7_sharedPieces_33 : decode cX7_sharedPieces 33 = .ok (.iload_n 2, 1) := by decide +kernel
theorem dX7_sharedPieces_34 : decode cX7_sharedPieces 34 = .ok (.iload 4, 2) := by decide +kernel
theorem dX7_sharedPieces_36 : decode cX7_sharedPieces 36 = .ok (.invokevirtual 201, 3) := by decide +kernel
theorem dX7_sharedPieces_39 : decode cX7_sharedPieces 39 = .ok (.ifCond .eq 7, 3) := by decide +kernel
theorem dX7_sharedPieces_42 : decode cX7_sharedPieces 42 = .ok (.iconst 1, 1) := by decide +kernel
theorem dX7_sharedPieces_43 : decode cX7_sharedPieces 43 = .ok (.goto 4, 3) := by decide +kernel
theorem dX7_sharedPieces_46 : decode cX7_sharedPieces 46 = .ok (.iconst 0, 1) := by decide +kernel
theorem dX7_sharedPieces_47 : decode cX7_sharedPieces 47 = .ok (.iadd, 1) := by decide +kernel
theorem dX7_sharedPieces_48 : decode cX7_sharedPieces 48 = .ok (.istore_n 3, 1) := by decide +kernel
theorem dX7_sharedPieces_49 : decode cX7_sharedPieces 49 = .ok (.iinc 4 1, 3) := by decide +kernel
theorem dX7_sharedPieces_52 : decode cX7_sharedPieces 52 = .ok (.goto (-47), 3) := by decide +kernel
theorem dX7_sharedPieces_55 : decode cX7_sharedPieces 55 = .ok (.iload_n 3, 1) := by decide +kernel
theorem dX7_sharedPieces_56 : decode cX7_sharedPieces 56 = .ok (.ireturn, 1) := by decide +kernel
theorem dX7_sharedSigns_0 : decode cX7_sharedSigns 0 = .ok (.iconst 0, 1) := by decide +kernel
theorem dX7_sharedSigns_1 : decode cX7_sharedSigns 1 = .ok (.istore_n 3, 1) := by decide +kernel
theorem dX7_sharedSigns_2 : decode cX7_sharedSigns 2 = .ok (.iconst 0, 1) := by decide +kernel
theorem dX7_sharedSigns_3 : decode cX7_sharedSigns 3 = .ok (.istore 4, 2) := by decide +kernel
theorem dX7_sharedSigns_5 : decode cX7_sharedSigns 5 = .ok (.iload 4, 2) := by decide +kernel
theorem dX7_sharedSigns_7 : decode cX7_sharedSigns 7 = .ok (.aload_n 0, 1) := by decide +kernel
theorem dX7_sharedSigns_8 : decode cX7_sharedSigns 8 = .ok (.iload_n 1, 1) := by decide +kernel
theorem dX7_sharedSigns_9 : decode cX7_sharedSigns 9 = .ok (.invokevirtual 58, 3) := by decide +kernel
theorem dX7_sharedSigns_12 : decode cX7_sharedSigns 12 = .ok (.if_icmp .ge 32, 3) := by decide +kernel
theorem dX7_sharedSigns_15 : decode cX7_sharedSigns 15 = .ok (.iload_n 3, 1) := by decide +kernel
theorem dX7_sharedSigns_16 : decode cX7_sharedSigns 16 = .ok (.aload_n 0, 1) := by decide +kernel
theorem dX7_sharedSigns_17 : decode cX7_sharedSigns 17 = .ok (.iload_n 2, 1) := by decide +kernel
theorem dX7_sharedSigns_18 : decode cX7_sharedSigns 18 = .ok (.aload_n 0, 1) := by decide +kernel
theorem dX7_sharedSigns_19 : decode cX7_sharedSigns 19 = .ok (.iload_n 1, 1) := by decide +kernel
theorem dX7_sharedSigns_20 : decode cX7_sharedSigns 20 = .ok (.iload 4, 2) := by decide +kernel
theorem dX7_sharedSigns_22 : decode cX7_sharedSigns 22 = .ok (.invokevirtual 95, 3) := by decide +kernel
theorem dX7_sharedSigns_25 : decode cX7_sharedSigns 25 = .ok (.invokevirtual 201, 3) := by decide +kernel
theorem dX7_sharedSigns_28 : decode cX7_sharedSigns 28 = .ok (.ifCond .eq 7, 3) := by decide +kernel
theorem dX7_sharedSigns_31 : decode cX7_sharedSigns 31 = .ok (.iconst 1, 1) := by decide +kernel
theorem dX7_sharedSigns_32 : decode cX7_sharedSigns 32 = .ok (.goto 4, 3) := by decide +kernel
theorem dX7_sharedSigns_35 : decode cX7_sharedSigns 35 = .ok (.iconst 0, 1) := by decide +kernel
theorem dX7_sharedSigns_36 : decode cX7_sharedSigns 36 = .ok (.iadd, 1) := by decide +kernel
theorem dX7_sharedSigns_37 : decode cX7_sharedSigns 37 = .ok (.istore_n 3, 1) := by decide +kernel
theorem dX7_sharedSigns_38 : decode cX7_sharedSigns 38 = .ok (.iinc 4 1, 3) := by decide +kernel
theorem dX7_sharedSigns_41 : decode cX7_sharedSigns 41 = .ok (.goto (-36), 3) := by decide +kernel
theorem dX7_sharedSigns_44 : decode cX7_sharedSigns 44 = .ok (.iload_n 3, 1) := by decide +kernel
theorem dX7_sharedSigns_45 : decode cX7_sharedSigns 45 = .ok (.ireturn, 1) := by decide +kernel
theorem dX7_sameBegin_0 : decode cX7_sameBegin 0 = .ok (.iconst 0, 1) := by decide +kernel
theorem dX7_sameBegin_1 : decode cX7_sameBegin 1 = .ok (.istore_n 3, 1) := by decide +kernel
theorem dX7_sameBegin_2 : decode cX7_sameBegin 2 = .ok (.iconst 0, 1) := by decide +kernel
theorem dX7_sameBegin_3 : decode cX7_sameBegin 3 = .ok (.istore 4, 2) := by decide +kernel
theorem dX7_sameBegin_5 : decode cX7_sameBegin 5 = .ok (.iload 4, 2) := by decide +kernel
theorem dX7_sameBegin_7 : decode cX7_sameBegin 7 = .ok (.aload_n 0, 1) := by decide +kernel
theorem dX7_sameBegin_8 : decode cX7_sameBegin 8 = .ok (.iload_n 1, 1) := by decide +kernel
theorem dX7_sameBegin_9 : decode cX7_sameBegin 9 = .ok (.invokevirtual 58, 3) := by decide +kernel
theorem dX7_sameBegin_12 : decode cX7_sameBegin 12 = .ok (.if_icmp .ge 57, 3) := by decide +kernel
theorem dX7_sameBegin_15 : decode cX7_sameBegin 15 = .ok (.iload 4, 2) := by decide +kernel
theorem dX7_sameBegin_17 : decode cX7_sameBegin 17 = .ok (.aload_n 0, 1) := by decide +kernel
theorem dX7_sameBegin_18 : decode cX7_sameBegin 18 = .ok (.iload_n 2, 1) := by decide +kernel
theorem dX7_sameBegin_19 : decode cX7_sameBegin 19 = .ok (.invokevirtual 58, 3) := by decide +kernel
theorem dX7_sameBegin_22 : decode cX7_sameBegin 22 = .ok (.if_icmp .ge 47, 3) := by decide +kernel
theorem dX7_sameBegin_25 : decode cX7_sameBegin 25 = .ok (.aload_n 0, 1) := by decide +kernel
theorem dX7_sameBegin_26 : decode cX7_sameBegin 26 = .ok (.iload_n 1, 1) := by decide +kernel
theorem dX7_sameBegin_27 : decode cX7_sameBegin 27 = .ok (.iload 4, 2) := by decide +kernel
theorem dX7_sameBegin_29 : decode cX7_sameBegin 29 = .ok (.invokevirtual 95, 3) := by decide +kernel
theorem dX7_sameBegin_32 : decode cX7_sameBegin 32 = .ok (.aload_n 0, 1) := by decide +kernel
theorem dX7_sameBegin_33 : decode cX7_sameBegin 33 = .ok (.iload_n 2, 1) := by decide +kernel
theorem dX7_sameBegin_34 : decode cX7_sameBegin 34 = .ok (.iload 4, 2) := by decide +kernel
theorem dX7_sameBegin_36 : decode cX7_sameBegin 36 = .ok (.invokevirtual 95, 3) := by decide +kernel
theorem dX7_sameBegin_39 : decode cX7_sameBegin 39 = .ok (.if_icmp .ne 30, 3) := by decide +kernel
theorem dX7_sameBegin_42 : decode cX7_sameBegin 42 = .ok (.iload 4, 2) := by decide +kernel
theorem dX7_sameBegin_44 : decode cX7_sameBegin 44 = .ok (.aload_n 0, 1) := by decide +kernel
theorem dX7_sameBegin_45 : decode cX7_sameBegin 45 = .ok (.getfield 7, 3) := by decide +kernel
theorem dX7_sameBegin_48 : decode cX7_sameBegin 48 = .ok (.sipush 491, 3) := by decide +kernel
theorem dX7_sameBegin_51 : decode cX7_sameBegin 51 = .ok (.aload_n 0, 1) := by decide +kernel
theorem dX7_sameBegin_52 : decode cX7_sameBegin 52 = .ok (.iload_n 1, 1) := by decide +kernel
theorem dX7_sameBegin_53 : decode cX7_sameBegin 53 = .ok (.iload 4, 2) := by decide +kernel
theorem dX7_sameBegin_55 : decode cX7_sameBegin 55 = .ok (.invokevirtual 95, 3) := by decide +kernel
theorem dX7_sameBegin_58 : decode cX7_sameBegin 58 = .ok (.iadd, 1) := by decide +kernel
theorem dX7_sameBegin_59 : decode cX7_sameBegin 59 = .ok (.iaload, 1) := by decide +kernel
theorem dX7_sameBegin_60 : decode cX7_sameBegin 60 = .ok (.iadd, 1) := by decide +kernel
theorem dX7_sameBegin_61 : decode cX7_sameBegin 61 = .ok (.istore 4, 2) := by decide +kernel
theorem dX7_sameBegin_63 : decode cX7_sameBegin 63 = .ok (.iinc 3 1, 3) := by decide +kernel
theorem dX7_sameBegin_66 : decode cX7_sameBegin 66 = .ok (.goto (-61), 3) := by decide +kernel
theorem dX7_sameBegin_69 : decode cX7_sameBegin 69 = .ok (.iload_n 3, 1) := by decide +kernel
theorem dX7_sameBegin_70 : decode cX7_sameBegin 70 = .ok (.ireturn, 1) := by decide +kernel
theorem dX7_commonNow_0 : decode cX7_commonNow 0 = .ok (.iload_n 3, 1) := by decide +kernel
theorem dX7_commonNow_1 : decode cX7_commonNow 1 = .ok (.ifCond .ne 12, 3) := by decide +kernel
theorem dX7_commonNow_4 : decode cX7_commonNow 4 = .ok (.aload_n 0, 1) := by decide +kernel
theorem dX7_commonNow_5 : decode cX7_commonNow 5 = .ok (.iload_n 1, 1) := by decide +kernel
theorem dX7_commonNow_6 : decode cX7_commonNow 6 = .ok (.iload_n 2, 1) := by decide +kernel
theorem dX7_commonNow_7 : decode cX7_commonNow 7 = .ok (.invokevirtual 242, 3) := by decide +kernel
theorem dX7_commonNow_10 : decode cX7_commonNow 10 = .ok (.goto 23, 3) := by decide +kernel
theorem dX7_commonNow_13 : decode cX7_commonNow 13 = .ok (.iload_n 3, 1) := by decide +kernel
theorem dX7_commonNow_14 : decode cX7_commonNow 14 = .ok (.iconst 1, 1) := by decide +kernel
theorem dX7_commonNow_15 : decode cX7_commonNow 15 = .ok (.if_icmp .ne 12, 3) := by decide +kernel
theorem dX7_commonNow_18 : decode cX7_commonNow 18 = .ok (.aload_n 0, 1) := by decide +kernel
theorem dX7_commonNow_19 : decode cX7_commonNow 19 = .ok (.iload_n 1, 1) := by decide +kernel
theorem dX7_commonNow_20 : decode cX7_commonNow 20 = .ok (.iload_n 2, 1) := by decide +kernel
theorem dX7_commonNow_21 : decode cX7_commonNow 21 = .ok (.invokevirtual 245, 3) := by decide +kernel
theorem dX7_commonNow_24 : decode cX7_commonNow 24 = .ok (.goto 9, 3) := by decide +kernel
theorem dX7_commonNow_27 : decode cX7_commonNow 27 = .ok (.aload_n 0, 1) := by decide +kernel
theorem dX7_commonNow_28 : decode cX7_commonNow 28 = .ok (.iload_n 1, 1) := by decide +kernel
theorem dX7_commonNow_29 : decode cX7_commonNow 29 = .ok (.iload_n 2, 1) := by decide +kernel
theorem dX7_commonNow_30 : decode cX7_commonNow 30 = .ok (.invokevirtual 248, 3) := by decide +kernel
theorem dX7_commonNow_33 : decode cX7_commonNow 33 = .ok (.ireturn, 1) := by decide +kernel
theorem dX7_common_0 : decode cX7_common 0 = .ok (.aload_n 0, 1) := by decide +kernel
theorem dX7_common_1 : decode cX7_common 1 = .ok (.iload_n 1, 1) := by decide +kernel
theorem dX7_common_2 : decode cX7_common 2 = .ok (.invokestatic 157, 3) := by decide +kernel
theorem dX7_common_5 : decode cX7_common 5 = .ok (.ifCond .eq 10, 3) := by decide +kernel
theorem dX7_common_8 : decode cX7_common 8 = .ok (.iload_n 2, 1) := by decide +kernel
theorem dX7_common_9 : decode cX7_common 9 = .ok (.invokestatic 157, 3) := by decide +kernel
theorem dX7_common_12 : decode cX7_common 12 = .ok (.ifCond .ne 7, 3) := by decide +kernel
theorem dX7_common_15 : decode cX7_common 15 = .ok (.iconst 1, 1) := by decide +kernel
theorem dX7_common_16 : decode cX7_common 16 = .ok (.goto 17, 3) := by decide +kernel
theorem dX7_common_19 : decode cX7_common 19 = .ok (.iload_n 3, 1) := by decide +kernel
theorem dX7_common_20 : decode cX7_common 20 = .ok (.iconst 0, 1) := by decide +kernel
theorem dX7_common_21 : decode cX7_common 21 = .ok (.iconst 2, 1) := by decide +kernel
theorem dX7_common_22 : decode cX7_common 22 = .ok (.invokestatic 54, 3) := by decide +kernel
theorem dX7_common_25 : decode cX7_common 25 = .ok (.ifCond .eq 7, 3) := by decide +kernel
theorem dX7_common_28 : decode cX7_common 28 = .ok (.iconst 0, 1) := by decide +kernel
theorem dX7_common_29 : decode cX7_common 29 = .ok (.goto 4, 3) := by decide +kernel
theorem dX7_common_32 : decode cX7_common 32 = .ok (.iconst 2, 1) := by decide +kernel
theorem dX7_common_33 : decode cX7_common 33 = .ok (.putfield 47, 3) := by decide +kernel
theorem dX7_common_36 : decode cX7_common 36 = .ok (.aload_n 0, 1) := by decide +kernel
theorem dX7_common_37 : decode cX7_common 37 = .ok (.getfield 47, 3) := by decide +kernel
theorem dX7_common_40 : decode cX7_common 40 = .ok (.ifCond .le 7, 3) := by decide +kernel
theorem dX7_common_43 : decode cX7_common 43 = .ok (.iconst 0, 1) := by decide +kernel
theorem dX7_common_44 : decode cX7_common 44 = .ok (.goto 10, 3) := by decide +kernel
theorem dX7_common_47 : decode cX7_common 47 = .ok (.aload_n 0, 1) := by decide +kernel
theorem dX7_common_48 : decode cX7_common 48 = .ok (.iload_n 1, 1) := by decide +kernel
theorem dX7_common_49 : decode cX7_common 49 = .ok (.iload_n 2, 1) := by decide +kernel
theorem dX7_common_50 : decode cX7_common 50 = .ok (.iload_n 3, 1) := by decide +kernel
theorem dX7_common_51 : decode cX7_common 51 = .ok (.invokevirtual 251, 3) := by decide +kernel
theorem dX7_common_54 : decode cX7_common 54 = .ok (.ireturn, 1) := by decide +kernel
theorem dX7_allSigns_0 : decode cX7_allSigns 0 = .ok (.aload_n 0, 1) := by decide +kernel
theorem dX7_allSigns_1 : decode cX7_allSigns 1 = .ok (.iconst 0, 1) := by decide +kernel
theorem dX7_allSigns_2 : decode cX7_allSigns 2 = .ok (.invokevirtual 58, 3) := by decide +kernel
theorem dX7_allSigns_5 : decode cX7_allSigns 5 = .ok (.aload_n 0, 1) := by decide +kernel
theorem dX7_allSigns_6 : decode cX7_allSigns 6 = .ok (.iconst 1, 1) := by decide +kernel
theorem dX7_allSigns_7 : decode cX7_allSigns 7 = .ok (.invokevirtual 58, 3) := by decide +kernel
theorem dX7_allSigns_10 : decode cX7_allSigns 10 = .ok (.iadd, 1) := by decide +kernel
theorem dX7_allSigns_11 : decode cX7_allSigns 11 = .ok (.aload_n 0, 1) := by decide +kernel
theorem dX7_allSigns_12 : decode cX7_allSigns 12 = .ok (.iconst 2, 1) := by decide +kernel
theorem dX7_allSigns_13 : decode cX7_allSigns 13 = .ok (.invokevirtual 58, 3) := by decide +kernel
theorem dX7_allSigns_16 : decode cX7_allSigns 16 = .ok (.iadd, 1) := by decide +kernel
theorem dX7_allSigns_17 : decode cX7_allSigns 17 = .ok (.aload_n 0, 1) := by decide +kernel
theorem dX7_allSigns_18 : decode cX7_allSigns 18 = .ok (.iconst 3, 1) := by decide +kernel
theorem dX7_allSigns_19 : decode cX7_allSigns 19 = .ok (.invokevirtual 58, 3) := by decide +kernel
theorem dX7_allSigns_22 : decode cX7_allSigns 22 = .ok (.iadd, 1) := by decide +kernel
theorem dX7_allSigns_23 : decode cX7_allSigns 23 = .ok (.ireturn, 1) := by decide +kernel
theorem dX7_allPieces_0 : decode cX7_allPieces 0 = .ok (.aload_n 0, 1) := by decide +kernel
theorem dX7_allPieces_1 : decode cX7_allPieces 1 = .ok (.iconst 0, 1) := by decide +kernel
theorem dX7_allPieces_2 : decode cX7_allPieces 2 = .ok (.invokevirtual 204, 3) := by decide +kernel
theorem dX7_allPieces_5 : decode cX7_allPieces 5 = .ok (.aload_n 0, 1) := by decide +kernel
theorem dX7_allPieces_6 : decode cX7_allPieces 6 = .ok (.iconst 1, 1) := by decide +kernel
theorem dX7_allPieces_7 : decode cX7_allPieces 7 = .ok (.invokevirtual 204, 3) := by decide +kernel
theorem dX7_allPieces_10 : decode cX7_allPieces 10 = .ok (.iadd, 1) := by decide +kernel
theorem dX7_allPieces_11 : decode cX7_allPieces 11 = .ok (.aload_n 0, 1) := by decide +kernel
theorem dX7_allPieces_12 : decode cX7_allPieces 12 = .ok (.iconst 2, 1) := by decide +kernel
theorem dX7_allPieces_13 : decode cX7_allPieces 13 = .ok (.invokevirtual 204, 3) := by decide +kernel
theorem dX7_allPieces_16 : decode cX7_allPieces 16 = .ok (.iadd, 1) := by decide +kernel
theorem dX7_allPieces_17 : decode cX7_allPieces 17 = .ok (.aload_n 0, 1) := by decide +kernel
theorem dX7_allPieces_18 : decode cX7_allPieces 18 = .ok (.iconst 3, 1) := by decide +kernel
theorem dX7_allPieces_19 : decode cX7_allPieces 19 = .ok (.invokevirtual 204, 3) := by decide +kernel
theorem dX7_allPieces_22 : decode cX7_allPieces 22 = .ok (.iadd, 1) := by decide +kernel
theorem dX7_allPieces_23 : decode cX7_allPieces 23 = .ok (.ireturn, 1) := by decide +kernel
theorem dX7_ownerless_0 : decode cX7_ownerless 0 = .ok (.iconst 0, 1) := by decide +kernel
theorem dX7_ownerless_1 : decode cX7_ownerless 1 = .ok (.istore_n 2, 1) := by decide +kernel
theorem dX7_ownerless_2 : decode cX7_ownerless 2 = .ok (.iconst 0, 1) := by decide +kernel
theorem dX7_ownerless_3 : decode cX7_ownerless 3 = .ok (.istore_n 3, 1) := by decide +kernel
theorem dX7_ownerless_4 : decode cX7_ownerless 4 = .ok (.iload_n 3, 1) := by decide +kernel
theorem dX7_ownerless_5 : decode cX7_ownerless 5 = .ok (.bipush 60, 2) := by decide +kernel
theorem dX7_ownerless_7 : decode cX7_ownerless 7 = .ok (.if_icmp .ge 67, 3) := by decide +kernel
theorem dX7_ownerless_10 : decode cX7_ownerless 10 = .ok (.aload_n 0, 1) := by decide +kernel
theorem dX7_ownerless_11 : decode cX7_ownerless 11 = .ok (.iload_n 3, 1) := by decide +kernel
theorem dX7_ownerless_12 : decode cX7_ownerless 12 = .ok (.invokevirtual 82, 3) := by decide +kernel
theorem dX7_ownerless_15 : decode cX7_ownerless 15 = .ok (.ifCond .eq 20, 3) := by decide +kernel
theorem dX7_ownerless_18 : decode cX7_ownerless 18 = .ok (.aload_n 0, 1) := by decide +kernel
theorem dX7_ownerless_19 : decode cX7_ownerless 19 = .ok (.getfield 7, 3) := by decide +kernel
theorem dX7_ownerless_22 : decode cX7_ownerless 22 = .ok (.sipush 551, 3) := by decide +kernel
theorem dX7_ownerless_25 : decode cX7_ownerless 25 = .ok (.iload_n 3, 1) := by decide +kernel
theorem dX7_ownerless_26 : decode cX7_ownerless 26 = .ok (.iadd, 1) := by decide +kernel
theorem dX7_ownerless_27 : decode cX7_ownerless 27 = .ok (.iaload, 1) := by decide +kernel
theorem dX7_ownerless_28 : decode cX7_ownerless 28 = .ok (.ifCond .ne 7, 3) := by decide +kernel
theorem dX7_ownerless_31 : decode cX7_ownerless 31 = .ok (.iconst 1, 1) := by decide +kernel
theorem dX7_ownerless_32 : decode cX7_ownerless 32 = .ok (.goto 4, 3) := by decide +kernel
theorem dX7_ownerless_35 : decode cX7_ownerless 35 = .ok (.iconst 0, 1) := by decide +kernel
theorem dX7_ownerless_36 : decode cX7_ownerless 36 = .ok (.istore 4, 2) := by decide +kernel
theorem dX7_ownerless_38 : decode cX7_ownerless 38 = .ok (.iload_n 2, 1) := by decide +kernel
theorem dX7_ownerless_39 : decode cX7_ownerless 39 = .ok (.iload 4, 2) := by decide +kernel
theorem dX7_ownerless_41 : decode cX7_ownerless 41 = .ok (.ifCond .eq 24, 3) := by decide +kernel
theorem dX7_ownerless_44 : decode cX7_ownerless 44 = .ok (.iload_n 1, 1) := by decide +kernel
theorem dX7_ownerless_45 : decode cX7_ownerless 45 = .ok (.ifCond .eq 16, 3) := by decide +kernel
theorem dX7_ownerless_48 : decode cX7_ownerless 48 = .ok (.aload_n 0, 1) := by decide +kernel
theorem dX7_ownerless_49 : decode cX7_ownerless 49 = .ok (.getfield 7, 3) := by decide +kernel
theorem dX7_ownerless_52 : decode cX7_ownerless 52 = .ok (.sipush 491, 3) := by decide +kernel
theorem dX7_ownerless_55 : decode cX7_ownerless 55 = .ok (.iload_n 3, 1) := by decide +kernel
theorem dX7_ownerless_56 : decode cX7_ownerless 56 = .ok (.iadd, 1) := by decide +kernel
theorem dX7_ownerless_57 : decode cX7_ownerless 57 = .ok (.iaload, 1) := by decide +kernel
theorem dX7_ownerless_58 : decode cX7_ownerless 58 = .ok (.goto 8, 3) := by decide +kernel
theorem dX7_ownerless_61 : decode cX7_ownerless 61 = .ok (.iconst 1, 1) := by decide +kernel
theorem dX7_ownerless_62 : decode cX7_ownerless 62 = .ok (.goto 4, 3) := by decide +kernel
theorem dX7_ownerless_65 : decode cX7_ownerless 65 = .ok (.iconst 0, 1) := by decide +kernel
theorem dX7_ownerless_66 : decode cX7_ownerless 66 = .ok (.iadd, 1) := by decide +kernel
theorem dX7_ownerless_67 : decode cX7_ownerless 67 = .ok (.istore_n 2, 1) := by decide +kernel
theorem dX7_ownerless_68 : decode cX7_ownerless 68 = .ok (.iinc 3 1, 3) := by decide +kernel
theorem dX7_ownerless_71 : decode cX7_ownerless 71 = .ok (.goto (-67), 3) := by decide +kernel
theorem dX7_ownerless_74 : decode cX7_ownerless 74 = .ok (.iload_n 2, 1) := by decide +kernel
theorem dX7_ownerless_75 : decode cX7_ownerless 75 = .ok (.ireturn, 1) := by decide +kernel
theorem dX7_mostOwners_0 : decode cX7_mostOwners 0 = .ok (.iconst 0, 1) := by decide +kernel
theorem dX7_mostOwners_1 : decode cX7_mostOwners 1 = .ok (.istore_n 1, 1) := by decide +kernel
theorem dX7_mostOwners_2 : decode cX7_mostOwners 2 = .ok (.iconst 0, 1) := by decide +kernel
theorem dX7_mostOwners_3 : decode cX7_mostOwners 3 = .ok (.istore_n 2, 1) := by decide +kernel
theorem dX7_mostOwners_4 : decode cX7_mostOwners 4 = .ok (.iload_n 2, 1) := by decide +kernel
theorem dX7_mostOwners_5 : decode cX7_mostOwners 5 = .ok (.bipush 60, 2) := by decide +kernel
theorem dX7_mostOwners_7 : decode cX7_mostOwners 7 = .ok (.if_icmp .ge 38, 3) := by decide +kernel
theorem dX7_mostOwners_10 : decode cX7_mostOwners 10 = .ok (.aload_n 0, 1) := by decide +kernel
theorem dX7_mostOwners_11 : decode cX7_mostOwners 11 = .ok (.getfield 7, 3) := by decide +kernel
theorem dX7_mostOwners_14 : decode cX7_mostOwners 14 = .ok (.sipush 551, 3) := by decide +kernel
theorem dX7_mostOwners_17 : decode cX7_mostOwners 17 = .ok (.iload_n 2, 1) := by decide +kernel
theorem dX7_mostOwners_18 : decode cX7_mostOwners 18 = .ok (.iadd, 1) := by decide +kernel
theorem dX7_mostOwners_19 : decode cX7_mostOwners 19 = .ok (.iaload, 1) := by decide +kernel
theorem dX7_mostOwners_20 : decode cX7_mostOwners 20 = .ok (.iload_n 1, 1) := by decide +kernel
theorem dX7_mostOwners_21 : decode cX7_mostOwners 21 = .ok (.if_icmp .le 16, 3) := by decide +kernel
theorem dX7_mostOwners_24 : decode cX7_mostOwners 24 = .ok (.aload_n 0, 1) := by decide +kernel
theorem dX7_mostOwners_25 : decode cX7_mostOwners 25 = .ok (.getfield 7, 3) := by decide +kernel
theorem dX7_mostOwners_28 : decode cX7_mostOwners 28 = .ok (.sipush 551, 3) := by decide +kernel
theorem dX7_mostOwners_31 : decode cX7_mostOwners 31 = .ok (.iload_n 2, 1) := by decide +kernel
theorem dX7_mostOwners_32 : decode cX7_mostOwners 32 = .ok (.iadd, 1) := by decide +kernel
theorem dX7_mostOwners_33 : decode cX7_mostOwners 33 = .ok (.iaload, 1) := by decide +kernel
theorem dX7_mostOwners_34 : decode cX7_mostOwners 34 = .ok (.goto 4, 3) := by decide +kernel
theorem dX7_mostOwners_37 : decode cX7_mostOwners 37 = .ok (.iload_n 1, 1) := by decide +kernel
theorem dX7_mostOwners_38 : decode cX7_mostOwners 38 = .ok (.istore_n 1, 1) := by decide +kernel
theorem dX7_mostOwners_39 : decode cX7_mostOwners 39 = .ok (.iinc 2 1, 3) := by decide +kernel
theorem dX7_mostOwners_42 : decode cX7_mostOwners 42 = .ok (.goto (-38), 3) := by decide +kernel
theorem dX7_mostOwners_45 : decode cX7_mostOwners 45 = .ok (.iload_n 1, 1) := by decide +kernel
theorem dX7_mostOwners_46 : decode cX7_mostOwners 46 = .ok (.ireturn, 1) := by decide +kernel
theorem dX7_counted_0 : decode cX7_counted 0 = .ok (.iload_n 1, 1) := by decide +kernel
theorem dX7_counted_1 : decode cX7_counted 1 = .ok (.tableswitch 109 0 8 #[51, 56, 61, 69, 74, 74, 89, 94, 101], 51) := by decide +kernel
theorem dX7_counted_52 : decode cX7_counted 52 = .ok (.aload_n 0, 1) := by decide +kernel
theorem dX7_counted_53 : decode cX7_counted 53 = .ok (.invokevirtual 254, 3) := by decide +kernel
theorem dX7_counted_56 : decode cX7_counted 56 = .ok (.ireturn, 1) := by decide +kernel
theorem dX7_counted_57 : decode cX7_counted 57 = .ok (.aload_n 0, 1) := by decide +kernel
theorem dX7_counted_58 : decode cX7_counted 58 = .ok (.invokevirtual 257, 3) := by decide +kernel
theorem dX7_counted_61 : decode cX7_counted 61 = .ok (.ireturn, 1) := by decide +kernel
theorem dX7_counted_62 : decode cX7_counted 62 = .ok (.bipush 60, 2) := by decide +kernel
theorem dX7_counted_64 : decode cX7_counted 64 = .ok (.aload_n 0, 1) := by decide +kernel
theorem dX7_counted_65 : decode cX7_counted 65 = .ok (.invokevirtual 108, 3) := by decide +kernel
theorem dX7_counted_68 : decode cX7_counted 68 = .ok (.isub, 1) := by decide +kernel
theorem dX7_counted_69 : decode cX7_counted 69 = .ok (.ireturn, 1) := by decide +kernel
theorem dX7_counted_70 : decode cX7_counted 70 = .ok (.aload_n 0, 1) := by decide +kernel
theorem dX7_counted_71 : decode cX7_counted 71 = .ok (.invokevirtual 112, 3) := by decide +kernel
theorem dX7_counted_74 : decode cX7_counted 74 = .ok (.ireturn, 1) := by decide +kernel
theorem dX7_counted_75 : decode cX7_counted 75 = .ok (.aload_n 0, 1) := by decide +kernel
theorem dX7_counted_76 : decode cX7_counted 76 = .ok (.iload_n 1, 1) := by decide +kernel
theorem dX7_counted_77 : decode cX7_counted 77 = .ok (.iconst 5, 1) := by decide +kernel
theorem dX7_counted_78 : decode cX7_counted 78 = .ok (.if_icmp .ne 7, 3) := by decide +kernel
theorem dX7_counted_81 : decode cX7_counted 81 = .ok (.iconst 1, 1) := by decide +kernel
theorem dX7_counted_82 : decode cX7_counted 82 = .ok (.goto 4, 3) := by decide +kernel
theorem dX7_counted_85 : decode cX7_counted 85 = .ok (.iconst 0, 1) := by decide +kernel
theorem dX7_counted_86 : decode cX7_counted 86 = .ok (.invokevirtual 260, 3) := by decide +kernel
theorem dX7_counted_89 : decode cX7_counted 89 = .ok (.ireturn, 1) := by decide +kernel
theorem dX7_counted_90 : decode cX7_counted 90 = .ok (.aload_n 0, 1) := by decide +kernel
theorem dX7_counted_91 : decode cX7_counted 91 = .ok (.invokevirtual 263, 3) := by decide +kernel
theorem dX7_counted_94 : decode cX7_counted 94 = .ok (.ireturn, 1) := by decide +kernel
theorem dX7_counted_95 : decode cX7_counted 95 = .ok (.aload_n 0, 1) := by decide +kernel
theorem dX7_counted_96 : decode cX7_counted 96 = .ok (.getfield 7, 3) := by decide +kernel
theorem dX7_counted_99 : decode cX7_counted 99 = .ok (.iconst 5, 1) := by decide +kernel
theorem dX7_counted_100 : decode cX7_counted 100 = .ok (.iaload, 1) := by decide +kernel
theorem dX7_counted_101 : decode cX7_counted 101 = .ok (.ireturn, 1) := by decide +kernel
theorem dX7_counted_102 : decode cX7_counted 102 = .ok (.aload_n 0, 1) := by decide +kernel
theorem dX7_counted_103 : decode cX7_counted 103 = .ok (.getfield 7, 3) := by decide +kernel
theorem dX7_counted_106 : decode cX7_counted 106 = .ok (.bipush 6, 2) := by decide +kernel
theorem dX7_counted_108 : decode cX7_counted 108 = .ok (.iaload, 1) := by decide +kernel
theorem dX7_counted_109 : decode cX7_counted 109 = .ok (.ireturn, 1) := by decide +kernel
theorem dX7_counted_110 : decode cX7_counted 110 = .ok (.aload_n 0, 1) := by decide +kernel
theorem dX7_counted_111 : decode cX7_counted 111 = .ok (.getfield 51, 3) := by decide +kernel
theorem dX7_counted_114 : decode cX7_counted 114 = .ok (.ireturn, 1) := by decide +kernel
theorem dX7_count_0 : decode cX7_count 0 = .ok (.aload_n 0, 1) := by decide +kernel
theorem dX7_count_1 : decode cX7_count 1 = .ok (.iload_n 1, 1) := by decide +kernel
theorem dX7_count_2 : decode cX7_count 2 = .ok (.iconst 0, 1) := by decide +kernel
theorem dX7_count_3 : decode cX7_count 3 = .ok (.bipush 9, 2) := by decide +kernel
theorem dX7_count_5 : decode cX7_count 5 = .ok (.invokestatic 54, 3) := by decide +kernel
theorem dX7_count_8 : decode cX7_count 8 = .ok (.ifCond .eq 7, 3) := by decide +kernel
theorem dX7_count_11 : decode cX7_count 11 = .ok (.iconst 0, 1) := by decide +kernel
theorem dX7_count_12 : decode cX7_count 12 = .ok (.goto 4, 3) := by decide +kernel
theorem dX7_count_15 : decode cX7_count 15 = .ok (.iconst 1, 1) := by decide +kernel
theorem dX7_count_16 : decode cX7_count 16 = .ok (.putfield 47, 3) := by decide +kernel
theorem dX7_count_19 : decode cX7_count 19 = .ok (.aload_n 0, 1) := by decide +kernel
theorem dX7_count_20 : decode cX7_count 20 = .ok (.getfield 47, 3) := by decide +kernel
theorem dX7_count_23 : decode cX7_count 23 = .ok (.ifCond .le 7, 3) := by decide +kernel
theorem dX7_count_26 : decode cX7_count 26 = .ok (.iconst 0, 1) := by decide +kernel
theorem dX7_count_27 : decode cX7_count 27 = .ok (.goto 8, 3) := by decide +kernel
theorem dX7_count_30 : decode cX7_count 30 = .ok (.aload_n 0, 1) := by decide +kernel
theorem dX7_count_31 : decode cX7_count 31 = .ok (.iload_n 1, 1) := by decide +kernel
theorem dX7_count_32 : decode cX7_count 32 = .ok (.invokevirtual 266, 3) := by decide +kernel
theorem dX7_count_35 : decode cX7_count 35 = .ok (.ireturn, 1) := by decide +kernel
theorem dX7_setting_0 : decode cX7_setting 0 = .ok (.aload_n 0, 1) := by decide +kernel
theorem dX7_setting_1 : decode cX7_setting 1 = .ok (.iload_n 1, 1) := by decide +kernel
theorem dX7_setting_2 : decode cX7_setting 2 = .ok (.invokestatic 188, 3) := by decide +kernel
theorem dX7_setting_5 : decode cX7_setting 5 = .ok (.ifCond .eq 7, 3) := by decide +kernel
theorem dX7_setting_8 : decode cX7_setting 8 = .ok (.iconst 0, 1) := by decide +kernel
theorem dX7_setting_9 : decode cX7_setting 9 = .ok (.goto 4, 3) := by decide +kernel
theorem dX7_setting_12 : decode cX7_setting 12 = .ok (.iconst 1, 1) := by decide +kernel
theorem dX7_setting_13 : decode cX7_setting 13 = .ok (.putfield 47, 3) := by decide +kernel
theorem dX7_setting_16 : decode cX7_setting 16 = .ok (.aload_n 0, 1) := by decide +kernel
theorem dX7_setting_17 : decode cX7_setting 17 = .ok (.getfield 47, 3) := by decide +kernel
theorem dX7_setting_20 : decode cX7_setting 20 = .ok (.ifCond .le 7, 3) := by decide +kernel
theorem dX7_setting_23 : decode cX7_setting 23 = .ok (.iconst 0, 1) := by decide +kernel
theorem dX7_setting_24 : decode cX7_setting 24 = .ok (.goto 9, 3) := by decide +kernel
theorem dX7_setting_27 : decode cX7_setting 27 = .ok (.aload_n 0, 1) := by decide +kernel
theorem dX7_setting_28 : decode cX7_setting 28 = .ok (.getfield 7, 3) := by decide +kernel
theorem dX7_setting_31 : decode cX7_setting 31 = .ok (.iload_n 1, 1) := by decide +kernel
theorem dX7_setting_32 : decode cX7_setting 32 = .ok (.iaload, 1) := by decide +kernel
theorem dX7_setting_33 : decode cX7_setting 33 = .ok (.ireturn, 1) := by decide +kernel
theorem dX7_putThen_0 : decode cX7_putThen 0 = .ok (.aload_n 0, 1) := by decide +kernel
theorem dX7_putThen_1 : decode cX7_putThen 1 = .ok (.invokevirtual 160, 3) := by decide +kernel
theorem dX7_putThen_4 : decode cX7_putThen 4 = .ok (.ifCond .ne 5, 3) := by decide +kernel
theorem dX7_putThen_7 : decode cX7_putThen 7 = .ok (.iconst (-1), 1) := by decide +kernel
theorem dX7_putThen_8 : decode cX7_putThen 8 = .ok (.ireturn, 1) := by decide +kernel
theorem dX7_putThen_9 : decode cX7_putThen 9 = .ok (.aload_n 0, 1) := by decide +kernel
theorem dX7_putThen_10 : decode cX7_putThen 10 = .ok (.invokevirtual 163, 3) := by decide +kernel
theorem dX7_putThen_13 : decode cX7_putThen 13 = .ok (.iload_n 2, 1) := by decide +kernel
theorem dX7_putThen_14 : decode cX7_putThen 14 = .ok (.tableswitch 46 0 2 #[26, 31, 31], 26) := by decide +kernel
theorem dX7_putThen_40 : decode cX7_putThen 40 = .ok (.aload_n 0, 1) := by decide +kernel
theorem dX7_putThen_41 : decode cX7_putThen 41 = .ok (.getfield 72, 3) := by decide +kernel
theorem dX7_putThen_44 : decode cX7_putThen 44 = .ok (.ireturn, 1) := by decide +kernel
theorem dX7_putThen_45 : decode cX7_putThen 45 = .ok (.aload_n 0, 1) := by decide +kernel
theorem dX7_putThen_46 : decode cX7_putThen 46 = .ok (.iload_n 2, 1) := by decide +kernel
theorem dX7_putThen_47 : decode cX7_putThen 47 = .ok (.iconst 2, 1) := by decide +kernel
theorem dX7_putThen_48 : decode cX7_putThen 48 = .ok (.if_icmp .ne 7, 3) := by decide +kernel
theorem dX7_putThen_51 : decode cX7_putThen 51 = .ok (.iconst 1, 1) := by decide +kernel
theorem dX7_putThen_52 : decode cX7_putThen 52 = .ok (.goto 4, 3) := by decide +kernel
theorem dX7_putThen_55 : decode cX7_putThen 55 = .ok (.iconst 0, 1) := by decide +kernel
theorem dX7_putThen_56 : decode cX7_putThen 56 = .ok (.invokevirtual 104, 3) := by decide +kernel
theorem dX7_putThen_59 : decode cX7_putThen 59 = .ok (.ireturn, 1) := by decide +kernel
theorem dX7_putThen_60 : decode cX7_putThen 60 = .ok (.aload_n 0, 1) := by decide +kernel
theorem dX7_putThen_61 : decode cX7_putThen 61 = .ok (.iload_n 1, 1) := by decide +kernel
theorem dX7_putThen_62 : decode cX7_putThen 62 = .ok (.invokevirtual 166, 3) := by decide +kernel
theorem dX7_putThen_65 : decode cX7_putThen 65 = .ok (.ifCond .eq 7, 3) := by decide +kernel
theorem dX7_putThen_68 : decode cX7_putThen 68 = .ok (.iconst 1, 1) := by decide +kernel
theorem dX7_putThen_69 : decode cX7_putThen 69 = .ok (.goto 4, 3) := by decide +kernel
theorem dX7_putThen_72 : decode cX7_putThen 72 = .ok (.iconst 0, 1) := by decide +kernel
theorem dX7_putThen_73 : decode cX7_putThen 73 = .ok (.ireturn, 1) := by decide +kernel
theorem dX7_ifPut_0 : decode cX7_ifPut 0 = .ok (.aload_n 0, 1) := by decide +kernel
theorem dX7_ifPut_1 : decode cX7_ifPut 1 = .ok (.iload_n 1, 1) := by decide +kernel
theorem dX7_ifPut_2 : decode cX7_ifPut 2 = .ok (.invokestatic 157, 3) := by decide +kernel
theorem dX7_ifPut_5 : decode cX7_ifPut 5 = .ok (.ifCond .ne 7, 3) := by decide +kernel
theorem dX7_ifPut_8 : decode cX7_ifPut 8 = .ok (.iconst 1, 1) := by decide +kernel
theorem dX7_ifPut_9 : decode cX7_ifPut 9 = .ok (.goto 17, 3) := by decide +kernel
theorem dX7_ifPut_12 : decode cX7_ifPut 12 = .ok (.iload_n 2, 1) := by decide +kernel
theorem dX7_ifPut_13 : decode cX7_ifPut 13 = .ok (.iconst 0, 1) := by decide +kernel
theorem dX7_ifPut_14 : decode cX7_ifPut 14 = .ok (.iconst 3, 1) := by decide +kernel
theorem dX7_ifPut_15 : decode cX7_ifPut 15 = .ok (.invokestatic 54, 3) := by decide +kernel
theorem dX7_ifPut_18 : decode cX7_ifPut 18 = .ok (.ifCond .eq 7, 3) := by decide +kernel
theorem dX7_ifPut_21 : decode cX7_ifPut 21 = .ok (.iconst 0, 1) := by decide +kernel
theorem dX7_ifPut_22 : decode cX7_ifPut 22 = .ok (.goto 4, 3) := by decide +kernel
theorem dX7_ifPut_25 : decode cX7_ifPut 25 = .ok (.iconst 2, 1) := by decide +kernel
theorem dX7_ifPut_26 : decode cX7_ifPut 26 = .ok (.putfield 47, 3) := by decide +kernel
theorem dX7_ifPut_29 : decode cX7_ifPut 29 = .ok (.aload_n 0, 1) := by decide +kernel
theorem dX7_ifPut_30 : decode cX7_ifPut 30 = .ok (.getfield 47, 3) := by decide +kernel
theorem dX7_ifPut_33 : decode cX7_ifPut 33 = .ok (.ifCond .le 7, 3) := by decide +kernel
theorem dX7_ifPut_36 : decode cX7_ifPut 36 = .ok (.iconst 0, 1) := by decide +kernel
theorem dX7_ifPut_37 : decode cX7_ifPut 37 = .ok (.goto 9, 3) := by decide +kernel
theorem dX7_ifPut_40 : decode cX7_ifPut 40 = .ok (.aload_n 0, 1) := by decide +kernel
theorem dX7_ifPut_41 : decode cX7_ifPut 41 = .ok (.iload_n 1, 1) := by decide +kernel
theorem dX7_ifPut_42 : decode cX7_ifPut 42 = .ok (.iload_n 2, 1) := by decide +kernel
theorem dX7_ifPut_43 : decode cX7_ifPut 43 = .ok (.invokevirtual 269, 3) := by decide +kernel
theorem dX7_ifPut_46 : decode cX7_ifPut 46 = .ok (.ireturn, 1) := by decide +kernel
theorem dX7_setThen_0 : decode cX7_setThen 0 = .ok (.aload_n 0, 1) := by decide +kernel
theorem dX7_setThen_1 : decode cX7_setThen 1 = .ok (.getfield 7, 3) := by decide +kernel
theorem dX7_setThen_4 : decode cX7_setThen 4 = .ok (.iload_n 2, 1) := by decide +kernel
theorem dX7_setThen_5 : decode cX7_setThen 5 = .ok (.iaload, 1) := by decide +kernel
theorem dX7_setThen_6 : decode cX7_setThen 6 = .ok (.istore 4, 2) := by decide +kernel
theorem dX7_setThen_8 : decode cX7_setThen 8 = .ok (.aload_n 0, 1) := by decide +kernel
theorem dX7_setThen_9 : decode cX7_setThen 9 = .ok (.getfield 7, 3) := by decide +kernel
theorem dX7_setThen_12 : decode cX7_setThen 12 = .ok (.iload_n 2, 1) := by decide +kernel
theorem dX7_setThen_13 : decode cX7_setThen 13 = .ok (.iload_n 3, 1) := by decide +kernel
theorem dX7_setThen_14 : decode cX7_setThen 14 = .ok (.iastore, 1) := by decide +kernel
theorem dX7_setThen_15 : decode cX7_setThen 15 = .ok (.aload_n 0, 1) := by decide +kernel
theorem dX7_setThen_16 : decode cX7_setThen 16 = .ok (.iload_n 1, 1) := by decide +kernel
theorem dX7_setThen_17 : decode cX7_setThen 17 = .ok (.invokevirtual 175, 3) := by decide +kernel
theorem dX7_setThen_20 : decode cX7_setThen 20 = .ok (.aload_n 0, 1) := by decide +kernel
theorem dX7_setThen_21 : decode cX7_setThen 21 = .ok (.invokevirtual 154, 3) := by decide +kernel
theorem dX7_setThen_24 : decode cX7_setThen 24 = .ok (.aload_n 0, 1) := by decide +kernel
theorem dX7_setThen_25 : decode cX7_setThen 25 = .ok (.getfield 7, 3) := by decide +kernel
theorem dX7_setThen_28 : decode cX7_setThen 28 = .ok (.iload_n 2, 1) := by decide +kernel
theorem dX7_setThen_29 : decode cX7_setThen 29 = .ok (.iload 4, 2) := by decide +kernel
theorem dX7_setThen_31 : decode cX7_setThen 31 = .ok (.iastore, 1) := by decide +kernel
theorem dX7_setThen_32 : decode cX7_setThen 32 = .ok (.aload_n 0, 1) := by decide +kernel
theorem dX7_setThen_33 : decode cX7_setThen 33 = .ok (.getfield 72, 3) := by decide +kernel
theorem dX7_setThen_36 : decode cX7_setThen 36 = .ok (.ireturn, 1) := by decide +kernel
theorem dX7_ifSet_0 : decode cX7_ifSet 0 = .ok (.aload_n 0, 1) := by decide +kernel
theorem dX7_ifSet_1 : decode cX7_ifSet 1 = .ok (.iload_n 1, 1) := by decide +kernel
theorem dX7_ifSet_2 : decode cX7_ifSet 2 = .ok (.invokestatic 157, 3) := by decide +kernel
theorem dX7_ifSet_5 : decode cX7_ifSet 5 = .ok (.ifCond .eq 10, 3) := by decide +kernel
theorem dX7_ifSet_8 : decode cX7_ifSet 8 = .ok (.iload_n 2, 1) := by decide +kernel
theorem dX7_ifSet_9 : decode cX7_ifSet 9 = .ok (.invokestatic 188, 3) := by decide +kernel
theorem dX7_ifSet_12 : decode cX7_ifSet 12 = .ok (.ifCond .ne 7, 3) := by decide +kernel
theorem dX7_ifSet_15 : decode cX7_ifSet 15 = .ok (.iconst 1, 1) := by decide +kernel
theorem dX7_ifSet_16 : decode cX7_ifSet 16 = .ok (.goto 16, 3) := by decide +kernel
theorem dX7_ifSet_19 : decode cX7_ifSet 19 = .ok (.iload_n 2, 1) := by decide +kernel
theorem dX7_ifSet_20 : decode cX7_ifSet 20 = .ok (.iload_n 3, 1) := by decide +kernel
theorem dX7_ifSet_21 : decode cX7_ifSet 21 = .ok (.invokestatic 191, 3) := by decide +kernel
theorem dX7_ifSet_24 : decode cX7_ifSet 24 = .ok (.ifCond .eq 7, 3) := by decide +kernel
theorem dX7_ifSet_27 : decode cX7_ifSet 27 = .ok (.iconst 0, 1) := by decide +kernel
theorem dX7_ifSet_28 : decode cX7_ifSet 28 = .ok (.goto 4, 3) := by decide +kernel
theorem dX7_ifSet_31 : decode cX7_ifSet 31 = .ok (.iconst 2, 1) := by decide +kernel
theorem dX7_ifSet_32 : decode cX7_ifSet 32 = .ok (.putfield 47, 3) := by decide +kernel
theorem dX7_ifSet_35 : decode cX7_ifSet 35 = .ok (.aload_n 0, 1) := by decide +kernel
theorem dX7_ifSet_36 : decode cX7_ifSet 36 = .ok (.getfield 47, 3) := by decide +kernel
theorem dX7_ifSet_39 : decode cX7_ifSet 39 = .ok (.ifCond .le 7, 3) := by decide +kernel
theorem dX7_ifSet_42 : decode cX7_ifSet 42 = .ok (.iconst 0, 1) := by decide +kernel
theorem dX7_ifSet_43 : decode cX7_ifSet 43 = .ok (.goto 10, 3) := by decide +kernel
theorem dX7_ifSet_46 : decode cX7_ifSet 46 = .ok (.aload_n 0, 1) := by decide +kernel
theorem dX7_ifSet_47 : decode cX7_ifSet 47 = .ok (.iload_n 1, 1) := by decide +kernel
theorem dX7_ifSet_48 : decode cX7_ifSet 48 = .ok (.iload_n 2, 1) := by decide +kernel
theorem dX7_ifSet_49 : decode cX7_ifSet 49 = .ok (.iload_n 3, 1) := by decide +kernel
theorem dX7_ifSet_50 : decode cX7_ifSet 50 = .ok (.invokevirtual 272, 3) := by decide +kernel
theorem dX7_ifSet_53 : decode cX7_ifSet 53 = .ok (.ireturn, 1) := by decide +kernel
theorem dX7_addUnlike_0 : decode cX7_addUnlike 0 = .ok (.iconst 0, 1) := by decide +kernel
theorem dX7_addUnlike_1 : decode cX7_addUnlike 1 = .ok (.istore_n 2, 1) := by decide +kernel
theorem dX7_addUnlike_2 : decode cX7_addUnlike 2 = .ok (.iload_n 2, 1) := by decide +kernel
theorem dX7_addUnlike_3 : decode cX7_addUnlike 3 = .ok (.aload_n 0, 1) := by decide +kernel
theorem dX7_addUnlike_4 : decode cX7_addUnlike 4 = .ok (.getfield 275, 3) := by decide +kernel
theorem dX7_addUnlike_7 : decode cX7_addUnlike 7 = .ok (.if_icmp .ge 42, 3) := by decide +kernel
theorem dX7_addUnlike_10 : decode cX7_addUnlike 10 = .ok (.aload_n 0, 1) := by decide +kernel
theorem dX7_addUnlike_11 : decode cX7_addUnlike 11 = .ok (.getfield 41, 3) := by decide +kernel
theorem dX7_addUnlike_14 : decode cX7_addUnlike 14 = .ok (.iload_n 2, 1) := by decide +kernel
theorem dX7_addUnlike_15 : decode cX7_addUnlike 15 = .ok (.laload, 1) := by decide +kernel
theorem dX7_addUnlike_16 : decode cX7_addUnlike 16 = .ok (.aload_n 0, 1) := by decide +kernel
theorem dX7_addUnlike_17 : decode cX7_addUnlike 17 = .ok (.getfield 29, 3) := by decide +kernel
theorem dX7_addUnlike_20 : decode cX7_addUnlike 20 = .ok (.iload_n 1, 1) := by decide +kernel
theorem dX7_addUnlike_21 : decode cX7_addUnlike 21 = .ok (.laload, 1) := by decide +kernel
theorem dX7_addUnlike_22 : decode cX7_addUnlike 22 = .ok (.lcmp, 1) := by decide +kernel
theorem dX7_addUnlike_23 : decode cX7_addUnlike 23 = .ok (.ifCond .ne 20, 3) := by decide +kernel
theorem dX7_addUnlike_26 : decode cX7_addUnlike 26 = .ok (.aload_n 0, 1) := by decide +kernel
theorem dX7_addUnlike_27 : decode cX7_addUnlike 27 = .ok (.getfield 44, 3) := by decide +kernel
theorem dX7_addUnlike_30 : decode cX7_addUnlike 30 = .ok (.iload_n 2, 1) := by decide +kernel
theorem dX7_addUnlike_31 : decode cX7_addUnlike 31 = .ok (.iaload, 1) := by decide +kernel
theorem dX7_addUnlike_32 : decode cX7_addUnlike 32 = .ok (.aload_n 0, 1) := by decide +kernel
theorem dX7_addUnlike_33 : decode cX7_addUnlike 33 = .ok (.getfield 32, 3) := by decide +kernel
theorem dX7_addUnlike_36 : decode cX7_addUnlike 36 = .ok (.iload_n 1, 1) := by decide +kernel
theorem dX7_addUnlike_37 : decode cX7_addUnlike 37 = .ok (.iaload, 1) := by decide +kernel
theorem dX7_addUnlike_38 : decode cX7_addUnlike 38 = .ok (.if_icmp .ne 5, 3) := by decide +kernel
theorem dX7_addUnlike_41 : decode cX7_addUnlike 41 = .ok (.iconst 0, 1) := by decide +kernel
theorem dX7_addUnlike_42 : decode cX7_addUnlike 42 = .ok (.ireturn, 1) := by decide +kernel
theorem dX7_addUnlike_43 : decode cX7_addUnlike 43 = .ok (.iinc 2 1, 3) := by decide +kernel
theorem dX7_addUnlike_46 : decode cX7_addUnlike 46 = .ok (.goto (-44), 3) := by decide +kernel
theorem dX7_addUnlike_49 : decode cX7_addUnlike 49 = .ok (.aload_n 0, 1) := by decide +kernel
theorem dX7_addUnlike_50 : decode cX7_addUnlike 50 = .ok (.getfield 41, 3) := by decide +kernel
theorem dX7_addUnlike_53 : decode cX7_addUnlike 53 = .ok (.aload_n 0, 1) := by decide +kernel
theorem dX7_addUnlike_54 : decode cX7_addUnlike 54 = .ok (.getfield 275, 3) := by decide +kernel
theorem dX7_addUnlike_57 : decode cX7_addUnlike 57 = .ok (.aload_n 0, 1) := by decide +kernel
theorem dX7_addUnlike_58 : decode cX7_addUnlike 58 = .ok (.getfield 29, 3) := by decide +kernel
theorem dX7_addUnlike_61 : decode cX7_addUnlike 61 = .ok (.iload_n 1, 1) := by decide +kernel
theorem dX7_addUnlike_62 : decode cX7_addUnlike 62 = .ok (.laload, 1) := by decide +kernel
theorem dX7_addUnlike_63 : decode cX7_addUnlike 63 = .ok (.lastore, 1) := by decide +kernel
theorem dX7_addUnlike_64 : decode cX7_addUnlike 64 = .ok (.aload_n 0, 1) := by decide +kernel
theorem dX7_addUnlike_65 : decode cX7_addUnlike 65 = .ok (.getfield 44, 3) := by decide +kernel
theorem dX7_addUnlike_68 : decode cX7_addUnlike 68 = .ok (.aload_n 0, 1) := by decide +kernel
theorem dX7_addUnlike_69 : decode cX7_addUnlike 69 = .ok (.getfield 275, 3) := by decide +kernel
theorem dX7_addUnlike_72 : decode cX7_addUnlike 72 = .ok (.aload_n 0, 1) := by decide +kernel
theorem dX7_addUnlike_73 : decode cX7_addUnlike 73 = .ok (.getfield 32, 3) := by decide +kernel
theorem dX7_addUnlike_76 : decode cX7_addUnlike 76 = .ok (.iload_n 1, 1) := by decide +kernel
theorem dX7_addUnlike_77 : decode cX7_addUnlike 77 = .ok (.iaload, 1) := by decide +kernel
theorem dX7_addUnlike_78 : decode cX7_addUnlike 78 = .ok (.iastore, 1) := by decide +kernel
theorem dX7_addUnlike_79 : decode cX7_addUnlike 79 = .ok (.aload_n 0, 1) := by decide +kernel
theorem dX7_addUnlike_80 : decode cX7_addUnlike 80 = .ok (.dup, 1) := by decide +kernel
theorem dX7_addUnlike_81 : decode cX7_addUnlike 81 = .ok (.getfield 275, 3) := by decide +kernel
theorem dX7_addUnlike_84 : decode cX7_addUnlike 84 = .ok (.iconst 1, 1) := by decide +kernel
theorem dX7_addUnlike_85 : decode cX7_addUnlike 85 = .ok (.iadd, 1) := by decide +kernel
theorem dX7_addUnlike_86 : decode cX7_addUnlike 86 = .ok (.putfield 275, 3) := by decide +kernel
theorem dX7_addUnlike_89 : decode cX7_addUnlike 89 = .ok (.aload_n 0, 1) := by decide +kernel
theorem dX7_addUnlike_90 : decode cX7_addUnlike 90 = .ok (.getfield 32, 3) := by decide +kernel
theorem dX7_addUnlike_93 : decode cX7_addUnlike 93 = .ok (.iload_n 1, 1) := by decide +kernel
theorem dX7_addUnlike_94 : decode cX7_addUnlike 94 = .ok (.iaload, 1) := by decide +kernel
theorem dX7_addUnlike_95 : decode cX7_addUnlike 95 = .ok (.ireturn, 1) := by decide +kernel
theorem dX7_lengthsBy_0 : decode cX7_lengthsBy 0 = .ok (.aload_n 0, 1) := by decide +kernel
theorem dX7_lengthsBy_1 : decode cX7_lengthsBy 1 = .ok (.iconst 0, 1) := by decide +kernel
theorem dX7_lengthsBy_2 : decode cX7_lengthsBy 2 = .ok (.putfield 275, 3) := by decide +kernel
theorem dX7_lengthsBy_5 : decode cX7_lengthsBy 5 = .ok (.iconst 0, 1) := by decide +kernel
theorem dX7_lengthsBy_6 : decode cX7_lengthsBy 6 = .ok (.istore_n 2, 1) := by decide +kernel
theorem dX7_lengthsBy_7 : decode cX7_lengthsBy 7 = .ok (.iconst 0, 1) := by decide +kernel
theorem dX7_lengthsBy_8 : decode cX7_lengthsBy 8 = .ok (.istore_n 3, 1) := by decide +kernel
theorem dX7_lengthsBy_9 : decode cX7_lengthsBy 9 = .ok (.iload_n 3, 1) := by decide +kernel
theorem dX7_lengthsBy_10 : decode cX7_lengthsBy 10 = .ok (.iconst 4, 1) := by decide +kernel
theorem dX7_lengthsBy_11 : decode cX7_lengthsBy 11 = .ok (.if_icmp .ge 47, 3) := by decide +kernel
theorem dX7_lengthsBy_14 : decode cX7_lengthsBy 14 = .ok (.aload_n 0, 1) := by decide +kernel
theorem dX7_lengthsBy_15 : decode cX7_lengthsBy 15 = .ok (.iload_n 3, 1) := by decide +kernel
theorem dX7_lengthsBy_16 : decode cX7_lengthsBy 16 = .ok (.iconst 1, 1) := by decide +kernel
theorem dX7_lengthsBy_17 : decode cX7_lengthsBy 17 = .ok (.iload_n 1, 1) := by decide +kernel
theorem dX7_lengthsBy_18 : decode cX7_lengthsBy 18 = .ok (.invokevirtual 272, 3) := by decide +kernel
theorem dX7_lengthsBy_21 : decode cX7_lengthsBy 21 = .ok (.istore 4, 2) := by decide +kernel
theorem dX7_lengthsBy_23 : decode cX7_lengthsBy 23 = .ok (.iconst 0, 1) := by decide +kernel
theorem dX7_lengthsBy_24 : decode cX7_lengthsBy 24 = .ok (.istore 5, 2) := by decide +kernel
theorem dX7_lengthsBy_26 : decode cX7_lengthsBy 26 = .ok (.iload 5, 2) := by decide +kernel
theorem dX7_lengthsBy_28 : decode cX7_lengthsBy 28 = .ok (.iload 4, 2) := by decide +kernel
theorem dX7_lengthsBy_30 : decode cX7_lengthsBy 30 = .ok (.if_icmp .ge 22, 3) := by decide +kernel
theorem dX7_lengthsBy_33 : decode cX7_lengthsBy 33 = .ok (.aload_n 0, 1) := by decide +kernel
theorem dX7_lengthsBy_34 : decode cX7_lengthsBy 34 = .ok (.iload 5, 2) := by decide +kernel
theorem dX7_lengthsBy_36 : decode cX7_lengthsBy 36 = .ok (.invokevirtual 278, 3) := by decide +kernel
theorem dX7_lengthsBy_39 : decode cX7_lengthsBy 39 = .ok (.istore 6, 2) := by decide +kernel
theorem dX7_lengthsBy_41 : decode cX7_lengthsBy 41 = .ok (.iload_n 2, 1) := by decide +kernel
theorem dX7_lengthsBy_42 : decode cX7_lengthsBy 42 = .ok (.iload 6, 2) := by decide +kernel
theorem dX7_lengthsBy_44 : decode cX7_lengthsBy 44 = .ok (.iadd, 1) := by decide +kernel
theorem dX7_lengthsBy_45 : decode cX7_lengthsBy 45 = .ok (.istore_n 2, 1) := by decide +kernel
theorem dX7_lengthsBy_46 : decode cX7_lengthsBy 46 = .ok (.iinc 5 1, 3) := by decide +kernel
theorem dX7_lengthsBy_49 : decode cX7_lengthsBy 49 = .ok (.goto (-23), 3) := by decide +kernel
theorem dX7_lengthsBy_52 : decode cX7_lengthsBy 52 = .ok (.iinc 3 1, 3) := by decide +kernel
theorem dX7_lengthsBy_55 : decode cX7_lengthsBy 55 = .ok (.goto (-46), 3) := by decide +kernel
theorem dX7_lengthsBy_58 : decode cX7_lengthsBy 58 = .ok (.iload_n 2, 1) := by decide +kernel
theorem dX7_lengthsBy_59 : decode cX7_lengthsBy 59 = .ok (.ireturn, 1) := by decide +kernel
theorem dX7_bestNow_0 : decode cX7_bestNow 0 = .ok (.bipush 9, 2) := by decide +kernel
theorem dX7_bestNow_2 : decode cX7_bestNow 2 = .ok (.istore_n 1, 1) := by decide +kernel
theorem dX7_bestNow_3 : decode cX7_bestNow 3 = .ok (.aload_n 0, 1) := by decide +kernel
theorem dX7_bestNow_4 : decode cX7_bestNow 4 = .ok (.bipush 9, 2) := by decide +kernel
theorem dX7_bestNow_6 : decode cX7_bestNow 6 = .ok (.invokevirtual 281, 3) := by decide +kernel
theorem dX7_bestNow_9 : decode cX7_bestNow 9 = .ok (.istore_n 2, 1) := by decide +kernel
theorem dX7_bestNow_10 : decode cX7_bestNow 10 = .ok (.bipush 8, 2) := by decide +kernel
theorem dX7_bestNow_12 : decode cX7_bestNow 12 = .ok (.istore_n 3, 1) := by decide +kernel
theorem dX7_bestNow_13 : decode cX7_bestNow 13 = .ok (.iload_n 3, 1) := by decide +kernel
theorem dX7_bestNow_14 : decode cX7_bestNow 14 = .ok (.ifCond .le 41, 3) := by decide +kernel
theorem dX7_bestNow_17 : decode cX7_bestNow 17 = .ok (.aload_n 0, 1) := by decide +kernel
theorem dX7_bestNow_18 : decode cX7_bestNow 18 = .ok (.iload_n 3, 1) := by decide +kernel
theorem dX7_bestNow_19 : decode cX7_bestNow 19 = .ok (.invokevirtual 281, 3) := by decide +kernel
theorem dX7_bestNow_22 : decode cX7_bestNow 22 = .ok (.istore 4, 2) := by decide +kernel
theorem dX7_bestNow_24 : decode cX7_bestNow 24 = .ok (.iload 4, 2) := by decide +kernel
theorem dX7_bestNow_26 : decode cX7_bestNow 26 = .ok (.iload_n 2, 1) := by decide +kernel
theorem dX7_bestNow_27 : decode cX7_bestNow 27 = .ok (.if_icmp .ge 7, 3) := by decide +kernel
theorem dX7_bestNow_30 : decode cX7_bestNow 30 = .ok (.iload_n 3, 1) := by decide +kernel
theorem dX7_bestNow_31 : decode cX7_bestNow 31 = .ok (.goto 4, 3) := by decide +kernel
theorem dX7_bestNow_34 : decode cX7_bestNow 34 = .ok (.iload_n 1, 1) := by decide +kernel
theorem dX7_bestNow_35 : decode cX7_bestNow 35 = .ok (.istore_n 1, 1) := by decide +kernel
theorem dX7_bestNow_36 : decode cX7_bestNow 36 = .ok (.iload 4, 2) := by decide +kernel
theorem dX7_bestNow_38 : decode cX7_bestNow 38 = .ok (.iload_n 2, 1) := by decide +kernel
theorem dX7_bestNow_39 : decode cX7_bestNow 39 = .ok (.if_icmp .ge 8, 3) := by decide +kernel
theorem dX7_bestNow_42 : decode cX7_bestNow 42 = .ok (.iload 4, 2) := by decide +kernel
theorem dX7_bestNow_44 : decode cX7_bestNow 44 = .ok (.goto 4, 3) := by decide +kernel
theorem dX7_bestNow_47 : decode cX7_bestNow 47 = .ok (.iload_n 2, 1) := by decide +kernel
theorem dX7_bestNow_48 : decode cX7_bestNow 48 = .ok (.istore_n 2, 1) := by decide +kernel
theorem dX7_bestNow_49 : decode cX7_bestNow 49 = .ok (.iinc 3 (-1), 3) := by decide +kernel
theorem dX7_bestNow_52 : decode cX7_bestNow 52 = .ok (.goto (-39), 3) := by decide +kernel
theorem dX7_bestNow_55 : decode cX7_bestNow 55 = .ok (.iload_n 1, 1) := by decide +kernel
theorem dX7_bestNow_56 : decode cX7_bestNow 56 = .ok (.ireturn, 1) := by decide +kernel
theorem dX7_bestDivisor_0 : decode cX7_bestDivisor 0 = .ok (.aload_n 0, 1) := by decide +kernel
theorem dX7_bestDivisor_1 : decode cX7_bestDivisor 1 = .ok (.iconst 0, 1) := by decide +kernel
theorem dX7_bestDivisor_2 : decode cX7_bestDivisor 2 = .ok (.putfield 47, 3) := by decide +kernel
theorem dX7_bestDivisor_5 : decode cX7_bestDivisor 5 = .ok (.aload_n 0, 1) := by decide +kernel
theorem dX7_bestDivisor_6 : decode cX7_bestDivisor 6 = .ok (.invokevirtual 284, 3) := by decide +kernel
theorem dX7_bestDivisor_9 : decode cX7_bestDivisor 9 = .ok (.ireturn, 1) := by decide +kernel
theorem dX7_saved_0 : decode cX7_saved 0 = .ok (.aload_n 0, 1) := by decide +kernel
theorem dX7_saved_1 : decode cX7_saved 1 = .ok (.invokevirtual 254, 3) := by decide +kernel
theorem dX7_saved_4 : decode cX7_saved 4 = .ok (.istore_n 1, 1) := by decide +kernel
theorem dX7_saved_5 : decode cX7_saved 5 = .ok (.iload_n 1, 1) := by decide +kernel
theorem dX7_saved_6 : decode cX7_saved 6 = .ok (.ifCond .ne 7, 3) := by decide +kernel
theorem dX7_saved_9 : decode cX7_saved 9 = .ok (.dconst 0, 1) := by decide +kernel
theorem dX7_saved_10 : decode cX7_saved 10 = .ok (.goto 19, 3) := by decide +kernel
theorem dX7_saved_13 : decode cX7_saved 13 = .ok (.dconst 1, 1) := by decide +kernel
theorem dX7_saved_14 : decode cX7_saved 14 = .ok (.aload_n 0, 1) := by decide +kernel
theorem dX7_saved_15 : decode cX7_saved 15 = .ok (.invokevirtual 112, 3) := by decide +kernel
theorem dX7_saved_18 : decode cX7_saved 18 = .ok (.aload_n 0, 1) := by decide +kernel
theorem dX7_saved_19 : decode cX7_saved 19 = .ok (.iconst 1, 1) := by decide +kernel
theorem dX7_saved_20 : decode cX7_saved 20 = .ok (.invokevirtual 260, 3) := by decide +kernel
theorem dX7_saved_23 : decode cX7_saved 23 = .ok (.isub, 1) := by decide +kernel
theorem dX7_saved_24 : decode cX7_saved 24 = .ok (.i2d, 1) := by decide +kernel
theorem dX7_saved_25 : decode cX7_saved 25 = .ok (.iload_n 1, 1) := by decide +kernel
theorem dX7_saved_26 : decode cX7_saved 26 = .ok (.i2d, 1) := by decide +kernel
theorem dX7_saved_27 : decode cX7_saved 27 = .ok (.ddiv, 1) := by decide +kernel
theorem dX7_saved_28 : decode cX7_saved 28 = .ok (.dsub, 1) := by decide +kernel
theorem dX7_saved_29 : decode cX7_saved 29 = .ok (.dreturn, 1) := by decide +kernel
theorem dX7_savedShare_0 : decode cX7_savedShare 0 = .ok (.aload_n 0, 1) := by decide +kernel
theorem dX7_savedShare_1 : decode cX7_savedShare 1 = .ok (.iconst 0, 1) := by decide +kernel
theorem dX7_savedShare_2 : decode cX7_savedShare 2 = .ok (.putfield 47, 3) := by decide +kernel
theorem dX7_savedShare_5 : decode cX7_savedShare 5 = .ok (.aload_n 0, 1) := by decide +kernel
theorem dX7_savedShare_6 : decode cX7_savedShare 6 = .ok (.invokevirtual 287, 3) := by decide +kernel
theorem dX7_savedShare_9 : decode cX7_savedShare 9 = .ok (.dreturn, 1) := by decide +kernel
theorem dX7_mix_0 : decode cX7_mix 0 = .ok (.aload_n 0, 1) := by decide +kernel
theorem dX7_mix_1 : decode cX7_mix 1 = .ok (.ldc2_w 291, 3) := by decide +kernel
theorem dX7_mix_4 : decode cX7_mix 4 = .ok (.aload_n 0, 1) := by decide +kernel
theorem dX7_mix_5 : decode cX7_mix 5 = .ok (.getfield 293, 3) := by decide +kernel
theorem dX7_mix_8 : decode cX7_mix 8 = .ok (.lmul, 1) := by decide +kernel
theorem dX7_mix_9 : decode cX7_mix 9 = .ok (.lload_n 1, 1) := by decide +kernel
theorem dX7_mix_10 : decode cX7_mix 10 = .ok (.ladd, 1) := by decide +kernel
theorem dX7_mix_11 : decode cX7_mix 11 = .ok (.putfield 293, 3) := by decide +kernel
theorem dX7_mix_14 : decode cX7_mix 14 = .ok (.return_, 1) := by decide +kernel
theorem dX7_mixText_0 : decode cX7_mixText 0 = .ok (.iconst 0, 1) := by decide +kernel
theorem dX7_mixText_1 : decode cX7_mixText 1 = .ok (.istore_n 2, 1) := by decide +kernel
theorem dX7_mixText_2 : decode cX7_mixText 2 = .ok (.iload_n 2, 1) := by decide +kernel
theorem dX7_mixText_3 : decode cX7_mixText 3 = .ok (.bipush 6, 2) := by decide +kernel
theorem dX7_mixText_5 : decode cX7_mixText 5 = .ok (.if_icmp .ge 20, 3) := by decide +kernel
theorem dX7_mixText_8 : decode cX7_mixText 8 = .ok (.aload_n 0, 1) := by decide +kernel
theorem dX7_mixText_9 : decode cX7_mixText 9 = .ok (.aload_n 0, 1) := by decide +kernel
theorem dX7_mixText_10 : decode cX7_mixText 10 = .ok (.iload_n 1, 1) := by decide +kernel
theorem dX7_mixText_11 : decode cX7_mixText 11 = .ok (.iload_n 2, 1) := by decide +kernel
theorem dX7_mixText_12 : decode cX7_mixText 12 = .ok (.invokevirtual 239, 3) := by decide +kernel
theorem dX7_mixText_15 : decode cX7_mixText 15 = .ok (.i2l, 1) := by decide +kernel
theorem dX7_mixText_16 : decode cX7_mixText 16 = .ok (.invokevirtual 297, 3) := by decide +kernel
theorem dX7_mixText_19 : decode cX7_mixText 19 = .ok (.iinc 2 1, 3) := by decide +kernel
theorem dX7_mixText_22 : decode cX7_mixText 22 = .ok (.goto (-20), 3) := by decide +kernel
theorem dX7_mixText_25 : decode cX7_mixText 25 = .ok (.iconst 0, 1) := by decide +kernel
theorem dX7_mixText_26 : decode cX7_mixText 26 = .ok (.istore_n 2, 1) := by decide +kernel
theorem dX7_mixText_27 : decode cX7_mixText 27 = .ok (.iload_n 2, 1) := by decide +kernel
theorem dX7_mixText_28 : decode cX7_mixText 28 = .ok (.iconst 4, 1) := by decide +kernel
theorem dX7_mixText_29 : decode cX7_mixText 29 = .ok (.aload_n 0, 1) := by decide +kernel
theorem dX7_mixText_30 : decode cX7_mixText 30 = .ok (.iload_n 1, 1) := by decide +kernel
theorem dX7_mixText_31 : decode cX7_mixText 31 = .ok (.invokevirtual 58, 3) := by decide +kernel
theorem dX7_mixText_34 : decode cX7_mixText 34 = .ok (.imul, 1) := by decide +kernel
theorem dX7_mixText_35 : decode cX7_mixText 35 = .ok (.if_icmp .ge 25, 3) := by decide +kernel
theorem dX7_mixText_38 : decode cX7_mixText 38 = .ok (.aload_n 0, 1) := by decide +kernel
theorem dX7_mixText_39 : decode cX7_mixText 39 = .ok (.aload_n 0, 1) := by decide +kernel
theorem dX7_mixText_40 : decode cX7_mixText 40 = .ok (.iload_n 1, 1) := by decide +kernel
theorem dX7_mixText_41 : decode cX7_mixText 41 = .ok (.iload_n 2, 1) := by decide +kernel
theorem dX7_mixText_42 : decode cX7_mixText 42 = .ok (.iconst 4, 1) := by decide +kernel
theorem dX7_mixText_43 : decode cX7_mixText 43 = .ok (.idiv, 1) := by decide +kernel
theorem dX7_mixText_44 : decode cX7_mixText 44 = .ok (.iload_n 2, 1) := by decide +kernel
theorem dX7_mixText_45 : decode cX7_mixText 45 = .ok (.iconst 4, 1) := by decide +kernel
theorem dX7_mixText_46 : decode cX7_mixText 46 = .ok (.irem, 1) := by decide +kernel
theorem dX7_mixText_47 : decode cX7_mixText 47 = .ok (.invokevirtual 197, 3) := by decide +kernel
theorem dX7_mixText_50 : decode cX7_mixText 50 = .ok (.i2l, 1) := by decide +kernel
theorem dX7_mixText_51 : decode cX7_mixText 51 = .ok (.invokevirtual 297, 3) := by decide +kernel
theorem dX7_mixText_54 : decode cX7_mixText 54 = .ok (.iinc 2 1, 3) := by decide +kernel
theorem dX7_mixText_57 : decode cX7_mixText 57 = .ok (.goto (-30), 3) := by decide +kernel
theorem dX7_mixText_60 : decode cX7_mixText 60 = .ok (.aload_n 0, 1) := by decide +kernel
theorem dX7_mixText_61 : decode cX7_mixText 61 = .ok (.iload_n 1, 1) := by decide +kernel
theorem dX7_mixText_62 : decode cX7_mixText 62 = .ok (.invokevirtual 204, 3) := by decide +kernel
theorem dX7_mixText_65 : decode cX7_mixText 65 = .ok (.istore_n 2, 1) := by decide +kernel
theorem dX7_mixText_66 : decode cX7_mixText 66 = .ok (.iconst 0, 1) := by decide +kernel
theorem dX7_mixText_67 : decode cX7_mixText 67 = .ok (.istore_n 3, 1) := by decide +kernel
theorem dX7_mixText_68 : decode cX7_mixText 68 = .ok (.iload_n 3, 1) := by decide +kernel
theorem dX7_mixText_69 : decode cX7_mixText 69 = .ok (.iconst 5, 1) := by decide +kernel
theorem dX7_mixText_70 : decode cX7_mixText 70 = .ok (.iload_n 2, 1) := by decide +kernel
theorem dX7_mixText_71 : decode cX7_mixText 71 = .ok (.imul, 1) := by decide +kernel
theorem dX7_mixText_72 : decode cX7_mixText 72 = .ok (.if_icmp .ge 25, 3) := by decide +kernel
theorem dX7_mixText_75 : decode cX7_mixText 75 = .ok (.aload_n 0, 1) := by decide +kernel
theorem dX7_mixText_76 : decode cX7_mixText 76 = .ok (.aload_n 0, 1) := by decide +kernel
theorem dX7_mixText_77 : decode cX7_mixText 77 = .ok (.iload_n 1, 1) := by decide +kernel
theorem dX7_mixText_78 : decode cX7_mixText 78 = .ok (.iload_n 3, 1) := by decide +kernel
theorem dX7_mixText_79 : decode cX7_mixText 79 = .ok (.iconst 5, 1) := by decide +kernel
theorem dX7_mixText_80 : decode cX7_mixText 80 = .ok (.idiv, 1) := by decide +kernel
theorem dX7_mixText_81 : decode cX7_mixText 81 = .ok (.iload_n 3, 1) := by decide +kernel
theorem dX7_mixText_82 : decode cX7_mixText 82 = .ok (.iconst 5, 1) := by decide +kernel
theorem dX7_mixText_83 : decode cX7_mixText 83 = .ok (.irem, 1) := by decide +kernel
theorem dX7_mixText_84 : decode cX7_mixText 84 = .ok (.invokevirtual 216, 3) := by decide +kernel
theorem dX7_mixText_87 : decode cX7_mixText 87 = .ok (.i2l, 1) := by decide +kernel
theorem dX7_mixText_88 : decode cX7_mixText 88 = .ok (.invokevirtual 297, 3) := by decide +kernel
theorem dX7_mixText_91 : decode cX7_mixText 91 = .ok (.iinc 3 1, 3) := by decide +kernel
theorem dX7_mixText_94 : decode cX7_mixText 94 = .ok (.goto (-26), 3) := by decide +kernel
theorem dX7_mixText_97 : decode cX7_mixText 97 = .ok (.iconst 0, 1) := by decide +kernel
theorem dX7_mixText_98 : decode cX7_mixText 98 = .ok (.istore_n 3, 1) := by decide +kernel
theorem dX7_mixText_99 : decode cX7_mixText 99 = .ok (.iload_n 3, 1) := by decide +kernel
theorem dX7_mixText_100 : decode cX7_mixText 100 = .ok (.iconst 3, 1) := by decide +kernel
theorem dX7_mixText_101 : decode cX7_mixText 101 = .ok (.if_icmp .ge 21, 3) := by decide +kernel
theorem dX7_mixText_104 : decode cX7_mixText 104 = .ok (.aload_n 0, 1) := by decide +kernel
theorem dX7_mixText_105 : decode cX7_mixText 105 = .ok (.aload_n 0, 1) := by decide +kernel
theorem dX7_mixText_106 : decode cX7_mixText 106 = .ok (.iload_n 1, 1) := by decide +kernel
theorem dX7_mixText_107 : decode cX7_mixText 107 = .ok (.iconst 0, 1) := by decide +kernel
theorem dX7_mixText_108 : decode cX7_mixText 108 = .ok (.iload_n 3, 1) := by decide +kernel
theorem dX7_mixText_109 : decode cX7_mixText 109 = .ok (.invokevirtual 251, 3) := by decide +kernel
theorem dX7_mixText_112 : decode cX7_mixText 112 = .ok (.i2l, 1) := by decide +kernel
theorem dX7_mixText_113 : decode cX7_mixText 113 = .ok (.invokevirtual 297, 3) := by decide +kernel
theorem dX7_mixText_116 : decode cX7_mixText 116 = .ok (.iinc 3 1, 3) := by decide +kernel
theorem dX7_mixText_119 : decode cX7_mixText 119 = .ok (.goto (-20), 3) := by decide +kernel
theorem dX7_mixText_122 : decode cX7_mixText 122 = .ok (.iconst 0, 1) := by decide +kernel
theorem dX7_mixText_123 : decode cX7_mixText 123 = .ok (.istore_n 3, 1) := by decide +kernel
theorem dX7_mixText_124 : decode cX7_mixText 124 = .ok (.iload_n 3, 1) := by decide +kernel
theorem dX7_mixText_125 : decode cX7_mixText 125 = .ok (.iconst 4, 1) := by decide +kernel
theorem dX7_mixText_126 : decode cX7_mixText 126 = .ok (.if_icmp .ge 20, 3) := by decide +kernel
theorem dX7_mixText_129 : decode cX7_mixText 129 = .ok (.aload_n 0, 1) := by decide +kernel
theorem dX7_mixText_130 : decode cX7_mixText 130 = .ok (.aload_n 0, 1) := by decide +kernel
theorem dX7_mixText_131 : decode cX7_mixText 131 = .ok (.iload_n 1, 1) := by decide +kernel
theorem dX7_mixText_132 : decode cX7_mixText 132 = .ok (.iload_n 3, 1) := by decide +kernel
theorem dX7_mixText_133 : decode cX7_mixText 133 = .ok (.invokevirtual 269, 3) := by decide +kernel
theorem dX7_mixText_136 : decode cX7_mixText 136 = .ok (.i2l, 1) := by decide +kernel
theorem dX7_mixText_137 : decode cX7_mixText 137 = .ok (.invokevirtual 297, 3) := by decide +kernel
theorem dX7_mixText_140 : decode cX7_mixText 140 = .ok (.iinc 3 1, 3) := by decide +kernel
theorem dX7_mixText_143 : decode cX7_mixText 143 = .ok (.goto (-19), 3) := by decide +kernel
theorem dX7_mixText_146 : decode cX7_mixText 146 = .ok (.aload_n 0, 1) := by decide +kernel
theorem dX7_mixText_147 : decode cX7_mixText 147 = .ok (.aload_n 0, 1) := by decide +kernel
theorem dX7_mixText_148 : decode cX7_mixText 148 = .ok (.iload_n 1, 1) := by decide +kernel
theorem dX7_mixText_149 : decode cX7_mixText 149 = .ok (.iconst 1, 1) := by decide +kernel
theorem dX7_mixText_150 : decode cX7_mixText 150 = .ok (.iconst 2, 1) := by decide +kernel
theorem dX7_mixText_151 : decode cX7_mixText 151 = .ok (.invokevirtual 272, 3) := by decide +kernel
theorem dX7_mixText_154 : decode cX7_mixText 154 = .ok (.i2l, 1) := by decide +kernel
theorem dX7_mixText_155 : decode cX7_mixText 155 = .ok (.invokevirtual 297, 3) := by decide +kernel
theorem dX7_mixText_158 : decode cX7_mixText 158 = .ok (.return_, 1) := by decide +kernel
theorem dX7_digest_0 : decode cX7_digest 0 = .ok (.aload_n 0, 1) := by decide +kernel
theorem dX7_digest_1 : decode cX7_digest 1 = .ok (.iconst 0, 1) := by decide +kernel
theorem dX7_digest_2 : decode cX7_digest 2 = .ok (.putfield 47, 3) := by decide +kernel
theorem dX7_digest_5 : decode cX7_digest 5 = .ok (.aload_n 0, 1) := by decide +kernel
theorem dX7_digest_6 : decode cX7_digest 6 = .ok (.ldc2_w 301, 3) := by decide +kernel
theorem dX7_digest_9 : decode cX7_digest 9 = .ok (.putfield 293, 3) := by decide +kernel
theorem dX7_digest_12 : decode cX7_digest 12 = .ok (.iconst 0, 1) := by decide +kernel
theorem dX7_digest_13 : decode cX7_digest 13 = .ok (.istore_n 1, 1) := by decide +kernel
theorem dX7_digest_14 : decode cX7_digest 14 = .ok (.iload_n 1, 1) := by decide +kernel
theorem dX7_digest_15 : decode cX7_digest 15 = .ok (.bipush 10, 2) := by decide +kernel
theorem dX7_digest_17 : decode cX7_digest 17 = .ok (.if_icmp .ge 19, 3) := by decide +kernel
theorem dX7_digest_20 : decode cX7_digest 20 = .ok (.aload_n 0, 1) := by decide +kernel
theorem dX7_digest_21 : decode cX7_digest 21 = .ok (.aload_n 0, 1) := by decide +kernel
theorem dX7_digest_22 : decode cX7_digest 22 = .ok (.iload_n 1, 1) := by decide +kernel
theorem dX7_digest_23 : decode cX7_digest 23 = .ok (.invokevirtual 266, 3) := by decide +kernel
theorem dX7_digest_26 : decode cX7_digest 26 = .ok (.i2l, 1) := by decide +kernel
theorem dX7_digest_27 : decode cX7_digest 27 = .ok (.invokevirtual 297, 3) := by decide +kernel
theorem dX7_digest_30 : decode cX7_digest 30 = .ok (.iinc 1 1, 3) := by decide +kernel
theorem dX7_digest_33 : decode cX7_digest 33 = .ok (.goto (-19), 3) := by decide +kernel
theorem dX7_digest_36 : decode cX7_digest 36 = .ok (.iconst 0, 1) := by decide +kernel
theorem dX7_digest_37 : decode cX7_digest 37 = .ok (.istore_n 1, 1) := by decide +kernel
theorem dX7_digest_38 : decode cX7_digest 38 = .ok (.iload_n 1, 1) := by decide +kernel
theorem dX7_digest_39 : decode cX7_digest 39 = .ok (.iconst 5, 1) := by decide +kernel
theorem dX7_digest_40 : decode cX7_digest 40 = .ok (.if_icmp .ge 20, 3) := by decide +kernel
theorem dX7_digest_43 : decode cX7_digest 43 = .ok (.aload_n 0, 1) := by decide +kernel
theorem dX7_digest_44 : decode cX7_digest 44 = .ok (.aload_n 0, 1) := by decide +kernel
theorem dX7_digest_45 : decode cX7_digest 45 = .ok (.getfield 7, 3) := by decide +kernel
theorem dX7_digest_48 : decode cX7_digest 48 = .ok (.iload_n 1, 1) := by decide +kernel
theorem dX7_digest_49 : decode cX7_digest 49 = .ok (.iaload, 1) := by decide +kernel
theorem dX7_digest_50 : decode cX7_digest 50 = .ok (.i2l, 1) := by decide +kernel
theorem dX7_digest_51 : decode cX7_digest 51 = .ok (.invokevirtual 297, 3) := by decide +kernel
theorem dX7_digest_54 : decode cX7_digest 54 = .ok (.iinc 1 1, 3) := by decide +kernel
theorem dX7_digest_57 : decode cX7_digest 57 = .ok (.goto (-19), 3) := by decide +kernel
theorem dX7_digest_60 : decode cX7_digest 60 = .ok (.iconst 0, 1) := by decide +kernel
theorem dX7_digest_61 : decode cX7_digest 61 = .ok (.istore_n 1, 1) := by decide +kernel
theorem dX7_digest_62 : decode cX7_digest 62 = .ok (.iload_n 1, 1) := by decide +kernel
theorem dX7_digest_63 : decode cX7_digest 63 = .ok (.iconst 4, 1) := by decide +kernel
theorem dX7_digest_64 : decode cX7_digest 64 = .ok (.if_icmp .ge 14, 3) := by decide +kernel
theorem dX7_digest_67 : decode cX7_digest 67 = .ok (.aload_n 0, 1) := by decide +kernel
theorem dX7_digest_68 : decode cX7_digest 68 = .ok (.iload_n 1, 1) := by decide +kernel
theorem dX7_digest_69 : decode cX7_digest 69 = .ok (.invokevirtual 303, 3) := by decide +kernel
theorem dX7_digest_72 : decode cX7_digest 72 = .ok (.iinc 1 1, 3) := by decide +kernel
theorem dX7_digest_75 : decode cX7_digest 75 = .ok (.goto (-13), 3) := by decide +kernel
theorem dX7_digest_78 : decode cX7_digest 78 = .ok (.iconst 0, 1) := by decide +kernel
theorem dX7_digest_79 : decode cX7_digest 79 = .ok (.istore_n 1, 1) := by decide +kernel
theorem dX7_digest_80 : decode cX7_digest 80 = .ok (.iload_n 1, 1) := by decide +kernel
theorem dX7_digest_81 : decode cX7_digest 81 = .ok (.bipush 60, 2) := by decide +kernel
theorem dX7_digest_83 : decode cX7_digest 83 = .ok (.if_icmp .ge 47, 3) := by decide +kernel
theorem dX7_digest_86 : decode cX7_digest 86 = .ok (.aload_n 0, 1) := by decide +kernel
theorem dX7_digest_87 : decode cX7_digest 87 = .ok (.iload_n 1, 1) := by decide +kernel
theorem dX7_digest_88 : decode cX7_digest 88 = .ok (.invokevirtual 82, 3) := by decide +kernel
theorem dX7_digest_91 : decode cX7_digest 91 = .ok (.ifCond .eq 33, 3) := by decide +kernel
theorem dX7_digest_94 : decode cX7_digest 94 = .ok (.aload_n 0, 1) := by decide +kernel
theorem dX7_digest_95 : decode cX7_digest 95 = .ok (.iload_n 1, 1) := by decide +kernel
theorem dX7_digest_96 : decode cX7_digest 96 = .ok (.i2l, 1) := by decide +kernel
theorem dX7_digest_97 : decode cX7_digest 97 = .ok (.invokevirtual 297, 3) := by decide +kernel
theorem dX7_digest_100 : decode cX7_digest 100 = .ok (.iconst 0, 1) := by decide +kernel
theorem dX7_digest_101 : decode cX7_digest 101 = .ok (.istore_n 2, 1) := by decide +kernel
theorem dX7_digest_102 : decode cX7_digest 102 = .ok (.iload_n 2, 1) := by decide +kernel
theorem dX7_digest_103 : decode cX7_digest 103 = .ok (.iconst 5, 1) := by decide +kernel
theorem dX7_digest_104 : decode cX7_digest 104 = .ok (.if_icmp .ge 20, 3) := by decide +kernel
theorem dX7_digest_107 : decode cX7_digest 107 = .ok (.aload_n 0, 1) := by decide +kernel
theorem dX7_digest_108 : decode cX7_digest 108 = .ok (.aload_n 0, 1) := by decide +kernel
theorem dX7_digest_109 : decode cX7_digest 109 = .ok (.iload_n 1, 1) := by decide +kernel
theorem dX7_digest_110 : decode cX7_digest 110 = .ok (.iload_n 2, 1) := by decide +kernel
theorem dX7_digest_111 : decode cX7_digest 111 = .ok (.invokevirtual 224, 3) := by decide +kernel
theorem dX7_digest_114 : decode cX7_digest 114 = .ok (.i2l, 1) := by decide +kernel
theorem dX7_digest_115 : decode cX7_digest 115 = .ok (.invokevirtual 297, 3) := by decide +kernel
theorem dX7_digest_118 : decode cX7_digest 118 = .ok (.iinc 2 1, 3) := by decide +kernel
theorem dX7_digest_121 : decode cX7_digest 121 = .ok (.goto (-19), 3) := by decide +kernel
theorem dX7_digest_124 : decode cX7_digest 124 = .ok (.iinc 1 1, 3) := by decide +kernel
theorem dX7_digest_127 : decode cX7_digest 127 = .ok (.goto (-47), 3) := by decide +kernel
theorem dX7_digest_130 : decode cX7_digest 130 = .ok (.aload_n 0, 1) := by decide +kernel
theorem dX7_digest_131 : decode cX7_digest 131 = .ok (.aload_n 0, 1) := by decide +kernel
theorem dX7_digest_132 : decode cX7_digest 132 = .ok (.invokevirtual 284, 3) := by decide +kernel
theorem dX7_digest_135 : decode cX7_digest 135 = .ok (.i2l, 1) := by decide +kernel
theorem dX7_digest_136 : decode cX7_digest 136 = .ok (.invokevirtual 297, 3) := by decide +kernel
theorem dX7_digest_139 : decode cX7_digest 139 = .ok (.aload_n 0, 1) := by decide +kernel
theorem dX7_digest_140 : decode cX7_digest 140 = .ok (.aload_n 0, 1) := by decide +kernel
theorem dX7_digest_141 : decode cX7_digest 141 = .ok (.invokevirtual 287, 3) := by decide +kernel
theorem dX7_digest_144 : decode cX7_digest 144 = .ok (.invokestatic 306, 3) := by decide +kernel
theorem dX7_digest_147 : decode cX7_digest 147 = .ok (.invokevirtual 297, 3) := by decide +kernel
theorem dX7_digest_150 : decode cX7_digest 150 = .ok (.aload_n 0, 1) := by decide +kernel
theorem dX7_digest_151 : decode cX7_digest 151 = .ok (.aload_n 0, 1) := by decide +kernel
theorem dX7_digest_152 : decode cX7_digest 152 = .ok (.getfield 145, 3) := by decide +kernel
theorem dX7_digest_155 : decode cX7_digest 155 = .ok (.i2l, 1) := by decide +kernel
theorem dX7_digest_156 : decode cX7_digest 156 = .ok (.invokevirtual 297, 3) := by decide +kernel
theorem dX7_digest_159 : decode cX7_digest 159 = .ok (.iconst 0, 1) := by decide +kernel
theorem dX7_digest_160 : decode cX7_digest 160 = .ok (.istore_n 1, 1) := by decide +kernel
theorem dX7_digest_161 : decode cX7_digest 161 = .ok (.iload_n 1, 1) := by decide +kernel
theorem dX7_digest_162 : decode cX7_digest 162 = .ok (.aload_n 0, 1) := by decide +kernel
theorem dX7_digest_163 : decode cX7_digest 163 = .ok (.getfield 145, 3) := by decide +kernel
theorem dX7_digest_166 : decode cX7_digest 166 = .ok (.if_icmp .ge 20, 3) := by decide +kernel
theorem dX7_digest_169 : decode cX7_digest 169 = .ok (.aload_n 0, 1) := by decide +kernel
theorem dX7_digest_170 : decode cX7_digest 170 = .ok (.aload_n 0, 1) := by decide +kernel
theorem dX7_digest_171 : decode cX7_digest 171 = .ok (.getfield 23, 3) := by decide +kernel
theorem dX7_digest_174 : decode cX7_digest 174 = .ok (.iload_n 1, 1) := by decide +kernel
theorem dX7_digest_175 : decode cX7_digest 175 = .ok (.iaload, 1) := by decide +kernel
theorem dX7_digest_176 : decode cX7_digest 176 = .ok (.i2l, 1) := by decide +kernel
theorem dX7_digest_177 : decode cX7_digest 177 = .ok (.invokevirtual 297, 3) := by decide +kernel
theorem dX7_digest_180 : decode cX7_digest 180 = .ok (.iinc 1 1, 3) := by decide +kernel
theorem dX7_digest_183 : decode cX7_digest 183 = .ok (.goto (-22), 3) := by decide +kernel
theorem dX7_digest_186 : decode cX7_digest 186 = .ok (.aload_n 0, 1) := by decide +kernel
theorem dX7_digest_187 : decode cX7_digest 187 = .ok (.getfield 293, 3) := by decide +kernel
theorem dX7_digest_190 : decode cX7_digest 190 = .ok (.lreturn, 1) := by decide +kernel
theorem dJxe99ae_isNaN_b9ae7_0 : decode cJxe99ae_isNaN_b9ae7 0 = .ok (.dload_n 0, 1) := by decide +kernel
theorem dJxe99ae_isNaN_b9ae7_1 : decode cJxe99ae_isNaN_b9ae7 1 = .ok (.dload_n 0, 1) := by decide +kernel
theorem dJxe99ae_isNaN_b9ae7_2 : decode cJxe99ae_isNaN_b9ae7 2 = .ok (.dcmp .l, 1) := by decide +kernel
theorem dJxe99ae_isNaN_b9ae7_3 : decode cJxe99ae_isNaN_b9ae7 3 = .ok (.ifCond .eq 7, 3) := by decide +kernel
theorem dJxe99ae_isNaN_b9ae7_6 : decode cJxe99ae_isNaN_b9ae7 6 = .ok (.iconst 1, 1) := by decide +kernel
theorem dJxe99ae_isNaN_b9ae7_7 : decode cJxe99ae_isNaN_b9ae7 7 = .ok (.goto 4, 3) := by decide +kernel
theorem dJxe99ae_isNaN_b9ae7_10 : decode cJxe99ae_isNaN_b9ae7 10 = .ok (.iconst 0, 1) := by decide +kernel
theorem dJxe99ae_isNaN_b9ae7_11 : decode cJxe99ae_isNaN_b9ae7 11 = .ok (.ireturn, 1) := by decide +kernel
theorem dJxe99ae_doubleToLongBits_ccdee_0 : decode cJxe99ae_doubleToLongBits_ccdee 0 = .ok (.dload_n 0, 1) := by decide +kernel
theorem dJxe99ae_doubleToLongBits_ccdee_1 : decode cJxe99ae_doubleToLongBits_ccdee 1 = .ok (.invokestatic 122, 3) := by decide +kernel
theorem dJxe99ae_doubleToLongBits_ccdee_4 : decode cJxe99ae_doubleToLongBits_ccdee 4 = .ok (.ifCond .ne 8, 3) := by decide +kernel
theorem dJxe99ae_doubleToLongBits_ccdee_7 : decode cJxe99ae_doubleToLongBits_ccdee 7 = .ok (.dload_n 0, 1) := by decide +kernel
theorem dJxe99ae_doubleToLongBits_ccdee_8 : decode cJxe99ae_doubleToLongBits_ccdee 8 = .ok (.invokestatic 134, 3) := by decide +kernel
theorem dJxe99ae_doubleToLongBits_ccdee_11 : decode cJxe99ae_doubleToLongBits_ccdee 11 = .ok (.lreturn, 1) := by decide +kernel
theorem dJxe99ae_doubleToLongBits_ccdee_12 : decode cJxe99ae_doubleToLongBits_ccdee 12 = .ok (.ldc2_w 137, 3) := by decide +kernel
theorem dJxe99ae_doubleToLongBits_ccdee_15 : decode cJxe99ae_doubleToLongBits_ccdee 15 = .ok (.lreturn, 1) := by decide +kernel
theorem dJ6_bitCount_0f7a4_0 : decode cJ6_bitCount_0f7a4 0 = .ok (.iload_n 0, 1) := by decide +kernel
theorem dJ6_bitCount_0f7a4_1 : decode cJ6_bitCount_0f7a4 1 = .ok (.iload_n 0, 1) := by decide +kernel
theorem dJ6_bitCount_0f7a4_2 : decode cJ6_bitCount_0f7a4 2 = .ok (.iconst 1, 1) := by decide +kernel
theorem dJ6_bitCount_0f7a4_3 : decode cJ6_bitCount_0f7a4 3 = .ok (.iushr, 1) := by decide +kernel
theorem dJ6_bitCount_0f7a4_4 : decode cJ6_bitCount_0f7a4 4 = .ok (.ldc_w 265, 3) := by decide +kernel
theorem dJ6_bitCount_0f7a4_7 : decode cJ6_bitCount_0f7a4 7 = .ok (.iand, 1) := by decide +kernel
theorem dJ6_bitCount_0f7a4_8 : decode cJ6_bitCount_0f7a4 8 = .ok (.isub, 1) := by decide +kernel
theorem dJ6_bitCount_0f7a4_9 : decode cJ6_bitCount_0f7a4 9 = .ok (.istore_n 0, 1) := by decide +kernel
theorem dJ6_bitCount_0f7a4_10 : decode cJ6_bitCount_0f7a4 10 = .ok (.iload_n 0, 1) := by decide +kernel
theorem dJ6_bitCount_0f7a4_11 : decode cJ6_bitCount_0f7a4 11 = .ok (.ldc_w 266, 3) := by decide +kernel
theorem dJ6_bitCount_0f7a4_14 : decode cJ6_bitCount_0f7a4 14 = .ok (.iand, 1) := by decide +kernel
theorem dJ6_bitCount_0f7a4_15 : decode cJ6_bitCount_0f7a4 15 = .ok (.iload_n 0, 1) := by decide +kernel
theorem dJ6_bitCount_0f7a4_16 : decode cJ6_bitCount_0f7a4 16 = .ok (.iconst 2, 1) := by decide +kernel
theorem dJ6_bitCount_0f7a4_17 : decode cJ6_bitCount_0f7a4 17 = .ok (.iushr, 1) := by decide +kernel
theorem dJ6_bitCount_0f7a4_18 : decode cJ6_bitCount_0f7a4 18 = .ok (.ldc_w 266, 3) := by decide +kernel
theorem dJ6_bitCount_0f7a4_21 : decode cJ6_bitCount_0f7a4 21 = .ok (.iand, 1) := by decide +kernel
theorem dJ6_bitCount_0f7a4_22 : decode cJ6_bitCount_0f7a4 22 = .ok (.iadd, 1) := by decide +kernel
theorem dJ6_bitCount_0f7a4_23 : decode cJ6_bitCount_0f7a4 23 = .ok (.istore_n 0, 1) := by decide +kernel
theorem dJ6_bitCount_0f7a4_24 : decode cJ6_bitCount_0f7a4 24 = .ok (.iload_n 0, 1) := by decide +kernel
theorem dJ6_bitCount_0f7a4_25 : decode cJ6_bitCount_0f7a4 25 = .ok (.iload_n 0, 1) := by decide +kernel
theorem dJ6_bitCount_0f7a4_26 : decode cJ6_bitCount_0f7a4 26 = .ok (.iconst 4, 1) := by decide +kernel
theorem dJ6_bitCount_0f7a4_27 : decode cJ6_bitCount_0f7a4 27 = .ok (.iushr, 1) := by decide +kernel
theorem dJ6_bitCount_0f7a4_28 : decode cJ6_bitCount_0f7a4 28 = .ok (.iadd, 1) := by decide +kernel
theorem dJ6_bitCount_0f7a4_29 : decode cJ6_bitCount_0f7a4 29 = .ok (.ldc_w 267, 3) := by decide +kernel
theorem dJ6_bitCount_0f7a4_32 : decode cJ6_bitCount_0f7a4 32 = .ok (.iand, 1) := by decide +kernel
theorem dJ6_bitCount_0f7a4_33 : decode cJ6_bitCount_0f7a4 33 = .ok (.istore_n 0, 1) := by decide +kernel
theorem dJ6_bitCount_0f7a4_34 : decode cJ6_bitCount_0f7a4 34 = .ok (.iload_n 0, 1) := by decide +kernel
theorem dJ6_bitCount_0f7a4_35 : decode cJ6_bitCount_0f7a4 35 = .ok (.iload_n 0, 1) := by decide +kernel
theorem dJ6_bitCount_0f7a4_36 : decode cJ6_bitCount_0f7a4 36 = .ok (.bipush 8, 2) := by decide +kernel
theorem dJ6_bitCount_0f7a4_38 : decode cJ6_bitCount_0f7a4 38 = .ok (.iushr, 1) := by decide +kernel
theorem dJ6_bitCount_0f7a4_39 : decode cJ6_bitCount_0f7a4 39 = .ok (.iadd, 1) := by decide +kernel
theorem dJ6_bitCount_0f7a4_40 : decode cJ6_bitCount_0f7a4 40 = .ok (.istore_n 0, 1) := by decide +kernel
theorem dJ6_bitCount_0f7a4_41 : decode cJ6_bitCount_0f7a4 41 = .ok (.iload_n 0, 1) := by decide +kernel
theorem dJ6_bitCount_0f7a4_42 : decode cJ6_bitCount_0f7a4 42 = .ok (.iload_n 0, 1) := by decide +kernel
theorem dJ6_bitCount_0f7a4_43 : decode cJ6_bitCount_0f7a4 43 = .ok (.bipush 16, 2) := by decide +kernel
theorem dJ6_bitCount_0f7a4_45 : decode cJ6_bitCount_0f7a4 45 = .ok (.iushr, 1) := by decide +kernel
theorem dJ6_bitCount_0f7a4_46 : decode cJ6_bitCount_0f7a4 46 = .ok (.iadd, 1) := by decide +kernel
theorem dJ6_bitCount_0f7a4_47 : decode cJ6_bitCount_0f7a4 47 = .ok (.istore_n 0, 1) := by decide +kernel
theorem dJ6_bitCount_0f7a4_48 : decode cJ6_bitCount_0f7a4 48 = .ok (.iload_n 0, 1) := by decide +kernel
theorem dJ6_bitCount_0f7a4_49 : decode cJ6_bitCount_0f7a4 49 = .ok (.bipush 63, 2) := by decide +kernel
theorem dJ6_bitCount_0f7a4_51 : decode cJ6_bitCount_0f7a4 51 = .ok (.iand, 1) := by decide +kernel
theorem dJ6_bitCount_0f7a4_52 : decode cJ6_bitCount_0f7a4 52 = .ok (.ireturn, 1) := by decide +kernel
theorem dJ9_max_7cf53_0 : decode cJ9_max_7cf53 0 = .ok (.iload_n 0, 1) := by decide +kernel
theorem dJ9_max_7cf53_1 : decode cJ9_max_7cf53 1 = .ok (.iload_n 1, 1) := by decide +kernel
theorem dJ9_max_7cf53_2 : decode cJ9_max_7cf53 2 = .ok (.if_icmp .lt 7, 3) := by decide +kernel
theorem dJ9_max_7cf53_5 : decode cJ9_max_7cf53 5 = .ok (.iload_n 0, 1) := by decide +kernel
theorem dJ9_max_7cf53_6 : decode cJ9_max_7cf53 6 = .ok (.goto 4, 3) := by decide +kernel
theorem dJ9_max_7cf53_9 : decode cJ9_max_7cf53 9 = .ok (.iload_n 1, 1) := by decide +kernel
theorem dJ9_max_7cf53_10 : decode cJ9_max_7cf53 10 = .ok (.ireturn, 1) := by decide +kernel
theorem dL_put_0 : decode cL_put 0 = .ok (.aload_n 2, 1) := by decide +kernel
theorem dL_put_1 : decode cL_put 1 = .ok (.iconst 0, 1) := by decide +kernel
theorem dL_put_2 : decode cL_put 2 = .ok (.aload_n 0, 1) := by decide +kernel
theorem dL_put_3 : decode cL_put 3 = .ok (.iload_n 1, 1) := by decide +kernel
theorem dL_put_4 : decode cL_put 4 = .ok (.invokevirtual 7, 3) := by decide +kernel
theorem dL_put_7 : decode cL_put 7 = .ok (.i2l, 1) := by decide +kernel
theorem dL_put_8 : decode cL_put 8 = .ok (.lastore, 1) := by decide +kernel
theorem dL_put_9 : decode cL_put 9 = .ok (.goto 12, 3) := by decide +kernel
theorem dL_put_12 : decode cL_put 12 = .ok (.astore_n 3, 1) := by decide +kernel
theorem dL_put_13 : decode cL_put 13 = .ok (.iconst 1, 1) := by decide +kernel
theorem dL_put_14 : decode cL_put 14 = .ok (.ireturn, 1) := by decide +kernel
theorem dL_put_15 : decode cL_put 15 = .ok (.astore_n 3, 1) := by decide +kernel
theorem dL_put_16 : decode cL_put 16 = .ok (.iconst 2, 1) := by decide +kernel
theorem dL_put_17 : decode cL_put 17 = .ok (.ireturn, 1) := by decide +kernel
theorem dL_put_18 : decode cL_put 18 = .ok (.astore_n 3, 1) := by decide +kernel
theorem dL_put_19 : decode cL_put 19 = .ok (.iconst 3, 1) := by decide +kernel
theorem dL_put_20 : decode cL_put 20 = .ok (.ireturn, 1) := by decide +kernel
theorem dL_put_21 : decode cL_put 21 = .ok (.iconst 0, 1) := by decide +kernel
theorem dL_put_22 : decode cL_put 22 = .ok (.ireturn, 1) := by decide +kernel
theorem dL_insert_0 : decode cL_insert 0 = .ok (.aload_n 3, 1) := by decide +kernel
theorem dL_insert_1 : decode cL_insert 1 = .ok (.iconst 0, 1) := by decide +kernel
theorem dL_insert_2 : decode cL_insert 2 = .ok (.aload_n 0, 1) := by decide +kernel
theorem dL_insert_3 : decode cL_insert 3 = .ok (.iload_n 1, 1) := by decide +kernel
theorem dL_insert_4 : decode cL_insert 4 = .ok (.iload_n 2, 1) := by decide +kernel
theorem dL_insert_5 : decode cL_insert 5 = .ok (.invokevirtual 19, 3) := by decide +kernel
theorem dL_insert_8 : decode cL_insert 8 = .ok (.i2l, 1) := by decide +kernel
theorem dL_insert_9 : decode cL_insert 9 = .ok (.lastore, 1) := by decide +kernel
theorem dL_insert_10 : decode cL_insert 10 = .ok (.goto 15, 3) := by decide +kernel
theorem dL_insert_13 : decode cL_insert 13 = .ok (.astore 4, 2) := by decide +kernel
theorem dL_insert_15 : decode cL_insert 15 = .ok (.iconst 1, 1) := by decide +kernel
theorem dL_insert_16 : decode cL_insert 16 = .ok (.ireturn, 1) := by decide +kernel
theorem dL_insert_17 : decode cL_insert 17 = .ok (.astore 4, 2) := by decide +kernel
theorem dL_insert_19 : decode cL_insert 19 = .ok (.iconst 2, 1) := by decide +kernel
theorem dL_insert_20 : decode cL_insert 20 = .ok (.ireturn, 1) := by decide +kernel
theorem dL_insert_21 : decode cL_insert 21 = .ok (.astore 4, 2) := by decide +kernel
theorem dL_insert_23 : decode cL_insert 23 = .ok (.iconst 3, 1) := by decide +kernel
theorem dL_insert_24 : decode cL_insert 24 = .ok (.ireturn, 1) := by decide +kernel
theorem dL_insert_25 : decode cL_insert 25 = .ok (.iconst 0, 1) := by decide +kernel
theorem dL_insert_26 : decode cL_insert 26 = .ok (.ireturn, 1) := by decide +kernel
theorem dL_takeOut_0 : decode cL_takeOut 0 = .ok (.aload 4, 2) := by decide +kernel
theorem dL_takeOut_2 : decode cL_takeOut 2 = .ok (.iconst 0, 1) := by decide +kernel
theorem dL_takeOut_3 : decode cL_takeOut 3 = .ok (.aload_n 0, 1) := by decide +kernel
theorem dL_takeOut_4 : decode cL_takeOut 4 = .ok (.iload_n 1, 1) := by decide +kernel
theorem dL_takeOut_5 : decode cL_takeOut 5 = .ok (.iload_n 2, 1) := by decide +kernel
theorem dL_takeOut_6 : decode cL_takeOut 6 = .ok (.iload_n 3, 1) := by decide +kernel
theorem dL_takeOut_7 : decode cL_takeOut 7 = .ok (.invokevirtual 23, 3) := by decide +kernel
theorem dL_takeOut_10 : decode cL_takeOut 10 = .ok (.i2l, 1) := by decide +kernel
theorem dL_takeOut_11 : decode cL_takeOut 11 = .ok (.lastore, 1) := by decide +kernel
theorem dL_takeOut_12 : decode cL_takeOut 12 = .ok (.goto 15, 3) := by decide +kernel
theorem dL_takeOut_15 : decode cL_takeOut 15 = .ok (.astore 5, 2) := by decide +kernel
theorem dL_takeOut_17 : decode cL_takeOut 17 = .ok (.iconst 1, 1) := by decide +kernel
theorem dL_takeOut_18 : decode cL_takeOut 18 = .ok (.ireturn, 1) := by decide +kernel
theorem dL_takeOut_19 : decode cL_takeOut 19 = .ok (.astore 5, 2) := by decide +kernel
theorem dL_takeOut_21 : decode cL_takeOut 21 = .ok (.iconst 2, 1) := by decide +kernel
theorem dL_takeOut_22 : decode cL_takeOut 22 = .ok (.ireturn, 1) := by decide +kernel
theorem dL_takeOut_23 : decode cL_takeOut 23 = .ok (.astore 5, 2) := by decide +kernel
theorem dL_takeOut_25 : decode cL_takeOut 25 = .ok (.iconst 3, 1) := by decide +kernel
theorem dL_takeOut_26 : decode cL_takeOut 26 = .ok (.ireturn, 1) := by decide +kernel
theorem dL_takeOut_27 : decode cL_takeOut 27 = .ok (.iconst 0, 1) := by decide +kernel
theorem dL_takeOut_28 : decode cL_takeOut 28 = .ok (.ireturn, 1) := by decide +kernel
theorem dL_copy_0 : decode cL_copy 0 = .ok (.aload_n 3, 1) := by decide +kernel
theorem dL_copy_1 : decode cL_copy 1 = .ok (.iconst 0, 1) := by decide +kernel
theorem dL_copy_2 : decode cL_copy 2 = .ok (.aload_n 0, 1) := by decide +kernel
theorem dL_copy_3 : decode cL_copy 3 = .ok (.iload_n 1, 1) := by decide +kernel
theorem dL_copy_4 : decode cL_copy 4 = .ok (.iload_n 2, 1) := by decide +kernel
theorem dL_copy_5 : decode cL_copy 5 = .ok (.invokevirtual 27, 3) := by decide +kernel
theorem dL_copy_8 : decode cL_copy 8 = .ok (.i2l, 1) := by decide +kernel
theorem dL_copy_9 : decode cL_copy 9 = .ok (.lastore, 1) := by decide +kernel
theorem dL_copy_10 : decode cL_copy 10 = .ok (.goto 11, 3) := by decide +kernel
theorem dL_copy_13 : decode cL_copy 13 = .ok (.astore 4, 2) := by decide +kernel
theorem dL_copy_15 : decode cL_copy 15 = .ok (.iconst 1, 1) := by decide +kernel
theorem dL_copy_16 : decode cL_copy 16 = .ok (.ireturn, 1) := by decide +kernel
theorem dL_copy_17 : decode cL_copy 17 = .ok (.astore 4, 2) := by decide +kernel
theorem dL_copy_19 : decode cL_copy 19 = .ok (.iconst 2, 1) := by decide +kernel
theorem dL_copy_20 : decode cL_copy 20 = .ok (.ireturn, 1) := by decide +kernel
theorem dL_copy_21 : decode cL_copy 21 = .ok (.iconst 0, 1) := by decide +kernel
theorem dL_copy_22 : decode cL_copy 22 = .ok (.ireturn, 1) := by decide +kernel
theorem dL_rotate_0 : decode cL_rotate 0 = .ok (.aload_n 3, 1) := by decide +kernel
theorem dL_rotate_1 : decode cL_rotate 1 = .ok (.iconst 0, 1) := by decide +kernel
theorem dL_rotate_2 : decode cL_rotate 2 = .ok (.aload_n 0, 1) := by decide +kernel
theorem dL_rotate_3 : decode cL_rotate 3 = .ok (.iload_n 1, 1) := by decide +kernel
theorem dL_rotate_4 : decode cL_rotate 4 = .ok (.iload_n 2, 1) := by decide +kernel
theorem dL_rotate_5 : decode cL_rotate 5 = .ok (.invokevirtual 30, 3) := by decide +kernel
theorem dL_rotate_8 : decode cL_rotate 8 = .ok (.i2l, 1) := by decide +kernel
theorem dL_rotate_9 : decode cL_rotate 9 = .ok (.lastore, 1) := by decide +kernel
theorem dL_rotate_10 : decode cL_rotate 10 = .ok (.goto 15, 3) := by decide +kernel
theorem dL_rotate_13 : decode cL_rotate 13 = .ok (.astore 4, 2) := by decide +kernel
theorem dL_rotate_15 : decode cL_rotate 15 = .ok (.iconst 1, 1) := by decide +kernel
theorem dL_rotate_16 : decode cL_rotate 16 = .ok (.ireturn, 1) := by decide +kernel
theorem dL_rotate_17 : decode cL_rotate 17 = .ok (.astore 4, 2) := by decide +kernel
theorem dL_rotate_19 : decode cL_rotate 19 = .ok (.iconst 2, 1) := by decide +kernel
theorem dL_rotate_20 : decode cL_rotate 20 = .ok (.ireturn, 1) := by decide +kernel
theorem dL_rotate_21 : decode cL_rotate 21 = .ok (.astore 4, 2) := by decide +kernel
theorem dL_rotate_23 : decode cL_rotate 23 = .ok (.iconst 3, 1) := by decide +kernel
theorem dL_rotate_24 : decode cL_rotate 24 = .ok (.ireturn, 1) := by decide +kernel
theorem dL_rotate_25 : decode cL_rotate 25 = .ok (.iconst 0, 1) := by decide +kernel
theorem dL_rotate_26 : decode cL_rotate 26 = .ok (.ireturn, 1) := by decide +kernel
theorem dL_drop_0 : decode cL_drop 0 = .ok (.aload_n 2, 1) := by decide +kernel
theorem dL_drop_1 : decode cL_drop 1 = .ok (.iconst 0, 1) := by decide +kernel
theorem dL_drop_2 : decode cL_drop 2 = .ok (.aload_n 0, 1) := by decide +kernel
theorem dL_drop_3 : decode cL_drop 3 = .ok (.iload_n 1, 1) := by decide +kernel
theorem dL_drop_4 : decode cL_drop 4 = .ok (.invokevirtual 33, 3) := by decide +kernel
theorem dL_drop_7 : decode cL_drop 7 = .ok (.i2l, 1) := by decide +kernel
theorem dL_drop_8 : decode cL_drop 8 = .ok (.lastore, 1) := by decide +kernel
theorem dL_drop_9 : decode cL_drop 9 = .ok (.goto 6, 3) := by decide +kernel
theorem dL_drop_12 : decode cL_drop 12 = .ok (.astore_n 3, 1) := by decide +kernel
theorem dL_drop_13 : decode cL_drop 13 = .ok (.iconst 1, 1) := by decide +kernel
theorem dL_drop_14 : decode cL_drop 14 = .ok (.ireturn, 1) := by decide +kernel
theorem dL_drop_15 : decode cL_drop 15 = .ok (.iconst 0, 1) := by decide +kernel
theorem dL_drop_16 : decode cL_drop 16 = .ok (.ireturn, 1) := by decide +kernel
theorem dL_set_0 : decode cL_set 0 = .ok (.aload_n 3, 1) := by decide +kernel
theorem dL_set_1 : decode cL_set 1 = .ok (.iconst 0, 1) := by decide +kernel
theorem dL_set_2 : decode cL_set 2 = .ok (.aload_n 0, 1) := by decide +kernel
theorem dL_set_3 : decode cL_set 3 = .ok (.iload_n 1, 1) := by decide +kernel
theorem dL_set_4 : decode cL_set 4 = .ok (.iload_n 2, 1) := by decide +kernel
theorem dL_set_5 : decode cL_set 5 = .ok (.invokevirtual 36, 3) := by decide +kernel
theorem dL_set_8 : decode cL_set 8 = .ok (.i2l, 1) := by decide +kernel
theorem dL_set_9 : decode cL_set 9 = .ok (.lastore, 1) := by decide +kernel
theorem dL_set_10 : decode cL_set 10 = .ok (.goto 11, 3) := by decide +kernel
theorem dL_set_13 : decode cL_set 13 = .ok (.astore 4, 2) := by decide +kernel
theorem dL_set_15 : decode cL_set 15 = .ok (.iconst 1, 1) := by decide +kernel
theorem dL_set_16 : decode cL_set 16 = .ok (.ireturn, 1) := by decide +kernel
theorem dL_set_17 : decode cL_set 17 = .ok (.astore 4, 2) := by decide +kernel
theorem dL_set_19 : decode cL_set 19 = .ok (.iconst 2, 1) := by decide +kernel
theorem dL_set_20 : decode cL_set 20 = .ok (.ireturn, 1) := by decide +kernel
theorem dL_set_21 : decode cL_set 21 = .ok (.iconst 0, 1) := by decide +kernel
theorem dL_set_22 : decode cL_set 22 = .ok (.ireturn, 1) := by decide +kernel
theorem dL_append_0 : decode cL_append 0 = .ok (.aload_n 2, 1) := by decide +kernel
theorem dL_append_1 : decode cL_append 1 = .ok (.iconst 0, 1) := by decide +kernel
theorem dL_append_2 : decode cL_append 2 = .ok (.aload_n 0, 1) := by decide +kernel
theorem dL_append_3 : decode cL_append 3 = .ok (.iload_n 1, 1) := by decide +kernel
theorem dL_append_4 : decode cL_append 4 = .ok (.invokevirtual 39, 3) := by decide +kernel
theorem dL_append_7 : decode cL_append 7 = .ok (.i2l, 1) := by decide +kernel
theorem dL_append_8 : decode cL_append 8 = .ok (.lastore, 1) := by decide +kernel
theorem dL_append_9 : decode cL_append 9 = .ok (.goto 9, 3) := by decide +kernel
theorem dL_append_12 : decode cL_append 12 = .ok (.astore_n 3, 1) := by decide +kernel
theorem dL_append_13 : decode cL_append 13 = .ok (.iconst 1, 1) := by decide +kernel
theorem dL_append_14 : decode cL_append 14 = .ok (.ireturn, 1) := by decide +kernel
theorem dL_append_15 : decode cL_append 15 = .ok (.astore_n 3, 1) := by decide +kernel
theorem dL_append_16 : decode cL_append 16 = .ok (.iconst 2, 1) := by decide +kernel
theorem dL_append_17 : decode cL_append 17 = .ok (.ireturn, 1) := by decide +kernel
theorem dL_append_18 : decode cL_append 18 = .ok (.iconst 0, 1) := by decide +kernel
theorem dL_append_19 : decode cL_append 19 = .ok (.ireturn, 1) := by decide +kernel
theorem dL_undo_0 : decode cL_undo 0 = .ok (.aload_n 1, 1) := by decide +kernel
theorem dL_undo_1 : decode cL_undo 1 = .ok (.iconst 0, 1) := by decide +kernel
theorem dL_undo_2 : decode cL_undo 2 = .ok (.aload_n 0, 1) := by decide +kernel
theorem dL_undo_3 : decode cL_undo 3 = .ok (.invokevirtual 42, 3) := by decide +kernel
theorem dL_undo_6 : decode cL_undo 6 = .ok (.i2l, 1) := by decide +kernel
theorem dL_undo_7 : decode cL_undo 7 = .ok (.lastore, 1) := by decide +kernel
theorem dL_undo_8 : decode cL_undo 8 = .ok (.goto 6, 3) := by decide +kernel
theorem dL_undo_11 : decode cL_undo 11 = .ok (.astore_n 2, 1) := by decide +kernel
theorem dL_undo_12 : decode cL_undo 12 = .ok (.iconst 1, 1) := by decide +kernel
theorem dL_undo_13 : decode cL_undo 13 = .ok (.ireturn, 1) := by decide +kernel
theorem dL_undo_14 : decode cL_undo 14 = .ok (.iconst 0, 1) := by decide +kernel
theorem dL_undo_15 : decode cL_undo 15 = .ok (.ireturn, 1) := by decide +kernel
theorem dL_sign_0 : decode cL_sign 0 = .ok (.aload 4, 2) := by decide +kernel
theorem dL_sign_2 : decode cL_sign 2 = .ok (.iconst 0, 1) := by decide +kernel
theorem dL_sign_3 : decode cL_sign 3 = .ok (.aload_n 0, 1) := by decide +kernel
theorem dL_sign_4 : decode cL_sign 4 = .ok (.iload_n 1, 1) := by decide +kernel
theorem dL_sign_5 : decode cL_sign 5 = .ok (.iload_n 2, 1) := by decide +kernel
theorem dL_sign_6 : decode cL_sign 6 = .ok (.iload_n 3, 1) := by decide +kernel
theorem dL_sign_7 : decode cL_sign 7 = .ok (.invokevirtual 46, 3) := by decide +kernel
theorem dL_sign_10 : decode cL_sign 10 = .ok (.i2l, 1) := by decide +kernel
theorem dL_sign_11 : decode cL_sign 11 = .ok (.lastore, 1) := by decide +kernel
theorem dL_sign_12 : decode cL_sign 12 = .ok (.goto 11, 3) := by decide +kernel
theorem dL_sign_15 : decode cL_sign 15 = .ok (.astore 5, 2) := by decide +kernel
theorem dL_sign_17 : decode cL_sign 17 = .ok (.iconst 1, 1) := by decide +kernel
theorem dL_sign_18 : decode cL_sign 18 = .ok (.ireturn, 1) := by decide +kernel
theorem dL_sign_19 : decode cL_sign 19 = .ok (.astore 5, 2) := by decide +kernel
theorem dL_sign_21 : decode cL_sign 21 = .ok (.iconst 2, 1) := by decide +kernel
theorem dL_sign_22 : decode cL_sign 22 = .ok (.ireturn, 1) := by decide +kernel
theorem dL_sign_23 : decode cL_sign 23 = .ok (.iconst 0, 1) := by decide +kernel
theorem dL_sign_24 : decode cL_sign 24 = .ok (.ireturn, 1) := by decide +kernel
theorem dL_piece_0 : decode cL_piece 0 = .ok (.aload 4, 2) := by decide +kernel
theorem dL_piece_2 : decode cL_piece 2 = .ok (.iconst 0, 1) := by decide +kernel
theorem dL_piece_3 : decode cL_piece 3 = .ok (.aload_n 0, 1) := by decide +kernel
theorem dL_piece_4 : decode cL_piece 4 = .ok (.iload_n 1, 1) := by decide +kernel
theorem dL_piece_5 : decode cL_piece 5 = .ok (.iload_n 2, 1) := by decide +kernel
theorem dL_piece_6 : decode cL_piece 6 = .ok (.iload_n 3, 1) := by decide +kernel
theorem dL_piece_7 : decode cL_piece 7 = .ok (.invokevirtual 49, 3) := by decide +kernel
theorem dL_piece_10 : decode cL_piece 10 = .ok (.i2l, 1) := by decide +kernel
theorem dL_piece_11 : decode cL_piece 11 = .ok (.lastore, 1) := by decide +kernel
theorem dL_piece_12 : decode cL_piece 12 = .ok (.goto 11, 3) := by decide +kernel
theorem dL_piece_15 : decode cL_piece 15 = .ok (.astore 5, 2) := by decide +kernel
theorem dL_piece_17 : decode cL_piece 17 = .ok (.iconst 1, 1) := by decide +kernel
theorem dL_piece_18 : decode cL_piece 18 = .ok (.ireturn, 1) := by decide +kernel
theorem dL_piece_19 : decode cL_piece 19 = .ok (.astore 5, 2) := by decide +kernel
theorem dL_piece_21 : decode cL_piece 21 = .ok (.iconst 2, 1) := by decide +kernel
theorem dL_piece_22 : decode cL_piece 22 = .ok (.ireturn, 1) := by decide +kernel
theorem dL_piece_23 : decode cL_piece 23 = .ok (.iconst 0, 1) := by decide +kernel
theorem dL_piece_24 : decode cL_piece 24 = .ok (.ireturn, 1) := by decide +kernel
theorem dL_slot_0 : decode cL_slot 0 = .ok (.aload_n 3, 1) := by decide +kernel
theorem dL_slot_1 : decode cL_slot 1 = .ok (.iconst 0, 1) := by decide +kernel
theorem dL_slot_2 : decode cL_slot 2 = .ok (.aload_n 0, 1) := by decide +kernel
theorem dL_slot_3 : decode cL_slot 3 = .ok (.iload_n 1, 1) := by decide +kernel
theorem dL_slot_4 : decode cL_slot 4 = .ok (.iload_n 2, 1) := by decide +kernel
theorem dL_slot_5 : decode cL_slot 5 = .ok (.invokevirtual 52, 3) := by decide +kernel
theorem dL_slot_8 : decode cL_slot 8 = .ok (.i2l, 1) := by decide +kernel
theorem dL_slot_9 : decode cL_slot 9 = .ok (.lastore, 1) := by decide +kernel
theorem dL_slot_10 : decode cL_slot 10 = .ok (.goto 11, 3) := by decide +kernel
theorem dL_slot_13 : decode cL_slot 13 = .ok (.astore 4, 2) := by decide +kernel
theorem dL_slot_15 : decode cL_slot 15 = .ok (.iconst 1, 1) := by decide +kernel
theorem dL_slot_16 : decode cL_slot 16 = .ok (.ireturn, 1) := by decide +kernel
theorem dL_slot_17 : decode cL_slot 17 = .ok (.astore 4, 2) := by decide +kernel
theorem dL_slot_19 : decode cL_slot 19 = .ok (.iconst 2, 1) := by decide +kernel
theorem dL_slot_20 : decode cL_slot 20 = .ok (.ireturn, 1) := by decide +kernel
theorem dL_slot_21 : decode cL_slot 21 = .ok (.iconst 0, 1) := by decide +kernel
theorem dL_slot_22 : decode cL_slot 22 = .ok (.ireturn, 1) := by decide +kernel
theorem dL_text_0 : decode cL_text 0 = .ok (.aload_n 3, 1) := by decide +kernel
theorem dL_text_1 : decode cL_text 1 = .ok (.iconst 0, 1) := by decide +kernel
theorem dL_text_2 : decode cL_text 2 = .ok (.aload_n 0, 1) := by decide +kernel
theorem dL_text_3 : decode cL_text 3 = .ok (.iload_n 1, 1) := by decide +kernel
theorem dL_text_4 : decode cL_text 4 = .ok (.iload_n 2, 1) := by decide +kernel
theorem dL_text_5 : decode cL_text 5 = .ok (.invokevirtual 55, 3) := by decide +kernel
theorem dL_text_8 : decode cL_text 8 = .ok (.i2l, 1) := by decide +kernel
theorem dL_text_9 : decode cL_text 9 = .ok (.lastore, 1) := by decide +kernel
theorem dL_text_10 : decode cL_text 10 = .ok (.goto 11, 3) := by decide +kernel
theorem dL_text_13 : decode cL_text 13 = .ok (.astore 4, 2) := by decide +kernel
theorem dL_text_15 : decode cL_text 15 = .ok (.iconst 1, 1) := by decide +kernel
theorem dL_text_16 : decode cL_text 16 = .ok (.ireturn, 1) := by decide +kernel
theorem dL_text_17 : decode cL_text 17 = .ok (.astore 4, 2) := by decide +kernel
theorem dL_text_19 : decode cL_text 19 = .ok (.iconst 2, 1) := by decide +kernel
theorem dL_text_20 : decode cL_text 20 = .ok (.ireturn, 1) := by decide +kernel
theorem dL_text_21 : decode cL_text 21 = .ok (.iconst 0, 1) := by decide +kernel
theorem dL_text_22 : decode cL_text 22 = .ok (.ireturn, 1) := by decide +kernel
theorem dL_common_0 : decode cL_common 0 = .ok (.aload 4, 2) := by decide +kernel
theorem dL_common_2 : decode cL_common 2 = .ok (.iconst 0, 1) := by decide +kernel
theorem dL_common_3 : decode cL_common 3 = .ok (.aload_n 0, 1) := by decide +kernel
theorem dL_common_4 : decode cL_common 4 = .ok (.iload_n 1, 1) := by decide +kernel
theorem dL_common_5 : decode cL_common 5 = .ok (.iload_n 2, 1) := by decide +kernel
