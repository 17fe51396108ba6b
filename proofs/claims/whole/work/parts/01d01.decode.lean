theorem dX2_read_23 : decode cX2_read 23 = .ok (.aload_n 0, 1) := by decide +kernel
theorem dX2_read_24 : decode cX2_read 24 = .ok (.getfield 14, 3) := by decide +kernel
theorem dX2_read_27 : decode cX2_read 27 = .ok (.iconst 0, 1) := by decide +kernel
theorem dX2_read_28 : decode cX2_read 28 = .ok (.invokevirtual 37, 3) := by decide +kernel
theorem dX2_read_31 : decode cX2_read 31 = .ok (.putfield 41, 3) := by decide +kernel
theorem dX2_read_34 : decode cX2_read 34 = .ok (.aload_n 0, 1) := by decide +kernel
theorem dX2_read_35 : decode cX2_read 35 = .ok (.iconst (-1), 1) := by decide +kernel
theorem dX2_read_36 : decode cX2_read 36 = .ok (.putfield 44, 3) := by decide +kernel
theorem dX2_read_39 : decode cX2_read 39 = .ok (.aload_n 0, 1) := by decide +kernel
theorem dX2_read_40 : decode cX2_read 40 = .ok (.iconst 4, 1) := by decide +kernel
theorem dX2_read_41 : decode cX2_read 41 = .ok (.invokevirtual 47, 3) := by decide +kernel
theorem dX2_read_44 : decode cX2_read 44 = .ok (.aload_n 0, 1) := by decide +kernel
theorem dX2_read_45 : decode cX2_read 45 = .ok (.iconst 5, 1) := by decide +kernel
theorem dX2_read_46 : decode cX2_read 46 = .ok (.invokevirtual 47, 3) := by decide +kernel
theorem dX2_read_49 : decode cX2_read 49 = .ok (.aload_n 0, 1) := by decide +kernel
theorem dX2_read_50 : decode cX2_read 50 = .ok (.bipush 6, 2) := by decide +kernel
theorem dX2_read_52 : decode cX2_read 52 = .ok (.invokevirtual 47, 3) := by decide +kernel
theorem dX2_read_55 : decode cX2_read 55 = .ok (.aload_n 0, 1) := by decide +kernel
theorem dX2_read_56 : decode cX2_read 56 = .ok (.getfield 41, 3) := by decide +kernel
theorem dX2_read_59 : decode cX2_read 59 = .ok (.bipush 8, 2) := by decide +kernel
theorem dX2_read_61 : decode cX2_read 61 = .ok (.if_icmp .eq 7, 3) := by decide +kernel
theorem dX2_read_64 : decode cX2_read 64 = .ok (.aload_n 0, 1) := by decide +kernel
theorem dX2_read_65 : decode cX2_read 65 = .ok (.invokevirtual 50, 3) := by decide +kernel
theorem dX2_read_68 : decode cX2_read 68 = .ok (.aload_n 0, 1) := by decide +kernel
theorem dX2_read_69 : decode cX2_read 69 = .ok (.getfield 44, 3) := by decide +kernel
theorem dX2_read_72 : decode cX2_read 72 = .ok (.ireturn, 1) := by decide +kernel
theorem dX2_readPart_0 : decode cX2_readPart 0 = .ok (.aload_n 0, 1) := by decide +kernel
theorem dX2_readPart_1 : decode cX2_readPart 1 = .ok (.iload_n 1, 1) := by decide +kernel
theorem dX2_readPart_2 : decode cX2_readPart 2 = .ok (.invokevirtual 53, 3) := by decide +kernel
theorem dX2_readPart_5 : decode cX2_readPart 5 = .ok (.aload_n 0, 1) := by decide +kernel
theorem dX2_readPart_6 : decode cX2_readPart 6 = .ok (.iconst 0, 1) := by decide +kernel
theorem dX2_readPart_7 : decode cX2_readPart 7 = .ok (.invokevirtual 56, 3) := by decide +kernel
theorem dX2_readPart_10 : decode cX2_readPart 10 = .ok (.aload_n 0, 1) := by decide +kernel
theorem dX2_readPart_11 : decode cX2_readPart 11 = .ok (.bipush 59, 2) := by decide +kernel
theorem dX2_readPart_13 : decode cX2_readPart 13 = .ok (.invokevirtual 53, 3) := by decide +kernel
theorem dX2_readPart_16 : decode cX2_readPart 16 = .ok (.aload_n 0, 1) := by decide +kernel
theorem dX2_readPart_17 : decode cX2_readPart 17 = .ok (.getfield 25, 3) := by decide +kernel
theorem dX2_readPart_20 : decode cX2_readPart 20 = .ok (.ifnull 10, 3) := by decide +kernel
theorem dX2_readPart_23 : decode cX2_readPart 23 = .ok (.aload_n 0, 1) := by decide +kernel
theorem dX2_readPart_24 : decode cX2_readPart 24 = .ok (.getfield 25, 3) := by decide +kernel
theorem dX2_readPart_27 : decode cX2_readPart 27 = .ok (.invokevirtual 59, 3) := by decide +kernel
theorem dX2_readPart_30 : decode cX2_readPart 30 = .ok (.return_, 1) := by decide +kernel
theorem dX2_readEither_0 : decode cX2_readEither 0 = .ok (.aload_n 0, 1) := by decide +kernel
theorem dX2_readEither_1 : decode cX2_readEither 1 = .ok (.iload_n 1, 1) := by decide +kernel
theorem dX2_readEither_2 : decode cX2_readEither 2 = .ok (.invokevirtual 62, 3) := by decide +kernel
theorem dX2_readEither_5 : decode cX2_readEither 5 = .ok (.iconst 0, 1) := by decide +kernel
theorem dX2_readEither_6 : decode cX2_readEither 6 = .ok (.istore_n 2, 1) := by decide +kernel
theorem dX2_readEither_7 : decode cX2_readEither 7 = .ok (.iload_n 2, 1) := by decide +kernel
theorem dX2_readEither_8 : decode cX2_readEither 8 = .ok (.sipush 160, 3) := by decide +kernel
theorem dX2_readEither_11 : decode cX2_readEither 11 = .ok (.if_icmp .ge 32, 3) := by decide +kernel
theorem dX2_readEither_14 : decode cX2_readEither 14 = .ok (.aload_n 0, 1) := by decide +kernel
theorem dX2_readEither_15 : decode cX2_readEither 15 = .ok (.getfield 41, 3) := by decide +kernel
theorem dX2_readEither_18 : decode cX2_readEither 18 = .ok (.iconst 1, 1) := by decide +kernel
theorem dX2_readEither_19 : decode cX2_readEither 19 = .ok (.if_icmp .ne 24, 3) := by decide +kernel
theorem dX2_readEither_22 : decode cX2_readEither 22 = .ok (.aload_n 0, 1) := by decide +kernel
theorem dX2_readEither_23 : decode cX2_readEither 23 = .ok (.invokevirtual 65, 3) := by decide +kernel
theorem dX2_readEither_26 : decode cX2_readEither 26 = .ok (.aload_n 0, 1) := by decide +kernel
theorem dX2_readEither_27 : decode cX2_readEither 27 = .ok (.iload_n 1, 1) := by decide +kernel
theorem dX2_readEither_28 : decode cX2_readEither 28 = .ok (.invokevirtual 62, 3) := by decide +kernel
theorem dX2_readEither_31 : decode cX2_readEither 31 = .ok (.aload_n 0, 1) := by decide +kernel
theorem dX2_readEither_32 : decode cX2_readEither 32 = .ok (.bipush (-17), 2) := by decide +kernel
theorem dX2_readEither_34 : decode cX2_readEither 34 = .ok (.invokevirtual 68, 3) := by decide +kernel
theorem dX2_readEither_37 : decode cX2_readEither 37 = .ok (.iinc 2 1, 3) := by decide +kernel
theorem dX2_readEither_40 : decode cX2_readEither 40 = .ok (.goto (-33), 3) := by decide +kernel
theorem dX2_readEither_43 : decode cX2_readEither 43 = .ok (.return_, 1) := by decide +kernel
theorem dX2_readBoth_0 : decode cX2_readBoth 0 = .ok (.aload_n 0, 1) := by decide +kernel
theorem dX2_readBoth_1 : decode cX2_readBoth 1 = .ok (.iload_n 1, 1) := by decide +kernel
theorem dX2_readBoth_2 : decode cX2_readBoth 2 = .ok (.invokevirtual 71, 3) := by decide +kernel
theorem dX2_readBoth_5 : decode cX2_readBoth 5 = .ok (.iconst 0, 1) := by decide +kernel
theorem dX2_readBoth_6 : decode cX2_readBoth 6 = .ok (.istore_n 2, 1) := by decide +kernel
theorem dX2_readBoth_7 : decode cX2_readBoth 7 = .ok (.iload_n 2, 1) := by decide +kernel
theorem dX2_readBoth_8 : decode cX2_readBoth 8 = .ok (.sipush 160, 3) := by decide +kernel
theorem dX2_readBoth_11 : decode cX2_readBoth 11 = .ok (.if_icmp .ge 32, 3) := by decide +kernel
theorem dX2_readBoth_14 : decode cX2_readBoth 14 = .ok (.aload_n 0, 1) := by decide +kernel
theorem dX2_readBoth_15 : decode cX2_readBoth 15 = .ok (.getfield 41, 3) := by decide +kernel
theorem dX2_readBoth_18 : decode cX2_readBoth 18 = .ok (.iconst 2, 1) := by decide +kernel
theorem dX2_readBoth_19 : decode cX2_readBoth 19 = .ok (.if_icmp .ne 24, 3) := by decide +kernel
theorem dX2_readBoth_22 : decode cX2_readBoth 22 = .ok (.aload_n 0, 1) := by decide +kernel
theorem dX2_readBoth_23 : decode cX2_readBoth 23 = .ok (.invokevirtual 65, 3) := by decide +kernel
theorem dX2_readBoth_26 : decode cX2_readBoth 26 = .ok (.aload_n 0, 1) := by decide +kernel
theorem dX2_readBoth_27 : decode cX2_readBoth 27 = .ok (.iload_n 1, 1) := by decide +kernel
theorem dX2_readBoth_28 : decode cX2_readBoth 28 = .ok (.invokevirtual 71, 3) := by decide +kernel
theorem dX2_readBoth_31 : decode cX2_readBoth 31 = .ok (.aload_n 0, 1) := by decide +kernel
theorem dX2_readBoth_32 : decode cX2_readBoth 32 = .ok (.bipush (-16), 2) := by decide +kernel
theorem dX2_readBoth_34 : decode cX2_readBoth 34 = .ok (.invokevirtual 68, 3) := by decide +kernel
theorem dX2_readBoth_37 : decode cX2_readBoth 37 = .ok (.iinc 2 1, 3) := by decide +kernel
theorem dX2_readBoth_40 : decode cX2_readBoth 40 = .ok (.goto (-33), 3) := by decide +kernel
theorem dX2_readBoth_43 : decode cX2_readBoth 43 = .ok (.return_, 1) := by decide +kernel
theorem dX2_readNot_0 : decode cX2_readNot 0 = .ok (.aload_n 0, 1) := by decide +kernel
theorem dX2_readNot_1 : decode cX2_readNot 1 = .ok (.getfield 41, 3) := by decide +kernel
theorem dX2_readNot_4 : decode cX2_readNot 4 = .ok (.iconst 3, 1) := by decide +kernel
theorem dX2_readNot_5 : decode cX2_readNot 5 = .ok (.if_icmp .ne 30, 3) := by decide +kernel
theorem dX2_readNot_8 : decode cX2_readNot 8 = .ok (.aload_n 0, 1) := by decide +kernel
theorem dX2_readNot_9 : decode cX2_readNot 9 = .ok (.iload_n 1, 1) := by decide +kernel
theorem dX2_readNot_10 : decode cX2_readNot 10 = .ok (.invokevirtual 74, 3) := by decide +kernel
theorem dX2_readNot_13 : decode cX2_readNot 13 = .ok (.ifCond .ne 4, 3) := by decide +kernel
theorem dX2_readNot_16 : decode cX2_readNot 16 = .ok (.return_, 1) := by decide +kernel
theorem dX2_readNot_17 : decode cX2_readNot 17 = .ok (.aload_n 0, 1) := by decide +kernel
theorem dX2_readNot_18 : decode cX2_readNot 18 = .ok (.invokevirtual 65, 3) := by decide +kernel
theorem dX2_readNot_21 : decode cX2_readNot 21 = .ok (.aload_n 0, 1) := by decide +kernel
theorem dX2_readNot_22 : decode cX2_readNot 22 = .ok (.iload_n 1, 1) := by decide +kernel
theorem dX2_readNot_23 : decode cX2_readNot 23 = .ok (.iconst 1, 1) := by decide +kernel
theorem dX2_readNot_24 : decode cX2_readNot 24 = .ok (.iadd, 1) := by decide +kernel
theorem dX2_readNot_25 : decode cX2_readNot 25 = .ok (.invokevirtual 71, 3) := by decide +kernel
theorem dX2_readNot_28 : decode cX2_readNot 28 = .ok (.aload_n 0, 1) := by decide +kernel
theorem dX2_readNot_29 : decode cX2_readNot 29 = .ok (.bipush (-18), 2) := by decide +kernel
theorem dX2_readNot_31 : decode cX2_readNot 31 = .ok (.invokevirtual 68, 3) := by decide +kernel
theorem dX2_readNot_34 : decode cX2_readNot 34 = .ok (.return_, 1) := by decide +kernel
theorem dX2_readNot_35 : decode cX2_readNot 35 = .ok (.aload_n 0, 1) := by decide +kernel
theorem dX2_readNot_36 : decode cX2_readNot 36 = .ok (.iload_n 1, 1) := by decide +kernel
theorem dX2_readNot_37 : decode cX2_readNot 37 = .ok (.invokevirtual 78, 3) := by decide +kernel
theorem dX2_readNot_40 : decode cX2_readNot 40 = .ok (.aload_n 0, 1) := by decide +kernel
theorem dX2_readNot_41 : decode cX2_readNot 41 = .ok (.getfield 41, 3) := by decide +kernel
theorem dX2_readNot_44 : decode cX2_readNot 44 = .ok (.bipush 60, 2) := by decide +kernel
theorem dX2_readNot_46 : decode cX2_readNot 46 = .ok (.if_icmp .eq 13, 3) := by decide +kernel
theorem dX2_readNot_49 : decode cX2_readNot 49 = .ok (.aload_n 0, 1) := by decide +kernel
theorem dX2_readNot_50 : decode cX2_readNot 50 = .ok (.getfield 41, 3) := by decide +kernel
theorem dX2_readNot_53 : decode cX2_readNot 53 = .ok (.bipush 61, 2) := by decide +kernel
theorem dX2_readNot_55 : decode cX2_readNot 55 = .ok (.if_icmp .eq 4, 3) := by decide +kernel
theorem dX2_readNot_58 : decode cX2_readNot 58 = .ok (.return_, 1) := by decide +kernel
theorem dX2_readNot_59 : decode cX2_readNot 59 = .ok (.aload_n 0, 1) := by decide +kernel
theorem dX2_readNot_60 : decode cX2_readNot 60 = .ok (.getfield 41, 3) := by decide +kernel
theorem dX2_readNot_63 : decode cX2_readNot 63 = .ok (.bipush 60, 2) := by decide +kernel
theorem dX2_readNot_65 : decode cX2_readNot 65 = .ok (.if_icmp .ne 8, 3) := by decide +kernel
theorem dX2_readNot_68 : decode cX2_readNot 68 = .ok (.bipush (-14), 2) := by decide +kernel
theorem dX2_readNot_70 : decode cX2_readNot 70 = .ok (.goto 5, 3) := by decide +kernel
theorem dX2_readNot_73 : decode cX2_readNot 73 = .ok (.bipush (-15), 2) := by decide +kernel
theorem dX2_readNot_75 : decode cX2_readNot 75 = .ok (.istore_n 2, 1) := by decide +kernel
theorem dX2_readNot_76 : decode cX2_readNot 76 = .ok (.aload_n 0, 1) := by decide +kernel
theorem dX2_readNot_77 : decode cX2_readNot 77 = .ok (.invokevirtual 65, 3) := by decide +kernel
theorem dX2_readNot_80 : decode cX2_readNot 80 = .ok (.aload_n 0, 1) := by decide +kernel
theorem dX2_readNot_81 : decode cX2_readNot 81 = .ok (.iload_n 1, 1) := by decide +kernel
theorem dX2_readNot_82 : decode cX2_readNot 82 = .ok (.invokevirtual 78, 3) := by decide +kernel
theorem dX2_readNot_85 : decode cX2_readNot 85 = .ok (.aload_n 0, 1) := by decide +kernel
theorem dX2_readNot_86 : decode cX2_readNot 86 = .ok (.iload_n 2, 1) := by decide +kernel
theorem dX2_readNot_87 : decode cX2_readNot 87 = .ok (.invokevirtual 68, 3) := by decide +kernel
theorem dX2_readNot_90 : decode cX2_readNot 90 = .ok (.return_, 1) := by decide +kernel
theorem dX2_readSum_0 : decode cX2_readSum 0 = .ok (.aload_n 0, 1) := by decide +kernel
theorem dX2_readSum_1 : decode cX2_readSum 1 = .ok (.iload_n 1, 1) := by decide +kernel
theorem dX2_readSum_2 : decode cX2_readSum 2 = .ok (.invokevirtual 81, 3) := by decide +kernel
theorem dX2_readSum_5 : decode cX2_readSum 5 = .ok (.iconst 0, 1) := by decide +kernel
theorem dX2_readSum_6 : decode cX2_readSum 6 = .ok (.istore_n 2, 1) := by decide +kernel
theorem dX2_readSum_7 : decode cX2_readSum 7 = .ok (.iload_n 2, 1) := by decide +kernel
theorem dX2_readSum_8 : decode cX2_readSum 8 = .ok (.sipush 160, 3) := by decide +kernel
theorem dX2_readSum_11 : decode cX2_readSum 11 = .ok (.if_icmp .ge 58, 3) := by decide +kernel
theorem dX2_readSum_14 : decode cX2_readSum 14 = .ok (.aload_n 0, 1) := by decide +kernel
theorem dX2_readSum_15 : decode cX2_readSum 15 = .ok (.getfield 41, 3) := by decide +kernel
theorem dX2_readSum_18 : decode cX2_readSum 18 = .ok (.bipush 43, 2) := by decide +kernel
theorem dX2_readSum_20 : decode cX2_readSum 20 = .ok (.if_icmp .eq 12, 3) := by decide +kernel
theorem dX2_readSum_23 : decode cX2_readSum 23 = .ok (.aload_n 0, 1) := by decide +kernel
theorem dX2_readSum_24 : decode cX2_readSum 24 = .ok (.getfield 41, 3) := by decide +kernel
theorem dX2_readSum_27 : decode cX2_readSum 27 = .ok (.bipush 45, 2) := by decide +kernel
theorem dX2_readSum_29 : decode cX2_readSum 29 = .ok (.if_icmp .ne 40, 3) := by decide +kernel
theorem dX2_readSum_32 : decode cX2_readSum 32 = .ok (.aload_n 0, 1) := by decide +kernel
theorem dX2_readSum_33 : decode cX2_readSum 33 = .ok (.getfield 41, 3) := by decide +kernel
theorem dX2_readSum_36 : decode cX2_readSum 36 = .ok (.bipush 43, 2) := by decide +kernel
theorem dX2_readSum_38 : decode cX2_readSum 38 = .ok (.if_icmp .ne 8, 3) := by decide +kernel
theorem dX2_readSum_41 : decode cX2_readSum 41 = .ok (.bipush (-11), 2) := by decide +kernel
theorem dX2_readSum_43 : decode cX2_readSum 43 = .ok (.goto 5, 3) := by decide +kernel
theorem dX2_readSum_46 : decode cX2_readSum 46 = .ok (.bipush (-12), 2) := by decide +kernel
theorem dX2_readSum_48 : decode cX2_readSum 48 = .ok (.istore_n 3, 1) := by decide +kernel
theorem dX2_readSum_49 : decode cX2_readSum 49 = .ok (.aload_n 0, 1) := by decide +kernel
theorem dX2_readSum_50 : decode cX2_readSum 50 = .ok (.invokevirtual 65, 3) := by decide +kernel
theorem dX2_readSum_53 : decode cX2_readSum 53 = .ok (.aload_n 0, 1) := by decide +kernel
theorem dX2_readSum_54 : decode cX2_readSum 54 = .ok (.iload_n 1, 1) := by decide +kernel
theorem dX2_readSum_55 : decode cX2_readSum 55 = .ok (.invokevirtual 81, 3) := by decide +kernel
theorem dX2_readSum_58 : decode cX2_readSum 58 = .ok (.aload_n 0, 1) := by decide +kernel
theorem dX2_readSum_59 : decode cX2_readSum 59 = .ok (.iload_n 3, 1) := by decide +kernel
theorem dX2_readSum_60 : decode cX2_readSum 60 = .ok (.invokevirtual 68, 3) := by decide +kernel
theorem dX2_readSum_63 : decode cX2_readSum 63 = .ok (.iinc 2 1, 3) := by decide +kernel
theorem dX2_readSum_66 : decode cX2_readSum 66 = .ok (.goto (-59), 3) := by decide +kernel
theorem dX2_readSum_69 : decode cX2_readSum 69 = .ok (.return_, 1) := by decide +kernel
theorem dX2_readTerm_0 : decode cX2_readTerm 0 = .ok (.aload_n 0, 1) := by decide +kernel
theorem dX2_readTerm_1 : decode cX2_readTerm 1 = .ok (.iload_n 1, 1) := by decide +kernel
theorem dX2_readTerm_2 : decode cX2_readTerm 2 = .ok (.invokevirtual 84, 3) := by decide +kernel
theorem dX2_readTerm_5 : decode cX2_readTerm 5 = .ok (.iconst 0, 1) := by decide +kernel
theorem dX2_readTerm_6 : decode cX2_readTerm 6 = .ok (.istore_n 2, 1) := by decide +kernel
theorem dX2_readTerm_7 : decode cX2_readTerm 7 = .ok (.iload_n 2, 1) := by decide +kernel
theorem dX2_readTerm_8 : decode cX2_readTerm 8 = .ok (.sipush 160, 3) := by decide +kernel
theorem dX2_readTerm_11 : decode cX2_readTerm 11 = .ok (.if_icmp .ge 33, 3) := by decide +kernel
theorem dX2_readTerm_14 : decode cX2_readTerm 14 = .ok (.aload_n 0, 1) := by decide +kernel
theorem dX2_readTerm_15 : decode cX2_readTerm 15 = .ok (.getfield 41, 3) := by decide +kernel
theorem dX2_readTerm_18 : decode cX2_readTerm 18 = .ok (.bipush 42, 2) := by decide +kernel
theorem dX2_readTerm_20 : decode cX2_readTerm 20 = .ok (.if_icmp .ne 24, 3) := by decide +kernel
theorem dX2_readTerm_23 : decode cX2_readTerm 23 = .ok (.aload_n 0, 1) := by decide +kernel
theorem dX2_readTerm_24 : decode cX2_readTerm 24 = .ok (.invokevirtual 65, 3) := by decide +kernel
theorem dX2_readTerm_27 : decode cX2_readTerm 27 = .ok (.aload_n 0, 1) := by decide +kernel
theorem dX2_readTerm_28 : decode cX2_readTerm 28 = .ok (.iload_n 1, 1) := by decide +kernel
theorem dX2_readTerm_29 : decode cX2_readTerm 29 = .ok (.invokevirtual 84, 3) := by decide +kernel
theorem dX2_readTerm_32 : decode cX2_readTerm 32 = .ok (.aload_n 0, 1) := by decide +kernel
theorem dX2_readTerm_33 : decode cX2_readTerm 33 = .ok (.bipush (-13), 2) := by decide +kernel
theorem dX2_readTerm_35 : decode cX2_readTerm 35 = .ok (.invokevirtual 68, 3) := by decide +kernel
theorem dX2_readTerm_38 : decode cX2_readTerm 38 = .ok (.iinc 2 1, 3) := by decide +kernel
theorem dX2_readTerm_41 : decode cX2_readTerm 41 = .ok (.goto (-34), 3) := by decide +kernel
theorem dX2_readTerm_44 : decode cX2_readTerm 44 = .ok (.return_, 1) := by decide +kernel
theorem dX2_readOne_0 : decode cX2_readOne 0 = .ok (.aload_n 0, 1) := by decide +kernel
theorem dX2_readOne_1 : decode cX2_readOne 1 = .ok (.getfield 41, 3) := by decide +kernel
theorem dX2_readOne_4 : decode cX2_readOne 4 = .ok (.bipush 7, 2) := by decide +kernel
theorem dX2_readOne_6 : decode cX2_readOne 6 = .ok (.if_icmp .eq 13, 3) := by decide +kernel
theorem dX2_readOne_9 : decode cX2_readOne 9 = .ok (.aload_n 0, 1) := by decide +kernel
theorem dX2_readOne_10 : decode cX2_readOne 10 = .ok (.getfield 41, 3) := by decide +kernel
theorem dX2_readOne_13 : decode cX2_readOne 13 = .ok (.invokestatic 87, 3) := by decide +kernel
theorem dX2_readOne_16 : decode cX2_readOne 16 = .ok (.ifCond .eq 41, 3) := by decide +kernel
theorem dX2_readOne_19 : decode cX2_readOne 19 = .ok (.aload_n 0, 1) := by decide +kernel
theorem dX2_readOne_20 : decode cX2_readOne 20 = .ok (.aload_n 0, 1) := by decide +kernel
theorem dX2_readOne_21 : decode cX2_readOne 21 = .ok (.getfield 41, 3) := by decide +kernel
theorem dX2_readOne_24 : decode cX2_readOne 24 = .ok (.bipush 7, 2) := by decide +kernel
theorem dX2_readOne_26 : decode cX2_readOne 26 = .ok (.if_icmp .ne 17, 3) := by decide +kernel
theorem dX2_readOne_29 : decode cX2_readOne 29 = .ok (.aload_n 0, 1) := by decide +kernel
theorem dX2_readOne_30 : decode cX2_readOne 30 = .ok (.getfield 14, 3) := by decide +kernel
theorem dX2_readOne_33 : decode cX2_readOne 33 = .ok (.aload_n 0, 1) := by decide +kernel
theorem dX2_readOne_34 : decode cX2_readOne 34 = .ok (.getfield 33, 3) := by decide +kernel
theorem dX2_readOne_37 : decode cX2_readOne 37 = .ok (.invokevirtual 90, 3) := by decide +kernel
theorem dX2_readOne_40 : decode cX2_readOne 40 = .ok (.goto 7, 3) := by decide +kernel
theorem dX2_readOne_43 : decode cX2_readOne 43 = .ok (.aload_n 0, 1) := by decide +kernel
theorem dX2_readOne_44 : decode cX2_readOne 44 = .ok (.getfield 41, 3) := by decide +kernel
theorem dX2_readOne_47 : decode cX2_readOne 47 = .ok (.invokevirtual 68, 3) := by decide +kernel
theorem dX2_readOne_50 : decode cX2_readOne 50 = .ok (.aload_n 0, 1) := by decide +kernel
theorem dX2_readOne_51 : decode cX2_readOne 51 = .ok (.invokevirtual 65, 3) := by decide +kernel
theorem dX2_readOne_54 : decode cX2_readOne 54 = .ok (.goto 81, 3) := by decide +kernel
theorem dX2_readOne_57 : decode cX2_readOne 57 = .ok (.aload_n 0, 1) := by decide +kernel
theorem dX2_readOne_58 : decode cX2_readOne 58 = .ok (.getfield 41, 3) := by decide +kernel
theorem dX2_readOne_61 : decode cX2_readOne 61 = .ok (.bipush 45, 2) := by decide +kernel
theorem dX2_readOne_63 : decode cX2_readOne 63 = .ok (.if_icmp .ne 31, 3) := by decide +kernel
theorem dX2_readOne_66 : decode cX2_readOne 66 = .ok (.aload_n 0, 1) := by decide +kernel
theorem dX2_readOne_67 : decode cX2_readOne 67 = .ok (.iload_n 1, 1) := by decide +kernel
theorem dX2_readOne_68 : decode cX2_readOne 68 = .ok (.invokevirtual 74, 3) := by decide +kernel
theorem dX2_readOne_71 : decode cX2_readOne 71 = .ok (.ifCond .eq 23, 3) := by decide +kernel
theorem dX2_readOne_74 : decode cX2_readOne 74 = .ok (.aload_n 0, 1) := by decide +kernel
theorem dX2_readOne_75 : decode cX2_readOne 75 = .ok (.invokevirtual 65, 3) := by decide +kernel
theorem dX2_readOne_78 : decode cX2_readOne 78 = .ok (.aload_n 0, 1) := by decide +kernel
theorem dX2_readOne_79 : decode cX2_readOne 79 = .ok (.iload_n 1, 1) := by decide +kernel
theorem dX2_readOne_80 : decode cX2_readOne 80 = .ok (.iconst 1, 1) := by decide +kernel
theorem dX2_readOne_81 : decode cX2_readOne 81 = .ok (.iadd, 1) := by decide +kernel
theorem dX2_readOne_82 : decode cX2_readOne 82 = .ok (.invokevirtual 84, 3) := by decide +kernel
theorem dX2_readOne_85 : decode cX2_readOne 85 = .ok (.aload_n 0, 1) := by decide +kernel
theorem dX2_readOne_86 : decode cX2_readOne 86 = .ok (.bipush (-19), 2) := by decide +kernel
theorem dX2_readOne_88 : decode cX2_readOne 88 = .ok (.invokevirtual 68, 3) := by decide +kernel
theorem dX2_readOne_91 : decode cX2_readOne 91 = .ok (.goto 44, 3) := by decide +kernel
theorem dX2_readOne_94 : decode cX2_readOne 94 = .ok (.aload_n 0, 1) := by decide +kernel
theorem dX2_readOne_95 : decode cX2_readOne 95 = .ok (.getfield 41, 3) := by decide +kernel
theorem dX2_readOne_98 : decode cX2_readOne 98 = .ok (.bipush 40, 2) := by decide +kernel
theorem dX2_readOne_100 : decode cX2_readOne 100 = .ok (.if_icmp .ne 31, 3) := by decide +kernel
theorem dX2_readOne_103 : decode cX2_readOne 103 = .ok (.aload_n 0, 1) := by decide +kernel
theorem dX2_readOne_104 : decode cX2_readOne 104 = .ok (.iload_n 1, 1) := by decide +kernel
theorem dX2_readOne_105 : decode cX2_readOne 105 = .ok (.invokevirtual 74, 3) := by decide +kernel
theorem dX2_readOne_108 : decode cX2_readOne 108 = .ok (.ifCond .eq 23, 3) := by decide +kernel
theorem dX2_readOne_111 : decode cX2_readOne 111 = .ok (.aload_n 0, 1) := by decide +kernel
theorem dX2_readOne_112 : decode cX2_readOne 112 = .ok (.invokevirtual 65, 3) := by decide +kernel
theorem dX2_readOne_115 : decode cX2_readOne 115 = .ok (.aload_n 0, 1) := by decide +kernel
theorem dX2_readOne_116 : decode cX2_readOne 116 = .ok (.iload_n 1, 1) := by decide +kernel
theorem dX2_readOne_117 : decode cX2_readOne 117 = .ok (.iconst 1, 1) := by decide +kernel
theorem dX2_readOne_118 : decode cX2_readOne 118 = .ok (.iadd, 1) := by decide +kernel
theorem dX2_readOne_119 : decode cX2_readOne 119 = .ok (.invokevirtual 56, 3) := by decide +kernel
theorem dX2_readOne_122 : decode cX2_readOne 122 = .ok (.aload_n 0, 1) := by decide +kernel
theorem dX2_readOne_123 : decode cX2_readOne 123 = .ok (.bipush 41, 2) := by decide +kernel
theorem dX2_readOne_125 : decode cX2_readOne 125 = .ok (.invokevirtual 53, 3) := by decide +kernel
theorem dX2_readOne_128 : decode cX2_readOne 128 = .ok (.goto 7, 3) := by decide +kernel
theorem dX2_readOne_131 : decode cX2_readOne 131 = .ok (.aload_n 0, 1) := by decide +kernel
theorem dX2_readOne_132 : decode cX2_readOne 132 = .ok (.invokevirtual 50, 3) := by decide +kernel
theorem dX2_readOne_135 : decode cX2_readOne 135 = .ok (.return_, 1) := by decide +kernel
theorem dX2_mayOpen_0 : decode cX2_mayOpen 0 = .ok (.iload_n 1, 1) := by decide +kernel
theorem dX2_mayOpen_1 : decode cX2_mayOpen 1 = .ok (.iconst 5, 1) := by decide +kernel
theorem dX2_mayOpen_2 : decode cX2_mayOpen 2 = .ok (.if_icmp .ge 5, 3) := by decide +kernel
theorem dX2_mayOpen_5 : decode cX2_mayOpen 5 = .ok (.iconst 1, 1) := by decide +kernel
theorem dX2_mayOpen_6 : decode cX2_mayOpen 6 = .ok (.ireturn, 1) := by decide +kernel
theorem dX2_mayOpen_7 : decode cX2_mayOpen 7 = .ok (.aload_n 0, 1) := by decide +kernel
theorem dX2_mayOpen_8 : decode cX2_mayOpen 8 = .ok (.invokevirtual 50, 3) := by decide +kernel
theorem dX2_mayOpen_11 : decode cX2_mayOpen 11 = .ok (.iconst 0, 1) := by decide +kernel
theorem dX2_mayOpen_12 : decode cX2_mayOpen 12 = .ok (.ireturn, 1) := by decide +kernel
theorem dX2_expect_0 : decode cX2_expect 0 = .ok (.aload_n 0, 1) := by decide +kernel
theorem dX2_expect_1 : decode cX2_expect 1 = .ok (.getfield 41, 3) := by decide +kernel
theorem dX2_expect_4 : decode cX2_expect 4 = .ok (.iload_n 1, 1) := by decide +kernel
theorem dX2_expect_5 : decode cX2_expect 5 = .ok (.if_icmp .ne 10, 3) := by decide +kernel
theorem dX2_expect_8 : decode cX2_expect 8 = .ok (.aload_n 0, 1) := by decide +kernel
theorem dX2_expect_9 : decode cX2_expect 9 = .ok (.invokevirtual 65, 3) := by decide +kernel
theorem dX2_expect_12 : decode cX2_expect 12 = .ok (.goto 7, 3) := by decide +kernel
theorem dX2_expect_15 : decode cX2_expect 15 = .ok (.aload_n 0, 1) := by decide +kernel
theorem dX2_expect_16 : decode cX2_expect 16 = .ok (.invokevirtual 50, 3) := by decide +kernel
theorem dX2_expect_19 : decode cX2_expect 19 = .ok (.return_, 1) := by decide +kernel
theorem dX2_fail_0 : decode cX2_fail 0 = .ok (.aload_n 0, 1) := by decide +kernel
theorem dX2_fail_1 : decode cX2_fail 1 = .ok (.getfield 44, 3) := by decide +kernel
theorem dX2_fail_4 : decode cX2_fail 4 = .ok (.iconst (-1), 1) := by decide +kernel
theorem dX2_fail_5 : decode cX2_fail 5 = .ok (.if_icmp .ne 18, 3) := by decide +kernel
theorem dX2_fail_8 : decode cX2_fail 8 = .ok (.aload_n 0, 1) := by decide +kernel
theorem dX2_fail_9 : decode cX2_fail 9 = .ok (.aload_n 0, 1) := by decide +kernel
theorem dX2_fail_10 : decode cX2_fail 10 = .ok (.getfield 14, 3) := by decide +kernel
theorem dX2_fail_13 : decode cX2_fail 13 = .ok (.aload_n 0, 1) := by decide +kernel
theorem dX2_fail_14 : decode cX2_fail 14 = .ok (.getfield 33, 3) := by decide +kernel
theorem dX2_fail_17 : decode cX2_fail 17 = .ok (.invokevirtual 93, 3) := by decide +kernel
theorem dX2_fail_20 : decode cX2_fail 20 = .ok (.putfield 44, 3) := by decide +kernel
theorem dX2_fail_23 : decode cX2_fail 23 = .ok (.aload_n 0, 1) := by decide +kernel
theorem dX2_fail_24 : decode cX2_fail 24 = .ok (.bipush 9, 2) := by decide +kernel
theorem dX2_fail_26 : decode cX2_fail 26 = .ok (.putfield 41, 3) := by decide +kernel
theorem dX2_fail_29 : decode cX2_fail 29 = .ok (.return_, 1) := by decide +kernel
theorem dX2_add_0 : decode cX2_add 0 = .ok (.aload_n 0, 1) := by decide +kernel
theorem dX2_add_1 : decode cX2_add 1 = .ok (.getfield 25, 3) := by decide +kernel
theorem dX2_add_4 : decode cX2_add 4 = .ok (.ifnull 11, 3) := by decide +kernel
theorem dX2_add_7 : decode cX2_add 7 = .ok (.aload_n 0, 1) := by decide +kernel
theorem dX2_add_8 : decode cX2_add 8 = .ok (.getfield 25, 3) := by decide +kernel
theorem dX2_add_11 : decode cX2_add 11 = .ok (.iload_n 1, 1) := by decide +kernel
theorem dX2_add_12 : decode cX2_add 12 = .ok (.invokevirtual 96, 3) := by decide +kernel
theorem dX2_add_15 : decode cX2_add 15 = .ok (.return_, 1) := by decide +kernel
theorem dX2_advance_0 : decode cX2_advance 0 = .ok (.aload_n 0, 1) := by decide +kernel
theorem dX2_advance_1 : decode cX2_advance 1 = .ok (.dup, 1) := by decide +kernel
theorem dX2_advance_2 : decode cX2_advance 2 = .ok (.getfield 33, 3) := by decide +kernel
theorem dX2_advance_5 : decode cX2_advance 5 = .ok (.iconst 1, 1) := by decide +kernel
theorem dX2_advance_6 : decode cX2_advance 6 = .ok (.iadd, 1) := by decide +kernel
theorem dX2_advance_7 : decode cX2_advance 7 = .ok (.putfield 33, 3) := by decide +kernel
theorem dX2_advance_10 : decode cX2_advance 10 = .ok (.aload_n 0, 1) := by decide +kernel
theorem dX2_advance_11 : decode cX2_advance 11 = .ok (.aload_n 0, 1) := by decide +kernel
theorem dX2_advance_12 : decode cX2_advance 12 = .ok (.getfield 14, 3) := by decide +kernel
theorem dX2_advance_15 : decode cX2_advance 15 = .ok (.aload_n 0, 1) := by decide +kernel
theorem dX2_advance_16 : decode cX2_advance 16 = .ok (.getfield 33, 3) := by decide +kernel
theorem dX2_advance_19 : decode cX2_advance 19 = .ok (.invokevirtual 37, 3) := by decide +kernel
theorem dX2_advance_22 : decode cX2_advance 22 = .ok (.putfield 41, 3) := by decide +kernel
theorem dX2_advance_25 : decode cX2_advance 25 = .ok (.return_, 1) := by decide +kernel
theorem dX3_init_0 : decode cX3_init 0 = .ok (.aload_n 0, 1) := by decide +kernel
theorem dX3_init_1 : decode cX3_init 1 = .ok (.invokespecial 3, 3) := by decide +kernel
theorem dX3_init_4 : decode cX3_init 4 = .ok (.aload_n 0, 1) := by decide +kernel
theorem dX3_init_5 : decode cX3_init 5 = .ok (.bipush 40, 2) := by decide +kernel
theorem dX3_init_7 : decode cX3_init 7 = .ok (.newarray .int, 2) := by decide +kernel
theorem dX3_init_9 : decode cX3_init 9 = .ok (.putfield 9, 3) := by decide +kernel
theorem dX3_init_12 : decode cX3_init 12 = .ok (.aload_n 0, 1) := by decide +kernel
theorem dX3_init_13 : decode cX3_init 13 = .ok (.iconst (-1), 1) := by decide +kernel
theorem dX3_init_14 : decode cX3_init 14 = .ok (.putfield 15, 3) := by decide +kernel
theorem dX3_init_17 : decode cX3_init 17 = .ok (.return_, 1) := by decide +kernel
theorem dX3_become_0 : decode cX3_become 0 = .ok (.aload_n 0, 1) := by decide +kernel
theorem dX3_become_1 : decode cX3_become 1 = .ok (.iload_n 1, 1) := by decide +kernel
theorem dX3_become_2 : decode cX3_become 2 = .ok (.putfield 15, 3) := by decide +kernel
theorem dX3_become_5 : decode cX3_become 5 = .ok (.aload_n 0, 1) := by decide +kernel
theorem dX3_become_6 : decode cX3_become 6 = .ok (.iconst 0, 1) := by decide +kernel
theorem dX3_become_7 : decode cX3_become 7 = .ok (.iload_n 2, 1) := by decide +kernel
theorem dX3_become_8 : decode cX3_become 8 = .ok (.aload_n 0, 1) := by decide +kernel
theorem dX3_become_9 : decode cX3_become 9 = .ok (.getfield 9, 3) := by decide +kernel
theorem dX3_become_12 : decode cX3_become 12 = .ok (.arraylength, 1) := by decide +kernel
theorem dX3_become_13 : decode cX3_become 13 = .ok (.invokestatic 19, 3) := by decide +kernel
theorem dX3_become_16 : decode cX3_become 16 = .ok (.invokestatic 25, 3) := by decide +kernel
theorem dX3_become_19 : decode cX3_become 19 = .ok (.putfield 28, 3) := by decide +kernel
theorem dX3_become_22 : decode cX3_become 22 = .ok (.iconst 0, 1) := by decide +kernel
theorem dX3_become_23 : decode cX3_become 23 = .ok (.istore_n 3, 1) := by decide +kernel
theorem dX3_become_24 : decode cX3_become 24 = .ok (.iload_n 3, 1) := by decide +kernel
theorem dX3_become_25 : decode cX3_become 25 = .ok (.aload_n 0, 1) := by decide +kernel
theorem dX3_become_26 : decode cX3_become 26 = .ok (.getfield 9, 3) := by decide +kernel
theorem dX3_become_29 : decode cX3_become 29 = .ok (.arraylength, 1) := by decide +kernel
theorem dX3_become_30 : decode cX3_become 30 = .ok (.if_icmp .ge 16, 3) := by decide +kernel
theorem dX3_become_33 : decode cX3_become 33 = .ok (.aload_n 0, 1) := by decide +kernel
theorem dX3_become_34 : decode cX3_become 34 = .ok (.getfield 9, 3) := by decide +kernel
theorem dX3_become_37 : decode cX3_become 37 = .ok (.iload_n 3, 1) := by decide +kernel
theorem dX3_become_38 : decode cX3_become 38 = .ok (.iconst 0, 1) := by decide +kernel
theorem dX3_become_39 : decode cX3_become 39 = .ok (.iastore, 1) := by decide +kernel
theorem dX3_become_40 : decode cX3_become 40 = .ok (.iinc 3 1, 3) := by decide +kernel
theorem dX3_become_43 : decode cX3_become 43 = .ok (.goto (-19), 3) := by decide +kernel
theorem dX3_become_46 : decode cX3_become 46 = .ok (.return_, 1) := by decide +kernel
theorem dX3_isMissing_0 : decode cX3_isMissing 0 = .ok (.aload_n 0, 1) := by decide +kernel
theorem dX3_isMissing_1 : decode cX3_isMissing 1 = .ok (.getfield 15, 3) := by decide +kernel
theorem dX3_isMissing_4 : decode cX3_isMissing 4 = .ok (.iconst (-1), 1) := by decide +kernel
theorem dX3_isMissing_5 : decode cX3_isMissing 5 = .ok (.if_icmp .ne 7, 3) := by decide +kernel
theorem dX3_isMissing_8 : decode cX3_isMissing 8 = .ok (.iconst 1, 1) := by decide +kernel
theorem dX3_isMissing_9 : decode cX3_isMissing 9 = .ok (.goto 4, 3) := by decide +kernel
theorem dX3_isMissing_12 : decode cX3_isMissing 12 = .ok (.iconst 0, 1) := by decide +kernel
theorem dX3_isMissing_13 : decode cX3_isMissing 13 = .ok (.ireturn, 1) := by decide +kernel
theorem dX3_holds_0 : decode cX3_holds 0 = .ok (.iload_n 1, 1) := by decide +kernel
theorem dX3_holds_1 : decode cX3_holds 1 = .ok (.ifCond .lt 21, 3) := by decide +kernel
theorem dX3_holds_4 : decode cX3_holds 4 = .ok (.iload_n 2, 1) := by decide +kernel
theorem dX3_holds_5 : decode cX3_holds 5 = .ok (.ifCond .lt 17, 3) := by decide +kernel
theorem dX3_holds_8 : decode cX3_holds 8 = .ok (.iload_n 1, 1) := by decide +kernel
theorem dX3_holds_9 : decode cX3_holds 9 = .ok (.aload_n 0, 1) := by decide +kernel
theorem dX3_holds_10 : decode cX3_holds 10 = .ok (.getfield 28, 3) := by decide +kernel
theorem dX3_holds_13 : decode cX3_holds 13 = .ok (.iload_n 2, 1) := by decide +kernel
theorem dX3_holds_14 : decode cX3_holds 14 = .ok (.isub, 1) := by decide +kernel
theorem dX3_holds_15 : decode cX3_holds 15 = .ok (.if_icmp .gt 7, 3) := by decide +kernel
theorem dX3_holds_18 : decode cX3_holds 18 = .ok (.iconst 1, 1) := by decide +kernel
theorem dX3_holds_19 : decode cX3_holds 19 = .ok (.goto 4, 3) := by decide +kernel
theorem dX3_holds_22 : decode cX3_holds 22 = .ok (.iconst 0, 1) := by decide +kernel
theorem dX3_holds_23 : decode cX3_holds 23 = .ok (.ireturn, 1) := by decide +kernel
theorem dX3_at_0 : decode cX3_at 0 = .ok (.iload_n 1, 1) := by decide +kernel
theorem dX3_at_1 : decode cX3_at 1 = .ok (.ifCond .lt 29, 3) := by decide +kernel
theorem dX3_at_4 : decode cX3_at 4 = .ok (.iload_n 1, 1) := by decide +kernel
theorem dX3_at_5 : decode cX3_at 5 = .ok (.aload_n 0, 1) := by decide +kernel
theorem dX3_at_6 : decode cX3_at 6 = .ok (.getfield 28, 3) := by decide +kernel
theorem dX3_at_9 : decode cX3_at 9 = .ok (.if_icmp .ge 21, 3) := by decide +kernel
theorem dX3_at_12 : decode cX3_at 12 = .ok (.iload_n 1, 1) := by decide +kernel
theorem dX3_at_13 : decode cX3_at 13 = .ok (.aload_n 0, 1) := by decide +kernel
theorem dX3_at_14 : decode cX3_at 14 = .ok (.getfield 9, 3) := by decide +kernel
theorem dX3_at_17 : decode cX3_at 17 = .ok (.arraylength, 1) := by decide +kernel
theorem dX3_at_18 : decode cX3_at 18 = .ok (.if_icmp .ge 12, 3) := by decide +kernel
theorem dX3_at_21 : decode cX3_at 21 = .ok (.aload_n 0, 1) := by decide +kernel
theorem dX3_at_22 : decode cX3_at 22 = .ok (.getfield 9, 3) := by decide +kernel
theorem dX3_at_25 : decode cX3_at 25 = .ok (.iload_n 1, 1) := by decide +kernel
theorem dX3_at_26 : decode cX3_at 26 = .ok (.iaload, 1) := by decide +kernel
theorem dX3_at_27 : decode cX3_at 27 = .ok (.goto 4, 3) := by decide +kernel
theorem dX3_at_30 : decode cX3_at 30 = .ok (.iconst 0, 1) := by decide +kernel
theorem dX3_at_31 : decode cX3_at 31 = .ok (.ireturn, 1) := by decide +kernel
theorem dX3_put_0 : decode cX3_put 0 = .ok (.iload_n 1, 1) := by decide +kernel
theorem dX3_put_1 : decode cX3_put 1 = .ok (.ifCond .lt 20, 3) := by decide +kernel
theorem dX3_put_4 : decode cX3_put 4 = .ok (.iload_n 1, 1) := by decide +kernel
theorem dX3_put_5 : decode cX3_put 5 = .ok (.aload_n 0, 1) := by decide +kernel
theorem dX3_put_6 : decode cX3_put 6 = .ok (.getfield 28, 3) := by decide +kernel
theorem dX3_put_9 : decode cX3_put 9 = .ok (.if_icmp .ge 12, 3) := by decide +kernel
theorem dX3_put_12 : decode cX3_put 12 = .ok (.iload_n 1, 1) := by decide +kernel
theorem dX3_put_13 : decode cX3_put 13 = .ok (.aload_n 0, 1) := by decide +kernel
theorem dX3_put_14 : decode cX3_put 14 = .ok (.getfield 9, 3) := by decide +kernel
theorem dX3_put_17 : decode cX3_put 17 = .ok (.arraylength, 1) := by decide +kernel
theorem dX3_put_18 : decode cX3_put 18 = .ok (.if_icmp .lt 4, 3) := by decide +kernel
theorem dX3_put_21 : decode cX3_put 21 = .ok (.return_, 1) := by decide +kernel
theorem dX3_put_22 : decode cX3_put 22 = .ok (.aload_n 0, 1) := by decide +kernel
theorem dX3_put_23 : decode cX3_put 23 = .ok (.getfield 9, 3) := by decide +kernel
theorem dX3_put_26 : decode cX3_put 26 = .ok (.iload_n 1, 1) := by decide +kernel
theorem dX3_put_27 : decode cX3_put 27 = .ok (.aload_n 0, 1) := by decide +kernel
theorem dX3_put_28 : decode cX3_put 28 = .ok (.getfield 15, 3) := by decide +kernel
theorem dX3_put_31 : decode cX3_put 31 = .ok (.ifCond .ne 8, 3) := by decide +kernel
theorem dX3_put_34 : decode cX3_put 34 = .ok (.iload_n 2, 1) := by decide +kernel
theorem dX3_put_35 : decode cX3_put 35 = .ok (.i2b, 1) := by decide +kernel
theorem dX3_put_36 : decode cX3_put 36 = .ok (.goto 17, 3) := by decide +kernel
theorem dX3_put_39 : decode cX3_put 39 = .ok (.aload_n 0, 1) := by decide +kernel
theorem dX3_put_40 : decode cX3_put 40 = .ok (.getfield 15, 3) := by decide +kernel
theorem dX3_put_43 : decode cX3_put 43 = .ok (.iconst 1, 1) := by decide +kernel
theorem dX3_put_44 : decode cX3_put 44 = .ok (.if_icmp .ne 8, 3) := by decide +kernel
theorem dX3_put_47 : decode cX3_put 47 = .ok (.iload_n 2, 1) := by decide +kernel
theorem dX3_put_48 : decode cX3_put 48 = .ok (.i2s, 1) := by decide +kernel
theorem dX3_put_49 : decode cX3_put 49 = .ok (.goto 4, 3) := by decide +kernel
theorem dX3_put_52 : decode cX3_put 52 = .ok (.iload_n 2, 1) := by decide +kernel
theorem dX3_put_53 : decode cX3_put 53 = .ok (.iastore, 1) := by decide +kernel
theorem dX3_put_54 : decode cX3_put 54 = .ok (.return_, 1) := by decide +kernel
theorem dX4_init_0 : decode cX4_init 0 = .ok (.aload_n 0, 1) := by decide +kernel
theorem dX4_init_1 : decode cX4_init 1 = .ok (.invokespecial 3, 3) := by decide +kernel
theorem dX4_init_4 : decode cX4_init 4 = .ok (.aload_n 0, 1) := by decide +kernel
theorem dX4_init_5 : decode cX4_init 5 = .ok (.sipush 160, 3) := by decide +kernel
theorem dX4_init_8 : decode cX4_init 8 = .ok (.newarray .int, 2) := by decide +kernel
theorem dX4_init_10 : decode cX4_init 10 = .ok (.putfield 9, 3) := by decide +kernel
theorem dX4_init_13 : decode cX4_init 13 = .ok (.aload_n 0, 1) := by decide +kernel
theorem dX4_init_14 : decode cX4_init 14 = .ok (.iconst 3, 1) := by decide +kernel
theorem dX4_init_15 : decode cX4_init 15 = .ok (.newarray .int, 2) := by decide +kernel
theorem dX4_init_17 : decode cX4_init 17 = .ok (.putfield 15, 3) := by decide +kernel
theorem dX4_init_20 : decode cX4_init 20 = .ok (.aload_n 0, 1) := by decide +kernel
theorem dX4_init_21 : decode cX4_init 21 = .ok (.bipush 64, 2) := by decide +kernel
theorem dX4_init_23 : decode cX4_init 23 = .ok (.newarray .int, 2) := by decide +kernel
theorem dX4_init_25 : decode cX4_init 25 = .ok (.putfield 18, 3) := by decide +kernel
theorem dX4_init_28 : decode cX4_init 28 = .ok (.return_, 1) := by decide +kernel
theorem dX4_placeOf_0 : decode cX4_placeOf 0 = .ok (.iconst (-1), 1) := by decide +kernel
theorem dX4_placeOf_1 : decode cX4_placeOf 1 = .ok (.iload_n 0, 1) := by decide +kernel
theorem dX4_placeOf_2 : decode cX4_placeOf 2 = .ok (.isub, 1) := by decide +kernel
theorem dX4_placeOf_3 : decode cX4_placeOf 3 = .ok (.ireturn, 1) := by decide +kernel
theorem dX4_isName_0 : decode cX4_isName 0 = .ok (.iload_n 0, 1) := by decide +kernel
theorem dX4_isName_1 : decode cX4_isName 1 = .ok (.iconst (-1), 1) := by decide +kernel
theorem dX4_isName_2 : decode cX4_isName 2 = .ok (.if_icmp .gt 13, 3) := by decide +kernel
theorem dX4_isName_5 : decode cX4_isName 5 = .ok (.iload_n 0, 1) := by decide +kernel
theorem dX4_isName_6 : decode cX4_isName 6 = .ok (.bipush (-6), 2) := by decide +kernel
theorem dX4_isName_8 : decode cX4_isName 8 = .ok (.if_icmp .lt 7, 3) := by decide +kernel
theorem dX4_isName_11 : decode cX4_isName 11 = .ok (.iconst 1, 1) := by decide +kernel
theorem dX4_isName_12 : decode cX4_isName 12 = .ok (.goto 4, 3) := by decide +kernel
theorem dX4_isName_15 : decode cX4_isName 15 = .ok (.iconst 0, 1) := by decide +kernel
theorem dX4_isName_16 : decode cX4_isName 16 = .ok (.ireturn, 1) := by decide +kernel
theorem dX4_clear_0 : decode cX4_clear 0 = .ok (.aload_n 0, 1) := by decide +kernel
theorem dX4_clear_1 : decode cX4_clear 1 = .ok (.iconst 0, 1) := by decide +kernel
theorem dX4_clear_2 : decode cX4_clear 2 = .ok (.putfield 21, 3) := by decide +kernel
theorem dX4_clear_5 : decode cX4_clear 5 = .ok (.aload_n 0, 1) := by decide +kernel
theorem dX4_clear_6 : decode cX4_clear 6 = .ok (.iconst 0, 1) := by decide +kernel
theorem dX4_clear_7 : decode cX4_clear 7 = .ok (.putfield 25, 3) := by decide +kernel
theorem dX4_clear_10 : decode cX4_clear 10 = .ok (.return_, 1) := by decide +kernel
theorem dX4_add_0 : decode cX4_add 0 = .ok (.aload_n 0, 1) := by decide +kernel
theorem dX4_add_1 : decode cX4_add 1 = .ok (.getfield 21, 3) := by decide +kernel
theorem dX4_add_4 : decode cX4_add 4 = .ok (.ifCond .lt 15, 3) := by decide +kernel
theorem dX4_add_7 : decode cX4_add 7 = .ok (.aload_n 0, 1) := by decide +kernel
theorem dX4_add_8 : decode cX4_add 8 = .ok (.getfield 21, 3) := by decide +kernel
theorem dX4_add_11 : decode cX4_add 11 = .ok (.aload_n 0, 1) := by decide +kernel
theorem dX4_add_12 : decode cX4_add 12 = .ok (.getfield 9, 3) := by decide +kernel
theorem dX4_add_15 : decode cX4_add 15 = .ok (.arraylength, 1) := by decide +kernel
theorem dX4_add_16 : decode cX4_add 16 = .ok (.if_icmp .lt 4, 3) := by decide +kernel
theorem dX4_add_19 : decode cX4_add 19 = .ok (.return_, 1) := by decide +kernel
theorem dX4_add_20 : decode cX4_add 20 = .ok (.aload_n 0, 1) := by decide +kernel
theorem dX4_add_21 : decode cX4_add 21 = .ok (.getfield 9, 3) := by decide +kernel
theorem dX4_add_24 : decode cX4_add 24 = .ok (.aload_n 0, 1) := by decide +kernel
theorem dX4_add_25 : decode cX4_add 25 = .ok (.getfield 21, 3) := by decide +kernel
theorem dX4_add_28 : decode cX4_add 28 = .ok (.iload_n 1, 1) := by decide +kernel
theorem dX4_add_29 : decode cX4_add 29 = .ok (.iastore, 1) := by decide +kernel
theorem dX4_add_30 : decode cX4_add 30 = .ok (.aload_n 0, 1) := by decide +kernel
theorem dX4_add_31 : decode cX4_add 31 = .ok (.dup, 1) := by decide +kernel
theorem dX4_add_32 : decode cX4_add 32 = .ok (.getfield 21, 3) := by decide +kernel
theorem dX4_add_35 : decode cX4_add 35 = .ok (.iconst 1, 1) := by decide +kernel
theorem dX4_add_36 : decode cX4_add 36 = .ok (.iadd, 1) := by decide +kernel
theorem dX4_add_37 : decode cX4_add 37 = .ok (.putfield 21, 3) := by decide +kernel
theorem dX4_add_40 : decode cX4_add 40 = .ok (.return_, 1) := by decide +kernel
theorem dX4_endPart_0 : decode cX4_endPart 0 = .ok (.aload_n 0, 1) := by decide +kernel
theorem dX4_endPart_1 : decode cX4_endPart 1 = .ok (.getfield 25, 3) := by decide +kernel
theorem dX4_endPart_4 : decode cX4_endPart 4 = .ok (.ifCond .lt 15, 3) := by decide +kernel
theorem dX4_endPart_7 : decode cX4_endPart 7 = .ok (.aload_n 0, 1) := by decide +kernel
theorem dX4_endPart_8 : decode cX4_endPart 8 = .ok (.getfield 25, 3) := by decide +kernel
theorem dX4_endPart_11 : decode cX4_endPart 11 = .ok (.aload_n 0, 1) := by decide +kernel
theorem dX4_endPart_12 : decode cX4_endPart 12 = .ok (.getfield 15, 3) := by decide +kernel
theorem dX4_endPart_15 : decode cX4_endPart 15 = .ok (.arraylength, 1) := by decide +kernel
theorem dX4_endPart_16 : decode cX4_endPart 16 = .ok (.if_icmp .lt 4, 3) := by decide +kernel
theorem dX4_endPart_19 : decode cX4_endPart 19 = .ok (.return_, 1) := by decide +kernel
theorem dX4_endPart_20 : decode cX4_endPart 20 = .ok (.aload_n 0, 1) := by decide +kernel
theorem dX4_endPart_21 : decode cX4_endPart 21 = .ok (.getfield 15, 3) := by decide +kernel
theorem dX4_endPart_24 : decode cX4_endPart 24 = .ok (.aload_n 0, 1) := by decide +kernel
theorem dX4_endPart_25 : decode cX4_endPart 25 = .ok (.getfield 25, 3) := by decide +kernel
theorem dX4_endPart_28 : decode cX4_endPart 28 = .ok (.aload_n 0, 1) := by decide +kernel
theorem dX4_endPart_29 : decode cX4_endPart 29 = .ok (.getfield 21, 3) := by decide +kernel
theorem dX4_endPart_32 : decode cX4_endPart 32 = .ok (.iastore, 1) := by decide +kernel
theorem dX4_endPart_33 : decode cX4_endPart 33 = .ok (.aload_n 0, 1) := by decide +kernel
theorem dX4_endPart_34 : decode cX4_endPart 34 = .ok (.dup, 1) := by decide +kernel
theorem dX4_endPart_35 : decode cX4_endPart 35 = .ok (.getfield 25, 3) := by decide +kernel
theorem dX4_endPart_38 : decode cX4_endPart 38 = .ok (.iconst 1, 1) := by decide +kernel
theorem dX4_endPart_39 : decode cX4_endPart 39 = .ok (.iadd, 1) := by decide +kernel
theorem dX4_endPart_40 : decode cX4_endPart 40 = .ok (.putfield 25, 3) := by decide +kernel
theorem dX4_endPart_43 : decode cX4_endPart 43 = .ok (.return_, 1) := by decide +kernel
theorem dX4_becomeFirst_0 : decode cX4_becomeFirst 0 = .ok (.aload_n 0, 1) := by decide +kernel
theorem dX4_becomeFirst_1 : decode cX4_becomeFirst 1 = .ok (.invokevirtual 28, 3) := by decide +kernel
theorem dX4_becomeFirst_4 : decode cX4_becomeFirst 4 = .ok (.aload_n 0, 1) := by decide +kernel
theorem dX4_becomeFirst_5 : decode cX4_becomeFirst 5 = .ok (.bipush (-5), 2) := by decide +kernel
theorem dX4_becomeFirst_7 : decode cX4_becomeFirst 7 = .ok (.invokevirtual 31, 3) := by decide +kernel
theorem dX4_becomeFirst_10 : decode cX4_becomeFirst 10 = .ok (.aload_n 0, 1) := by decide +kernel
theorem dX4_becomeFirst_11 : decode cX4_becomeFirst 11 = .ok (.invokevirtual 35, 3) := by decide +kernel
theorem dX4_becomeFirst_14 : decode cX4_becomeFirst 14 = .ok (.aload_n 0, 1) := by decide +kernel
theorem dX4_becomeFirst_15 : decode cX4_becomeFirst 15 = .ok (.iconst (-1), 1) := by decide +kernel
theorem dX4_becomeFirst_16 : decode cX4_becomeFirst 16 = .ok (.invokevirtual 31, 3) := by decide +kernel
theorem dX4_becomeFirst_19 : decode cX4_becomeFirst 19 = .ok (.aload_n 0, 1) := by decide +kernel
theorem dX4_becomeFirst_20 : decode cX4_becomeFirst 20 = .ok (.invokevirtual 35, 3) := by decide +kernel
theorem dX4_becomeFirst_23 : decode cX4_becomeFirst 23 = .ok (.aload_n 0, 1) := by decide +kernel
theorem dX4_becomeFirst_24 : decode cX4_becomeFirst 24 = .ok (.bipush (-2), 2) := by decide +kernel
theorem dX4_becomeFirst_26 : decode cX4_becomeFirst 26 = .ok (.invokevirtual 31, 3) := by decide +kernel
theorem dX4_becomeFirst_29 : decode cX4_becomeFirst 29 = .ok (.aload_n 0, 1) := by decide +kernel
theorem dX4_becomeFirst_30 : decode cX4_becomeFirst 30 = .ok (.invokevirtual 35, 3) := by decide +kernel
theorem dX4_becomeFirst_33 : decode cX4_becomeFirst 33 = .ok (.return_, 1) := by decide +kernel
theorem dX4_valueOf_0 : decode cX4_valueOf 0 = .ok (.iload_n 1, 1) := by decide +kernel
theorem dX4_valueOf_1 : decode cX4_valueOf 1 = .ok (.ifCond .lt 20, 3) := by decide +kernel
theorem dX4_valueOf_4 : decode cX4_valueOf 4 = .ok (.iload_n 1, 1) := by decide +kernel
theorem dX4_valueOf_5 : decode cX4_valueOf 5 = .ok (.aload_n 0, 1) := by decide +kernel
theorem dX4_valueOf_6 : decode cX4_valueOf 6 = .ok (.getfield 25, 3) := by decide +kernel
theorem dX4_valueOf_9 : decode cX4_valueOf 9 = .ok (.if_icmp .ge 12, 3) := by decide +kernel
theorem dX4_valueOf_12 : decode cX4_valueOf 12 = .ok (.iload_n 1, 1) := by decide +kernel
theorem dX4_valueOf_13 : decode cX4_valueOf 13 = .ok (.aload_n 0, 1) := by decide +kernel
theorem dX4_valueOf_14 : decode cX4_valueOf 14 = .ok (.getfield 15, 3) := by decide +kernel
theorem dX4_valueOf_17 : decode cX4_valueOf 17 = .ok (.arraylength, 1) := by decide +kernel
theorem dX4_valueOf_18 : decode cX4_valueOf 18 = .ok (.if_icmp .lt 5, 3) := by decide +kernel
theorem dX4_valueOf_21 : decode cX4_valueOf 21 = .ok (.iconst 0, 1) := by decide +kernel
theorem dX4_valueOf_22 : decode cX4_valueOf 22 = .ok (.ireturn, 1) := by decide +kernel
theorem dX4_valueOf_23 : decode cX4_valueOf 23 = .ok (.iload_n 1, 1) := by decide +kernel
theorem dX4_valueOf_24 : decode cX4_valueOf 24 = .ok (.ifCond .ne 7, 3) := by decide +kernel
theorem dX4_valueOf_27 : decode cX4_valueOf 27 = .ok (.iconst 0, 1) := by decide +kernel
theorem dX4_valueOf_28 : decode cX4_valueOf 28 = .ok (.goto 11, 3) := by decide +kernel
theorem dX4_valueOf_31 : decode cX4_valueOf 31 = .ok (.aload_n 0, 1) := by decide +kernel
theorem dX4_valueOf_32 : decode cX4_valueOf 32 = .ok (.getfield 15, 3) := by decide +kernel
theorem dX4_valueOf_35 : decode cX4_valueOf 35 = .ok (.iload_n 1, 1) := by decide +kernel
theorem dX4_valueOf_36 : decode cX4_valueOf 36 = .ok (.iconst 1, 1) := by decide +kernel
theorem dX4_valueOf_37 : decode cX4_valueOf 37 = .ok (.isub, 1) := by decide +kernel
theorem dX4_valueOf_38 : decode cX4_valueOf 38 = .ok (.iaload, 1) := by decide +kernel
theorem dX4_valueOf_39 : decode cX4_valueOf 39 = .ok (.istore_n 3, 1) := by decide +kernel
theorem dX4_valueOf_40 : decode cX4_valueOf 40 = .ok (.aload_n 0, 1) := by decide +kernel
theorem dX4_valueOf_41 : decode cX4_valueOf 41 = .ok (.iconst 0, 1) := by decide +kernel
theorem dX4_valueOf_42 : decode cX4_valueOf 42 = .ok (.putfield 38, 3) := by decide +kernel
theorem dX4_valueOf_45 : decode cX4_valueOf 45 = .ok (.iload_n 3, 1) := by decide +kernel
theorem dX4_valueOf_46 : decode cX4_valueOf 46 = .ok (.istore 4, 2) := by decide +kernel
theorem dX4_valueOf_48 : decode cX4_valueOf 48 = .ok (.iload 4, 2) := by decide +kernel
theorem dX4_valueOf_50 : decode cX4_valueOf 50 = .ok (.ifCond .lt 138, 3) := by decide +kernel
theorem dX4_valueOf_53 : decode cX4_valueOf 53 = .ok (.iload 4, 2) := by decide +kernel
theorem dX4_valueOf_55 : decode cX4_valueOf 55 = .ok (.aload_n 0, 1) := by decide +kernel
theorem dX4_valueOf_56 : decode cX4_valueOf 56 = .ok (.getfield 15, 3) := by decide +kernel
theorem dX4_valueOf_59 : decode cX4_valueOf 59 = .ok (.iload_n 1, 1) := by decide +kernel
theorem dX4_valueOf_60 : decode cX4_valueOf 60 = .ok (.iaload, 1) := by decide +kernel
theorem dX4_valueOf_61 : decode cX4_valueOf 61 = .ok (.if_icmp .ge 127, 3) := by decide +kernel
theorem dX4_valueOf_64 : decode cX4_valueOf 64 = .ok (.iload 4, 2) := by decide +kernel
theorem dX4_valueOf_66 : decode cX4_valueOf 66 = .ok (.aload_n 0, 1) := by decide +kernel
theorem dX4_valueOf_67 : decode cX4_valueOf 67 = .ok (.getfield 9, 3) := by decide +kernel
theorem dX4_valueOf_70 : decode cX4_valueOf 70 = .ok (.arraylength, 1) := by decide +kernel
theorem dX4_valueOf_71 : decode cX4_valueOf 71 = .ok (.if_icmp .ge 117, 3) := by decide +kernel
theorem dX4_valueOf_74 : decode cX4_valueOf 74 = .ok (.aload_n 0, 1) := by decide +kernel
theorem dX4_valueOf_75 : decode cX4_valueOf 75 = .ok (.getfield 9, 3) := by decide +kernel
theorem dX4_valueOf_78 : decode cX4_valueOf 78 = .ok (.iload 4, 2) := by decide +kernel
theorem dX4_valueOf_80 : decode cX4_valueOf 80 = .ok (.iaload, 1) := by decide +kernel
theorem dX4_valueOf_81 : decode cX4_valueOf 81 = .ok (.invokestatic 41, 3) := by decide +kernel
theorem dX4_valueOf_84 : decode cX4_valueOf 84 = .ok (.istore 5, 2) := by decide +kernel
theorem dX4_valueOf_86 : decode cX4_valueOf 86 = .ok (.aload_n 0, 1) := by decide +kernel
theorem dX4_valueOf_87 : decode cX4_valueOf 87 = .ok (.getfield 9, 3) := by decide +kernel
theorem dX4_valueOf_90 : decode cX4_valueOf 90 = .ok (.iload 4, 2) := by decide +kernel
theorem dX4_valueOf_92 : decode cX4_valueOf 92 = .ok (.iaload, 1) := by decide +kernel
theorem dX4_valueOf_93 : decode cX4_valueOf 93 = .ok (.ifCond .lt 17, 3) := by decide +kernel
theorem dX4_valueOf_96 : decode cX4_valueOf 96 = .ok (.aload_n 0, 1) := by decide +kernel
theorem dX4_valueOf_97 : decode cX4_valueOf 97 = .ok (.aload_n 0, 1) := by decide +kernel
theorem dX4_valueOf_98 : decode cX4_valueOf 98 = .ok (.getfield 9, 3) := by decide +kernel
theorem dX4_valueOf_101 : decode cX4_valueOf 101 = .ok (.iload 4, 2) := by decide +kernel
theorem dX4_valueOf_103 : decode cX4_valueOf 103 = .ok (.iaload, 1) := by decide +kernel
theorem dX4_valueOf_104 : decode cX4_valueOf 104 = .ok (.invokevirtual 45, 3) := by decide +kernel
theorem dX4_valueOf_107 : decode cX4_valueOf 107 = .ok (.goto 75, 3) := by decide +kernel
theorem dX4_valueOf_110 : decode cX4_valueOf 110 = .ok (.iload 5, 2) := by decide +kernel
theorem dX4_valueOf_112 : decode cX4_valueOf 112 = .ok (.ifCond .lt 21, 3) := by decide +kernel
theorem dX4_valueOf_115 : decode cX4_valueOf 115 = .ok (.iload 5, 2) := by decide +kernel
theorem dX4_valueOf_117 : decode cX4_valueOf 117 = .ok (.aload_n 2, 1) := by decide +kernel
theorem dX4_valueOf_118 : decode cX4_valueOf 118 = .ok (.arraylength, 1) := by decide +kernel
theorem dX4_valueOf_119 : decode cX4_valueOf 119 = .ok (.if_icmp .ge 14, 3) := by decide +kernel
theorem dX4_valueOf_122 : decode cX4_valueOf 122 = .ok (.aload_n 0, 1) := by decide +kernel
theorem dX4_valueOf_123 : decode cX4_valueOf 123 = .ok (.aload_n 2, 1) := by decide +kernel
theorem dX4_valueOf_124 : decode cX4_valueOf 124 = .ok (.iload 5, 2) := by decide +kernel
theorem dX4_valueOf_126 : decode cX4_valueOf 126 = .ok (.iaload, 1) := by decide +kernel
theorem dX4_valueOf_127 : decode cX4_valueOf 127 = .ok (.invokevirtual 45, 3) := by decide +kernel
theorem dX4_valueOf_130 : decode cX4_valueOf 130 = .ok (.goto 52, 3) := by decide +kernel
theorem dX4_valueOf_133 : decode cX4_valueOf 133 = .ok (.aload_n 0, 1) := by decide +kernel
theorem dX4_valueOf_134 : decode cX4_valueOf 134 = .ok (.getfield 9, 3) := by decide +kernel
theorem dX4_valueOf_137 : decode cX4_valueOf 137 = .ok (.iload 4, 2) := by decide +kernel
theorem dX4_valueOf_139 : decode cX4_valueOf 139 = .ok (.iaload, 1) := by decide +kernel
theorem dX4_valueOf_140 : decode cX4_valueOf 140 = .ok (.bipush (-18), 2) := by decide +kernel
theorem dX4_valueOf_142 : decode cX4_valueOf 142 = .ok (.if_icmp .eq 15, 3) := by decide +kernel
theorem dX4_valueOf_145 : decode cX4_valueOf 145 = .ok (.aload_n 0, 1) := by decide +kernel
theorem dX4_valueOf_146 : decode cX4_valueOf 146 = .ok (.getfield 9, 3) := by decide +kernel
theorem dX4_valueOf_149 : decode cX4_valueOf 149 = .ok (.iload 4, 2) := by decide +kernel
theorem dX4_valueOf_151 : decode cX4_valueOf 151 = .ok (.iaload, 1) := by decide +kernel
theorem dX4_valueOf_152 : decode cX4_valueOf 152 = .ok (.bipush (-19), 2) := by decide +kernel
theorem dX4_valueOf_154 : decode cX4_valueOf 154 = .ok (.if_icmp .ne 17, 3) := by decide +kernel
theorem dX4_valueOf_157 : decode cX4_valueOf 157 = .ok (.aload_n 0, 1) := by decide +kernel
theorem dX4_valueOf_158 : decode cX4_valueOf 158 = .ok (.aload_n 0, 1) := by decide +kernel
theorem dX4_valueOf_159 : decode cX4_valueOf 159 = .ok (.getfield 9, 3) := by decide +kernel
theorem dX4_valueOf_162 : decode cX4_valueOf 162 = .ok (.iload 4, 2) := by decide +kernel
theorem dX4_valueOf_164 : decode cX4_valueOf 164 = .ok (.iaload, 1) := by decide +kernel
theorem dX4_valueOf_165 : decode cX4_valueOf 165 = .ok (.invokevirtual 48, 3) := by decide +kernel
theorem dX4_valueOf_168 : decode cX4_valueOf 168 = .ok (.goto 14, 3) := by decide +kernel
theorem dX4_valueOf_171 : decode cX4_valueOf 171 = .ok (.aload_n 0, 1) := by decide +kernel
theorem dX4_valueOf_172 : decode cX4_valueOf 172 = .ok (.aload_n 0, 1) := by decide +kernel
theorem dX4_valueOf_173 : decode cX4_valueOf 173 = .ok (.getfield 9, 3) := by decide +kernel
theorem dX4_valueOf_176 : decode cX4_valueOf 176 = .ok (.iload 4, 2) := by decide +kernel
theorem dX4_valueOf_178 : decode cX4_valueOf 178 = .ok (.iaload, 1) := by decide +kernel
theorem dX4_valueOf_179 : decode cX4_valueOf 179 = .ok (.invokevirtual 51, 3) := by decide +kernel
theorem dX4_valueOf_182 : decode cX4_valueOf 182 = .ok (.iinc 4 1, 3) := by decide +kernel
theorem dX4_valueOf_185 : decode cX4_valueOf 185 = .ok (.goto (-137), 3) := by decide +kernel
theorem dX4_valueOf_188 : decode cX4_valueOf 188 = .ok (.aload_n 0, 1) := by decide +kernel
theorem dX4_valueOf_189 : decode cX4_valueOf 189 = .ok (.getfield 18, 3) := by decide +kernel
theorem dX4_valueOf_192 : decode cX4_valueOf 192 = .ok (.iconst 0, 1) := by decide +kernel
theorem dX4_valueOf_193 : decode cX4_valueOf 193 = .ok (.iaload, 1) := by decide +kernel
theorem dX4_valueOf_194 : decode cX4_valueOf 194 = .ok (.ireturn, 1) := by decide +kernel
theorem dX4_push_0 : decode cX4_push 0 = .ok (.aload_n 0, 1) := by decide +kernel
theorem dX4_push_1 : decode cX4_push 1 = .ok (.getfield 38, 3) := by decide +kernel
theorem dX4_push_4 : decode cX4_push 4 = .ok (.ifCond .lt 15, 3) := by decide +kernel
theorem dX4_push_7 : decode cX4_push 7 = .ok (.aload_n 0, 1) := by decide +kernel
theorem dX4_push_8 : decode cX4_push 8 = .ok (.getfield 38, 3) := by decide +kernel
theorem dX4_push_11 : decode cX4_push 11 = .ok (.aload_n 0, 1) := by decide +kernel
theorem dX4_push_12 : decode cX4_push 12 = .ok (.getfield 18, 3) := by decide +kernel
theorem dX4_push_15 : decode cX4_push 15 = .ok (.arraylength, 1) := by decide +kernel
theorem dX4_push_16 : decode cX4_push 16 = .ok (.if_icmp .lt 4, 3) := by decide +kernel
theorem dX4_push_19 : decode cX4_push 19 = .ok (.return_, 1) := by decide +kernel
theorem dX4_push_20 : decode cX4_push 20 = .ok (.aload_n 0, 1) := by decide +kernel
theorem dX4_push_21 : decode cX4_push 21 = .ok (.getfield 18, 3) := by decide +kernel
theorem dX4_push_24 : decode cX4_push 24 = .ok (.aload_n 0, 1) := by decide +kernel
theorem dX4_push_25 : decode cX4_push 25 = .ok (.getfield 38, 3) := by decide +kernel
theorem dX4_push_28 : decode cX4_push 28 = .ok (.iload_n 1, 1) := by decide +kernel
theorem dX4_push_29 : decode cX4_push 29 = .ok (.iastore, 1) := by decide +kernel
theorem dX4_push_30 : decode cX4_push 30 = .ok (.aload_n 0, 1) := by decide +kernel
theorem dX4_push_31 : decode cX4_push 31 = .ok (.dup, 1) := by decide +kernel
theorem dX4_push_32 : decode cX4_push 32 = .ok (.getfield 38, 3) := by decide +kernel
theorem dX4_push_35 : decode cX4_push 35 = .ok (.iconst 1, 1) := by decide +kernel
theorem dX4_push_36 : decode cX4_push 36 = .ok (.iadd, 1) := by decide +kernel
theorem dX4_push_37 : decode cX4_push 37 = .ok (.putfield 38, 3) := by decide +kernel
theorem dX4_push_40 : decode cX4_push 40 = .ok (.return_, 1) := by decide +kernel
theorem dX4_workOnOne_0 : decode cX4_workOnOne 0 = .ok (.aload_n 0, 1) := by decide +kernel
theorem dX4_workOnOne_1 : decode cX4_workOnOne 1 = .ok (.getfield 38, 3) := by decide +kernel
theorem dX4_workOnOne_4 : decode cX4_workOnOne 4 = .ok (.iconst 1, 1) := by decide +kernel
theorem dX4_workOnOne_5 : decode cX4_workOnOne 5 = .ok (.isub, 1) := by decide +kernel
theorem dX4_workOnOne_6 : decode cX4_workOnOne 6 = .ok (.istore_n 2, 1) := by decide +kernel
theorem dX4_workOnOne_7 : decode cX4_workOnOne 7 = .ok (.iload_n 2, 1) := by decide +kernel
theorem dX4_workOnOne_8 : decode cX4_workOnOne 8 = .ok (.ifCond .lt 12, 3) := by decide +kernel
theorem dX4_workOnOne_11 : decode cX4_workOnOne 11 = .ok (.iload_n 2, 1) := by decide +kernel
theorem dX4_workOnOne_12 : decode cX4_workOnOne 12 = .ok (.aload_n 0, 1) := by decide +kernel
theorem dX4_workOnOne_13 : decode cX4_workOnOne 13 = .ok (.getfield 18, 3) := by decide +kernel
theorem dX4_workOnOne_16 : decode cX4_workOnOne 16 = .ok (.arraylength, 1) := by decide +kernel
theorem dX4_workOnOne_17 : decode cX4_workOnOne 17 = .ok (.if_icmp .lt 4, 3) := by decide +kernel
theorem dX4_workOnOne_20 : decode cX4_workOnOne 20 = .ok (.return_, 1) := by decide +kernel
theorem dX4_workOnOne_21 : decode cX4_workOnOne 21 = .ok (.iload_n 1, 1) := by decide +kernel
theorem dX4_workOnOne_22 : decode cX4_workOnOne 22 = .ok (.bipush (-19), 2) := by decide +kernel
theorem dX4_workOnOne_24 : decode cX4_workOnOne 24 = .ok (.if_icmp .ne 19, 3) := by decide +kernel
theorem dX4_workOnOne_27 : decode cX4_workOnOne 27 = .ok (.aload_n 0, 1) := by decide +kernel
theorem dX4_workOnOne_28 : decode cX4_workOnOne 28 = .ok (.getfield 18, 3) := by decide +kernel
theorem dX4_workOnOne_31 : decode cX4_workOnOne 31 = .ok (.iload_n 2, 1) := by decide +kernel
theorem dX4_workOnOne_32 : decode cX4_workOnOne 32 = .ok (.aload_n 0, 1) := by decide +kernel
theorem dX4_workOnOne_33 : decode cX4_workOnOne 33 = .ok (.getfield 18, 3) := by decide +kernel
theorem dX4_workOnOne_36 : decode cX4_workOnOne 36 = .ok (.iload_n 2, 1) := by decide +kernel
theorem dX4_workOnOne_37 : decode cX4_workOnOne 37 = .ok (.iaload, 1) := by decide +kernel
theorem dX4_workOnOne_38 : decode cX4_workOnOne 38 = .ok (.ineg, 1) := by decide +kernel
theorem dX4_workOnOne_39 : decode cX4_workOnOne 39 = .ok (.iastore, 1) := by decide +kernel
theorem dX4_workOnOne_40 : decode cX4_workOnOne 40 = .ok (.goto 23, 3) := by decide +kernel
theorem dX4_workOnOne_43 : decode cX4_workOnOne 43 = .ok (.aload_n 0, 1) := by decide +kernel
theorem dX4_workOnOne_44 : decode cX4_workOnOne 44 = .ok (.getfield 18, 3) := by decide +kernel
theorem dX4_workOnOne_47 : decode cX4_workOnOne 47 = .ok (.iload_n 2, 1) := by decide +kernel
theorem dX4_workOnOne_48 : decode cX4_workOnOne 48 = .ok (.aload_n 0, 1) := by decide +kernel
theorem dX4_workOnOne_49 : decode cX4_workOnOne 49 = .ok (.getfield 18, 3) := by decide +kernel
theorem dX4_workOnOne_52 : decode cX4_workOnOne 52 = .ok (.iload_n 2, 1) := by decide +kernel
theorem dX4_workOnOne_53 : decode cX4_workOnOne 53 = .ok (.iaload, 1) := by decide +kernel
theorem dX4_workOnOne_54 : decode cX4_workOnOne 54 = .ok (.ifCond .ne 7, 3) := by decide +kernel
theorem dX4_workOnOne_57 : decode cX4_workOnOne 57 = .ok (.iconst 1, 1) := by decide +kernel
theorem dX4_workOnOne_58 : decode cX4_workOnOne 58 = .ok (.goto 4, 3) := by decide +kernel
theorem dX4_workOnOne_61 : decode cX4_workOnOne 61 = .ok (.iconst 0, 1) := by decide +kernel
theorem dX4_workOnOne_62 : decode cX4_workOnOne 62 = .ok (.iastore, 1) := by decide +kernel
theorem dX4_workOnOne_63 : decode cX4_workOnOne 63 = .ok (.return_, 1) := by decide +kernel
theorem dX4_workOnTwo_0 : decode cX4_workOnTwo 0 = .ok (.aload_n 0, 1) := by decide +kernel
theorem dX4_workOnTwo_1 : decode cX4_workOnTwo 1 = .ok (.getfield 38, 3) := by decide +kernel
theorem dX4_workOnTwo_4 : decode cX4_workOnTwo 4 = .ok (.iconst 1, 1) := by decide +kernel
theorem dX4_workOnTwo_5 : decode cX4_workOnTwo 5 = .ok (.isub, 1) := by decide +kernel
theorem dX4_workOnTwo_6 : decode cX4_workOnTwo 6 = .ok (.istore_n 2, 1) := by decide +kernel
theorem dX4_workOnTwo_7 : decode cX4_workOnTwo 7 = .ok (.iload_n 2, 1) := by decide +kernel
theorem dX4_workOnTwo_8 : decode cX4_workOnTwo 8 = .ok (.iconst 1, 1) := by decide +kernel
theorem dX4_workOnTwo_9 : decode cX4_workOnTwo 9 = .ok (.if_icmp .lt 12, 3) := by decide +kernel
theorem dX4_workOnTwo_12 : decode cX4_workOnTwo 12 = .ok (.iload_n 2, 1) := by decide +kernel
theorem dX4_workOnTwo_13 : decode cX4_workOnTwo 13 = .ok (.aload_n 0, 1) := by decide +kernel
theorem dX4_workOnTwo_14 : decode cX4_workOnTwo 14 = .ok (.getfield 18, 3) := by decide +kernel
theorem dX4_workOnTwo_17 : decode cX4_workOnTwo 17 = .ok (.arraylength, 1) := by decide +kernel
theorem dX4_workOnTwo_18 : decode cX4_workOnTwo 18 = .ok (.if_icmp .lt 4, 3) := by decide +kernel
theorem dX4_workOnTwo_21 : decode cX4_workOnTwo 21 = .ok (.return_, 1) := by decide +kernel
theorem dX4_workOnTwo_22 : decode cX4_workOnTwo 22 = .ok (.aload_n 0, 1) := by decide +kernel
theorem dX4_workOnTwo_23 : decode cX4_workOnTwo 23 = .ok (.getfield 18, 3) := by decide +kernel
theorem dX4_workOnTwo_26 : decode cX4_workOnTwo 26 = .ok (.iload_n 2, 1) := by decide +kernel
theorem dX4_workOnTwo_27 : decode cX4_workOnTwo 27 = .ok (.iconst 1, 1) := by decide +kernel
theorem dX4_workOnTwo_28 : decode cX4_workOnTwo 28 = .ok (.isub, 1) := by decide +kernel
theorem dX4_workOnTwo_29 : decode cX4_workOnTwo 29 = .ok (.iaload, 1) := by decide +kernel
theorem dX4_workOnTwo_30 : decode cX4_workOnTwo 30 = .ok (.istore_n 3, 1) := by decide +kernel
theorem dX4_workOnTwo_31 : decode cX4_workOnTwo 31 = .ok (.aload_n 0, 1) := by decide +kernel
theorem dX4_workOnTwo_32 : decode cX4_workOnTwo 32 = .ok (.getfield 18, 3) := by decide +kernel
theorem dX4_workOnTwo_35 : decode cX4_workOnTwo 35 = .ok (.iload_n 2, 1) := by decide +kernel
theorem dX4_workOnTwo_36 : decode cX4_workOnTwo 36 = .ok (.iaload, 1) := by decide +kernel
theorem dX4_workOnTwo_37 : decode cX4_workOnTwo 37 = .ok (.istore 4, 2) := by decide +kernel
theorem dX4_workOnTwo_39 : decode cX4_workOnTwo 39 = .ok (.aload_n 0, 1) := by decide +kernel
theorem dX4_workOnTwo_40 : decode cX4_workOnTwo 40 = .ok (.iload_n 2, 1) := by decide +kernel
theorem dX4_workOnTwo_41 : decode cX4_workOnTwo 41 = .ok (.putfield 38, 3) := by decide +kernel
theorem dX4_workOnTwo_44 : decode cX4_workOnTwo 44 = .ok (.iload_n 1, 1) := by decide +kernel
theorem dX4_workOnTwo_45 : decode cX4_workOnTwo 45 = .ok (.tableswitch 153 (-16) (-11) #[128, 106, 84, 69, 54, 39], 39) := by decide +kernel
theorem dX4_workOnTwo_84 : decode cX4_workOnTwo 84 = .ok (.aload_n 0, 1) := by decide +kernel
theorem dX4_workOnTwo_85 : decode cX4_workOnTwo 85 = .ok (.getfield 18, 3) := by decide +kernel
theorem dX4_workOnTwo_88 : decode cX4_workOnTwo 88 = .ok (.iload_n 2, 1) := by decide +kernel
theorem dX4_workOnTwo_89 : decode cX4_workOnTwo 89 = .ok (.iconst 1, 1) := by decide +kernel
theorem dX4_workOnTwo_90 : decode cX4_workOnTwo 90 = .ok (.isub, 1) := by decide +kernel
theorem dX4_workOnTwo_91 : decode cX4_workOnTwo 91 = .ok (.iload_n 3, 1) := by decide +kernel
theorem dX4_workOnTwo_92 : decode cX4_workOnTwo 92 = .ok (.iload 4, 2) := by decide +kernel
theorem dX4_workOnTwo_94 : decode cX4_workOnTwo 94 = .ok (.iadd, 1) := by decide +kernel
theorem dX4_workOnTwo_95 : decode cX4_workOnTwo 95 = .ok (.iastore, 1) := by decide +kernel
theorem dX4_workOnTwo_96 : decode cX4_workOnTwo 96 = .ok (.goto 124, 3) := by decide +kernel
theorem dX4_workOnTwo_99 : decode cX4_workOnTwo 99 = .ok (.aload_n 0, 1) := by decide +kernel
theorem dX4_workOnTwo_100 : decode cX4_workOnTwo 100 = .ok (.getfield 18, 3) := by decide +kernel
theorem dX4_workOnTwo_103 : decode cX4_workOnTwo 103 = .ok (.iload_n 2, 1) := by decide +kernel
theorem dX4_workOnTwo_104 : decode cX4_workOnTwo 104 = .ok (.iconst 1, 1) := by decide +kernel
theorem dX4_workOnTwo_105 : decode cX4_workOnTwo 105 = .ok (.isub, 1) := by decide +kernel
theorem dX4_workOnTwo_106 : decode cX4_workOnTwo 106 = .ok (.iload_n 3, 1) := by decide +kernel
theorem dX4_workOnTwo_107 : decode cX4_workOnTwo 107 = .ok (.iload 4, 2) := by decide +kernel
theorem dX4_workOnTwo_109 : decode cX4_workOnTwo 109 = .ok (.isub, 1) := by decide +kernel
theorem dX4_workOnTwo_110 : decode cX4_workOnTwo 110 = .ok (.iastore, 1) := by decide +kernel
theorem dX4_workOnTwo_111 : decode cX4_workOnTwo 111 = .ok (.goto 109, 3) := by decide +kernel
theorem dX4_workOnTwo_114 : decode cX4_workOnTwo 114 = .ok (.aload_n 0, 1) := by decide +kernel
theorem dX4_workOnTwo_115 : decode cX4_workOnTwo 115 = .ok (.getfield 18, 3) := by decide +kernel
theorem dX4_workOnTwo_118 : decode cX4_workOnTwo 118 = .ok (.iload_n 2, 1) := by decide +kernel
theorem dX4_workOnTwo_119 : decode cX4_workOnTwo 119 = .ok (.iconst 1, 1) := by decide +kernel
theorem dX4_workOnTwo_120 : decode cX4_workOnTwo 120 = .ok (.isub, 1) := by decide +kernel
theorem dX4_workOnTwo_121 : decode cX4_workOnTwo 121 = .ok (.iload_n 3, 1) := by decide +kernel
theorem dX4_workOnTwo_122 : decode cX4_workOnTwo 122 = .ok (.iload 4, 2) := by decide +kernel
theorem dX4_workOnTwo_124 : decode cX4_workOnTwo 124 = .ok (.imul, 1) := by decide +kernel
theorem dX4_workOnTwo_125 : decode cX4_workOnTwo 125 = .ok (.iastore, 1) := by decide +kernel
theorem dX4_workOnTwo_126 : decode cX4_workOnTwo 126 = .ok (.goto 94, 3) := by decide +kernel
theorem dX4_workOnTwo_129 : decode cX4_workOnTwo 129 = .ok (.aload_n 0, 1) := by decide +kernel
theorem dX4_workOnTwo_130 : decode cX4_workOnTwo 130 = .ok (.getfield 18, 3) := by decide +kernel
theorem dX4_workOnTwo_133 : decode cX4_workOnTwo 133 = .ok (.iload_n 2, 1) := by decide +kernel
theorem dX4_workOnTwo_134 : decode cX4_workOnTwo 134 = .ok (.iconst 1, 1) := by decide +kernel
theorem dX4_workOnTwo_135 : decode cX4_workOnTwo 135 = .ok (.isub, 1) := by decide +kernel
theorem dX4_workOnTwo_136 : decode cX4_workOnTwo 136 = .ok (.iload_n 3, 1) := by decide +kernel
theorem dX4_workOnTwo_137 : decode cX4_workOnTwo 137 = .ok (.iload 4, 2) := by decide +kernel
theorem dX4_workOnTwo_139 : decode cX4_workOnTwo 139 = .ok (.if_icmp .ge 7, 3) := by decide +kernel
theorem dX4_workOnTwo_142 : decode cX4_workOnTwo 142 = .ok (.iconst 1, 1) := by decide +kernel
theorem dX4_workOnTwo_143 : decode cX4_workOnTwo 143 = .ok (.goto 4, 3) := by decide +kernel
theorem dX4_workOnTwo_146 : decode cX4_workOnTwo 146 = .ok (.iconst 0, 1) := by decide +kernel
theorem dX4_workOnTwo_147 : decode cX4_workOnTwo 147 = .ok (.iastore, 1) := by decide +kernel
theorem dX4_workOnTwo_148 : decode cX4_workOnTwo 148 = .ok (.goto 72, 3) := by decide +kernel
theorem dX4_workOnTwo_151 : decode cX4_workOnTwo 151 = .ok (.aload_n 0, 1) := by decide +kernel
theorem dX4_workOnTwo_152 : decode cX4_workOnTwo 152 = .ok (.getfield 18, 3) := by decide +kernel
theorem dX4_workOnTwo_155 : decode cX4_workOnTwo 155 = .ok (.iload_n 2, 1) := by decide +kernel
theorem dX4_workOnTwo_156 : decode cX4_workOnTwo 156 = .ok (.iconst 1, 1) := by decide +kernel
theorem dX4_workOnTwo_157 : decode cX4_workOnTwo 157 = .ok (.isub, 1) := by decide +kernel
theorem dX4_workOnTwo_158 : decode cX4_workOnTwo 158 = .ok (.iload_n 3, 1) := by decide +kernel
theorem dX4_workOnTwo_159 : decode cX4_workOnTwo 159 = .ok (.iload 4, 2) := by decide +kernel
theorem dX4_workOnTwo_161 : decode cX4_workOnTwo 161 = .ok (.if_icmp .ne 7, 3) := by decide +kernel
theorem dX4_workOnTwo_164 : decode cX4_workOnTwo 164 = .ok (.iconst 1, 1) := by decide +kernel
theorem dX4_workOnTwo_165 : decode cX4_workOnTwo 165 = .ok (.goto 4, 3) := by decide +kernel
theorem dX4_workOnTwo_168 : decode cX4_workOnTwo 168 = .ok (.iconst 0, 1) := by decide +kernel
theorem dX4_workOnTwo_169 : decode cX4_workOnTwo 169 = .ok (.iastore, 1) := by decide +kernel
theorem dX4_workOnTwo_170 : decode cX4_workOnTwo 170 = .ok (.goto 50, 3) := by decide +kernel
theorem dX4_workOnTwo_173 : decode cX4_workOnTwo 173 = .ok (.aload_n 0, 1) := by decide +kernel
theorem dX4_workOnTwo_174 : decode cX4_workOnTwo 174 = .ok (.getfield 18, 3) := by decide +kernel
theorem dX4_workOnTwo_177 : decode cX4_workOnTwo 177 = .ok (.iload_n 2, 1) := by decide +kernel
theorem dX4_workOnTwo_178 : decode cX4_workOnTwo 178 = .ok (.iconst 1, 1) := by decide +kernel
theorem dX4_workOnTwo_179 : decode cX4_workOnTwo 179 = .ok (.isub, 1) := by decide +kernel
theorem dX4_workOnTwo_180 : decode cX4_workOnTwo 180 = .ok (.iload_n 3, 1) := by decide +kernel
theorem dX4_workOnTwo_181 : decode cX4_workOnTwo 181 = .ok (.ifCond .eq 12, 3) := by decide +kernel
theorem dX4_workOnTwo_184 : decode cX4_workOnTwo 184 = .ok (.iload 4, 2) := by decide +kernel
theorem dX4_workOnTwo_186 : decode cX4_workOnTwo 186 = .ok (.ifCond .eq 7, 3) := by decide +kernel
theorem dX4_workOnTwo_189 : decode cX4_workOnTwo 189 = .ok (.iconst 1, 1) := by decide +kernel
theorem dX4_workOnTwo_190 : decode cX4_workOnTwo 190 = .ok (.goto 4, 3) := by decide +kernel
theorem dX4_workOnTwo_193 : decode cX4_workOnTwo 193 = .ok (.iconst 0, 1) := by decide +kernel
theorem dX4_workOnTwo_194 : decode cX4_workOnTwo 194 = .ok (.iastore, 1) := by decide +kernel
theorem dX4_workOnTwo_195 : decode cX4_workOnTwo 195 = .ok (.goto 25, 3) := by decide +kernel
theorem dX4_workOnTwo_198 : decode cX4_workOnTwo 198 = .ok (.aload_n 0, 1) := by decide +kernel
theorem dX4_workOnTwo_199 : decode cX4_workOnTwo 199 = .ok (.getfield 18, 3) := by decide +kernel
theorem dX4_workOnTwo_202 : decode cX4_workOnTwo 202 = .ok (.iload_n 2, 1) := by decide +kernel
theorem dX4_workOnTwo_203 : decode cX4_workOnTwo 203 = .ok (.iconst 1, 1) := by decide +kernel
theorem dX4_workOnTwo_204 : decode cX4_workOnTwo 204 = .ok (.isub, 1) := by decide +kernel
theorem dX4_workOnTwo_205 : decode cX4_workOnTwo 205 = .ok (.iload_n 3, 1) := by decide +kernel
theorem dX4_workOnTwo_206 : decode cX4_workOnTwo 206 = .ok (.ifCond .ne 8, 3) := by decide +kernel
theorem dX4_workOnTwo_209 : decode cX4_workOnTwo 209 = .ok (.iload 4, 2) := by decide +kernel
theorem dX4_workOnTwo_211 : decode cX4_workOnTwo 211 = .ok (.ifCond .eq 7, 3) := by decide +kernel
theorem dX4_workOnTwo_214 : decode cX4_workOnTwo 214 = .ok (.iconst 1, 1) := by decide +kernel
theorem dX4_workOnTwo_215 : decode cX4_workOnTwo 215 = .ok (.goto 4, 3) := by decide +kernel
theorem dX4_workOnTwo_218 : decode cX4_workOnTwo 218 = .ok (.iconst 0, 1) := by decide +kernel
theorem dX4_workOnTwo_219 : decode cX4_workOnTwo 219 = .ok (.iastore, 1) := by decide +kernel
theorem dX4_workOnTwo_220 : decode cX4_workOnTwo 220 = .ok (.return_, 1) := by decide +kernel
theorem dX5_init_0 : decode cX5_init 0 = .ok (.aload_n 0, 1) := by decide +kernel
theorem dX5_init_1 : decode cX5_init 1 = .ok (.invokespecial 3, 3) := by decide +kernel
theorem dX5_init_4 : decode cX5_init 4 = .ok (.aload_n 0, 1) := by decide +kernel
theorem dX5_init_5 : decode cX5_init 5 = .ok (.sipush 161, 3) := by decide +kernel
theorem dX5_init_8 : decode cX5_init 8 = .ok (.newarray .int, 2) := by decide +kernel
theorem dX5_init_10 : decode cX5_init 10 = .ok (.putfield 9, 3) := by decide +kernel
theorem dX5_init_13 : decode cX5_init 13 = .ok (.aload_n 0, 1) := by decide +kernel
theorem dX5_init_14 : decode cX5_init 14 = .ok (.sipush 161, 3) := by decide +kernel
theorem dX5_init_17 : decode cX5_init 17 = .ok (.newarray .int, 2) := by decide +kernel
theorem dX5_init_19 : decode cX5_init 19 = .ok (.putfield 15, 3) := by decide +kernel
theorem dX5_init_22 : decode cX5_init 22 = .ok (.aload_n 0, 1) := by decide +kernel
theorem dX5_init_23 : decode cX5_init 23 = .ok (.sipush 161, 3) := by decide +kernel
theorem dX5_init_26 : decode cX5_init 26 = .ok (.newarray .int, 2) := by decide +kernel
theorem dX5_init_28 : decode cX5_init 28 = .ok (.putfield 18, 3) := by decide +kernel
theorem dX5_init_31 : decode cX5_init 31 = .ok (.aload_n 0, 1) := by decide +kernel
theorem dX5_init_32 : decode cX5_init 32 = .ok (.aload_n 1, 1) := by decide +kernel
theorem dX5_init_33 : decode cX5_init 33 = .ok (.putfield 21, 3) := by decide +kernel
theorem dX5_init_36 : decode cX5_init 36 = .ok (.return_, 1) := by decide +kernel
theorem dX5_sortOf_0 : decode cX5_sortOf 0 = .ok (.iload_n 1, 1) := by decide +kernel
theorem dX5_sortOf_1 : decode cX5_sortOf 1 = .ok (.ifCond .lt 21, 3) := by decide +kernel
theorem dX5_sortOf_4 : decode cX5_sortOf 4 = .ok (.iload_n 1, 1) := by decide +kernel
theorem dX5_sortOf_5 : decode cX5_sortOf 5 = .ok (.aload_n 0, 1) := by decide +kernel
theorem dX5_sortOf_6 : decode cX5_sortOf 6 = .ok (.getfield 9, 3) := by decide +kernel
theorem dX5_sortOf_9 : decode cX5_sortOf 9 = .ok (.arraylength, 1) := by decide +kernel
theorem dX5_sortOf_10 : decode cX5_sortOf 10 = .ok (.if_icmp .ge 12, 3) := by decide +kernel
theorem dX5_sortOf_13 : decode cX5_sortOf 13 = .ok (.aload_n 0, 1) := by decide +kernel
theorem dX5_sortOf_14 : decode cX5_sortOf 14 = .ok (.getfield 9, 3) := by decide +kernel
theorem dX5_sortOf_17 : decode cX5_sortOf 17 = .ok (.iload_n 1, 1) := by decide +kernel
theorem dX5_sortOf_18 : decode cX5_sortOf 18 = .ok (.iaload, 1) := by decide +kernel
theorem dX5_sortOf_19 : decode cX5_sortOf 19 = .ok (.goto 5, 3) := by decide +kernel
theorem dX5_sortOf_22 : decode cX5_sortOf 22 = .ok (.bipush 8, 2) := by decide +kernel
theorem dX5_sortOf_24 : decode cX5_sortOf 24 = .ok (.ireturn, 1) := by decide +kernel
theorem dX5_startOf_0 : decode cX5_startOf 0 = .ok (.iload_n 1, 1) := by decide +kernel
theorem dX5_startOf_1 : decode cX5_startOf 1 = .ok (.ifCond .lt 21, 3) := by decide +kernel
theorem dX5_startOf_4 : decode cX5_startOf 4 = .ok (.iload_n 1, 1) := by decide +kernel
theorem dX5_startOf_5 : decode cX5_startOf 5 = .ok (.aload_n 0, 1) := by decide +kernel
theorem dX5_startOf_6 : decode cX5_startOf 6 = .ok (.getfield 15, 3) := by decide +kernel
theorem dX5_startOf_9 : decode cX5_startOf 9 = .ok (.arraylength, 1) := by decide +kernel
theorem dX5_startOf_10 : decode cX5_startOf 10 = .ok (.if_icmp .ge 12, 3) := by decide +kernel
theorem dX5_startOf_13 : decode cX5_startOf 13 = .ok (.aload_n 0, 1) := by decide +kernel
theorem dX5_startOf_14 : decode cX5_startOf 14 = .ok (.getfield 15, 3) := by decide +kernel
theorem dX5_startOf_17 : decode cX5_startOf 17 = .ok (.iload_n 1, 1) := by decide +kernel
theorem dX5_startOf_18 : decode cX5_startOf 18 = .ok (.iaload, 1) := by decide +kernel
theorem dX5_startOf_19 : decode cX5_startOf 19 = .ok (.goto 7, 3) := by decide +kernel
theorem dX5_startOf_22 : decode cX5_startOf 22 = .ok (.aload_n 0, 1) := by decide +kernel
theorem dX5_startOf_23 : decode cX5_startOf 23 = .ok (.getfield 24, 3) := by decide +kernel
theorem dX5_startOf_26 : decode cX5_startOf 26 = .ok (.ireturn, 1) := by decide +kernel
theorem dX5_valueOf_0 : decode cX5_valueOf 0 = .ok (.iload_n 1, 1) := by decide +kernel
theorem dX5_valueOf_1 : decode cX5_valueOf 1 = .ok (.ifCond .lt 21, 3) := by decide +kernel
theorem dX5_valueOf_4 : decode cX5_valueOf 4 = .ok (.iload_n 1, 1) := by decide +kernel
theorem dX5_valueOf_5 : decode cX5_valueOf 5 = .ok (.aload_n 0, 1) := by decide +kernel
theorem dX5_valueOf_6 : decode cX5_valueOf 6 = .ok (.getfield 18, 3) := by decide +kernel
theorem dX5_valueOf_9 : decode cX5_valueOf 9 = .ok (.arraylength, 1) := by decide +kernel
theorem dX5_valueOf_10 : decode cX5_valueOf 10 = .ok (.if_icmp .ge 12, 3) := by decide +kernel
theorem dX5_valueOf_13 : decode cX5_valueOf 13 = .ok (.aload_n 0, 1) := by decide +kernel
theorem dX5_valueOf_14 : decode cX5_valueOf 14 = .ok (.getfield 18, 3) := by decide +kernel
theorem dX5_valueOf_17 : decode cX5_valueOf 17 = .ok (.iload_n 1, 1) := by decide +kernel
theorem dX5_valueOf_18 : decode cX5_valueOf 18 = .ok (.iaload, 1) := by decide +kernel
theorem dX5_valueOf_19 : decode cX5_valueOf 19 = .ok (.goto 4, 3) := by decide +kernel
theorem dX5_valueOf_22 : decode cX5_valueOf 22 = .ok (.iconst 0, 1) := by decide +kernel
theorem dX5_valueOf_23 : decode cX5_valueOf 23 = .ok (.ireturn, 1) := by decide +kernel
theorem dX5_scan_0 : decode cX5_scan 0 = .ok (.aload_n 0, 1) := by decide +kernel
theorem dX5_scan_1 : decode cX5_scan 1 = .ok (.iload_n 1, 1) := by decide +kernel
theorem dX5_scan_2 : decode cX5_scan 2 = .ok (.putfield 24, 3) := by decide +kernel
theorem dX5_scan_5 : decode cX5_scan 5 = .ok (.aload_n 0, 1) := by decide +kernel
theorem dX5_scan_6 : decode cX5_scan 6 = .ok (.iconst 0, 1) := by decide +kernel
theorem dX5_scan_7 : decode cX5_scan 7 = .ok (.putfield 28, 3) := by decide +kernel
theorem dX5_scan_10 : decode cX5_scan 10 = .ok (.bipush 7, 2) := by decide +kernel
theorem dX5_scan_12 : decode cX5_scan 12 = .ok (.istore_n 2, 1) := by decide +kernel
theorem dX5_scan_13 : decode cX5_scan 13 = .ok (.iconst 0, 1) := by decide +kernel
theorem dX5_scan_14 : decode cX5_scan 14 = .ok (.istore_n 3, 1) := by decide +kernel
theorem dX5_scan_15 : decode cX5_scan 15 = .ok (.iload_n 3, 1) := by decide +kernel
theorem dX5_scan_16 : decode cX5_scan 16 = .ok (.aload_n 0, 1) := by decide +kernel
theorem dX5_scan_17 : decode cX5_scan 17 = .ok (.getfield 9, 3) := by decide +kernel
theorem dX5_scan_20 : decode cX5_scan 20 = .ok (.arraylength, 1) := by decide +kernel
theorem dX5_scan_21 : decode cX5_scan 21 = .ok (.if_icmp .ge 53, 3) := by decide +kernel
theorem dX5_scan_24 : decode cX5_scan 24 = .ok (.iload_n 2, 1) := by decide +kernel
theorem dX5_scan_25 : decode cX5_scan 25 = .ok (.bipush 8, 2) := by decide +kernel
theorem dX5_scan_27 : decode cX5_scan 27 = .ok (.if_icmp .eq 47, 3) := by decide +kernel
theorem dX5_scan_30 : decode cX5_scan 30 = .ok (.iload_n 2, 1) := by decide +kernel
theorem dX5_scan_31 : decode cX5_scan 31 = .ok (.bipush 9, 2) := by decide +kernel
theorem dX5_scan_33 : decode cX5_scan 33 = .ok (.if_icmp .eq 41, 3) := by decide +kernel
theorem dX5_scan_36 : decode cX5_scan 36 = .ok (.aload_n 0, 1) := by decide +kernel
theorem dX5_scan_37 : decode cX5_scan 37 = .ok (.invokevirtual 31, 3) := by decide +kernel
theorem dX5_scan_40 : decode cX5_scan 40 = .ok (.istore_n 2, 1) := by decide +kernel
theorem dX5_scan_41 : decode cX5_scan 41 = .ok (.aload_n 0, 1) := by decide +kernel
theorem dX5_scan_42 : decode cX5_scan 42 = .ok (.getfield 9, 3) := by decide +kernel
theorem dX5_scan_45 : decode cX5_scan 45 = .ok (.iload_n 3, 1) := by decide +kernel
theorem dX5_scan_46 : decode cX5_scan 46 = .ok (.iload_n 2, 1) := by decide +kernel
theorem dX5_scan_47 : decode cX5_scan 47 = .ok (.iastore, 1) := by decide +kernel
theorem dX5_scan_48 : decode cX5_scan 48 = .ok (.aload_n 0, 1) := by decide +kernel
theorem dX5_scan_49 : decode cX5_scan 49 = .ok (.getfield 15, 3) := by decide +kernel
theorem dX5_scan_52 : decode cX5_scan 52 = .ok (.iload_n 3, 1) := by decide +kernel
theorem dX5_scan_53 : decode cX5_scan 53 = .ok (.aload_n 0, 1) := by decide +kernel
theorem dX5_scan_54 : decode cX5_scan 54 = .ok (.getfield 35, 3) := by decide +kernel
theorem dX5_scan_57 : decode cX5_scan 57 = .ok (.iastore, 1) := by decide +kernel
theorem dX5_scan_58 : decode cX5_scan 58 = .ok (.aload_n 0, 1) := by decide +kernel
theorem dX5_scan_59 : decode cX5_scan 59 = .ok (.getfield 18, 3) := by decide +kernel
theorem dX5_scan_62 : decode cX5_scan 62 = .ok (.iload_n 3, 1) := by decide +kernel
theorem dX5_scan_63 : decode cX5_scan 63 = .ok (.aload_n 0, 1) := by decide +kernel
theorem dX5_scan_64 : decode cX5_scan 64 = .ok (.getfield 38, 3) := by decide +kernel
theorem dX5_scan_67 : decode cX5_scan 67 = .ok (.iastore, 1) := by decide +kernel
theorem dX5_scan_68 : decode cX5_scan 68 = .ok (.iinc 3 1, 3) := by decide +kernel
theorem dX5_scan_71 : decode cX5_scan 71 = .ok (.goto (-56), 3) := by decide +kernel
theorem dX5_scan_74 : decode cX5_scan 74 = .ok (.return_, 1) := by decide +kernel
theorem dX5_scanOne_0 : decode cX5_scanOne 0 = .ok (.aload_n 0, 1) := by decide +kernel
theorem dX5_scanOne_1 : decode cX5_scanOne 1 = .ok (.aload_n 0, 1) := by decide +kernel
theorem dX5_scanOne_2 : decode cX5_scanOne 2 = .ok (.getfield 28, 3) := by decide +kernel
theorem dX5_scanOne_5 : decode cX5_scanOne 5 = .ok (.putfield 35, 3) := by decide +kernel
theorem dX5_scanOne_8 : decode cX5_scanOne 8 = .ok (.iconst 0, 1) := by decide +kernel
theorem dX5_scanOne_9 : decode cX5_scanOne 9 = .ok (.istore_n 1, 1) := by decide +kernel
theorem dX5_scanOne_10 : decode cX5_scanOne 10 = .ok (.iload_n 1, 1) := by decide +kernel
theorem dX5_scanOne_11 : decode cX5_scanOne 11 = .ok (.sipush 160, 3) := by decide +kernel
theorem dX5_scanOne_14 : decode cX5_scanOne 14 = .ok (.if_icmp .ge 33, 3) := by decide +kernel
theorem dX5_scanOne_17 : decode cX5_scanOne 17 = .ok (.aload_n 0, 1) := by decide +kernel
theorem dX5_scanOne_18 : decode cX5_scanOne 18 = .ok (.aload_n 0, 1) := by decide +kernel
theorem dX5_scanOne_19 : decode cX5_scanOne 19 = .ok (.getfield 35, 3) := by decide +kernel
theorem dX5_scanOne_22 : decode cX5_scanOne 22 = .ok (.invokevirtual 41, 3) := by decide +kernel
theorem dX5_scanOne_25 : decode cX5_scanOne 25 = .ok (.invokestatic 45, 3) := by decide +kernel
theorem dX5_scanOne_28 : decode cX5_scanOne 28 = .ok (.ifCond .eq 19, 3) := by decide +kernel
theorem dX5_scanOne_31 : decode cX5_scanOne 31 = .ok (.aload_n 0, 1) := by decide +kernel
theorem dX5_scanOne_32 : decode cX5_scanOne 32 = .ok (.dup, 1) := by decide +kernel
theorem dX5_scanOne_33 : decode cX5_scanOne 33 = .ok (.getfield 35, 3) := by decide +kernel
theorem dX5_scanOne_36 : decode cX5_scanOne 36 = .ok (.iconst 1, 1) := by decide +kernel
theorem dX5_scanOne_37 : decode cX5_scanOne 37 = .ok (.iadd, 1) := by decide +kernel
theorem dX5_scanOne_38 : decode cX5_scanOne 38 = .ok (.putfield 35, 3) := by decide +kernel
theorem dX5_scanOne_41 : decode cX5_scanOne 41 = .ok (.iinc 1 1, 3) := by decide +kernel
theorem dX5_scanOne_44 : decode cX5_scanOne 44 = .ok (.goto (-34), 3) := by decide +kernel
theorem dX5_scanOne_47 : decode cX5_scanOne 47 = .ok (.aload_n 0, 1) := by decide +kernel
theorem dX5_scanOne_48 : decode cX5_scanOne 48 = .ok (.aload_n 0, 1) := by decide +kernel
theorem dX5_scanOne_49 : decode cX5_scanOne 49 = .ok (.getfield 35, 3) := by decide +kernel
theorem dX5_scanOne_52 : decode cX5_scanOne 52 = .ok (.invokevirtual 41, 3) := by decide +kernel
theorem dX5_scanOne_55 : decode cX5_scanOne 55 = .ok (.istore_n 1, 1) := by decide +kernel
theorem dX5_scanOne_56 : decode cX5_scanOne 56 = .ok (.aload_n 0, 1) := by decide +kernel
theorem dX5_scanOne_57 : decode cX5_scanOne 57 = .ok (.aload_n 0, 1) := by decide +kernel
theorem dX5_scanOne_58 : decode cX5_scanOne 58 = .ok (.getfield 35, 3) := by decide +kernel
theorem dX5_scanOne_61 : decode cX5_scanOne 61 = .ok (.iconst 1, 1) := by decide +kernel
theorem dX5_scanOne_62 : decode cX5_scanOne 62 = .ok (.iadd, 1) := by decide +kernel
theorem dX5_scanOne_63 : decode cX5_scanOne 63 = .ok (.putfield 28, 3) := by decide +kernel
theorem dX5_scanOne_66 : decode cX5_scanOne 66 = .ok (.aload_n 0, 1) := by decide +kernel
theorem dX5_scanOne_67 : decode cX5_scanOne 67 = .ok (.iconst 0, 1) := by decide +kernel
theorem dX5_scanOne_68 : decode cX5_scanOne 68 = .ok (.putfield 38, 3) := by decide +kernel
theorem dX5_scanOne_71 : decode cX5_scanOne 71 = .ok (.iload_n 1, 1) := by decide +kernel
theorem dX5_scanOne_72 : decode cX5_scanOne 72 = .ok (.iconst (-1), 1) := by decide +kernel
theorem dX5_scanOne_73 : decode cX5_scanOne 73 = .ok (.if_icmp .ne 6, 3) := by decide +kernel
theorem dX5_scanOne_76 : decode cX5_scanOne 76 = .ok (.bipush 8, 2) := by decide +kernel
theorem dX5_scanOne_78 : decode cX5_scanOne 78 = .ok (.ireturn, 1) := by decide +kernel
theorem dX5_scanOne_79 : decode cX5_scanOne 79 = .ok (.iload_n 1, 1) := by decide +kernel
theorem dX5_scanOne_80 : decode cX5_scanOne 80 = .ok (.invokestatic 49, 3) := by decide +kernel
theorem dX5_scanOne_83 : decode cX5_scanOne 83 = .ok (.ifCond .eq 8, 3) := by decide +kernel
theorem dX5_scanOne_86 : decode cX5_scanOne 86 = .ok (.aload_n 0, 1) := by decide +kernel
theorem dX5_scanOne_87 : decode cX5_scanOne 87 = .ok (.invokevirtual 52, 3) := by decide +kernel
theorem dX5_scanOne_90 : decode cX5_scanOne 90 = .ok (.ireturn, 1) := by decide +kernel
theorem dX5_scanOne_91 : decode cX5_scanOne 91 = .ok (.iload_n 1, 1) := by decide +kernel
theorem dX5_scanOne_92 : decode cX5_scanOne 92 = .ok (.invokestatic 55, 3) := by decide +kernel
theorem dX5_scanOne_95 : decode cX5_scanOne 95 = .ok (.ifCond .eq 8, 3) := by decide +kernel
theorem dX5_scanOne_98 : decode cX5_scanOne 98 = .ok (.aload_n 0, 1) := by decide +kernel
theorem dX5_scanOne_99 : decode cX5_scanOne 99 = .ok (.invokevirtual 58, 3) := by decide +kernel
theorem dX5_scanOne_102 : decode cX5_scanOne 102 = .ok (.ireturn, 1) := by decide +kernel
theorem dX5_scanOne_103 : decode cX5_scanOne 103 = .ok (.iload_n 1, 1) := by decide +kernel
theorem dX5_scanOne_104 : decode cX5_scanOne 104 = .ok (.invokestatic 61, 3) := by decide +kernel
theorem dX5_scanOne_107 : decode cX5_scanOne 107 = .ok (.ifCond .eq 7, 3) := by decide +kernel
theorem dX5_scanOne_110 : decode cX5_scanOne 110 = .ok (.iload_n 1, 1) := by decide +kernel
theorem dX5_scanOne_111 : decode cX5_scanOne 111 = .ok (.goto 5, 3) := by decide +kernel
theorem dX5_scanOne_114 : decode cX5_scanOne 114 = .ok (.bipush 9, 2) := by decide +kernel
theorem dX5_scanOne_116 : decode cX5_scanOne 116 = .ok (.ireturn, 1) := by decide +kernel
theorem dX5_byteAt_0 : decode cX5_byteAt 0 = .ok (.iload_n 1, 1) := by decide +kernel
theorem dX5_byteAt_1 : decode cX5_byteAt 1 = .ok (.ifCond .lt 29, 3) := by decide +kernel
theorem dX5_byteAt_4 : decode cX5_byteAt 4 = .ok (.iload_n 1, 1) := by decide +kernel
theorem dX5_byteAt_5 : decode cX5_byteAt 5 = .ok (.aload_n 0, 1) := by decide +kernel
theorem dX5_byteAt_6 : decode cX5_byteAt 6 = .ok (.getfield 24, 3) := by decide +kernel
theorem dX5_byteAt_9 : decode cX5_byteAt 9 = .ok (.if_icmp .ge 21, 3) := by decide +kernel
theorem dX5_byteAt_12 : decode cX5_byteAt 12 = .ok (.iload_n 1, 1) := by decide +kernel
theorem dX5_byteAt_13 : decode cX5_byteAt 13 = .ok (.aload_n 0, 1) := by decide +kernel
theorem dX5_byteAt_14 : decode cX5_byteAt 14 = .ok (.getfield 21, 3) := by decide +kernel
theorem dX5_byteAt_17 : decode cX5_byteAt 17 = .ok (.arraylength, 1) := by decide +kernel
theorem dX5_byteAt_18 : decode cX5_byteAt 18 = .ok (.if_icmp .ge 12, 3) := by decide +kernel
theorem dX5_byteAt_21 : decode cX5_byteAt 21 = .ok (.aload_n 0, 1) := by decide +kernel
theorem dX5_byteAt_22 : decode cX5_byteAt 22 = .ok (.getfield 21, 3) := by decide +kernel
theorem dX5_byteAt_25 : decode cX5_byteAt 25 = .ok (.iload_n 1, 1) := by decide +kernel
theorem dX5_byteAt_26 : decode cX5_byteAt 26 = .ok (.iaload, 1) := by decide +kernel
theorem dX5_byteAt_27 : decode cX5_byteAt 27 = .ok (.goto 4, 3) := by decide +kernel
theorem dX5_byteAt_30 : decode cX5_byteAt 30 = .ok (.iconst (-1), 1) := by decide +kernel
theorem dX5_byteAt_31 : decode cX5_byteAt 31 = .ok (.ireturn, 1) := by decide +kernel
theorem dX5_isBlank_0 : decode cX5_isBlank 0 = .ok (.iload_n 0, 1) := by decide +kernel
theorem dX5_isBlank_1 : decode cX5_isBlank 1 = .ok (.bipush 32, 2) := by decide +kernel
theorem dX5_isBlank_3 : decode cX5_isBlank 3 = .ok (.if_icmp .eq 9, 3) := by decide +kernel
theorem dX5_isBlank_6 : decode cX5_isBlank 6 = .ok (.iload_n 0, 1) := by decide +kernel
theorem dX5_isBlank_7 : decode cX5_isBlank 7 = .ok (.bipush 10, 2) := by decide +kernel
theorem dX5_isBlank_9 : decode cX5_isBlank 9 = .ok (.if_icmp .ne 7, 3) := by decide +kernel
theorem dX5_isBlank_12 : decode cX5_isBlank 12 = .ok (.iconst 1, 1) := by decide +kernel
theorem dX5_isBlank_13 : decode cX5_isBlank 13 = .ok (.goto 4, 3) := by decide +kernel
theorem dX5_isBlank_16 : decode cX5_isBlank 16 = .ok (.iconst 0, 1) := by decide +kernel
theorem dX5_isBlank_17 : decode cX5_isBlank 17 = .ok (.ireturn, 1) := by decide +kernel
theorem dX5_isLetter_0 : decode cX5_isLetter 0 = .ok (.iload_n 0, 1) := by decide +kernel
theorem dX5_isLetter_1 : decode cX5_isLetter 1 = .ok (.bipush 97, 2) := by decide +kernel
theorem dX5_isLetter_3 : decode cX5_isLetter 3 = .ok (.if_icmp .lt 13, 3) := by decide +kernel
theorem dX5_isLetter_6 : decode cX5_isLetter 6 = .ok (.iload_n 0, 1) := by decide +kernel
theorem dX5_isLetter_7 : decode cX5_isLetter 7 = .ok (.bipush 122, 2) := by decide +kernel
theorem dX5_isLetter_9 : decode cX5_isLetter 9 = .ok (.if_icmp .gt 7, 3) := by decide +kernel
theorem dX5_isLetter_12 : decode cX5_isLetter 12 = .ok (.iconst 1, 1) := by decide +kernel
theorem dX5_isLetter_13 : decode cX5_isLetter 13 = .ok (.goto 4, 3) := by decide +kernel
theorem dX5_isLetter_16 : decode cX5_isLetter 16 = .ok (.iconst 0, 1) := by decide +kernel
theorem dX5_isLetter_17 : decode cX5_isLetter 17 = .ok (.ireturn, 1) := by decide +kernel
theorem dX5_isDigit_0 : decode cX5_isDigit 0 = .ok (.iload_n 0, 1) := by decide +kernel
theorem dX5_isDigit_1 : decode cX5_isDigit 1 = .ok (.bipush 48, 2) := by decide +kernel
theorem dX5_isDigit_3 : decode cX5_isDigit 3 = .ok (.if_icmp .lt 13, 3) := by decide +kernel
theorem dX5_isDigit_6 : decode cX5_isDigit 6 = .ok (.iload_n 0, 1) := by decide +kernel
theorem dX5_isDigit_7 : decode cX5_isDigit 7 = .ok (.bipush 57, 2) := by decide +kernel
theorem dX5_isDigit_9 : decode cX5_isDigit 9 = .ok (.if_icmp .gt 7, 3) := by decide +kernel
theorem dX5_isDigit_12 : decode cX5_isDigit 12 = .ok (.iconst 1, 1) := by decide +kernel
theorem dX5_isDigit_13 : decode cX5_isDigit 13 = .ok (.goto 4, 3) := by decide +kernel
theorem dX5_isDigit_16 : decode cX5_isDigit 16 = .ok (.iconst 0, 1) := by decide +kernel
theorem dX5_isDigit_17 : decode cX5_isDigit 17 = .ok (.ireturn, 1) := by decide +kernel
theorem dX5_isSign_0 : decode cX5_isSign 0 = .ok (.iload_n 0, 1) := by decide +kernel
theorem dX5_isSign_1 : decode cX5_isSign 1 = .ok (.tableswitch 105 40 61 #[103, 103, 103, 103, 105, 103, 105, 105, 105, 105, 105, 105, 105, 105, 105, 105, 105, 105, 105, 103, 103, 103], 103) := by decide +kernel
theorem dX5_isSign_104 : decode cX5_isSign 104 = .ok (.iconst 1, 1) := by decide +kernel
theorem dX5_isSign_105 : decode cX5_isSign 105 = .ok (.ireturn, 1) := by decide +kernel
theorem dX5_isSign_106 : decode cX5_isSign 106 = .ok (.iconst 0, 1) := by decide +kernel
theorem dX5_isSign_107 : decode cX5_isSign 107 = .ok (.ireturn, 1) := by decide +kernel
theorem dX5_scanNumber_0 : decode cX5_scanNumber 0 = .ok (.iconst 0, 1) := by decide +kernel
theorem dX5_scanNumber_1 : decode cX5_scanNumber 1 = .ok (.istore_n 1, 1) := by decide +kernel
theorem dX5_scanNumber_2 : decode cX5_scanNumber 2 = .ok (.iload_n 1, 1) := by decide +kernel
theorem dX5_scanNumber_3 : decode cX5_scanNumber 3 = .ok (.sipush 160, 3) := by decide +kernel
theorem dX5_scanNumber_6 : decode cX5_scanNumber 6 = .ok (.if_icmp .ge 33, 3) := by decide +kernel
theorem dX5_scanNumber_9 : decode cX5_scanNumber 9 = .ok (.aload_n 0, 1) := by decide +kernel
theorem dX5_scanNumber_10 : decode cX5_scanNumber 10 = .ok (.aload_n 0, 1) := by decide +kernel
theorem dX5_scanNumber_11 : decode cX5_scanNumber 11 = .ok (.getfield 28, 3) := by decide +kernel
theorem dX5_scanNumber_14 : decode cX5_scanNumber 14 = .ok (.invokevirtual 41, 3) := by decide +kernel
theorem dX5_scanNumber_17 : decode cX5_scanNumber 17 = .ok (.invokestatic 55, 3) := by decide +kernel
theorem dX5_scanNumber_20 : decode cX5_scanNumber 20 = .ok (.ifCond .eq 19, 3) := by decide +kernel
theorem dX5_scanNumber_23 : decode cX5_scanNumber 23 = .ok (.aload_n 0, 1) := by decide +kernel
theorem dX5_scanNumber_24 : decode cX5_scanNumber 24 = .ok (.dup, 1) := by decide +kernel
theorem dX5_scanNumber_25 : decode cX5_scanNumber 25 = .ok (.getfield 28, 3) := by decide +kernel
theorem dX5_scanNumber_28 : decode cX5_scanNumber 28 = .ok (.iconst 1, 1) := by decide +kernel
theorem dX5_scanNumber_29 : decode cX5_scanNumber 29 = .ok (.iadd, 1) := by decide +kernel
theorem dX5_scanNumber_30 : decode cX5_scanNumber 30 = .ok (.putfield 28, 3) := by decide +kernel
theorem dX5_scanNumber_33 : decode cX5_scanNumber 33 = .ok (.iinc 1 1, 3) := by decide +kernel
theorem dX5_scanNumber_36 : decode cX5_scanNumber 36 = .ok (.goto (-34), 3) := by decide +kernel
theorem dX5_scanNumber_39 : decode cX5_scanNumber 39 = .ok (.aload_n 0, 1) := by decide +kernel
theorem dX5_scanNumber_40 : decode cX5_scanNumber 40 = .ok (.getfield 28, 3) := by decide +kernel
theorem dX5_scanNumber_43 : decode cX5_scanNumber 43 = .ok (.aload_n 0, 1) := by decide +kernel
theorem dX5_scanNumber_44 : decode cX5_scanNumber 44 = .ok (.getfield 35, 3) := by decide +kernel
theorem dX5_scanNumber_47 : decode cX5_scanNumber 47 = .ok (.isub, 1) := by decide +kernel
theorem dX5_scanNumber_48 : decode cX5_scanNumber 48 = .ok (.iconst 4, 1) := by decide +kernel
theorem dX5_scanNumber_49 : decode cX5_scanNumber 49 = .ok (.if_icmp .le 6, 3) := by decide +kernel
theorem dX5_scanNumber_52 : decode cX5_scanNumber 52 = .ok (.bipush 9, 2) := by decide +kernel
theorem dX5_scanNumber_54 : decode cX5_scanNumber 54 = .ok (.ireturn, 1) := by decide +kernel
theorem dX5_scanNumber_55 : decode cX5_scanNumber 55 = .ok (.aload_n 0, 1) := by decide +kernel
theorem dX5_scanNumber_56 : decode cX5_scanNumber 56 = .ok (.getfield 35, 3) := by decide +kernel
theorem dX5_scanNumber_59 : decode cX5_scanNumber 59 = .ok (.istore_n 1, 1) := by decide +kernel
theorem dX5_scanNumber_60 : decode cX5_scanNumber 60 = .ok (.iload_n 1, 1) := by decide +kernel
theorem dX5_scanNumber_61 : decode cX5_scanNumber 61 = .ok (.aload_n 0, 1) := by decide +kernel
theorem dX5_scanNumber_62 : decode cX5_scanNumber 62 = .ok (.getfield 28, 3) := by decide +kernel
theorem dX5_scanNumber_65 : decode cX5_scanNumber 65 = .ok (.if_icmp .ge 29, 3) := by decide +kernel
theorem dX5_scanNumber_68 : decode cX5_scanNumber 68 = .ok (.aload_n 0, 1) := by decide +kernel
theorem dX5_scanNumber_69 : decode cX5_scanNumber 69 = .ok (.aload_n 0, 1) := by decide +kernel
theorem dX5_scanNumber_70 : decode cX5_scanNumber 70 = .ok (.getfield 38, 3) := by decide +kernel
theorem dX5_scanNumber_73 : decode cX5_scanNumber 73 = .ok (.bipush 10, 2) := by decide +kernel
theorem dX5_scanNumber_75 : decode cX5_scanNumber 75 = .ok (.imul, 1) := by decide +kernel
theorem dX5_scanNumber_76 : decode cX5_scanNumber 76 = .ok (.aload_n 0, 1) := by decide +kernel
theorem dX5_scanNumber_77 : decode cX5_scanNumber 77 = .ok (.iload_n 1, 1) := by decide +kernel
theorem dX5_scanNumber_78 : decode cX5_scanNumber 78 = .ok (.invokevirtual 41, 3) := by decide +kernel
theorem dX5_scanNumber_81 : decode cX5_scanNumber 81 = .ok (.iadd, 1) := by decide +kernel
theorem dX5_scanNumber_82 : decode cX5_scanNumber 82 = .ok (.bipush 48, 2) := by decide +kernel
theorem dX5_scanNumber_84 : decode cX5_scanNumber 84 = .ok (.isub, 1) := by decide +kernel
theorem dX5_scanNumber_85 : decode cX5_scanNumber 85 = .ok (.putfield 38, 3) := by decide +kernel
theorem dX5_scanNumber_88 : decode cX5_scanNumber 88 = .ok (.iinc 1 1, 3) := by decide +kernel
theorem dX5_scanNumber_91 : decode cX5_scanNumber 91 = .ok (.goto (-31), 3) := by decide +kernel
theorem dX5_scanNumber_94 : decode cX5_scanNumber 94 = .ok (.bipush 7, 2) := by decide +kernel
theorem dX5_scanNumber_96 : decode cX5_scanNumber 96 = .ok (.ireturn, 1) := by decide +kernel
theorem dX5_scanWord_0 : decode cX5_scanWord 0 = .ok (.iconst 0, 1) := by decide +kernel
theorem dX5_scanWord_1 : decode cX5_scanWord 1 = .ok (.istore_n 1, 1) := by decide +kernel
theorem dX5_scanWord_2 : decode cX5_scanWord 2 = .ok (.iload_n 1, 1) := by decide +kernel
theorem dX5_scanWord_3 : decode cX5_scanWord 3 = .ok (.sipush 160, 3) := by decide +kernel
theorem dX5_scanWord_6 : decode cX5_scanWord 6 = .ok (.if_icmp .ge 33, 3) := by decide +kernel
theorem dX5_scanWord_9 : decode cX5_scanWord 9 = .ok (.aload_n 0, 1) := by decide +kernel
theorem dX5_scanWord_10 : decode cX5_scanWord 10 = .ok (.aload_n 0, 1) := by decide +kernel
theorem dX5_scanWord_11 : decode cX5_scanWord 11 = .ok (.getfield 28, 3) := by decide +kernel
theorem dX5_scanWord_14 : decode cX5_scanWord 14 = .ok (.invokevirtual 41, 3) := by decide +kernel
theorem dX5_scanWord_17 : decode cX5_scanWord 17 = .ok (.invokestatic 49, 3) := by decide +kernel
theorem dX5_scanWord_20 : decode cX5_scanWord 20 = .ok (.ifCond .eq 19, 3) := by decide +kernel
theorem dX5_scanWord_23 : decode cX5_scanWord 23 = .ok (.aload_n 0, 1) := by decide +kernel
theorem dX5_scanWord_24 : decode cX5_scanWord 24 = .ok (.dup, 1) := by decide +kernel
theorem dX5_scanWord_25 : decode cX5_scanWord 25 = .ok (.getfield 28, 3) := by decide +kernel
theorem dX5_scanWord_28 : decode cX5_scanWord 28 = .ok (.iconst 1, 1) := by decide +kernel
theorem dX5_scanWord_29 : decode cX5_scanWord 29 = .ok (.iadd, 1) := by decide +kernel
theorem dX5_scanWord_30 : decode cX5_scanWord 30 = .ok (.putfield 28, 3) := by decide +kernel
theorem dX5_scanWord_33 : decode cX5_scanWord 33 = .ok (.iinc 1 1, 3) := by decide +kernel
theorem dX5_scanWord_36 : decode cX5_scanWord 36 = .ok (.goto (-34), 3) := by decide +kernel
theorem dX5_scanWord_39 : decode cX5_scanWord 39 = .ok (.aload_n 0, 1) := by decide +kernel
theorem dX5_scanWord_40 : decode cX5_scanWord 40 = .ok (.ldc 64, 2) := by decide +kernel
theorem dX5_scanWord_42 : decode cX5_scanWord 42 = .ok (.invokevirtual 66, 3) := by decide +kernel
theorem dX5_scanWord_45 : decode cX5_scanWord 45 = .ok (.ifCond .eq 5, 3) := by decide +kernel
theorem dX5_scanWord_48 : decode cX5_scanWord 48 = .ok (.iconst (-1), 1) := by decide +kernel
theorem dX5_scanWord_49 : decode cX5_scanWord 49 = .ok (.ireturn, 1) := by decide +kernel
theorem dX5_scanWord_50 : decode cX5_scanWord 50 = .ok (.aload_n 0, 1) := by decide +kernel
theorem dX5_scanWord_51 : decode cX5_scanWord 51 = .ok (.ldc 72, 2) := by decide +kernel
theorem dX5_scanWord_53 : decode cX5_scanWord 53 = .ok (.invokevirtual 66, 3) := by decide +kernel
theorem dX5_scanWord_56 : decode cX5_scanWord 56 = .ok (.ifCond .eq 6, 3) := by decide +kernel
theorem dX5_scanWord_59 : decode cX5_scanWord 59 = .ok (.bipush (-2), 2) := by decide +kernel
theorem dX5_scanWord_61 : decode cX5_scanWord 61 = .ok (.ireturn, 1) := by decide +kernel
theorem dX5_scanWord_62 : decode cX5_scanWord 62 = .ok (.aload_n 0, 1) := by decide +kernel
theorem dX5_scanWord_63 : decode cX5_scanWord 63 = .ok (.ldc 74, 2) := by decide +kernel
theorem dX5_scanWord_65 : decode cX5_scanWord 65 = .ok (.invokevirtual 66, 3) := by decide +kernel
theorem dX5_scanWord_68 : decode cX5_scanWord 68 = .ok (.ifCond .eq 6, 3) := by decide +kernel
theorem dX5_scanWord_71 : decode cX5_scanWord 71 = .ok (.bipush (-3), 2) := by decide +kernel
theorem dX5_scanWord_73 : decode cX5_scanWord 73 = .ok (.ireturn, 1) := by decide +kernel
theorem dX5_scanWord_74 : decode cX5_scanWord 74 = .ok (.aload_n 0, 1) := by decide +kernel
theorem dX5_scanWord_75 : decode cX5_scanWord 75 = .ok (.ldc 76, 2) := by decide +kernel
theorem dX5_scanWord_77 : decode cX5_scanWord 77 = .ok (.invokevirtual 66, 3) := by decide +kernel
theorem dX5_scanWord_80 : decode cX5_scanWord 80 = .ok (.ifCond .eq 6, 3) := by decide +kernel
theorem dX5_scanWord_83 : decode cX5_scanWord 83 = .ok (.bipush (-4), 2) := by decide +kernel
theorem dX5_scanWord_85 : decode cX5_scanWord 85 = .ok (.ireturn, 1) := by decide +kernel
theorem dX5_scanWord_86 : decode cX5_scanWord 86 = .ok (.aload_n 0, 1) := by decide +kernel
theorem dX5_scanWord_87 : decode cX5_scanWord 87 = .ok (.ldc 78, 2) := by decide +kernel
theorem dX5_scanWord_89 : decode cX5_scanWord 89 = .ok (.invokevirtual 66, 3) := by decide +kernel
theorem dX5_scanWord_92 : decode cX5_scanWord 92 = .ok (.ifCond .eq 6, 3) := by decide +kernel
theorem dX5_scanWord_95 : decode cX5_scanWord 95 = .ok (.bipush (-5), 2) := by decide +kernel
theorem dX5_scanWord_97 : decode cX5_scanWord 97 = .ok (.ireturn, 1) := by decide +kernel
theorem dX5_scanWord_98 : decode cX5_scanWord 98 = .ok (.aload_n 0, 1) := by decide +kernel
theorem dX5_scanWord_99 : decode cX5_scanWord 99 = .ok (.ldc 80, 2) := by decide +kernel
theorem dX5_scanWord_101 : decode cX5_scanWord 101 = .ok (.invokevirtual 66, 3) := by decide +kernel
theorem dX5_scanWord_104 : decode cX5_scanWord 104 = .ok (.ifCond .eq 6, 3) := by decide +kernel
theorem dX5_scanWord_107 : decode cX5_scanWord 107 = .ok (.bipush (-6), 2) := by decide +kernel
theorem dX5_scanWord_109 : decode cX5_scanWord 109 = .ok (.ireturn, 1) := by decide +kernel
theorem dX5_scanWord_110 : decode cX5_scanWord 110 = .ok (.aload_n 0, 1) := by decide +kernel
theorem dX5_scanWord_111 : decode cX5_scanWord 111 = .ok (.ldc 82, 2) := by decide +kernel
theorem dX5_scanWord_113 : decode cX5_scanWord 113 = .ok (.invokevirtual 66, 3) := by decide +kernel
theorem dX5_scanWord_116 : decode cX5_scanWord 116 = .ok (.ifCond .eq 5, 3) := by decide +kernel
theorem dX5_scanWord_119 : decode cX5_scanWord 119 = .ok (.iconst 4, 1) := by decide +kernel
theorem dX5_scanWord_120 : decode cX5_scanWord 120 = .ok (.ireturn, 1) := by decide +kernel
theorem dX5_scanWord_121 : decode cX5_scanWord 121 = .ok (.aload_n 0, 1) := by decide +kernel
theorem dX5_scanWord_122 : decode cX5_scanWord 122 = .ok (.ldc 84, 2) := by decide +kernel
theorem dX5_scanWord_124 : decode cX5_scanWord 124 = .ok (.invokevirtual 66, 3) := by decide +kernel
theorem dX5_scanWord_127 : decode cX5_scanWord 127 = .ok (.ifCond .eq 5, 3) := by decide +kernel
theorem dX5_scanWord_130 : decode cX5_scanWord 130 = .ok (.iconst 5, 1) := by decide +kernel
theorem dX5_scanWord_131 : decode cX5_scanWord 131 = .ok (.ireturn, 1) := by decide +kernel
theorem dX5_scanWord_132 : decode cX5_scanWord 132 = .ok (.aload_n 0, 1) := by decide +kernel
theorem dX5_scanWord_133 : decode cX5_scanWord 133 = .ok (.ldc 86, 2) := by decide +kernel
theorem dX5_scanWord_135 : decode cX5_scanWord 135 = .ok (.invokevirtual 66, 3) := by decide +kernel
theorem dX5_scanWord_138 : decode cX5_scanWord 138 = .ok (.ifCond .eq 6, 3) := by decide +kernel
theorem dX5_scanWord_141 : decode cX5_scanWord 141 = .ok (.bipush 6, 2) := by decide +kernel
theorem dX5_scanWord_143 : decode cX5_scanWord 143 = .ok (.ireturn, 1) := by decide +kernel
theorem dX5_scanWord_144 : decode cX5_scanWord 144 = .ok (.aload_n 0, 1) := by decide +kernel
theorem dX5_scanWord_145 : decode cX5_scanWord 145 = .ok (.ldc 88, 2) := by decide +kernel
theorem dX5_scanWord_147 : decode cX5_scanWord 147 = .ok (.invokevirtual 66, 3) := by decide +kernel
theorem dX5_scanWord_150 : decode cX5_scanWord 150 = .ok (.ifCond .eq 5, 3) := by decide +kernel
theorem dX5_scanWord_153 : decode cX5_scanWord 153 = .ok (.iconst 1, 1) := by decide +kernel
theorem dX5_scanWord_154 : decode cX5_scanWord 154 = .ok (.ireturn, 1) := by decide +kernel
theorem dX5_scanWord_155 : decode cX5_scanWord 155 = .ok (.aload_n 0, 1) := by decide +kernel
theorem dX5_scanWord_156 : decode cX5_scanWord 156 = .ok (.ldc 90, 2) := by decide +kernel
theorem dX5_scanWord_158 : decode cX5_scanWord 158 = .ok (.invokevirtual 66, 3) := by decide +kernel
theorem dX5_scanWord_161 : decode cX5_scanWord 161 = .ok (.ifCond .eq 5, 3) := by decide +kernel
theorem dX5_scanWord_164 : decode cX5_scanWord 164 = .ok (.iconst 2, 1) := by decide +kernel
theorem dX5_scanWord_165 : decode cX5_scanWord 165 = .ok (.ireturn, 1) := by decide +kernel
theorem dX5_scanWord_166 : decode cX5_scanWord 166 = .ok (.aload_n 0, 1) := by decide +kernel
theorem dX5_scanWord_167 : decode cX5_scanWord 167 = .ok (.ldc 92, 2) := by decide +kernel
theorem dX5_scanWord_169 : decode cX5_scanWord 169 = .ok (.invokevirtual 66, 3) := by decide +kernel
theorem dX5_scanWord_172 : decode cX5_scanWord 172 = .ok (.ifCond .eq 7, 3) := by decide +kernel
theorem dX5_scanWord_175 : decode cX5_scanWord 175 = .ok (.iconst 3, 1) := by decide +kernel
theorem dX5_scanWord_176 : decode cX5_scanWord 176 = .ok (.goto 5, 3) := by decide +kernel
theorem dX5_scanWord_179 : decode cX5_scanWord 179 = .ok (.bipush 9, 2) := by decide +kernel
theorem dX5_scanWord_181 : decode cX5_scanWord 181 = .ok (.ireturn, 1) := by decide +kernel
theorem dX5_isWord_0 : decode cX5_isWord 0 = .ok (.aload_n 0, 1) := by decide +kernel
theorem dX5_isWord_1 : decode cX5_isWord 1 = .ok (.getfield 28, 3) := by decide +kernel
theorem dX5_isWord_4 : decode cX5_isWord 4 = .ok (.aload_n 0, 1) := by decide +kernel
theorem dX5_isWord_5 : decode cX5_isWord 5 = .ok (.getfield 35, 3) := by decide +kernel
theorem dX5_isWord_8 : decode cX5_isWord 8 = .ok (.isub, 1) := by decide +kernel
theorem dX5_isWord_9 : decode cX5_isWord 9 = .ok (.aload_n 1, 1) := by decide +kernel
theorem dX5_isWord_10 : decode cX5_isWord 10 = .ok (.invokevirtual 94, 3) := by decide +kernel
theorem dX5_isWord_13 : decode cX5_isWord 13 = .ok (.if_icmp .eq 5, 3) := by decide +kernel
theorem dX5_isWord_16 : decode cX5_isWord 16 = .ok (.iconst 0, 1) := by decide +kernel
theorem dX5_isWord_17 : decode cX5_isWord 17 = .ok (.ireturn, 1) := by decide +kernel
theorem dX5_isWord_18 : decode cX5_isWord 18 = .ok (.iconst 0, 1) := by decide +kernel
theorem dX5_isWord_19 : decode cX5_isWord 19 = .ok (.istore_n 2, 1) := by decide +kernel
theorem dX5_isWord_20 : decode cX5_isWord 20 = .ok (.iload_n 2, 1) := by decide +kernel
theorem dX5_isWord_21 : decode cX5_isWord 21 = .ok (.aload_n 1, 1) := by decide +kernel
theorem dX5_isWord_22 : decode cX5_isWord 22 = .ok (.invokevirtual 94, 3) := by decide +kernel
theorem dX5_isWord_25 : decode cX5_isWord 25 = .ok (.if_icmp .ge 29, 3) := by decide +kernel
theorem dX5_isWord_28 : decode cX5_isWord 28 = .ok (.aload_n 0, 1) := by decide +kernel
theorem dX5_isWord_29 : decode cX5_isWord 29 = .ok (.aload_n 0, 1) := by decide +kernel
theorem dX5_isWord_30 : decode cX5_isWord 30 = .ok (.getfield 35, 3) := by decide +kernel
theorem dX5_isWord_33 : decode cX5_isWord 33 = .ok (.iload_n 2, 1) := by decide +kernel
theorem dX5_isWord_34 : decode cX5_isWord 34 = .ok (.iadd, 1) := by decide +kernel
theorem dX5_isWord_35 : decode cX5_isWord 35 = .ok (.invokevirtual 41, 3) := by decide +kernel
theorem dX5_isWord_38 : decode cX5_isWord 38 = .ok (.aload_n 1, 1) := by decide +kernel
theorem dX5_isWord_39 : decode cX5_isWord 39 = .ok (.iload_n 2, 1) := by decide +kernel
theorem dX5_isWord_40 : decode cX5_isWord 40 = .ok (.invokevirtual 99, 3) := by decide +kernel
theorem dX5_isWord_43 : decode cX5_isWord 43 = .ok (.if_icmp .eq 5, 3) := by decide +kernel
theorem dX5_isWord_46 : decode cX5_isWord 46 = .ok (.iconst 0, 1) := by decide +kernel
theorem dX5_isWord_47 : decode cX5_isWord 47 = .ok (.ireturn, 1) := by decide +kernel
theorem dX5_isWord_48 : decode cX5_isWord 48 = .ok (.iinc 2 1, 3) := by decide +kernel
theorem dX5_isWord_51 : decode cX5_isWord 51 = .ok (.goto (-31), 3) := by decide +kernel
theorem dX5_isWord_54 : decode cX5_isWord 54 = .ok (.iconst 1, 1) := by decide +kernel
theorem dX5_isWord_55 : decode cX5_isWord 55 = .ok (.ireturn, 1) := by decide +kernel
theorem dX6_init_0 : decode cX6_init 0 = .ok (.aload_n 0, 1) := by decide +kernel
theorem dX6_init_1 : decode cX6_init 1 = .ok (.invokespecial 3, 3) := by decide +kernel
theorem dX6_init_4 : decode cX6_init 4 = .ok (.aload_n 0, 1) := by decide +kernel
theorem dX6_init_5 : decode cX6_init 5 = .ok (.bipush 6, 2) := by decide +kernel
theorem dX6_init_7 : decode cX6_init 7 = .ok (.newarray .int, 2) := by decide +kernel
theorem dX6_init_9 : decode cX6_init 9 = .ok (.putfield 11, 3) := by decide +kernel
theorem dX6_init_12 : decode cX6_init 12 = .ok (.aload_n 0, 1) := by decide +kernel
theorem dX6_init_13 : decode cX6_init 13 = .ok (.aload_n 1, 1) := by decide +kernel
theorem dX6_init_14 : decode cX6_init 14 = .ok (.putfield 17, 3) := by decide +kernel
theorem dX6_init_17 : decode cX6_init 17 = .ok (.return_, 1) := by decide +kernel
theorem dX6_begin_0 : decode cX6_begin 0 = .ok (.aload_n 0, 1) := by decide +kernel
theorem dX6_begin_1 : decode cX6_begin 1 = .ok (.aload_n 1, 1) := by decide +kernel
theorem dX6_begin_2 : decode cX6_begin 2 = .ok (.getfield 20, 3) := by decide +kernel
theorem dX6_begin_5 : decode cX6_begin 5 = .ok (.putfield 26, 3) := by decide +kernel
theorem dX6_begin_8 : decode cX6_begin 8 = .ok (.aload_n 0, 1) := by decide +kernel
theorem dX6_begin_9 : decode cX6_begin 9 = .ok (.aload_n 1, 1) := by decide +kernel
theorem dX6_begin_10 : decode cX6_begin 10 = .ok (.getfield 27, 3) := by decide +kernel
theorem dX6_begin_13 : decode cX6_begin 13 = .ok (.putfield 30, 3) := by decide +kernel
theorem dX6_begin_16 : decode cX6_begin 16 = .ok (.aload_n 0, 1) := by decide +kernel
theorem dX6_begin_17 : decode cX6_begin 17 = .ok (.aload_n 1, 1) := by decide +kernel
theorem dX6_begin_18 : decode cX6_begin 18 = .ok (.getfield 31, 3) := by decide +kernel
theorem dX6_begin_21 : decode cX6_begin 21 = .ok (.putfield 34, 3) := by decide +kernel
theorem dX6_begin_24 : decode cX6_begin 24 = .ok (.aload_n 0, 1) := by decide +kernel
theorem dX6_begin_25 : decode cX6_begin 25 = .ok (.aload_n 1, 1) := by decide +kernel
theorem dX6_begin_26 : decode cX6_begin 26 = .ok (.getfield 35, 3) := by decide +kernel
theorem dX6_begin_29 : decode cX6_begin 29 = .ok (.putfield 38, 3) := by decide +kernel
theorem dX6_begin_32 : decode cX6_begin 32 = .ok (.aload_n 0, 1) := by decide +kernel
theorem dX6_begin_33 : decode cX6_begin 33 = .ok (.aload_n 1, 1) := by decide +kernel
theorem dX6_begin_34 : decode cX6_begin 34 = .ok (.getfield 39, 3) := by decide +kernel
theorem dX6_begin_37 : decode cX6_begin 37 = .ok (.putfield 42, 3) := by decide +kernel
theorem dX6_begin_40 : decode cX6_begin 40 = .ok (.aload_n 0, 1) := by decide +kernel
theorem dX6_begin_41 : decode cX6_begin 41 = .ok (.iload_n 2, 1) := by decide +kernel
theorem dX6_begin_42 : decode cX6_begin 42 = .ok (.putfield 43, 3) := by decide +kernel
theorem dX6_begin_45 : decode cX6_begin 45 = .ok (.aload_n 0, 1) := by decide +kernel
theorem dX6_begin_46 : decode cX6_begin 46 = .ok (.iload_n 3, 1) := by decide +kernel
theorem dX6_begin_47 : decode cX6_begin 47 = .ok (.putfield 46, 3) := by decide +kernel
theorem dX6_begin_50 : decode cX6_begin 50 = .ok (.aload_n 0, 1) := by decide +kernel
theorem dX6_begin_51 : decode cX6_begin 51 = .ok (.aload 4, 2) := by decide +kernel
theorem dX6_begin_53 : decode cX6_begin 53 = .ok (.putfield 49, 3) := by decide +kernel
theorem dX6_begin_56 : decode cX6_begin 56 = .ok (.aload_n 0, 1) := by decide +kernel
theorem dX6_begin_57 : decode cX6_begin 57 = .ok (.iconst (-1), 1) := by decide +kernel
theorem dX6_begin_58 : decode cX6_begin 58 = .ok (.putfield 53, 3) := by decide +kernel
theorem dX6_begin_61 : decode cX6_begin 61 = .ok (.aload_n 0, 1) := by decide +kernel
theorem dX6_begin_62 : decode cX6_begin 62 = .ok (.iconst 0, 1) := by decide +kernel
theorem dX6_begin_63 : decode cX6_begin 63 = .ok (.putfield 56, 3) := by decide +kernel
theorem dX6_begin_66 : decode cX6_begin 66 = .ok (.aload_n 0, 1) := by decide +kernel
theorem dX6_begin_67 : decode cX6_begin 67 = .ok (.iconst 0, 1) := by decide +kernel
theorem dX6_begin_68 : decode cX6_begin 68 = .ok (.putfield 59, 3) := by decide +kernel
theorem dX6_begin_71 : decode cX6_begin 71 = .ok (.aload_n 0, 1) := by decide +kernel
theorem dX6_begin_72 : decode cX6_begin 72 = .ok (.iconst 0, 1) := by decide +kernel
theorem dX6_begin_73 : decode cX6_begin 73 = .ok (.putfield 62, 3) := by decide +kernel
theorem dX6_begin_76 : decode cX6_begin 76 = .ok (.aload_n 0, 1) := by decide +kernel
theorem dX6_begin_77 : decode cX6_begin 77 = .ok (.iconst 0, 1) := by decide +kernel
theorem dX6_begin_78 : decode cX6_begin 78 = .ok (.putfield 65, 3) := by decide +kernel
theorem dX6_begin_81 : decode cX6_begin 81 = .ok (.return_, 1) := by decide +kernel
theorem dX6_leaveTo_0 : decode cX6_leaveTo 0 = .ok (.aload_n 1, 1) := by decide +kernel
theorem dX6_leaveTo_1 : decode cX6_leaveTo 1 = .ok (.aload_n 0, 1) := by decide +kernel
theorem dX6_leaveTo_2 : decode cX6_leaveTo 2 = .ok (.getfield 34, 3) := by decide +kernel
theorem dX6_leaveTo_5 : decode cX6_leaveTo 5 = .ok (.putfield 31, 3) := by decide +kernel
theorem dX6_leaveTo_8 : decode cX6_leaveTo 8 = .ok (.aload_n 1, 1) := by decide +kernel
theorem dX6_leaveTo_9 : decode cX6_leaveTo 9 = .ok (.aload_n 0, 1) := by decide +kernel
theorem dX6_leaveTo_10 : decode cX6_leaveTo 10 = .ok (.getfield 38, 3) := by decide +kernel
theorem dX6_leaveTo_13 : decode cX6_leaveTo 13 = .ok (.putfield 35, 3) := by decide +kernel
theorem dX6_leaveTo_16 : decode cX6_leaveTo 16 = .ok (.aload_n 1, 1) := by decide +kernel
theorem dX6_leaveTo_17 : decode cX6_leaveTo 17 = .ok (.aload_n 0, 1) := by decide +kernel
theorem dX6_leaveTo_18 : decode cX6_leaveTo 18 = .ok (.getfield 42, 3) := by decide +kernel
theorem dX6_leaveTo_21 : decode cX6_leaveTo 21 = .ok (.putfield 39, 3) := by decide +kernel
theorem dX6_leaveTo_24 : decode cX6_leaveTo 24 = .ok (.return_, 1) := by decide +kernel
theorem dX6_openBy_0 : decode cX6_openBy 0 = .ok (.sipush 4095, 3) := by decide +kernel
theorem dX6_openBy_3 : decode cX6_openBy 3 = .ok (.iload_n 1, 1) := by decide +kernel
theorem dX6_openBy_4 : decode cX6_openBy 4 = .ok (.iconst (-1), 1) := by decide +kernel
theorem dX6_openBy_5 : decode cX6_openBy 5 = .ok (.ixor, 1) := by decide +kernel
theorem dX6_openBy_6 : decode cX6_openBy 6 = .ok (.iand, 1) := by decide +kernel
theorem dX6_openBy_7 : decode cX6_openBy 7 = .ok (.istore_n 2, 1) := by decide +kernel
theorem dX6_openBy_8 : decode cX6_openBy 8 = .ok (.aload_n 0, 1) := by decide +kernel
theorem dX6_openBy_9 : decode cX6_openBy 9 = .ok (.getfield 26, 3) := by decide +kernel
theorem dX6_openBy_12 : decode cX6_openBy 12 = .ok (.tableswitch 122 1 5 #[36, 53, 77, 87, 98], 36) := by decide +kernel
theorem dX6_openBy_48 : decode cX6_openBy 48 = .ok (.iload_n 2, 1) := by decide +kernel
theorem dX6_openBy_49 : decode cX6_openBy 49 = .ok (.aload_n 0, 1) := by decide +kernel
theorem dX6_openBy_50 : decode cX6_openBy 50 = .ok (.iload_n 1, 1) := by decide +kernel
theorem dX6_openBy_51 : decode cX6_openBy 51 = .ok (.invokevirtual 68, 3) := by decide +kernel
theorem dX6_openBy_54 : decode cX6_openBy 54 = .ok (.iconst (-1), 1) := by decide +kernel
theorem dX6_openBy_55 : decode cX6_openBy 55 = .ok (.ixor, 1) := by decide +kernel
theorem dX6_openBy_56 : decode cX6_openBy 56 = .ok (.iand, 1) := by decide +kernel
theorem dX6_openBy_57 : decode cX6_openBy 57 = .ok (.aload_n 0, 1) := by decide +kernel
theorem dX6_openBy_58 : decode cX6_openBy 58 = .ok (.getfield 34, 3) := by decide +kernel
theorem dX6_openBy_61 : decode cX6_openBy 61 = .ok (.iconst (-1), 1) := by decide +kernel
theorem dX6_openBy_62 : decode cX6_openBy 62 = .ok (.ixor, 1) := by decide +kernel
theorem dX6_openBy_63 : decode cX6_openBy 63 = .ok (.iand, 1) := by decide +kernel
theorem dX6_openBy_64 : decode cX6_openBy 64 = .ok (.ireturn, 1) := by decide +kernel
theorem dX6_openBy_65 : decode cX6_openBy 65 = .ok (.iload_n 2, 1) := by decide +kernel
theorem dX6_openBy_66 : decode cX6_openBy 66 = .ok (.aload_n 0, 1) := by decide +kernel
theorem dX6_openBy_67 : decode cX6_openBy 67 = .ok (.iload_n 1, 1) := by decide +kernel
theorem dX6_openBy_68 : decode cX6_openBy 68 = .ok (.invokevirtual 72, 3) := by decide +kernel
theorem dX6_openBy_71 : decode cX6_openBy 71 = .ok (.iconst (-1), 1) := by decide +kernel
theorem dX6_openBy_72 : decode cX6_openBy 72 = .ok (.ixor, 1) := by decide +kernel
theorem dX6_openBy_73 : decode cX6_openBy 73 = .ok (.iand, 1) := by decide +kernel
