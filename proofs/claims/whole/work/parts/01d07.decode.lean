theorem dX8_net_50 : decode cX8_net 50 = .ok (.iload_n 2, 1) := by decide +kernel
theorem dX8_net_51 : decode cX8_net 51 = .ok (.istore_n 2, 1) := by decide +kernel
theorem dX8_net_52 : decode cX8_net 52 = .ok (.iinc 3 1, 3) := by decide +kernel
theorem dX8_net_55 : decode cX8_net 55 = .ok (.goto (-36), 3) := by decide +kernel
theorem dX8_net_58 : decode cX8_net 58 = .ok (.iload_n 1, 1) := by decide +kernel
theorem dX8_net_59 : decode cX8_net 59 = .ok (.ifCond .ne 10, 3) := by decide +kernel
theorem dX8_net_62 : decode cX8_net 62 = .ok (.aload_n 0, 1) := by decide +kernel
theorem dX8_net_63 : decode cX8_net 63 = .ok (.invokevirtual 406, 3) := by decide +kernel
theorem dX8_net_66 : decode cX8_net 66 = .ok (.goto 33, 3) := by decide +kernel
theorem dX8_net_69 : decode cX8_net 69 = .ok (.iload_n 1, 1) := by decide +kernel
theorem dX8_net_70 : decode cX8_net 70 = .ok (.iconst 1, 1) := by decide +kernel
theorem dX8_net_71 : decode cX8_net 71 = .ok (.if_icmp .ne 7, 3) := by decide +kernel
theorem dX8_net_74 : decode cX8_net 74 = .ok (.iload_n 2, 1) := by decide +kernel
theorem dX8_net_75 : decode cX8_net 75 = .ok (.goto 24, 3) := by decide +kernel
theorem dX8_net_78 : decode cX8_net 78 = .ok (.iload_n 1, 1) := by decide +kernel
theorem dX8_net_79 : decode cX8_net 79 = .ok (.iconst 2, 1) := by decide +kernel
theorem dX8_net_80 : decode cX8_net 80 = .ok (.if_icmp .ne 15, 3) := by decide +kernel
theorem dX8_net_83 : decode cX8_net 83 = .ok (.aload_n 0, 1) := by decide +kernel
theorem dX8_net_84 : decode cX8_net 84 = .ok (.getfield 23, 3) := by decide +kernel
theorem dX8_net_87 : decode cX8_net 87 = .ok (.iload_n 2, 1) := by decide +kernel
theorem dX8_net_88 : decode cX8_net 88 = .ok (.iaload, 1) := by decide +kernel
theorem dX8_net_89 : decode cX8_net 89 = .ok (.invokestatic 63, 3) := by decide +kernel
theorem dX8_net_92 : decode cX8_net 92 = .ok (.goto 7, 3) := by decide +kernel
theorem dX8_net_95 : decode cX8_net 95 = .ok (.aload_n 0, 1) := by decide +kernel
theorem dX8_net_96 : decode cX8_net 96 = .ok (.invokevirtual 409, 3) := by decide +kernel
theorem dX8_net_99 : decode cX8_net 99 = .ok (.ireturn, 1) := by decide +kernel
theorem dX8_lowest_0 : decode cX8_lowest 0 = .ok (.lload_n 0, 1) := by decide +kernel
theorem dX8_lowest_1 : decode cX8_lowest 1 = .ok (.lstore 5, 2) := by decide +kernel
theorem dX8_lowest_3 : decode cX8_lowest 3 = .ok (.lload_n 2, 1) := by decide +kernel
theorem dX8_lowest_4 : decode cX8_lowest 4 = .ok (.lstore 7, 2) := by decide +kernel
theorem dX8_lowest_6 : decode cX8_lowest 6 = .ok (.lload 7, 2) := by decide +kernel
theorem dX8_lowest_8 : decode cX8_lowest 8 = .ok (.lconst 0, 1) := by decide +kernel
theorem dX8_lowest_9 : decode cX8_lowest 9 = .ok (.lcmp, 1) := by decide +kernel
theorem dX8_lowest_10 : decode cX8_lowest 10 = .ok (.ifCond .eq 21, 3) := by decide +kernel
theorem dX8_lowest_13 : decode cX8_lowest 13 = .ok (.lload 5, 2) := by decide +kernel
theorem dX8_lowest_15 : decode cX8_lowest 15 = .ok (.lload 7, 2) := by decide +kernel
theorem dX8_lowest_17 : decode cX8_lowest 17 = .ok (.lrem, 1) := by decide +kernel
theorem dX8_lowest_18 : decode cX8_lowest 18 = .ok (.lstore 9, 2) := by decide +kernel
theorem dX8_lowest_20 : decode cX8_lowest 20 = .ok (.lload 7, 2) := by decide +kernel
theorem dX8_lowest_22 : decode cX8_lowest 22 = .ok (.lstore 5, 2) := by decide +kernel
theorem dX8_lowest_24 : decode cX8_lowest 24 = .ok (.lload 9, 2) := by decide +kernel
theorem dX8_lowest_26 : decode cX8_lowest 26 = .ok (.lstore 7, 2) := by decide +kernel
theorem dX8_lowest_28 : decode cX8_lowest 28 = .ok (.goto (-22), 3) := by decide +kernel
theorem dX8_lowest_31 : decode cX8_lowest 31 = .ok (.iload 4, 2) := by decide +kernel
theorem dX8_lowest_33 : decode cX8_lowest 33 = .ok (.ifCond .ne 10, 3) := by decide +kernel
theorem dX8_lowest_36 : decode cX8_lowest 36 = .ok (.lload_n 0, 1) := by decide +kernel
theorem dX8_lowest_37 : decode cX8_lowest 37 = .ok (.lload 5, 2) := by decide +kernel
theorem dX8_lowest_39 : decode cX8_lowest 39 = .ok (.ldiv, 1) := by decide +kernel
theorem dX8_lowest_40 : decode cX8_lowest 40 = .ok (.goto 7, 3) := by decide +kernel
theorem dX8_lowest_43 : decode cX8_lowest 43 = .ok (.lload_n 2, 1) := by decide +kernel
theorem dX8_lowest_44 : decode cX8_lowest 44 = .ok (.lload 5, 2) := by decide +kernel
theorem dX8_lowest_46 : decode cX8_lowest 46 = .ok (.ldiv, 1) := by decide +kernel
theorem dX8_lowest_47 : decode cX8_lowest 47 = .ok (.lreturn, 1) := by decide +kernel
theorem dX8_share_0 : decode cX8_share 0 = .ok (.aload_n 0, 1) := by decide +kernel
theorem dX8_share_1 : decode cX8_share 1 = .ok (.iload_n 1, 1) := by decide +kernel
theorem dX8_share_2 : decode cX8_share 2 = .ok (.invokevirtual 89, 3) := by decide +kernel
theorem dX8_share_5 : decode cX8_share 5 = .ok (.ifCond .eq 37, 3) := by decide +kernel
theorem dX8_share_8 : decode cX8_share 8 = .ok (.iload_n 2, 1) := by decide +kernel
theorem dX8_share_9 : decode cX8_share 9 = .ok (.i2l, 1) := by decide +kernel
theorem dX8_share_10 : decode cX8_share 10 = .ok (.lconst 0, 1) := by decide +kernel
theorem dX8_share_11 : decode cX8_share 11 = .ok (.lconst 1, 1) := by decide +kernel
theorem dX8_share_12 : decode cX8_share 12 = .ok (.invokestatic 77, 3) := by decide +kernel
theorem dX8_share_15 : decode cX8_share 15 = .ok (.ifCond .eq 27, 3) := by decide +kernel
theorem dX8_share_18 : decode cX8_share 18 = .ok (.aload_n 0, 1) := by decide +kernel
theorem dX8_share_19 : decode cX8_share 19 = .ok (.getfield 29, 3) := by decide +kernel
theorem dX8_share_22 : decode cX8_share 22 = .ok (.iconst 4, 1) := by decide +kernel
theorem dX8_share_23 : decode cX8_share 23 = .ok (.iload_n 1, 1) := by decide +kernel
theorem dX8_share_24 : decode cX8_share 24 = .ok (.imul, 1) := by decide +kernel
theorem dX8_share_25 : decode cX8_share 25 = .ok (.iconst 2, 1) := by decide +kernel
theorem dX8_share_26 : decode cX8_share 26 = .ok (.iadd, 1) := by decide +kernel
theorem dX8_share_27 : decode cX8_share 27 = .ok (.iaload, 1) := by decide +kernel
theorem dX8_share_28 : decode cX8_share 28 = .ok (.invokestatic 63, 3) := by decide +kernel
theorem dX8_share_31 : decode cX8_share 31 = .ok (.i2l, 1) := by decide +kernel
theorem dX8_share_32 : decode cX8_share 32 = .ok (.ldc2_w 412, 3) := by decide +kernel
theorem dX8_share_35 : decode cX8_share 35 = .ok (.iload_n 2, 1) := by decide +kernel
theorem dX8_share_36 : decode cX8_share 36 = .ok (.invokestatic 414, 3) := by decide +kernel
theorem dX8_share_39 : decode cX8_share 39 = .ok (.goto 6, 3) := by decide +kernel
theorem dX8_share_42 : decode cX8_share 42 = .ok (.ldc2_w 418, 3) := by decide +kernel
theorem dX8_share_45 : decode cX8_share 45 = .ok (.lreturn, 1) := by decide +kernel
theorem dX8_firstOther_0 : decode cX8_firstOther 0 = .ok (.iconst 0, 1) := by decide +kernel
theorem dX8_firstOther_1 : decode cX8_firstOther 1 = .ok (.istore_n 3, 1) := by decide +kernel
theorem dX8_firstOther_2 : decode cX8_firstOther 2 = .ok (.iload_n 3, 1) := by decide +kernel
theorem dX8_firstOther_3 : decode cX8_firstOther 3 = .ok (.aload_n 0, 1) := by decide +kernel
theorem dX8_firstOther_4 : decode cX8_firstOther 4 = .ok (.getfield 57, 3) := by decide +kernel
theorem dX8_firstOther_7 : decode cX8_firstOther 7 = .ok (.iload_n 1, 1) := by decide +kernel
theorem dX8_firstOther_8 : decode cX8_firstOther 8 = .ok (.iaload, 1) := by decide +kernel
theorem dX8_firstOther_9 : decode cX8_firstOther 9 = .ok (.if_icmp .ge 33, 3) := by decide +kernel
theorem dX8_firstOther_12 : decode cX8_firstOther 12 = .ok (.aload_n 0, 1) := by decide +kernel
theorem dX8_firstOther_13 : decode cX8_firstOther 13 = .ok (.iload_n 2, 1) := by decide +kernel
theorem dX8_firstOther_14 : decode cX8_firstOther 14 = .ok (.iconst 1, 1) := by decide +kernel
theorem dX8_firstOther_15 : decode cX8_firstOther 15 = .ok (.iload_n 3, 1) := by decide +kernel
theorem dX8_firstOther_16 : decode cX8_firstOther 16 = .ok (.ishl, 1) := by decide +kernel
theorem dX8_firstOther_17 : decode cX8_firstOther 17 = .ok (.invokevirtual 354, 3) := by decide +kernel
theorem dX8_firstOther_20 : decode cX8_firstOther 20 = .ok (.aload_n 0, 1) := by decide +kernel
theorem dX8_firstOther_21 : decode cX8_firstOther 21 = .ok (.getfield 60, 3) := by decide +kernel
theorem dX8_firstOther_24 : decode cX8_firstOther 24 = .ok (.bipush 40, 2) := by decide +kernel
theorem dX8_firstOther_26 : decode cX8_firstOther 26 = .ok (.iload_n 1, 1) := by decide +kernel
theorem dX8_firstOther_27 : decode cX8_firstOther 27 = .ok (.imul, 1) := by decide +kernel
theorem dX8_firstOther_28 : decode cX8_firstOther 28 = .ok (.iload_n 3, 1) := by decide +kernel
theorem dX8_firstOther_29 : decode cX8_firstOther 29 = .ok (.iadd, 1) := by decide +kernel
theorem dX8_firstOther_30 : decode cX8_firstOther 30 = .ok (.iaload, 1) := by decide +kernel
theorem dX8_firstOther_31 : decode cX8_firstOther 31 = .ok (.if_icmp .eq 5, 3) := by decide +kernel
theorem dX8_firstOther_34 : decode cX8_firstOther 34 = .ok (.iload_n 3, 1) := by decide +kernel
theorem dX8_firstOther_35 : decode cX8_firstOther 35 = .ok (.ireturn, 1) := by decide +kernel
theorem dX8_firstOther_36 : decode cX8_firstOther 36 = .ok (.iinc 3 1, 3) := by decide +kernel
theorem dX8_firstOther_39 : decode cX8_firstOther 39 = .ok (.goto (-37), 3) := by decide +kernel
theorem dX8_firstOther_42 : decode cX8_firstOther 42 = .ok (.iconst (-1), 1) := by decide +kernel
theorem dX8_firstOther_43 : decode cX8_firstOther 43 = .ok (.ireturn, 1) := by decide +kernel
theorem dX8_likeSet_0 : decode cX8_likeSet 0 = .ok (.iconst 0, 1) := by decide +kernel
theorem dX8_likeSet_1 : decode cX8_likeSet 1 = .ok (.istore_n 2, 1) := by decide +kernel
theorem dX8_likeSet_2 : decode cX8_likeSet 2 = .ok (.iconst 0, 1) := by decide +kernel
theorem dX8_likeSet_3 : decode cX8_likeSet 3 = .ok (.istore_n 3, 1) := by decide +kernel
theorem dX8_likeSet_4 : decode cX8_likeSet 4 = .ok (.iload_n 3, 1) := by decide +kernel
theorem dX8_likeSet_5 : decode cX8_likeSet 5 = .ok (.aload_n 0, 1) := by decide +kernel
theorem dX8_likeSet_6 : decode cX8_likeSet 6 = .ok (.getfield 74, 3) := by decide +kernel
theorem dX8_likeSet_9 : decode cX8_likeSet 9 = .ok (.if_icmp .ge 29, 3) := by decide +kernel
theorem dX8_likeSet_12 : decode cX8_likeSet 12 = .ok (.iload_n 2, 1) := by decide +kernel
theorem dX8_likeSet_13 : decode cX8_likeSet 13 = .ok (.aload_n 0, 1) := by decide +kernel
theorem dX8_likeSet_14 : decode cX8_likeSet 14 = .ok (.iload_n 1, 1) := by decide +kernel
theorem dX8_likeSet_15 : decode cX8_likeSet 15 = .ok (.iload_n 3, 1) := by decide +kernel
theorem dX8_likeSet_16 : decode cX8_likeSet 16 = .ok (.invokevirtual 420, 3) := by decide +kernel
theorem dX8_likeSet_19 : decode cX8_likeSet 19 = .ok (.iconst (-1), 1) := by decide +kernel
theorem dX8_likeSet_20 : decode cX8_likeSet 20 = .ok (.if_icmp .ne 7, 3) := by decide +kernel
theorem dX8_likeSet_23 : decode cX8_likeSet 23 = .ok (.iconst 1, 1) := by decide +kernel
theorem dX8_likeSet_24 : decode cX8_likeSet 24 = .ok (.goto 4, 3) := by decide +kernel
theorem dX8_likeSet_27 : decode cX8_likeSet 27 = .ok (.iconst 0, 1) := by decide +kernel
theorem dX8_likeSet_28 : decode cX8_likeSet 28 = .ok (.iload_n 3, 1) := by decide +kernel
theorem dX8_likeSet_29 : decode cX8_likeSet 29 = .ok (.ishl, 1) := by decide +kernel
theorem dX8_likeSet_30 : decode cX8_likeSet 30 = .ok (.ior, 1) := by decide +kernel
theorem dX8_likeSet_31 : decode cX8_likeSet 31 = .ok (.istore_n 2, 1) := by decide +kernel
theorem dX8_likeSet_32 : decode cX8_likeSet 32 = .ok (.iinc 3 1, 3) := by decide +kernel
theorem dX8_likeSet_35 : decode cX8_likeSet 35 = .ok (.goto (-31), 3) := by decide +kernel
theorem dX8_likeSet_38 : decode cX8_likeSet 38 = .ok (.iload_n 2, 1) := by decide +kernel
theorem dX8_likeSet_39 : decode cX8_likeSet 39 = .ok (.ireturn, 1) := by decide +kernel
theorem dX8_turnedSet_0 : decode cX8_turnedSet 0 = .ok (.iconst 0, 1) := by decide +kernel
theorem dX8_turnedSet_1 : decode cX8_turnedSet 1 = .ok (.istore_n 3, 1) := by decide +kernel
theorem dX8_turnedSet_2 : decode cX8_turnedSet 2 = .ok (.iconst 0, 1) := by decide +kernel
theorem dX8_turnedSet_3 : decode cX8_turnedSet 3 = .ok (.istore 4, 2) := by decide +kernel
theorem dX8_turnedSet_5 : decode cX8_turnedSet 5 = .ok (.iload 4, 2) := by decide +kernel
theorem dX8_turnedSet_7 : decode cX8_turnedSet 7 = .ok (.bipush 12, 2) := by decide +kernel
theorem dX8_turnedSet_9 : decode cX8_turnedSet 9 = .ok (.if_icmp .ge 64, 3) := by decide +kernel
theorem dX8_turnedSet_12 : decode cX8_turnedSet 12 = .ok (.aload_n 0, 1) := by decide +kernel
theorem dX8_turnedSet_13 : decode cX8_turnedSet 13 = .ok (.getfield 29, 3) := by decide +kernel
theorem dX8_turnedSet_16 : decode cX8_turnedSet 16 = .ok (.iconst 4, 1) := by decide +kernel
theorem dX8_turnedSet_17 : decode cX8_turnedSet 17 = .ok (.iload_n 2, 1) := by decide +kernel
theorem dX8_turnedSet_18 : decode cX8_turnedSet 18 = .ok (.imul, 1) := by decide +kernel
theorem dX8_turnedSet_19 : decode cX8_turnedSet 19 = .ok (.iconst 1, 1) := by decide +kernel
theorem dX8_turnedSet_20 : decode cX8_turnedSet 20 = .ok (.iadd, 1) := by decide +kernel
theorem dX8_turnedSet_21 : decode cX8_turnedSet 21 = .ok (.dup2, 1) := by decide +kernel
theorem dX8_turnedSet_22 : decode cX8_turnedSet 22 = .ok (.iaload, 1) := by decide +kernel
theorem dX8_turnedSet_23 : decode cX8_turnedSet 23 = .ok (.iconst 1, 1) := by decide +kernel
theorem dX8_turnedSet_24 : decode cX8_turnedSet 24 = .ok (.iload 4, 2) := by decide +kernel
theorem dX8_turnedSet_26 : decode cX8_turnedSet 26 = .ok (.ishl, 1) := by decide +kernel
theorem dX8_turnedSet_27 : decode cX8_turnedSet 27 = .ok (.ixor, 1) := by decide +kernel
theorem dX8_turnedSet_28 : decode cX8_turnedSet 28 = .ok (.iastore, 1) := by decide +kernel
theorem dX8_turnedSet_29 : decode cX8_turnedSet 29 = .ok (.iload_n 3, 1) := by decide +kernel
theorem dX8_turnedSet_30 : decode cX8_turnedSet 30 = .ok (.aload_n 0, 1) := by decide +kernel
theorem dX8_turnedSet_31 : decode cX8_turnedSet 31 = .ok (.iload_n 1, 1) := by decide +kernel
theorem dX8_turnedSet_32 : decode cX8_turnedSet 32 = .ok (.iload_n 2, 1) := by decide +kernel
theorem dX8_turnedSet_33 : decode cX8_turnedSet 33 = .ok (.invokevirtual 420, 3) := by decide +kernel
theorem dX8_turnedSet_36 : decode cX8_turnedSet 36 = .ok (.iconst (-1), 1) := by decide +kernel
theorem dX8_turnedSet_37 : decode cX8_turnedSet 37 = .ok (.if_icmp .ne 7, 3) := by decide +kernel
theorem dX8_turnedSet_40 : decode cX8_turnedSet 40 = .ok (.iconst 1, 1) := by decide +kernel
theorem dX8_turnedSet_41 : decode cX8_turnedSet 41 = .ok (.goto 4, 3) := by decide +kernel
theorem dX8_turnedSet_44 : decode cX8_turnedSet 44 = .ok (.iconst 0, 1) := by decide +kernel
theorem dX8_turnedSet_45 : decode cX8_turnedSet 45 = .ok (.iload 4, 2) := by decide +kernel
theorem dX8_turnedSet_47 : decode cX8_turnedSet 47 = .ok (.ishl, 1) := by decide +kernel
theorem dX8_turnedSet_48 : decode cX8_turnedSet 48 = .ok (.ior, 1) := by decide +kernel
theorem dX8_turnedSet_49 : decode cX8_turnedSet 49 = .ok (.istore_n 3, 1) := by decide +kernel
theorem dX8_turnedSet_50 : decode cX8_turnedSet 50 = .ok (.aload_n 0, 1) := by decide +kernel
theorem dX8_turnedSet_51 : decode cX8_turnedSet 51 = .ok (.getfield 29, 3) := by decide +kernel
theorem dX8_turnedSet_54 : decode cX8_turnedSet 54 = .ok (.iconst 4, 1) := by decide +kernel
theorem dX8_turnedSet_55 : decode cX8_turnedSet 55 = .ok (.iload_n 2, 1) := by decide +kernel
theorem dX8_turnedSet_56 : decode cX8_turnedSet 56 = .ok (.imul, 1) := by decide +kernel
theorem dX8_turnedSet_57 : decode cX8_turnedSet 57 = .ok (.iconst 1, 1) := by decide +kernel
theorem dX8_turnedSet_58 : decode cX8_turnedSet 58 = .ok (.iadd, 1) := by decide +kernel
theorem dX8_turnedSet_59 : decode cX8_turnedSet 59 = .ok (.dup2, 1) := by decide +kernel
theorem dX8_turnedSet_60 : decode cX8_turnedSet 60 = .ok (.iaload, 1) := by decide +kernel
theorem dX8_turnedSet_61 : decode cX8_turnedSet 61 = .ok (.iconst 1, 1) := by decide +kernel
theorem dX8_turnedSet_62 : decode cX8_turnedSet 62 = .ok (.iload 4, 2) := by decide +kernel
theorem dX8_turnedSet_64 : decode cX8_turnedSet 64 = .ok (.ishl, 1) := by decide +kernel
theorem dX8_turnedSet_65 : decode cX8_turnedSet 65 = .ok (.ixor, 1) := by decide +kernel
theorem dX8_turnedSet_66 : decode cX8_turnedSet 66 = .ok (.iastore, 1) := by decide +kernel
theorem dX8_turnedSet_67 : decode cX8_turnedSet 67 = .ok (.iinc 4 1, 3) := by decide +kernel
theorem dX8_turnedSet_70 : decode cX8_turnedSet 70 = .ok (.goto (-65), 3) := by decide +kernel
theorem dX8_turnedSet_73 : decode cX8_turnedSet 73 = .ok (.iload_n 3, 1) := by decide +kernel
theorem dX8_turnedSet_74 : decode cX8_turnedSet 74 = .ok (.ireturn, 1) := by decide +kernel
theorem dX8_tells_0 : decode cX8_tells 0 = .ok (.iload_n 1, 1) := by decide +kernel
theorem dX8_tells_1 : decode cX8_tells 1 = .ok (.invokestatic 390, 3) := by decide +kernel
theorem dX8_tells_4 : decode cX8_tells 4 = .ok (.ifCond .eq 23, 3) := by decide +kernel
theorem dX8_tells_7 : decode cX8_tells 7 = .ok (.aload_n 0, 1) := by decide +kernel
theorem dX8_tells_8 : decode cX8_tells 8 = .ok (.iload_n 2, 1) := by decide +kernel
theorem dX8_tells_9 : decode cX8_tells 9 = .ok (.invokevirtual 89, 3) := by decide +kernel
theorem dX8_tells_12 : decode cX8_tells 12 = .ok (.ifCond .eq 15, 3) := by decide +kernel
theorem dX8_tells_15 : decode cX8_tells 15 = .ok (.iload_n 3, 1) := by decide +kernel
theorem dX8_tells_16 : decode cX8_tells 16 = .ok (.i2l, 1) := by decide +kernel
theorem dX8_tells_17 : decode cX8_tells 17 = .ok (.lconst 0, 1) := by decide +kernel
theorem dX8_tells_18 : decode cX8_tells 18 = .ok (.ldc2_w 113, 3) := by decide +kernel
theorem dX8_tells_21 : decode cX8_tells 21 = .ok (.invokestatic 77, 3) := by decide +kernel
theorem dX8_tells_24 : decode cX8_tells 24 = .ok (.ifCond .ne 6, 3) := by decide +kernel
theorem dX8_tells_27 : decode cX8_tells 27 = .ok (.bipush (-2), 2) := by decide +kernel
theorem dX8_tells_29 : decode cX8_tells 29 = .ok (.ireturn, 1) := by decide +kernel
theorem dX8_tells_30 : decode cX8_tells 30 = .ok (.aload_n 0, 1) := by decide +kernel
theorem dX8_tells_31 : decode cX8_tells 31 = .ok (.getfield 50, 3) := by decide +kernel
theorem dX8_tells_34 : decode cX8_tells 34 = .ok (.iload_n 1, 1) := by decide +kernel
theorem dX8_tells_35 : decode cX8_tells 35 = .ok (.baload, 1) := by decide +kernel
theorem dX8_tells_36 : decode cX8_tells 36 = .ok (.ifCond .ne 6, 3) := by decide +kernel
theorem dX8_tells_39 : decode cX8_tells 39 = .ok (.bipush (-11), 2) := by decide +kernel
theorem dX8_tells_41 : decode cX8_tells 41 = .ok (.ireturn, 1) := by decide +kernel
theorem dX8_tells_42 : decode cX8_tells 42 = .ok (.aload_n 0, 1) := by decide +kernel
theorem dX8_tells_43 : decode cX8_tells 43 = .ok (.getfield 57, 3) := by decide +kernel
theorem dX8_tells_46 : decode cX8_tells 46 = .ok (.iload_n 1, 1) := by decide +kernel
theorem dX8_tells_47 : decode cX8_tells 47 = .ok (.iaload, 1) := by decide +kernel
theorem dX8_tells_48 : decode cX8_tells 48 = .ok (.bipush 12, 2) := by decide +kernel
theorem dX8_tells_50 : decode cX8_tells 50 = .ok (.if_icmp .le 6, 3) := by decide +kernel
theorem dX8_tells_53 : decode cX8_tells 53 = .ok (.bipush (-2), 2) := by decide +kernel
theorem dX8_tells_55 : decode cX8_tells 55 = .ok (.ireturn, 1) := by decide +kernel
theorem dX8_tells_56 : decode cX8_tells 56 = .ok (.iload_n 3, 1) := by decide +kernel
theorem dX8_tells_57 : decode cX8_tells 57 = .ok (.ifCond .eq 9, 3) := by decide +kernel
theorem dX8_tells_60 : decode cX8_tells 60 = .ok (.iload_n 3, 1) := by decide +kernel
theorem dX8_tells_61 : decode cX8_tells 61 = .ok (.bipush 7, 2) := by decide +kernel
theorem dX8_tells_63 : decode cX8_tells 63 = .ok (.if_icmp .ne 22, 3) := by decide +kernel
theorem dX8_tells_66 : decode cX8_tells 66 = .ok (.iload_n 3, 1) := by decide +kernel
theorem dX8_tells_67 : decode cX8_tells 67 = .ok (.ifCond .ne 12, 3) := by decide +kernel
theorem dX8_tells_70 : decode cX8_tells 70 = .ok (.aload_n 0, 1) := by decide +kernel
theorem dX8_tells_71 : decode cX8_tells 71 = .ok (.iload_n 1, 1) := by decide +kernel
theorem dX8_tells_72 : decode cX8_tells 72 = .ok (.iload_n 2, 1) := by decide +kernel
theorem dX8_tells_73 : decode cX8_tells 73 = .ok (.invokevirtual 420, 3) := by decide +kernel
theorem dX8_tells_76 : decode cX8_tells 76 = .ok (.goto 8, 3) := by decide +kernel
theorem dX8_tells_79 : decode cX8_tells 79 = .ok (.aload_n 0, 1) := by decide +kernel
theorem dX8_tells_80 : decode cX8_tells 80 = .ok (.iload_n 1, 1) := by decide +kernel
theorem dX8_tells_81 : decode cX8_tells 81 = .ok (.invokevirtual 423, 3) := by decide +kernel
theorem dX8_tells_84 : decode cX8_tells 84 = .ok (.ireturn, 1) := by decide +kernel
theorem dX8_tells_85 : decode cX8_tells 85 = .ok (.iload_n 3, 1) := by decide +kernel
theorem dX8_tells_86 : decode cX8_tells 86 = .ok (.iconst 5, 1) := by decide +kernel
theorem dX8_tells_87 : decode cX8_tells 87 = .ok (.if_icmp .ne 10, 3) := by decide +kernel
theorem dX8_tells_90 : decode cX8_tells 90 = .ok (.aload_n 0, 1) := by decide +kernel
theorem dX8_tells_91 : decode cX8_tells 91 = .ok (.iload_n 1, 1) := by decide +kernel
theorem dX8_tells_92 : decode cX8_tells 92 = .ok (.iload_n 2, 1) := by decide +kernel
theorem dX8_tells_93 : decode cX8_tells 93 = .ok (.invokevirtual 426, 3) := by decide +kernel
theorem dX8_tells_96 : decode cX8_tells 96 = .ok (.ireturn, 1) := by decide +kernel
theorem dX8_tells_97 : decode cX8_tells 97 = .ok (.iload_n 3, 1) := by decide +kernel
theorem dX8_tells_98 : decode cX8_tells 98 = .ok (.iconst 1, 1) := by decide +kernel
theorem dX8_tells_99 : decode cX8_tells 99 = .ok (.if_icmp .ne 7, 3) := by decide +kernel
theorem dX8_tells_102 : decode cX8_tells 102 = .ok (.iconst 5, 1) := by decide +kernel
theorem dX8_tells_103 : decode cX8_tells 103 = .ok (.goto 24, 3) := by decide +kernel
theorem dX8_tells_106 : decode cX8_tells 106 = .ok (.iload_n 3, 1) := by decide +kernel
theorem dX8_tells_107 : decode cX8_tells 107 = .ok (.iconst 2, 1) := by decide +kernel
theorem dX8_tells_108 : decode cX8_tells 108 = .ok (.if_icmp .ne 7, 3) := by decide +kernel
theorem dX8_tells_111 : decode cX8_tells 111 = .ok (.iconst 1, 1) := by decide +kernel
theorem dX8_tells_112 : decode cX8_tells 112 = .ok (.goto 15, 3) := by decide +kernel
theorem dX8_tells_115 : decode cX8_tells 115 = .ok (.iload_n 3, 1) := by decide +kernel
theorem dX8_tells_116 : decode cX8_tells 116 = .ok (.bipush 6, 2) := by decide +kernel
theorem dX8_tells_118 : decode cX8_tells 118 = .ok (.if_icmp .ne 8, 3) := by decide +kernel
theorem dX8_tells_121 : decode cX8_tells 121 = .ok (.bipush 6, 2) := by decide +kernel
theorem dX8_tells_123 : decode cX8_tells 123 = .ok (.goto 4, 3) := by decide +kernel
theorem dX8_tells_126 : decode cX8_tells 126 = .ok (.iconst 0, 1) := by decide +kernel
theorem dX8_tells_127 : decode cX8_tells 127 = .ok (.istore 4, 2) := by decide +kernel
theorem dX8_tells_129 : decode cX8_tells 129 = .ok (.iload 4, 2) := by decide +kernel
theorem dX8_tells_131 : decode cX8_tells 131 = .ok (.bipush 6, 2) := by decide +kernel
theorem dX8_tells_133 : decode cX8_tells 133 = .ok (.if_icmp .ne 10, 3) := by decide +kernel
theorem dX8_tells_136 : decode cX8_tells 136 = .ok (.aload_n 0, 1) := by decide +kernel
theorem dX8_tells_137 : decode cX8_tells 137 = .ok (.getfield 106, 3) := by decide +kernel
theorem dX8_tells_140 : decode cX8_tells 140 = .ok (.goto 10, 3) := by decide +kernel
theorem dX8_tells_143 : decode cX8_tells 143 = .ok (.aload_n 0, 1) := by decide +kernel
theorem dX8_tells_144 : decode cX8_tells 144 = .ok (.iload_n 2, 1) := by decide +kernel
theorem dX8_tells_145 : decode cX8_tells 145 = .ok (.iload 4, 2) := by decide +kernel
theorem dX8_tells_147 : decode cX8_tells 147 = .ok (.invokevirtual 95, 3) := by decide +kernel
theorem dX8_tells_150 : decode cX8_tells 150 = .ok (.istore 5, 2) := by decide +kernel
theorem dX8_tells_152 : decode cX8_tells 152 = .ok (.iload 4, 2) := by decide +kernel
theorem dX8_tells_154 : decode cX8_tells 154 = .ok (.bipush 6, 2) := by decide +kernel
theorem dX8_tells_156 : decode cX8_tells 156 = .ok (.if_icmp .ne 12, 3) := by decide +kernel
theorem dX8_tells_159 : decode cX8_tells 159 = .ok (.aload_n 0, 1) := by decide +kernel
theorem dX8_tells_160 : decode cX8_tells 160 = .ok (.getfield 71, 3) := by decide +kernel
theorem dX8_tells_163 : decode cX8_tells 163 = .ok (.iconst 1, 1) := by decide +kernel
theorem dX8_tells_164 : decode cX8_tells 164 = .ok (.isub, 1) := by decide +kernel
theorem dX8_tells_165 : decode cX8_tells 165 = .ok (.goto 26, 3) := by decide +kernel
theorem dX8_tells_168 : decode cX8_tells 168 = .ok (.iload 4, 2) := by decide +kernel
theorem dX8_tells_170 : decode cX8_tells 170 = .ok (.iconst 5, 1) := by decide +kernel
theorem dX8_tells_171 : decode cX8_tells 171 = .ok (.if_icmp .ne 7, 3) := by decide +kernel
theorem dX8_tells_174 : decode cX8_tells 174 = .ok (.iconst 5, 1) := by decide +kernel
theorem dX8_tells_175 : decode cX8_tells 175 = .ok (.goto 16, 3) := by decide +kernel
theorem dX8_tells_178 : decode cX8_tells 178 = .ok (.iload 4, 2) := by decide +kernel
theorem dX8_tells_180 : decode cX8_tells 180 = .ok (.iconst 1, 1) := by decide +kernel
theorem dX8_tells_181 : decode cX8_tells 181 = .ok (.if_icmp .ne 8, 3) := by decide +kernel
theorem dX8_tells_184 : decode cX8_tells 184 = .ok (.bipush 9, 2) := by decide +kernel
theorem dX8_tells_186 : decode cX8_tells 186 = .ok (.goto 5, 3) := by decide +kernel
theorem dX8_tells_189 : decode cX8_tells 189 = .ok (.bipush 99, 2) := by decide +kernel
theorem dX8_tells_191 : decode cX8_tells 191 = .ok (.istore 6, 2) := by decide +kernel
theorem dX8_tells_193 : decode cX8_tells 193 = .ok (.iconst 0, 1) := by decide +kernel
theorem dX8_tells_194 : decode cX8_tells 194 = .ok (.istore 7, 2) := by decide +kernel
theorem dX8_tells_196 : decode cX8_tells 196 = .ok (.iconst 0, 1) := by decide +kernel
theorem dX8_tells_197 : decode cX8_tells 197 = .ok (.istore 8, 2) := by decide +kernel
theorem dX8_tells_199 : decode cX8_tells 199 = .ok (.iconst (-1), 1) := by decide +kernel
theorem dX8_tells_200 : decode cX8_tells 200 = .ok (.istore 9, 2) := by decide +kernel
theorem dX8_tells_202 : decode cX8_tells 202 = .ok (.iload 6, 2) := by decide +kernel
theorem dX8_tells_204 : decode cX8_tells 204 = .ok (.istore 10, 2) := by decide +kernel
theorem dX8_tells_206 : decode cX8_tells 206 = .ok (.iload 10, 2) := by decide +kernel
theorem dX8_tells_208 : decode cX8_tells 208 = .ok (.ifCond .lt 55, 3) := by decide +kernel
theorem dX8_tells_211 : decode cX8_tells 211 = .ok (.aload_n 0, 1) := by decide +kernel
theorem dX8_tells_212 : decode cX8_tells 212 = .ok (.iload 4, 2) := by decide +kernel
theorem dX8_tells_214 : decode cX8_tells 214 = .ok (.iload_n 2, 1) := by decide +kernel
theorem dX8_tells_215 : decode cX8_tells 215 = .ok (.iload 10, 2) := by decide +kernel
theorem dX8_tells_217 : decode cX8_tells 217 = .ok (.invokevirtual 99, 3) := by decide +kernel
theorem dX8_tells_220 : decode cX8_tells 220 = .ok (.aload_n 0, 1) := by decide +kernel
theorem dX8_tells_221 : decode cX8_tells 221 = .ok (.iload_n 1, 1) := by decide +kernel
theorem dX8_tells_222 : decode cX8_tells 222 = .ok (.iload_n 2, 1) := by decide +kernel
theorem dX8_tells_223 : decode cX8_tells 223 = .ok (.invokevirtual 420, 3) := by decide +kernel
theorem dX8_tells_226 : decode cX8_tells 226 = .ok (.iconst (-1), 1) := by decide +kernel
theorem dX8_tells_227 : decode cX8_tells 227 = .ok (.if_icmp .ne 30, 3) := by decide +kernel
theorem dX8_tells_230 : decode cX8_tells 230 = .ok (.iload 7, 2) := by decide +kernel
theorem dX8_tells_232 : decode cX8_tells 232 = .ok (.iload 10, 2) := by decide +kernel
theorem dX8_tells_234 : decode cX8_tells 234 = .ok (.bipush 10, 2) := by decide +kernel
theorem dX8_tells_236 : decode cX8_tells 236 = .ok (.if_icmp .ge 10, 3) := by decide +kernel
theorem dX8_tells_239 : decode cX8_tells 239 = .ok (.iconst 1, 1) := by decide +kernel
theorem dX8_tells_240 : decode cX8_tells 240 = .ok (.iload 10, 2) := by decide +kernel
theorem dX8_tells_242 : decode cX8_tells 242 = .ok (.ishl, 1) := by decide +kernel
theorem dX8_tells_243 : decode cX8_tells 243 = .ok (.goto 4, 3) := by decide +kernel
theorem dX8_tells_246 : decode cX8_tells 246 = .ok (.iconst 0, 1) := by decide +kernel
theorem dX8_tells_247 : decode cX8_tells 247 = .ok (.ior, 1) := by decide +kernel
theorem dX8_tells_248 : decode cX8_tells 248 = .ok (.istore 7, 2) := by decide +kernel
theorem dX8_tells_250 : decode cX8_tells 250 = .ok (.iinc 8 1, 3) := by decide +kernel
theorem dX8_tells_253 : decode cX8_tells 253 = .ok (.iload 10, 2) := by decide +kernel
theorem dX8_tells_255 : decode cX8_tells 255 = .ok (.istore 9, 2) := by decide +kernel
theorem dX8_tells_257 : decode cX8_tells 257 = .ok (.iinc 10 (-1), 3) := by decide +kernel
theorem dX8_tells_260 : decode cX8_tells 260 = .ok (.goto (-54), 3) := by decide +kernel
theorem dX8_tells_263 : decode cX8_tells 263 = .ok (.aload_n 0, 1) := by decide +kernel
theorem dX8_tells_264 : decode cX8_tells 264 = .ok (.iload 4, 2) := by decide +kernel
theorem dX8_tells_266 : decode cX8_tells 266 = .ok (.iload_n 2, 1) := by decide +kernel
theorem dX8_tells_267 : decode cX8_tells 267 = .ok (.iload 5, 2) := by decide +kernel
theorem dX8_tells_269 : decode cX8_tells 269 = .ok (.invokevirtual 99, 3) := by decide +kernel
theorem dX8_tells_272 : decode cX8_tells 272 = .ok (.iload_n 3, 1) := by decide +kernel
theorem dX8_tells_273 : decode cX8_tells 273 = .ok (.iconst 3, 1) := by decide +kernel
theorem dX8_tells_274 : decode cX8_tells 274 = .ok (.if_icmp .ne 8, 3) := by decide +kernel
theorem dX8_tells_277 : decode cX8_tells 277 = .ok (.iload 8, 2) := by decide +kernel
theorem dX8_tells_279 : decode cX8_tells 279 = .ok (.goto 15, 3) := by decide +kernel
theorem dX8_tells_282 : decode cX8_tells 282 = .ok (.iload_n 3, 1) := by decide +kernel
theorem dX8_tells_283 : decode cX8_tells 283 = .ok (.iconst 4, 1) := by decide +kernel
theorem dX8_tells_284 : decode cX8_tells 284 = .ok (.if_icmp .ne 8, 3) := by decide +kernel
theorem dX8_tells_287 : decode cX8_tells 287 = .ok (.iload 9, 2) := by decide +kernel
theorem dX8_tells_289 : decode cX8_tells 289 = .ok (.goto 5, 3) := by decide +kernel
theorem dX8_tells_292 : decode cX8_tells 292 = .ok (.iload 7, 2) := by decide +kernel
theorem dX8_tells_294 : decode cX8_tells 294 = .ok (.ireturn, 1) := by decide +kernel
theorem dX8_film_0 : decode cX8_film 0 = .ok (.iload_n 1, 1) := by decide +kernel
theorem dX8_film_1 : decode cX8_film 1 = .ok (.invokestatic 390, 3) := by decide +kernel
theorem dX8_film_4 : decode cX8_film 4 = .ok (.ifCond .eq 11, 3) := by decide +kernel
theorem dX8_film_7 : decode cX8_film 7 = .ok (.aload_n 0, 1) := by decide +kernel
theorem dX8_film_8 : decode cX8_film 8 = .ok (.iload_n 2, 1) := by decide +kernel
theorem dX8_film_9 : decode cX8_film 9 = .ok (.invokevirtual 89, 3) := by decide +kernel
theorem dX8_film_12 : decode cX8_film 12 = .ok (.ifCond .ne 6, 3) := by decide +kernel
theorem dX8_film_15 : decode cX8_film 15 = .ok (.bipush (-2), 2) := by decide +kernel
theorem dX8_film_17 : decode cX8_film 17 = .ok (.ireturn, 1) := by decide +kernel
theorem dX8_film_18 : decode cX8_film 18 = .ok (.aload_n 0, 1) := by decide +kernel
theorem dX8_film_19 : decode cX8_film 19 = .ok (.iload_n 1, 1) := by decide +kernel
theorem dX8_film_20 : decode cX8_film 20 = .ok (.iconst 0, 1) := by decide +kernel
theorem dX8_film_21 : decode cX8_film 21 = .ok (.bipush 12, 2) := by decide +kernel
theorem dX8_film_23 : decode cX8_film 23 = .ok (.invokevirtual 429, 3) := by decide +kernel
theorem dX8_film_26 : decode cX8_film 26 = .ok (.pop, 1) := by decide +kernel
theorem dX8_film_27 : decode cX8_film 27 = .ok (.iconst 0, 1) := by decide +kernel
theorem dX8_film_28 : decode cX8_film 28 = .ok (.istore_n 3, 1) := by decide +kernel
theorem dX8_film_29 : decode cX8_film 29 = .ok (.iconst 0, 1) := by decide +kernel
theorem dX8_film_30 : decode cX8_film 30 = .ok (.istore 4, 2) := by decide +kernel
theorem dX8_film_32 : decode cX8_film 32 = .ok (.iload 4, 2) := by decide +kernel
theorem dX8_film_34 : decode cX8_film 34 = .ok (.bipush 12, 2) := by decide +kernel
theorem dX8_film_36 : decode cX8_film 36 = .ok (.if_icmp .ge 48, 3) := by decide +kernel
theorem dX8_film_39 : decode cX8_film 39 = .ok (.aload_n 0, 1) := by decide +kernel
theorem dX8_film_40 : decode cX8_film 40 = .ok (.iload_n 2, 1) := by decide +kernel
theorem dX8_film_41 : decode cX8_film 41 = .ok (.iconst 1, 1) := by decide +kernel
theorem dX8_film_42 : decode cX8_film 42 = .ok (.iload 4, 2) := by decide +kernel
theorem dX8_film_44 : decode cX8_film 44 = .ok (.ishl, 1) := by decide +kernel
theorem dX8_film_45 : decode cX8_film 45 = .ok (.invokevirtual 354, 3) := by decide +kernel
theorem dX8_film_48 : decode cX8_film 48 = .ok (.istore 5, 2) := by decide +kernel
theorem dX8_film_50 : decode cX8_film 50 = .ok (.aload_n 0, 1) := by decide +kernel
theorem dX8_film_51 : decode cX8_film 51 = .ok (.getfield 60, 3) := by decide +kernel
theorem dX8_film_54 : decode cX8_film 54 = .ok (.bipush 40, 2) := by decide +kernel
theorem dX8_film_56 : decode cX8_film 56 = .ok (.iload_n 1, 1) := by decide +kernel
theorem dX8_film_57 : decode cX8_film 57 = .ok (.imul, 1) := by decide +kernel
theorem dX8_film_58 : decode cX8_film 58 = .ok (.iload 4, 2) := by decide +kernel
theorem dX8_film_60 : decode cX8_film 60 = .ok (.iadd, 1) := by decide +kernel
theorem dX8_film_61 : decode cX8_film 61 = .ok (.iload 5, 2) := by decide +kernel
theorem dX8_film_63 : decode cX8_film 63 = .ok (.iastore, 1) := by decide +kernel
theorem dX8_film_64 : decode cX8_film 64 = .ok (.iload_n 3, 1) := by decide +kernel
theorem dX8_film_65 : decode cX8_film 65 = .ok (.iload 5, 2) := by decide +kernel
theorem dX8_film_67 : decode cX8_film 67 = .ok (.iconst (-1), 1) := by decide +kernel
theorem dX8_film_68 : decode cX8_film 68 = .ok (.if_icmp .ne 7, 3) := by decide +kernel
theorem dX8_film_71 : decode cX8_film 71 = .ok (.iconst 0, 1) := by decide +kernel
theorem dX8_film_72 : decode cX8_film 72 = .ok (.goto 4, 3) := by decide +kernel
theorem dX8_film_75 : decode cX8_film 75 = .ok (.iconst 1, 1) := by decide +kernel
theorem dX8_film_76 : decode cX8_film 76 = .ok (.iadd, 1) := by decide +kernel
theorem dX8_film_77 : decode cX8_film 77 = .ok (.istore_n 3, 1) := by decide +kernel
theorem dX8_film_78 : decode cX8_film 78 = .ok (.iinc 4 1, 3) := by decide +kernel
theorem dX8_film_81 : decode cX8_film 81 = .ok (.goto (-49), 3) := by decide +kernel
theorem dX8_film_84 : decode cX8_film 84 = .ok (.iload_n 3, 1) := by decide +kernel
theorem dX8_film_85 : decode cX8_film 85 = .ok (.ireturn, 1) := by decide +kernel
theorem dX8_hadDrawn_0 : decode cX8_hadDrawn 0 = .ok (.aload_n 0, 1) := by decide +kernel
theorem dX8_hadDrawn_1 : decode cX8_hadDrawn 1 = .ok (.invokevirtual 396, 3) := by decide +kernel
theorem dX8_hadDrawn_4 : decode cX8_hadDrawn 4 = .ok (.iload_n 1, 1) := by decide +kernel
theorem dX8_hadDrawn_5 : decode cX8_hadDrawn 5 = .ok (.istore 4, 2) := by decide +kernel
theorem dX8_hadDrawn_7 : decode cX8_hadDrawn 7 = .ok (.iconst 0, 1) := by decide +kernel
theorem dX8_hadDrawn_8 : decode cX8_hadDrawn 8 = .ok (.istore 5, 2) := by decide +kernel
theorem dX8_hadDrawn_10 : decode cX8_hadDrawn 10 = .ok (.iload 5, 2) := by decide +kernel
theorem dX8_hadDrawn_12 : decode cX8_hadDrawn 12 = .ok (.iload_n 3, 1) := by decide +kernel
theorem dX8_hadDrawn_13 : decode cX8_hadDrawn 13 = .ok (.if_icmp .ge 47, 3) := by decide +kernel
theorem dX8_hadDrawn_16 : decode cX8_hadDrawn 16 = .ok (.iload 4, 2) := by decide +kernel
theorem dX8_hadDrawn_18 : decode cX8_hadDrawn 18 = .ok (.ldc_w 432, 3) := by decide +kernel
theorem dX8_hadDrawn_21 : decode cX8_hadDrawn 21 = .ok (.imul, 1) := by decide +kernel
theorem dX8_hadDrawn_22 : decode cX8_hadDrawn 22 = .ok (.sipush 12345, 3) := by decide +kernel
theorem dX8_hadDrawn_25 : decode cX8_hadDrawn 25 = .ok (.iadd, 1) := by decide +kernel
theorem dX8_hadDrawn_26 : decode cX8_hadDrawn 26 = .ok (.istore 4, 2) := by decide +kernel
theorem dX8_hadDrawn_28 : decode cX8_hadDrawn 28 = .ok (.aload_n 0, 1) := by decide +kernel
theorem dX8_hadDrawn_29 : decode cX8_hadDrawn 29 = .ok (.iload_n 2, 1) := by decide +kernel
theorem dX8_hadDrawn_30 : decode cX8_hadDrawn 30 = .ok (.iconst 1, 1) := by decide +kernel
theorem dX8_hadDrawn_31 : decode cX8_hadDrawn 31 = .ok (.iload 4, 2) := by decide +kernel
theorem dX8_hadDrawn_33 : decode cX8_hadDrawn 33 = .ok (.bipush 9, 2) := by decide +kernel
theorem dX8_hadDrawn_35 : decode cX8_hadDrawn 35 = .ok (.iushr, 1) := by decide +kernel
theorem dX8_hadDrawn_36 : decode cX8_hadDrawn 36 = .ok (.bipush 12, 2) := by decide +kernel
theorem dX8_hadDrawn_38 : decode cX8_hadDrawn 38 = .ok (.irem, 1) := by decide +kernel
theorem dX8_hadDrawn_39 : decode cX8_hadDrawn 39 = .ok (.ishl, 1) := by decide +kernel
theorem dX8_hadDrawn_40 : decode cX8_hadDrawn 40 = .ok (.invokevirtual 372, 3) := by decide +kernel
theorem dX8_hadDrawn_43 : decode cX8_hadDrawn 43 = .ok (.pop, 1) := by decide +kernel
theorem dX8_hadDrawn_44 : decode cX8_hadDrawn 44 = .ok (.aload_n 0, 1) := by decide +kernel
theorem dX8_hadDrawn_45 : decode cX8_hadDrawn 45 = .ok (.dup, 1) := by decide +kernel
theorem dX8_hadDrawn_46 : decode cX8_hadDrawn 46 = .ok (.getfield 103, 3) := by decide +kernel
theorem dX8_hadDrawn_49 : decode cX8_hadDrawn 49 = .ok (.iconst 1, 1) := by decide +kernel
theorem dX8_hadDrawn_50 : decode cX8_hadDrawn 50 = .ok (.iadd, 1) := by decide +kernel
theorem dX8_hadDrawn_51 : decode cX8_hadDrawn 51 = .ok (.putfield 103, 3) := by decide +kernel
theorem dX8_hadDrawn_54 : decode cX8_hadDrawn 54 = .ok (.iinc 5 1, 3) := by decide +kernel
theorem dX8_hadDrawn_57 : decode cX8_hadDrawn 57 = .ok (.goto (-47), 3) := by decide +kernel
theorem dX8_hadDrawn_60 : decode cX8_hadDrawn 60 = .ok (.aload_n 0, 1) := by decide +kernel
theorem dX8_hadDrawn_61 : decode cX8_hadDrawn 61 = .ok (.getfield 29, 3) := by decide +kernel
theorem dX8_hadDrawn_64 : decode cX8_hadDrawn 64 = .ok (.iconst 4, 1) := by decide +kernel
theorem dX8_hadDrawn_65 : decode cX8_hadDrawn 65 = .ok (.iload_n 2, 1) := by decide +kernel
theorem dX8_hadDrawn_66 : decode cX8_hadDrawn 66 = .ok (.imul, 1) := by decide +kernel
theorem dX8_hadDrawn_67 : decode cX8_hadDrawn 67 = .ok (.iconst 2, 1) := by decide +kernel
theorem dX8_hadDrawn_68 : decode cX8_hadDrawn 68 = .ok (.iadd, 1) := by decide +kernel
theorem dX8_hadDrawn_69 : decode cX8_hadDrawn 69 = .ok (.iaload, 1) := by decide +kernel
theorem dX8_hadDrawn_70 : decode cX8_hadDrawn 70 = .ok (.invokestatic 63, 3) := by decide +kernel
theorem dX8_hadDrawn_73 : decode cX8_hadDrawn 73 = .ok (.istore 5, 2) := by decide +kernel
theorem dX8_hadDrawn_75 : decode cX8_hadDrawn 75 = .ok (.aload_n 0, 1) := by decide +kernel
theorem dX8_hadDrawn_76 : decode cX8_hadDrawn 76 = .ok (.invokevirtual 403, 3) := by decide +kernel
theorem dX8_hadDrawn_79 : decode cX8_hadDrawn 79 = .ok (.iload 5, 2) := by decide +kernel
theorem dX8_hadDrawn_81 : decode cX8_hadDrawn 81 = .ok (.ireturn, 1) := by decide +kernel
theorem dX8_drawn_0 : decode cX8_drawn 0 = .ok (.aload_n 0, 1) := by decide +kernel
theorem dX8_drawn_1 : decode cX8_drawn 1 = .ok (.iload_n 2, 1) := by decide +kernel
theorem dX8_drawn_2 : decode cX8_drawn 2 = .ok (.invokevirtual 89, 3) := by decide +kernel
theorem dX8_drawn_5 : decode cX8_drawn 5 = .ok (.ifCond .eq 25, 3) := by decide +kernel
theorem dX8_drawn_8 : decode cX8_drawn 8 = .ok (.iload_n 3, 1) := by decide +kernel
theorem dX8_drawn_9 : decode cX8_drawn 9 = .ok (.i2l, 1) := by decide +kernel
theorem dX8_drawn_10 : decode cX8_drawn 10 = .ok (.lconst 0, 1) := by decide +kernel
theorem dX8_drawn_11 : decode cX8_drawn 11 = .ok (.ldc2_w 433, 3) := by decide +kernel
theorem dX8_drawn_14 : decode cX8_drawn 14 = .ok (.invokestatic 77, 3) := by decide +kernel
theorem dX8_drawn_17 : decode cX8_drawn 17 = .ok (.ifCond .eq 13, 3) := by decide +kernel
theorem dX8_drawn_20 : decode cX8_drawn 20 = .ok (.aload_n 0, 1) := by decide +kernel
theorem dX8_drawn_21 : decode cX8_drawn 21 = .ok (.iload_n 1, 1) := by decide +kernel
theorem dX8_drawn_22 : decode cX8_drawn 22 = .ok (.iload_n 2, 1) := by decide +kernel
theorem dX8_drawn_23 : decode cX8_drawn 23 = .ok (.iload_n 3, 1) := by decide +kernel
theorem dX8_drawn_24 : decode cX8_drawn 24 = .ok (.invokevirtual 435, 3) := by decide +kernel
theorem dX8_drawn_27 : decode cX8_drawn 27 = .ok (.goto 5, 3) := by decide +kernel
theorem dX8_drawn_30 : decode cX8_drawn 30 = .ok (.bipush (-2), 2) := by decide +kernel
theorem dX8_drawn_32 : decode cX8_drawn 32 = .ok (.ireturn, 1) := by decide +kernel
theorem dX8_chance_0 : decode cX8_chance 0 = .ok (.iload_n 2, 1) := by decide +kernel
theorem dX8_chance_1 : decode cX8_chance 1 = .ok (.i2l, 1) := by decide +kernel
theorem dX8_chance_2 : decode cX8_chance 2 = .ok (.lconst 1, 1) := by decide +kernel
theorem dX8_chance_3 : decode cX8_chance 3 = .ok (.ldc2_w 438, 3) := by decide +kernel
theorem dX8_chance_6 : decode cX8_chance 6 = .ok (.invokestatic 77, 3) := by decide +kernel
theorem dX8_chance_9 : decode cX8_chance 9 = .ok (.ifCond .eq 35, 3) := by decide +kernel
theorem dX8_chance_12 : decode cX8_chance 12 = .ok (.aload_n 0, 1) := by decide +kernel
theorem dX8_chance_13 : decode cX8_chance 13 = .ok (.iload_n 3, 1) := by decide +kernel
theorem dX8_chance_14 : decode cX8_chance 14 = .ok (.invokevirtual 89, 3) := by decide +kernel
theorem dX8_chance_17 : decode cX8_chance 17 = .ok (.ifCond .eq 27, 3) := by decide +kernel
theorem dX8_chance_20 : decode cX8_chance 20 = .ok (.iload 4, 2) := by decide +kernel
theorem dX8_chance_22 : decode cX8_chance 22 = .ok (.i2l, 1) := by decide +kernel
theorem dX8_chance_23 : decode cX8_chance 23 = .ok (.lconst 0, 1) := by decide +kernel
theorem dX8_chance_24 : decode cX8_chance 24 = .ok (.ldc2_w 412, 3) := by decide +kernel
theorem dX8_chance_27 : decode cX8_chance 27 = .ok (.invokestatic 77, 3) := by decide +kernel
theorem dX8_chance_30 : decode cX8_chance 30 = .ok (.ifCond .eq 14, 3) := by decide +kernel
theorem dX8_chance_33 : decode cX8_chance 33 = .ok (.iload 5, 2) := by decide +kernel
theorem dX8_chance_35 : decode cX8_chance 35 = .ok (.i2l, 1) := by decide +kernel
theorem dX8_chance_36 : decode cX8_chance 36 = .ok (.lconst 0, 1) := by decide +kernel
theorem dX8_chance_37 : decode cX8_chance 37 = .ok (.lconst 1, 1) := by decide +kernel
theorem dX8_chance_38 : decode cX8_chance 38 = .ok (.invokestatic 77, 3) := by decide +kernel
theorem dX8_chance_41 : decode cX8_chance 41 = .ok (.ifCond .ne 7, 3) := by decide +kernel
theorem dX8_chance_44 : decode cX8_chance 44 = .ok (.ldc2_w 418, 3) := by decide +kernel
theorem dX8_chance_47 : decode cX8_chance 47 = .ok (.lreturn, 1) := by decide +kernel
theorem dX8_chance_48 : decode cX8_chance 48 = .ok (.lconst 0, 1) := by decide +kernel
theorem dX8_chance_49 : decode cX8_chance 49 = .ok (.lstore 6, 2) := by decide +kernel
theorem dX8_chance_51 : decode cX8_chance 51 = .ok (.iconst 0, 1) := by decide +kernel
theorem dX8_chance_52 : decode cX8_chance 52 = .ok (.istore 8, 2) := by decide +kernel
theorem dX8_chance_54 : decode cX8_chance 54 = .ok (.iload 8, 2) := by decide +kernel
theorem dX8_chance_56 : decode cX8_chance 56 = .ok (.iload_n 2, 1) := by decide +kernel
theorem dX8_chance_57 : decode cX8_chance 57 = .ok (.if_icmp .ge 35, 3) := by decide +kernel
theorem dX8_chance_60 : decode cX8_chance 60 = .ok (.lload 6, 2) := by decide +kernel
theorem dX8_chance_62 : decode cX8_chance 62 = .ok (.aload_n 0, 1) := by decide +kernel
theorem dX8_chance_63 : decode cX8_chance 63 = .ok (.iload_n 1, 1) := by decide +kernel
theorem dX8_chance_64 : decode cX8_chance 64 = .ok (.iload 8, 2) := by decide +kernel
theorem dX8_chance_66 : decode cX8_chance 66 = .ok (.iadd, 1) := by decide +kernel
theorem dX8_chance_67 : decode cX8_chance 67 = .ok (.iload_n 3, 1) := by decide +kernel
theorem dX8_chance_68 : decode cX8_chance 68 = .ok (.bipush 6, 2) := by decide +kernel
theorem dX8_chance_70 : decode cX8_chance 70 = .ok (.invokevirtual 435, 3) := by decide +kernel
theorem dX8_chance_73 : decode cX8_chance 73 = .ok (.iload 4, 2) := by decide +kernel
theorem dX8_chance_75 : decode cX8_chance 75 = .ok (.if_icmp .lt 7, 3) := by decide +kernel
theorem dX8_chance_78 : decode cX8_chance 78 = .ok (.lconst 1, 1) := by decide +kernel
theorem dX8_chance_79 : decode cX8_chance 79 = .ok (.goto 4, 3) := by decide +kernel
theorem dX8_chance_82 : decode cX8_chance 82 = .ok (.lconst 0, 1) := by decide +kernel
theorem dX8_chance_83 : decode cX8_chance 83 = .ok (.ladd, 1) := by decide +kernel
theorem dX8_chance_84 : decode cX8_chance 84 = .ok (.lstore 6, 2) := by decide +kernel
theorem dX8_chance_86 : decode cX8_chance 86 = .ok (.iinc 8 1, 3) := by decide +kernel
theorem dX8_chance_89 : decode cX8_chance 89 = .ok (.goto (-35), 3) := by decide +kernel
theorem dX8_chance_92 : decode cX8_chance 92 = .ok (.lload 6, 2) := by decide +kernel
theorem dX8_chance_94 : decode cX8_chance 94 = .ok (.iload_n 2, 1) := by decide +kernel
theorem dX8_chance_95 : decode cX8_chance 95 = .ok (.i2l, 1) := by decide +kernel
theorem dX8_chance_96 : decode cX8_chance 96 = .ok (.iload 5, 2) := by decide +kernel
theorem dX8_chance_98 : decode cX8_chance 98 = .ok (.invokestatic 414, 3) := by decide +kernel
theorem dX8_chance_101 : decode cX8_chance 101 = .ok (.lreturn, 1) := by decide +kernel
theorem dX8_image_0 : decode cX8_image 0 = .ok (.iconst 0, 1) := by decide +kernel
theorem dX8_image_1 : decode cX8_image 1 = .ok (.istore_n 1, 1) := by decide +kernel
theorem dX8_image_2 : decode cX8_image 2 = .ok (.iload_n 1, 1) := by decide +kernel
theorem dX8_image_3 : decode cX8_image 3 = .ok (.bipush 12, 2) := by decide +kernel
theorem dX8_image_5 : decode cX8_image 5 = .ok (.if_icmp .ge 21, 3) := by decide +kernel
theorem dX8_image_8 : decode cX8_image 8 = .ok (.aload_n 0, 1) := by decide +kernel
theorem dX8_image_9 : decode cX8_image 9 = .ok (.getfield 41, 3) := by decide +kernel
theorem dX8_image_12 : decode cX8_image 12 = .ok (.iload_n 1, 1) := by decide +kernel
theorem dX8_image_13 : decode cX8_image 13 = .ok (.aload_n 0, 1) := by decide +kernel
theorem dX8_image_14 : decode cX8_image 14 = .ok (.getfield 23, 3) := by decide +kernel
theorem dX8_image_17 : decode cX8_image 17 = .ok (.iload_n 1, 1) := by decide +kernel
theorem dX8_image_18 : decode cX8_image 18 = .ok (.iaload, 1) := by decide +kernel
theorem dX8_image_19 : decode cX8_image 19 = .ok (.iastore, 1) := by decide +kernel
theorem dX8_image_20 : decode cX8_image 20 = .ok (.iinc 1 1, 3) := by decide +kernel
theorem dX8_image_23 : decode cX8_image 23 = .ok (.goto (-21), 3) := by decide +kernel
theorem dX8_image_26 : decode cX8_image 26 = .ok (.iconst 0, 1) := by decide +kernel
theorem dX8_image_27 : decode cX8_image 27 = .ok (.istore_n 1, 1) := by decide +kernel
theorem dX8_image_28 : decode cX8_image 28 = .ok (.iload_n 1, 1) := by decide +kernel
theorem dX8_image_29 : decode cX8_image 29 = .ok (.bipush 20, 2) := by decide +kernel
theorem dX8_image_31 : decode cX8_image 31 = .ok (.if_icmp .ge 21, 3) := by decide +kernel
theorem dX8_image_34 : decode cX8_image 34 = .ok (.aload_n 0, 1) := by decide +kernel
theorem dX8_image_35 : decode cX8_image 35 = .ok (.getfield 44, 3) := by decide +kernel
theorem dX8_image_38 : decode cX8_image 38 = .ok (.iload_n 1, 1) := by decide +kernel
theorem dX8_image_39 : decode cX8_image 39 = .ok (.aload_n 0, 1) := by decide +kernel
theorem dX8_image_40 : decode cX8_image 40 = .ok (.getfield 29, 3) := by decide +kernel
theorem dX8_image_43 : decode cX8_image 43 = .ok (.iload_n 1, 1) := by decide +kernel
theorem dX8_image_44 : decode cX8_image 44 = .ok (.iaload, 1) := by decide +kernel
theorem dX8_image_45 : decode cX8_image 45 = .ok (.iastore, 1) := by decide +kernel
theorem dX8_image_46 : decode cX8_image 46 = .ok (.iinc 1 1, 3) := by decide +kernel
theorem dX8_image_49 : decode cX8_image 49 = .ok (.goto (-21), 3) := by decide +kernel
theorem dX8_image_52 : decode cX8_image 52 = .ok (.aload_n 0, 1) := by decide +kernel
theorem dX8_image_53 : decode cX8_image 53 = .ok (.aload_n 0, 1) := by decide +kernel
theorem dX8_image_54 : decode cX8_image 54 = .ok (.getfield 74, 3) := by decide +kernel
theorem dX8_image_57 : decode cX8_image 57 = .ok (.putfield 47, 3) := by decide +kernel
theorem dX8_image_60 : decode cX8_image 60 = .ok (.aload_n 0, 1) := by decide +kernel
theorem dX8_image_61 : decode cX8_image 61 = .ok (.aload_n 0, 1) := by decide +kernel
theorem dX8_image_62 : decode cX8_image 62 = .ok (.getfield 103, 3) := by decide +kernel
theorem dX8_image_65 : decode cX8_image 65 = .ok (.putfield 440, 3) := by decide +kernel
theorem dX8_image_68 : decode cX8_image 68 = .ok (.aload_n 0, 1) := by decide +kernel
theorem dX8_image_69 : decode cX8_image 69 = .ok (.aload_n 0, 1) := by decide +kernel
theorem dX8_image_70 : decode cX8_image 70 = .ok (.getfield 106, 3) := by decide +kernel
theorem dX8_image_73 : decode cX8_image 73 = .ok (.putfield 443, 3) := by decide +kernel
theorem dX8_image_76 : decode cX8_image 76 = .ok (.aload_n 0, 1) := by decide +kernel
theorem dX8_image_77 : decode cX8_image 77 = .ok (.getfield 74, 3) := by decide +kernel
theorem dX8_image_80 : decode cX8_image 80 = .ok (.ireturn, 1) := by decide +kernel
theorem dX8_back_0 : decode cX8_back 0 = .ok (.aload_n 0, 1) := by decide +kernel
theorem dX8_back_1 : decode cX8_back 1 = .ok (.getfield 47, 3) := by decide +kernel
theorem dX8_back_4 : decode cX8_back 4 = .ok (.iconst (-1), 1) := by decide +kernel
theorem dX8_back_5 : decode cX8_back 5 = .ok (.if_icmp .ne 6, 3) := by decide +kernel
theorem dX8_back_8 : decode cX8_back 8 = .ok (.bipush (-3), 2) := by decide +kernel
theorem dX8_back_10 : decode cX8_back 10 = .ok (.ireturn, 1) := by decide +kernel
theorem dX8_back_11 : decode cX8_back 11 = .ok (.iconst 0, 1) := by decide +kernel
theorem dX8_back_12 : decode cX8_back 12 = .ok (.istore_n 1, 1) := by decide +kernel
theorem dX8_back_13 : decode cX8_back 13 = .ok (.iload_n 1, 1) := by decide +kernel
theorem dX8_back_14 : decode cX8_back 14 = .ok (.bipush 12, 2) := by decide +kernel
theorem dX8_back_16 : decode cX8_back 16 = .ok (.if_icmp .ge 21, 3) := by decide +kernel
theorem dX8_back_19 : decode cX8_back 19 = .ok (.aload_n 0, 1) := by decide +kernel
theorem dX8_back_20 : decode cX8_back 20 = .ok (.getfield 23, 3) := by decide +kernel
theorem dX8_back_23 : decode cX8_back 23 = .ok (.iload_n 1, 1) := by decide +kernel
theorem dX8_back_24 : decode cX8_back 24 = .ok (.aload_n 0, 1) := by decide +kernel
theorem dX8_back_25 : decode cX8_back 25 = .ok (.getfield 41, 3) := by decide +kernel
theorem dX8_back_28 : decode cX8_back 28 = .ok (.iload_n 1, 1) := by decide +kernel
theorem dX8_back_29 : decode cX8_back 29 = .ok (.iaload, 1) := by decide +kernel
theorem dX8_back_30 : decode cX8_back 30 = .ok (.iastore, 1) := by decide +kernel
theorem dX8_back_31 : decode cX8_back 31 = .ok (.iinc 1 1, 3) := by decide +kernel
theorem dX8_back_34 : decode cX8_back 34 = .ok (.goto (-21), 3) := by decide +kernel
theorem dX8_back_37 : decode cX8_back 37 = .ok (.iconst 0, 1) := by decide +kernel
theorem dX8_back_38 : decode cX8_back 38 = .ok (.istore_n 1, 1) := by decide +kernel
theorem dX8_back_39 : decode cX8_back 39 = .ok (.iload_n 1, 1) := by decide +kernel
theorem dX8_back_40 : decode cX8_back 40 = .ok (.bipush 20, 2) := by decide +kernel
theorem dX8_back_42 : decode cX8_back 42 = .ok (.if_icmp .ge 21, 3) := by decide +kernel
theorem dX8_back_45 : decode cX8_back 45 = .ok (.aload_n 0, 1) := by decide +kernel
theorem dX8_back_46 : decode cX8_back 46 = .ok (.getfield 29, 3) := by decide +kernel
theorem dX8_back_49 : decode cX8_back 49 = .ok (.iload_n 1, 1) := by decide +kernel
theorem dX8_back_50 : decode cX8_back 50 = .ok (.aload_n 0, 1) := by decide +kernel
theorem dX8_back_51 : decode cX8_back 51 = .ok (.getfield 44, 3) := by decide +kernel
theorem dX8_back_54 : decode cX8_back 54 = .ok (.iload_n 1, 1) := by decide +kernel
theorem dX8_back_55 : decode cX8_back 55 = .ok (.iaload, 1) := by decide +kernel
theorem dX8_back_56 : decode cX8_back 56 = .ok (.iastore, 1) := by decide +kernel
theorem dX8_back_57 : decode cX8_back 57 = .ok (.iinc 1 1, 3) := by decide +kernel
theorem dX8_back_60 : decode cX8_back 60 = .ok (.goto (-21), 3) := by decide +kernel
theorem dX8_back_63 : decode cX8_back 63 = .ok (.aload_n 0, 1) := by decide +kernel
theorem dX8_back_64 : decode cX8_back 64 = .ok (.aload_n 0, 1) := by decide +kernel
theorem dX8_back_65 : decode cX8_back 65 = .ok (.getfield 47, 3) := by decide +kernel
theorem dX8_back_68 : decode cX8_back 68 = .ok (.putfield 74, 3) := by decide +kernel
theorem dX8_back_71 : decode cX8_back 71 = .ok (.aload_n 0, 1) := by decide +kernel
theorem dX8_back_72 : decode cX8_back 72 = .ok (.aload_n 0, 1) := by decide +kernel
theorem dX8_back_73 : decode cX8_back 73 = .ok (.getfield 440, 3) := by decide +kernel
theorem dX8_back_76 : decode cX8_back 76 = .ok (.putfield 103, 3) := by decide +kernel
theorem dX8_back_79 : decode cX8_back 79 = .ok (.aload_n 0, 1) := by decide +kernel
theorem dX8_back_80 : decode cX8_back 80 = .ok (.aload_n 0, 1) := by decide +kernel
theorem dX8_back_81 : decode cX8_back 81 = .ok (.getfield 443, 3) := by decide +kernel
theorem dX8_back_84 : decode cX8_back 84 = .ok (.putfield 106, 3) := by decide +kernel
theorem dX8_back_87 : decode cX8_back 87 = .ok (.aload_n 0, 1) := by decide +kernel
theorem dX8_back_88 : decode cX8_back 88 = .ok (.getfield 74, 3) := by decide +kernel
theorem dX8_back_91 : decode cX8_back 91 = .ok (.ireturn, 1) := by decide +kernel
theorem dX8_count_0 : decode cX8_count 0 = .ok (.iload_n 1, 1) := by decide +kernel
theorem dX8_count_1 : decode cX8_count 1 = .ok (.i2l, 1) := by decide +kernel
theorem dX8_count_2 : decode cX8_count 2 = .ok (.lconst 0, 1) := by decide +kernel
theorem dX8_count_3 : decode cX8_count 3 = .ok (.ldc2_w 109, 3) := by decide +kernel
theorem dX8_count_6 : decode cX8_count 6 = .ok (.invokestatic 77, 3) := by decide +kernel
theorem dX8_count_9 : decode cX8_count 9 = .ok (.ifCond .ne 6, 3) := by decide +kernel
theorem dX8_count_12 : decode cX8_count 12 = .ok (.bipush (-2), 2) := by decide +kernel
theorem dX8_count_14 : decode cX8_count 14 = .ok (.ireturn, 1) := by decide +kernel
theorem dX8_count_15 : decode cX8_count 15 = .ok (.iload_n 1, 1) := by decide +kernel
theorem dX8_count_16 : decode cX8_count 16 = .ok (.ifCond .ne 10, 3) := by decide +kernel
theorem dX8_count_19 : decode cX8_count 19 = .ok (.aload_n 0, 1) := by decide +kernel
theorem dX8_count_20 : decode cX8_count 20 = .ok (.getfield 74, 3) := by decide +kernel
theorem dX8_count_23 : decode cX8_count 23 = .ok (.goto 55, 3) := by decide +kernel
theorem dX8_count_26 : decode cX8_count 26 = .ok (.iload_n 1, 1) := by decide +kernel
theorem dX8_count_27 : decode cX8_count 27 = .ok (.iconst 1, 1) := by decide +kernel
theorem dX8_count_28 : decode cX8_count 28 = .ok (.if_icmp .ne 10, 3) := by decide +kernel
theorem dX8_count_31 : decode cX8_count 31 = .ok (.aload_n 0, 1) := by decide +kernel
theorem dX8_count_32 : decode cX8_count 32 = .ok (.invokevirtual 409, 3) := by decide +kernel
theorem dX8_count_35 : decode cX8_count 35 = .ok (.goto 43, 3) := by decide +kernel
theorem dX8_count_38 : decode cX8_count 38 = .ok (.iload_n 1, 1) := by decide +kernel
theorem dX8_count_39 : decode cX8_count 39 = .ok (.iconst 2, 1) := by decide +kernel
theorem dX8_count_40 : decode cX8_count 40 = .ok (.if_icmp .ne 10, 3) := by decide +kernel
theorem dX8_count_43 : decode cX8_count 43 = .ok (.aload_n 0, 1) := by decide +kernel
theorem dX8_count_44 : decode cX8_count 44 = .ok (.getfield 103, 3) := by decide +kernel
theorem dX8_count_47 : decode cX8_count 47 = .ok (.goto 31, 3) := by decide +kernel
theorem dX8_count_50 : decode cX8_count 50 = .ok (.iload_n 1, 1) := by decide +kernel
theorem dX8_count_51 : decode cX8_count 51 = .ok (.iconst 3, 1) := by decide +kernel
theorem dX8_count_52 : decode cX8_count 52 = .ok (.if_icmp .ne 10, 3) := by decide +kernel
theorem dX8_count_55 : decode cX8_count 55 = .ok (.aload_n 0, 1) := by decide +kernel
theorem dX8_count_56 : decode cX8_count 56 = .ok (.getfield 71, 3) := by decide +kernel
theorem dX8_count_59 : decode cX8_count 59 = .ok (.goto 19, 3) := by decide +kernel
theorem dX8_count_62 : decode cX8_count 62 = .ok (.iload_n 1, 1) := by decide +kernel
theorem dX8_count_63 : decode cX8_count 63 = .ok (.iconst 4, 1) := by decide +kernel
theorem dX8_count_64 : decode cX8_count 64 = .ok (.if_icmp .ne 10, 3) := by decide +kernel
theorem dX8_count_67 : decode cX8_count 67 = .ok (.aload_n 0, 1) := by decide +kernel
theorem dX8_count_68 : decode cX8_count 68 = .ok (.getfield 120, 3) := by decide +kernel
theorem dX8_count_71 : decode cX8_count 71 = .ok (.goto 7, 3) := by decide +kernel
theorem dX8_count_74 : decode cX8_count 74 = .ok (.aload_n 0, 1) := by decide +kernel
theorem dX8_count_75 : decode cX8_count 75 = .ok (.getfield 106, 3) := by decide +kernel
theorem dX8_count_78 : decode cX8_count 78 = .ok (.ireturn, 1) := by decide +kernel
theorem dX8_isSheet_0 : decode cX8_isSheet 0 = .ok (.iload_n 0, 1) := by decide +kernel
theorem dX8_isSheet_1 : decode cX8_isSheet 1 = .ok (.i2l, 1) := by decide +kernel
theorem dX8_isSheet_2 : decode cX8_isSheet 2 = .ok (.lconst 0, 1) := by decide +kernel
theorem dX8_isSheet_3 : decode cX8_isSheet 3 = .ok (.ldc2_w 352, 3) := by decide +kernel
theorem dX8_isSheet_6 : decode cX8_isSheet 6 = .ok (.invokestatic 77, 3) := by decide +kernel
theorem dX8_isSheet_9 : decode cX8_isSheet 9 = .ok (.ireturn, 1) := by decide +kernel
theorem dX8_sheet_0 : decode cX8_sheet 0 = .ok (.iload_n 1, 1) := by decide +kernel
theorem dX8_sheet_1 : decode cX8_sheet 1 = .ok (.invokestatic 390, 3) := by decide +kernel
theorem dX8_sheet_4 : decode cX8_sheet 4 = .ok (.ifCond .eq 27, 3) := by decide +kernel
theorem dX8_sheet_7 : decode cX8_sheet 7 = .ok (.iload_n 2, 1) := by decide +kernel
theorem dX8_sheet_8 : decode cX8_sheet 8 = .ok (.i2l, 1) := by decide +kernel
theorem dX8_sheet_9 : decode cX8_sheet 9 = .ok (.ldc2_w 446, 3) := by decide +kernel
theorem dX8_sheet_12 : decode cX8_sheet 12 = .ok (.ldc2_w 448, 3) := by decide +kernel
theorem dX8_sheet_15 : decode cX8_sheet 15 = .ok (.invokestatic 77, 3) := by decide +kernel
theorem dX8_sheet_18 : decode cX8_sheet 18 = .ok (.ifCond .eq 13, 3) := by decide +kernel
theorem dX8_sheet_21 : decode cX8_sheet 21 = .ok (.iload_n 2, 1) := by decide +kernel
theorem dX8_sheet_22 : decode cX8_sheet 22 = .ok (.ifCond .lt 12, 3) := by decide +kernel
theorem dX8_sheet_25 : decode cX8_sheet 25 = .ok (.iload_n 3, 1) := by decide +kernel
theorem dX8_sheet_26 : decode cX8_sheet 26 = .ok (.bipush 40, 2) := by decide +kernel
theorem dX8_sheet_28 : decode cX8_sheet 28 = .ok (.if_icmp .le 6, 3) := by decide +kernel
theorem dX8_sheet_31 : decode cX8_sheet 31 = .ok (.bipush (-2), 2) := by decide +kernel
theorem dX8_sheet_33 : decode cX8_sheet 33 = .ok (.ireturn, 1) := by decide +kernel
theorem dX8_sheet_34 : decode cX8_sheet 34 = .ok (.iload_n 2, 1) := by decide +kernel
theorem dX8_sheet_35 : decode cX8_sheet 35 = .ok (.ifCond .lt 10, 3) := by decide +kernel
theorem dX8_sheet_38 : decode cX8_sheet 38 = .ok (.iload_n 3, 1) := by decide +kernel
theorem dX8_sheet_39 : decode cX8_sheet 39 = .ok (.ifCond .ge 6, 3) := by decide +kernel
theorem dX8_sheet_42 : decode cX8_sheet 42 = .ok (.bipush (-14), 2) := by decide +kernel
theorem dX8_sheet_44 : decode cX8_sheet 44 = .ok (.ireturn, 1) := by decide +kernel
theorem dX8_sheet_45 : decode cX8_sheet 45 = .ok (.aload_n 0, 1) := by decide +kernel
theorem dX8_sheet_46 : decode cX8_sheet 46 = .ok (.getfield 50, 3) := by decide +kernel
theorem dX8_sheet_49 : decode cX8_sheet 49 = .ok (.iload_n 1, 1) := by decide +kernel
theorem dX8_sheet_50 : decode cX8_sheet 50 = .ok (.iload_n 2, 1) := by decide +kernel
theorem dX8_sheet_51 : decode cX8_sheet 51 = .ok (.ifCond .lt 7, 3) := by decide +kernel
theorem dX8_sheet_54 : decode cX8_sheet 54 = .ok (.iconst 1, 1) := by decide +kernel
theorem dX8_sheet_55 : decode cX8_sheet 55 = .ok (.goto 4, 3) := by decide +kernel
theorem dX8_sheet_58 : decode cX8_sheet 58 = .ok (.iconst 0, 1) := by decide +kernel
theorem dX8_sheet_59 : decode cX8_sheet 59 = .ok (.bastore, 1) := by decide +kernel
theorem dX8_sheet_60 : decode cX8_sheet 60 = .ok (.aload_n 0, 1) := by decide +kernel
theorem dX8_sheet_61 : decode cX8_sheet 61 = .ok (.getfield 54, 3) := by decide +kernel
theorem dX8_sheet_64 : decode cX8_sheet 64 = .ok (.iload_n 1, 1) := by decide +kernel
theorem dX8_sheet_65 : decode cX8_sheet 65 = .ok (.iload_n 2, 1) := by decide +kernel
theorem dX8_sheet_66 : decode cX8_sheet 66 = .ok (.iastore, 1) := by decide +kernel
theorem dX8_sheet_67 : decode cX8_sheet 67 = .ok (.aload_n 0, 1) := by decide +kernel
theorem dX8_sheet_68 : decode cX8_sheet 68 = .ok (.getfield 57, 3) := by decide +kernel
theorem dX8_sheet_71 : decode cX8_sheet 71 = .ok (.iload_n 1, 1) := by decide +kernel
theorem dX8_sheet_72 : decode cX8_sheet 72 = .ok (.iload_n 3, 1) := by decide +kernel
theorem dX8_sheet_73 : decode cX8_sheet 73 = .ok (.iastore, 1) := by decide +kernel
theorem dX8_sheet_74 : decode cX8_sheet 74 = .ok (.iconst 0, 1) := by decide +kernel
theorem dX8_sheet_75 : decode cX8_sheet 75 = .ok (.istore 4, 2) := by decide +kernel
theorem dX8_sheet_77 : decode cX8_sheet 77 = .ok (.iload 4, 2) := by decide +kernel
theorem dX8_sheet_79 : decode cX8_sheet 79 = .ok (.iload_n 3, 1) := by decide +kernel
theorem dX8_sheet_80 : decode cX8_sheet 80 = .ok (.if_icmp .ge 26, 3) := by decide +kernel
theorem dX8_sheet_83 : decode cX8_sheet 83 = .ok (.iload_n 2, 1) := by decide +kernel
theorem dX8_sheet_84 : decode cX8_sheet 84 = .ok (.ifCond .lt 22, 3) := by decide +kernel
theorem dX8_sheet_87 : decode cX8_sheet 87 = .ok (.aload_n 0, 1) := by decide +kernel
theorem dX8_sheet_88 : decode cX8_sheet 88 = .ok (.getfield 60, 3) := by decide +kernel
theorem dX8_sheet_91 : decode cX8_sheet 91 = .ok (.bipush 40, 2) := by decide +kernel
theorem dX8_sheet_93 : decode cX8_sheet 93 = .ok (.iload_n 1, 1) := by decide +kernel
theorem dX8_sheet_94 : decode cX8_sheet 94 = .ok (.imul, 1) := by decide +kernel
theorem dX8_sheet_95 : decode cX8_sheet 95 = .ok (.iload 4, 2) := by decide +kernel
theorem dX8_sheet_97 : decode cX8_sheet 97 = .ok (.iadd, 1) := by decide +kernel
theorem dX8_sheet_98 : decode cX8_sheet 98 = .ok (.iconst 0, 1) := by decide +kernel
theorem dX8_sheet_99 : decode cX8_sheet 99 = .ok (.iastore, 1) := by decide +kernel
theorem dX8_sheet_100 : decode cX8_sheet 100 = .ok (.iinc 4 1, 3) := by decide +kernel
theorem dX8_sheet_103 : decode cX8_sheet 103 = .ok (.goto (-26), 3) := by decide +kernel
theorem dX8_sheet_106 : decode cX8_sheet 106 = .ok (.iconst 1, 1) := by decide +kernel
theorem dX8_sheet_107 : decode cX8_sheet 107 = .ok (.ireturn, 1) := by decide +kernel
theorem dX8_cell_0 : decode cX8_cell 0 = .ok (.iload_n 1, 1) := by decide +kernel
theorem dX8_cell_1 : decode cX8_cell 1 = .ok (.invokestatic 390, 3) := by decide +kernel
theorem dX8_cell_4 : decode cX8_cell 4 = .ok (.ifCond .ne 6, 3) := by decide +kernel
theorem dX8_cell_7 : decode cX8_cell 7 = .ok (.bipush (-2), 2) := by decide +kernel
theorem dX8_cell_9 : decode cX8_cell 9 = .ok (.ireturn, 1) := by decide +kernel
theorem dX8_cell_10 : decode cX8_cell 10 = .ok (.aload_n 0, 1) := by decide +kernel
theorem dX8_cell_11 : decode cX8_cell 11 = .ok (.getfield 50, 3) := by decide +kernel
theorem dX8_cell_14 : decode cX8_cell 14 = .ok (.iload_n 1, 1) := by decide +kernel
theorem dX8_cell_15 : decode cX8_cell 15 = .ok (.baload, 1) := by decide +kernel
theorem dX8_cell_16 : decode cX8_cell 16 = .ok (.ifCond .ne 6, 3) := by decide +kernel
theorem dX8_cell_19 : decode cX8_cell 19 = .ok (.bipush (-11), 2) := by decide +kernel
theorem dX8_cell_21 : decode cX8_cell 21 = .ok (.ireturn, 1) := by decide +kernel
theorem dX8_cell_22 : decode cX8_cell 22 = .ok (.iload_n 2, 1) := by decide +kernel
theorem dX8_cell_23 : decode cX8_cell 23 = .ok (.i2l, 1) := by decide +kernel
theorem dX8_cell_24 : decode cX8_cell 24 = .ok (.lconst 0, 1) := by decide +kernel
theorem dX8_cell_25 : decode cX8_cell 25 = .ok (.aload_n 0, 1) := by decide +kernel
theorem dX8_cell_26 : decode cX8_cell 26 = .ok (.getfield 57, 3) := by decide +kernel
theorem dX8_cell_29 : decode cX8_cell 29 = .ok (.iload_n 1, 1) := by decide +kernel
theorem dX8_cell_30 : decode cX8_cell 30 = .ok (.iaload, 1) := by decide +kernel
theorem dX8_cell_31 : decode cX8_cell 31 = .ok (.iconst 1, 1) := by decide +kernel
theorem dX8_cell_32 : decode cX8_cell 32 = .ok (.isub, 1) := by decide +kernel
theorem dX8_cell_33 : decode cX8_cell 33 = .ok (.i2l, 1) := by decide +kernel
theorem dX8_cell_34 : decode cX8_cell 34 = .ok (.invokestatic 77, 3) := by decide +kernel
theorem dX8_cell_37 : decode cX8_cell 37 = .ok (.ifCond .ne 6, 3) := by decide +kernel
theorem dX8_cell_40 : decode cX8_cell 40 = .ok (.bipush (-12), 2) := by decide +kernel
theorem dX8_cell_42 : decode cX8_cell 42 = .ok (.ireturn, 1) := by decide +kernel
theorem dX8_cell_43 : decode cX8_cell 43 = .ok (.aload_n 0, 1) := by decide +kernel
theorem dX8_cell_44 : decode cX8_cell 44 = .ok (.getfield 60, 3) := by decide +kernel
theorem dX8_cell_47 : decode cX8_cell 47 = .ok (.bipush 40, 2) := by decide +kernel
theorem dX8_cell_49 : decode cX8_cell 49 = .ok (.iload_n 1, 1) := by decide +kernel
theorem dX8_cell_50 : decode cX8_cell 50 = .ok (.imul, 1) := by decide +kernel
theorem dX8_cell_51 : decode cX8_cell 51 = .ok (.iload_n 2, 1) := by decide +kernel
theorem dX8_cell_52 : decode cX8_cell 52 = .ok (.iadd, 1) := by decide +kernel
theorem dX8_cell_53 : decode cX8_cell 53 = .ok (.aload_n 0, 1) := by decide +kernel
theorem dX8_cell_54 : decode cX8_cell 54 = .ok (.getfield 54, 3) := by decide +kernel
theorem dX8_cell_57 : decode cX8_cell 57 = .ok (.iload_n 1, 1) := by decide +kernel
theorem dX8_cell_58 : decode cX8_cell 58 = .ok (.iaload, 1) := by decide +kernel
theorem dX8_cell_59 : decode cX8_cell 59 = .ok (.ifCond .ne 8, 3) := by decide +kernel
theorem dX8_cell_62 : decode cX8_cell 62 = .ok (.iload_n 3, 1) := by decide +kernel
theorem dX8_cell_63 : decode cX8_cell 63 = .ok (.i2b, 1) := by decide +kernel
theorem dX8_cell_64 : decode cX8_cell 64 = .ok (.goto 19, 3) := by decide +kernel
theorem dX8_cell_67 : decode cX8_cell 67 = .ok (.aload_n 0, 1) := by decide +kernel
theorem dX8_cell_68 : decode cX8_cell 68 = .ok (.getfield 54, 3) := by decide +kernel
theorem dX8_cell_71 : decode cX8_cell 71 = .ok (.iload_n 1, 1) := by decide +kernel
theorem dX8_cell_72 : decode cX8_cell 72 = .ok (.iaload, 1) := by decide +kernel
theorem dX8_cell_73 : decode cX8_cell 73 = .ok (.iconst 1, 1) := by decide +kernel
theorem dX8_cell_74 : decode cX8_cell 74 = .ok (.if_icmp .ne 8, 3) := by decide +kernel
theorem dX8_cell_77 : decode cX8_cell 77 = .ok (.iload_n 3, 1) := by decide +kernel
theorem dX8_cell_78 : decode cX8_cell 78 = .ok (.i2s, 1) := by decide +kernel
theorem dX8_cell_79 : decode cX8_cell 79 = .ok (.goto 4, 3) := by decide +kernel
theorem dX8_cell_82 : decode cX8_cell 82 = .ok (.iload_n 3, 1) := by decide +kernel
theorem dX8_cell_83 : decode cX8_cell 83 = .ok (.iastore, 1) := by decide +kernel
theorem dX8_cell_84 : decode cX8_cell 84 = .ok (.iconst 1, 1) := by decide +kernel
theorem dX8_cell_85 : decode cX8_cell 85 = .ok (.ireturn, 1) := by decide +kernel
theorem dX8_copy_0 : decode cX8_copy 0 = .ok (.iload_n 1, 1) := by decide +kernel
theorem dX8_copy_1 : decode cX8_copy 1 = .ok (.invokestatic 390, 3) := by decide +kernel
theorem dX8_copy_4 : decode cX8_copy 4 = .ok (.ifCond .eq 10, 3) := by decide +kernel
theorem dX8_copy_7 : decode cX8_copy 7 = .ok (.iload_n 3, 1) := by decide +kernel
theorem dX8_copy_8 : decode cX8_copy 8 = .ok (.invokestatic 390, 3) := by decide +kernel
theorem dX8_copy_11 : decode cX8_copy 11 = .ok (.ifCond .ne 6, 3) := by decide +kernel
theorem dX8_copy_14 : decode cX8_copy 14 = .ok (.bipush (-2), 2) := by decide +kernel
theorem dX8_copy_16 : decode cX8_copy 16 = .ok (.ireturn, 1) := by decide +kernel
theorem dX8_copy_17 : decode cX8_copy 17 = .ok (.aload_n 0, 1) := by decide +kernel
theorem dX8_copy_18 : decode cX8_copy 18 = .ok (.getfield 50, 3) := by decide +kernel
theorem dX8_copy_21 : decode cX8_copy 21 = .ok (.iload_n 1, 1) := by decide +kernel
theorem dX8_copy_22 : decode cX8_copy 22 = .ok (.baload, 1) := by decide +kernel
theorem dX8_copy_23 : decode cX8_copy 23 = .ok (.ifCond .eq 12, 3) := by decide +kernel
theorem dX8_copy_26 : decode cX8_copy 26 = .ok (.aload_n 0, 1) := by decide +kernel
theorem dX8_copy_27 : decode cX8_copy 27 = .ok (.getfield 50, 3) := by decide +kernel
theorem dX8_copy_30 : decode cX8_copy 30 = .ok (.iload_n 3, 1) := by decide +kernel
theorem dX8_copy_31 : decode cX8_copy 31 = .ok (.baload, 1) := by decide +kernel
theorem dX8_copy_32 : decode cX8_copy 32 = .ok (.ifCond .ne 6, 3) := by decide +kernel
theorem dX8_copy_35 : decode cX8_copy 35 = .ok (.bipush (-11), 2) := by decide +kernel
theorem dX8_copy_37 : decode cX8_copy 37 = .ok (.ireturn, 1) := by decide +kernel
theorem dX8_copy_38 : decode cX8_copy 38 = .ok (.aload_n 0, 1) := by decide +kernel
theorem dX8_copy_39 : decode cX8_copy 39 = .ok (.getfield 54, 3) := by decide +kernel
theorem dX8_copy_42 : decode cX8_copy 42 = .ok (.iload_n 1, 1) := by decide +kernel
theorem dX8_copy_43 : decode cX8_copy 43 = .ok (.iaload, 1) := by decide +kernel
theorem dX8_copy_44 : decode cX8_copy 44 = .ok (.aload_n 0, 1) := by decide +kernel
theorem dX8_copy_45 : decode cX8_copy 45 = .ok (.getfield 54, 3) := by decide +kernel
theorem dX8_copy_48 : decode cX8_copy 48 = .ok (.iload_n 3, 1) := by decide +kernel
theorem dX8_copy_49 : decode cX8_copy 49 = .ok (.iaload, 1) := by decide +kernel
theorem dX8_copy_50 : decode cX8_copy 50 = .ok (.if_icmp .eq 6, 3) := by decide +kernel
theorem dX8_copy_53 : decode cX8_copy 53 = .ok (.bipush (-13), 2) := by decide +kernel
theorem dX8_copy_55 : decode cX8_copy 55 = .ok (.ireturn, 1) := by decide +kernel
theorem dX8_copy_56 : decode cX8_copy 56 = .ok (.iload 5, 2) := by decide +kernel
theorem dX8_copy_58 : decode cX8_copy 58 = .ok (.ifCond .lt 39, 3) := by decide +kernel
theorem dX8_copy_61 : decode cX8_copy 61 = .ok (.iload_n 2, 1) := by decide +kernel
theorem dX8_copy_62 : decode cX8_copy 62 = .ok (.ifCond .lt 35, 3) := by decide +kernel
theorem dX8_copy_65 : decode cX8_copy 65 = .ok (.iload 4, 2) := by decide +kernel
theorem dX8_copy_67 : decode cX8_copy 67 = .ok (.ifCond .lt 30, 3) := by decide +kernel
theorem dX8_copy_70 : decode cX8_copy 70 = .ok (.iload_n 2, 1) := by decide +kernel
theorem dX8_copy_71 : decode cX8_copy 71 = .ok (.aload_n 0, 1) := by decide +kernel
theorem dX8_copy_72 : decode cX8_copy 72 = .ok (.getfield 57, 3) := by decide +kernel
theorem dX8_copy_75 : decode cX8_copy 75 = .ok (.iload_n 1, 1) := by decide +kernel
theorem dX8_copy_76 : decode cX8_copy 76 = .ok (.iaload, 1) := by decide +kernel
theorem dX8_copy_77 : decode cX8_copy 77 = .ok (.iload 5, 2) := by decide +kernel
theorem dX8_copy_79 : decode cX8_copy 79 = .ok (.isub, 1) := by decide +kernel
theorem dX8_copy_80 : decode cX8_copy 80 = .ok (.if_icmp .gt 17, 3) := by decide +kernel
theorem dX8_copy_83 : decode cX8_copy 83 = .ok (.iload 4, 2) := by decide +kernel
theorem dX8_copy_85 : decode cX8_copy 85 = .ok (.aload_n 0, 1) := by decide +kernel
theorem dX8_copy_86 : decode cX8_copy 86 = .ok (.getfield 57, 3) := by decide +kernel
theorem dX8_copy_89 : decode cX8_copy 89 = .ok (.iload_n 3, 1) := by decide +kernel
theorem dX8_copy_90 : decode cX8_copy 90 = .ok (.iaload, 1) := by decide +kernel
theorem dX8_copy_91 : decode cX8_copy 91 = .ok (.iload 5, 2) := by decide +kernel
theorem dX8_copy_93 : decode cX8_copy 93 = .ok (.isub, 1) := by decide +kernel
theorem dX8_copy_94 : decode cX8_copy 94 = .ok (.if_icmp .le 6, 3) := by decide +kernel
theorem dX8_copy_97 : decode cX8_copy 97 = .ok (.bipush (-12), 2) := by decide +kernel
theorem dX8_copy_99 : decode cX8_copy 99 = .ok (.ireturn, 1) := by decide +kernel
theorem dX8_copy_100 : decode cX8_copy 100 = .ok (.iload_n 1, 1) := by decide +kernel
theorem dX8_copy_101 : decode cX8_copy 101 = .ok (.iload_n 3, 1) := by decide +kernel
theorem dX8_copy_102 : decode cX8_copy 102 = .ok (.if_icmp .ne 13, 3) := by decide +kernel
theorem dX8_copy_105 : decode cX8_copy 105 = .ok (.iload_n 2, 1) := by decide +kernel
theorem dX8_copy_106 : decode cX8_copy 106 = .ok (.iload 4, 2) := by decide +kernel
theorem dX8_copy_108 : decode cX8_copy 108 = .ok (.if_icmp .ge 7, 3) := by decide +kernel
theorem dX8_copy_111 : decode cX8_copy 111 = .ok (.iconst 1, 1) := by decide +kernel
theorem dX8_copy_112 : decode cX8_copy 112 = .ok (.goto 4, 3) := by decide +kernel
theorem dX8_copy_115 : decode cX8_copy 115 = .ok (.iconst 0, 1) := by decide +kernel
theorem dX8_copy_116 : decode cX8_copy 116 = .ok (.istore 6, 2) := by decide +kernel
theorem dX8_copy_118 : decode cX8_copy 118 = .ok (.iconst 0, 1) := by decide +kernel
theorem dX8_copy_119 : decode cX8_copy 119 = .ok (.istore 7, 2) := by decide +kernel
theorem dX8_copy_121 : decode cX8_copy 121 = .ok (.iload 7, 2) := by decide +kernel
theorem dX8_copy_123 : decode cX8_copy 123 = .ok (.iload 5, 2) := by decide +kernel
theorem dX8_copy_125 : decode cX8_copy 125 = .ok (.if_icmp .ge 57, 3) := by decide +kernel
theorem dX8_copy_128 : decode cX8_copy 128 = .ok (.iload 6, 2) := by decide +kernel
theorem dX8_copy_130 : decode cX8_copy 130 = .ok (.ifCond .eq 13, 3) := by decide +kernel
theorem dX8_copy_133 : decode cX8_copy 133 = .ok (.iload 5, 2) := by decide +kernel
theorem dX8_copy_135 : decode cX8_copy 135 = .ok (.iconst 1, 1) := by decide +kernel
theorem dX8_copy_136 : decode cX8_copy 136 = .ok (.isub, 1) := by decide +kernel
theorem dX8_copy_137 : decode cX8_copy 137 = .ok (.iload 7, 2) := by decide +kernel
theorem dX8_copy_139 : decode cX8_copy 139 = .ok (.isub, 1) := by decide +kernel
theorem dX8_copy_140 : decode cX8_copy 140 = .ok (.goto 5, 3) := by decide +kernel
theorem dX8_copy_143 : decode cX8_copy 143 = .ok (.iload 7, 2) := by decide +kernel
theorem dX8_copy_145 : decode cX8_copy 145 = .ok (.istore 8, 2) := by decide +kernel
theorem dX8_copy_147 : decode cX8_copy 147 = .ok (.aload_n 0, 1) := by decide +kernel
theorem dX8_copy_148 : decode cX8_copy 148 = .ok (.getfield 60, 3) := by decide +kernel
theorem dX8_copy_151 : decode cX8_copy 151 = .ok (.bipush 40, 2) := by decide +kernel
theorem dX8_copy_153 : decode cX8_copy 153 = .ok (.iload_n 3, 1) := by decide +kernel
theorem dX8_copy_154 : decode cX8_copy 154 = .ok (.imul, 1) := by decide +kernel
theorem dX8_copy_155 : decode cX8_copy 155 = .ok (.iload 4, 2) := by decide +kernel
theorem dX8_copy_157 : decode cX8_copy 157 = .ok (.iadd, 1) := by decide +kernel
theorem dX8_copy_158 : decode cX8_copy 158 = .ok (.iload 8, 2) := by decide +kernel
theorem dX8_copy_160 : decode cX8_copy 160 = .ok (.iadd, 1) := by decide +kernel
theorem dX8_copy_161 : decode cX8_copy 161 = .ok (.aload_n 0, 1) := by decide +kernel
theorem dX8_copy_162 : decode cX8_copy 162 = .ok (.getfield 60, 3) := by decide +kernel
theorem dX8_copy_165 : decode cX8_copy 165 = .ok (.bipush 40, 2) := by decide +kernel
theorem dX8_copy_167 : decode cX8_copy 167 = .ok (.iload_n 1, 1) := by decide +kernel
theorem dX8_copy_168 : decode cX8_copy 168 = .ok (.imul, 1) := by decide +kernel
theorem dX8_copy_169 : decode cX8_copy 169 = .ok (.iload_n 2, 1) := by decide +kernel
theorem dX8_copy_170 : decode cX8_copy 170 = .ok (.iadd, 1) := by decide +kernel
theorem dX8_copy_171 : decode cX8_copy 171 = .ok (.iload 8, 2) := by decide +kernel
theorem dX8_copy_173 : decode cX8_copy 173 = .ok (.iadd, 1) := by decide +kernel
theorem dX8_copy_174 : decode cX8_copy 174 = .ok (.iaload, 1) := by decide +kernel
theorem dX8_copy_175 : decode cX8_copy 175 = .ok (.iastore, 1) := by decide +kernel
theorem dX8_copy_176 : decode cX8_copy 176 = .ok (.iinc 7 1, 3) := by decide +kernel
theorem dX8_copy_179 : decode cX8_copy 179 = .ok (.goto (-58), 3) := by decide +kernel
theorem dX8_copy_182 : decode cX8_copy 182 = .ok (.iload 5, 2) := by decide +kernel
theorem dX8_copy_184 : decode cX8_copy 184 = .ok (.ireturn, 1) := by decide +kernel
theorem dX8_askers_0 : decode cX8_askers 0 = .ok (.iload_n 1, 1) := by decide +kernel
theorem dX8_askers_1 : decode cX8_askers 1 = .ok (.invokestatic 390, 3) := by decide +kernel
theorem dX8_askers_4 : decode cX8_askers 4 = .ok (.ifCond .eq 28, 3) := by decide +kernel
theorem dX8_askers_7 : decode cX8_askers 7 = .ok (.iload_n 2, 1) := by decide +kernel
theorem dX8_askers_8 : decode cX8_askers 8 = .ok (.i2l, 1) := by decide +kernel
theorem dX8_askers_9 : decode cX8_askers 9 = .ok (.lconst 0, 1) := by decide +kernel
theorem dX8_askers_10 : decode cX8_askers 10 = .ok (.ldc2_w 448, 3) := by decide +kernel
theorem dX8_askers_13 : decode cX8_askers 13 = .ok (.invokestatic 77, 3) := by decide +kernel
theorem dX8_askers_16 : decode cX8_askers 16 = .ok (.ifCond .eq 16, 3) := by decide +kernel
theorem dX8_askers_19 : decode cX8_askers 19 = .ok (.iload 4, 2) := by decide +kernel
theorem dX8_askers_21 : decode cX8_askers 21 = .ok (.i2l, 1) := by decide +kernel
theorem dX8_askers_22 : decode cX8_askers 22 = .ok (.lconst 0, 1) := by decide +kernel
theorem dX8_askers_23 : decode cX8_askers 23 = .ok (.ldc2_w 109, 3) := by decide +kernel
theorem dX8_askers_26 : decode cX8_askers 26 = .ok (.invokestatic 77, 3) := by decide +kernel
theorem dX8_askers_29 : decode cX8_askers 29 = .ok (.ifCond .ne 6, 3) := by decide +kernel
theorem dX8_askers_32 : decode cX8_askers 32 = .ok (.bipush (-2), 2) := by decide +kernel
theorem dX8_askers_34 : decode cX8_askers 34 = .ok (.ireturn, 1) := by decide +kernel
theorem dX8_askers_35 : decode cX8_askers 35 = .ok (.aload_n 0, 1) := by decide +kernel
theorem dX8_askers_36 : decode cX8_askers 36 = .ok (.getfield 50, 3) := by decide +kernel
theorem dX8_askers_39 : decode cX8_askers 39 = .ok (.iload_n 1, 1) := by decide +kernel
theorem dX8_askers_40 : decode cX8_askers 40 = .ok (.baload, 1) := by decide +kernel
theorem dX8_askers_41 : decode cX8_askers 41 = .ok (.ifCond .eq 16, 3) := by decide +kernel
theorem dX8_askers_44 : decode cX8_askers 44 = .ok (.aload_n 0, 1) := by decide +kernel
theorem dX8_askers_45 : decode cX8_askers 45 = .ok (.getfield 54, 3) := by decide +kernel
theorem dX8_askers_48 : decode cX8_askers 48 = .ok (.iload_n 1, 1) := by decide +kernel
theorem dX8_askers_49 : decode cX8_askers 49 = .ok (.iaload, 1) := by decide +kernel
theorem dX8_askers_50 : decode cX8_askers 50 = .ok (.iload_n 2, 1) := by decide +kernel
theorem dX8_askers_51 : decode cX8_askers 51 = .ok (.if_icmp .eq 6, 3) := by decide +kernel
theorem dX8_askers_54 : decode cX8_askers 54 = .ok (.bipush (-13), 2) := by decide +kernel
theorem dX8_askers_56 : decode cX8_askers 56 = .ok (.ireturn, 1) := by decide +kernel
theorem dX8_askers_57 : decode cX8_askers 57 = .ok (.aload_n 0, 1) := by decide +kernel
theorem dX8_askers_58 : decode cX8_askers 58 = .ok (.getfield 50, 3) := by decide +kernel
theorem dX8_askers_61 : decode cX8_askers 61 = .ok (.iload_n 1, 1) := by decide +kernel
theorem dX8_askers_62 : decode cX8_askers 62 = .ok (.baload, 1) := by decide +kernel
theorem dX8_askers_63 : decode cX8_askers 63 = .ok (.ifCond .ne 6, 3) := by decide +kernel
theorem dX8_askers_66 : decode cX8_askers 66 = .ok (.bipush (-11), 2) := by decide +kernel
theorem dX8_askers_68 : decode cX8_askers 68 = .ok (.ireturn, 1) := by decide +kernel
theorem dX8_askers_69 : decode cX8_askers 69 = .ok (.iconst 0, 1) := by decide +kernel
theorem dX8_askers_70 : decode cX8_askers 70 = .ok (.istore 5, 2) := by decide +kernel
theorem dX8_askers_72 : decode cX8_askers 72 = .ok (.iconst 0, 1) := by decide +kernel
theorem dX8_askers_73 : decode cX8_askers 73 = .ok (.istore 6, 2) := by decide +kernel
theorem dX8_askers_75 : decode cX8_askers 75 = .ok (.iload 6, 2) := by decide +kernel
theorem dX8_askers_77 : decode cX8_askers 77 = .ok (.iload 4, 2) := by decide +kernel
theorem dX8_askers_79 : decode cX8_askers 79 = .ok (.if_icmp .ge 79, 3) := by decide +kernel
theorem dX8_askers_82 : decode cX8_askers 82 = .ok (.iload_n 3, 1) := by decide +kernel
theorem dX8_askers_83 : decode cX8_askers 83 = .ok (.ifCond .lt 20, 3) := by decide +kernel
theorem dX8_askers_86 : decode cX8_askers 86 = .ok (.iload_n 3, 1) := by decide +kernel
theorem dX8_askers_87 : decode cX8_askers 87 = .ok (.aload_n 0, 1) := by decide +kernel
theorem dX8_askers_88 : decode cX8_askers 88 = .ok (.getfield 57, 3) := by decide +kernel
theorem dX8_askers_91 : decode cX8_askers 91 = .ok (.iload_n 1, 1) := by decide +kernel
theorem dX8_askers_92 : decode cX8_askers 92 = .ok (.iaload, 1) := by decide +kernel
theorem dX8_askers_93 : decode cX8_askers 93 = .ok (.iconst 2, 1) := by decide +kernel
theorem dX8_askers_94 : decode cX8_askers 94 = .ok (.iload 6, 2) := by decide +kernel
theorem dX8_askers_96 : decode cX8_askers 96 = .ok (.imul, 1) := by decide +kernel
theorem dX8_askers_97 : decode cX8_askers 97 = .ok (.isub, 1) := by decide +kernel
theorem dX8_askers_98 : decode cX8_askers 98 = .ok (.iconst 2, 1) := by decide +kernel
theorem dX8_askers_99 : decode cX8_askers 99 = .ok (.isub, 1) := by decide +kernel
theorem dX8_askers_100 : decode cX8_askers 100 = .ok (.if_icmp .le 6, 3) := by decide +kernel
theorem dX8_askers_103 : decode cX8_askers 103 = .ok (.bipush (-12), 2) := by decide +kernel
theorem dX8_askers_105 : decode cX8_askers 105 = .ok (.ireturn, 1) := by decide +kernel
theorem dX8_askers_106 : decode cX8_askers 106 = .ok (.bipush 40, 2) := by decide +kernel
theorem dX8_askers_108 : decode cX8_askers 108 = .ok (.iload_n 1, 1) := by decide +kernel
theorem dX8_askers_109 : decode cX8_askers 109 = .ok (.imul, 1) := by decide +kernel
theorem dX8_askers_110 : decode cX8_askers 110 = .ok (.iload_n 3, 1) := by decide +kernel
theorem dX8_askers_111 : decode cX8_askers 111 = .ok (.iadd, 1) := by decide +kernel
theorem dX8_askers_112 : decode cX8_askers 112 = .ok (.iconst 2, 1) := by decide +kernel
theorem dX8_askers_113 : decode cX8_askers 113 = .ok (.iload 6, 2) := by decide +kernel
theorem dX8_askers_115 : decode cX8_askers 115 = .ok (.imul, 1) := by decide +kernel
theorem dX8_askers_116 : decode cX8_askers 116 = .ok (.iadd, 1) := by decide +kernel
theorem dX8_askers_117 : decode cX8_askers 117 = .ok (.istore 7, 2) := by decide +kernel
theorem dX8_askers_119 : decode cX8_askers 119 = .ok (.iload 5, 2) := by decide +kernel
theorem dX8_askers_121 : decode cX8_askers 121 = .ok (.aload_n 0, 1) := by decide +kernel
theorem dX8_askers_122 : decode cX8_askers 122 = .ok (.aload_n 0, 1) := by decide +kernel
theorem dX8_askers_123 : decode cX8_askers 123 = .ok (.getfield 60, 3) := by decide +kernel
theorem dX8_askers_126 : decode cX8_askers 126 = .ok (.iload 7, 2) := by decide +kernel
theorem dX8_askers_128 : decode cX8_askers 128 = .ok (.iaload, 1) := by decide +kernel
theorem dX8_askers_129 : decode cX8_askers 129 = .ok (.aload_n 0, 1) := by decide +kernel
theorem dX8_askers_130 : decode cX8_askers 130 = .ok (.getfield 60, 3) := by decide +kernel
theorem dX8_askers_133 : decode cX8_askers 133 = .ok (.iload 7, 2) := by decide +kernel
theorem dX8_askers_135 : decode cX8_askers 135 = .ok (.iconst 1, 1) := by decide +kernel
theorem dX8_askers_136 : decode cX8_askers 136 = .ok (.iadd, 1) := by decide +kernel
theorem dX8_askers_137 : decode cX8_askers 137 = .ok (.iaload, 1) := by decide +kernel
theorem dX8_askers_138 : decode cX8_askers 138 = .ok (.invokevirtual 450, 3) := by decide +kernel
theorem dX8_askers_141 : decode cX8_askers 141 = .ok (.ifCond .lt 7, 3) := by decide +kernel
theorem dX8_askers_144 : decode cX8_askers 144 = .ok (.iconst 1, 1) := by decide +kernel
theorem dX8_askers_145 : decode cX8_askers 145 = .ok (.goto 4, 3) := by decide +kernel
theorem dX8_askers_148 : decode cX8_askers 148 = .ok (.iconst 0, 1) := by decide +kernel
theorem dX8_askers_149 : decode cX8_askers 149 = .ok (.iadd, 1) := by decide +kernel
theorem dX8_askers_150 : decode cX8_askers 150 = .ok (.istore 5, 2) := by decide +kernel
theorem dX8_askers_152 : decode cX8_askers 152 = .ok (.iinc 6 1, 3) := by decide +kernel
theorem dX8_askers_155 : decode cX8_askers 155 = .ok (.goto (-80), 3) := by decide +kernel
theorem dX8_askers_158 : decode cX8_askers 158 = .ok (.iload 5, 2) := by decide +kernel
theorem dX8_askers_160 : decode cX8_askers 160 = .ok (.ireturn, 1) := by decide +kernel
theorem dX8_over_0 : decode cX8_over 0 = .ok (.iload_n 0, 1) := by decide +kernel
theorem dX8_over_1 : decode cX8_over 1 = .ok (.ifCond .ne 7, 3) := by decide +kernel
theorem dX8_over_4 : decode cX8_over 4 = .ok (.iconst (-1), 1) := by decide +kernel
theorem dX8_over_5 : decode cX8_over 5 = .ok (.goto 22, 3) := by decide +kernel
theorem dX8_over_8 : decode cX8_over 8 = .ok (.iload_n 0, 1) := by decide +kernel
theorem dX8_over_9 : decode cX8_over 9 = .ok (.iconst 3, 1) := by decide +kernel
theorem dX8_over_10 : decode cX8_over 10 = .ok (.if_icmp .ne 7, 3) := by decide +kernel
theorem dX8_over_13 : decode cX8_over 13 = .ok (.iconst 1, 1) := by decide +kernel
theorem dX8_over_14 : decode cX8_over 14 = .ok (.goto 13, 3) := by decide +kernel
theorem dX8_over_17 : decode cX8_over 17 = .ok (.iload_n 0, 1) := by decide +kernel
theorem dX8_over_18 : decode cX8_over 18 = .ok (.iconst 4, 1) := by decide +kernel
theorem dX8_over_19 : decode cX8_over 19 = .ok (.if_icmp .ne 7, 3) := by decide +kernel
theorem dX8_over_22 : decode cX8_over 22 = .ok (.iconst 2, 1) := by decide +kernel
theorem dX8_over_23 : decode cX8_over 23 = .ok (.goto 4, 3) := by decide +kernel
theorem dX8_over_26 : decode cX8_over 26 = .ok (.iconst 0, 1) := by decide +kernel
theorem dX8_over_27 : decode cX8_over 27 = .ok (.ireturn, 1) := by decide +kernel
theorem dX8_taken_0 : decode cX8_taken 0 = .ok (.iload_n 2, 1) := by decide +kernel
theorem dX8_taken_1 : decode cX8_taken 1 = .ok (.i2l, 1) := by decide +kernel
theorem dX8_taken_2 : decode cX8_taken 2 = .ok (.lconst 0, 1) := by decide +kernel
theorem dX8_taken_3 : decode cX8_taken 3 = .ok (.ldc2_w 109, 3) := by decide +kernel
theorem dX8_taken_6 : decode cX8_taken 6 = .ok (.invokestatic 77, 3) := by decide +kernel
theorem dX8_taken_9 : decode cX8_taken 9 = .ok (.ifCond .ne 6, 3) := by decide +kernel
theorem dX8_taken_12 : decode cX8_taken 12 = .ok (.bipush (-2), 2) := by decide +kernel
theorem dX8_taken_14 : decode cX8_taken 14 = .ok (.ireturn, 1) := by decide +kernel
theorem dX8_taken_15 : decode cX8_taken 15 = .ok (.aload_n 0, 1) := by decide +kernel
theorem dX8_taken_16 : decode cX8_taken 16 = .ok (.iload_n 1, 1) := by decide +kernel
theorem dX8_taken_17 : decode cX8_taken 17 = .ok (.invokevirtual 89, 3) := by decide +kernel
theorem dX8_taken_20 : decode cX8_taken 20 = .ok (.ifCond .ne 6, 3) := by decide +kernel
theorem dX8_taken_23 : decode cX8_taken 23 = .ok (.bipush (-11), 2) := by decide +kernel
theorem dX8_taken_25 : decode cX8_taken 25 = .ok (.ireturn, 1) := by decide +kernel
theorem dX8_taken_26 : decode cX8_taken 26 = .ok (.aload_n 0, 1) := by decide +kernel
theorem dX8_taken_27 : decode cX8_taken 27 = .ok (.getfield 26, 3) := by decide +kernel
theorem dX8_taken_30 : decode cX8_taken 30 = .ok (.iload_n 1, 1) := by decide +kernel
theorem dX8_taken_31 : decode cX8_taken 31 = .ok (.iaload, 1) := by decide +kernel
theorem dX8_taken_32 : decode cX8_taken 32 = .ok (.istore_n 3, 1) := by decide +kernel
theorem dX8_taken_33 : decode cX8_taken 33 = .ok (.iload_n 3, 1) := by decide +kernel
theorem dX8_taken_34 : decode cX8_taken 34 = .ok (.iconst (-1), 1) := by decide +kernel
theorem dX8_taken_35 : decode cX8_taken 35 = .ok (.if_icmp .eq 16, 3) := by decide +kernel
theorem dX8_taken_38 : decode cX8_taken 38 = .ok (.iload_n 3, 1) := by decide +kernel
theorem dX8_taken_39 : decode cX8_taken 39 = .ok (.iload_n 2, 1) := by decide +kernel
theorem dX8_taken_40 : decode cX8_taken 40 = .ok (.if_icmp .eq 11, 3) := by decide +kernel
theorem dX8_taken_43 : decode cX8_taken 43 = .ok (.iload_n 3, 1) := by decide +kernel
theorem dX8_taken_44 : decode cX8_taken 44 = .ok (.invokestatic 453, 3) := by decide +kernel
theorem dX8_taken_47 : decode cX8_taken 47 = .ok (.istore_n 3, 1) := by decide +kernel
theorem dX8_taken_48 : decode cX8_taken 48 = .ok (.goto (-15), 3) := by decide +kernel
theorem dX8_taken_51 : decode cX8_taken 51 = .ok (.iload_n 3, 1) := by decide +kernel
theorem dX8_taken_52 : decode cX8_taken 52 = .ok (.iload_n 2, 1) := by decide +kernel
theorem dX8_taken_53 : decode cX8_taken 53 = .ok (.if_icmp .ne 14, 3) := by decide +kernel
theorem dX8_taken_56 : decode cX8_taken 56 = .ok (.aload_n 0, 1) := by decide +kernel
theorem dX8_taken_57 : decode cX8_taken 57 = .ok (.getfield 29, 3) := by decide +kernel
theorem dX8_taken_60 : decode cX8_taken 60 = .ok (.iconst 4, 1) := by decide +kernel
theorem dX8_taken_61 : decode cX8_taken 61 = .ok (.iload_n 1, 1) := by decide +kernel
theorem dX8_taken_62 : decode cX8_taken 62 = .ok (.imul, 1) := by decide +kernel
theorem dX8_taken_63 : decode cX8_taken 63 = .ok (.iaload, 1) := by decide +kernel
theorem dX8_taken_64 : decode cX8_taken 64 = .ok (.goto 5, 3) := by decide +kernel
theorem dX8_taken_67 : decode cX8_taken 67 = .ok (.bipush (-13), 2) := by decide +kernel
theorem dX8_taken_69 : decode cX8_taken 69 = .ok (.ireturn, 1) := by decide +kernel
