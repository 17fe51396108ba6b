theorem dX8_force_3 : decode cX8_force 3 = .ok (.aload_n 0, 1) := by decide +kernel
theorem dX8_force_4 : decode cX8_force 4 = .ok (.getfield 71, 3) := by decide +kernel
theorem dX8_force_7 : decode cX8_force 7 = .ok (.iconst 1, 1) := by decide +kernel
theorem dX8_force_8 : decode cX8_force 8 = .ok (.isub, 1) := by decide +kernel
theorem dX8_force_9 : decode cX8_force 9 = .ok (.i2l, 1) := by decide +kernel
theorem dX8_force_10 : decode cX8_force 10 = .ok (.invokestatic 77, 3) := by decide +kernel
theorem dX8_force_13 : decode cX8_force 13 = .ok (.ifCond .ne 6, 3) := by decide +kernel
theorem dX8_force_16 : decode cX8_force 16 = .ok (.bipush (-2), 2) := by decide +kernel
theorem dX8_force_18 : decode cX8_force 18 = .ok (.ireturn, 1) := by decide +kernel
theorem dX8_force_19 : decode cX8_force 19 = .ok (.aload_n 0, 1) := by decide +kernel
theorem dX8_force_20 : decode cX8_force 20 = .ok (.getfield 106, 3) := by decide +kernel
theorem dX8_force_23 : decode cX8_force 23 = .ok (.istore_n 2, 1) := by decide +kernel
theorem dX8_force_24 : decode cX8_force 24 = .ok (.aload_n 0, 1) := by decide +kernel
theorem dX8_force_25 : decode cX8_force 25 = .ok (.iload_n 1, 1) := by decide +kernel
theorem dX8_force_26 : decode cX8_force 26 = .ok (.putfield 106, 3) := by decide +kernel
theorem dX8_force_29 : decode cX8_force 29 = .ok (.iload_n 2, 1) := by decide +kernel
theorem dX8_force_30 : decode cX8_force 30 = .ok (.ireturn, 1) := by decide +kernel
theorem dX8_says_0 : decode cX8_says 0 = .ok (.aload_n 0, 1) := by decide +kernel
theorem dX8_says_1 : decode cX8_says 1 = .ok (.iload_n 3, 1) := by decide +kernel
theorem dX8_says_2 : decode cX8_says 2 = .ok (.putfield 179, 3) := by decide +kernel
theorem dX8_says_5 : decode cX8_says 5 = .ok (.aload_n 0, 1) := by decide +kernel
theorem dX8_says_6 : decode cX8_says 6 = .ok (.iload 4, 2) := by decide +kernel
theorem dX8_says_8 : decode cX8_says 8 = .ok (.putfield 182, 3) := by decide +kernel
theorem dX8_says_11 : decode cX8_says 11 = .ok (.aload_n 0, 1) := by decide +kernel
theorem dX8_says_12 : decode cX8_says 12 = .ok (.iload 5, 2) := by decide +kernel
theorem dX8_says_14 : decode cX8_says 14 = .ok (.putfield 185, 3) := by decide +kernel
theorem dX8_says_17 : decode cX8_says 17 = .ok (.aload_n 0, 1) := by decide +kernel
theorem dX8_says_18 : decode cX8_says 18 = .ok (.aload_n 0, 1) := by decide +kernel
theorem dX8_says_19 : decode cX8_says 19 = .ok (.getfield 29, 3) := by decide +kernel
theorem dX8_says_22 : decode cX8_says 22 = .ok (.iconst 4, 1) := by decide +kernel
theorem dX8_says_23 : decode cX8_says 23 = .ok (.iload_n 2, 1) := by decide +kernel
theorem dX8_says_24 : decode cX8_says 24 = .ok (.imul, 1) := by decide +kernel
theorem dX8_says_25 : decode cX8_says 25 = .ok (.iaload, 1) := by decide +kernel
theorem dX8_says_26 : decode cX8_says 26 = .ok (.putfield 188, 3) := by decide +kernel
theorem dX8_says_29 : decode cX8_says 29 = .ok (.aload_n 0, 1) := by decide +kernel
theorem dX8_says_30 : decode cX8_says 30 = .ok (.aload_n 0, 1) := by decide +kernel
theorem dX8_says_31 : decode cX8_says 31 = .ok (.getfield 103, 3) := by decide +kernel
theorem dX8_says_34 : decode cX8_says 34 = .ok (.putfield 191, 3) := by decide +kernel
theorem dX8_says_37 : decode cX8_says 37 = .ok (.aload_n 0, 1) := by decide +kernel
theorem dX8_says_38 : decode cX8_says 38 = .ok (.aload_n 0, 1) := by decide +kernel
theorem dX8_says_39 : decode cX8_says 39 = .ok (.getfield 29, 3) := by decide +kernel
theorem dX8_says_42 : decode cX8_says 42 = .ok (.iconst 4, 1) := by decide +kernel
theorem dX8_says_43 : decode cX8_says 43 = .ok (.iload_n 2, 1) := by decide +kernel
theorem dX8_says_44 : decode cX8_says 44 = .ok (.imul, 1) := by decide +kernel
theorem dX8_says_45 : decode cX8_says 45 = .ok (.iconst 2, 1) := by decide +kernel
theorem dX8_says_46 : decode cX8_says 46 = .ok (.iadd, 1) := by decide +kernel
theorem dX8_says_47 : decode cX8_says 47 = .ok (.iaload, 1) := by decide +kernel
theorem dX8_says_48 : decode cX8_says 48 = .ok (.invokestatic 63, 3) := by decide +kernel
theorem dX8_says_51 : decode cX8_says 51 = .ok (.putfield 194, 3) := by decide +kernel
theorem dX8_says_54 : decode cX8_says 54 = .ok (.aload_n 0, 1) := by decide +kernel
theorem dX8_says_55 : decode cX8_says 55 = .ok (.aload_n 0, 1) := by decide +kernel
theorem dX8_says_56 : decode cX8_says 56 = .ok (.getfield 106, 3) := by decide +kernel
theorem dX8_says_59 : decode cX8_says 59 = .ok (.iload_n 1, 1) := by decide +kernel
theorem dX8_says_60 : decode cX8_says 60 = .ok (.invokevirtual 324, 3) := by decide +kernel
theorem dX8_says_63 : decode cX8_says 63 = .ok (.iload_n 1, 1) := by decide +kernel
theorem dX8_says_64 : decode cX8_says 64 = .ok (.iconst 2, 1) := by decide +kernel
theorem dX8_says_65 : decode cX8_says 65 = .ok (.if_icmp .ne 7, 3) := by decide +kernel
theorem dX8_says_68 : decode cX8_says 68 = .ok (.iconst 0, 1) := by decide +kernel
theorem dX8_says_69 : decode cX8_says 69 = .ok (.goto 5, 3) := by decide +kernel
theorem dX8_says_72 : decode cX8_says 72 = .ok (.bipush (-99), 2) := by decide +kernel
theorem dX8_says_74 : decode cX8_says 74 = .ok (.bipush 99, 2) := by decide +kernel
theorem dX8_says_76 : decode cX8_says 76 = .ok (.invokestatic 327, 3) := by decide +kernel
theorem dX8_says_79 : decode cX8_says 79 = .ok (.ireturn, 1) := by decide +kernel
theorem dX8_likeAny_0 : decode cX8_likeAny 0 = .ok (.iconst 0, 1) := by decide +kernel
theorem dX8_likeAny_1 : decode cX8_likeAny 1 = .ok (.istore_n 2, 1) := by decide +kernel
theorem dX8_likeAny_2 : decode cX8_likeAny 2 = .ok (.iconst 0, 1) := by decide +kernel
theorem dX8_likeAny_3 : decode cX8_likeAny 3 = .ok (.istore_n 3, 1) := by decide +kernel
theorem dX8_likeAny_4 : decode cX8_likeAny 4 = .ok (.iload_n 3, 1) := by decide +kernel
theorem dX8_likeAny_5 : decode cX8_likeAny 5 = .ok (.bipush 12, 2) := by decide +kernel
theorem dX8_likeAny_7 : decode cX8_likeAny 7 = .ok (.if_icmp .ge 31, 3) := by decide +kernel
theorem dX8_likeAny_10 : decode cX8_likeAny 10 = .ok (.iload_n 2, 1) := by decide +kernel
theorem dX8_likeAny_11 : decode cX8_likeAny 11 = .ok (.iload_n 1, 1) := by decide +kernel
theorem dX8_likeAny_12 : decode cX8_likeAny 12 = .ok (.iload_n 3, 1) := by decide +kernel
theorem dX8_likeAny_13 : decode cX8_likeAny 13 = .ok (.ishr, 1) := by decide +kernel
theorem dX8_likeAny_14 : decode cX8_likeAny 14 = .ok (.iconst 1, 1) := by decide +kernel
theorem dX8_likeAny_15 : decode cX8_likeAny 15 = .ok (.iand, 1) := by decide +kernel
theorem dX8_likeAny_16 : decode cX8_likeAny 16 = .ok (.iconst 1, 1) := by decide +kernel
theorem dX8_likeAny_17 : decode cX8_likeAny 17 = .ok (.if_icmp .ne 12, 3) := by decide +kernel
theorem dX8_likeAny_20 : decode cX8_likeAny 20 = .ok (.aload_n 0, 1) := by decide +kernel
theorem dX8_likeAny_21 : decode cX8_likeAny 21 = .ok (.getfield 23, 3) := by decide +kernel
theorem dX8_likeAny_24 : decode cX8_likeAny 24 = .ok (.iload_n 3, 1) := by decide +kernel
theorem dX8_likeAny_25 : decode cX8_likeAny 25 = .ok (.iaload, 1) := by decide +kernel
theorem dX8_likeAny_26 : decode cX8_likeAny 26 = .ok (.goto 4, 3) := by decide +kernel
theorem dX8_likeAny_29 : decode cX8_likeAny 29 = .ok (.iconst 0, 1) := by decide +kernel
theorem dX8_likeAny_30 : decode cX8_likeAny 30 = .ok (.ior, 1) := by decide +kernel
theorem dX8_likeAny_31 : decode cX8_likeAny 31 = .ok (.istore_n 2, 1) := by decide +kernel
theorem dX8_likeAny_32 : decode cX8_likeAny 32 = .ok (.iinc 3 1, 3) := by decide +kernel
theorem dX8_likeAny_35 : decode cX8_likeAny 35 = .ok (.goto (-31), 3) := by decide +kernel
theorem dX8_likeAny_38 : decode cX8_likeAny 38 = .ok (.iload_n 2, 1) := by decide +kernel
theorem dX8_likeAny_39 : decode cX8_likeAny 39 = .ok (.ireturn, 1) := by decide +kernel
theorem dX8_likeFew_0 : decode cX8_likeFew 0 = .ok (.iconst 0, 1) := by decide +kernel
theorem dX8_likeFew_1 : decode cX8_likeFew 1 = .ok (.istore_n 2, 1) := by decide +kernel
theorem dX8_likeFew_2 : decode cX8_likeFew 2 = .ok (.iconst 0, 1) := by decide +kernel
theorem dX8_likeFew_3 : decode cX8_likeFew 3 = .ok (.istore_n 3, 1) := by decide +kernel
theorem dX8_likeFew_4 : decode cX8_likeFew 4 = .ok (.iload_n 3, 1) := by decide +kernel
theorem dX8_likeFew_5 : decode cX8_likeFew 5 = .ok (.bipush 12, 2) := by decide +kernel
theorem dX8_likeFew_7 : decode cX8_likeFew 7 = .ok (.if_icmp .ge 34, 3) := by decide +kernel
theorem dX8_likeFew_10 : decode cX8_likeFew 10 = .ok (.iload_n 2, 1) := by decide +kernel
theorem dX8_likeFew_11 : decode cX8_likeFew 11 = .ok (.aload_n 0, 1) := by decide +kernel
theorem dX8_likeFew_12 : decode cX8_likeFew 12 = .ok (.getfield 23, 3) := by decide +kernel
theorem dX8_likeFew_15 : decode cX8_likeFew 15 = .ok (.iload_n 3, 1) := by decide +kernel
theorem dX8_likeFew_16 : decode cX8_likeFew 16 = .ok (.iaload, 1) := by decide +kernel
theorem dX8_likeFew_17 : decode cX8_likeFew 17 = .ok (.iload_n 1, 1) := by decide +kernel
theorem dX8_likeFew_18 : decode cX8_likeFew 18 = .ok (.iand, 1) := by decide +kernel
theorem dX8_likeFew_19 : decode cX8_likeFew 19 = .ok (.invokestatic 63, 3) := by decide +kernel
theorem dX8_likeFew_22 : decode cX8_likeFew 22 = .ok (.iconst 2, 1) := by decide +kernel
theorem dX8_likeFew_23 : decode cX8_likeFew 23 = .ok (.if_icmp .ge 7, 3) := by decide +kernel
theorem dX8_likeFew_26 : decode cX8_likeFew 26 = .ok (.iconst 1, 1) := by decide +kernel
theorem dX8_likeFew_27 : decode cX8_likeFew 27 = .ok (.goto 4, 3) := by decide +kernel
theorem dX8_likeFew_30 : decode cX8_likeFew 30 = .ok (.iconst 0, 1) := by decide +kernel
theorem dX8_likeFew_31 : decode cX8_likeFew 31 = .ok (.iload_n 3, 1) := by decide +kernel
theorem dX8_likeFew_32 : decode cX8_likeFew 32 = .ok (.ishl, 1) := by decide +kernel
theorem dX8_likeFew_33 : decode cX8_likeFew 33 = .ok (.ior, 1) := by decide +kernel
theorem dX8_likeFew_34 : decode cX8_likeFew 34 = .ok (.istore_n 2, 1) := by decide +kernel
theorem dX8_likeFew_35 : decode cX8_likeFew 35 = .ok (.iinc 3 1, 3) := by decide +kernel
theorem dX8_likeFew_38 : decode cX8_likeFew 38 = .ok (.goto (-34), 3) := by decide +kernel
theorem dX8_likeFew_41 : decode cX8_likeFew 41 = .ok (.iload_n 2, 1) := by decide +kernel
theorem dX8_likeFew_42 : decode cX8_likeFew 42 = .ok (.ireturn, 1) := by decide +kernel
theorem dX8_nextHad_0 : decode cX8_nextHad 0 = .ok (.aload_n 0, 1) := by decide +kernel
theorem dX8_nextHad_1 : decode cX8_nextHad 1 = .ok (.getfield 74, 3) := by decide +kernel
theorem dX8_nextHad_4 : decode cX8_nextHad 4 = .ok (.iconst 1, 1) := by decide +kernel
theorem dX8_nextHad_5 : decode cX8_nextHad 5 = .ok (.if_icmp .ne 7, 3) := by decide +kernel
theorem dX8_nextHad_8 : decode cX8_nextHad 8 = .ok (.iconst 0, 1) := by decide +kernel
theorem dX8_nextHad_9 : decode cX8_nextHad 9 = .ok (.goto 29, 3) := by decide +kernel
theorem dX8_nextHad_12 : decode cX8_nextHad 12 = .ok (.aload_n 0, 1) := by decide +kernel
theorem dX8_nextHad_13 : decode cX8_nextHad 13 = .ok (.getfield 29, 3) := by decide +kernel
theorem dX8_nextHad_16 : decode cX8_nextHad 16 = .ok (.iconst 4, 1) := by decide +kernel
theorem dX8_nextHad_17 : decode cX8_nextHad 17 = .ok (.iload_n 1, 1) := by decide +kernel
theorem dX8_nextHad_18 : decode cX8_nextHad 18 = .ok (.iconst 1, 1) := by decide +kernel
theorem dX8_nextHad_19 : decode cX8_nextHad 19 = .ok (.iadd, 1) := by decide +kernel
theorem dX8_nextHad_20 : decode cX8_nextHad 20 = .ok (.aload_n 0, 1) := by decide +kernel
theorem dX8_nextHad_21 : decode cX8_nextHad 21 = .ok (.getfield 74, 3) := by decide +kernel
theorem dX8_nextHad_24 : decode cX8_nextHad 24 = .ok (.if_icmp .ne 7, 3) := by decide +kernel
theorem dX8_nextHad_27 : decode cX8_nextHad 27 = .ok (.iconst 0, 1) := by decide +kernel
theorem dX8_nextHad_28 : decode cX8_nextHad 28 = .ok (.goto 6, 3) := by decide +kernel
theorem dX8_nextHad_31 : decode cX8_nextHad 31 = .ok (.iload_n 1, 1) := by decide +kernel
theorem dX8_nextHad_32 : decode cX8_nextHad 32 = .ok (.iconst 1, 1) := by decide +kernel
theorem dX8_nextHad_33 : decode cX8_nextHad 33 = .ok (.iadd, 1) := by decide +kernel
theorem dX8_nextHad_34 : decode cX8_nextHad 34 = .ok (.imul, 1) := by decide +kernel
theorem dX8_nextHad_35 : decode cX8_nextHad 35 = .ok (.iconst 2, 1) := by decide +kernel
theorem dX8_nextHad_36 : decode cX8_nextHad 36 = .ok (.iadd, 1) := by decide +kernel
theorem dX8_nextHad_37 : decode cX8_nextHad 37 = .ok (.iaload, 1) := by decide +kernel
theorem dX8_nextHad_38 : decode cX8_nextHad 38 = .ok (.ireturn, 1) := by decide +kernel
theorem dX8_openTo_0 : decode cX8_openTo 0 = .ok (.aload_n 0, 1) := by decide +kernel
theorem dX8_openTo_1 : decode cX8_openTo 1 = .ok (.getfield 26, 3) := by decide +kernel
theorem dX8_openTo_4 : decode cX8_openTo 4 = .ok (.iload_n 1, 1) := by decide +kernel
theorem dX8_openTo_5 : decode cX8_openTo 5 = .ok (.iaload, 1) := by decide +kernel
theorem dX8_openTo_6 : decode cX8_openTo 6 = .ok (.istore_n 3, 1) := by decide +kernel
theorem dX8_openTo_7 : decode cX8_openTo 7 = .ok (.sipush 4095, 3) := by decide +kernel
theorem dX8_openTo_10 : decode cX8_openTo 10 = .ok (.iload_n 2, 1) := by decide +kernel
theorem dX8_openTo_11 : decode cX8_openTo 11 = .ok (.iconst (-1), 1) := by decide +kernel
theorem dX8_openTo_12 : decode cX8_openTo 12 = .ok (.ixor, 1) := by decide +kernel
theorem dX8_openTo_13 : decode cX8_openTo 13 = .ok (.iand, 1) := by decide +kernel
theorem dX8_openTo_14 : decode cX8_openTo 14 = .ok (.istore 4, 2) := by decide +kernel
theorem dX8_openTo_16 : decode cX8_openTo 16 = .ok (.iload_n 3, 1) := by decide +kernel
theorem dX8_openTo_17 : decode cX8_openTo 17 = .ok (.iconst 3, 1) := by decide +kernel
theorem dX8_openTo_18 : decode cX8_openTo 18 = .ok (.if_icmp .ne 12, 3) := by decide +kernel
theorem dX8_openTo_21 : decode cX8_openTo 21 = .ok (.iload 4, 2) := by decide +kernel
theorem dX8_openTo_23 : decode cX8_openTo 23 = .ok (.aload_n 0, 1) := by decide +kernel
theorem dX8_openTo_24 : decode cX8_openTo 24 = .ok (.iload_n 2, 1) := by decide +kernel
theorem dX8_openTo_25 : decode cX8_openTo 25 = .ok (.invokevirtual 331, 3) := by decide +kernel
theorem dX8_openTo_28 : decode cX8_openTo 28 = .ok (.iand, 1) := by decide +kernel
theorem dX8_openTo_29 : decode cX8_openTo 29 = .ok (.ireturn, 1) := by decide +kernel
theorem dX8_openTo_30 : decode cX8_openTo 30 = .ok (.iload 4, 2) := by decide +kernel
theorem dX8_openTo_32 : decode cX8_openTo 32 = .ok (.aload_n 0, 1) := by decide +kernel
theorem dX8_openTo_33 : decode cX8_openTo 33 = .ok (.getfield 29, 3) := by decide +kernel
theorem dX8_openTo_36 : decode cX8_openTo 36 = .ok (.iconst 4, 1) := by decide +kernel
theorem dX8_openTo_37 : decode cX8_openTo 37 = .ok (.iload_n 1, 1) := by decide +kernel
theorem dX8_openTo_38 : decode cX8_openTo 38 = .ok (.imul, 1) := by decide +kernel
theorem dX8_openTo_39 : decode cX8_openTo 39 = .ok (.iconst 1, 1) := by decide +kernel
theorem dX8_openTo_40 : decode cX8_openTo 40 = .ok (.iadd, 1) := by decide +kernel
theorem dX8_openTo_41 : decode cX8_openTo 41 = .ok (.iaload, 1) := by decide +kernel
theorem dX8_openTo_42 : decode cX8_openTo 42 = .ok (.iconst (-1), 1) := by decide +kernel
theorem dX8_openTo_43 : decode cX8_openTo 43 = .ok (.ixor, 1) := by decide +kernel
theorem dX8_openTo_44 : decode cX8_openTo 44 = .ok (.iand, 1) := by decide +kernel
theorem dX8_openTo_45 : decode cX8_openTo 45 = .ok (.istore 4, 2) := by decide +kernel
theorem dX8_openTo_47 : decode cX8_openTo 47 = .ok (.iload_n 3, 1) := by decide +kernel
theorem dX8_openTo_48 : decode cX8_openTo 48 = .ok (.iconst 1, 1) := by decide +kernel
theorem dX8_openTo_49 : decode cX8_openTo 49 = .ok (.if_icmp .ne 12, 3) := by decide +kernel
theorem dX8_openTo_52 : decode cX8_openTo 52 = .ok (.iload 4, 2) := by decide +kernel
theorem dX8_openTo_54 : decode cX8_openTo 54 = .ok (.aload_n 0, 1) := by decide +kernel
theorem dX8_openTo_55 : decode cX8_openTo 55 = .ok (.iload_n 2, 1) := by decide +kernel
theorem dX8_openTo_56 : decode cX8_openTo 56 = .ok (.invokevirtual 331, 3) := by decide +kernel
theorem dX8_openTo_59 : decode cX8_openTo 59 = .ok (.iand, 1) := by decide +kernel
theorem dX8_openTo_60 : decode cX8_openTo 60 = .ok (.ireturn, 1) := by decide +kernel
theorem dX8_openTo_61 : decode cX8_openTo 61 = .ok (.iload 4, 2) := by decide +kernel
theorem dX8_openTo_63 : decode cX8_openTo 63 = .ok (.aload_n 0, 1) := by decide +kernel
theorem dX8_openTo_64 : decode cX8_openTo 64 = .ok (.iload_n 2, 1) := by decide +kernel
theorem dX8_openTo_65 : decode cX8_openTo 65 = .ok (.invokevirtual 334, 3) := by decide +kernel
theorem dX8_openTo_68 : decode cX8_openTo 68 = .ok (.iconst (-1), 1) := by decide +kernel
theorem dX8_openTo_69 : decode cX8_openTo 69 = .ok (.ixor, 1) := by decide +kernel
theorem dX8_openTo_70 : decode cX8_openTo 70 = .ok (.iand, 1) := by decide +kernel
theorem dX8_openTo_71 : decode cX8_openTo 71 = .ok (.istore 4, 2) := by decide +kernel
theorem dX8_openTo_73 : decode cX8_openTo 73 = .ok (.iload_n 3, 1) := by decide +kernel
theorem dX8_openTo_74 : decode cX8_openTo 74 = .ok (.iconst 2, 1) := by decide +kernel
theorem dX8_openTo_75 : decode cX8_openTo 75 = .ok (.if_icmp .eq 8, 3) := by decide +kernel
theorem dX8_openTo_78 : decode cX8_openTo 78 = .ok (.iload_n 3, 1) := by decide +kernel
theorem dX8_openTo_79 : decode cX8_openTo 79 = .ok (.iconst 4, 1) := by decide +kernel
theorem dX8_openTo_80 : decode cX8_openTo 80 = .ok (.if_icmp .ne 15, 3) := by decide +kernel
theorem dX8_openTo_83 : decode cX8_openTo 83 = .ok (.iload 4, 2) := by decide +kernel
theorem dX8_openTo_85 : decode cX8_openTo 85 = .ok (.aload_n 0, 1) := by decide +kernel
theorem dX8_openTo_86 : decode cX8_openTo 86 = .ok (.iload_n 1, 1) := by decide +kernel
theorem dX8_openTo_87 : decode cX8_openTo 87 = .ok (.invokevirtual 337, 3) := by decide +kernel
theorem dX8_openTo_90 : decode cX8_openTo 90 = .ok (.iconst (-1), 1) := by decide +kernel
theorem dX8_openTo_91 : decode cX8_openTo 91 = .ok (.ixor, 1) := by decide +kernel
theorem dX8_openTo_92 : decode cX8_openTo 92 = .ok (.iand, 1) := by decide +kernel
theorem dX8_openTo_93 : decode cX8_openTo 93 = .ok (.istore 4, 2) := by decide +kernel
theorem dX8_openTo_95 : decode cX8_openTo 95 = .ok (.iload_n 3, 1) := by decide +kernel
theorem dX8_openTo_96 : decode cX8_openTo 96 = .ok (.iconst 4, 1) := by decide +kernel
theorem dX8_openTo_97 : decode cX8_openTo 97 = .ok (.if_icmp .ne 20, 3) := by decide +kernel
theorem dX8_openTo_100 : decode cX8_openTo 100 = .ok (.iload 4, 2) := by decide +kernel
theorem dX8_openTo_102 : decode cX8_openTo 102 = .ok (.aload_n 0, 1) := by decide +kernel
theorem dX8_openTo_103 : decode cX8_openTo 103 = .ok (.aload_n 0, 1) := by decide +kernel
theorem dX8_openTo_104 : decode cX8_openTo 104 = .ok (.iload_n 2, 1) := by decide +kernel
theorem dX8_openTo_105 : decode cX8_openTo 105 = .ok (.invokevirtual 334, 3) := by decide +kernel
theorem dX8_openTo_108 : decode cX8_openTo 108 = .ok (.invokevirtual 334, 3) := by decide +kernel
theorem dX8_openTo_111 : decode cX8_openTo 111 = .ok (.iconst (-1), 1) := by decide +kernel
theorem dX8_openTo_112 : decode cX8_openTo 112 = .ok (.ixor, 1) := by decide +kernel
theorem dX8_openTo_113 : decode cX8_openTo 113 = .ok (.iand, 1) := by decide +kernel
theorem dX8_openTo_114 : decode cX8_openTo 114 = .ok (.goto 28, 3) := by decide +kernel
theorem dX8_openTo_117 : decode cX8_openTo 117 = .ok (.iload_n 3, 1) := by decide +kernel
theorem dX8_openTo_118 : decode cX8_openTo 118 = .ok (.iconst 5, 1) := by decide +kernel
theorem dX8_openTo_119 : decode cX8_openTo 119 = .ok (.if_icmp .ne 21, 3) := by decide +kernel
theorem dX8_openTo_122 : decode cX8_openTo 122 = .ok (.iload 4, 2) := by decide +kernel
theorem dX8_openTo_124 : decode cX8_openTo 124 = .ok (.aload_n 0, 1) := by decide +kernel
theorem dX8_openTo_125 : decode cX8_openTo 125 = .ok (.getfield 29, 3) := by decide +kernel
theorem dX8_openTo_128 : decode cX8_openTo 128 = .ok (.iconst 4, 1) := by decide +kernel
theorem dX8_openTo_129 : decode cX8_openTo 129 = .ok (.iload_n 1, 1) := by decide +kernel
theorem dX8_openTo_130 : decode cX8_openTo 130 = .ok (.imul, 1) := by decide +kernel
theorem dX8_openTo_131 : decode cX8_openTo 131 = .ok (.iconst 2, 1) := by decide +kernel
theorem dX8_openTo_132 : decode cX8_openTo 132 = .ok (.iadd, 1) := by decide +kernel
theorem dX8_openTo_133 : decode cX8_openTo 133 = .ok (.iaload, 1) := by decide +kernel
theorem dX8_openTo_134 : decode cX8_openTo 134 = .ok (.iconst (-1), 1) := by decide +kernel
theorem dX8_openTo_135 : decode cX8_openTo 135 = .ok (.ixor, 1) := by decide +kernel
theorem dX8_openTo_136 : decode cX8_openTo 136 = .ok (.iand, 1) := by decide +kernel
theorem dX8_openTo_137 : decode cX8_openTo 137 = .ok (.goto 5, 3) := by decide +kernel
theorem dX8_openTo_140 : decode cX8_openTo 140 = .ok (.iload 4, 2) := by decide +kernel
theorem dX8_openTo_142 : decode cX8_openTo 142 = .ok (.ireturn, 1) := by decide +kernel
theorem dX8_modulo_0 : decode cX8_modulo 0 = .ok (.iload_n 0, 1) := by decide +kernel
theorem dX8_modulo_1 : decode cX8_modulo 1 = .ok (.iload_n 1, 1) := by decide +kernel
theorem dX8_modulo_2 : decode cX8_modulo 2 = .ok (.irem, 1) := by decide +kernel
theorem dX8_modulo_3 : decode cX8_modulo 3 = .ok (.ifCond .ge 11, 3) := by decide +kernel
theorem dX8_modulo_6 : decode cX8_modulo 6 = .ok (.iload_n 0, 1) := by decide +kernel
theorem dX8_modulo_7 : decode cX8_modulo 7 = .ok (.iload_n 1, 1) := by decide +kernel
theorem dX8_modulo_8 : decode cX8_modulo 8 = .ok (.irem, 1) := by decide +kernel
theorem dX8_modulo_9 : decode cX8_modulo 9 = .ok (.iload_n 1, 1) := by decide +kernel
theorem dX8_modulo_10 : decode cX8_modulo 10 = .ok (.iadd, 1) := by decide +kernel
theorem dX8_modulo_11 : decode cX8_modulo 11 = .ok (.goto 6, 3) := by decide +kernel
theorem dX8_modulo_14 : decode cX8_modulo 14 = .ok (.iload_n 0, 1) := by decide +kernel
theorem dX8_modulo_15 : decode cX8_modulo 15 = .ok (.iload_n 1, 1) := by decide +kernel
theorem dX8_modulo_16 : decode cX8_modulo 16 = .ok (.irem, 1) := by decide +kernel
theorem dX8_modulo_17 : decode cX8_modulo 17 = .ok (.ireturn, 1) := by decide +kernel
theorem dX8_given_0 : decode cX8_given 0 = .ok (.aload_n 0, 1) := by decide +kernel
theorem dX8_given_1 : decode cX8_given 1 = .ok (.iload_n 1, 1) := by decide +kernel
theorem dX8_given_2 : decode cX8_given 2 = .ok (.iload_n 2, 1) := by decide +kernel
theorem dX8_given_3 : decode cX8_given 3 = .ok (.invokevirtual 340, 3) := by decide +kernel
theorem dX8_given_6 : decode cX8_given 6 = .ok (.istore_n 3, 1) := by decide +kernel
theorem dX8_given_7 : decode cX8_given 7 = .ok (.iload_n 3, 1) := by decide +kernel
theorem dX8_given_8 : decode cX8_given 8 = .ok (.ifCond .ne 5, 3) := by decide +kernel
theorem dX8_given_11 : decode cX8_given 11 = .ok (.iconst (-1), 1) := by decide +kernel
theorem dX8_given_12 : decode cX8_given 12 = .ok (.ireturn, 1) := by decide +kernel
theorem dX8_given_13 : decode cX8_given 13 = .ok (.iload_n 3, 1) := by decide +kernel
theorem dX8_given_14 : decode cX8_given 14 = .ok (.invokestatic 63, 3) := by decide +kernel
theorem dX8_given_17 : decode cX8_given 17 = .ok (.istore 4, 2) := by decide +kernel
theorem dX8_given_19 : decode cX8_given 19 = .ok (.aload_n 0, 1) := by decide +kernel
theorem dX8_given_20 : decode cX8_given 20 = .ok (.getfield 26, 3) := by decide +kernel
theorem dX8_given_23 : decode cX8_given 23 = .ok (.iload_n 1, 1) := by decide +kernel
theorem dX8_given_24 : decode cX8_given 24 = .ok (.iaload, 1) := by decide +kernel
theorem dX8_given_25 : decode cX8_given 25 = .ok (.istore 5, 2) := by decide +kernel
theorem dX8_given_27 : decode cX8_given 27 = .ok (.iload 5, 2) := by decide +kernel
theorem dX8_given_29 : decode cX8_given 29 = .ok (.iconst 2, 1) := by decide +kernel
theorem dX8_given_30 : decode cX8_given 30 = .ok (.if_icmp .eq 19, 3) := by decide +kernel
theorem dX8_given_33 : decode cX8_given 33 = .ok (.iload 5, 2) := by decide +kernel
theorem dX8_given_35 : decode cX8_given 35 = .ok (.iconst 4, 1) := by decide +kernel
theorem dX8_given_36 : decode cX8_given 36 = .ok (.if_icmp .ne 17, 3) := by decide +kernel
theorem dX8_given_39 : decode cX8_given 39 = .ok (.aload_n 0, 1) := by decide +kernel
theorem dX8_given_40 : decode cX8_given 40 = .ok (.getfield 103, 3) := by decide +kernel
theorem dX8_given_43 : decode cX8_given 43 = .ok (.iconst 2, 1) := by decide +kernel
theorem dX8_given_44 : decode cX8_given 44 = .ok (.irem, 1) := by decide +kernel
theorem dX8_given_45 : decode cX8_given 45 = .ok (.iconst 1, 1) := by decide +kernel
theorem dX8_given_46 : decode cX8_given 46 = .ok (.if_icmp .ne 7, 3) := by decide +kernel
theorem dX8_given_49 : decode cX8_given 49 = .ok (.iconst 1, 1) := by decide +kernel
theorem dX8_given_50 : decode cX8_given 50 = .ok (.goto 4, 3) := by decide +kernel
theorem dX8_given_53 : decode cX8_given 53 = .ok (.iconst 0, 1) := by decide +kernel
theorem dX8_given_54 : decode cX8_given 54 = .ok (.istore 6, 2) := by decide +kernel
theorem dX8_given_56 : decode cX8_given 56 = .ok (.iload 6, 2) := by decide +kernel
theorem dX8_given_58 : decode cX8_given 58 = .ok (.ifCond .eq 10, 3) := by decide +kernel
theorem dX8_given_61 : decode cX8_given 61 = .ok (.iload 4, 2) := by decide +kernel
theorem dX8_given_63 : decode cX8_given 63 = .ok (.iconst 1, 1) := by decide +kernel
theorem dX8_given_64 : decode cX8_given 64 = .ok (.isub, 1) := by decide +kernel
theorem dX8_given_65 : decode cX8_given 65 = .ok (.goto 51, 3) := by decide +kernel
theorem dX8_given_68 : decode cX8_given 68 = .ok (.iload 5, 2) := by decide +kernel
theorem dX8_given_70 : decode cX8_given 70 = .ok (.iconst 1, 1) := by decide +kernel
theorem dX8_given_71 : decode cX8_given 71 = .ok (.if_icmp .ne 7, 3) := by decide +kernel
theorem dX8_given_74 : decode cX8_given 74 = .ok (.iconst 0, 1) := by decide +kernel
theorem dX8_given_75 : decode cX8_given 75 = .ok (.goto 41, 3) := by decide +kernel
theorem dX8_given_78 : decode cX8_given 78 = .ok (.iload 5, 2) := by decide +kernel
theorem dX8_given_80 : decode cX8_given 80 = .ok (.iconst 3, 1) := by decide +kernel
theorem dX8_given_81 : decode cX8_given 81 = .ok (.if_icmp .ne 17, 3) := by decide +kernel
theorem dX8_given_84 : decode cX8_given 84 = .ok (.aload_n 0, 1) := by decide +kernel
theorem dX8_given_85 : decode cX8_given 85 = .ok (.getfield 29, 3) := by decide +kernel
theorem dX8_given_88 : decode cX8_given 88 = .ok (.iconst 4, 1) := by decide +kernel
theorem dX8_given_89 : decode cX8_given 89 = .ok (.iload_n 1, 1) := by decide +kernel
theorem dX8_given_90 : decode cX8_given 90 = .ok (.imul, 1) := by decide +kernel
theorem dX8_given_91 : decode cX8_given 91 = .ok (.iaload, 1) := by decide +kernel
theorem dX8_given_92 : decode cX8_given 92 = .ok (.iload 4, 2) := by decide +kernel
theorem dX8_given_94 : decode cX8_given 94 = .ok (.irem, 1) := by decide +kernel
theorem dX8_given_95 : decode cX8_given 95 = .ok (.goto 21, 3) := by decide +kernel
theorem dX8_given_98 : decode cX8_given 98 = .ok (.aload_n 0, 1) := by decide +kernel
theorem dX8_given_99 : decode cX8_given 99 = .ok (.iconst 0, 1) := by decide +kernel
theorem dX8_given_100 : decode cX8_given 100 = .ok (.iload_n 1, 1) := by decide +kernel
theorem dX8_given_101 : decode cX8_given 101 = .ok (.iconst 0, 1) := by decide +kernel
theorem dX8_given_102 : decode cX8_given 102 = .ok (.iload_n 2, 1) := by decide +kernel
theorem dX8_given_103 : decode cX8_given 103 = .ok (.invokestatic 63, 3) := by decide +kernel
theorem dX8_given_106 : decode cX8_given 106 = .ok (.iload 4, 2) := by decide +kernel
theorem dX8_given_108 : decode cX8_given 108 = .ok (.invokevirtual 343, 3) := by decide +kernel
theorem dX8_given_111 : decode cX8_given 111 = .ok (.iload 4, 2) := by decide +kernel
theorem dX8_given_113 : decode cX8_given 113 = .ok (.invokestatic 347, 3) := by decide +kernel
theorem dX8_given_116 : decode cX8_given 116 = .ok (.istore 7, 2) := by decide +kernel
theorem dX8_given_118 : decode cX8_given 118 = .ok (.iconst 0, 1) := by decide +kernel
theorem dX8_given_119 : decode cX8_given 119 = .ok (.istore 8, 2) := by decide +kernel
theorem dX8_given_121 : decode cX8_given 121 = .ok (.iload 7, 2) := by decide +kernel
theorem dX8_given_123 : decode cX8_given 123 = .ok (.istore 9, 2) := by decide +kernel
theorem dX8_given_125 : decode cX8_given 125 = .ok (.iload 9, 2) := by decide +kernel
theorem dX8_given_127 : decode cX8_given 127 = .ok (.ifCond .gt 12, 3) := by decide +kernel
theorem dX8_given_130 : decode cX8_given 130 = .ok (.iload_n 3, 1) := by decide +kernel
theorem dX8_given_131 : decode cX8_given 131 = .ok (.iload 8, 2) := by decide +kernel
theorem dX8_given_133 : decode cX8_given 133 = .ok (.ishr, 1) := by decide +kernel
theorem dX8_given_134 : decode cX8_given 134 = .ok (.iconst 1, 1) := by decide +kernel
theorem dX8_given_135 : decode cX8_given 135 = .ok (.iand, 1) := by decide +kernel
theorem dX8_given_136 : decode cX8_given 136 = .ok (.ifCond .ne 20, 3) := by decide +kernel
theorem dX8_given_139 : decode cX8_given 139 = .ok (.iload 9, 2) := by decide +kernel
theorem dX8_given_141 : decode cX8_given 141 = .ok (.iload_n 3, 1) := by decide +kernel
theorem dX8_given_142 : decode cX8_given 142 = .ok (.iload 8, 2) := by decide +kernel
theorem dX8_given_144 : decode cX8_given 144 = .ok (.ishr, 1) := by decide +kernel
theorem dX8_given_145 : decode cX8_given 145 = .ok (.iconst 1, 1) := by decide +kernel
theorem dX8_given_146 : decode cX8_given 146 = .ok (.iand, 1) := by decide +kernel
theorem dX8_given_147 : decode cX8_given 147 = .ok (.isub, 1) := by decide +kernel
theorem dX8_given_148 : decode cX8_given 148 = .ok (.istore 9, 2) := by decide +kernel
theorem dX8_given_150 : decode cX8_given 150 = .ok (.iinc 8 1, 3) := by decide +kernel
theorem dX8_given_153 : decode cX8_given 153 = .ok (.goto (-28), 3) := by decide +kernel
theorem dX8_given_156 : decode cX8_given 156 = .ok (.iload 8, 2) := by decide +kernel
theorem dX8_given_158 : decode cX8_given 158 = .ok (.ireturn, 1) := by decide +kernel
theorem dX8_shutsBy_0 : decode cX8_shutsBy 0 = .ok (.aload_n 0, 1) := by decide +kernel
theorem dX8_shutsBy_1 : decode cX8_shutsBy 1 = .ok (.getfield 26, 3) := by decide +kernel
theorem dX8_shutsBy_4 : decode cX8_shutsBy 4 = .ok (.iload_n 1, 1) := by decide +kernel
theorem dX8_shutsBy_5 : decode cX8_shutsBy 5 = .ok (.iaload, 1) := by decide +kernel
theorem dX8_shutsBy_6 : decode cX8_shutsBy 6 = .ok (.istore_n 3, 1) := by decide +kernel
theorem dX8_shutsBy_7 : decode cX8_shutsBy 7 = .ok (.iload_n 3, 1) := by decide +kernel
theorem dX8_shutsBy_8 : decode cX8_shutsBy 8 = .ok (.iconst 5, 1) := by decide +kernel
theorem dX8_shutsBy_9 : decode cX8_shutsBy 9 = .ok (.if_icmp .ne 7, 3) := by decide +kernel
theorem dX8_shutsBy_12 : decode cX8_shutsBy 12 = .ok (.iconst 0, 1) := by decide +kernel
theorem dX8_shutsBy_13 : decode cX8_shutsBy 13 = .ok (.goto 35, 3) := by decide +kernel
theorem dX8_shutsBy_16 : decode cX8_shutsBy 16 = .ok (.iload_n 3, 1) := by decide +kernel
theorem dX8_shutsBy_17 : decode cX8_shutsBy 17 = .ok (.iconst 1, 1) := by decide +kernel
theorem dX8_shutsBy_18 : decode cX8_shutsBy 18 = .ok (.if_icmp .eq 8, 3) := by decide +kernel
theorem dX8_shutsBy_21 : decode cX8_shutsBy 21 = .ok (.iload_n 3, 1) := by decide +kernel
theorem dX8_shutsBy_22 : decode cX8_shutsBy 22 = .ok (.iconst 3, 1) := by decide +kernel
theorem dX8_shutsBy_23 : decode cX8_shutsBy 23 = .ok (.if_icmp .ne 10, 3) := by decide +kernel
theorem dX8_shutsBy_26 : decode cX8_shutsBy 26 = .ok (.iload_n 2, 1) := by decide +kernel
theorem dX8_shutsBy_27 : decode cX8_shutsBy 27 = .ok (.iload_n 2, 1) := by decide +kernel
theorem dX8_shutsBy_28 : decode cX8_shutsBy 28 = .ok (.ineg, 1) := by decide +kernel
theorem dX8_shutsBy_29 : decode cX8_shutsBy 29 = .ok (.iand, 1) := by decide +kernel
theorem dX8_shutsBy_30 : decode cX8_shutsBy 30 = .ok (.goto 18, 3) := by decide +kernel
theorem dX8_shutsBy_33 : decode cX8_shutsBy 33 = .ok (.iload_n 3, 1) := by decide +kernel
theorem dX8_shutsBy_34 : decode cX8_shutsBy 34 = .ok (.ifCond .ne 7, 3) := by decide +kernel
theorem dX8_shutsBy_37 : decode cX8_shutsBy 37 = .ok (.iload_n 2, 1) := by decide +kernel
theorem dX8_shutsBy_38 : decode cX8_shutsBy 38 = .ok (.goto 10, 3) := by decide +kernel
theorem dX8_shutsBy_41 : decode cX8_shutsBy 41 = .ok (.iload_n 2, 1) := by decide +kernel
theorem dX8_shutsBy_42 : decode cX8_shutsBy 42 = .ok (.aload_n 0, 1) := by decide +kernel
theorem dX8_shutsBy_43 : decode cX8_shutsBy 43 = .ok (.iload_n 2, 1) := by decide +kernel
theorem dX8_shutsBy_44 : decode cX8_shutsBy 44 = .ok (.invokevirtual 334, 3) := by decide +kernel
theorem dX8_shutsBy_47 : decode cX8_shutsBy 47 = .ok (.ior, 1) := by decide +kernel
theorem dX8_shutsBy_48 : decode cX8_shutsBy 48 = .ok (.ireturn, 1) := by decide +kernel
theorem dX8_costsOf_0 : decode cX8_costsOf 0 = .ok (.aload_n 0, 1) := by decide +kernel
theorem dX8_costsOf_1 : decode cX8_costsOf 1 = .ok (.iconst 2, 1) := by decide +kernel
theorem dX8_costsOf_2 : decode cX8_costsOf 2 = .ok (.iload_n 1, 1) := by decide +kernel
theorem dX8_costsOf_3 : decode cX8_costsOf 3 = .ok (.iconst 0, 1) := by decide +kernel
theorem dX8_costsOf_4 : decode cX8_costsOf 4 = .ok (.iload_n 2, 1) := by decide +kernel
theorem dX8_costsOf_5 : decode cX8_costsOf 5 = .ok (.invokestatic 63, 3) := by decide +kernel
theorem dX8_costsOf_8 : decode cX8_costsOf 8 = .ok (.iconst 0, 1) := by decide +kernel
theorem dX8_costsOf_9 : decode cX8_costsOf 9 = .ok (.invokevirtual 343, 3) := by decide +kernel
theorem dX8_costsOf_12 : decode cX8_costsOf 12 = .ok (.ireturn, 1) := by decide +kernel
theorem dX8_gladOf_0 : decode cX8_gladOf 0 = .ok (.aload_n 0, 1) := by decide +kernel
theorem dX8_gladOf_1 : decode cX8_gladOf 1 = .ok (.getfield 26, 3) := by decide +kernel
theorem dX8_gladOf_4 : decode cX8_gladOf 4 = .ok (.iload_n 1, 1) := by decide +kernel
theorem dX8_gladOf_5 : decode cX8_gladOf 5 = .ok (.iaload, 1) := by decide +kernel
theorem dX8_gladOf_6 : decode cX8_gladOf 6 = .ok (.istore_n 3, 1) := by decide +kernel
theorem dX8_gladOf_7 : decode cX8_gladOf 7 = .ok (.iload_n 3, 1) := by decide +kernel
theorem dX8_gladOf_8 : decode cX8_gladOf 8 = .ok (.iconst 5, 1) := by decide +kernel
theorem dX8_gladOf_9 : decode cX8_gladOf 9 = .ok (.if_icmp .ne 6, 3) := by decide +kernel
theorem dX8_gladOf_12 : decode cX8_gladOf 12 = .ok (.bipush 9, 2) := by decide +kernel
theorem dX8_gladOf_14 : decode cX8_gladOf 14 = .ok (.ireturn, 1) := by decide +kernel
theorem dX8_gladOf_15 : decode cX8_gladOf 15 = .ok (.iload_n 3, 1) := by decide +kernel
theorem dX8_gladOf_16 : decode cX8_gladOf 16 = .ok (.iconst 2, 1) := by decide +kernel
theorem dX8_gladOf_17 : decode cX8_gladOf 17 = .ok (.if_icmp .eq 8, 3) := by decide +kernel
theorem dX8_gladOf_20 : decode cX8_gladOf 20 = .ok (.iload_n 3, 1) := by decide +kernel
theorem dX8_gladOf_21 : decode cX8_gladOf 21 = .ok (.iconst 4, 1) := by decide +kernel
theorem dX8_gladOf_22 : decode cX8_gladOf 22 = .ok (.if_icmp .ne 18, 3) := by decide +kernel
theorem dX8_gladOf_25 : decode cX8_gladOf 25 = .ok (.aload_n 0, 1) := by decide +kernel
theorem dX8_gladOf_26 : decode cX8_gladOf 26 = .ok (.iload_n 1, 1) := by decide +kernel
theorem dX8_gladOf_27 : decode cX8_gladOf 27 = .ok (.invokevirtual 337, 3) := by decide +kernel
theorem dX8_gladOf_30 : decode cX8_gladOf 30 = .ok (.iload_n 2, 1) := by decide +kernel
theorem dX8_gladOf_31 : decode cX8_gladOf 31 = .ok (.ishr, 1) := by decide +kernel
theorem dX8_gladOf_32 : decode cX8_gladOf 32 = .ok (.iconst 1, 1) := by decide +kernel
theorem dX8_gladOf_33 : decode cX8_gladOf 33 = .ok (.iand, 1) := by decide +kernel
theorem dX8_gladOf_34 : decode cX8_gladOf 34 = .ok (.iconst 1, 1) := by decide +kernel
theorem dX8_gladOf_35 : decode cX8_gladOf 35 = .ok (.if_icmp .ne 5, 3) := by decide +kernel
theorem dX8_gladOf_38 : decode cX8_gladOf 38 = .ok (.iconst 0, 1) := by decide +kernel
theorem dX8_gladOf_39 : decode cX8_gladOf 39 = .ok (.ireturn, 1) := by decide +kernel
theorem dX8_gladOf_40 : decode cX8_gladOf 40 = .ok (.aload_n 0, 1) := by decide +kernel
theorem dX8_gladOf_41 : decode cX8_gladOf 41 = .ok (.iconst 1, 1) := by decide +kernel
theorem dX8_gladOf_42 : decode cX8_gladOf 42 = .ok (.iload_n 1, 1) := by decide +kernel
theorem dX8_gladOf_43 : decode cX8_gladOf 43 = .ok (.iload_n 2, 1) := by decide +kernel
theorem dX8_gladOf_44 : decode cX8_gladOf 44 = .ok (.iconst 0, 1) := by decide +kernel
theorem dX8_gladOf_45 : decode cX8_gladOf 45 = .ok (.iconst 0, 1) := by decide +kernel
theorem dX8_gladOf_46 : decode cX8_gladOf 46 = .ok (.invokevirtual 343, 3) := by decide +kernel
theorem dX8_gladOf_49 : decode cX8_gladOf 49 = .ok (.istore 4, 2) := by decide +kernel
theorem dX8_gladOf_51 : decode cX8_gladOf 51 = .ok (.iload_n 3, 1) := by decide +kernel
theorem dX8_gladOf_52 : decode cX8_gladOf 52 = .ok (.iconst 1, 1) := by decide +kernel
theorem dX8_gladOf_53 : decode cX8_gladOf 53 = .ok (.if_icmp .ne 10, 3) := by decide +kernel
theorem dX8_gladOf_56 : decode cX8_gladOf 56 = .ok (.iload 4, 2) := by decide +kernel
theorem dX8_gladOf_58 : decode cX8_gladOf 58 = .ok (.iconst 2, 1) := by decide +kernel
theorem dX8_gladOf_59 : decode cX8_gladOf 59 = .ok (.idiv, 1) := by decide +kernel
theorem dX8_gladOf_60 : decode cX8_gladOf 60 = .ok (.goto 38, 3) := by decide +kernel
theorem dX8_gladOf_63 : decode cX8_gladOf 63 = .ok (.iload_n 3, 1) := by decide +kernel
theorem dX8_gladOf_64 : decode cX8_gladOf 64 = .ok (.iconst 3, 1) := by decide +kernel
theorem dX8_gladOf_65 : decode cX8_gladOf 65 = .ok (.if_icmp .ne 19, 3) := by decide +kernel
theorem dX8_gladOf_68 : decode cX8_gladOf 68 = .ok (.iload 4, 2) := by decide +kernel
theorem dX8_gladOf_70 : decode cX8_gladOf 70 = .ok (.iconst 2, 1) := by decide +kernel
theorem dX8_gladOf_71 : decode cX8_gladOf 71 = .ok (.idiv, 1) := by decide +kernel
theorem dX8_gladOf_72 : decode cX8_gladOf 72 = .ok (.aload_n 0, 1) := by decide +kernel
theorem dX8_gladOf_73 : decode cX8_gladOf 73 = .ok (.getfield 29, 3) := by decide +kernel
theorem dX8_gladOf_76 : decode cX8_gladOf 76 = .ok (.iconst 4, 1) := by decide +kernel
theorem dX8_gladOf_77 : decode cX8_gladOf 77 = .ok (.iload_n 1, 1) := by decide +kernel
theorem dX8_gladOf_78 : decode cX8_gladOf 78 = .ok (.imul, 1) := by decide +kernel
theorem dX8_gladOf_79 : decode cX8_gladOf 79 = .ok (.iaload, 1) := by decide +kernel
theorem dX8_gladOf_80 : decode cX8_gladOf 80 = .ok (.iadd, 1) := by decide +kernel
theorem dX8_gladOf_81 : decode cX8_gladOf 81 = .ok (.goto 17, 3) := by decide +kernel
theorem dX8_gladOf_84 : decode cX8_gladOf 84 = .ok (.iload_n 3, 1) := by decide +kernel
theorem dX8_gladOf_85 : decode cX8_gladOf 85 = .ok (.iconst 4, 1) := by decide +kernel
theorem dX8_gladOf_86 : decode cX8_gladOf 86 = .ok (.if_icmp .ne 10, 3) := by decide +kernel
theorem dX8_gladOf_89 : decode cX8_gladOf 89 = .ok (.iconst 2, 1) := by decide +kernel
theorem dX8_gladOf_90 : decode cX8_gladOf 90 = .ok (.iload 4, 2) := by decide +kernel
theorem dX8_gladOf_92 : decode cX8_gladOf 92 = .ok (.imul, 1) := by decide +kernel
theorem dX8_gladOf_93 : decode cX8_gladOf 93 = .ok (.goto 5, 3) := by decide +kernel
theorem dX8_gladOf_96 : decode cX8_gladOf 96 = .ok (.iload 4, 2) := by decide +kernel
theorem dX8_gladOf_98 : decode cX8_gladOf 98 = .ok (.bipush (-99), 2) := by decide +kernel
theorem dX8_gladOf_100 : decode cX8_gladOf 100 = .ok (.bipush 99, 2) := by decide +kernel
theorem dX8_gladOf_102 : decode cX8_gladOf 102 = .ok (.invokestatic 327, 3) := by decide +kernel
theorem dX8_gladOf_105 : decode cX8_gladOf 105 = .ok (.ireturn, 1) := by decide +kernel
theorem dX8_asks_0 : decode cX8_asks 0 = .ok (.aload_n 0, 1) := by decide +kernel
theorem dX8_asks_1 : decode cX8_asks 1 = .ok (.iload_n 1, 1) := by decide +kernel
theorem dX8_asks_2 : decode cX8_asks 2 = .ok (.invokevirtual 89, 3) := by decide +kernel
theorem dX8_asks_5 : decode cX8_asks 5 = .ok (.ifCond .eq 27, 3) := by decide +kernel
theorem dX8_asks_8 : decode cX8_asks 8 = .ok (.iload_n 2, 1) := by decide +kernel
theorem dX8_asks_9 : decode cX8_asks 9 = .ok (.i2l, 1) := by decide +kernel
theorem dX8_asks_10 : decode cX8_asks 10 = .ok (.lconst 1, 1) := by decide +kernel
theorem dX8_asks_11 : decode cX8_asks 11 = .ok (.ldc2_w 350, 3) := by decide +kernel
theorem dX8_asks_14 : decode cX8_asks 14 = .ok (.invokestatic 77, 3) := by decide +kernel
theorem dX8_asks_17 : decode cX8_asks 17 = .ok (.ifCond .eq 15, 3) := by decide +kernel
theorem dX8_asks_20 : decode cX8_asks 20 = .ok (.iload_n 3, 1) := by decide +kernel
theorem dX8_asks_21 : decode cX8_asks 21 = .ok (.i2l, 1) := by decide +kernel
theorem dX8_asks_22 : decode cX8_asks 22 = .ok (.lconst 0, 1) := by decide +kernel
theorem dX8_asks_23 : decode cX8_asks 23 = .ok (.ldc2_w 352, 3) := by decide +kernel
theorem dX8_asks_26 : decode cX8_asks 26 = .ok (.invokestatic 77, 3) := by decide +kernel
theorem dX8_asks_29 : decode cX8_asks 29 = .ok (.ifCond .ne 6, 3) := by decide +kernel
theorem dX8_asks_32 : decode cX8_asks 32 = .ok (.bipush (-2), 2) := by decide +kernel
theorem dX8_asks_34 : decode cX8_asks 34 = .ok (.ireturn, 1) := by decide +kernel
theorem dX8_asks_35 : decode cX8_asks 35 = .ok (.iload_n 3, 1) := by decide +kernel
theorem dX8_asks_36 : decode cX8_asks 36 = .ok (.ifCond .ne 12, 3) := by decide +kernel
theorem dX8_asks_39 : decode cX8_asks 39 = .ok (.aload_n 0, 1) := by decide +kernel
theorem dX8_asks_40 : decode cX8_asks 40 = .ok (.iload_n 1, 1) := by decide +kernel
theorem dX8_asks_41 : decode cX8_asks 41 = .ok (.iload_n 2, 1) := by decide +kernel
theorem dX8_asks_42 : decode cX8_asks 42 = .ok (.invokevirtual 340, 3) := by decide +kernel
theorem dX8_asks_45 : decode cX8_asks 45 = .ok (.goto 37, 3) := by decide +kernel
theorem dX8_asks_48 : decode cX8_asks 48 = .ok (.iload_n 3, 1) := by decide +kernel
theorem dX8_asks_49 : decode cX8_asks 49 = .ok (.iconst 1, 1) := by decide +kernel
theorem dX8_asks_50 : decode cX8_asks 50 = .ok (.if_icmp .ne 12, 3) := by decide +kernel
theorem dX8_asks_53 : decode cX8_asks 53 = .ok (.aload_n 0, 1) := by decide +kernel
theorem dX8_asks_54 : decode cX8_asks 54 = .ok (.iload_n 1, 1) := by decide +kernel
theorem dX8_asks_55 : decode cX8_asks 55 = .ok (.iload_n 2, 1) := by decide +kernel
theorem dX8_asks_56 : decode cX8_asks 56 = .ok (.invokevirtual 354, 3) := by decide +kernel
theorem dX8_asks_59 : decode cX8_asks 59 = .ok (.goto 23, 3) := by decide +kernel
theorem dX8_asks_62 : decode cX8_asks 62 = .ok (.iload_n 3, 1) := by decide +kernel
theorem dX8_asks_63 : decode cX8_asks 63 = .ok (.iconst 2, 1) := by decide +kernel
theorem dX8_asks_64 : decode cX8_asks 64 = .ok (.if_icmp .ne 12, 3) := by decide +kernel
theorem dX8_asks_67 : decode cX8_asks 67 = .ok (.aload_n 0, 1) := by decide +kernel
theorem dX8_asks_68 : decode cX8_asks 68 = .ok (.iload_n 1, 1) := by decide +kernel
theorem dX8_asks_69 : decode cX8_asks 69 = .ok (.iload_n 2, 1) := by decide +kernel
theorem dX8_asks_70 : decode cX8_asks 70 = .ok (.invokevirtual 357, 3) := by decide +kernel
theorem dX8_asks_73 : decode cX8_asks 73 = .ok (.goto 9, 3) := by decide +kernel
theorem dX8_asks_76 : decode cX8_asks 76 = .ok (.aload_n 0, 1) := by decide +kernel
theorem dX8_asks_77 : decode cX8_asks 77 = .ok (.iload_n 1, 1) := by decide +kernel
theorem dX8_asks_78 : decode cX8_asks 78 = .ok (.iload_n 2, 1) := by decide +kernel
theorem dX8_asks_79 : decode cX8_asks 79 = .ok (.invokevirtual 360, 3) := by decide +kernel
theorem dX8_asks_82 : decode cX8_asks 82 = .ok (.ireturn, 1) := by decide +kernel
theorem dX8_glad_0 : decode cX8_glad 0 = .ok (.aload_n 0, 1) := by decide +kernel
theorem dX8_glad_1 : decode cX8_glad 1 = .ok (.iload_n 1, 1) := by decide +kernel
theorem dX8_glad_2 : decode cX8_glad 2 = .ok (.invokevirtual 89, 3) := by decide +kernel
theorem dX8_glad_5 : decode cX8_glad 5 = .ok (.ifCond .eq 19, 3) := by decide +kernel
theorem dX8_glad_8 : decode cX8_glad 8 = .ok (.iload_n 2, 1) := by decide +kernel
theorem dX8_glad_9 : decode cX8_glad 9 = .ok (.invokestatic 83, 3) := by decide +kernel
theorem dX8_glad_12 : decode cX8_glad 12 = .ok (.ifCond .eq 12, 3) := by decide +kernel
theorem dX8_glad_15 : decode cX8_glad 15 = .ok (.aload_n 0, 1) := by decide +kernel
theorem dX8_glad_16 : decode cX8_glad 16 = .ok (.iload_n 1, 1) := by decide +kernel
theorem dX8_glad_17 : decode cX8_glad 17 = .ok (.iload_n 2, 1) := by decide +kernel
theorem dX8_glad_18 : decode cX8_glad 18 = .ok (.invokevirtual 363, 3) := by decide +kernel
theorem dX8_glad_21 : decode cX8_glad 21 = .ok (.goto 6, 3) := by decide +kernel
theorem dX8_glad_24 : decode cX8_glad 24 = .ok (.sipush (-1000), 3) := by decide +kernel
theorem dX8_glad_27 : decode cX8_glad 27 = .ok (.ireturn, 1) := by decide +kernel
theorem dX8_asked_0 : decode cX8_asked 0 = .ok (.aload_n 0, 1) := by decide +kernel
theorem dX8_asked_1 : decode cX8_asked 1 = .ok (.iload_n 1, 1) := by decide +kernel
theorem dX8_asked_2 : decode cX8_asked 2 = .ok (.iload_n 2, 1) := by decide +kernel
theorem dX8_asked_3 : decode cX8_asked 3 = .ok (.invokevirtual 354, 3) := by decide +kernel
theorem dX8_asked_6 : decode cX8_asked 6 = .ok (.istore_n 3, 1) := by decide +kernel
theorem dX8_asked_7 : decode cX8_asked 7 = .ok (.aload_n 0, 1) := by decide +kernel
theorem dX8_asked_8 : decode cX8_asked 8 = .ok (.iload_n 3, 1) := by decide +kernel
theorem dX8_asked_9 : decode cX8_asked 9 = .ok (.iconst (-1), 1) := by decide +kernel
theorem dX8_asked_10 : decode cX8_asked 10 = .ok (.if_icmp .ne 7, 3) := by decide +kernel
theorem dX8_asked_13 : decode cX8_asked 13 = .ok (.iconst 0, 1) := by decide +kernel
theorem dX8_asked_14 : decode cX8_asked 14 = .ok (.goto 9, 3) := by decide +kernel
theorem dX8_asked_17 : decode cX8_asked 17 = .ok (.aload_n 0, 1) := by decide +kernel
theorem dX8_asked_18 : decode cX8_asked 18 = .ok (.iload_n 1, 1) := by decide +kernel
theorem dX8_asked_19 : decode cX8_asked 19 = .ok (.iload_n 3, 1) := by decide +kernel
theorem dX8_asked_20 : decode cX8_asked 20 = .ok (.invokevirtual 363, 3) := by decide +kernel
theorem dX8_asked_23 : decode cX8_asked 23 = .ok (.putfield 366, 3) := by decide +kernel
theorem dX8_asked_26 : decode cX8_asked 26 = .ok (.aload_n 0, 1) := by decide +kernel
theorem dX8_asked_27 : decode cX8_asked 27 = .ok (.aload_n 0, 1) := by decide +kernel
theorem dX8_asked_28 : decode cX8_asked 28 = .ok (.iload_n 1, 1) := by decide +kernel
theorem dX8_asked_29 : decode cX8_asked 29 = .ok (.iload_n 2, 1) := by decide +kernel
theorem dX8_asked_30 : decode cX8_asked 30 = .ok (.invokevirtual 360, 3) := by decide +kernel
theorem dX8_asked_33 : decode cX8_asked 33 = .ok (.putfield 369, 3) := by decide +kernel
theorem dX8_asked_36 : decode cX8_asked 36 = .ok (.aload_n 0, 1) := by decide +kernel
theorem dX8_asked_37 : decode cX8_asked 37 = .ok (.iload_n 1, 1) := by decide +kernel
theorem dX8_asked_38 : decode cX8_asked 38 = .ok (.iload_n 2, 1) := by decide +kernel
theorem dX8_asked_39 : decode cX8_asked 39 = .ok (.invokevirtual 357, 3) := by decide +kernel
theorem dX8_asked_42 : decode cX8_asked 42 = .ok (.istore 4, 2) := by decide +kernel
theorem dX8_asked_44 : decode cX8_asked 44 = .ok (.aload_n 0, 1) := by decide +kernel
theorem dX8_asked_45 : decode cX8_asked 45 = .ok (.getfield 29, 3) := by decide +kernel
theorem dX8_asked_48 : decode cX8_asked 48 = .ok (.iconst 4, 1) := by decide +kernel
theorem dX8_asked_49 : decode cX8_asked 49 = .ok (.iload_n 1, 1) := by decide +kernel
theorem dX8_asked_50 : decode cX8_asked 50 = .ok (.imul, 1) := by decide +kernel
theorem dX8_asked_51 : decode cX8_asked 51 = .ok (.iconst 2, 1) := by decide +kernel
theorem dX8_asked_52 : decode cX8_asked 52 = .ok (.iadd, 1) := by decide +kernel
theorem dX8_asked_53 : decode cX8_asked 53 = .ok (.dup2, 1) := by decide +kernel
theorem dX8_asked_54 : decode cX8_asked 54 = .ok (.iaload, 1) := by decide +kernel
theorem dX8_asked_55 : decode cX8_asked 55 = .ok (.iload_n 3, 1) := by decide +kernel
theorem dX8_asked_56 : decode cX8_asked 56 = .ok (.iconst (-1), 1) := by decide +kernel
theorem dX8_asked_57 : decode cX8_asked 57 = .ok (.if_icmp .ne 7, 3) := by decide +kernel
theorem dX8_asked_60 : decode cX8_asked 60 = .ok (.iconst 0, 1) := by decide +kernel
theorem dX8_asked_61 : decode cX8_asked 61 = .ok (.goto 6, 3) := by decide +kernel
theorem dX8_asked_64 : decode cX8_asked 64 = .ok (.iconst 1, 1) := by decide +kernel
theorem dX8_asked_65 : decode cX8_asked 65 = .ok (.iload_n 3, 1) := by decide +kernel
theorem dX8_asked_66 : decode cX8_asked 66 = .ok (.ishl, 1) := by decide +kernel
theorem dX8_asked_67 : decode cX8_asked 67 = .ok (.ior, 1) := by decide +kernel
theorem dX8_asked_68 : decode cX8_asked 68 = .ok (.iastore, 1) := by decide +kernel
theorem dX8_asked_69 : decode cX8_asked 69 = .ok (.aload_n 0, 1) := by decide +kernel
theorem dX8_asked_70 : decode cX8_asked 70 = .ok (.getfield 29, 3) := by decide +kernel
theorem dX8_asked_73 : decode cX8_asked 73 = .ok (.iconst 4, 1) := by decide +kernel
theorem dX8_asked_74 : decode cX8_asked 74 = .ok (.iload_n 1, 1) := by decide +kernel
theorem dX8_asked_75 : decode cX8_asked 75 = .ok (.imul, 1) := by decide +kernel
theorem dX8_asked_76 : decode cX8_asked 76 = .ok (.iconst 1, 1) := by decide +kernel
theorem dX8_asked_77 : decode cX8_asked 77 = .ok (.iadd, 1) := by decide +kernel
theorem dX8_asked_78 : decode cX8_asked 78 = .ok (.dup2, 1) := by decide +kernel
theorem dX8_asked_79 : decode cX8_asked 79 = .ok (.iaload, 1) := by decide +kernel
theorem dX8_asked_80 : decode cX8_asked 80 = .ok (.iload 4, 2) := by decide +kernel
theorem dX8_asked_82 : decode cX8_asked 82 = .ok (.ior, 1) := by decide +kernel
theorem dX8_asked_83 : decode cX8_asked 83 = .ok (.iastore, 1) := by decide +kernel
theorem dX8_asked_84 : decode cX8_asked 84 = .ok (.aload_n 0, 1) := by decide +kernel
theorem dX8_asked_85 : decode cX8_asked 85 = .ok (.getfield 29, 3) := by decide +kernel
theorem dX8_asked_88 : decode cX8_asked 88 = .ok (.iconst 4, 1) := by decide +kernel
theorem dX8_asked_89 : decode cX8_asked 89 = .ok (.iload_n 1, 1) := by decide +kernel
theorem dX8_asked_90 : decode cX8_asked 90 = .ok (.imul, 1) := by decide +kernel
theorem dX8_asked_91 : decode cX8_asked 91 = .ok (.iconst 3, 1) := by decide +kernel
theorem dX8_asked_92 : decode cX8_asked 92 = .ok (.iadd, 1) := by decide +kernel
theorem dX8_asked_93 : decode cX8_asked 93 = .ok (.aload_n 0, 1) := by decide +kernel
theorem dX8_asked_94 : decode cX8_asked 94 = .ok (.getfield 29, 3) := by decide +kernel
theorem dX8_asked_97 : decode cX8_asked 97 = .ok (.iconst 4, 1) := by decide +kernel
theorem dX8_asked_98 : decode cX8_asked 98 = .ok (.iload_n 1, 1) := by decide +kernel
theorem dX8_asked_99 : decode cX8_asked 99 = .ok (.imul, 1) := by decide +kernel
theorem dX8_asked_100 : decode cX8_asked 100 = .ok (.iconst 3, 1) := by decide +kernel
theorem dX8_asked_101 : decode cX8_asked 101 = .ok (.iadd, 1) := by decide +kernel
theorem dX8_asked_102 : decode cX8_asked 102 = .ok (.iaload, 1) := by decide +kernel
theorem dX8_asked_103 : decode cX8_asked 103 = .ok (.aload_n 0, 1) := by decide +kernel
theorem dX8_asked_104 : decode cX8_asked 104 = .ok (.getfield 369, 3) := by decide +kernel
theorem dX8_asked_107 : decode cX8_asked 107 = .ok (.iadd, 1) := by decide +kernel
theorem dX8_asked_108 : decode cX8_asked 108 = .ok (.iconst 0, 1) := by decide +kernel
theorem dX8_asked_109 : decode cX8_asked 109 = .ok (.sipush 9999, 3) := by decide +kernel
theorem dX8_asked_112 : decode cX8_asked 112 = .ok (.invokestatic 327, 3) := by decide +kernel
theorem dX8_asked_115 : decode cX8_asked 115 = .ok (.iastore, 1) := by decide +kernel
theorem dX8_asked_116 : decode cX8_asked 116 = .ok (.iload_n 3, 1) := by decide +kernel
theorem dX8_asked_117 : decode cX8_asked 117 = .ok (.ireturn, 1) := by decide +kernel
theorem dX8_ask_0 : decode cX8_ask 0 = .ok (.aload_n 0, 1) := by decide +kernel
theorem dX8_ask_1 : decode cX8_ask 1 = .ok (.iload_n 1, 1) := by decide +kernel
theorem dX8_ask_2 : decode cX8_ask 2 = .ok (.invokevirtual 89, 3) := by decide +kernel
theorem dX8_ask_5 : decode cX8_ask 5 = .ok (.ifCond .eq 24, 3) := by decide +kernel
theorem dX8_ask_8 : decode cX8_ask 8 = .ok (.iload_n 2, 1) := by decide +kernel
theorem dX8_ask_9 : decode cX8_ask 9 = .ok (.i2l, 1) := by decide +kernel
theorem dX8_ask_10 : decode cX8_ask 10 = .ok (.lconst 1, 1) := by decide +kernel
theorem dX8_ask_11 : decode cX8_ask 11 = .ok (.ldc2_w 350, 3) := by decide +kernel
theorem dX8_ask_14 : decode cX8_ask 14 = .ok (.invokestatic 77, 3) := by decide +kernel
theorem dX8_ask_17 : decode cX8_ask 17 = .ok (.ifCond .eq 12, 3) := by decide +kernel
theorem dX8_ask_20 : decode cX8_ask 20 = .ok (.aload_n 0, 1) := by decide +kernel
theorem dX8_ask_21 : decode cX8_ask 21 = .ok (.iload_n 1, 1) := by decide +kernel
theorem dX8_ask_22 : decode cX8_ask 22 = .ok (.iload_n 2, 1) := by decide +kernel
theorem dX8_ask_23 : decode cX8_ask 23 = .ok (.invokevirtual 372, 3) := by decide +kernel
theorem dX8_ask_26 : decode cX8_ask 26 = .ok (.goto 5, 3) := by decide +kernel
theorem dX8_ask_29 : decode cX8_ask 29 = .ok (.bipush (-2), 2) := by decide +kernel
theorem dX8_ask_31 : decode cX8_ask 31 = .ok (.ireturn, 1) := by decide +kernel
theorem dX8_day_0 : decode cX8_day 0 = .ok (.aload_n 0, 1) := by decide +kernel
theorem dX8_day_1 : decode cX8_day 1 = .ok (.getfield 103, 3) := by decide +kernel
theorem dX8_day_4 : decode cX8_day 4 = .ok (.sipush 999, 3) := by decide +kernel
theorem dX8_day_7 : decode cX8_day 7 = .ok (.if_icmp .ne 6, 3) := by decide +kernel
theorem dX8_day_10 : decode cX8_day 10 = .ok (.bipush (-3), 2) := by decide +kernel
theorem dX8_day_12 : decode cX8_day 12 = .ok (.ireturn, 1) := by decide +kernel
theorem dX8_day_13 : decode cX8_day 13 = .ok (.aload_n 0, 1) := by decide +kernel
theorem dX8_day_14 : decode cX8_day 14 = .ok (.dup, 1) := by decide +kernel
theorem dX8_day_15 : decode cX8_day 15 = .ok (.getfield 103, 3) := by decide +kernel
theorem dX8_day_18 : decode cX8_day 18 = .ok (.iconst 1, 1) := by decide +kernel
theorem dX8_day_19 : decode cX8_day 19 = .ok (.iadd, 1) := by decide +kernel
theorem dX8_day_20 : decode cX8_day 20 = .ok (.putfield 103, 3) := by decide +kernel
theorem dX8_day_23 : decode cX8_day 23 = .ok (.aload_n 0, 1) := by decide +kernel
theorem dX8_day_24 : decode cX8_day 24 = .ok (.getfield 103, 3) := by decide +kernel
theorem dX8_day_27 : decode cX8_day 27 = .ok (.ireturn, 1) := by decide +kernel
theorem dX8_laysAside_0 : decode cX8_laysAside 0 = .ok (.iconst 0, 1) := by decide +kernel
theorem dX8_laysAside_1 : decode cX8_laysAside 1 = .ok (.istore_n 1, 1) := by decide +kernel
theorem dX8_laysAside_2 : decode cX8_laysAside 2 = .ok (.iload_n 1, 1) := by decide +kernel
theorem dX8_laysAside_3 : decode cX8_laysAside 3 = .ok (.bipush 20, 2) := by decide +kernel
theorem dX8_laysAside_5 : decode cX8_laysAside 5 = .ok (.if_icmp .ge 21, 3) := by decide +kernel
theorem dX8_laysAside_8 : decode cX8_laysAside 8 = .ok (.aload_n 0, 1) := by decide +kernel
theorem dX8_laysAside_9 : decode cX8_laysAside 9 = .ok (.getfield 35, 3) := by decide +kernel
theorem dX8_laysAside_12 : decode cX8_laysAside 12 = .ok (.iload_n 1, 1) := by decide +kernel
theorem dX8_laysAside_13 : decode cX8_laysAside 13 = .ok (.aload_n 0, 1) := by decide +kernel
theorem dX8_laysAside_14 : decode cX8_laysAside 14 = .ok (.getfield 29, 3) := by decide +kernel
theorem dX8_laysAside_17 : decode cX8_laysAside 17 = .ok (.iload_n 1, 1) := by decide +kernel
theorem dX8_laysAside_18 : decode cX8_laysAside 18 = .ok (.iaload, 1) := by decide +kernel
theorem dX8_laysAside_19 : decode cX8_laysAside 19 = .ok (.iastore, 1) := by decide +kernel
theorem dX8_laysAside_20 : decode cX8_laysAside 20 = .ok (.iinc 1 1, 3) := by decide +kernel
theorem dX8_laysAside_23 : decode cX8_laysAside 23 = .ok (.goto (-21), 3) := by decide +kernel
theorem dX8_laysAside_26 : decode cX8_laysAside 26 = .ok (.aload_n 0, 1) := by decide +kernel
theorem dX8_laysAside_27 : decode cX8_laysAside 27 = .ok (.aload_n 0, 1) := by decide +kernel
theorem dX8_laysAside_28 : decode cX8_laysAside 28 = .ok (.getfield 103, 3) := by decide +kernel
theorem dX8_laysAside_31 : decode cX8_laysAside 31 = .ok (.putfield 375, 3) := by decide +kernel
theorem dX8_laysAside_34 : decode cX8_laysAside 34 = .ok (.return_, 1) := by decide +kernel
theorem dX8_laysBack_0 : decode cX8_laysBack 0 = .ok (.iconst 0, 1) := by decide +kernel
theorem dX8_laysBack_1 : decode cX8_laysBack 1 = .ok (.istore_n 1, 1) := by decide +kernel
theorem dX8_laysBack_2 : decode cX8_laysBack 2 = .ok (.iload_n 1, 1) := by decide +kernel
theorem dX8_laysBack_3 : decode cX8_laysBack 3 = .ok (.bipush 20, 2) := by decide +kernel
theorem dX8_laysBack_5 : decode cX8_laysBack 5 = .ok (.if_icmp .ge 21, 3) := by decide +kernel
theorem dX8_laysBack_8 : decode cX8_laysBack 8 = .ok (.aload_n 0, 1) := by decide +kernel
theorem dX8_laysBack_9 : decode cX8_laysBack 9 = .ok (.getfield 29, 3) := by decide +kernel
theorem dX8_laysBack_12 : decode cX8_laysBack 12 = .ok (.iload_n 1, 1) := by decide +kernel
theorem dX8_laysBack_13 : decode cX8_laysBack 13 = .ok (.aload_n 0, 1) := by decide +kernel
theorem dX8_laysBack_14 : decode cX8_laysBack 14 = .ok (.getfield 35, 3) := by decide +kernel
theorem dX8_laysBack_17 : decode cX8_laysBack 17 = .ok (.iload_n 1, 1) := by decide +kernel
theorem dX8_laysBack_18 : decode cX8_laysBack 18 = .ok (.iaload, 1) := by decide +kernel
theorem dX8_laysBack_19 : decode cX8_laysBack 19 = .ok (.iastore, 1) := by decide +kernel
theorem dX8_laysBack_20 : decode cX8_laysBack 20 = .ok (.iinc 1 1, 3) := by decide +kernel
theorem dX8_laysBack_23 : decode cX8_laysBack 23 = .ok (.goto (-21), 3) := by decide +kernel
theorem dX8_laysBack_26 : decode cX8_laysBack 26 = .ok (.aload_n 0, 1) := by decide +kernel
theorem dX8_laysBack_27 : decode cX8_laysBack 27 = .ok (.aload_n 0, 1) := by decide +kernel
theorem dX8_laysBack_28 : decode cX8_laysBack 28 = .ok (.getfield 375, 3) := by decide +kernel
theorem dX8_laysBack_31 : decode cX8_laysBack 31 = .ok (.putfield 103, 3) := by decide +kernel
theorem dX8_laysBack_34 : decode cX8_laysBack 34 = .ok (.return_, 1) := by decide +kernel
theorem dX8_rowBad_0 : decode cX8_rowBad 0 = .ok (.aload_n 0, 1) := by decide +kernel
theorem dX8_rowBad_1 : decode cX8_rowBad 1 = .ok (.getfield 50, 3) := by decide +kernel
theorem dX8_rowBad_4 : decode cX8_rowBad 4 = .ok (.iload_n 1, 1) := by decide +kernel
theorem dX8_rowBad_5 : decode cX8_rowBad 5 = .ok (.baload, 1) := by decide +kernel
theorem dX8_rowBad_6 : decode cX8_rowBad 6 = .ok (.ifCond .ne 7, 3) := by decide +kernel
theorem dX8_rowBad_9 : decode cX8_rowBad 9 = .ok (.sipush (-1011), 3) := by decide +kernel
theorem dX8_rowBad_12 : decode cX8_rowBad 12 = .ok (.ireturn, 1) := by decide +kernel
theorem dX8_rowBad_13 : decode cX8_rowBad 13 = .ok (.iconst 0, 1) := by decide +kernel
theorem dX8_rowBad_14 : decode cX8_rowBad 14 = .ok (.istore_n 2, 1) := by decide +kernel
theorem dX8_rowBad_15 : decode cX8_rowBad 15 = .ok (.iload_n 2, 1) := by decide +kernel
theorem dX8_rowBad_16 : decode cX8_rowBad 16 = .ok (.aload_n 0, 1) := by decide +kernel
theorem dX8_rowBad_17 : decode cX8_rowBad 17 = .ok (.getfield 57, 3) := by decide +kernel
theorem dX8_rowBad_20 : decode cX8_rowBad 20 = .ok (.iload_n 1, 1) := by decide +kernel
theorem dX8_rowBad_21 : decode cX8_rowBad 21 = .ok (.iaload, 1) := by decide +kernel
theorem dX8_rowBad_22 : decode cX8_rowBad 22 = .ok (.if_icmp .ge 35, 3) := by decide +kernel
theorem dX8_rowBad_25 : decode cX8_rowBad 25 = .ok (.aload_n 0, 1) := by decide +kernel
theorem dX8_rowBad_26 : decode cX8_rowBad 26 = .ok (.getfield 60, 3) := by decide +kernel
theorem dX8_rowBad_29 : decode cX8_rowBad 29 = .ok (.bipush 40, 2) := by decide +kernel
theorem dX8_rowBad_31 : decode cX8_rowBad 31 = .ok (.iload_n 1, 1) := by decide +kernel
theorem dX8_rowBad_32 : decode cX8_rowBad 32 = .ok (.imul, 1) := by decide +kernel
theorem dX8_rowBad_33 : decode cX8_rowBad 33 = .ok (.iload_n 2, 1) := by decide +kernel
theorem dX8_rowBad_34 : decode cX8_rowBad 34 = .ok (.iadd, 1) := by decide +kernel
theorem dX8_rowBad_35 : decode cX8_rowBad 35 = .ok (.iaload, 1) := by decide +kernel
theorem dX8_rowBad_36 : decode cX8_rowBad 36 = .ok (.i2l, 1) := by decide +kernel
theorem dX8_rowBad_37 : decode cX8_rowBad 37 = .ok (.lconst 1, 1) := by decide +kernel
theorem dX8_rowBad_38 : decode cX8_rowBad 38 = .ok (.ldc2_w 350, 3) := by decide +kernel
theorem dX8_rowBad_41 : decode cX8_rowBad 41 = .ok (.invokestatic 77, 3) := by decide +kernel
theorem dX8_rowBad_44 : decode cX8_rowBad 44 = .ok (.ifCond .ne 7, 3) := by decide +kernel
theorem dX8_rowBad_47 : decode cX8_rowBad 47 = .ok (.sipush (-1002), 3) := by decide +kernel
theorem dX8_rowBad_50 : decode cX8_rowBad 50 = .ok (.ireturn, 1) := by decide +kernel
theorem dX8_rowBad_51 : decode cX8_rowBad 51 = .ok (.iinc 2 1, 3) := by decide +kernel
theorem dX8_rowBad_54 : decode cX8_rowBad 54 = .ok (.goto (-39), 3) := by decide +kernel
theorem dX8_rowBad_57 : decode cX8_rowBad 57 = .ok (.iconst 0, 1) := by decide +kernel
theorem dX8_rowBad_58 : decode cX8_rowBad 58 = .ok (.ireturn, 1) := by decide +kernel
theorem dX8_askAll_0 : decode cX8_askAll 0 = .ok (.aload_n 0, 1) := by decide +kernel
theorem dX8_askAll_1 : decode cX8_askAll 1 = .ok (.iconst (-1), 1) := by decide +kernel
theorem dX8_askAll_2 : decode cX8_askAll 2 = .ok (.putfield 378, 3) := by decide +kernel
theorem dX8_askAll_5 : decode cX8_askAll 5 = .ok (.aload_n 0, 1) := by decide +kernel
theorem dX8_askAll_6 : decode cX8_askAll 6 = .ok (.iconst 0, 1) := by decide +kernel
theorem dX8_askAll_7 : decode cX8_askAll 7 = .ok (.putfield 381, 3) := by decide +kernel
theorem dX8_askAll_10 : decode cX8_askAll 10 = .ok (.aload_n 0, 1) := by decide +kernel
theorem dX8_askAll_11 : decode cX8_askAll 11 = .ok (.iconst 0, 1) := by decide +kernel
theorem dX8_askAll_12 : decode cX8_askAll 12 = .ok (.putfield 384, 3) := by decide +kernel
theorem dX8_askAll_15 : decode cX8_askAll 15 = .ok (.aload_n 0, 1) := by decide +kernel
theorem dX8_askAll_16 : decode cX8_askAll 16 = .ok (.iconst 0, 1) := by decide +kernel
theorem dX8_askAll_17 : decode cX8_askAll 17 = .ok (.putfield 387, 3) := by decide +kernel
theorem dX8_askAll_20 : decode cX8_askAll 20 = .ok (.iconst 0, 1) := by decide +kernel
theorem dX8_askAll_21 : decode cX8_askAll 21 = .ok (.istore_n 3, 1) := by decide +kernel
theorem dX8_askAll_22 : decode cX8_askAll 22 = .ok (.iload_n 3, 1) := by decide +kernel
theorem dX8_askAll_23 : decode cX8_askAll 23 = .ok (.aload_n 0, 1) := by decide +kernel
theorem dX8_askAll_24 : decode cX8_askAll 24 = .ok (.getfield 57, 3) := by decide +kernel
theorem dX8_askAll_27 : decode cX8_askAll 27 = .ok (.iload_n 1, 1) := by decide +kernel
theorem dX8_askAll_28 : decode cX8_askAll 28 = .ok (.iaload, 1) := by decide +kernel
theorem dX8_askAll_29 : decode cX8_askAll 29 = .ok (.if_icmp .ge 77, 3) := by decide +kernel
theorem dX8_askAll_32 : decode cX8_askAll 32 = .ok (.aload_n 0, 1) := by decide +kernel
theorem dX8_askAll_33 : decode cX8_askAll 33 = .ok (.aload_n 0, 1) := by decide +kernel
theorem dX8_askAll_34 : decode cX8_askAll 34 = .ok (.iload_n 2, 1) := by decide +kernel
theorem dX8_askAll_35 : decode cX8_askAll 35 = .ok (.aload_n 0, 1) := by decide +kernel
theorem dX8_askAll_36 : decode cX8_askAll 36 = .ok (.getfield 60, 3) := by decide +kernel
theorem dX8_askAll_39 : decode cX8_askAll 39 = .ok (.bipush 40, 2) := by decide +kernel
theorem dX8_askAll_41 : decode cX8_askAll 41 = .ok (.iload_n 1, 1) := by decide +kernel
theorem dX8_askAll_42 : decode cX8_askAll 42 = .ok (.imul, 1) := by decide +kernel
theorem dX8_askAll_43 : decode cX8_askAll 43 = .ok (.iload_n 3, 1) := by decide +kernel
theorem dX8_askAll_44 : decode cX8_askAll 44 = .ok (.iadd, 1) := by decide +kernel
theorem dX8_askAll_45 : decode cX8_askAll 45 = .ok (.iaload, 1) := by decide +kernel
theorem dX8_askAll_46 : decode cX8_askAll 46 = .ok (.invokevirtual 372, 3) := by decide +kernel
theorem dX8_askAll_49 : decode cX8_askAll 49 = .ok (.putfield 378, 3) := by decide +kernel
theorem dX8_askAll_52 : decode cX8_askAll 52 = .ok (.aload_n 0, 1) := by decide +kernel
theorem dX8_askAll_53 : decode cX8_askAll 53 = .ok (.dup, 1) := by decide +kernel
theorem dX8_askAll_54 : decode cX8_askAll 54 = .ok (.getfield 381, 3) := by decide +kernel
theorem dX8_askAll_57 : decode cX8_askAll 57 = .ok (.aload_n 0, 1) := by decide +kernel
theorem dX8_askAll_58 : decode cX8_askAll 58 = .ok (.getfield 378, 3) := by decide +kernel
theorem dX8_askAll_61 : decode cX8_askAll 61 = .ok (.iconst (-1), 1) := by decide +kernel
theorem dX8_askAll_62 : decode cX8_askAll 62 = .ok (.if_icmp .ne 7, 3) := by decide +kernel
theorem dX8_askAll_65 : decode cX8_askAll 65 = .ok (.iconst 1, 1) := by decide +kernel
theorem dX8_askAll_66 : decode cX8_askAll 66 = .ok (.goto 4, 3) := by decide +kernel
theorem dX8_askAll_69 : decode cX8_askAll 69 = .ok (.iconst 0, 1) := by decide +kernel
theorem dX8_askAll_70 : decode cX8_askAll 70 = .ok (.iadd, 1) := by decide +kernel
theorem dX8_askAll_71 : decode cX8_askAll 71 = .ok (.putfield 381, 3) := by decide +kernel
theorem dX8_askAll_74 : decode cX8_askAll 74 = .ok (.aload_n 0, 1) := by decide +kernel
theorem dX8_askAll_75 : decode cX8_askAll 75 = .ok (.dup, 1) := by decide +kernel
theorem dX8_askAll_76 : decode cX8_askAll 76 = .ok (.getfield 384, 3) := by decide +kernel
theorem dX8_askAll_79 : decode cX8_askAll 79 = .ok (.aload_n 0, 1) := by decide +kernel
theorem dX8_askAll_80 : decode cX8_askAll 80 = .ok (.getfield 366, 3) := by decide +kernel
theorem dX8_askAll_83 : decode cX8_askAll 83 = .ok (.iadd, 1) := by decide +kernel
theorem dX8_askAll_84 : decode cX8_askAll 84 = .ok (.putfield 384, 3) := by decide +kernel
theorem dX8_askAll_87 : decode cX8_askAll 87 = .ok (.aload_n 0, 1) := by decide +kernel
theorem dX8_askAll_88 : decode cX8_askAll 88 = .ok (.dup, 1) := by decide +kernel
theorem dX8_askAll_89 : decode cX8_askAll 89 = .ok (.getfield 387, 3) := by decide +kernel
theorem dX8_askAll_92 : decode cX8_askAll 92 = .ok (.aload_n 0, 1) := by decide +kernel
theorem dX8_askAll_93 : decode cX8_askAll 93 = .ok (.getfield 369, 3) := by decide +kernel
theorem dX8_askAll_96 : decode cX8_askAll 96 = .ok (.iadd, 1) := by decide +kernel
theorem dX8_askAll_97 : decode cX8_askAll 97 = .ok (.putfield 387, 3) := by decide +kernel
theorem dX8_askAll_100 : decode cX8_askAll 100 = .ok (.iinc 3 1, 3) := by decide +kernel
theorem dX8_askAll_103 : decode cX8_askAll 103 = .ok (.goto (-81), 3) := by decide +kernel
theorem dX8_askAll_106 : decode cX8_askAll 106 = .ok (.return_, 1) := by decide +kernel
theorem dX8_row_0 : decode cX8_row 0 = .ok (.iload_n 1, 1) := by decide +kernel
theorem dX8_row_1 : decode cX8_row 1 = .ok (.invokestatic 390, 3) := by decide +kernel
theorem dX8_row_4 : decode cX8_row 4 = .ok (.ifCond .eq 23, 3) := by decide +kernel
theorem dX8_row_7 : decode cX8_row 7 = .ok (.aload_n 0, 1) := by decide +kernel
theorem dX8_row_8 : decode cX8_row 8 = .ok (.iload_n 2, 1) := by decide +kernel
theorem dX8_row_9 : decode cX8_row 9 = .ok (.invokevirtual 89, 3) := by decide +kernel
theorem dX8_row_12 : decode cX8_row 12 = .ok (.ifCond .eq 15, 3) := by decide +kernel
theorem dX8_row_15 : decode cX8_row 15 = .ok (.iload_n 3, 1) := by decide +kernel
theorem dX8_row_16 : decode cX8_row 16 = .ok (.i2l, 1) := by decide +kernel
theorem dX8_row_17 : decode cX8_row 17 = .ok (.lconst 0, 1) := by decide +kernel
theorem dX8_row_18 : decode cX8_row 18 = .ok (.ldc2_w 109, 3) := by decide +kernel
theorem dX8_row_21 : decode cX8_row 21 = .ok (.invokestatic 77, 3) := by decide +kernel
theorem dX8_row_24 : decode cX8_row 24 = .ok (.ifCond .ne 7, 3) := by decide +kernel
theorem dX8_row_27 : decode cX8_row 27 = .ok (.sipush (-1000), 3) := by decide +kernel
theorem dX8_row_30 : decode cX8_row 30 = .ok (.ireturn, 1) := by decide +kernel
theorem dX8_row_31 : decode cX8_row 31 = .ok (.aload_n 0, 1) := by decide +kernel
theorem dX8_row_32 : decode cX8_row 32 = .ok (.iload_n 1, 1) := by decide +kernel
theorem dX8_row_33 : decode cX8_row 33 = .ok (.invokevirtual 393, 3) := by decide +kernel
theorem dX8_row_36 : decode cX8_row 36 = .ok (.istore 4, 2) := by decide +kernel
theorem dX8_row_38 : decode cX8_row 38 = .ok (.iload 4, 2) := by decide +kernel
theorem dX8_row_40 : decode cX8_row 40 = .ok (.ifCond .eq 6, 3) := by decide +kernel
theorem dX8_row_43 : decode cX8_row 43 = .ok (.iload 4, 2) := by decide +kernel
theorem dX8_row_45 : decode cX8_row 45 = .ok (.ireturn, 1) := by decide +kernel
theorem dX8_row_46 : decode cX8_row 46 = .ok (.aload_n 0, 1) := by decide +kernel
theorem dX8_row_47 : decode cX8_row 47 = .ok (.invokevirtual 396, 3) := by decide +kernel
theorem dX8_row_50 : decode cX8_row 50 = .ok (.aload_n 0, 1) := by decide +kernel
theorem dX8_row_51 : decode cX8_row 51 = .ok (.iload_n 1, 1) := by decide +kernel
theorem dX8_row_52 : decode cX8_row 52 = .ok (.iload_n 2, 1) := by decide +kernel
theorem dX8_row_53 : decode cX8_row 53 = .ok (.invokevirtual 399, 3) := by decide +kernel
theorem dX8_row_56 : decode cX8_row 56 = .ok (.iload_n 3, 1) := by decide +kernel
theorem dX8_row_57 : decode cX8_row 57 = .ok (.ifCond .ne 10, 3) := by decide +kernel
theorem dX8_row_60 : decode cX8_row 60 = .ok (.aload_n 0, 1) := by decide +kernel
theorem dX8_row_61 : decode cX8_row 61 = .ok (.getfield 378, 3) := by decide +kernel
theorem dX8_row_64 : decode cX8_row 64 = .ok (.goto 51, 3) := by decide +kernel
theorem dX8_row_67 : decode cX8_row 67 = .ok (.iload_n 3, 1) := by decide +kernel
theorem dX8_row_68 : decode cX8_row 68 = .ok (.iconst 1, 1) := by decide +kernel
theorem dX8_row_69 : decode cX8_row 69 = .ok (.if_icmp .ne 10, 3) := by decide +kernel
theorem dX8_row_72 : decode cX8_row 72 = .ok (.aload_n 0, 1) := by decide +kernel
theorem dX8_row_73 : decode cX8_row 73 = .ok (.getfield 381, 3) := by decide +kernel
theorem dX8_row_76 : decode cX8_row 76 = .ok (.goto 39, 3) := by decide +kernel
theorem dX8_row_79 : decode cX8_row 79 = .ok (.iload_n 3, 1) := by decide +kernel
theorem dX8_row_80 : decode cX8_row 80 = .ok (.iconst 2, 1) := by decide +kernel
theorem dX8_row_81 : decode cX8_row 81 = .ok (.if_icmp .ne 10, 3) := by decide +kernel
theorem dX8_row_84 : decode cX8_row 84 = .ok (.aload_n 0, 1) := by decide +kernel
theorem dX8_row_85 : decode cX8_row 85 = .ok (.getfield 384, 3) := by decide +kernel
theorem dX8_row_88 : decode cX8_row 88 = .ok (.goto 27, 3) := by decide +kernel
theorem dX8_row_91 : decode cX8_row 91 = .ok (.iload_n 3, 1) := by decide +kernel
theorem dX8_row_92 : decode cX8_row 92 = .ok (.iconst 3, 1) := by decide +kernel
theorem dX8_row_93 : decode cX8_row 93 = .ok (.if_icmp .ne 10, 3) := by decide +kernel
theorem dX8_row_96 : decode cX8_row 96 = .ok (.aload_n 0, 1) := by decide +kernel
theorem dX8_row_97 : decode cX8_row 97 = .ok (.getfield 387, 3) := by decide +kernel
theorem dX8_row_100 : decode cX8_row 100 = .ok (.goto 15, 3) := by decide +kernel
theorem dX8_row_103 : decode cX8_row 103 = .ok (.aload_n 0, 1) := by decide +kernel
theorem dX8_row_104 : decode cX8_row 104 = .ok (.getfield 29, 3) := by decide +kernel
theorem dX8_row_107 : decode cX8_row 107 = .ok (.iconst 4, 1) := by decide +kernel
theorem dX8_row_108 : decode cX8_row 108 = .ok (.iload_n 2, 1) := by decide +kernel
theorem dX8_row_109 : decode cX8_row 109 = .ok (.imul, 1) := by decide +kernel
theorem dX8_row_110 : decode cX8_row 110 = .ok (.iload_n 3, 1) := by decide +kernel
theorem dX8_row_111 : decode cX8_row 111 = .ok (.iadd, 1) := by decide +kernel
theorem dX8_row_112 : decode cX8_row 112 = .ok (.iconst 3, 1) := by decide +kernel
theorem dX8_row_113 : decode cX8_row 113 = .ok (.isub, 1) := by decide +kernel
theorem dX8_row_114 : decode cX8_row 114 = .ok (.iaload, 1) := by decide +kernel
theorem dX8_row_115 : decode cX8_row 115 = .ok (.istore 5, 2) := by decide +kernel
theorem dX8_row_117 : decode cX8_row 117 = .ok (.aload_n 0, 1) := by decide +kernel
theorem dX8_row_118 : decode cX8_row 118 = .ok (.invokevirtual 403, 3) := by decide +kernel
theorem dX8_row_121 : decode cX8_row 121 = .ok (.iload 5, 2) := by decide +kernel
theorem dX8_row_123 : decode cX8_row 123 = .ok (.ireturn, 1) := by decide +kernel
theorem dX8_rows_0 : decode cX8_rows 0 = .ok (.iload_n 1, 1) := by decide +kernel
theorem dX8_rows_1 : decode cX8_rows 1 = .ok (.invokestatic 390, 3) := by decide +kernel
theorem dX8_rows_4 : decode cX8_rows 4 = .ok (.ifCond .eq 11, 3) := by decide +kernel
theorem dX8_rows_7 : decode cX8_rows 7 = .ok (.aload_n 0, 1) := by decide +kernel
theorem dX8_rows_8 : decode cX8_rows 8 = .ok (.iload_n 2, 1) := by decide +kernel
theorem dX8_rows_9 : decode cX8_rows 9 = .ok (.invokevirtual 89, 3) := by decide +kernel
theorem dX8_rows_12 : decode cX8_rows 12 = .ok (.ifCond .ne 7, 3) := by decide +kernel
theorem dX8_rows_15 : decode cX8_rows 15 = .ok (.sipush (-1000), 3) := by decide +kernel
theorem dX8_rows_18 : decode cX8_rows 18 = .ok (.ireturn, 1) := by decide +kernel
theorem dX8_rows_19 : decode cX8_rows 19 = .ok (.aload_n 0, 1) := by decide +kernel
theorem dX8_rows_20 : decode cX8_rows 20 = .ok (.iload_n 1, 1) := by decide +kernel
theorem dX8_rows_21 : decode cX8_rows 21 = .ok (.invokevirtual 393, 3) := by decide +kernel
theorem dX8_rows_24 : decode cX8_rows 24 = .ok (.istore_n 3, 1) := by decide +kernel
theorem dX8_rows_25 : decode cX8_rows 25 = .ok (.iload_n 3, 1) := by decide +kernel
theorem dX8_rows_26 : decode cX8_rows 26 = .ok (.ifCond .eq 5, 3) := by decide +kernel
theorem dX8_rows_29 : decode cX8_rows 29 = .ok (.iload_n 3, 1) := by decide +kernel
theorem dX8_rows_30 : decode cX8_rows 30 = .ok (.ireturn, 1) := by decide +kernel
theorem dX8_rows_31 : decode cX8_rows 31 = .ok (.aload_n 0, 1) := by decide +kernel
theorem dX8_rows_32 : decode cX8_rows 32 = .ok (.iload_n 1, 1) := by decide +kernel
theorem dX8_rows_33 : decode cX8_rows 33 = .ok (.iload_n 2, 1) := by decide +kernel
theorem dX8_rows_34 : decode cX8_rows 34 = .ok (.invokevirtual 399, 3) := by decide +kernel
theorem dX8_rows_37 : decode cX8_rows 37 = .ok (.aload_n 0, 1) := by decide +kernel
theorem dX8_rows_38 : decode cX8_rows 38 = .ok (.getfield 57, 3) := by decide +kernel
theorem dX8_rows_41 : decode cX8_rows 41 = .ok (.iload_n 1, 1) := by decide +kernel
theorem dX8_rows_42 : decode cX8_rows 42 = .ok (.iaload, 1) := by decide +kernel
theorem dX8_rows_43 : decode cX8_rows 43 = .ok (.aload_n 0, 1) := by decide +kernel
theorem dX8_rows_44 : decode cX8_rows 44 = .ok (.getfield 381, 3) := by decide +kernel
theorem dX8_rows_47 : decode cX8_rows 47 = .ok (.isub, 1) := by decide +kernel
theorem dX8_rows_48 : decode cX8_rows 48 = .ok (.ireturn, 1) := by decide +kernel
theorem dX8_leave_0 : decode cX8_leave 0 = .ok (.aload_n 0, 1) := by decide +kernel
theorem dX8_leave_1 : decode cX8_leave 1 = .ok (.iload_n 1, 1) := by decide +kernel
theorem dX8_leave_2 : decode cX8_leave 2 = .ok (.invokevirtual 89, 3) := by decide +kernel
theorem dX8_leave_5 : decode cX8_leave 5 = .ok (.ifCond .eq 20, 3) := by decide +kernel
theorem dX8_leave_8 : decode cX8_leave 8 = .ok (.iload_n 2, 1) := by decide +kernel
theorem dX8_leave_9 : decode cX8_leave 9 = .ok (.invokestatic 83, 3) := by decide +kernel
theorem dX8_leave_12 : decode cX8_leave 12 = .ok (.ifCond .eq 13, 3) := by decide +kernel
theorem dX8_leave_15 : decode cX8_leave 15 = .ok (.iload_n 3, 1) := by decide +kernel
theorem dX8_leave_16 : decode cX8_leave 16 = .ok (.i2l, 1) := by decide +kernel
theorem dX8_leave_17 : decode cX8_leave 17 = .ok (.lconst 0, 1) := by decide +kernel
theorem dX8_leave_18 : decode cX8_leave 18 = .ok (.lconst 1, 1) := by decide +kernel
theorem dX8_leave_19 : decode cX8_leave 19 = .ok (.invokestatic 77, 3) := by decide +kernel
theorem dX8_leave_22 : decode cX8_leave 22 = .ok (.ifCond .ne 6, 3) := by decide +kernel
theorem dX8_leave_25 : decode cX8_leave 25 = .ok (.bipush (-2), 2) := by decide +kernel
theorem dX8_leave_27 : decode cX8_leave 27 = .ok (.ireturn, 1) := by decide +kernel
theorem dX8_leave_28 : decode cX8_leave 28 = .ok (.iconst (-1), 1) := by decide +kernel
theorem dX8_leave_29 : decode cX8_leave 29 = .ok (.istore 4, 2) := by decide +kernel
theorem dX8_leave_31 : decode cX8_leave 31 = .ok (.bipush 13, 2) := by decide +kernel
theorem dX8_leave_33 : decode cX8_leave 33 = .ok (.istore 5, 2) := by decide +kernel
theorem dX8_leave_35 : decode cX8_leave 35 = .ok (.iconst 1, 1) := by decide +kernel
theorem dX8_leave_36 : decode cX8_leave 36 = .ok (.istore 6, 2) := by decide +kernel
theorem dX8_leave_38 : decode cX8_leave 38 = .ok (.iload 6, 2) := by decide +kernel
theorem dX8_leave_40 : decode cX8_leave 40 = .ok (.sipush 4095, 3) := by decide +kernel
theorem dX8_leave_43 : decode cX8_leave 43 = .ok (.if_icmp .gt 43, 3) := by decide +kernel
theorem dX8_leave_46 : decode cX8_leave 46 = .ok (.iload 6, 2) := by decide +kernel
theorem dX8_leave_48 : decode cX8_leave 48 = .ok (.invokestatic 63, 3) := by decide +kernel
theorem dX8_leave_51 : decode cX8_leave 51 = .ok (.iload 5, 2) := by decide +kernel
theorem dX8_leave_53 : decode cX8_leave 53 = .ok (.if_icmp .ge 27, 3) := by decide +kernel
theorem dX8_leave_56 : decode cX8_leave 56 = .ok (.aload_n 0, 1) := by decide +kernel
theorem dX8_leave_57 : decode cX8_leave 57 = .ok (.iload_n 1, 1) := by decide +kernel
theorem dX8_leave_58 : decode cX8_leave 58 = .ok (.iload 6, 2) := by decide +kernel
theorem dX8_leave_60 : decode cX8_leave 60 = .ok (.invokevirtual 340, 3) := by decide +kernel
theorem dX8_leave_63 : decode cX8_leave 63 = .ok (.iconst 1, 1) := by decide +kernel
theorem dX8_leave_64 : decode cX8_leave 64 = .ok (.iload_n 2, 1) := by decide +kernel
theorem dX8_leave_65 : decode cX8_leave 65 = .ok (.ishl, 1) := by decide +kernel
theorem dX8_leave_66 : decode cX8_leave 66 = .ok (.if_icmp .ne 14, 3) := by decide +kernel
theorem dX8_leave_69 : decode cX8_leave 69 = .ok (.iload 6, 2) := by decide +kernel
theorem dX8_leave_71 : decode cX8_leave 71 = .ok (.istore 4, 2) := by decide +kernel
theorem dX8_leave_73 : decode cX8_leave 73 = .ok (.iload 6, 2) := by decide +kernel
theorem dX8_leave_75 : decode cX8_leave 75 = .ok (.invokestatic 63, 3) := by decide +kernel
theorem dX8_leave_78 : decode cX8_leave 78 = .ok (.istore 5, 2) := by decide +kernel
theorem dX8_leave_80 : decode cX8_leave 80 = .ok (.iinc 6 1, 3) := by decide +kernel
theorem dX8_leave_83 : decode cX8_leave 83 = .ok (.goto (-45), 3) := by decide +kernel
theorem dX8_leave_86 : decode cX8_leave 86 = .ok (.iload_n 3, 1) := by decide +kernel
theorem dX8_leave_87 : decode cX8_leave 87 = .ok (.ifCond .eq 9, 3) := by decide +kernel
theorem dX8_leave_90 : decode cX8_leave 90 = .ok (.iload 4, 2) := by decide +kernel
theorem dX8_leave_92 : decode cX8_leave 92 = .ok (.iconst (-1), 1) := by decide +kernel
theorem dX8_leave_93 : decode cX8_leave 93 = .ok (.if_icmp .ne 8, 3) := by decide +kernel
theorem dX8_leave_96 : decode cX8_leave 96 = .ok (.iload 4, 2) := by decide +kernel
theorem dX8_leave_98 : decode cX8_leave 98 = .ok (.goto 5, 3) := by decide +kernel
theorem dX8_leave_101 : decode cX8_leave 101 = .ok (.iload 5, 2) := by decide +kernel
theorem dX8_leave_103 : decode cX8_leave 103 = .ok (.ireturn, 1) := by decide +kernel
theorem dX8_gladdest_0 : decode cX8_gladdest 0 = .ok (.aload_n 0, 1) := by decide +kernel
theorem dX8_gladdest_1 : decode cX8_gladdest 1 = .ok (.iload_n 1, 1) := by decide +kernel
theorem dX8_gladdest_2 : decode cX8_gladdest 2 = .ok (.invokevirtual 89, 3) := by decide +kernel
theorem dX8_gladdest_5 : decode cX8_gladdest 5 = .ok (.ifCond .eq 13, 3) := by decide +kernel
theorem dX8_gladdest_8 : decode cX8_gladdest 8 = .ok (.iload_n 2, 1) := by decide +kernel
theorem dX8_gladdest_9 : decode cX8_gladdest 9 = .ok (.i2l, 1) := by decide +kernel
theorem dX8_gladdest_10 : decode cX8_gladdest 10 = .ok (.lconst 0, 1) := by decide +kernel
theorem dX8_gladdest_11 : decode cX8_gladdest 11 = .ok (.lconst 1, 1) := by decide +kernel
theorem dX8_gladdest_12 : decode cX8_gladdest 12 = .ok (.invokestatic 77, 3) := by decide +kernel
theorem dX8_gladdest_15 : decode cX8_gladdest 15 = .ok (.ifCond .ne 7, 3) := by decide +kernel
theorem dX8_gladdest_18 : decode cX8_gladdest 18 = .ok (.sipush (-2000), 3) := by decide +kernel
theorem dX8_gladdest_21 : decode cX8_gladdest 21 = .ok (.ireturn, 1) := by decide +kernel
theorem dX8_gladdest_22 : decode cX8_gladdest 22 = .ok (.iconst (-1), 1) := by decide +kernel
theorem dX8_gladdest_23 : decode cX8_gladdest 23 = .ok (.istore_n 3, 1) := by decide +kernel
theorem dX8_gladdest_24 : decode cX8_gladdest 24 = .ok (.sipush (-1000), 3) := by decide +kernel
theorem dX8_gladdest_27 : decode cX8_gladdest 27 = .ok (.istore 4, 2) := by decide +kernel
theorem dX8_gladdest_29 : decode cX8_gladdest 29 = .ok (.iconst 0, 1) := by decide +kernel
theorem dX8_gladdest_30 : decode cX8_gladdest 30 = .ok (.istore 5, 2) := by decide +kernel
theorem dX8_gladdest_32 : decode cX8_gladdest 32 = .ok (.iload 5, 2) := by decide +kernel
theorem dX8_gladdest_34 : decode cX8_gladdest 34 = .ok (.sipush 298, 3) := by decide +kernel
theorem dX8_gladdest_37 : decode cX8_gladdest 37 = .ok (.if_icmp .ge 63, 3) := by decide +kernel
theorem dX8_gladdest_40 : decode cX8_gladdest 40 = .ok (.aload_n 0, 1) := by decide +kernel
theorem dX8_gladdest_41 : decode cX8_gladdest 41 = .ok (.iload_n 1, 1) := by decide +kernel
theorem dX8_gladdest_42 : decode cX8_gladdest 42 = .ok (.aload_n 0, 1) := by decide +kernel
theorem dX8_gladdest_43 : decode cX8_gladdest 43 = .ok (.getfield 32, 3) := by decide +kernel
theorem dX8_gladdest_46 : decode cX8_gladdest 46 = .ok (.iload 5, 2) := by decide +kernel
theorem dX8_gladdest_48 : decode cX8_gladdest 48 = .ok (.iaload, 1) := by decide +kernel
theorem dX8_gladdest_49 : decode cX8_gladdest 49 = .ok (.invokevirtual 354, 3) := by decide +kernel
theorem dX8_gladdest_52 : decode cX8_gladdest 52 = .ok (.istore 6, 2) := by decide +kernel
theorem dX8_gladdest_54 : decode cX8_gladdest 54 = .ok (.iload 6, 2) := by decide +kernel
theorem dX8_gladdest_56 : decode cX8_gladdest 56 = .ok (.iconst (-1), 1) := by decide +kernel
theorem dX8_gladdest_57 : decode cX8_gladdest 57 = .ok (.if_icmp .ne 9, 3) := by decide +kernel
theorem dX8_gladdest_60 : decode cX8_gladdest 60 = .ok (.sipush (-1000), 3) := by decide +kernel
theorem dX8_gladdest_63 : decode cX8_gladdest 63 = .ok (.goto 10, 3) := by decide +kernel
theorem dX8_gladdest_66 : decode cX8_gladdest 66 = .ok (.aload_n 0, 1) := by decide +kernel
theorem dX8_gladdest_67 : decode cX8_gladdest 67 = .ok (.iload_n 1, 1) := by decide +kernel
theorem dX8_gladdest_68 : decode cX8_gladdest 68 = .ok (.iload 6, 2) := by decide +kernel
theorem dX8_gladdest_70 : decode cX8_gladdest 70 = .ok (.invokevirtual 363, 3) := by decide +kernel
theorem dX8_gladdest_73 : decode cX8_gladdest 73 = .ok (.istore 7, 2) := by decide +kernel
theorem dX8_gladdest_75 : decode cX8_gladdest 75 = .ok (.iload 7, 2) := by decide +kernel
theorem dX8_gladdest_77 : decode cX8_gladdest 77 = .ok (.iload 4, 2) := by decide +kernel
theorem dX8_gladdest_79 : decode cX8_gladdest 79 = .ok (.if_icmp .le 15, 3) := by decide +kernel
theorem dX8_gladdest_82 : decode cX8_gladdest 82 = .ok (.aload_n 0, 1) := by decide +kernel
theorem dX8_gladdest_83 : decode cX8_gladdest 83 = .ok (.getfield 32, 3) := by decide +kernel
theorem dX8_gladdest_86 : decode cX8_gladdest 86 = .ok (.iload 5, 2) := by decide +kernel
theorem dX8_gladdest_88 : decode cX8_gladdest 88 = .ok (.iaload, 1) := by decide +kernel
theorem dX8_gladdest_89 : decode cX8_gladdest 89 = .ok (.istore_n 3, 1) := by decide +kernel
theorem dX8_gladdest_90 : decode cX8_gladdest 90 = .ok (.iload 7, 2) := by decide +kernel
theorem dX8_gladdest_92 : decode cX8_gladdest 92 = .ok (.istore 4, 2) := by decide +kernel
theorem dX8_gladdest_94 : decode cX8_gladdest 94 = .ok (.iinc 5 1, 3) := by decide +kernel
theorem dX8_gladdest_97 : decode cX8_gladdest 97 = .ok (.goto (-65), 3) := by decide +kernel
theorem dX8_gladdest_100 : decode cX8_gladdest 100 = .ok (.iload_n 2, 1) := by decide +kernel
theorem dX8_gladdest_101 : decode cX8_gladdest 101 = .ok (.ifCond .ne 7, 3) := by decide +kernel
theorem dX8_gladdest_104 : decode cX8_gladdest 104 = .ok (.iload_n 3, 1) := by decide +kernel
theorem dX8_gladdest_105 : decode cX8_gladdest 105 = .ok (.goto 5, 3) := by decide +kernel
theorem dX8_gladdest_108 : decode cX8_gladdest 108 = .ok (.iload 4, 2) := by decide +kernel
theorem dX8_gladdest_110 : decode cX8_gladdest 110 = .ok (.ireturn, 1) := by decide +kernel
theorem dX8_get_0 : decode cX8_get 0 = .ok (.aload_n 0, 1) := by decide +kernel
theorem dX8_get_1 : decode cX8_get 1 = .ok (.iload_n 1, 1) := by decide +kernel
theorem dX8_get_2 : decode cX8_get 2 = .ok (.invokevirtual 89, 3) := by decide +kernel
theorem dX8_get_5 : decode cX8_get 5 = .ok (.ifCond .eq 20, 3) := by decide +kernel
theorem dX8_get_8 : decode cX8_get 8 = .ok (.iload_n 2, 1) := by decide +kernel
theorem dX8_get_9 : decode cX8_get 9 = .ok (.invokestatic 83, 3) := by decide +kernel
theorem dX8_get_12 : decode cX8_get 12 = .ok (.ifCond .eq 13, 3) := by decide +kernel
theorem dX8_get_15 : decode cX8_get 15 = .ok (.iload_n 3, 1) := by decide +kernel
theorem dX8_get_16 : decode cX8_get 16 = .ok (.i2l, 1) := by decide +kernel
theorem dX8_get_17 : decode cX8_get 17 = .ok (.lconst 0, 1) := by decide +kernel
theorem dX8_get_18 : decode cX8_get 18 = .ok (.lconst 1, 1) := by decide +kernel
theorem dX8_get_19 : decode cX8_get 19 = .ok (.invokestatic 77, 3) := by decide +kernel
theorem dX8_get_22 : decode cX8_get 22 = .ok (.ifCond .ne 6, 3) := by decide +kernel
theorem dX8_get_25 : decode cX8_get 25 = .ok (.bipush (-2), 2) := by decide +kernel
theorem dX8_get_27 : decode cX8_get 27 = .ok (.ireturn, 1) := by decide +kernel
theorem dX8_get_28 : decode cX8_get 28 = .ok (.iconst (-1), 1) := by decide +kernel
theorem dX8_get_29 : decode cX8_get 29 = .ok (.istore 4, 2) := by decide +kernel
theorem dX8_get_31 : decode cX8_get 31 = .ok (.bipush 100, 2) := by decide +kernel
theorem dX8_get_33 : decode cX8_get 33 = .ok (.istore 5, 2) := by decide +kernel
theorem dX8_get_35 : decode cX8_get 35 = .ok (.iconst 0, 1) := by decide +kernel
theorem dX8_get_36 : decode cX8_get 36 = .ok (.istore 6, 2) := by decide +kernel
theorem dX8_get_38 : decode cX8_get 38 = .ok (.iload 6, 2) := by decide +kernel
theorem dX8_get_40 : decode cX8_get 40 = .ok (.sipush 298, 3) := by decide +kernel
theorem dX8_get_43 : decode cX8_get 43 = .ok (.if_icmp .ge 65, 3) := by decide +kernel
theorem dX8_get_46 : decode cX8_get 46 = .ok (.aload_n 0, 1) := by decide +kernel
theorem dX8_get_47 : decode cX8_get 47 = .ok (.iload_n 1, 1) := by decide +kernel
theorem dX8_get_48 : decode cX8_get 48 = .ok (.aload_n 0, 1) := by decide +kernel
theorem dX8_get_49 : decode cX8_get 49 = .ok (.getfield 32, 3) := by decide +kernel
theorem dX8_get_52 : decode cX8_get 52 = .ok (.iload 6, 2) := by decide +kernel
theorem dX8_get_54 : decode cX8_get 54 = .ok (.iaload, 1) := by decide +kernel
theorem dX8_get_55 : decode cX8_get 55 = .ok (.invokevirtual 354, 3) := by decide +kernel
theorem dX8_get_58 : decode cX8_get 58 = .ok (.iload_n 2, 1) := by decide +kernel
theorem dX8_get_59 : decode cX8_get 59 = .ok (.if_icmp .ne 43, 3) := by decide +kernel
theorem dX8_get_62 : decode cX8_get 62 = .ok (.aload_n 0, 1) := by decide +kernel
theorem dX8_get_63 : decode cX8_get 63 = .ok (.iload_n 1, 1) := by decide +kernel
theorem dX8_get_64 : decode cX8_get 64 = .ok (.aload_n 0, 1) := by decide +kernel
theorem dX8_get_65 : decode cX8_get 65 = .ok (.getfield 32, 3) := by decide +kernel
theorem dX8_get_68 : decode cX8_get 68 = .ok (.iload 6, 2) := by decide +kernel
theorem dX8_get_70 : decode cX8_get 70 = .ok (.iaload, 1) := by decide +kernel
theorem dX8_get_71 : decode cX8_get 71 = .ok (.invokevirtual 360, 3) := by decide +kernel
theorem dX8_get_74 : decode cX8_get 74 = .ok (.iload 5, 2) := by decide +kernel
theorem dX8_get_76 : decode cX8_get 76 = .ok (.if_icmp .ge 26, 3) := by decide +kernel
theorem dX8_get_79 : decode cX8_get 79 = .ok (.aload_n 0, 1) := by decide +kernel
theorem dX8_get_80 : decode cX8_get 80 = .ok (.getfield 32, 3) := by decide +kernel
theorem dX8_get_83 : decode cX8_get 83 = .ok (.iload 6, 2) := by decide +kernel
theorem dX8_get_85 : decode cX8_get 85 = .ok (.iaload, 1) := by decide +kernel
theorem dX8_get_86 : decode cX8_get 86 = .ok (.istore 4, 2) := by decide +kernel
theorem dX8_get_88 : decode cX8_get 88 = .ok (.aload_n 0, 1) := by decide +kernel
theorem dX8_get_89 : decode cX8_get 89 = .ok (.iload_n 1, 1) := by decide +kernel
theorem dX8_get_90 : decode cX8_get 90 = .ok (.aload_n 0, 1) := by decide +kernel
theorem dX8_get_91 : decode cX8_get 91 = .ok (.getfield 32, 3) := by decide +kernel
theorem dX8_get_94 : decode cX8_get 94 = .ok (.iload 6, 2) := by decide +kernel
theorem dX8_get_96 : decode cX8_get 96 = .ok (.iaload, 1) := by decide +kernel
theorem dX8_get_97 : decode cX8_get 97 = .ok (.invokevirtual 360, 3) := by decide +kernel
theorem dX8_get_100 : decode cX8_get 100 = .ok (.istore 5, 2) := by decide +kernel
theorem dX8_get_102 : decode cX8_get 102 = .ok (.iinc 6 1, 3) := by decide +kernel
theorem dX8_get_105 : decode cX8_get 105 = .ok (.goto (-67), 3) := by decide +kernel
theorem dX8_get_108 : decode cX8_get 108 = .ok (.iload_n 3, 1) := by decide +kernel
theorem dX8_get_109 : decode cX8_get 109 = .ok (.ifCond .eq 9, 3) := by decide +kernel
theorem dX8_get_112 : decode cX8_get 112 = .ok (.iload 4, 2) := by decide +kernel
theorem dX8_get_114 : decode cX8_get 114 = .ok (.iconst (-1), 1) := by decide +kernel
theorem dX8_get_115 : decode cX8_get 115 = .ok (.if_icmp .ne 8, 3) := by decide +kernel
theorem dX8_get_118 : decode cX8_get 118 = .ok (.iload 4, 2) := by decide +kernel
theorem dX8_get_120 : decode cX8_get 120 = .ok (.goto 5, 3) := by decide +kernel
theorem dX8_get_123 : decode cX8_get 123 = .ok (.iload 5, 2) := by decide +kernel
theorem dX8_get_125 : decode cX8_get 125 = .ok (.ireturn, 1) := by decide +kernel
theorem dX8_neverOf_0 : decode cX8_neverOf 0 = .ok (.sipush 4095, 3) := by decide +kernel
theorem dX8_neverOf_3 : decode cX8_neverOf 3 = .ok (.istore_n 2, 1) := by decide +kernel
theorem dX8_neverOf_4 : decode cX8_neverOf 4 = .ok (.iconst 0, 1) := by decide +kernel
theorem dX8_neverOf_5 : decode cX8_neverOf 5 = .ok (.istore_n 3, 1) := by decide +kernel
theorem dX8_neverOf_6 : decode cX8_neverOf 6 = .ok (.iload_n 3, 1) := by decide +kernel
theorem dX8_neverOf_7 : decode cX8_neverOf 7 = .ok (.sipush 298, 3) := by decide +kernel
theorem dX8_neverOf_10 : decode cX8_neverOf 10 = .ok (.if_icmp .ge 43, 3) := by decide +kernel
theorem dX8_neverOf_13 : decode cX8_neverOf 13 = .ok (.aload_n 0, 1) := by decide +kernel
theorem dX8_neverOf_14 : decode cX8_neverOf 14 = .ok (.iload_n 1, 1) := by decide +kernel
theorem dX8_neverOf_15 : decode cX8_neverOf 15 = .ok (.aload_n 0, 1) := by decide +kernel
theorem dX8_neverOf_16 : decode cX8_neverOf 16 = .ok (.getfield 32, 3) := by decide +kernel
theorem dX8_neverOf_19 : decode cX8_neverOf 19 = .ok (.iload_n 3, 1) := by decide +kernel
theorem dX8_neverOf_20 : decode cX8_neverOf 20 = .ok (.iaload, 1) := by decide +kernel
theorem dX8_neverOf_21 : decode cX8_neverOf 21 = .ok (.invokevirtual 354, 3) := by decide +kernel
theorem dX8_neverOf_24 : decode cX8_neverOf 24 = .ok (.istore 4, 2) := by decide +kernel
theorem dX8_neverOf_26 : decode cX8_neverOf 26 = .ok (.iload_n 2, 1) := by decide +kernel
theorem dX8_neverOf_27 : decode cX8_neverOf 27 = .ok (.iload 4, 2) := by decide +kernel
theorem dX8_neverOf_29 : decode cX8_neverOf 29 = .ok (.iconst (-1), 1) := by decide +kernel
theorem dX8_neverOf_30 : decode cX8_neverOf 30 = .ok (.if_icmp .ne 9, 3) := by decide +kernel
theorem dX8_neverOf_33 : decode cX8_neverOf 33 = .ok (.sipush 4095, 3) := by decide +kernel
theorem dX8_neverOf_36 : decode cX8_neverOf 36 = .ok (.goto 9, 3) := by decide +kernel
theorem dX8_neverOf_39 : decode cX8_neverOf 39 = .ok (.iconst 1, 1) := by decide +kernel
theorem dX8_neverOf_40 : decode cX8_neverOf 40 = .ok (.iload 4, 2) := by decide +kernel
theorem dX8_neverOf_42 : decode cX8_neverOf 42 = .ok (.ishl, 1) := by decide +kernel
theorem dX8_neverOf_43 : decode cX8_neverOf 43 = .ok (.iconst (-1), 1) := by decide +kernel
theorem dX8_neverOf_44 : decode cX8_neverOf 44 = .ok (.ixor, 1) := by decide +kernel
theorem dX8_neverOf_45 : decode cX8_neverOf 45 = .ok (.iand, 1) := by decide +kernel
theorem dX8_neverOf_46 : decode cX8_neverOf 46 = .ok (.istore_n 2, 1) := by decide +kernel
theorem dX8_neverOf_47 : decode cX8_neverOf 47 = .ok (.iinc 3 1, 3) := by decide +kernel
theorem dX8_neverOf_50 : decode cX8_neverOf 50 = .ok (.goto (-44), 3) := by decide +kernel
theorem dX8_neverOf_53 : decode cX8_neverOf 53 = .ok (.iload_n 2, 1) := by decide +kernel
theorem dX8_neverOf_54 : decode cX8_neverOf 54 = .ok (.ireturn, 1) := by decide +kernel
theorem dX8_map_0 : decode cX8_map 0 = .ok (.iload_n 1, 1) := by decide +kernel
theorem dX8_map_1 : decode cX8_map 1 = .ok (.invokestatic 390, 3) := by decide +kernel
theorem dX8_map_4 : decode cX8_map 4 = .ok (.ifCond .ne 6, 3) := by decide +kernel
theorem dX8_map_7 : decode cX8_map 7 = .ok (.bipush (-2), 2) := by decide +kernel
theorem dX8_map_9 : decode cX8_map 9 = .ok (.ireturn, 1) := by decide +kernel
theorem dX8_map_10 : decode cX8_map 10 = .ok (.aload_n 0, 1) := by decide +kernel
theorem dX8_map_11 : decode cX8_map 11 = .ok (.getfield 50, 3) := by decide +kernel
theorem dX8_map_14 : decode cX8_map 14 = .ok (.iload_n 1, 1) := by decide +kernel
theorem dX8_map_15 : decode cX8_map 15 = .ok (.baload, 1) := by decide +kernel
theorem dX8_map_16 : decode cX8_map 16 = .ok (.ifCond .ne 6, 3) := by decide +kernel
theorem dX8_map_19 : decode cX8_map 19 = .ok (.bipush (-11), 2) := by decide +kernel
theorem dX8_map_21 : decode cX8_map 21 = .ok (.ireturn, 1) := by decide +kernel
theorem dX8_map_22 : decode cX8_map 22 = .ok (.aload_n 0, 1) := by decide +kernel
theorem dX8_map_23 : decode cX8_map 23 = .ok (.getfield 57, 3) := by decide +kernel
theorem dX8_map_26 : decode cX8_map 26 = .ok (.iload_n 1, 1) := by decide +kernel
theorem dX8_map_27 : decode cX8_map 27 = .ok (.iaload, 1) := by decide +kernel
theorem dX8_map_28 : decode cX8_map 28 = .ok (.iconst 2, 1) := by decide +kernel
theorem dX8_map_29 : decode cX8_map 29 = .ok (.irem, 1) := by decide +kernel
theorem dX8_map_30 : decode cX8_map 30 = .ok (.iconst 1, 1) := by decide +kernel
theorem dX8_map_31 : decode cX8_map 31 = .ok (.if_icmp .ne 6, 3) := by decide +kernel
theorem dX8_map_34 : decode cX8_map 34 = .ok (.bipush (-2), 2) := by decide +kernel
theorem dX8_map_36 : decode cX8_map 36 = .ok (.ireturn, 1) := by decide +kernel
theorem dX8_map_37 : decode cX8_map 37 = .ok (.iconst 0, 1) := by decide +kernel
theorem dX8_map_38 : decode cX8_map 38 = .ok (.istore_n 2, 1) := by decide +kernel
theorem dX8_map_39 : decode cX8_map 39 = .ok (.iload_n 2, 1) := by decide +kernel
theorem dX8_map_40 : decode cX8_map 40 = .ok (.bipush 12, 2) := by decide +kernel
theorem dX8_map_42 : decode cX8_map 42 = .ok (.if_icmp .ge 16, 3) := by decide +kernel
theorem dX8_map_45 : decode cX8_map 45 = .ok (.aload_n 0, 1) := by decide +kernel
theorem dX8_map_46 : decode cX8_map 46 = .ok (.getfield 38, 3) := by decide +kernel
theorem dX8_map_49 : decode cX8_map 49 = .ok (.iload_n 2, 1) := by decide +kernel
theorem dX8_map_50 : decode cX8_map 50 = .ok (.iconst 0, 1) := by decide +kernel
theorem dX8_map_51 : decode cX8_map 51 = .ok (.iastore, 1) := by decide +kernel
theorem dX8_map_52 : decode cX8_map 52 = .ok (.iinc 2 1, 3) := by decide +kernel
theorem dX8_map_55 : decode cX8_map 55 = .ok (.goto (-16), 3) := by decide +kernel
theorem dX8_map_58 : decode cX8_map 58 = .ok (.iconst 0, 1) := by decide +kernel
theorem dX8_map_59 : decode cX8_map 59 = .ok (.istore_n 2, 1) := by decide +kernel
theorem dX8_map_60 : decode cX8_map 60 = .ok (.iload_n 2, 1) := by decide +kernel
theorem dX8_map_61 : decode cX8_map 61 = .ok (.aload_n 0, 1) := by decide +kernel
theorem dX8_map_62 : decode cX8_map 62 = .ok (.getfield 57, 3) := by decide +kernel
theorem dX8_map_65 : decode cX8_map 65 = .ok (.iload_n 1, 1) := by decide +kernel
theorem dX8_map_66 : decode cX8_map 66 = .ok (.iaload, 1) := by decide +kernel
theorem dX8_map_67 : decode cX8_map 67 = .ok (.if_icmp .ge 120, 3) := by decide +kernel
theorem dX8_map_70 : decode cX8_map 70 = .ok (.aload_n 0, 1) := by decide +kernel
theorem dX8_map_71 : decode cX8_map 71 = .ok (.getfield 60, 3) := by decide +kernel
theorem dX8_map_74 : decode cX8_map 74 = .ok (.bipush 40, 2) := by decide +kernel
theorem dX8_map_76 : decode cX8_map 76 = .ok (.iload_n 1, 1) := by decide +kernel
theorem dX8_map_77 : decode cX8_map 77 = .ok (.imul, 1) := by decide +kernel
theorem dX8_map_78 : decode cX8_map 78 = .ok (.iload_n 2, 1) := by decide +kernel
theorem dX8_map_79 : decode cX8_map 79 = .ok (.iadd, 1) := by decide +kernel
theorem dX8_map_80 : decode cX8_map 80 = .ok (.iaload, 1) := by decide +kernel
theorem dX8_map_81 : decode cX8_map 81 = .ok (.istore_n 3, 1) := by decide +kernel
theorem dX8_map_82 : decode cX8_map 82 = .ok (.aload_n 0, 1) := by decide +kernel
theorem dX8_map_83 : decode cX8_map 83 = .ok (.getfield 60, 3) := by decide +kernel
theorem dX8_map_86 : decode cX8_map 86 = .ok (.bipush 40, 2) := by decide +kernel
theorem dX8_map_88 : decode cX8_map 88 = .ok (.iload_n 1, 1) := by decide +kernel
theorem dX8_map_89 : decode cX8_map 89 = .ok (.imul, 1) := by decide +kernel
theorem dX8_map_90 : decode cX8_map 90 = .ok (.iload_n 2, 1) := by decide +kernel
theorem dX8_map_91 : decode cX8_map 91 = .ok (.iadd, 1) := by decide +kernel
theorem dX8_map_92 : decode cX8_map 92 = .ok (.iconst 1, 1) := by decide +kernel
theorem dX8_map_93 : decode cX8_map 93 = .ok (.iadd, 1) := by decide +kernel
theorem dX8_map_94 : decode cX8_map 94 = .ok (.iaload, 1) := by decide +kernel
theorem dX8_map_95 : decode cX8_map 95 = .ok (.istore 4, 2) := by decide +kernel
theorem dX8_map_97 : decode cX8_map 97 = .ok (.iload_n 3, 1) := by decide +kernel
theorem dX8_map_98 : decode cX8_map 98 = .ok (.i2l, 1) := by decide +kernel
theorem dX8_map_99 : decode cX8_map 99 = .ok (.lconst 0, 1) := by decide +kernel
theorem dX8_map_100 : decode cX8_map 100 = .ok (.ldc2_w 350, 3) := by decide +kernel
theorem dX8_map_103 : decode cX8_map 103 = .ok (.invokestatic 77, 3) := by decide +kernel
theorem dX8_map_106 : decode cX8_map 106 = .ok (.ifCond .eq 11, 3) := by decide +kernel
theorem dX8_map_109 : decode cX8_map 109 = .ok (.iload 4, 2) := by decide +kernel
theorem dX8_map_111 : decode cX8_map 111 = .ok (.invokestatic 83, 3) := by decide +kernel
theorem dX8_map_114 : decode cX8_map 114 = .ok (.ifCond .ne 6, 3) := by decide +kernel
theorem dX8_map_117 : decode cX8_map 117 = .ok (.bipush (-2), 2) := by decide +kernel
theorem dX8_map_119 : decode cX8_map 119 = .ok (.ireturn, 1) := by decide +kernel
theorem dX8_map_120 : decode cX8_map 120 = .ok (.iconst 0, 1) := by decide +kernel
theorem dX8_map_121 : decode cX8_map 121 = .ok (.istore 5, 2) := by decide +kernel
theorem dX8_map_123 : decode cX8_map 123 = .ok (.iload 5, 2) := by decide +kernel
theorem dX8_map_125 : decode cX8_map 125 = .ok (.bipush 12, 2) := by decide +kernel
theorem dX8_map_127 : decode cX8_map 127 = .ok (.if_icmp .ge 54, 3) := by decide +kernel
theorem dX8_map_130 : decode cX8_map 130 = .ok (.iload_n 3, 1) := by decide +kernel
theorem dX8_map_131 : decode cX8_map 131 = .ok (.iload 5, 2) := by decide +kernel
theorem dX8_map_133 : decode cX8_map 133 = .ok (.ishr, 1) := by decide +kernel
theorem dX8_map_134 : decode cX8_map 134 = .ok (.iconst 1, 1) := by decide +kernel
theorem dX8_map_135 : decode cX8_map 135 = .ok (.iand, 1) := by decide +kernel
theorem dX8_map_136 : decode cX8_map 136 = .ok (.iconst 1, 1) := by decide +kernel
theorem dX8_map_137 : decode cX8_map 137 = .ok (.if_icmp .ne 38, 3) := by decide +kernel
theorem dX8_map_140 : decode cX8_map 140 = .ok (.iload 5, 2) := by decide +kernel
theorem dX8_map_142 : decode cX8_map 142 = .ok (.iload 4, 2) := by decide +kernel
theorem dX8_map_144 : decode cX8_map 144 = .ok (.if_icmp .eq 31, 3) := by decide +kernel
theorem dX8_map_147 : decode cX8_map 147 = .ok (.aload_n 0, 1) := by decide +kernel
theorem dX8_map_148 : decode cX8_map 148 = .ok (.getfield 38, 3) := by decide +kernel
theorem dX8_map_151 : decode cX8_map 151 = .ok (.iload 5, 2) := by decide +kernel
theorem dX8_map_153 : decode cX8_map 153 = .ok (.dup2, 1) := by decide +kernel
theorem dX8_map_154 : decode cX8_map 154 = .ok (.iaload, 1) := by decide +kernel
theorem dX8_map_155 : decode cX8_map 155 = .ok (.iconst 1, 1) := by decide +kernel
theorem dX8_map_156 : decode cX8_map 156 = .ok (.iload 4, 2) := by decide +kernel
theorem dX8_map_158 : decode cX8_map 158 = .ok (.ishl, 1) := by decide +kernel
theorem dX8_map_159 : decode cX8_map 159 = .ok (.ior, 1) := by decide +kernel
theorem dX8_map_160 : decode cX8_map 160 = .ok (.iastore, 1) := by decide +kernel
theorem dX8_map_161 : decode cX8_map 161 = .ok (.aload_n 0, 1) := by decide +kernel
theorem dX8_map_162 : decode cX8_map 162 = .ok (.getfield 38, 3) := by decide +kernel
theorem dX8_map_165 : decode cX8_map 165 = .ok (.iload 4, 2) := by decide +kernel
theorem dX8_map_167 : decode cX8_map 167 = .ok (.dup2, 1) := by decide +kernel
theorem dX8_map_168 : decode cX8_map 168 = .ok (.iaload, 1) := by decide +kernel
theorem dX8_map_169 : decode cX8_map 169 = .ok (.iconst 1, 1) := by decide +kernel
theorem dX8_map_170 : decode cX8_map 170 = .ok (.iload 5, 2) := by decide +kernel
theorem dX8_map_172 : decode cX8_map 172 = .ok (.ishl, 1) := by decide +kernel
theorem dX8_map_173 : decode cX8_map 173 = .ok (.ior, 1) := by decide +kernel
theorem dX8_map_174 : decode cX8_map 174 = .ok (.iastore, 1) := by decide +kernel
theorem dX8_map_175 : decode cX8_map 175 = .ok (.iinc 5 1, 3) := by decide +kernel
theorem dX8_map_178 : decode cX8_map 178 = .ok (.goto (-55), 3) := by decide +kernel
theorem dX8_map_181 : decode cX8_map 181 = .ok (.iinc 2 2, 3) := by decide +kernel
theorem dX8_map_184 : decode cX8_map 184 = .ok (.goto (-124), 3) := by decide +kernel
theorem dX8_map_187 : decode cX8_map 187 = .ok (.iconst 0, 1) := by decide +kernel
theorem dX8_map_188 : decode cX8_map 188 = .ok (.istore_n 2, 1) := by decide +kernel
theorem dX8_map_189 : decode cX8_map 189 = .ok (.iconst 0, 1) := by decide +kernel
theorem dX8_map_190 : decode cX8_map 190 = .ok (.istore_n 3, 1) := by decide +kernel
theorem dX8_map_191 : decode cX8_map 191 = .ok (.iload_n 3, 1) := by decide +kernel
theorem dX8_map_192 : decode cX8_map 192 = .ok (.bipush 12, 2) := by decide +kernel
theorem dX8_map_194 : decode cX8_map 194 = .ok (.if_icmp .ge 21, 3) := by decide +kernel
theorem dX8_map_197 : decode cX8_map 197 = .ok (.iload_n 2, 1) := by decide +kernel
theorem dX8_map_198 : decode cX8_map 198 = .ok (.aload_n 0, 1) := by decide +kernel
theorem dX8_map_199 : decode cX8_map 199 = .ok (.getfield 38, 3) := by decide +kernel
theorem dX8_map_202 : decode cX8_map 202 = .ok (.iload_n 3, 1) := by decide +kernel
theorem dX8_map_203 : decode cX8_map 203 = .ok (.iaload, 1) := by decide +kernel
theorem dX8_map_204 : decode cX8_map 204 = .ok (.invokestatic 63, 3) := by decide +kernel
theorem dX8_map_207 : decode cX8_map 207 = .ok (.iadd, 1) := by decide +kernel
theorem dX8_map_208 : decode cX8_map 208 = .ok (.istore_n 2, 1) := by decide +kernel
theorem dX8_map_209 : decode cX8_map 209 = .ok (.iinc 3 1, 3) := by decide +kernel
theorem dX8_map_212 : decode cX8_map 212 = .ok (.goto (-21), 3) := by decide +kernel
theorem dX8_map_215 : decode cX8_map 215 = .ok (.iload_n 2, 1) := by decide +kernel
theorem dX8_map_216 : decode cX8_map 216 = .ok (.iconst 2, 1) := by decide +kernel
theorem dX8_map_217 : decode cX8_map 217 = .ok (.idiv, 1) := by decide +kernel
theorem dX8_map_218 : decode cX8_map 218 = .ok (.ireturn, 1) := by decide +kernel
theorem dX8_likeTwos_0 : decode cX8_likeTwos 0 = .ok (.iconst 0, 1) := by decide +kernel
theorem dX8_likeTwos_1 : decode cX8_likeTwos 1 = .ok (.istore_n 1, 1) := by decide +kernel
theorem dX8_likeTwos_2 : decode cX8_likeTwos 2 = .ok (.iconst 0, 1) := by decide +kernel
theorem dX8_likeTwos_3 : decode cX8_likeTwos 3 = .ok (.istore_n 2, 1) := by decide +kernel
theorem dX8_likeTwos_4 : decode cX8_likeTwos 4 = .ok (.iload_n 2, 1) := by decide +kernel
theorem dX8_likeTwos_5 : decode cX8_likeTwos 5 = .ok (.bipush 12, 2) := by decide +kernel
theorem dX8_likeTwos_7 : decode cX8_likeTwos 7 = .ok (.if_icmp .ge 21, 3) := by decide +kernel
theorem dX8_likeTwos_10 : decode cX8_likeTwos 10 = .ok (.iload_n 1, 1) := by decide +kernel
theorem dX8_likeTwos_11 : decode cX8_likeTwos 11 = .ok (.aload_n 0, 1) := by decide +kernel
theorem dX8_likeTwos_12 : decode cX8_likeTwos 12 = .ok (.getfield 23, 3) := by decide +kernel
theorem dX8_likeTwos_15 : decode cX8_likeTwos 15 = .ok (.iload_n 2, 1) := by decide +kernel
theorem dX8_likeTwos_16 : decode cX8_likeTwos 16 = .ok (.iaload, 1) := by decide +kernel
theorem dX8_likeTwos_17 : decode cX8_likeTwos 17 = .ok (.invokestatic 63, 3) := by decide +kernel
theorem dX8_likeTwos_20 : decode cX8_likeTwos 20 = .ok (.iadd, 1) := by decide +kernel
theorem dX8_likeTwos_21 : decode cX8_likeTwos 21 = .ok (.istore_n 1, 1) := by decide +kernel
theorem dX8_likeTwos_22 : decode cX8_likeTwos 22 = .ok (.iinc 2 1, 3) := by decide +kernel
theorem dX8_likeTwos_25 : decode cX8_likeTwos 25 = .ok (.goto (-21), 3) := by decide +kernel
theorem dX8_likeTwos_28 : decode cX8_likeTwos 28 = .ok (.iload_n 1, 1) := by decide +kernel
theorem dX8_likeTwos_29 : decode cX8_likeTwos 29 = .ok (.iconst 2, 1) := by decide +kernel
theorem dX8_likeTwos_30 : decode cX8_likeTwos 30 = .ok (.idiv, 1) := by decide +kernel
theorem dX8_likeTwos_31 : decode cX8_likeTwos 31 = .ok (.ireturn, 1) := by decide +kernel
theorem dX8_cliques_0 : decode cX8_cliques 0 = .ok (.iconst 0, 1) := by decide +kernel
theorem dX8_cliques_1 : decode cX8_cliques 1 = .ok (.istore_n 1, 1) := by decide +kernel
theorem dX8_cliques_2 : decode cX8_cliques 2 = .ok (.iconst 0, 1) := by decide +kernel
theorem dX8_cliques_3 : decode cX8_cliques 3 = .ok (.istore_n 2, 1) := by decide +kernel
theorem dX8_cliques_4 : decode cX8_cliques 4 = .ok (.iload_n 2, 1) := by decide +kernel
theorem dX8_cliques_5 : decode cX8_cliques 5 = .ok (.bipush 12, 2) := by decide +kernel
theorem dX8_cliques_7 : decode cX8_cliques 7 = .ok (.if_icmp .ge 73, 3) := by decide +kernel
theorem dX8_cliques_10 : decode cX8_cliques 10 = .ok (.iload_n 2, 1) := by decide +kernel
theorem dX8_cliques_11 : decode cX8_cliques 11 = .ok (.iconst 1, 1) := by decide +kernel
theorem dX8_cliques_12 : decode cX8_cliques 12 = .ok (.iadd, 1) := by decide +kernel
theorem dX8_cliques_13 : decode cX8_cliques 13 = .ok (.istore_n 3, 1) := by decide +kernel
theorem dX8_cliques_14 : decode cX8_cliques 14 = .ok (.iload_n 3, 1) := by decide +kernel
theorem dX8_cliques_15 : decode cX8_cliques 15 = .ok (.bipush 12, 2) := by decide +kernel
theorem dX8_cliques_17 : decode cX8_cliques 17 = .ok (.if_icmp .ge 57, 3) := by decide +kernel
theorem dX8_cliques_20 : decode cX8_cliques 20 = .ok (.aload_n 0, 1) := by decide +kernel
theorem dX8_cliques_21 : decode cX8_cliques 21 = .ok (.getfield 23, 3) := by decide +kernel
theorem dX8_cliques_24 : decode cX8_cliques 24 = .ok (.iload_n 2, 1) := by decide +kernel
theorem dX8_cliques_25 : decode cX8_cliques 25 = .ok (.iaload, 1) := by decide +kernel
theorem dX8_cliques_26 : decode cX8_cliques 26 = .ok (.aload_n 0, 1) := by decide +kernel
theorem dX8_cliques_27 : decode cX8_cliques 27 = .ok (.getfield 23, 3) := by decide +kernel
theorem dX8_cliques_30 : decode cX8_cliques 30 = .ok (.iload_n 3, 1) := by decide +kernel
theorem dX8_cliques_31 : decode cX8_cliques 31 = .ok (.iaload, 1) := by decide +kernel
theorem dX8_cliques_32 : decode cX8_cliques 32 = .ok (.iand, 1) := by decide +kernel
theorem dX8_cliques_33 : decode cX8_cliques 33 = .ok (.iconst 1, 1) := by decide +kernel
theorem dX8_cliques_34 : decode cX8_cliques 34 = .ok (.iload_n 3, 1) := by decide +kernel
theorem dX8_cliques_35 : decode cX8_cliques 35 = .ok (.iconst 1, 1) := by decide +kernel
theorem dX8_cliques_36 : decode cX8_cliques 36 = .ok (.iadd, 1) := by decide +kernel
theorem dX8_cliques_37 : decode cX8_cliques 37 = .ok (.ishl, 1) := by decide +kernel
theorem dX8_cliques_38 : decode cX8_cliques 38 = .ok (.ineg, 1) := by decide +kernel
theorem dX8_cliques_39 : decode cX8_cliques 39 = .ok (.iand, 1) := by decide +kernel
theorem dX8_cliques_40 : decode cX8_cliques 40 = .ok (.istore 4, 2) := by decide +kernel
theorem dX8_cliques_42 : decode cX8_cliques 42 = .ok (.iload_n 1, 1) := by decide +kernel
theorem dX8_cliques_43 : decode cX8_cliques 43 = .ok (.aload_n 0, 1) := by decide +kernel
theorem dX8_cliques_44 : decode cX8_cliques 44 = .ok (.getfield 23, 3) := by decide +kernel
theorem dX8_cliques_47 : decode cX8_cliques 47 = .ok (.iload_n 2, 1) := by decide +kernel
theorem dX8_cliques_48 : decode cX8_cliques 48 = .ok (.iaload, 1) := by decide +kernel
theorem dX8_cliques_49 : decode cX8_cliques 49 = .ok (.iload_n 3, 1) := by decide +kernel
theorem dX8_cliques_50 : decode cX8_cliques 50 = .ok (.ishr, 1) := by decide +kernel
theorem dX8_cliques_51 : decode cX8_cliques 51 = .ok (.iconst 1, 1) := by decide +kernel
theorem dX8_cliques_52 : decode cX8_cliques 52 = .ok (.iand, 1) := by decide +kernel
theorem dX8_cliques_53 : decode cX8_cliques 53 = .ok (.iconst 1, 1) := by decide +kernel
theorem dX8_cliques_54 : decode cX8_cliques 54 = .ok (.if_icmp .ne 11, 3) := by decide +kernel
theorem dX8_cliques_57 : decode cX8_cliques 57 = .ok (.iload 4, 2) := by decide +kernel
theorem dX8_cliques_59 : decode cX8_cliques 59 = .ok (.invokestatic 63, 3) := by decide +kernel
theorem dX8_cliques_62 : decode cX8_cliques 62 = .ok (.goto 4, 3) := by decide +kernel
theorem dX8_cliques_65 : decode cX8_cliques 65 = .ok (.iconst 0, 1) := by decide +kernel
theorem dX8_cliques_66 : decode cX8_cliques 66 = .ok (.iadd, 1) := by decide +kernel
theorem dX8_cliques_67 : decode cX8_cliques 67 = .ok (.istore_n 1, 1) := by decide +kernel
theorem dX8_cliques_68 : decode cX8_cliques 68 = .ok (.iinc 3 1, 3) := by decide +kernel
theorem dX8_cliques_71 : decode cX8_cliques 71 = .ok (.goto (-57), 3) := by decide +kernel
theorem dX8_cliques_74 : decode cX8_cliques 74 = .ok (.iinc 2 1, 3) := by decide +kernel
theorem dX8_cliques_77 : decode cX8_cliques 77 = .ok (.goto (-73), 3) := by decide +kernel
theorem dX8_cliques_80 : decode cX8_cliques 80 = .ok (.iload_n 1, 1) := by decide +kernel
theorem dX8_cliques_81 : decode cX8_cliques 81 = .ok (.ireturn, 1) := by decide +kernel
theorem dX8_net_0 : decode cX8_net 0 = .ok (.iload_n 1, 1) := by decide +kernel
theorem dX8_net_1 : decode cX8_net 1 = .ok (.i2l, 1) := by decide +kernel
theorem dX8_net_2 : decode cX8_net 2 = .ok (.lconst 0, 1) := by decide +kernel
theorem dX8_net_3 : decode cX8_net 3 = .ok (.ldc2_w 352, 3) := by decide +kernel
theorem dX8_net_6 : decode cX8_net 6 = .ok (.invokestatic 77, 3) := by decide +kernel
theorem dX8_net_9 : decode cX8_net 9 = .ok (.ifCond .ne 6, 3) := by decide +kernel
theorem dX8_net_12 : decode cX8_net 12 = .ok (.bipush (-2), 2) := by decide +kernel
theorem dX8_net_14 : decode cX8_net 14 = .ok (.ireturn, 1) := by decide +kernel
theorem dX8_net_15 : decode cX8_net 15 = .ok (.iconst 0, 1) := by decide +kernel
theorem dX8_net_16 : decode cX8_net 16 = .ok (.istore_n 2, 1) := by decide +kernel
theorem dX8_net_17 : decode cX8_net 17 = .ok (.iconst 1, 1) := by decide +kernel
theorem dX8_net_18 : decode cX8_net 18 = .ok (.istore_n 3, 1) := by decide +kernel
theorem dX8_net_19 : decode cX8_net 19 = .ok (.iload_n 3, 1) := by decide +kernel
theorem dX8_net_20 : decode cX8_net 20 = .ok (.bipush 12, 2) := by decide +kernel
theorem dX8_net_22 : decode cX8_net 22 = .ok (.if_icmp .ge 36, 3) := by decide +kernel
theorem dX8_net_25 : decode cX8_net 25 = .ok (.aload_n 0, 1) := by decide +kernel
theorem dX8_net_26 : decode cX8_net 26 = .ok (.getfield 23, 3) := by decide +kernel
theorem dX8_net_29 : decode cX8_net 29 = .ok (.iload_n 3, 1) := by decide +kernel
theorem dX8_net_30 : decode cX8_net 30 = .ok (.iaload, 1) := by decide +kernel
theorem dX8_net_31 : decode cX8_net 31 = .ok (.invokestatic 63, 3) := by decide +kernel
theorem dX8_net_34 : decode cX8_net 34 = .ok (.aload_n 0, 1) := by decide +kernel
theorem dX8_net_35 : decode cX8_net 35 = .ok (.getfield 23, 3) := by decide +kernel
theorem dX8_net_38 : decode cX8_net 38 = .ok (.iload_n 2, 1) := by decide +kernel
theorem dX8_net_39 : decode cX8_net 39 = .ok (.iaload, 1) := by decide +kernel
theorem dX8_net_40 : decode cX8_net 40 = .ok (.invokestatic 63, 3) := by decide +kernel
theorem dX8_net_43 : decode cX8_net 43 = .ok (.if_icmp .le 7, 3) := by decide +kernel
theorem dX8_net_46 : decode cX8_net 46 = .ok (.iload_n 3, 1) := by decide +kernel
theorem dX8_net_47 : decode cX8_net 47 = .ok (.goto 4, 3) := by decide +kernel
